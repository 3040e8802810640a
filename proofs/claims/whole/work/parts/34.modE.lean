
def gcE : Nat → Int64 → Int64 → Prop
  | 0, _, b => b = 0
  | k + 1, a, b => b = 0 ∨ gcE k b (a - a / b * b)
def TnM (n : Nat) (Bm : Nat → Nat → Nat → Int32) (m v : Nat) : Nat → Int64 := taM n (fun j i => (ceM n (Bm (bkM m v i)) i j).toInt64)
def rdM (n : Nat) (ta : Nat → Int64) (wo : Int64) (hh : Nat → Int64) (i : Nat) : Int64 := if wo < 0 then -(dtM (tsM n ta i hh)) else dtM (tsM n ta i hh)
def smG : Nat → (Nat → Nat → Int64) → (Nat → Int64) → Nat → Int64
  | 0, _, _, _ => 0
  | m + 1, f, ro, s => smG m f ro s + f m (if s = 1 then 1 else sdX (ro m) s) * ro m
theorem com_loop {G : mS → Prop} (hT : mTb G tbX3_common) {w : mW} {a b : Int64} : ∀ (k : Nat) (x y c : Int64), gcE k x y → mRet G (some (.long (gcX k x y))) w [44] →
    G (17, [(6, .long y), (4, .long x), (8, .long c), (0, .long a), (2, .long b)], [], w)
  | 0, x, y, c, h, hR => by
    refine mB hT 4 rfl ?_
    refine mIf (fun _ => ?_) (fun q => absurd (lc_eq.mpr h) q)
    refine mB hT 1 rfl ?_
    exact hR _ (by decide) _ _ _ rfl rfl
  | k + 1, x, y, c, h, hR => by
    refine mB hT 4 rfl ?_
    refine mIf (fun q => ?_) (fun q => ?_)
    · refine mB hT 1 rfl ?_
      exact hR _ (by decide) _ _ _ (congrArg (fun z => [Value.long z]) (if_pos (lc_eq.mp q)).symm) rfl
    · have hy : ¬ y = 0 := fun e => q (lc_eq.mpr e)
      refine mB hT 2 rfl ?_
      refine mDiv hT (List.mem_of_getElem? (i := 17) rfl) hy ?_
      refine mB hT 6 rfl ?_
      have e : gcX (k + 1) x y = gcX k y (x - x / y * y) := if_neg hy
      rw [e] at hR
      exact com_loop hT k y _ _ (h.resolve_left hy) hR

section
variable {l : Launch} {D : va_G} {ca : Nat → ClassId} {ad : Nat → Nat}

theorem m_common {w : mW} {a b : Int64} (k : Nat) (h : gcE k (absX a) b) : KX3_common l D ca ad [.long a, .long b] w (some (.long (gcX k (absX a) b))) w := by
  refine PX3_common (Nat.le_of_ble_eq_true rfl) ?_
  intro G hT hC hR
  have on : ∀ x : Int64, absX a = x → G (12, [(0, .long a), (2, .long b)], [.long x], w) := by
    intro x ex
    rw [ex] at h hR
    refine mB hT 7 rfl ?_
    refine mIf (fun q => ?_) (fun q => ?_)
    · refine mB hT 1 rfl ?_
      refine hR _ (by decide) _ _ _ (congrArg (fun z => [Value.long z]) ?_) rfl
      cases k with
      | zero => rfl
      | succ k => exact (if_pos (lc_eq.mp q)).symm
    · have hy : ¬ b = 0 := fun e => q (lc_eq.mpr e)
      cases k with
      | zero => exact absurd h hy
      | succ k =>
        refine mB hT 2 rfl ?_
        refine mDiv hT (List.mem_of_getElem? (i := 17) rfl) hy ?_
        refine mB hT 6 rfl ?_
        have e : gcX (k + 1) x b = gcX k b (x - x / b * b) := if_neg hy
        rw [e] at hR
        exact com_loop hT k b _ _ (h.resolve_left hy) hR
  refine mB hT 4 rfl ?_
  refine mIf (fun q => ?_) (fun q => ?_)
  · refine mB hT 1 rfl ?_
    exact on a (if_neg (Int64.not_lt.mpr (lc_ge.mp q)))
  · refine mB hT 3 rfl ?_
    exact on (-a) (if_pos (Int64.not_le.mp (fun z => q (lc_ge.mpr z))))
set_option maxRecDepth 20000 in
theorem m_floor {w : mW} {a b : Int64} (hne : ¬ b = 0) : KX3_floor l D ca ad [.long a, .long b] w (some (.long (flM a b))) w := by
  refine PX3_floor (Nat.le_of_ble_eq_true rfl) ?_
  intro G hT hC hR
  refine mB hT 2 rfl ?_
  refine mDiv hT (List.mem_of_getElem? (i := 2) rfl) hne ?_
  refine mB hT 3 rfl ?_
  refine mDiv hT (List.mem_of_getElem? (i := 6) rfl) hne ?_
  refine mB hT 3 rfl ?_
  refine mIf (fun h1 => ?_) (fun h1 => ?_)
  · refine mB hT 1 rfl ?_
    exact hR _ (by decide) _ _ _ (congrArg (fun z => [Value.long z]) (if_neg (Int64.not_lt.mpr (lc_ge.mp h1))).symm) rfl
  · refine mB hT 4 rfl ?_
    exact hR _ (by decide) _ _ _ (congrArg (fun z => [Value.long z]) (if_pos (Int64.not_le.mp (fun q => h1 (lc_ge.mpr q)))).symm) rfl
set_option maxRecDepth 20000 in
theorem m_th {w : mW} {a b : Int64} (hne : ¬ b = 0) : KX3_thousandths l D ca ad [.long a, .long b] w (some (.long (thM a b))) w := by
  refine PX3_thousandths (Nat.le_of_ble_eq_true rfl) ?_
  intro G hT hC hR
  refine mB hT 2 rfl ?_
  refine hC.1 _ [_, _] _ _ _ _ (m_floor hne) rfl (Nat.le_of_ble_eq_true rfl) rfl ?_
  refine mB hT 12 rfl ?_
  refine hC.2 _ [_, _] _ _ _ _ (m_floor hne) rfl (Nat.le_of_ble_eq_true rfl) rfl ?_
  refine mB hT 1 rfl ?_
  exact hR _ (by decide) _ _ _ rfl rfl
set_option maxRecDepth 20000 in
theorem m_em_0_0_0_0 {n vs : Int32} {wo un h : Int64} {bo : Nat → Int32} {ta tr ro ot : Nat → Int64} {Bm : Nat → Nat → Nat → Int32} {bk : Nat → Nat → Int32} : KX3_emission l D ca ad [.ref 0, .int 0, .int 0, .int 0] (MW n vs wo un h (up bo 0 0) ta tr ro ot Bm bk) (some (.long (emM (Bm 0 0) 0 0))) (MW n vs wo un h (up bo 0 0) ta tr ro ot Bm bk) := by
  refine PX3_emission (Nat.le_of_ble_eq_true rfl) ?_
  intro G hT hC hR
  refine mB hT 26 rfl ?_
  refine hC _ 0 [_, _] _ _ _ _ _ (m_main_0_0) rfl rfl (Nat.le_of_ble_eq_true rfl) rfl ?_
  refine mB hT 2 rfl ?_
  exact hR _ (by decide) _ _ _ rfl rfl
set_option maxRecDepth 20000 in
theorem m_em_0_0_0_1 {n vs : Int32} {wo un h : Int64} {bo : Nat → Int32} {ta tr ro ot : Nat → Int64} {Bm : Nat → Nat → Nat → Int32} {bk : Nat → Nat → Int32} : KX3_emission l D ca ad [.ref 0, .int 0, .int 0, .int 1] (MW n vs wo un h (up bo 0 0) ta tr ro ot Bm bk) (some (.long (emM (Bm 0 0) 0 1))) (MW n vs wo un h (up bo 0 0) ta tr ro ot Bm bk) := by
  refine PX3_emission (Nat.le_of_ble_eq_true rfl) ?_
  intro G hT hC hR
  refine mB hT 26 rfl ?_
  refine hC _ 0 [_, _] _ _ _ _ _ (m_main_0_0) rfl rfl (Nat.le_of_ble_eq_true rfl) rfl ?_
  refine mB hT 2 rfl ?_
  exact hR _ (by decide) _ _ _ rfl rfl
set_option maxRecDepth 20000 in
theorem m_em_0_0_0_2 {n vs : Int32} {wo un h : Int64} {bo : Nat → Int32} {ta tr ro ot : Nat → Int64} {Bm : Nat → Nat → Nat → Int32} {bk : Nat → Nat → Int32} : KX3_emission l D ca ad [.ref 0, .int 0, .int 0, .int 2] (MW n vs wo un h (up bo 0 0) ta tr ro ot Bm bk) (some (.long (emM (Bm 0 0) 0 2))) (MW n vs wo un h (up bo 0 0) ta tr ro ot Bm bk) := by
  refine PX3_emission (Nat.le_of_ble_eq_true rfl) ?_
  intro G hT hC hR
  refine mB hT 26 rfl ?_
  refine hC _ 0 [_, _] _ _ _ _ _ (m_main_0_0) rfl rfl (Nat.le_of_ble_eq_true rfl) rfl ?_
  refine mB hT 2 rfl ?_
  exact hR _ (by decide) _ _ _ rfl rfl
set_option maxRecDepth 20000 in
theorem m_em_0_0_1_0 {n vs : Int32} {wo un h : Int64} {bo : Nat → Int32} {ta tr ro ot : Nat → Int64} {Bm : Nat → Nat → Nat → Int32} {bk : Nat → Nat → Int32} : KX3_emission l D ca ad [.ref 0, .int 0, .int 1, .int 0] (MW n vs wo un h (up bo 0 0) ta tr ro ot Bm bk) (some (.long (emM (Bm 0 0) 1 0))) (MW n vs wo un h (up bo 0 0) ta tr ro ot Bm bk) := by
  refine PX3_emission (Nat.le_of_ble_eq_true rfl) ?_
  intro G hT hC hR
  refine mB hT 26 rfl ?_
  refine hC _ 0 [_, _] _ _ _ _ _ (m_main_0_0) rfl rfl (Nat.le_of_ble_eq_true rfl) rfl ?_
  refine mB hT 2 rfl ?_
  exact hR _ (by decide) _ _ _ rfl rfl
set_option maxRecDepth 20000 in
theorem m_em_0_0_1_1 {n vs : Int32} {wo un h : Int64} {bo : Nat → Int32} {ta tr ro ot : Nat → Int64} {Bm : Nat → Nat → Nat → Int32} {bk : Nat → Nat → Int32} : KX3_emission l D ca ad [.ref 0, .int 0, .int 1, .int 1] (MW n vs wo un h (up bo 0 0) ta tr ro ot Bm bk) (some (.long (emM (Bm 0 0) 1 1))) (MW n vs wo un h (up bo 0 0) ta tr ro ot Bm bk) := by
  refine PX3_emission (Nat.le_of_ble_eq_true rfl) ?_
  intro G hT hC hR
  refine mB hT 26 rfl ?_
  refine hC _ 0 [_, _] _ _ _ _ _ (m_main_0_0) rfl rfl (Nat.le_of_ble_eq_true rfl) rfl ?_
  refine mB hT 2 rfl ?_
  exact hR _ (by decide) _ _ _ rfl rfl
set_option maxRecDepth 20000 in
theorem m_em_0_0_1_2 {n vs : Int32} {wo un h : Int64} {bo : Nat → Int32} {ta tr ro ot : Nat → Int64} {Bm : Nat → Nat → Nat → Int32} {bk : Nat → Nat → Int32} : KX3_emission l D ca ad [.ref 0, .int 0, .int 1, .int 2] (MW n vs wo un h (up bo 0 0) ta tr ro ot Bm bk) (some (.long (emM (Bm 0 0) 1 2))) (MW n vs wo un h (up bo 0 0) ta tr ro ot Bm bk) := by
  refine PX3_emission (Nat.le_of_ble_eq_true rfl) ?_
  intro G hT hC hR
  refine mB hT 26 rfl ?_
  refine hC _ 0 [_, _] _ _ _ _ _ (m_main_0_0) rfl rfl (Nat.le_of_ble_eq_true rfl) rfl ?_
  refine mB hT 2 rfl ?_
  exact hR _ (by decide) _ _ _ rfl rfl
set_option maxRecDepth 20000 in
theorem m_em_0_0_2_0 {n vs : Int32} {wo un h : Int64} {bo : Nat → Int32} {ta tr ro ot : Nat → Int64} {Bm : Nat → Nat → Nat → Int32} {bk : Nat → Nat → Int32} : KX3_emission l D ca ad [.ref 0, .int 0, .int 2, .int 0] (MW n vs wo un h (up bo 0 0) ta tr ro ot Bm bk) (some (.long (emM (Bm 0 0) 2 0))) (MW n vs wo un h (up bo 0 0) ta tr ro ot Bm bk) := by
  refine PX3_emission (Nat.le_of_ble_eq_true rfl) ?_
  intro G hT hC hR
  refine mB hT 26 rfl ?_
  refine hC _ 0 [_, _] _ _ _ _ _ (m_main_0_0) rfl rfl (Nat.le_of_ble_eq_true rfl) rfl ?_
  refine mB hT 2 rfl ?_
  exact hR _ (by decide) _ _ _ rfl rfl
set_option maxRecDepth 20000 in
theorem m_em_0_0_2_1 {n vs : Int32} {wo un h : Int64} {bo : Nat → Int32} {ta tr ro ot : Nat → Int64} {Bm : Nat → Nat → Nat → Int32} {bk : Nat → Nat → Int32} : KX3_emission l D ca ad [.ref 0, .int 0, .int 2, .int 1] (MW n vs wo un h (up bo 0 0) ta tr ro ot Bm bk) (some (.long (emM (Bm 0 0) 2 1))) (MW n vs wo un h (up bo 0 0) ta tr ro ot Bm bk) := by
  refine PX3_emission (Nat.le_of_ble_eq_true rfl) ?_
  intro G hT hC hR
  refine mB hT 26 rfl ?_
  refine hC _ 0 [_, _] _ _ _ _ _ (m_main_0_0) rfl rfl (Nat.le_of_ble_eq_true rfl) rfl ?_
  refine mB hT 2 rfl ?_
  exact hR _ (by decide) _ _ _ rfl rfl
set_option maxRecDepth 20000 in
theorem m_em_0_0_2_2 {n vs : Int32} {wo un h : Int64} {bo : Nat → Int32} {ta tr ro ot : Nat → Int64} {Bm : Nat → Nat → Nat → Int32} {bk : Nat → Nat → Int32} : KX3_emission l D ca ad [.ref 0, .int 0, .int 2, .int 2] (MW n vs wo un h (up bo 0 0) ta tr ro ot Bm bk) (some (.long (emM (Bm 0 0) 2 2))) (MW n vs wo un h (up bo 0 0) ta tr ro ot Bm bk) := by
  refine PX3_emission (Nat.le_of_ble_eq_true rfl) ?_
  intro G hT hC hR
  refine mB hT 26 rfl ?_
  refine hC _ 0 [_, _] _ _ _ _ _ (m_main_0_0) rfl rfl (Nat.le_of_ble_eq_true rfl) rfl ?_
  refine mB hT 2 rfl ?_
  exact hR _ (by decide) _ _ _ rfl rfl
theorem m_em_0_0 {n vs : Int32} {wo un h : Int64} {bo : Nat → Int32} {ta tr ro ot : Nat → Int64} {Bm : Nat → Nat → Nat → Int32} {bk : Nat → Nat → Int32} (k s : Nat) (hk : k < 3) (hs : s < 3) : KX3_emission l D ca ad [.ref 0, .int 0, .int (Int32.ofNat k), .int (Int32.ofNat s)] (MW n vs wo un h (up bo 0 0) ta tr ro ot Bm bk) (some (.long (emM (Bm 0 0) k s))) (MW n vs wo un h (up bo 0 0) ta tr ro ot Bm bk) := by
  match k, hk, s, hs with
  | 0, _, 0, _ => exact m_em_0_0_0_0
  | 0, _, 1, _ => exact m_em_0_0_0_1
  | 0, _, 2, _ => exact m_em_0_0_0_2
  | 1, _, 0, _ => exact m_em_0_0_1_0
  | 1, _, 1, _ => exact m_em_0_0_1_1
  | 1, _, 2, _ => exact m_em_0_0_1_2
  | 2, _, 0, _ => exact m_em_0_0_2_0
  | 2, _, 1, _ => exact m_em_0_0_2_1
  | 2, _, 2, _ => exact m_em_0_0_2_2
set_option maxRecDepth 20000 in
theorem m_em_0_1_0_0 {n vs : Int32} {wo un h : Int64} {bo : Nat → Int32} {ta tr ro ot : Nat → Int64} {Bm : Nat → Nat → Nat → Int32} {bk : Nat → Nat → Int32} : KX3_emission l D ca ad [.ref 0, .int 1, .int 0, .int 0] (MW n vs wo un h (up bo 1 0) ta tr ro ot Bm bk) (some (.long (emM (Bm 0 1) 0 0))) (MW n vs wo un h (up bo 1 0) ta tr ro ot Bm bk) := by
  refine PX3_emission (Nat.le_of_ble_eq_true rfl) ?_
  intro G hT hC hR
  refine mB hT 26 rfl ?_
  refine hC _ 0 [_, _] _ _ _ _ _ (m_main_0_1) rfl rfl (Nat.le_of_ble_eq_true rfl) rfl ?_
  refine mB hT 2 rfl ?_
  exact hR _ (by decide) _ _ _ rfl rfl
set_option maxRecDepth 20000 in
theorem m_em_0_1_0_1 {n vs : Int32} {wo un h : Int64} {bo : Nat → Int32} {ta tr ro ot : Nat → Int64} {Bm : Nat → Nat → Nat → Int32} {bk : Nat → Nat → Int32} : KX3_emission l D ca ad [.ref 0, .int 1, .int 0, .int 1] (MW n vs wo un h (up bo 1 0) ta tr ro ot Bm bk) (some (.long (emM (Bm 0 1) 0 1))) (MW n vs wo un h (up bo 1 0) ta tr ro ot Bm bk) := by
  refine PX3_emission (Nat.le_of_ble_eq_true rfl) ?_
  intro G hT hC hR
  refine mB hT 26 rfl ?_
  refine hC _ 0 [_, _] _ _ _ _ _ (m_main_0_1) rfl rfl (Nat.le_of_ble_eq_true rfl) rfl ?_
  refine mB hT 2 rfl ?_
  exact hR _ (by decide) _ _ _ rfl rfl
set_option maxRecDepth 20000 in
theorem m_em_0_1_0_2 {n vs : Int32} {wo un h : Int64} {bo : Nat → Int32} {ta tr ro ot : Nat → Int64} {Bm : Nat → Nat → Nat → Int32} {bk : Nat → Nat → Int32} : KX3_emission l D ca ad [.ref 0, .int 1, .int 0, .int 2] (MW n vs wo un h (up bo 1 0) ta tr ro ot Bm bk) (some (.long (emM (Bm 0 1) 0 2))) (MW n vs wo un h (up bo 1 0) ta tr ro ot Bm bk) := by
  refine PX3_emission (Nat.le_of_ble_eq_true rfl) ?_
  intro G hT hC hR
  refine mB hT 26 rfl ?_
  refine hC _ 0 [_, _] _ _ _ _ _ (m_main_0_1) rfl rfl (Nat.le_of_ble_eq_true rfl) rfl ?_
  refine mB hT 2 rfl ?_
  exact hR _ (by decide) _ _ _ rfl rfl
set_option maxRecDepth 20000 in
theorem m_em_0_1_1_0 {n vs : Int32} {wo un h : Int64} {bo : Nat → Int32} {ta tr ro ot : Nat → Int64} {Bm : Nat → Nat → Nat → Int32} {bk : Nat → Nat → Int32} : KX3_emission l D ca ad [.ref 0, .int 1, .int 1, .int 0] (MW n vs wo un h (up bo 1 0) ta tr ro ot Bm bk) (some (.long (emM (Bm 0 1) 1 0))) (MW n vs wo un h (up bo 1 0) ta tr ro ot Bm bk) := by
  refine PX3_emission (Nat.le_of_ble_eq_true rfl) ?_
  intro G hT hC hR
  refine mB hT 26 rfl ?_
  refine hC _ 0 [_, _] _ _ _ _ _ (m_main_0_1) rfl rfl (Nat.le_of_ble_eq_true rfl) rfl ?_
  refine mB hT 2 rfl ?_
  exact hR _ (by decide) _ _ _ rfl rfl
set_option maxRecDepth 20000 in
theorem m_em_0_1_1_1 {n vs : Int32} {wo un h : Int64} {bo : Nat → Int32} {ta tr ro ot : Nat → Int64} {Bm : Nat → Nat → Nat → Int32} {bk : Nat → Nat → Int32} : KX3_emission l D ca ad [.ref 0, .int 1, .int 1, .int 1] (MW n vs wo un h (up bo 1 0) ta tr ro ot Bm bk) (some (.long (emM (Bm 0 1) 1 1))) (MW n vs wo un h (up bo 1 0) ta tr ro ot Bm bk) := by
  refine PX3_emission (Nat.le_of_ble_eq_true rfl) ?_
  intro G hT hC hR
  refine mB hT 26 rfl ?_
  refine hC _ 0 [_, _] _ _ _ _ _ (m_main_0_1) rfl rfl (Nat.le_of_ble_eq_true rfl) rfl ?_
  refine mB hT 2 rfl ?_
  exact hR _ (by decide) _ _ _ rfl rfl
set_option maxRecDepth 20000 in
theorem m_em_0_1_1_2 {n vs : Int32} {wo un h : Int64} {bo : Nat → Int32} {ta tr ro ot : Nat → Int64} {Bm : Nat → Nat → Nat → Int32} {bk : Nat → Nat → Int32} : KX3_emission l D ca ad [.ref 0, .int 1, .int 1, .int 2] (MW n vs wo un h (up bo 1 0) ta tr ro ot Bm bk) (some (.long (emM (Bm 0 1) 1 2))) (MW n vs wo un h (up bo 1 0) ta tr ro ot Bm bk) := by
  refine PX3_emission (Nat.le_of_ble_eq_true rfl) ?_
  intro G hT hC hR
  refine mB hT 26 rfl ?_
  refine hC _ 0 [_, _] _ _ _ _ _ (m_main_0_1) rfl rfl (Nat.le_of_ble_eq_true rfl) rfl ?_
  refine mB hT 2 rfl ?_
  exact hR _ (by decide) _ _ _ rfl rfl
set_option maxRecDepth 20000 in
theorem m_em_0_1_2_0 {n vs : Int32} {wo un h : Int64} {bo : Nat → Int32} {ta tr ro ot : Nat → Int64} {Bm : Nat → Nat → Nat → Int32} {bk : Nat → Nat → Int32} : KX3_emission l D ca ad [.ref 0, .int 1, .int 2, .int 0] (MW n vs wo un h (up bo 1 0) ta tr ro ot Bm bk) (some (.long (emM (Bm 0 1) 2 0))) (MW n vs wo un h (up bo 1 0) ta tr ro ot Bm bk) := by
  refine PX3_emission (Nat.le_of_ble_eq_true rfl) ?_
  intro G hT hC hR
  refine mB hT 26 rfl ?_
  refine hC _ 0 [_, _] _ _ _ _ _ (m_main_0_1) rfl rfl (Nat.le_of_ble_eq_true rfl) rfl ?_
  refine mB hT 2 rfl ?_
  exact hR _ (by decide) _ _ _ rfl rfl
set_option maxRecDepth 20000 in
theorem m_em_0_1_2_1 {n vs : Int32} {wo un h : Int64} {bo : Nat → Int32} {ta tr ro ot : Nat → Int64} {Bm : Nat → Nat → Nat → Int32} {bk : Nat → Nat → Int32} : KX3_emission l D ca ad [.ref 0, .int 1, .int 2, .int 1] (MW n vs wo un h (up bo 1 0) ta tr ro ot Bm bk) (some (.long (emM (Bm 0 1) 2 1))) (MW n vs wo un h (up bo 1 0) ta tr ro ot Bm bk) := by
  refine PX3_emission (Nat.le_of_ble_eq_true rfl) ?_
  intro G hT hC hR
  refine mB hT 26 rfl ?_
  refine hC _ 0 [_, _] _ _ _ _ _ (m_main_0_1) rfl rfl (Nat.le_of_ble_eq_true rfl) rfl ?_
  refine mB hT 2 rfl ?_
  exact hR _ (by decide) _ _ _ rfl rfl
set_option maxRecDepth 20000 in
theorem m_em_0_1_2_2 {n vs : Int32} {wo un h : Int64} {bo : Nat → Int32} {ta tr ro ot : Nat → Int64} {Bm : Nat → Nat → Nat → Int32} {bk : Nat → Nat → Int32} : KX3_emission l D ca ad [.ref 0, .int 1, .int 2, .int 2] (MW n vs wo un h (up bo 1 0) ta tr ro ot Bm bk) (some (.long (emM (Bm 0 1) 2 2))) (MW n vs wo un h (up bo 1 0) ta tr ro ot Bm bk) := by
  refine PX3_emission (Nat.le_of_ble_eq_true rfl) ?_
  intro G hT hC hR
  refine mB hT 26 rfl ?_
  refine hC _ 0 [_, _] _ _ _ _ _ (m_main_0_1) rfl rfl (Nat.le_of_ble_eq_true rfl) rfl ?_
  refine mB hT 2 rfl ?_
  exact hR _ (by decide) _ _ _ rfl rfl
theorem m_em_0_1 {n vs : Int32} {wo un h : Int64} {bo : Nat → Int32} {ta tr ro ot : Nat → Int64} {Bm : Nat → Nat → Nat → Int32} {bk : Nat → Nat → Int32} (k s : Nat) (hk : k < 3) (hs : s < 3) : KX3_emission l D ca ad [.ref 0, .int 1, .int (Int32.ofNat k), .int (Int32.ofNat s)] (MW n vs wo un h (up bo 1 0) ta tr ro ot Bm bk) (some (.long (emM (Bm 0 1) k s))) (MW n vs wo un h (up bo 1 0) ta tr ro ot Bm bk) := by
  match k, hk, s, hs with
  | 0, _, 0, _ => exact m_em_0_1_0_0
  | 0, _, 1, _ => exact m_em_0_1_0_1
  | 0, _, 2, _ => exact m_em_0_1_0_2
  | 1, _, 0, _ => exact m_em_0_1_1_0
  | 1, _, 1, _ => exact m_em_0_1_1_1
  | 1, _, 2, _ => exact m_em_0_1_1_2
  | 2, _, 0, _ => exact m_em_0_1_2_0
  | 2, _, 1, _ => exact m_em_0_1_2_1
  | 2, _, 2, _ => exact m_em_0_1_2_2
set_option maxRecDepth 20000 in
theorem m_em_0_2_0_0 {n vs : Int32} {wo un h : Int64} {bo : Nat → Int32} {ta tr ro ot : Nat → Int64} {Bm : Nat → Nat → Nat → Int32} {bk : Nat → Nat → Int32} : KX3_emission l D ca ad [.ref 0, .int 2, .int 0, .int 0] (MW n vs wo un h (up bo 2 0) ta tr ro ot Bm bk) (some (.long (emM (Bm 0 2) 0 0))) (MW n vs wo un h (up bo 2 0) ta tr ro ot Bm bk) := by
  refine PX3_emission (Nat.le_of_ble_eq_true rfl) ?_
  intro G hT hC hR
  refine mB hT 26 rfl ?_
  refine hC _ 0 [_, _] _ _ _ _ _ (m_main_0_2) rfl rfl (Nat.le_of_ble_eq_true rfl) rfl ?_
  refine mB hT 2 rfl ?_
  exact hR _ (by decide) _ _ _ rfl rfl
set_option maxRecDepth 20000 in
theorem m_em_0_2_0_1 {n vs : Int32} {wo un h : Int64} {bo : Nat → Int32} {ta tr ro ot : Nat → Int64} {Bm : Nat → Nat → Nat → Int32} {bk : Nat → Nat → Int32} : KX3_emission l D ca ad [.ref 0, .int 2, .int 0, .int 1] (MW n vs wo un h (up bo 2 0) ta tr ro ot Bm bk) (some (.long (emM (Bm 0 2) 0 1))) (MW n vs wo un h (up bo 2 0) ta tr ro ot Bm bk) := by
  refine PX3_emission (Nat.le_of_ble_eq_true rfl) ?_
  intro G hT hC hR
  refine mB hT 26 rfl ?_
  refine hC _ 0 [_, _] _ _ _ _ _ (m_main_0_2) rfl rfl (Nat.le_of_ble_eq_true rfl) rfl ?_
  refine mB hT 2 rfl ?_
  exact hR _ (by decide) _ _ _ rfl rfl
set_option maxRecDepth 20000 in
theorem m_em_0_2_0_2 {n vs : Int32} {wo un h : Int64} {bo : Nat → Int32} {ta tr ro ot : Nat → Int64} {Bm : Nat → Nat → Nat → Int32} {bk : Nat → Nat → Int32} : KX3_emission l D ca ad [.ref 0, .int 2, .int 0, .int 2] (MW n vs wo un h (up bo 2 0) ta tr ro ot Bm bk) (some (.long (emM (Bm 0 2) 0 2))) (MW n vs wo un h (up bo 2 0) ta tr ro ot Bm bk) := by
  refine PX3_emission (Nat.le_of_ble_eq_true rfl) ?_
  intro G hT hC hR
  refine mB hT 26 rfl ?_
  refine hC _ 0 [_, _] _ _ _ _ _ (m_main_0_2) rfl rfl (Nat.le_of_ble_eq_true rfl) rfl ?_
  refine mB hT 2 rfl ?_
  exact hR _ (by decide) _ _ _ rfl rfl
set_option maxRecDepth 20000 in
theorem m_em_0_2_1_0 {n vs : Int32} {wo un h : Int64} {bo : Nat → Int32} {ta tr ro ot : Nat → Int64} {Bm : Nat → Nat → Nat → Int32} {bk : Nat → Nat → Int32} : KX3_emission l D ca ad [.ref 0, .int 2, .int 1, .int 0] (MW n vs wo un h (up bo 2 0) ta tr ro ot Bm bk) (some (.long (emM (Bm 0 2) 1 0))) (MW n vs wo un h (up bo 2 0) ta tr ro ot Bm bk) := by
  refine PX3_emission (Nat.le_of_ble_eq_true rfl) ?_
  intro G hT hC hR
  refine mB hT 26 rfl ?_
  refine hC _ 0 [_, _] _ _ _ _ _ (m_main_0_2) rfl rfl (Nat.le_of_ble_eq_true rfl) rfl ?_
  refine mB hT 2 rfl ?_
  exact hR _ (by decide) _ _ _ rfl rfl
set_option maxRecDepth 20000 in
theorem m_em_0_2_1_1 {n vs : Int32} {wo un h : Int64} {bo : Nat → Int32} {ta tr ro ot : Nat → Int64} {Bm : Nat → Nat → Nat → Int32} {bk : Nat → Nat → Int32} : KX3_emission l D ca ad [.ref 0, .int 2, .int 1, .int 1] (MW n vs wo un h (up bo 2 0) ta tr ro ot Bm bk) (some (.long (emM (Bm 0 2) 1 1))) (MW n vs wo un h (up bo 2 0) ta tr ro ot Bm bk) := by
  refine PX3_emission (Nat.le_of_ble_eq_true rfl) ?_
  intro G hT hC hR
  refine mB hT 26 rfl ?_
  refine hC _ 0 [_, _] _ _ _ _ _ (m_main_0_2) rfl rfl (Nat.le_of_ble_eq_true rfl) rfl ?_
  refine mB hT 2 rfl ?_
  exact hR _ (by decide) _ _ _ rfl rfl
set_option maxRecDepth 20000 in
theorem m_em_0_2_1_2 {n vs : Int32} {wo un h : Int64} {bo : Nat → Int32} {ta tr ro ot : Nat → Int64} {Bm : Nat → Nat → Nat → Int32} {bk : Nat → Nat → Int32} : KX3_emission l D ca ad [.ref 0, .int 2, .int 1, .int 2] (MW n vs wo un h (up bo 2 0) ta tr ro ot Bm bk) (some (.long (emM (Bm 0 2) 1 2))) (MW n vs wo un h (up bo 2 0) ta tr ro ot Bm bk) := by
  refine PX3_emission (Nat.le_of_ble_eq_true rfl) ?_
  intro G hT hC hR
  refine mB hT 26 rfl ?_
  refine hC _ 0 [_, _] _ _ _ _ _ (m_main_0_2) rfl rfl (Nat.le_of_ble_eq_true rfl) rfl ?_
  refine mB hT 2 rfl ?_
  exact hR _ (by decide) _ _ _ rfl rfl
set_option maxRecDepth 20000 in
theorem m_em_0_2_2_0 {n vs : Int32} {wo un h : Int64} {bo : Nat → Int32} {ta tr ro ot : Nat → Int64} {Bm : Nat → Nat → Nat → Int32} {bk : Nat → Nat → Int32} : KX3_emission l D ca ad [.ref 0, .int 2, .int 2, .int 0] (MW n vs wo un h (up bo 2 0) ta tr ro ot Bm bk) (some (.long (emM (Bm 0 2) 2 0))) (MW n vs wo un h (up bo 2 0) ta tr ro ot Bm bk) := by
  refine PX3_emission (Nat.le_of_ble_eq_true rfl) ?_
  intro G hT hC hR
  refine mB hT 26 rfl ?_
  refine hC _ 0 [_, _] _ _ _ _ _ (m_main_0_2) rfl rfl (Nat.le_of_ble_eq_true rfl) rfl ?_
  refine mB hT 2 rfl ?_
  exact hR _ (by decide) _ _ _ rfl rfl
set_option maxRecDepth 20000 in
theorem m_em_0_2_2_1 {n vs : Int32} {wo un h : Int64} {bo : Nat → Int32} {ta tr ro ot : Nat → Int64} {Bm : Nat → Nat → Nat → Int32} {bk : Nat → Nat → Int32} : KX3_emission l D ca ad [.ref 0, .int 2, .int 2, .int 1] (MW n vs wo un h (up bo 2 0) ta tr ro ot Bm bk) (some (.long (emM (Bm 0 2) 2 1))) (MW n vs wo un h (up bo 2 0) ta tr ro ot Bm bk) := by
  refine PX3_emission (Nat.le_of_ble_eq_true rfl) ?_
  intro G hT hC hR
  refine mB hT 26 rfl ?_
  refine hC _ 0 [_, _] _ _ _ _ _ (m_main_0_2) rfl rfl (Nat.le_of_ble_eq_true rfl) rfl ?_
  refine mB hT 2 rfl ?_
  exact hR _ (by decide) _ _ _ rfl rfl
set_option maxRecDepth 20000 in
theorem m_em_0_2_2_2 {n vs : Int32} {wo un h : Int64} {bo : Nat → Int32} {ta tr ro ot : Nat → Int64} {Bm : Nat → Nat → Nat → Int32} {bk : Nat → Nat → Int32} : KX3_emission l D ca ad [.ref 0, .int 2, .int 2, .int 2] (MW n vs wo un h (up bo 2 0) ta tr ro ot Bm bk) (some (.long (emM (Bm 0 2) 2 2))) (MW n vs wo un h (up bo 2 0) ta tr ro ot Bm bk) := by
  refine PX3_emission (Nat.le_of_ble_eq_true rfl) ?_
  intro G hT hC hR
  refine mB hT 26 rfl ?_
  refine hC _ 0 [_, _] _ _ _ _ _ (m_main_0_2) rfl rfl (Nat.le_of_ble_eq_true rfl) rfl ?_
  refine mB hT 2 rfl ?_
  exact hR _ (by decide) _ _ _ rfl rfl
theorem m_em_0_2 {n vs : Int32} {wo un h : Int64} {bo : Nat → Int32} {ta tr ro ot : Nat → Int64} {Bm : Nat → Nat → Nat → Int32} {bk : Nat → Nat → Int32} (k s : Nat) (hk : k < 3) (hs : s < 3) : KX3_emission l D ca ad [.ref 0, .int 2, .int (Int32.ofNat k), .int (Int32.ofNat s)] (MW n vs wo un h (up bo 2 0) ta tr ro ot Bm bk) (some (.long (emM (Bm 0 2) k s))) (MW n vs wo un h (up bo 2 0) ta tr ro ot Bm bk) := by
  match k, hk, s, hs with
  | 0, _, 0, _ => exact m_em_0_2_0_0
  | 0, _, 1, _ => exact m_em_0_2_0_1
  | 0, _, 2, _ => exact m_em_0_2_0_2
  | 1, _, 0, _ => exact m_em_0_2_1_0
  | 1, _, 1, _ => exact m_em_0_2_1_1
  | 1, _, 2, _ => exact m_em_0_2_1_2
  | 2, _, 0, _ => exact m_em_0_2_2_0
  | 2, _, 1, _ => exact m_em_0_2_2_1
  | 2, _, 2, _ => exact m_em_0_2_2_2
set_option maxRecDepth 20000 in
theorem m_em_0_3_0_0 {n vs : Int32} {wo un h : Int64} {bo : Nat → Int32} {ta tr ro ot : Nat → Int64} {Bm : Nat → Nat → Nat → Int32} {bk : Nat → Nat → Int32} : KX3_emission l D ca ad [.ref 0, .int 3, .int 0, .int 0] (MW n vs wo un h (up bo 3 0) ta tr ro ot Bm bk) (some (.long (emM (Bm 0 3) 0 0))) (MW n vs wo un h (up bo 3 0) ta tr ro ot Bm bk) := by
  refine PX3_emission (Nat.le_of_ble_eq_true rfl) ?_
  intro G hT hC hR
  refine mB hT 26 rfl ?_
  refine hC _ 0 [_, _] _ _ _ _ _ (m_main_0_3) rfl rfl (Nat.le_of_ble_eq_true rfl) rfl ?_
  refine mB hT 2 rfl ?_
  exact hR _ (by decide) _ _ _ rfl rfl
set_option maxRecDepth 20000 in
theorem m_em_0_3_0_1 {n vs : Int32} {wo un h : Int64} {bo : Nat → Int32} {ta tr ro ot : Nat → Int64} {Bm : Nat → Nat → Nat → Int32} {bk : Nat → Nat → Int32} : KX3_emission l D ca ad [.ref 0, .int 3, .int 0, .int 1] (MW n vs wo un h (up bo 3 0) ta tr ro ot Bm bk) (some (.long (emM (Bm 0 3) 0 1))) (MW n vs wo un h (up bo 3 0) ta tr ro ot Bm bk) := by
  refine PX3_emission (Nat.le_of_ble_eq_true rfl) ?_
  intro G hT hC hR
  refine mB hT 26 rfl ?_
  refine hC _ 0 [_, _] _ _ _ _ _ (m_main_0_3) rfl rfl (Nat.le_of_ble_eq_true rfl) rfl ?_
  refine mB hT 2 rfl ?_
  exact hR _ (by decide) _ _ _ rfl rfl
set_option maxRecDepth 20000 in
theorem m_em_0_3_0_2 {n vs : Int32} {wo un h : Int64} {bo : Nat → Int32} {ta tr ro ot : Nat → Int64} {Bm : Nat → Nat → Nat → Int32} {bk : Nat → Nat → Int32} : KX3_emission l D ca ad [.ref 0, .int 3, .int 0, .int 2] (MW n vs wo un h (up bo 3 0) ta tr ro ot Bm bk) (some (.long (emM (Bm 0 3) 0 2))) (MW n vs wo un h (up bo 3 0) ta tr ro ot Bm bk) := by
  refine PX3_emission (Nat.le_of_ble_eq_true rfl) ?_
  intro G hT hC hR
  refine mB hT 26 rfl ?_
  refine hC _ 0 [_, _] _ _ _ _ _ (m_main_0_3) rfl rfl (Nat.le_of_ble_eq_true rfl) rfl ?_
  refine mB hT 2 rfl ?_
  exact hR _ (by decide) _ _ _ rfl rfl
set_option maxRecDepth 20000 in
theorem m_em_0_3_1_0 {n vs : Int32} {wo un h : Int64} {bo : Nat → Int32} {ta tr ro ot : Nat → Int64} {Bm : Nat → Nat → Nat → Int32} {bk : Nat → Nat → Int32} : KX3_emission l D ca ad [.ref 0, .int 3, .int 1, .int 0] (MW n vs wo un h (up bo 3 0) ta tr ro ot Bm bk) (some (.long (emM (Bm 0 3) 1 0))) (MW n vs wo un h (up bo 3 0) ta tr ro ot Bm bk) := by
  refine PX3_emission (Nat.le_of_ble_eq_true rfl) ?_
  intro G hT hC hR
  refine mB hT 26 rfl ?_
  refine hC _ 0 [_, _] _ _ _ _ _ (m_main_0_3) rfl rfl (Nat.le_of_ble_eq_true rfl) rfl ?_
  refine mB hT 2 rfl ?_
  exact hR _ (by decide) _ _ _ rfl rfl
set_option maxRecDepth 20000 in
theorem m_em_0_3_1_1 {n vs : Int32} {wo un h : Int64} {bo : Nat → Int32} {ta tr ro ot : Nat → Int64} {Bm : Nat → Nat → Nat → Int32} {bk : Nat → Nat → Int32} : KX3_emission l D ca ad [.ref 0, .int 3, .int 1, .int 1] (MW n vs wo un h (up bo 3 0) ta tr ro ot Bm bk) (some (.long (emM (Bm 0 3) 1 1))) (MW n vs wo un h (up bo 3 0) ta tr ro ot Bm bk) := by
  refine PX3_emission (Nat.le_of_ble_eq_true rfl) ?_
  intro G hT hC hR
  refine mB hT 26 rfl ?_
  refine hC _ 0 [_, _] _ _ _ _ _ (m_main_0_3) rfl rfl (Nat.le_of_ble_eq_true rfl) rfl ?_
  refine mB hT 2 rfl ?_
  exact hR _ (by decide) _ _ _ rfl rfl
set_option maxRecDepth 20000 in
theorem m_em_0_3_1_2 {n vs : Int32} {wo un h : Int64} {bo : Nat → Int32} {ta tr ro ot : Nat → Int64} {Bm : Nat → Nat → Nat → Int32} {bk : Nat → Nat → Int32} : KX3_emission l D ca ad [.ref 0, .int 3, .int 1, .int 2] (MW n vs wo un h (up bo 3 0) ta tr ro ot Bm bk) (some (.long (emM (Bm 0 3) 1 2))) (MW n vs wo un h (up bo 3 0) ta tr ro ot Bm bk) := by
  refine PX3_emission (Nat.le_of_ble_eq_true rfl) ?_
  intro G hT hC hR
  refine mB hT 26 rfl ?_
  refine hC _ 0 [_, _] _ _ _ _ _ (m_main_0_3) rfl rfl (Nat.le_of_ble_eq_true rfl) rfl ?_
  refine mB hT 2 rfl ?_
  exact hR _ (by decide) _ _ _ rfl rfl
set_option maxRecDepth 20000 in
theorem m_em_0_3_2_0 {n vs : Int32} {wo un h : Int64} {bo : Nat → Int32} {ta tr ro ot : Nat → Int64} {Bm : Nat → Nat → Nat → Int32} {bk : Nat → Nat → Int32} : KX3_emission l D ca ad [.ref 0, .int 3, .int 2, .int 0] (MW n vs wo un h (up bo 3 0) ta tr ro ot Bm bk) (some (.long (emM (Bm 0 3) 2 0))) (MW n vs wo un h (up bo 3 0) ta tr ro ot Bm bk) := by
  refine PX3_emission (Nat.le_of_ble_eq_true rfl) ?_
  intro G hT hC hR
  refine mB hT 26 rfl ?_
  refine hC _ 0 [_, _] _ _ _ _ _ (m_main_0_3) rfl rfl (Nat.le_of_ble_eq_true rfl) rfl ?_
  refine mB hT 2 rfl ?_
  exact hR _ (by decide) _ _ _ rfl rfl
set_option maxRecDepth 20000 in
theorem m_em_0_3_2_1 {n vs : Int32} {wo un h : Int64} {bo : Nat → Int32} {ta tr ro ot : Nat → Int64} {Bm : Nat → Nat → Nat → Int32} {bk : Nat → Nat → Int32} : KX3_emission l D ca ad [.ref 0, .int 3, .int 2, .int 1] (MW n vs wo un h (up bo 3 0) ta tr ro ot Bm bk) (some (.long (emM (Bm 0 3) 2 1))) (MW n vs wo un h (up bo 3 0) ta tr ro ot Bm bk) := by
  refine PX3_emission (Nat.le_of_ble_eq_true rfl) ?_
  intro G hT hC hR
  refine mB hT 26 rfl ?_
  refine hC _ 0 [_, _] _ _ _ _ _ (m_main_0_3) rfl rfl (Nat.le_of_ble_eq_true rfl) rfl ?_
  refine mB hT 2 rfl ?_
  exact hR _ (by decide) _ _ _ rfl rfl
set_option maxRecDepth 20000 in
theorem m_em_0_3_2_2 {n vs : Int32} {wo un h : Int64} {bo : Nat → Int32} {ta tr ro ot : Nat → Int64} {Bm : Nat → Nat → Nat → Int32} {bk : Nat → Nat → Int32} : KX3_emission l D ca ad [.ref 0, .int 3, .int 2, .int 2] (MW n vs wo un h (up bo 3 0) ta tr ro ot Bm bk) (some (.long (emM (Bm 0 3) 2 2))) (MW n vs wo un h (up bo 3 0) ta tr ro ot Bm bk) := by
  refine PX3_emission (Nat.le_of_ble_eq_true rfl) ?_
  intro G hT hC hR
  refine mB hT 26 rfl ?_
  refine hC _ 0 [_, _] _ _ _ _ _ (m_main_0_3) rfl rfl (Nat.le_of_ble_eq_true rfl) rfl ?_
  refine mB hT 2 rfl ?_
  exact hR _ (by decide) _ _ _ rfl rfl
theorem m_em_0_3 {n vs : Int32} {wo un h : Int64} {bo : Nat → Int32} {ta tr ro ot : Nat → Int64} {Bm : Nat → Nat → Nat → Int32} {bk : Nat → Nat → Int32} (k s : Nat) (hk : k < 3) (hs : s < 3) : KX3_emission l D ca ad [.ref 0, .int 3, .int (Int32.ofNat k), .int (Int32.ofNat s)] (MW n vs wo un h (up bo 3 0) ta tr ro ot Bm bk) (some (.long (emM (Bm 0 3) k s))) (MW n vs wo un h (up bo 3 0) ta tr ro ot Bm bk) := by
  match k, hk, s, hs with
  | 0, _, 0, _ => exact m_em_0_3_0_0
  | 0, _, 1, _ => exact m_em_0_3_0_1
  | 0, _, 2, _ => exact m_em_0_3_0_2
  | 1, _, 0, _ => exact m_em_0_3_1_0
  | 1, _, 1, _ => exact m_em_0_3_1_1
  | 1, _, 2, _ => exact m_em_0_3_1_2
  | 2, _, 0, _ => exact m_em_0_3_2_0
  | 2, _, 1, _ => exact m_em_0_3_2_1
  | 2, _, 2, _ => exact m_em_0_3_2_2
set_option maxRecDepth 20000 in
theorem m_em_1_0_0_0 {n vs : Int32} {wo un h : Int64} {bo : Nat → Int32} {ta tr ro ot : Nat → Int64} {Bm : Nat → Nat → Nat → Int32} {bk : Nat → Nat → Int32} : KX3_emission l D ca ad [.ref 0, .int 0, .int 0, .int 0] (MW n vs wo un h (up bo 0 1) ta tr ro ot Bm bk) (some (.long (emM (Bm 1 0) 0 0))) (MW n vs wo un h (up bo 0 1) ta tr ro ot Bm bk) := by
  refine PX3_emission (Nat.le_of_ble_eq_true rfl) ?_
  intro G hT hC hR
  refine mB hT 26 rfl ?_
  refine hC _ 0 [_, _] _ _ _ _ _ (m_main_1_0) rfl rfl (Nat.le_of_ble_eq_true rfl) rfl ?_
  refine mB hT 2 rfl ?_
  exact hR _ (by decide) _ _ _ rfl rfl
set_option maxRecDepth 20000 in
theorem m_em_1_0_0_1 {n vs : Int32} {wo un h : Int64} {bo : Nat → Int32} {ta tr ro ot : Nat → Int64} {Bm : Nat → Nat → Nat → Int32} {bk : Nat → Nat → Int32} : KX3_emission l D ca ad [.ref 0, .int 0, .int 0, .int 1] (MW n vs wo un h (up bo 0 1) ta tr ro ot Bm bk) (some (.long (emM (Bm 1 0) 0 1))) (MW n vs wo un h (up bo 0 1) ta tr ro ot Bm bk) := by
  refine PX3_emission (Nat.le_of_ble_eq_true rfl) ?_
  intro G hT hC hR
  refine mB hT 26 rfl ?_
  refine hC _ 0 [_, _] _ _ _ _ _ (m_main_1_0) rfl rfl (Nat.le_of_ble_eq_true rfl) rfl ?_
  refine mB hT 2 rfl ?_
  exact hR _ (by decide) _ _ _ rfl rfl
set_option maxRecDepth 20000 in
theorem m_em_1_0_0_2 {n vs : Int32} {wo un h : Int64} {bo : Nat → Int32} {ta tr ro ot : Nat → Int64} {Bm : Nat → Nat → Nat → Int32} {bk : Nat → Nat → Int32} : KX3_emission l D ca ad [.ref 0, .int 0, .int 0, .int 2] (MW n vs wo un h (up bo 0 1) ta tr ro ot Bm bk) (some (.long (emM (Bm 1 0) 0 2))) (MW n vs wo un h (up bo 0 1) ta tr ro ot Bm bk) := by
  refine PX3_emission (Nat.le_of_ble_eq_true rfl) ?_
  intro G hT hC hR
  refine mB hT 26 rfl ?_
  refine hC _ 0 [_, _] _ _ _ _ _ (m_main_1_0) rfl rfl (Nat.le_of_ble_eq_true rfl) rfl ?_
  refine mB hT 2 rfl ?_
  exact hR _ (by decide) _ _ _ rfl rfl
set_option maxRecDepth 20000 in
theorem m_em_1_0_1_0 {n vs : Int32} {wo un h : Int64} {bo : Nat → Int32} {ta tr ro ot : Nat → Int64} {Bm : Nat → Nat → Nat → Int32} {bk : Nat → Nat → Int32} : KX3_emission l D ca ad [.ref 0, .int 0, .int 1, .int 0] (MW n vs wo un h (up bo 0 1) ta tr ro ot Bm bk) (some (.long (emM (Bm 1 0) 1 0))) (MW n vs wo un h (up bo 0 1) ta tr ro ot Bm bk) := by
  refine PX3_emission (Nat.le_of_ble_eq_true rfl) ?_
  intro G hT hC hR
  refine mB hT 26 rfl ?_
  refine hC _ 0 [_, _] _ _ _ _ _ (m_main_1_0) rfl rfl (Nat.le_of_ble_eq_true rfl) rfl ?_
  refine mB hT 2 rfl ?_
  exact hR _ (by decide) _ _ _ rfl rfl
set_option maxRecDepth 20000 in
theorem m_em_1_0_1_1 {n vs : Int32} {wo un h : Int64} {bo : Nat → Int32} {ta tr ro ot : Nat → Int64} {Bm : Nat → Nat → Nat → Int32} {bk : Nat → Nat → Int32} : KX3_emission l D ca ad [.ref 0, .int 0, .int 1, .int 1] (MW n vs wo un h (up bo 0 1) ta tr ro ot Bm bk) (some (.long (emM (Bm 1 0) 1 1))) (MW n vs wo un h (up bo 0 1) ta tr ro ot Bm bk) := by
  refine PX3_emission (Nat.le_of_ble_eq_true rfl) ?_
  intro G hT hC hR
  refine mB hT 26 rfl ?_
  refine hC _ 0 [_, _] _ _ _ _ _ (m_main_1_0) rfl rfl (Nat.le_of_ble_eq_true rfl) rfl ?_
  refine mB hT 2 rfl ?_
  exact hR _ (by decide) _ _ _ rfl rfl
set_option maxRecDepth 20000 in
theorem m_em_1_0_1_2 {n vs : Int32} {wo un h : Int64} {bo : Nat → Int32} {ta tr ro ot : Nat → Int64} {Bm : Nat → Nat → Nat → Int32} {bk : Nat → Nat → Int32} : KX3_emission l D ca ad [.ref 0, .int 0, .int 1, .int 2] (MW n vs wo un h (up bo 0 1) ta tr ro ot Bm bk) (some (.long (emM (Bm 1 0) 1 2))) (MW n vs wo un h (up bo 0 1) ta tr ro ot Bm bk) := by
  refine PX3_emission (Nat.le_of_ble_eq_true rfl) ?_
  intro G hT hC hR
  refine mB hT 26 rfl ?_
  refine hC _ 0 [_, _] _ _ _ _ _ (m_main_1_0) rfl rfl (Nat.le_of_ble_eq_true rfl) rfl ?_
  refine mB hT 2 rfl ?_
  exact hR _ (by decide) _ _ _ rfl rfl
set_option maxRecDepth 20000 in
theorem m_em_1_0_2_0 {n vs : Int32} {wo un h : Int64} {bo : Nat → Int32} {ta tr ro ot : Nat → Int64} {Bm : Nat → Nat → Nat → Int32} {bk : Nat → Nat → Int32} : KX3_emission l D ca ad [.ref 0, .int 0, .int 2, .int 0] (MW n vs wo un h (up bo 0 1) ta tr ro ot Bm bk) (some (.long (emM (Bm 1 0) 2 0))) (MW n vs wo un h (up bo 0 1) ta tr ro ot Bm bk) := by
  refine PX3_emission (Nat.le_of_ble_eq_true rfl) ?_
  intro G hT hC hR
  refine mB hT 26 rfl ?_
  refine hC _ 0 [_, _] _ _ _ _ _ (m_main_1_0) rfl rfl (Nat.le_of_ble_eq_true rfl) rfl ?_
  refine mB hT 2 rfl ?_
  exact hR _ (by decide) _ _ _ rfl rfl
set_option maxRecDepth 20000 in
theorem m_em_1_0_2_1 {n vs : Int32} {wo un h : Int64} {bo : Nat → Int32} {ta tr ro ot : Nat → Int64} {Bm : Nat → Nat → Nat → Int32} {bk : Nat → Nat → Int32} : KX3_emission l D ca ad [.ref 0, .int 0, .int 2, .int 1] (MW n vs wo un h (up bo 0 1) ta tr ro ot Bm bk) (some (.long (emM (Bm 1 0) 2 1))) (MW n vs wo un h (up bo 0 1) ta tr ro ot Bm bk) := by
  refine PX3_emission (Nat.le_of_ble_eq_true rfl) ?_
  intro G hT hC hR
  refine mB hT 26 rfl ?_
  refine hC _ 0 [_, _] _ _ _ _ _ (m_main_1_0) rfl rfl (Nat.le_of_ble_eq_true rfl) rfl ?_
  refine mB hT 2 rfl ?_
  exact hR _ (by decide) _ _ _ rfl rfl
set_option maxRecDepth 20000 in
theorem m_em_1_0_2_2 {n vs : Int32} {wo un h : Int64} {bo : Nat → Int32} {ta tr ro ot : Nat → Int64} {Bm : Nat → Nat → Nat → Int32} {bk : Nat → Nat → Int32} : KX3_emission l D ca ad [.ref 0, .int 0, .int 2, .int 2] (MW n vs wo un h (up bo 0 1) ta tr ro ot Bm bk) (some (.long (emM (Bm 1 0) 2 2))) (MW n vs wo un h (up bo 0 1) ta tr ro ot Bm bk) := by
  refine PX3_emission (Nat.le_of_ble_eq_true rfl) ?_
  intro G hT hC hR
  refine mB hT 26 rfl ?_
  refine hC _ 0 [_, _] _ _ _ _ _ (m_main_1_0) rfl rfl (Nat.le_of_ble_eq_true rfl) rfl ?_
  refine mB hT 2 rfl ?_
  exact hR _ (by decide) _ _ _ rfl rfl
theorem m_em_1_0 {n vs : Int32} {wo un h : Int64} {bo : Nat → Int32} {ta tr ro ot : Nat → Int64} {Bm : Nat → Nat → Nat → Int32} {bk : Nat → Nat → Int32} (k s : Nat) (hk : k < 3) (hs : s < 3) : KX3_emission l D ca ad [.ref 0, .int 0, .int (Int32.ofNat k), .int (Int32.ofNat s)] (MW n vs wo un h (up bo 0 1) ta tr ro ot Bm bk) (some (.long (emM (Bm 1 0) k s))) (MW n vs wo un h (up bo 0 1) ta tr ro ot Bm bk) := by
  match k, hk, s, hs with
  | 0, _, 0, _ => exact m_em_1_0_0_0
  | 0, _, 1, _ => exact m_em_1_0_0_1
  | 0, _, 2, _ => exact m_em_1_0_0_2
  | 1, _, 0, _ => exact m_em_1_0_1_0
  | 1, _, 1, _ => exact m_em_1_0_1_1
  | 1, _, 2, _ => exact m_em_1_0_1_2
  | 2, _, 0, _ => exact m_em_1_0_2_0
  | 2, _, 1, _ => exact m_em_1_0_2_1
  | 2, _, 2, _ => exact m_em_1_0_2_2
set_option maxRecDepth 20000 in
theorem m_em_1_1_0_0 {n vs : Int32} {wo un h : Int64} {bo : Nat → Int32} {ta tr ro ot : Nat → Int64} {Bm : Nat → Nat → Nat → Int32} {bk : Nat → Nat → Int32} : KX3_emission l D ca ad [.ref 0, .int 1, .int 0, .int 0] (MW n vs wo un h (up bo 1 1) ta tr ro ot Bm bk) (some (.long (emM (Bm 1 1) 0 0))) (MW n vs wo un h (up bo 1 1) ta tr ro ot Bm bk) := by
  refine PX3_emission (Nat.le_of_ble_eq_true rfl) ?_
  intro G hT hC hR
  refine mB hT 26 rfl ?_
  refine hC _ 0 [_, _] _ _ _ _ _ (m_main_1_1) rfl rfl (Nat.le_of_ble_eq_true rfl) rfl ?_
  refine mB hT 2 rfl ?_
  exact hR _ (by decide) _ _ _ rfl rfl
set_option maxRecDepth 20000 in
theorem m_em_1_1_0_1 {n vs : Int32} {wo un h : Int64} {bo : Nat → Int32} {ta tr ro ot : Nat → Int64} {Bm : Nat → Nat → Nat → Int32} {bk : Nat → Nat → Int32} : KX3_emission l D ca ad [.ref 0, .int 1, .int 0, .int 1] (MW n vs wo un h (up bo 1 1) ta tr ro ot Bm bk) (some (.long (emM (Bm 1 1) 0 1))) (MW n vs wo un h (up bo 1 1) ta tr ro ot Bm bk) := by
  refine PX3_emission (Nat.le_of_ble_eq_true rfl) ?_
  intro G hT hC hR
  refine mB hT 26 rfl ?_
  refine hC _ 0 [_, _] _ _ _ _ _ (m_main_1_1) rfl rfl (Nat.le_of_ble_eq_true rfl) rfl ?_
  refine mB hT 2 rfl ?_
  exact hR _ (by decide) _ _ _ rfl rfl
set_option maxRecDepth 20000 in
theorem m_em_1_1_0_2 {n vs : Int32} {wo un h : Int64} {bo : Nat → Int32} {ta tr ro ot : Nat → Int64} {Bm : Nat → Nat → Nat → Int32} {bk : Nat → Nat → Int32} : KX3_emission l D ca ad [.ref 0, .int 1, .int 0, .int 2] (MW n vs wo un h (up bo 1 1) ta tr ro ot Bm bk) (some (.long (emM (Bm 1 1) 0 2))) (MW n vs wo un h (up bo 1 1) ta tr ro ot Bm bk) := by
  refine PX3_emission (Nat.le_of_ble_eq_true rfl) ?_
  intro G hT hC hR
  refine mB hT 26 rfl ?_
  refine hC _ 0 [_, _] _ _ _ _ _ (m_main_1_1) rfl rfl (Nat.le_of_ble_eq_true rfl) rfl ?_
  refine mB hT 2 rfl ?_
  exact hR _ (by decide) _ _ _ rfl rfl
set_option maxRecDepth 20000 in
theorem m_em_1_1_1_0 {n vs : Int32} {wo un h : Int64} {bo : Nat → Int32} {ta tr ro ot : Nat → Int64} {Bm : Nat → Nat → Nat → Int32} {bk : Nat → Nat → Int32} : KX3_emission l D ca ad [.ref 0, .int 1, .int 1, .int 0] (MW n vs wo un h (up bo 1 1) ta tr ro ot Bm bk) (some (.long (emM (Bm 1 1) 1 0))) (MW n vs wo un h (up bo 1 1) ta tr ro ot Bm bk) := by
  refine PX3_emission (Nat.le_of_ble_eq_true rfl) ?_
  intro G hT hC hR
  refine mB hT 26 rfl ?_
  refine hC _ 0 [_, _] _ _ _ _ _ (m_main_1_1) rfl rfl (Nat.le_of_ble_eq_true rfl) rfl ?_
  refine mB hT 2 rfl ?_
  exact hR _ (by decide) _ _ _ rfl rfl
set_option maxRecDepth 20000 in
theorem m_em_1_1_1_1 {n vs : Int32} {wo un h : Int64} {bo : Nat → Int32} {ta tr ro ot : Nat → Int64} {Bm : Nat → Nat → Nat → Int32} {bk : Nat → Nat → Int32} : KX3_emission l D ca ad [.ref 0, .int 1, .int 1, .int 1] (MW n vs wo un h (up bo 1 1) ta tr ro ot Bm bk) (some (.long (emM (Bm 1 1) 1 1))) (MW n vs wo un h (up bo 1 1) ta tr ro ot Bm bk) := by
  refine PX3_emission (Nat.le_of_ble_eq_true rfl) ?_
  intro G hT hC hR
  refine mB hT 26 rfl ?_
  refine hC _ 0 [_, _] _ _ _ _ _ (m_main_1_1) rfl rfl (Nat.le_of_ble_eq_true rfl) rfl ?_
  refine mB hT 2 rfl ?_
  exact hR _ (by decide) _ _ _ rfl rfl
set_option maxRecDepth 20000 in
theorem m_em_1_1_1_2 {n vs : Int32} {wo un h : Int64} {bo : Nat → Int32} {ta tr ro ot : Nat → Int64} {Bm : Nat → Nat → Nat → Int32} {bk : Nat → Nat → Int32} : KX3_emission l D ca ad [.ref 0, .int 1, .int 1, .int 2] (MW n vs wo un h (up bo 1 1) ta tr ro ot Bm bk) (some (.long (emM (Bm 1 1) 1 2))) (MW n vs wo un h (up bo 1 1) ta tr ro ot Bm bk) := by
  refine PX3_emission (Nat.le_of_ble_eq_true rfl) ?_
  intro G hT hC hR
  refine mB hT 26 rfl ?_
  refine hC _ 0 [_, _] _ _ _ _ _ (m_main_1_1) rfl rfl (Nat.le_of_ble_eq_true rfl) rfl ?_
  refine mB hT 2 rfl ?_
  exact hR _ (by decide) _ _ _ rfl rfl
set_option maxRecDepth 20000 in
theorem m_em_1_1_2_0 {n vs : Int32} {wo un h : Int64} {bo : Nat → Int32} {ta tr ro ot : Nat → Int64} {Bm : Nat → Nat → Nat → Int32} {bk : Nat → Nat → Int32} : KX3_emission l D ca ad [.ref 0, .int 1, .int 2, .int 0] (MW n vs wo un h (up bo 1 1) ta tr ro ot Bm bk) (some (.long (emM (Bm 1 1) 2 0))) (MW n vs wo un h (up bo 1 1) ta tr ro ot Bm bk) := by
  refine PX3_emission (Nat.le_of_ble_eq_true rfl) ?_
  intro G hT hC hR
  refine mB hT 26 rfl ?_
  refine hC _ 0 [_, _] _ _ _ _ _ (m_main_1_1) rfl rfl (Nat.le_of_ble_eq_true rfl) rfl ?_
  refine mB hT 2 rfl ?_
  exact hR _ (by decide) _ _ _ rfl rfl
set_option maxRecDepth 20000 in
theorem m_em_1_1_2_1 {n vs : Int32} {wo un h : Int64} {bo : Nat → Int32} {ta tr ro ot : Nat → Int64} {Bm : Nat → Nat → Nat → Int32} {bk : Nat → Nat → Int32} : KX3_emission l D ca ad [.ref 0, .int 1, .int 2, .int 1] (MW n vs wo un h (up bo 1 1) ta tr ro ot Bm bk) (some (.long (emM (Bm 1 1) 2 1))) (MW n vs wo un h (up bo 1 1) ta tr ro ot Bm bk) := by
  refine PX3_emission (Nat.le_of_ble_eq_true rfl) ?_
  intro G hT hC hR
  refine mB hT 26 rfl ?_
  refine hC _ 0 [_, _] _ _ _ _ _ (m_main_1_1) rfl rfl (Nat.le_of_ble_eq_true rfl) rfl ?_
  refine mB hT 2 rfl ?_
  exact hR _ (by decide) _ _ _ rfl rfl
set_option maxRecDepth 20000 in
theorem m_em_1_1_2_2 {n vs : Int32} {wo un h : Int64} {bo : Nat → Int32} {ta tr ro ot : Nat → Int64} {Bm : Nat → Nat → Nat → Int32} {bk : Nat → Nat → Int32} : KX3_emission l D ca ad [.ref 0, .int 1, .int 2, .int 2] (MW n vs wo un h (up bo 1 1) ta tr ro ot Bm bk) (some (.long (emM (Bm 1 1) 2 2))) (MW n vs wo un h (up bo 1 1) ta tr ro ot Bm bk) := by
  refine PX3_emission (Nat.le_of_ble_eq_true rfl) ?_
  intro G hT hC hR
  refine mB hT 26 rfl ?_
  refine hC _ 0 [_, _] _ _ _ _ _ (m_main_1_1) rfl rfl (Nat.le_of_ble_eq_true rfl) rfl ?_
  refine mB hT 2 rfl ?_
  exact hR _ (by decide) _ _ _ rfl rfl
theorem m_em_1_1 {n vs : Int32} {wo un h : Int64} {bo : Nat → Int32} {ta tr ro ot : Nat → Int64} {Bm : Nat → Nat → Nat → Int32} {bk : Nat → Nat → Int32} (k s : Nat) (hk : k < 3) (hs : s < 3) : KX3_emission l D ca ad [.ref 0, .int 1, .int (Int32.ofNat k), .int (Int32.ofNat s)] (MW n vs wo un h (up bo 1 1) ta tr ro ot Bm bk) (some (.long (emM (Bm 1 1) k s))) (MW n vs wo un h (up bo 1 1) ta tr ro ot Bm bk) := by
  match k, hk, s, hs with
  | 0, _, 0, _ => exact m_em_1_1_0_0
  | 0, _, 1, _ => exact m_em_1_1_0_1
  | 0, _, 2, _ => exact m_em_1_1_0_2
  | 1, _, 0, _ => exact m_em_1_1_1_0
  | 1, _, 1, _ => exact m_em_1_1_1_1
  | 1, _, 2, _ => exact m_em_1_1_1_2
  | 2, _, 0, _ => exact m_em_1_1_2_0
  | 2, _, 1, _ => exact m_em_1_1_2_1
  | 2, _, 2, _ => exact m_em_1_1_2_2
set_option maxRecDepth 20000 in
theorem m_em_1_2_0_0 {n vs : Int32} {wo un h : Int64} {bo : Nat → Int32} {ta tr ro ot : Nat → Int64} {Bm : Nat → Nat → Nat → Int32} {bk : Nat → Nat → Int32} : KX3_emission l D ca ad [.ref 0, .int 2, .int 0, .int 0] (MW n vs wo un h (up bo 2 1) ta tr ro ot Bm bk) (some (.long (emM (Bm 1 2) 0 0))) (MW n vs wo un h (up bo 2 1) ta tr ro ot Bm bk) := by
  refine PX3_emission (Nat.le_of_ble_eq_true rfl) ?_
  intro G hT hC hR
  refine mB hT 26 rfl ?_
  refine hC _ 0 [_, _] _ _ _ _ _ (m_main_1_2) rfl rfl (Nat.le_of_ble_eq_true rfl) rfl ?_
  refine mB hT 2 rfl ?_
  exact hR _ (by decide) _ _ _ rfl rfl
set_option maxRecDepth 20000 in
theorem m_em_1_2_0_1 {n vs : Int32} {wo un h : Int64} {bo : Nat → Int32} {ta tr ro ot : Nat → Int64} {Bm : Nat → Nat → Nat → Int32} {bk : Nat → Nat → Int32} : KX3_emission l D ca ad [.ref 0, .int 2, .int 0, .int 1] (MW n vs wo un h (up bo 2 1) ta tr ro ot Bm bk) (some (.long (emM (Bm 1 2) 0 1))) (MW n vs wo un h (up bo 2 1) ta tr ro ot Bm bk) := by
  refine PX3_emission (Nat.le_of_ble_eq_true rfl) ?_
  intro G hT hC hR
  refine mB hT 26 rfl ?_
  refine hC _ 0 [_, _] _ _ _ _ _ (m_main_1_2) rfl rfl (Nat.le_of_ble_eq_true rfl) rfl ?_
  refine mB hT 2 rfl ?_
  exact hR _ (by decide) _ _ _ rfl rfl
set_option maxRecDepth 20000 in
theorem m_em_1_2_0_2 {n vs : Int32} {wo un h : Int64} {bo : Nat → Int32} {ta tr ro ot : Nat → Int64} {Bm : Nat → Nat → Nat → Int32} {bk : Nat → Nat → Int32} : KX3_emission l D ca ad [.ref 0, .int 2, .int 0, .int 2] (MW n vs wo un h (up bo 2 1) ta tr ro ot Bm bk) (some (.long (emM (Bm 1 2) 0 2))) (MW n vs wo un h (up bo 2 1) ta tr ro ot Bm bk) := by
  refine PX3_emission (Nat.le_of_ble_eq_true rfl) ?_
  intro G hT hC hR
  refine mB hT 26 rfl ?_
  refine hC _ 0 [_, _] _ _ _ _ _ (m_main_1_2) rfl rfl (Nat.le_of_ble_eq_true rfl) rfl ?_
  refine mB hT 2 rfl ?_
  exact hR _ (by decide) _ _ _ rfl rfl
set_option maxRecDepth 20000 in
theorem m_em_1_2_1_0 {n vs : Int32} {wo un h : Int64} {bo : Nat → Int32} {ta tr ro ot : Nat → Int64} {Bm : Nat → Nat → Nat → Int32} {bk : Nat → Nat → Int32} : KX3_emission l D ca ad [.ref 0, .int 2, .int 1, .int 0] (MW n vs wo un h (up bo 2 1) ta tr ro ot Bm bk) (some (.long (emM (Bm 1 2) 1 0))) (MW n vs wo un h (up bo 2 1) ta tr ro ot Bm bk) := by
  refine PX3_emission (Nat.le_of_ble_eq_true rfl) ?_
  intro G hT hC hR
  refine mB hT 26 rfl ?_
  refine hC _ 0 [_, _] _ _ _ _ _ (m_main_1_2) rfl rfl (Nat.le_of_ble_eq_true rfl) rfl ?_
  refine mB hT 2 rfl ?_
  exact hR _ (by decide) _ _ _ rfl rfl
set_option maxRecDepth 20000 in
theorem m_em_1_2_1_1 {n vs : Int32} {wo un h : Int64} {bo : Nat → Int32} {ta tr ro ot : Nat → Int64} {Bm : Nat → Nat → Nat → Int32} {bk : Nat → Nat → Int32} : KX3_emission l D ca ad [.ref 0, .int 2, .int 1, .int 1] (MW n vs wo un h (up bo 2 1) ta tr ro ot Bm bk) (some (.long (emM (Bm 1 2) 1 1))) (MW n vs wo un h (up bo 2 1) ta tr ro ot Bm bk) := by
  refine PX3_emission (Nat.le_of_ble_eq_true rfl) ?_
  intro G hT hC hR
  refine mB hT 26 rfl ?_
  refine hC _ 0 [_, _] _ _ _ _ _ (m_main_1_2) rfl rfl (Nat.le_of_ble_eq_true rfl) rfl ?_
  refine mB hT 2 rfl ?_
  exact hR _ (by decide) _ _ _ rfl rfl
set_option maxRecDepth 20000 in
theorem m_em_1_2_1_2 {n vs : Int32} {wo un h : Int64} {bo : Nat → Int32} {ta tr ro ot : Nat → Int64} {Bm : Nat → Nat → Nat → Int32} {bk : Nat → Nat → Int32} : KX3_emission l D ca ad [.ref 0, .int 2, .int 1, .int 2] (MW n vs wo un h (up bo 2 1) ta tr ro ot Bm bk) (some (.long (emM (Bm 1 2) 1 2))) (MW n vs wo un h (up bo 2 1) ta tr ro ot Bm bk) := by
  refine PX3_emission (Nat.le_of_ble_eq_true rfl) ?_
  intro G hT hC hR
  refine mB hT 26 rfl ?_
  refine hC _ 0 [_, _] _ _ _ _ _ (m_main_1_2) rfl rfl (Nat.le_of_ble_eq_true rfl) rfl ?_
  refine mB hT 2 rfl ?_
  exact hR _ (by decide) _ _ _ rfl rfl
set_option maxRecDepth 20000 in
theorem m_em_1_2_2_0 {n vs : Int32} {wo un h : Int64} {bo : Nat → Int32} {ta tr ro ot : Nat → Int64} {Bm : Nat → Nat → Nat → Int32} {bk : Nat → Nat → Int32} : KX3_emission l D ca ad [.ref 0, .int 2, .int 2, .int 0] (MW n vs wo un h (up bo 2 1) ta tr ro ot Bm bk) (some (.long (emM (Bm 1 2) 2 0))) (MW n vs wo un h (up bo 2 1) ta tr ro ot Bm bk) := by
  refine PX3_emission (Nat.le_of_ble_eq_true rfl) ?_
  intro G hT hC hR
  refine mB hT 26 rfl ?_
  refine hC _ 0 [_, _] _ _ _ _ _ (m_main_1_2) rfl rfl (Nat.le_of_ble_eq_true rfl) rfl ?_
  refine mB hT 2 rfl ?_
  exact hR _ (by decide) _ _ _ rfl rfl
set_option maxRecDepth 20000 in
theorem m_em_1_2_2_1 {n vs : Int32} {wo un h : Int64} {bo : Nat → Int32} {ta tr ro ot : Nat → Int64} {Bm : Nat → Nat → Nat → Int32} {bk : Nat → Nat → Int32} : KX3_emission l D ca ad [.ref 0, .int 2, .int 2, .int 1] (MW n vs wo un h (up bo 2 1) ta tr ro ot Bm bk) (some (.long (emM (Bm 1 2) 2 1))) (MW n vs wo un h (up bo 2 1) ta tr ro ot Bm bk) := by
  refine PX3_emission (Nat.le_of_ble_eq_true rfl) ?_
  intro G hT hC hR
  refine mB hT 26 rfl ?_
  refine hC _ 0 [_, _] _ _ _ _ _ (m_main_1_2) rfl rfl (Nat.le_of_ble_eq_true rfl) rfl ?_
  refine mB hT 2 rfl ?_
  exact hR _ (by decide) _ _ _ rfl rfl
set_option maxRecDepth 20000 in
theorem m_em_1_2_2_2 {n vs : Int32} {wo un h : Int64} {bo : Nat → Int32} {ta tr ro ot : Nat → Int64} {Bm : Nat → Nat → Nat → Int32} {bk : Nat → Nat → Int32} : KX3_emission l D ca ad [.ref 0, .int 2, .int 2, .int 2] (MW n vs wo un h (up bo 2 1) ta tr ro ot Bm bk) (some (.long (emM (Bm 1 2) 2 2))) (MW n vs wo un h (up bo 2 1) ta tr ro ot Bm bk) := by
  refine PX3_emission (Nat.le_of_ble_eq_true rfl) ?_
  intro G hT hC hR
  refine mB hT 26 rfl ?_
  refine hC _ 0 [_, _] _ _ _ _ _ (m_main_1_2) rfl rfl (Nat.le_of_ble_eq_true rfl) rfl ?_
  refine mB hT 2 rfl ?_
  exact hR _ (by decide) _ _ _ rfl rfl
theorem m_em_1_2 {n vs : Int32} {wo un h : Int64} {bo : Nat → Int32} {ta tr ro ot : Nat → Int64} {Bm : Nat → Nat → Nat → Int32} {bk : Nat → Nat → Int32} (k s : Nat) (hk : k < 3) (hs : s < 3) : KX3_emission l D ca ad [.ref 0, .int 2, .int (Int32.ofNat k), .int (Int32.ofNat s)] (MW n vs wo un h (up bo 2 1) ta tr ro ot Bm bk) (some (.long (emM (Bm 1 2) k s))) (MW n vs wo un h (up bo 2 1) ta tr ro ot Bm bk) := by
  match k, hk, s, hs with
  | 0, _, 0, _ => exact m_em_1_2_0_0
  | 0, _, 1, _ => exact m_em_1_2_0_1
  | 0, _, 2, _ => exact m_em_1_2_0_2
  | 1, _, 0, _ => exact m_em_1_2_1_0
  | 1, _, 1, _ => exact m_em_1_2_1_1
  | 1, _, 2, _ => exact m_em_1_2_1_2
  | 2, _, 0, _ => exact m_em_1_2_2_0
  | 2, _, 1, _ => exact m_em_1_2_2_1
  | 2, _, 2, _ => exact m_em_1_2_2_2
set_option maxRecDepth 20000 in
theorem m_em_1_3_0_0 {n vs : Int32} {wo un h : Int64} {bo : Nat → Int32} {ta tr ro ot : Nat → Int64} {Bm : Nat → Nat → Nat → Int32} {bk : Nat → Nat → Int32} : KX3_emission l D ca ad [.ref 0, .int 3, .int 0, .int 0] (MW n vs wo un h (up bo 3 1) ta tr ro ot Bm bk) (some (.long (emM (Bm 1 3) 0 0))) (MW n vs wo un h (up bo 3 1) ta tr ro ot Bm bk) := by
  refine PX3_emission (Nat.le_of_ble_eq_true rfl) ?_
  intro G hT hC hR
  refine mB hT 26 rfl ?_
  refine hC _ 0 [_, _] _ _ _ _ _ (m_main_1_3) rfl rfl (Nat.le_of_ble_eq_true rfl) rfl ?_
  refine mB hT 2 rfl ?_
  exact hR _ (by decide) _ _ _ rfl rfl
set_option maxRecDepth 20000 in
theorem m_em_1_3_0_1 {n vs : Int32} {wo un h : Int64} {bo : Nat → Int32} {ta tr ro ot : Nat → Int64} {Bm : Nat → Nat → Nat → Int32} {bk : Nat → Nat → Int32} : KX3_emission l D ca ad [.ref 0, .int 3, .int 0, .int 1] (MW n vs wo un h (up bo 3 1) ta tr ro ot Bm bk) (some (.long (emM (Bm 1 3) 0 1))) (MW n vs wo un h (up bo 3 1) ta tr ro ot Bm bk) := by
  refine PX3_emission (Nat.le_of_ble_eq_true rfl) ?_
  intro G hT hC hR
  refine mB hT 26 rfl ?_
  refine hC _ 0 [_, _] _ _ _ _ _ (m_main_1_3) rfl rfl (Nat.le_of_ble_eq_true rfl) rfl ?_
  refine mB hT 2 rfl ?_
  exact hR _ (by decide) _ _ _ rfl rfl
set_option maxRecDepth 20000 in
theorem m_em_1_3_0_2 {n vs : Int32} {wo un h : Int64} {bo : Nat → Int32} {ta tr ro ot : Nat → Int64} {Bm : Nat → Nat → Nat → Int32} {bk : Nat → Nat → Int32} : KX3_emission l D ca ad [.ref 0, .int 3, .int 0, .int 2] (MW n vs wo un h (up bo 3 1) ta tr ro ot Bm bk) (some (.long (emM (Bm 1 3) 0 2))) (MW n vs wo un h (up bo 3 1) ta tr ro ot Bm bk) := by
  refine PX3_emission (Nat.le_of_ble_eq_true rfl) ?_
  intro G hT hC hR
  refine mB hT 26 rfl ?_
  refine hC _ 0 [_, _] _ _ _ _ _ (m_main_1_3) rfl rfl (Nat.le_of_ble_eq_true rfl) rfl ?_
  refine mB hT 2 rfl ?_
  exact hR _ (by decide) _ _ _ rfl rfl
set_option maxRecDepth 20000 in
theorem m_em_1_3_1_0 {n vs : Int32} {wo un h : Int64} {bo : Nat → Int32} {ta tr ro ot : Nat → Int64} {Bm : Nat → Nat → Nat → Int32} {bk : Nat → Nat → Int32} : KX3_emission l D ca ad [.ref 0, .int 3, .int 1, .int 0] (MW n vs wo un h (up bo 3 1) ta tr ro ot Bm bk) (some (.long (emM (Bm 1 3) 1 0))) (MW n vs wo un h (up bo 3 1) ta tr ro ot Bm bk) := by
  refine PX3_emission (Nat.le_of_ble_eq_true rfl) ?_
  intro G hT hC hR
  refine mB hT 26 rfl ?_
  refine hC _ 0 [_, _] _ _ _ _ _ (m_main_1_3) rfl rfl (Nat.le_of_ble_eq_true rfl) rfl ?_
  refine mB hT 2 rfl ?_
  exact hR _ (by decide) _ _ _ rfl rfl
set_option maxRecDepth 20000 in
theorem m_em_1_3_1_1 {n vs : Int32} {wo un h : Int64} {bo : Nat → Int32} {ta tr ro ot : Nat → Int64} {Bm : Nat → Nat → Nat → Int32} {bk : Nat → Nat → Int32} : KX3_emission l D ca ad [.ref 0, .int 3, .int 1, .int 1] (MW n vs wo un h (up bo 3 1) ta tr ro ot Bm bk) (some (.long (emM (Bm 1 3) 1 1))) (MW n vs wo un h (up bo 3 1) ta tr ro ot Bm bk) := by
  refine PX3_emission (Nat.le_of_ble_eq_true rfl) ?_
  intro G hT hC hR
  refine mB hT 26 rfl ?_
  refine hC _ 0 [_, _] _ _ _ _ _ (m_main_1_3) rfl rfl (Nat.le_of_ble_eq_true rfl) rfl ?_
  refine mB hT 2 rfl ?_
  exact hR _ (by decide) _ _ _ rfl rfl
set_option maxRecDepth 20000 in
theorem m_em_1_3_1_2 {n vs : Int32} {wo un h : Int64} {bo : Nat → Int32} {ta tr ro ot : Nat → Int64} {Bm : Nat → Nat → Nat → Int32} {bk : Nat → Nat → Int32} : KX3_emission l D ca ad [.ref 0, .int 3, .int 1, .int 2] (MW n vs wo un h (up bo 3 1) ta tr ro ot Bm bk) (some (.long (emM (Bm 1 3) 1 2))) (MW n vs wo un h (up bo 3 1) ta tr ro ot Bm bk) := by
  refine PX3_emission (Nat.le_of_ble_eq_true rfl) ?_
  intro G hT hC hR
  refine mB hT 26 rfl ?_
  refine hC _ 0 [_, _] _ _ _ _ _ (m_main_1_3) rfl rfl (Nat.le_of_ble_eq_true rfl) rfl ?_
  refine mB hT 2 rfl ?_
  exact hR _ (by decide) _ _ _ rfl rfl
set_option maxRecDepth 20000 in
theorem m_em_1_3_2_0 {n vs : Int32} {wo un h : Int64} {bo : Nat → Int32} {ta tr ro ot : Nat → Int64} {Bm : Nat → Nat → Nat → Int32} {bk : Nat → Nat → Int32} : KX3_emission l D ca ad [.ref 0, .int 3, .int 2, .int 0] (MW n vs wo un h (up bo 3 1) ta tr ro ot Bm bk) (some (.long (emM (Bm 1 3) 2 0))) (MW n vs wo un h (up bo 3 1) ta tr ro ot Bm bk) := by
  refine PX3_emission (Nat.le_of_ble_eq_true rfl) ?_
  intro G hT hC hR
  refine mB hT 26 rfl ?_
  refine hC _ 0 [_, _] _ _ _ _ _ (m_main_1_3) rfl rfl (Nat.le_of_ble_eq_true rfl) rfl ?_
  refine mB hT 2 rfl ?_
  exact hR _ (by decide) _ _ _ rfl rfl
set_option maxRecDepth 20000 in
theorem m_em_1_3_2_1 {n vs : Int32} {wo un h : Int64} {bo : Nat → Int32} {ta tr ro ot : Nat → Int64} {Bm : Nat → Nat → Nat → Int32} {bk : Nat → Nat → Int32} : KX3_emission l D ca ad [.ref 0, .int 3, .int 2, .int 1] (MW n vs wo un h (up bo 3 1) ta tr ro ot Bm bk) (some (.long (emM (Bm 1 3) 2 1))) (MW n vs wo un h (up bo 3 1) ta tr ro ot Bm bk) := by
  refine PX3_emission (Nat.le_of_ble_eq_true rfl) ?_
  intro G hT hC hR
  refine mB hT 26 rfl ?_
  refine hC _ 0 [_, _] _ _ _ _ _ (m_main_1_3) rfl rfl (Nat.le_of_ble_eq_true rfl) rfl ?_
  refine mB hT 2 rfl ?_
  exact hR _ (by decide) _ _ _ rfl rfl
set_option maxRecDepth 20000 in
theorem m_em_1_3_2_2 {n vs : Int32} {wo un h : Int64} {bo : Nat → Int32} {ta tr ro ot : Nat → Int64} {Bm : Nat → Nat → Nat → Int32} {bk : Nat → Nat → Int32} : KX3_emission l D ca ad [.ref 0, .int 3, .int 2, .int 2] (MW n vs wo un h (up bo 3 1) ta tr ro ot Bm bk) (some (.long (emM (Bm 1 3) 2 2))) (MW n vs wo un h (up bo 3 1) ta tr ro ot Bm bk) := by
  refine PX3_emission (Nat.le_of_ble_eq_true rfl) ?_
  intro G hT hC hR
  refine mB hT 26 rfl ?_
  refine hC _ 0 [_, _] _ _ _ _ _ (m_main_1_3) rfl rfl (Nat.le_of_ble_eq_true rfl) rfl ?_
  refine mB hT 2 rfl ?_
  exact hR _ (by decide) _ _ _ rfl rfl
theorem m_em_1_3 {n vs : Int32} {wo un h : Int64} {bo : Nat → Int32} {ta tr ro ot : Nat → Int64} {Bm : Nat → Nat → Nat → Int32} {bk : Nat → Nat → Int32} (k s : Nat) (hk : k < 3) (hs : s < 3) : KX3_emission l D ca ad [.ref 0, .int 3, .int (Int32.ofNat k), .int (Int32.ofNat s)] (MW n vs wo un h (up bo 3 1) ta tr ro ot Bm bk) (some (.long (emM (Bm 1 3) k s))) (MW n vs wo un h (up bo 3 1) ta tr ro ot Bm bk) := by
  match k, hk, s, hs with
  | 0, _, 0, _ => exact m_em_1_3_0_0
  | 0, _, 1, _ => exact m_em_1_3_0_1
  | 0, _, 2, _ => exact m_em_1_3_0_2
  | 1, _, 0, _ => exact m_em_1_3_1_0
  | 1, _, 1, _ => exact m_em_1_3_1_1
  | 1, _, 2, _ => exact m_em_1_3_1_2
  | 2, _, 0, _ => exact m_em_1_3_2_0
  | 2, _, 1, _ => exact m_em_1_3_2_1
  | 2, _, 2, _ => exact m_em_1_3_2_2
set_option maxRecDepth 20000 in
theorem m_em_2_0_0_0 {n vs : Int32} {wo un h : Int64} {bo : Nat → Int32} {ta tr ro ot : Nat → Int64} {Bm : Nat → Nat → Nat → Int32} {bk : Nat → Nat → Int32} : KX3_emission l D ca ad [.ref 0, .int 0, .int 0, .int 0] (MW n vs wo un h (up bo 0 2) ta tr ro ot Bm bk) (some (.long (emM (Bm 2 0) 0 0))) (MW n vs wo un h (up bo 0 2) ta tr ro ot Bm bk) := by
  refine PX3_emission (Nat.le_of_ble_eq_true rfl) ?_
  intro G hT hC hR
  refine mB hT 26 rfl ?_
  refine hC _ 0 [_, _] _ _ _ _ _ (m_main_2_0) rfl rfl (Nat.le_of_ble_eq_true rfl) rfl ?_
  refine mB hT 2 rfl ?_
  exact hR _ (by decide) _ _ _ rfl rfl
set_option maxRecDepth 20000 in
theorem m_em_2_0_0_1 {n vs : Int32} {wo un h : Int64} {bo : Nat → Int32} {ta tr ro ot : Nat → Int64} {Bm : Nat → Nat → Nat → Int32} {bk : Nat → Nat → Int32} : KX3_emission l D ca ad [.ref 0, .int 0, .int 0, .int 1] (MW n vs wo un h (up bo 0 2) ta tr ro ot Bm bk) (some (.long (emM (Bm 2 0) 0 1))) (MW n vs wo un h (up bo 0 2) ta tr ro ot Bm bk) := by
  refine PX3_emission (Nat.le_of_ble_eq_true rfl) ?_
  intro G hT hC hR
  refine mB hT 26 rfl ?_
  refine hC _ 0 [_, _] _ _ _ _ _ (m_main_2_0) rfl rfl (Nat.le_of_ble_eq_true rfl) rfl ?_
  refine mB hT 2 rfl ?_
  exact hR _ (by decide) _ _ _ rfl rfl
set_option maxRecDepth 20000 in
theorem m_em_2_0_0_2 {n vs : Int32} {wo un h : Int64} {bo : Nat → Int32} {ta tr ro ot : Nat → Int64} {Bm : Nat → Nat → Nat → Int32} {bk : Nat → Nat → Int32} : KX3_emission l D ca ad [.ref 0, .int 0, .int 0, .int 2] (MW n vs wo un h (up bo 0 2) ta tr ro ot Bm bk) (some (.long (emM (Bm 2 0) 0 2))) (MW n vs wo un h (up bo 0 2) ta tr ro ot Bm bk) := by
  refine PX3_emission (Nat.le_of_ble_eq_true rfl) ?_
  intro G hT hC hR
  refine mB hT 26 rfl ?_
  refine hC _ 0 [_, _] _ _ _ _ _ (m_main_2_0) rfl rfl (Nat.le_of_ble_eq_true rfl) rfl ?_
  refine mB hT 2 rfl ?_
  exact hR _ (by decide) _ _ _ rfl rfl
set_option maxRecDepth 20000 in
theorem m_em_2_0_1_0 {n vs : Int32} {wo un h : Int64} {bo : Nat → Int32} {ta tr ro ot : Nat → Int64} {Bm : Nat → Nat → Nat → Int32} {bk : Nat → Nat → Int32} : KX3_emission l D ca ad [.ref 0, .int 0, .int 1, .int 0] (MW n vs wo un h (up bo 0 2) ta tr ro ot Bm bk) (some (.long (emM (Bm 2 0) 1 0))) (MW n vs wo un h (up bo 0 2) ta tr ro ot Bm bk) := by
  refine PX3_emission (Nat.le_of_ble_eq_true rfl) ?_
  intro G hT hC hR
  refine mB hT 26 rfl ?_
  refine hC _ 0 [_, _] _ _ _ _ _ (m_main_2_0) rfl rfl (Nat.le_of_ble_eq_true rfl) rfl ?_
  refine mB hT 2 rfl ?_
  exact hR _ (by decide) _ _ _ rfl rfl
set_option maxRecDepth 20000 in
theorem m_em_2_0_1_1 {n vs : Int32} {wo un h : Int64} {bo : Nat → Int32} {ta tr ro ot : Nat → Int64} {Bm : Nat → Nat → Nat → Int32} {bk : Nat → Nat → Int32} : KX3_emission l D ca ad [.ref 0, .int 0, .int 1, .int 1] (MW n vs wo un h (up bo 0 2) ta tr ro ot Bm bk) (some (.long (emM (Bm 2 0) 1 1))) (MW n vs wo un h (up bo 0 2) ta tr ro ot Bm bk) := by
  refine PX3_emission (Nat.le_of_ble_eq_true rfl) ?_
  intro G hT hC hR
  refine mB hT 26 rfl ?_
  refine hC _ 0 [_, _] _ _ _ _ _ (m_main_2_0) rfl rfl (Nat.le_of_ble_eq_true rfl) rfl ?_
  refine mB hT 2 rfl ?_
  exact hR _ (by decide) _ _ _ rfl rfl
set_option maxRecDepth 20000 in
theorem m_em_2_0_1_2 {n vs : Int32} {wo un h : Int64} {bo : Nat → Int32} {ta tr ro ot : Nat → Int64} {Bm : Nat → Nat → Nat → Int32} {bk : Nat → Nat → Int32} : KX3_emission l D ca ad [.ref 0, .int 0, .int 1, .int 2] (MW n vs wo un h (up bo 0 2) ta tr ro ot Bm bk) (some (.long (emM (Bm 2 0) 1 2))) (MW n vs wo un h (up bo 0 2) ta tr ro ot Bm bk) := by
  refine PX3_emission (Nat.le_of_ble_eq_true rfl) ?_
  intro G hT hC hR
  refine mB hT 26 rfl ?_
  refine hC _ 0 [_, _] _ _ _ _ _ (m_main_2_0) rfl rfl (Nat.le_of_ble_eq_true rfl) rfl ?_
  refine mB hT 2 rfl ?_
  exact hR _ (by decide) _ _ _ rfl rfl
set_option maxRecDepth 20000 in
theorem m_em_2_0_2_0 {n vs : Int32} {wo un h : Int64} {bo : Nat → Int32} {ta tr ro ot : Nat → Int64} {Bm : Nat → Nat → Nat → Int32} {bk : Nat → Nat → Int32} : KX3_emission l D ca ad [.ref 0, .int 0, .int 2, .int 0] (MW n vs wo un h (up bo 0 2) ta tr ro ot Bm bk) (some (.long (emM (Bm 2 0) 2 0))) (MW n vs wo un h (up bo 0 2) ta tr ro ot Bm bk) := by
  refine PX3_emission (Nat.le_of_ble_eq_true rfl) ?_
  intro G hT hC hR
  refine mB hT 26 rfl ?_
  refine hC _ 0 [_, _] _ _ _ _ _ (m_main_2_0) rfl rfl (Nat.le_of_ble_eq_true rfl) rfl ?_
  refine mB hT 2 rfl ?_
  exact hR _ (by decide) _ _ _ rfl rfl
set_option maxRecDepth 20000 in
theorem m_em_2_0_2_1 {n vs : Int32} {wo un h : Int64} {bo : Nat → Int32} {ta tr ro ot : Nat → Int64} {Bm : Nat → Nat → Nat → Int32} {bk : Nat → Nat → Int32} : KX3_emission l D ca ad [.ref 0, .int 0, .int 2, .int 1] (MW n vs wo un h (up bo 0 2) ta tr ro ot Bm bk) (some (.long (emM (Bm 2 0) 2 1))) (MW n vs wo un h (up bo 0 2) ta tr ro ot Bm bk) := by
  refine PX3_emission (Nat.le_of_ble_eq_true rfl) ?_
  intro G hT hC hR
  refine mB hT 26 rfl ?_
  refine hC _ 0 [_, _] _ _ _ _ _ (m_main_2_0) rfl rfl (Nat.le_of_ble_eq_true rfl) rfl ?_
  refine mB hT 2 rfl ?_
  exact hR _ (by decide) _ _ _ rfl rfl
set_option maxRecDepth 20000 in
theorem m_em_2_0_2_2 {n vs : Int32} {wo un h : Int64} {bo : Nat → Int32} {ta tr ro ot : Nat → Int64} {Bm : Nat → Nat → Nat → Int32} {bk : Nat → Nat → Int32} : KX3_emission l D ca ad [.ref 0, .int 0, .int 2, .int 2] (MW n vs wo un h (up bo 0 2) ta tr ro ot Bm bk) (some (.long (emM (Bm 2 0) 2 2))) (MW n vs wo un h (up bo 0 2) ta tr ro ot Bm bk) := by
  refine PX3_emission (Nat.le_of_ble_eq_true rfl) ?_
  intro G hT hC hR
  refine mB hT 26 rfl ?_
  refine hC _ 0 [_, _] _ _ _ _ _ (m_main_2_0) rfl rfl (Nat.le_of_ble_eq_true rfl) rfl ?_
  refine mB hT 2 rfl ?_
  exact hR _ (by decide) _ _ _ rfl rfl
theorem m_em_2_0 {n vs : Int32} {wo un h : Int64} {bo : Nat → Int32} {ta tr ro ot : Nat → Int64} {Bm : Nat → Nat → Nat → Int32} {bk : Nat → Nat → Int32} (k s : Nat) (hk : k < 3) (hs : s < 3) : KX3_emission l D ca ad [.ref 0, .int 0, .int (Int32.ofNat k), .int (Int32.ofNat s)] (MW n vs wo un h (up bo 0 2) ta tr ro ot Bm bk) (some (.long (emM (Bm 2 0) k s))) (MW n vs wo un h (up bo 0 2) ta tr ro ot Bm bk) := by
  match k, hk, s, hs with
  | 0, _, 0, _ => exact m_em_2_0_0_0
  | 0, _, 1, _ => exact m_em_2_0_0_1
  | 0, _, 2, _ => exact m_em_2_0_0_2
  | 1, _, 0, _ => exact m_em_2_0_1_0
  | 1, _, 1, _ => exact m_em_2_0_1_1
  | 1, _, 2, _ => exact m_em_2_0_1_2
  | 2, _, 0, _ => exact m_em_2_0_2_0
  | 2, _, 1, _ => exact m_em_2_0_2_1
  | 2, _, 2, _ => exact m_em_2_0_2_2
set_option maxRecDepth 20000 in
theorem m_em_2_1_0_0 {n vs : Int32} {wo un h : Int64} {bo : Nat → Int32} {ta tr ro ot : Nat → Int64} {Bm : Nat → Nat → Nat → Int32} {bk : Nat → Nat → Int32} : KX3_emission l D ca ad [.ref 0, .int 1, .int 0, .int 0] (MW n vs wo un h (up bo 1 2) ta tr ro ot Bm bk) (some (.long (emM (Bm 2 1) 0 0))) (MW n vs wo un h (up bo 1 2) ta tr ro ot Bm bk) := by
  refine PX3_emission (Nat.le_of_ble_eq_true rfl) ?_
  intro G hT hC hR
  refine mB hT 26 rfl ?_
  refine hC _ 0 [_, _] _ _ _ _ _ (m_main_2_1) rfl rfl (Nat.le_of_ble_eq_true rfl) rfl ?_
  refine mB hT 2 rfl ?_
  exact hR _ (by decide) _ _ _ rfl rfl
set_option maxRecDepth 20000 in
theorem m_em_2_1_0_1 {n vs : Int32} {wo un h : Int64} {bo : Nat → Int32} {ta tr ro ot : Nat → Int64} {Bm : Nat → Nat → Nat → Int32} {bk : Nat → Nat → Int32} : KX3_emission l D ca ad [.ref 0, .int 1, .int 0, .int 1] (MW n vs wo un h (up bo 1 2) ta tr ro ot Bm bk) (some (.long (emM (Bm 2 1) 0 1))) (MW n vs wo un h (up bo 1 2) ta tr ro ot Bm bk) := by
  refine PX3_emission (Nat.le_of_ble_eq_true rfl) ?_
  intro G hT hC hR
  refine mB hT 26 rfl ?_
  refine hC _ 0 [_, _] _ _ _ _ _ (m_main_2_1) rfl rfl (Nat.le_of_ble_eq_true rfl) rfl ?_
  refine mB hT 2 rfl ?_
  exact hR _ (by decide) _ _ _ rfl rfl
set_option maxRecDepth 20000 in
theorem m_em_2_1_0_2 {n vs : Int32} {wo un h : Int64} {bo : Nat → Int32} {ta tr ro ot : Nat → Int64} {Bm : Nat → Nat → Nat → Int32} {bk : Nat → Nat → Int32} : KX3_emission l D ca ad [.ref 0, .int 1, .int 0, .int 2] (MW n vs wo un h (up bo 1 2) ta tr ro ot Bm bk) (some (.long (emM (Bm 2 1) 0 2))) (MW n vs wo un h (up bo 1 2) ta tr ro ot Bm bk) := by
  refine PX3_emission (Nat.le_of_ble_eq_true rfl) ?_
  intro G hT hC hR
  refine mB hT 26 rfl ?_
  refine hC _ 0 [_, _] _ _ _ _ _ (m_main_2_1) rfl rfl (Nat.le_of_ble_eq_true rfl) rfl ?_
  refine mB hT 2 rfl ?_
  exact hR _ (by decide) _ _ _ rfl rfl
set_option maxRecDepth 20000 in
theorem m_em_2_1_1_0 {n vs : Int32} {wo un h : Int64} {bo : Nat → Int32} {ta tr ro ot : Nat → Int64} {Bm : Nat → Nat → Nat → Int32} {bk : Nat → Nat → Int32} : KX3_emission l D ca ad [.ref 0, .int 1, .int 1, .int 0] (MW n vs wo un h (up bo 1 2) ta tr ro ot Bm bk) (some (.long (emM (Bm 2 1) 1 0))) (MW n vs wo un h (up bo 1 2) ta tr ro ot Bm bk) := by
  refine PX3_emission (Nat.le_of_ble_eq_true rfl) ?_
  intro G hT hC hR
  refine mB hT 26 rfl ?_
  refine hC _ 0 [_, _] _ _ _ _ _ (m_main_2_1) rfl rfl (Nat.le_of_ble_eq_true rfl) rfl ?_
  refine mB hT 2 rfl ?_
  exact hR _ (by decide) _ _ _ rfl rfl
set_option maxRecDepth 20000 in
theorem m_em_2_1_1_1 {n vs : Int32} {wo un h : Int64} {bo : Nat → Int32} {ta tr ro ot : Nat → Int64} {Bm : Nat → Nat → Nat → Int32} {bk : Nat → Nat → Int32} : KX3_emission l D ca ad [.ref 0, .int 1, .int 1, .int 1] (MW n vs wo un h (up bo 1 2) ta tr ro ot Bm bk) (some (.long (emM (Bm 2 1) 1 1))) (MW n vs wo un h (up bo 1 2) ta tr ro ot Bm bk) := by
  refine PX3_emission (Nat.le_of_ble_eq_true rfl) ?_
  intro G hT hC hR
  refine mB hT 26 rfl ?_
  refine hC _ 0 [_, _] _ _ _ _ _ (m_main_2_1) rfl rfl (Nat.le_of_ble_eq_true rfl) rfl ?_
  refine mB hT 2 rfl ?_
  exact hR _ (by decide) _ _ _ rfl rfl
set_option maxRecDepth 20000 in
theorem m_em_2_1_1_2 {n vs : Int32} {wo un h : Int64} {bo : Nat → Int32} {ta tr ro ot : Nat → Int64} {Bm : Nat → Nat → Nat → Int32} {bk : Nat → Nat → Int32} : KX3_emission l D ca ad [.ref 0, .int 1, .int 1, .int 2] (MW n vs wo un h (up bo 1 2) ta tr ro ot Bm bk) (some (.long (emM (Bm 2 1) 1 2))) (MW n vs wo un h (up bo 1 2) ta tr ro ot Bm bk) := by
  refine PX3_emission (Nat.le_of_ble_eq_true rfl) ?_
  intro G hT hC hR
  refine mB hT 26 rfl ?_
  refine hC _ 0 [_, _] _ _ _ _ _ (m_main_2_1) rfl rfl (Nat.le_of_ble_eq_true rfl) rfl ?_
  refine mB hT 2 rfl ?_
  exact hR _ (by decide) _ _ _ rfl rfl
set_option maxRecDepth 20000 in
theorem m_em_2_1_2_0 {n vs : Int32} {wo un h : Int64} {bo : Nat → Int32} {ta tr ro ot : Nat → Int64} {Bm : Nat → Nat → Nat → Int32} {bk : Nat → Nat → Int32} : KX3_emission l D ca ad [.ref 0, .int 1, .int 2, .int 0] (MW n vs wo un h (up bo 1 2) ta tr ro ot Bm bk) (some (.long (emM (Bm 2 1) 2 0))) (MW n vs wo un h (up bo 1 2) ta tr ro ot Bm bk) := by
  refine PX3_emission (Nat.le_of_ble_eq_true rfl) ?_
  intro G hT hC hR
  refine mB hT 26 rfl ?_
  refine hC _ 0 [_, _] _ _ _ _ _ (m_main_2_1) rfl rfl (Nat.le_of_ble_eq_true rfl) rfl ?_
  refine mB hT 2 rfl ?_
  exact hR _ (by decide) _ _ _ rfl rfl
set_option maxRecDepth 20000 in
theorem m_em_2_1_2_1 {n vs : Int32} {wo un h : Int64} {bo : Nat → Int32} {ta tr ro ot : Nat → Int64} {Bm : Nat → Nat → Nat → Int32} {bk : Nat → Nat → Int32} : KX3_emission l D ca ad [.ref 0, .int 1, .int 2, .int 1] (MW n vs wo un h (up bo 1 2) ta tr ro ot Bm bk) (some (.long (emM (Bm 2 1) 2 1))) (MW n vs wo un h (up bo 1 2) ta tr ro ot Bm bk) := by
  refine PX3_emission (Nat.le_of_ble_eq_true rfl) ?_
  intro G hT hC hR
  refine mB hT 26 rfl ?_
  refine hC _ 0 [_, _] _ _ _ _ _ (m_main_2_1) rfl rfl (Nat.le_of_ble_eq_true rfl) rfl ?_
  refine mB hT 2 rfl ?_
  exact hR _ (by decide) _ _ _ rfl rfl
set_option maxRecDepth 20000 in
theorem m_em_2_1_2_2 {n vs : Int32} {wo un h : Int64} {bo : Nat → Int32} {ta tr ro ot : Nat → Int64} {Bm : Nat → Nat → Nat → Int32} {bk : Nat → Nat → Int32} : KX3_emission l D ca ad [.ref 0, .int 1, .int 2, .int 2] (MW n vs wo un h (up bo 1 2) ta tr ro ot Bm bk) (some (.long (emM (Bm 2 1) 2 2))) (MW n vs wo un h (up bo 1 2) ta tr ro ot Bm bk) := by
  refine PX3_emission (Nat.le_of_ble_eq_true rfl) ?_
  intro G hT hC hR
  refine mB hT 26 rfl ?_
  refine hC _ 0 [_, _] _ _ _ _ _ (m_main_2_1) rfl rfl (Nat.le_of_ble_eq_true rfl) rfl ?_
  refine mB hT 2 rfl ?_
  exact hR _ (by decide) _ _ _ rfl rfl
theorem m_em_2_1 {n vs : Int32} {wo un h : Int64} {bo : Nat → Int32} {ta tr ro ot : Nat → Int64} {Bm : Nat → Nat → Nat → Int32} {bk : Nat → Nat → Int32} (k s : Nat) (hk : k < 3) (hs : s < 3) : KX3_emission l D ca ad [.ref 0, .int 1, .int (Int32.ofNat k), .int (Int32.ofNat s)] (MW n vs wo un h (up bo 1 2) ta tr ro ot Bm bk) (some (.long (emM (Bm 2 1) k s))) (MW n vs wo un h (up bo 1 2) ta tr ro ot Bm bk) := by
  match k, hk, s, hs with
  | 0, _, 0, _ => exact m_em_2_1_0_0
  | 0, _, 1, _ => exact m_em_2_1_0_1
  | 0, _, 2, _ => exact m_em_2_1_0_2
  | 1, _, 0, _ => exact m_em_2_1_1_0
  | 1, _, 1, _ => exact m_em_2_1_1_1
  | 1, _, 2, _ => exact m_em_2_1_1_2
  | 2, _, 0, _ => exact m_em_2_1_2_0
  | 2, _, 1, _ => exact m_em_2_1_2_1
  | 2, _, 2, _ => exact m_em_2_1_2_2
set_option maxRecDepth 20000 in
theorem m_em_2_2_0_0 {n vs : Int32} {wo un h : Int64} {bo : Nat → Int32} {ta tr ro ot : Nat → Int64} {Bm : Nat → Nat → Nat → Int32} {bk : Nat → Nat → Int32} : KX3_emission l D ca ad [.ref 0, .int 2, .int 0, .int 0] (MW n vs wo un h (up bo 2 2) ta tr ro ot Bm bk) (some (.long (emM (Bm 2 2) 0 0))) (MW n vs wo un h (up bo 2 2) ta tr ro ot Bm bk) := by
  refine PX3_emission (Nat.le_of_ble_eq_true rfl) ?_
  intro G hT hC hR
  refine mB hT 26 rfl ?_
  refine hC _ 0 [_, _] _ _ _ _ _ (m_main_2_2) rfl rfl (Nat.le_of_ble_eq_true rfl) rfl ?_
  refine mB hT 2 rfl ?_
  exact hR _ (by decide) _ _ _ rfl rfl
set_option maxRecDepth 20000 in
theorem m_em_2_2_0_1 {n vs : Int32} {wo un h : Int64} {bo : Nat → Int32} {ta tr ro ot : Nat → Int64} {Bm : Nat → Nat → Nat → Int32} {bk : Nat → Nat → Int32} : KX3_emission l D ca ad [.ref 0, .int 2, .int 0, .int 1] (MW n vs wo un h (up bo 2 2) ta tr ro ot Bm bk) (some (.long (emM (Bm 2 2) 0 1))) (MW n vs wo un h (up bo 2 2) ta tr ro ot Bm bk) := by
  refine PX3_emission (Nat.le_of_ble_eq_true rfl) ?_
  intro G hT hC hR
  refine mB hT 26 rfl ?_
  refine hC _ 0 [_, _] _ _ _ _ _ (m_main_2_2) rfl rfl (Nat.le_of_ble_eq_true rfl) rfl ?_
  refine mB hT 2 rfl ?_
  exact hR _ (by decide) _ _ _ rfl rfl
set_option maxRecDepth 20000 in
theorem m_em_2_2_0_2 {n vs : Int32} {wo un h : Int64} {bo : Nat → Int32} {ta tr ro ot : Nat → Int64} {Bm : Nat → Nat → Nat → Int32} {bk : Nat → Nat → Int32} : KX3_emission l D ca ad [.ref 0, .int 2, .int 0, .int 2] (MW n vs wo un h (up bo 2 2) ta tr ro ot Bm bk) (some (.long (emM (Bm 2 2) 0 2))) (MW n vs wo un h (up bo 2 2) ta tr ro ot Bm bk) := by
  refine PX3_emission (Nat.le_of_ble_eq_true rfl) ?_
  intro G hT hC hR
  refine mB hT 26 rfl ?_
  refine hC _ 0 [_, _] _ _ _ _ _ (m_main_2_2) rfl rfl (Nat.le_of_ble_eq_true rfl) rfl ?_
  refine mB hT 2 rfl ?_
  exact hR _ (by decide) _ _ _ rfl rfl
set_option maxRecDepth 20000 in
theorem m_em_2_2_1_0 {n vs : Int32} {wo un h : Int64} {bo : Nat → Int32} {ta tr ro ot : Nat → Int64} {Bm : Nat → Nat → Nat → Int32} {bk : Nat → Nat → Int32} : KX3_emission l D ca ad [.ref 0, .int 2, .int 1, .int 0] (MW n vs wo un h (up bo 2 2) ta tr ro ot Bm bk) (some (.long (emM (Bm 2 2) 1 0))) (MW n vs wo un h (up bo 2 2) ta tr ro ot Bm bk) := by
  refine PX3_emission (Nat.le_of_ble_eq_true rfl) ?_
  intro G hT hC hR
  refine mB hT 26 rfl ?_
  refine hC _ 0 [_, _] _ _ _ _ _ (m_main_2_2) rfl rfl (Nat.le_of_ble_eq_true rfl) rfl ?_
  refine mB hT 2 rfl ?_
  exact hR _ (by decide) _ _ _ rfl rfl
set_option maxRecDepth 20000 in
theorem m_em_2_2_1_1 {n vs : Int32} {wo un h : Int64} {bo : Nat → Int32} {ta tr ro ot : Nat → Int64} {Bm : Nat → Nat → Nat → Int32} {bk : Nat → Nat → Int32} : KX3_emission l D ca ad [.ref 0, .int 2, .int 1, .int 1] (MW n vs wo un h (up bo 2 2) ta tr ro ot Bm bk) (some (.long (emM (Bm 2 2) 1 1))) (MW n vs wo un h (up bo 2 2) ta tr ro ot Bm bk) := by
  refine PX3_emission (Nat.le_of_ble_eq_true rfl) ?_
  intro G hT hC hR
  refine mB hT 26 rfl ?_
  refine hC _ 0 [_, _] _ _ _ _ _ (m_main_2_2) rfl rfl (Nat.le_of_ble_eq_true rfl) rfl ?_
  refine mB hT 2 rfl ?_
  exact hR _ (by decide) _ _ _ rfl rfl
set_option maxRecDepth 20000 in
theorem m_em_2_2_1_2 {n vs : Int32} {wo un h : Int64} {bo : Nat → Int32} {ta tr ro ot : Nat → Int64} {Bm : Nat → Nat → Nat → Int32} {bk : Nat → Nat → Int32} : KX3_emission l D ca ad [.ref 0, .int 2, .int 1, .int 2] (MW n vs wo un h (up bo 2 2) ta tr ro ot Bm bk) (some (.long (emM (Bm 2 2) 1 2))) (MW n vs wo un h (up bo 2 2) ta tr ro ot Bm bk) := by
  refine PX3_emission (Nat.le_of_ble_eq_true rfl) ?_
  intro G hT hC hR
  refine mB hT 26 rfl ?_
  refine hC _ 0 [_, _] _ _ _ _ _ (m_main_2_2) rfl rfl (Nat.le_of_ble_eq_true rfl) rfl ?_
  refine mB hT 2 rfl ?_
  exact hR _ (by decide) _ _ _ rfl rfl
set_option maxRecDepth 20000 in
theorem m_em_2_2_2_0 {n vs : Int32} {wo un h : Int64} {bo : Nat → Int32} {ta tr ro ot : Nat → Int64} {Bm : Nat → Nat → Nat → Int32} {bk : Nat → Nat → Int32} : KX3_emission l D ca ad [.ref 0, .int 2, .int 2, .int 0] (MW n vs wo un h (up bo 2 2) ta tr ro ot Bm bk) (some (.long (emM (Bm 2 2) 2 0))) (MW n vs wo un h (up bo 2 2) ta tr ro ot Bm bk) := by
  refine PX3_emission (Nat.le_of_ble_eq_true rfl) ?_
  intro G hT hC hR
  refine mB hT 26 rfl ?_
  refine hC _ 0 [_, _] _ _ _ _ _ (m_main_2_2) rfl rfl (Nat.le_of_ble_eq_true rfl) rfl ?_
  refine mB hT 2 rfl ?_
  exact hR _ (by decide) _ _ _ rfl rfl
set_option maxRecDepth 20000 in
theorem m_em_2_2_2_1 {n vs : Int32} {wo un h : Int64} {bo : Nat → Int32} {ta tr ro ot : Nat → Int64} {Bm : Nat → Nat → Nat → Int32} {bk : Nat → Nat → Int32} : KX3_emission l D ca ad [.ref 0, .int 2, .int 2, .int 1] (MW n vs wo un h (up bo 2 2) ta tr ro ot Bm bk) (some (.long (emM (Bm 2 2) 2 1))) (MW n vs wo un h (up bo 2 2) ta tr ro ot Bm bk) := by
  refine PX3_emission (Nat.le_of_ble_eq_true rfl) ?_
  intro G hT hC hR
  refine mB hT 26 rfl ?_
  refine hC _ 0 [_, _] _ _ _ _ _ (m_main_2_2) rfl rfl (Nat.le_of_ble_eq_true rfl) rfl ?_
  refine mB hT 2 rfl ?_
  exact hR _ (by decide) _ _ _ rfl rfl
set_option maxRecDepth 20000 in
theorem m_em_2_2_2_2 {n vs : Int32} {wo un h : Int64} {bo : Nat → Int32} {ta tr ro ot : Nat → Int64} {Bm : Nat → Nat → Nat → Int32} {bk : Nat → Nat → Int32} : KX3_emission l D ca ad [.ref 0, .int 2, .int 2, .int 2] (MW n vs wo un h (up bo 2 2) ta tr ro ot Bm bk) (some (.long (emM (Bm 2 2) 2 2))) (MW n vs wo un h (up bo 2 2) ta tr ro ot Bm bk) := by
  refine PX3_emission (Nat.le_of_ble_eq_true rfl) ?_
  intro G hT hC hR
  refine mB hT 26 rfl ?_
  refine hC _ 0 [_, _] _ _ _ _ _ (m_main_2_2) rfl rfl (Nat.le_of_ble_eq_true rfl) rfl ?_
  refine mB hT 2 rfl ?_
  exact hR _ (by decide) _ _ _ rfl rfl
theorem m_em_2_2 {n vs : Int32} {wo un h : Int64} {bo : Nat → Int32} {ta tr ro ot : Nat → Int64} {Bm : Nat → Nat → Nat → Int32} {bk : Nat → Nat → Int32} (k s : Nat) (hk : k < 3) (hs : s < 3) : KX3_emission l D ca ad [.ref 0, .int 2, .int (Int32.ofNat k), .int (Int32.ofNat s)] (MW n vs wo un h (up bo 2 2) ta tr ro ot Bm bk) (some (.long (emM (Bm 2 2) k s))) (MW n vs wo un h (up bo 2 2) ta tr ro ot Bm bk) := by
  match k, hk, s, hs with
  | 0, _, 0, _ => exact m_em_2_2_0_0
  | 0, _, 1, _ => exact m_em_2_2_0_1
  | 0, _, 2, _ => exact m_em_2_2_0_2
  | 1, _, 0, _ => exact m_em_2_2_1_0
  | 1, _, 1, _ => exact m_em_2_2_1_1
  | 1, _, 2, _ => exact m_em_2_2_1_2
  | 2, _, 0, _ => exact m_em_2_2_2_0
  | 2, _, 1, _ => exact m_em_2_2_2_1
  | 2, _, 2, _ => exact m_em_2_2_2_2
set_option maxRecDepth 20000 in
theorem m_em_2_3_0_0 {n vs : Int32} {wo un h : Int64} {bo : Nat → Int32} {ta tr ro ot : Nat → Int64} {Bm : Nat → Nat → Nat → Int32} {bk : Nat → Nat → Int32} : KX3_emission l D ca ad [.ref 0, .int 3, .int 0, .int 0] (MW n vs wo un h (up bo 3 2) ta tr ro ot Bm bk) (some (.long (emM (Bm 2 3) 0 0))) (MW n vs wo un h (up bo 3 2) ta tr ro ot Bm bk) := by
  refine PX3_emission (Nat.le_of_ble_eq_true rfl) ?_
  intro G hT hC hR
  refine mB hT 26 rfl ?_
  refine hC _ 0 [_, _] _ _ _ _ _ (m_main_2_3) rfl rfl (Nat.le_of_ble_eq_true rfl) rfl ?_
  refine mB hT 2 rfl ?_
  exact hR _ (by decide) _ _ _ rfl rfl
set_option maxRecDepth 20000 in
theorem m_em_2_3_0_1 {n vs : Int32} {wo un h : Int64} {bo : Nat → Int32} {ta tr ro ot : Nat → Int64} {Bm : Nat → Nat → Nat → Int32} {bk : Nat → Nat → Int32} : KX3_emission l D ca ad [.ref 0, .int 3, .int 0, .int 1] (MW n vs wo un h (up bo 3 2) ta tr ro ot Bm bk) (some (.long (emM (Bm 2 3) 0 1))) (MW n vs wo un h (up bo 3 2) ta tr ro ot Bm bk) := by
  refine PX3_emission (Nat.le_of_ble_eq_true rfl) ?_
  intro G hT hC hR
  refine mB hT 26 rfl ?_
  refine hC _ 0 [_, _] _ _ _ _ _ (m_main_2_3) rfl rfl (Nat.le_of_ble_eq_true rfl) rfl ?_
  refine mB hT 2 rfl ?_
  exact hR _ (by decide) _ _ _ rfl rfl
set_option maxRecDepth 20000 in
theorem m_em_2_3_0_2 {n vs : Int32} {wo un h : Int64} {bo : Nat → Int32} {ta tr ro ot : Nat → Int64} {Bm : Nat → Nat → Nat → Int32} {bk : Nat → Nat → Int32} : KX3_emission l D ca ad [.ref 0, .int 3, .int 0, .int 2] (MW n vs wo un h (up bo 3 2) ta tr ro ot Bm bk) (some (.long (emM (Bm 2 3) 0 2))) (MW n vs wo un h (up bo 3 2) ta tr ro ot Bm bk) := by
  refine PX3_emission (Nat.le_of_ble_eq_true rfl) ?_
  intro G hT hC hR
  refine mB hT 26 rfl ?_
  refine hC _ 0 [_, _] _ _ _ _ _ (m_main_2_3) rfl rfl (Nat.le_of_ble_eq_true rfl) rfl ?_
  refine mB hT 2 rfl ?_
  exact hR _ (by decide) _ _ _ rfl rfl
set_option maxRecDepth 20000 in
theorem m_em_2_3_1_0 {n vs : Int32} {wo un h : Int64} {bo : Nat → Int32} {ta tr ro ot : Nat → Int64} {Bm : Nat → Nat → Nat → Int32} {bk : Nat → Nat → Int32} : KX3_emission l D ca ad [.ref 0, .int 3, .int 1, .int 0] (MW n vs wo un h (up bo 3 2) ta tr ro ot Bm bk) (some (.long (emM (Bm 2 3) 1 0))) (MW n vs wo un h (up bo 3 2) ta tr ro ot Bm bk) := by
  refine PX3_emission (Nat.le_of_ble_eq_true rfl) ?_
  intro G hT hC hR
  refine mB hT 26 rfl ?_
  refine hC _ 0 [_, _] _ _ _ _ _ (m_main_2_3) rfl rfl (Nat.le_of_ble_eq_true rfl) rfl ?_
  refine mB hT 2 rfl ?_
  exact hR _ (by decide) _ _ _ rfl rfl
set_option maxRecDepth 20000 in
theorem m_em_2_3_1_1 {n vs : Int32} {wo un h : Int64} {bo : Nat → Int32} {ta tr ro ot : Nat → Int64} {Bm : Nat → Nat → Nat → Int32} {bk : Nat → Nat → Int32} : KX3_emission l D ca ad [.ref 0, .int 3, .int 1, .int 1] (MW n vs wo un h (up bo 3 2) ta tr ro ot Bm bk) (some (.long (emM (Bm 2 3) 1 1))) (MW n vs wo un h (up bo 3 2) ta tr ro ot Bm bk) := by
  refine PX3_emission (Nat.le_of_ble_eq_true rfl) ?_
  intro G hT hC hR
  refine mB hT 26 rfl ?_
  refine hC _ 0 [_, _] _ _ _ _ _ (m_main_2_3) rfl rfl (Nat.le_of_ble_eq_true rfl) rfl ?_
  refine mB hT 2 rfl ?_
  exact hR _ (by decide) _ _ _ rfl rfl
set_option maxRecDepth 20000 in
theorem m_em_2_3_1_2 {n vs : Int32} {wo un h : Int64} {bo : Nat → Int32} {ta tr ro ot : Nat → Int64} {Bm : Nat → Nat → Nat → Int32} {bk : Nat → Nat → Int32} : KX3_emission l D ca ad [.ref 0, .int 3, .int 1, .int 2] (MW n vs wo un h (up bo 3 2) ta tr ro ot Bm bk) (some (.long (emM (Bm 2 3) 1 2))) (MW n vs wo un h (up bo 3 2) ta tr ro ot Bm bk) := by
  refine PX3_emission (Nat.le_of_ble_eq_true rfl) ?_
  intro G hT hC hR
  refine mB hT 26 rfl ?_
  refine hC _ 0 [_, _] _ _ _ _ _ (m_main_2_3) rfl rfl (Nat.le_of_ble_eq_true rfl) rfl ?_
  refine mB hT 2 rfl ?_
  exact hR _ (by decide) _ _ _ rfl rfl
set_option maxRecDepth 20000 in
theorem m_em_2_3_2_0 {n vs : Int32} {wo un h : Int64} {bo : Nat → Int32} {ta tr ro ot : Nat → Int64} {Bm : Nat → Nat → Nat → Int32} {bk : Nat → Nat → Int32} : KX3_emission l D ca ad [.ref 0, .int 3, .int 2, .int 0] (MW n vs wo un h (up bo 3 2) ta tr ro ot Bm bk) (some (.long (emM (Bm 2 3) 2 0))) (MW n vs wo un h (up bo 3 2) ta tr ro ot Bm bk) := by
  refine PX3_emission (Nat.le_of_ble_eq_true rfl) ?_
  intro G hT hC hR
  refine mB hT 26 rfl ?_
  refine hC _ 0 [_, _] _ _ _ _ _ (m_main_2_3) rfl rfl (Nat.le_of_ble_eq_true rfl) rfl ?_
  refine mB hT 2 rfl ?_
  exact hR _ (by decide) _ _ _ rfl rfl
set_option maxRecDepth 20000 in
theorem m_em_2_3_2_1 {n vs : Int32} {wo un h : Int64} {bo : Nat → Int32} {ta tr ro ot : Nat → Int64} {Bm : Nat → Nat → Nat → Int32} {bk : Nat → Nat → Int32} : KX3_emission l D ca ad [.ref 0, .int 3, .int 2, .int 1] (MW n vs wo un h (up bo 3 2) ta tr ro ot Bm bk) (some (.long (emM (Bm 2 3) 2 1))) (MW n vs wo un h (up bo 3 2) ta tr ro ot Bm bk) := by
  refine PX3_emission (Nat.le_of_ble_eq_true rfl) ?_
  intro G hT hC hR
  refine mB hT 26 rfl ?_
  refine hC _ 0 [_, _] _ _ _ _ _ (m_main_2_3) rfl rfl (Nat.le_of_ble_eq_true rfl) rfl ?_
  refine mB hT 2 rfl ?_
  exact hR _ (by decide) _ _ _ rfl rfl
set_option maxRecDepth 20000 in
theorem m_em_2_3_2_2 {n vs : Int32} {wo un h : Int64} {bo : Nat → Int32} {ta tr ro ot : Nat → Int64} {Bm : Nat → Nat → Nat → Int32} {bk : Nat → Nat → Int32} : KX3_emission l D ca ad [.ref 0, .int 3, .int 2, .int 2] (MW n vs wo un h (up bo 3 2) ta tr ro ot Bm bk) (some (.long (emM (Bm 2 3) 2 2))) (MW n vs wo un h (up bo 3 2) ta tr ro ot Bm bk) := by
  refine PX3_emission (Nat.le_of_ble_eq_true rfl) ?_
  intro G hT hC hR
  refine mB hT 26 rfl ?_
  refine hC _ 0 [_, _] _ _ _ _ _ (m_main_2_3) rfl rfl (Nat.le_of_ble_eq_true rfl) rfl ?_
  refine mB hT 2 rfl ?_
  exact hR _ (by decide) _ _ _ rfl rfl
theorem m_em_2_3 {n vs : Int32} {wo un h : Int64} {bo : Nat → Int32} {ta tr ro ot : Nat → Int64} {Bm : Nat → Nat → Nat → Int32} {bk : Nat → Nat → Int32} (k s : Nat) (hk : k < 3) (hs : s < 3) : KX3_emission l D ca ad [.ref 0, .int 3, .int (Int32.ofNat k), .int (Int32.ofNat s)] (MW n vs wo un h (up bo 3 2) ta tr ro ot Bm bk) (some (.long (emM (Bm 2 3) k s))) (MW n vs wo un h (up bo 3 2) ta tr ro ot Bm bk) := by
  match k, hk, s, hs with
  | 0, _, 0, _ => exact m_em_2_3_0_0
  | 0, _, 1, _ => exact m_em_2_3_0_1
  | 0, _, 2, _ => exact m_em_2_3_0_2
  | 1, _, 0, _ => exact m_em_2_3_1_0
  | 1, _, 1, _ => exact m_em_2_3_1_1
  | 1, _, 2, _ => exact m_em_2_3_1_2
  | 2, _, 0, _ => exact m_em_2_3_2_0
  | 2, _, 1, _ => exact m_em_2_3_2_1
  | 2, _, 2, _ => exact m_em_2_3_2_2
set_option maxRecDepth 20000 in
theorem m_em_3_0_0_0 {n vs : Int32} {wo un h : Int64} {bo : Nat → Int32} {ta tr ro ot : Nat → Int64} {Bm : Nat → Nat → Nat → Int32} {bk : Nat → Nat → Int32} : KX3_emission l D ca ad [.ref 0, .int 0, .int 0, .int 0] (MW n vs wo un h (up bo 0 3) ta tr ro ot Bm bk) (some (.long (emM (Bm 3 0) 0 0))) (MW n vs wo un h (up bo 0 3) ta tr ro ot Bm bk) := by
  refine PX3_emission (Nat.le_of_ble_eq_true rfl) ?_
  intro G hT hC hR
  refine mB hT 26 rfl ?_
  refine hC _ 0 [_, _] _ _ _ _ _ (m_main_3_0) rfl rfl (Nat.le_of_ble_eq_true rfl) rfl ?_
  refine mB hT 2 rfl ?_
  exact hR _ (by decide) _ _ _ rfl rfl
set_option maxRecDepth 20000 in
theorem m_em_3_0_0_1 {n vs : Int32} {wo un h : Int64} {bo : Nat → Int32} {ta tr ro ot : Nat → Int64} {Bm : Nat → Nat → Nat → Int32} {bk : Nat → Nat → Int32} : KX3_emission l D ca ad [.ref 0, .int 0, .int 0, .int 1] (MW n vs wo un h (up bo 0 3) ta tr ro ot Bm bk) (some (.long (emM (Bm 3 0) 0 1))) (MW n vs wo un h (up bo 0 3) ta tr ro ot Bm bk) := by
  refine PX3_emission (Nat.le_of_ble_eq_true rfl) ?_
  intro G hT hC hR
  refine mB hT 26 rfl ?_
  refine hC _ 0 [_, _] _ _ _ _ _ (m_main_3_0) rfl rfl (Nat.le_of_ble_eq_true rfl) rfl ?_
  refine mB hT 2 rfl ?_
  exact hR _ (by decide) _ _ _ rfl rfl
set_option maxRecDepth 20000 in
theorem m_em_3_0_0_2 {n vs : Int32} {wo un h : Int64} {bo : Nat → Int32} {ta tr ro ot : Nat → Int64} {Bm : Nat → Nat → Nat → Int32} {bk : Nat → Nat → Int32} : KX3_emission l D ca ad [.ref 0, .int 0, .int 0, .int 2] (MW n vs wo un h (up bo 0 3) ta tr ro ot Bm bk) (some (.long (emM (Bm 3 0) 0 2))) (MW n vs wo un h (up bo 0 3) ta tr ro ot Bm bk) := by
  refine PX3_emission (Nat.le_of_ble_eq_true rfl) ?_
  intro G hT hC hR
  refine mB hT 26 rfl ?_
  refine hC _ 0 [_, _] _ _ _ _ _ (m_main_3_0) rfl rfl (Nat.le_of_ble_eq_true rfl) rfl ?_
  refine mB hT 2 rfl ?_
  exact hR _ (by decide) _ _ _ rfl rfl
set_option maxRecDepth 20000 in
theorem m_em_3_0_1_0 {n vs : Int32} {wo un h : Int64} {bo : Nat → Int32} {ta tr ro ot : Nat → Int64} {Bm : Nat → Nat → Nat → Int32} {bk : Nat → Nat → Int32} : KX3_emission l D ca ad [.ref 0, .int 0, .int 1, .int 0] (MW n vs wo un h (up bo 0 3) ta tr ro ot Bm bk) (some (.long (emM (Bm 3 0) 1 0))) (MW n vs wo un h (up bo 0 3) ta tr ro ot Bm bk) := by
  refine PX3_emission (Nat.le_of_ble_eq_true rfl) ?_
  intro G hT hC hR
  refine mB hT 26 rfl ?_
  refine hC _ 0 [_, _] _ _ _ _ _ (m_main_3_0) rfl rfl (Nat.le_of_ble_eq_true rfl) rfl ?_
  refine mB hT 2 rfl ?_
  exact hR _ (by decide) _ _ _ rfl rfl
set_option maxRecDepth 20000 in
theorem m_em_3_0_1_1 {n vs : Int32} {wo un h : Int64} {bo : Nat → Int32} {ta tr ro ot : Nat → Int64} {Bm : Nat → Nat → Nat → Int32} {bk : Nat → Nat → Int32} : KX3_emission l D ca ad [.ref 0, .int 0, .int 1, .int 1] (MW n vs wo un h (up bo 0 3) ta tr ro ot Bm bk) (some (.long (emM (Bm 3 0) 1 1))) (MW n vs wo un h (up bo 0 3) ta tr ro ot Bm bk) := by
  refine PX3_emission (Nat.le_of_ble_eq_true rfl) ?_
  intro G hT hC hR
  refine mB hT 26 rfl ?_
  refine hC _ 0 [_, _] _ _ _ _ _ (m_main_3_0) rfl rfl (Nat.le_of_ble_eq_true rfl) rfl ?_
  refine mB hT 2 rfl ?_
  exact hR _ (by decide) _ _ _ rfl rfl
set_option maxRecDepth 20000 in
theorem m_em_3_0_1_2 {n vs : Int32} {wo un h : Int64} {bo : Nat → Int32} {ta tr ro ot : Nat → Int64} {Bm : Nat → Nat → Nat → Int32} {bk : Nat → Nat → Int32} : KX3_emission l D ca ad [.ref 0, .int 0, .int 1, .int 2] (MW n vs wo un h (up bo 0 3) ta tr ro ot Bm bk) (some (.long (emM (Bm 3 0) 1 2))) (MW n vs wo un h (up bo 0 3) ta tr ro ot Bm bk) := by
  refine PX3_emission (Nat.le_of_ble_eq_true rfl) ?_
  intro G hT hC hR
  refine mB hT 26 rfl ?_
  refine hC _ 0 [_, _] _ _ _ _ _ (m_main_3_0) rfl rfl (Nat.le_of_ble_eq_true rfl) rfl ?_
  refine mB hT 2 rfl ?_
  exact hR _ (by decide) _ _ _ rfl rfl
set_option maxRecDepth 20000 in
theorem m_em_3_0_2_0 {n vs : Int32} {wo un h : Int64} {bo : Nat → Int32} {ta tr ro ot : Nat → Int64} {Bm : Nat → Nat → Nat → Int32} {bk : Nat → Nat → Int32} : KX3_emission l D ca ad [.ref 0, .int 0, .int 2, .int 0] (MW n vs wo un h (up bo 0 3) ta tr ro ot Bm bk) (some (.long (emM (Bm 3 0) 2 0))) (MW n vs wo un h (up bo 0 3) ta tr ro ot Bm bk) := by
  refine PX3_emission (Nat.le_of_ble_eq_true rfl) ?_
  intro G hT hC hR
  refine mB hT 26 rfl ?_
  refine hC _ 0 [_, _] _ _ _ _ _ (m_main_3_0) rfl rfl (Nat.le_of_ble_eq_true rfl) rfl ?_
  refine mB hT 2 rfl ?_
  exact hR _ (by decide) _ _ _ rfl rfl
set_option maxRecDepth 20000 in
theorem m_em_3_0_2_1 {n vs : Int32} {wo un h : Int64} {bo : Nat → Int32} {ta tr ro ot : Nat → Int64} {Bm : Nat → Nat → Nat → Int32} {bk : Nat → Nat → Int32} : KX3_emission l D ca ad [.ref 0, .int 0, .int 2, .int 1] (MW n vs wo un h (up bo 0 3) ta tr ro ot Bm bk) (some (.long (emM (Bm 3 0) 2 1))) (MW n vs wo un h (up bo 0 3) ta tr ro ot Bm bk) := by
  refine PX3_emission (Nat.le_of_ble_eq_true rfl) ?_
  intro G hT hC hR
  refine mB hT 26 rfl ?_
  refine hC _ 0 [_, _] _ _ _ _ _ (m_main_3_0) rfl rfl (Nat.le_of_ble_eq_true rfl) rfl ?_
  refine mB hT 2 rfl ?_
  exact hR _ (by decide) _ _ _ rfl rfl
set_option maxRecDepth 20000 in
theorem m_em_3_0_2_2 {n vs : Int32} {wo un h : Int64} {bo : Nat → Int32} {ta tr ro ot : Nat → Int64} {Bm : Nat → Nat → Nat → Int32} {bk : Nat → Nat → Int32} : KX3_emission l D ca ad [.ref 0, .int 0, .int 2, .int 2] (MW n vs wo un h (up bo 0 3) ta tr ro ot Bm bk) (some (.long (emM (Bm 3 0) 2 2))) (MW n vs wo un h (up bo 0 3) ta tr ro ot Bm bk) := by
  refine PX3_emission (Nat.le_of_ble_eq_true rfl) ?_
  intro G hT hC hR
  refine mB hT 26 rfl ?_
  refine hC _ 0 [_, _] _ _ _ _ _ (m_main_3_0) rfl rfl (Nat.le_of_ble_eq_true rfl) rfl ?_
  refine mB hT 2 rfl ?_
  exact hR _ (by decide) _ _ _ rfl rfl
theorem m_em_3_0 {n vs : Int32} {wo un h : Int64} {bo : Nat → Int32} {ta tr ro ot : Nat → Int64} {Bm : Nat → Nat → Nat → Int32} {bk : Nat → Nat → Int32} (k s : Nat) (hk : k < 3) (hs : s < 3) : KX3_emission l D ca ad [.ref 0, .int 0, .int (Int32.ofNat k), .int (Int32.ofNat s)] (MW n vs wo un h (up bo 0 3) ta tr ro ot Bm bk) (some (.long (emM (Bm 3 0) k s))) (MW n vs wo un h (up bo 0 3) ta tr ro ot Bm bk) := by
  match k, hk, s, hs with
  | 0, _, 0, _ => exact m_em_3_0_0_0
  | 0, _, 1, _ => exact m_em_3_0_0_1
  | 0, _, 2, _ => exact m_em_3_0_0_2
  | 1, _, 0, _ => exact m_em_3_0_1_0
  | 1, _, 1, _ => exact m_em_3_0_1_1
  | 1, _, 2, _ => exact m_em_3_0_1_2
  | 2, _, 0, _ => exact m_em_3_0_2_0
  | 2, _, 1, _ => exact m_em_3_0_2_1
  | 2, _, 2, _ => exact m_em_3_0_2_2
set_option maxRecDepth 20000 in
theorem m_em_3_1_0_0 {n vs : Int32} {wo un h : Int64} {bo : Nat → Int32} {ta tr ro ot : Nat → Int64} {Bm : Nat → Nat → Nat → Int32} {bk : Nat → Nat → Int32} : KX3_emission l D ca ad [.ref 0, .int 1, .int 0, .int 0] (MW n vs wo un h (up bo 1 3) ta tr ro ot Bm bk) (some (.long (emM (Bm 3 1) 0 0))) (MW n vs wo un h (up bo 1 3) ta tr ro ot Bm bk) := by
  refine PX3_emission (Nat.le_of_ble_eq_true rfl) ?_
  intro G hT hC hR
  refine mB hT 26 rfl ?_
  refine hC _ 0 [_, _] _ _ _ _ _ (m_main_3_1) rfl rfl (Nat.le_of_ble_eq_true rfl) rfl ?_
  refine mB hT 2 rfl ?_
  exact hR _ (by decide) _ _ _ rfl rfl
set_option maxRecDepth 20000 in
theorem m_em_3_1_0_1 {n vs : Int32} {wo un h : Int64} {bo : Nat → Int32} {ta tr ro ot : Nat → Int64} {Bm : Nat → Nat → Nat → Int32} {bk : Nat → Nat → Int32} : KX3_emission l D ca ad [.ref 0, .int 1, .int 0, .int 1] (MW n vs wo un h (up bo 1 3) ta tr ro ot Bm bk) (some (.long (emM (Bm 3 1) 0 1))) (MW n vs wo un h (up bo 1 3) ta tr ro ot Bm bk) := by
  refine PX3_emission (Nat.le_of_ble_eq_true rfl) ?_
  intro G hT hC hR
  refine mB hT 26 rfl ?_
  refine hC _ 0 [_, _] _ _ _ _ _ (m_main_3_1) rfl rfl (Nat.le_of_ble_eq_true rfl) rfl ?_
  refine mB hT 2 rfl ?_
  exact hR _ (by decide) _ _ _ rfl rfl
set_option maxRecDepth 20000 in
theorem m_em_3_1_0_2 {n vs : Int32} {wo un h : Int64} {bo : Nat → Int32} {ta tr ro ot : Nat → Int64} {Bm : Nat → Nat → Nat → Int32} {bk : Nat → Nat → Int32} : KX3_emission l D ca ad [.ref 0, .int 1, .int 0, .int 2] (MW n vs wo un h (up bo 1 3) ta tr ro ot Bm bk) (some (.long (emM (Bm 3 1) 0 2))) (MW n vs wo un h (up bo 1 3) ta tr ro ot Bm bk) := by
  refine PX3_emission (Nat.le_of_ble_eq_true rfl) ?_
  intro G hT hC hR
  refine mB hT 26 rfl ?_
  refine hC _ 0 [_, _] _ _ _ _ _ (m_main_3_1) rfl rfl (Nat.le_of_ble_eq_true rfl) rfl ?_
  refine mB hT 2 rfl ?_
  exact hR _ (by decide) _ _ _ rfl rfl
set_option maxRecDepth 20000 in
theorem m_em_3_1_1_0 {n vs : Int32} {wo un h : Int64} {bo : Nat → Int32} {ta tr ro ot : Nat → Int64} {Bm : Nat → Nat → Nat → Int32} {bk : Nat → Nat → Int32} : KX3_emission l D ca ad [.ref 0, .int 1, .int 1, .int 0] (MW n vs wo un h (up bo 1 3) ta tr ro ot Bm bk) (some (.long (emM (Bm 3 1) 1 0))) (MW n vs wo un h (up bo 1 3) ta tr ro ot Bm bk) := by
  refine PX3_emission (Nat.le_of_ble_eq_true rfl) ?_
  intro G hT hC hR
  refine mB hT 26 rfl ?_
  refine hC _ 0 [_, _] _ _ _ _ _ (m_main_3_1) rfl rfl (Nat.le_of_ble_eq_true rfl) rfl ?_
  refine mB hT 2 rfl ?_
  exact hR _ (by decide) _ _ _ rfl rfl
set_option maxRecDepth 20000 in
theorem m_em_3_1_1_1 {n vs : Int32} {wo un h : Int64} {bo : Nat → Int32} {ta tr ro ot : Nat → Int64} {Bm : Nat → Nat → Nat → Int32} {bk : Nat → Nat → Int32} : KX3_emission l D ca ad [.ref 0, .int 1, .int 1, .int 1] (MW n vs wo un h (up bo 1 3) ta tr ro ot Bm bk) (some (.long (emM (Bm 3 1) 1 1))) (MW n vs wo un h (up bo 1 3) ta tr ro ot Bm bk) := by
  refine PX3_emission (Nat.le_of_ble_eq_true rfl) ?_
  intro G hT hC hR
  refine mB hT 26 rfl ?_
  refine hC _ 0 [_, _] _ _ _ _ _ (m_main_3_1) rfl rfl (Nat.le_of_ble_eq_true rfl) rfl ?_
  refine mB hT 2 rfl ?_
  exact hR _ (by decide) _ _ _ rfl rfl
set_option maxRecDepth 20000 in
theorem m_em_3_1_1_2 {n vs : Int32} {wo un h : Int64} {bo : Nat → Int32} {ta tr ro ot : Nat → Int64} {Bm : Nat → Nat → Nat → Int32} {bk : Nat → Nat → Int32} : KX3_emission l D ca ad [.ref 0, .int 1, .int 1, .int 2] (MW n vs wo un h (up bo 1 3) ta tr ro ot Bm bk) (some (.long (emM (Bm 3 1) 1 2))) (MW n vs wo un h (up bo 1 3) ta tr ro ot Bm bk) := by
  refine PX3_emission (Nat.le_of_ble_eq_true rfl) ?_
  intro G hT hC hR
  refine mB hT 26 rfl ?_
  refine hC _ 0 [_, _] _ _ _ _ _ (m_main_3_1) rfl rfl (Nat.le_of_ble_eq_true rfl) rfl ?_
  refine mB hT 2 rfl ?_
  exact hR _ (by decide) _ _ _ rfl rfl
set_option maxRecDepth 20000 in
theorem m_em_3_1_2_0 {n vs : Int32} {wo un h : Int64} {bo : Nat → Int32} {ta tr ro ot : Nat → Int64} {Bm : Nat → Nat → Nat → Int32} {bk : Nat → Nat → Int32} : KX3_emission l D ca ad [.ref 0, .int 1, .int 2, .int 0] (MW n vs wo un h (up bo 1 3) ta tr ro ot Bm bk) (some (.long (emM (Bm 3 1) 2 0))) (MW n vs wo un h (up bo 1 3) ta tr ro ot Bm bk) := by
  refine PX3_emission (Nat.le_of_ble_eq_true rfl) ?_
  intro G hT hC hR
  refine mB hT 26 rfl ?_
  refine hC _ 0 [_, _] _ _ _ _ _ (m_main_3_1) rfl rfl (Nat.le_of_ble_eq_true rfl) rfl ?_
  refine mB hT 2 rfl ?_
  exact hR _ (by decide) _ _ _ rfl rfl
set_option maxRecDepth 20000 in
theorem m_em_3_1_2_1 {n vs : Int32} {wo un h : Int64} {bo : Nat → Int32} {ta tr ro ot : Nat → Int64} {Bm : Nat → Nat → Nat → Int32} {bk : Nat → Nat → Int32} : KX3_emission l D ca ad [.ref 0, .int 1, .int 2, .int 1] (MW n vs wo un h (up bo 1 3) ta tr ro ot Bm bk) (some (.long (emM (Bm 3 1) 2 1))) (MW n vs wo un h (up bo 1 3) ta tr ro ot Bm bk) := by
  refine PX3_emission (Nat.le_of_ble_eq_true rfl) ?_
  intro G hT hC hR
  refine mB hT 26 rfl ?_
  refine hC _ 0 [_, _] _ _ _ _ _ (m_main_3_1) rfl rfl (Nat.le_of_ble_eq_true rfl) rfl ?_
  refine mB hT 2 rfl ?_
  exact hR _ (by decide) _ _ _ rfl rfl
set_option maxRecDepth 20000 in
theorem m_em_3_1_2_2 {n vs : Int32} {wo un h : Int64} {bo : Nat → Int32} {ta tr ro ot : Nat → Int64} {Bm : Nat → Nat → Nat → Int32} {bk : Nat → Nat → Int32} : KX3_emission l D ca ad [.ref 0, .int 1, .int 2, .int 2] (MW n vs wo un h (up bo 1 3) ta tr ro ot Bm bk) (some (.long (emM (Bm 3 1) 2 2))) (MW n vs wo un h (up bo 1 3) ta tr ro ot Bm bk) := by
  refine PX3_emission (Nat.le_of_ble_eq_true rfl) ?_
  intro G hT hC hR
  refine mB hT 26 rfl ?_
  refine hC _ 0 [_, _] _ _ _ _ _ (m_main_3_1) rfl rfl (Nat.le_of_ble_eq_true rfl) rfl ?_
  refine mB hT 2 rfl ?_
  exact hR _ (by decide) _ _ _ rfl rfl
theorem m_em_3_1 {n vs : Int32} {wo un h : Int64} {bo : Nat → Int32} {ta tr ro ot : Nat → Int64} {Bm : Nat → Nat → Nat → Int32} {bk : Nat → Nat → Int32} (k s : Nat) (hk : k < 3) (hs : s < 3) : KX3_emission l D ca ad [.ref 0, .int 1, .int (Int32.ofNat k), .int (Int32.ofNat s)] (MW n vs wo un h (up bo 1 3) ta tr ro ot Bm bk) (some (.long (emM (Bm 3 1) k s))) (MW n vs wo un h (up bo 1 3) ta tr ro ot Bm bk) := by
  match k, hk, s, hs with
  | 0, _, 0, _ => exact m_em_3_1_0_0
  | 0, _, 1, _ => exact m_em_3_1_0_1
  | 0, _, 2, _ => exact m_em_3_1_0_2
  | 1, _, 0, _ => exact m_em_3_1_1_0
  | 1, _, 1, _ => exact m_em_3_1_1_1
  | 1, _, 2, _ => exact m_em_3_1_1_2
  | 2, _, 0, _ => exact m_em_3_1_2_0
  | 2, _, 1, _ => exact m_em_3_1_2_1
  | 2, _, 2, _ => exact m_em_3_1_2_2
set_option maxRecDepth 20000 in
theorem m_em_3_2_0_0 {n vs : Int32} {wo un h : Int64} {bo : Nat → Int32} {ta tr ro ot : Nat → Int64} {Bm : Nat → Nat → Nat → Int32} {bk : Nat → Nat → Int32} : KX3_emission l D ca ad [.ref 0, .int 2, .int 0, .int 0] (MW n vs wo un h (up bo 2 3) ta tr ro ot Bm bk) (some (.long (emM (Bm 3 2) 0 0))) (MW n vs wo un h (up bo 2 3) ta tr ro ot Bm bk) := by
  refine PX3_emission (Nat.le_of_ble_eq_true rfl) ?_
  intro G hT hC hR
  refine mB hT 26 rfl ?_
  refine hC _ 0 [_, _] _ _ _ _ _ (m_main_3_2) rfl rfl (Nat.le_of_ble_eq_true rfl) rfl ?_
  refine mB hT 2 rfl ?_
  exact hR _ (by decide) _ _ _ rfl rfl
set_option maxRecDepth 20000 in
theorem m_em_3_2_0_1 {n vs : Int32} {wo un h : Int64} {bo : Nat → Int32} {ta tr ro ot : Nat → Int64} {Bm : Nat → Nat → Nat → Int32} {bk : Nat → Nat → Int32} : KX3_emission l D ca ad [.ref 0, .int 2, .int 0, .int 1] (MW n vs wo un h (up bo 2 3) ta tr ro ot Bm bk) (some (.long (emM (Bm 3 2) 0 1))) (MW n vs wo un h (up bo 2 3) ta tr ro ot Bm bk) := by
  refine PX3_emission (Nat.le_of_ble_eq_true rfl) ?_
  intro G hT hC hR
  refine mB hT 26 rfl ?_
  refine hC _ 0 [_, _] _ _ _ _ _ (m_main_3_2) rfl rfl (Nat.le_of_ble_eq_true rfl) rfl ?_
  refine mB hT 2 rfl ?_
  exact hR _ (by decide) _ _ _ rfl rfl
set_option maxRecDepth 20000 in
theorem m_em_3_2_0_2 {n vs : Int32} {wo un h : Int64} {bo : Nat → Int32} {ta tr ro ot : Nat → Int64} {Bm : Nat → Nat → Nat → Int32} {bk : Nat → Nat → Int32} : KX3_emission l D ca ad [.ref 0, .int 2, .int 0, .int 2] (MW n vs wo un h (up bo 2 3) ta tr ro ot Bm bk) (some (.long (emM (Bm 3 2) 0 2))) (MW n vs wo un h (up bo 2 3) ta tr ro ot Bm bk) := by
  refine PX3_emission (Nat.le_of_ble_eq_true rfl) ?_
  intro G hT hC hR
  refine mB hT 26 rfl ?_
  refine hC _ 0 [_, _] _ _ _ _ _ (m_main_3_2) rfl rfl (Nat.le_of_ble_eq_true rfl) rfl ?_
  refine mB hT 2 rfl ?_
  exact hR _ (by decide) _ _ _ rfl rfl
set_option maxRecDepth 20000 in
theorem m_em_3_2_1_0 {n vs : Int32} {wo un h : Int64} {bo : Nat → Int32} {ta tr ro ot : Nat → Int64} {Bm : Nat → Nat → Nat → Int32} {bk : Nat → Nat → Int32} : KX3_emission l D ca ad [.ref 0, .int 2, .int 1, .int 0] (MW n vs wo un h (up bo 2 3) ta tr ro ot Bm bk) (some (.long (emM (Bm 3 2) 1 0))) (MW n vs wo un h (up bo 2 3) ta tr ro ot Bm bk) := by
  refine PX3_emission (Nat.le_of_ble_eq_true rfl) ?_
  intro G hT hC hR
  refine mB hT 26 rfl ?_
  refine hC _ 0 [_, _] _ _ _ _ _ (m_main_3_2) rfl rfl (Nat.le_of_ble_eq_true rfl) rfl ?_
  refine mB hT 2 rfl ?_
  exact hR _ (by decide) _ _ _ rfl rfl
set_option maxRecDepth 20000 in
theorem m_em_3_2_1_1 {n vs : Int32} {wo un h : Int64} {bo : Nat → Int32} {ta tr ro ot : Nat → Int64} {Bm : Nat → Nat → Nat → Int32} {bk : Nat → Nat → Int32} : KX3_emission l D ca ad [.ref 0, .int 2, .int 1, .int 1] (MW n vs wo un h (up bo 2 3) ta tr ro ot Bm bk) (some (.long (emM (Bm 3 2) 1 1))) (MW n vs wo un h (up bo 2 3) ta tr ro ot Bm bk) := by
  refine PX3_emission (Nat.le_of_ble_eq_true rfl) ?_
  intro G hT hC hR
  refine mB hT 26 rfl ?_
  refine hC _ 0 [_, _] _ _ _ _ _ (m_main_3_2) rfl rfl (Nat.le_of_ble_eq_true rfl) rfl ?_
  refine mB hT 2 rfl ?_
  exact hR _ (by decide) _ _ _ rfl rfl
set_option maxRecDepth 20000 in
theorem m_em_3_2_1_2 {n vs : Int32} {wo un h : Int64} {bo : Nat → Int32} {ta tr ro ot : Nat → Int64} {Bm : Nat → Nat → Nat → Int32} {bk : Nat → Nat → Int32} : KX3_emission l D ca ad [.ref 0, .int 2, .int 1, .int 2] (MW n vs wo un h (up bo 2 3) ta tr ro ot Bm bk) (some (.long (emM (Bm 3 2) 1 2))) (MW n vs wo un h (up bo 2 3) ta tr ro ot Bm bk) := by
  refine PX3_emission (Nat.le_of_ble_eq_true rfl) ?_
  intro G hT hC hR
  refine mB hT 26 rfl ?_
  refine hC _ 0 [_, _] _ _ _ _ _ (m_main_3_2) rfl rfl (Nat.le_of_ble_eq_true rfl) rfl ?_
  refine mB hT 2 rfl ?_
  exact hR _ (by decide) _ _ _ rfl rfl
set_option maxRecDepth 20000 in
theorem m_em_3_2_2_0 {n vs : Int32} {wo un h : Int64} {bo : Nat → Int32} {ta tr ro ot : Nat → Int64} {Bm : Nat → Nat → Nat → Int32} {bk : Nat → Nat → Int32} : KX3_emission l D ca ad [.ref 0, .int 2, .int 2, .int 0] (MW n vs wo un h (up bo 2 3) ta tr ro ot Bm bk) (some (.long (emM (Bm 3 2) 2 0))) (MW n vs wo un h (up bo 2 3) ta tr ro ot Bm bk) := by
  refine PX3_emission (Nat.le_of_ble_eq_true rfl) ?_
  intro G hT hC hR
  refine mB hT 26 rfl ?_
  refine hC _ 0 [_, _] _ _ _ _ _ (m_main_3_2) rfl rfl (Nat.le_of_ble_eq_true rfl) rfl ?_
  refine mB hT 2 rfl ?_
  exact hR _ (by decide) _ _ _ rfl rfl
set_option maxRecDepth 20000 in
theorem m_em_3_2_2_1 {n vs : Int32} {wo un h : Int64} {bo : Nat → Int32} {ta tr ro ot : Nat → Int64} {Bm : Nat → Nat → Nat → Int32} {bk : Nat → Nat → Int32} : KX3_emission l D ca ad [.ref 0, .int 2, .int 2, .int 1] (MW n vs wo un h (up bo 2 3) ta tr ro ot Bm bk) (some (.long (emM (Bm 3 2) 2 1))) (MW n vs wo un h (up bo 2 3) ta tr ro ot Bm bk) := by
  refine PX3_emission (Nat.le_of_ble_eq_true rfl) ?_
  intro G hT hC hR
  refine mB hT 26 rfl ?_
  refine hC _ 0 [_, _] _ _ _ _ _ (m_main_3_2) rfl rfl (Nat.le_of_ble_eq_true rfl) rfl ?_
  refine mB hT 2 rfl ?_
  exact hR _ (by decide) _ _ _ rfl rfl
set_option maxRecDepth 20000 in
theorem m_em_3_2_2_2 {n vs : Int32} {wo un h : Int64} {bo : Nat → Int32} {ta tr ro ot : Nat → Int64} {Bm : Nat → Nat → Nat → Int32} {bk : Nat → Nat → Int32} : KX3_emission l D ca ad [.ref 0, .int 2, .int 2, .int 2] (MW n vs wo un h (up bo 2 3) ta tr ro ot Bm bk) (some (.long (emM (Bm 3 2) 2 2))) (MW n vs wo un h (up bo 2 3) ta tr ro ot Bm bk) := by
  refine PX3_emission (Nat.le_of_ble_eq_true rfl) ?_
  intro G hT hC hR
  refine mB hT 26 rfl ?_
  refine hC _ 0 [_, _] _ _ _ _ _ (m_main_3_2) rfl rfl (Nat.le_of_ble_eq_true rfl) rfl ?_
  refine mB hT 2 rfl ?_
  exact hR _ (by decide) _ _ _ rfl rfl
theorem m_em_3_2 {n vs : Int32} {wo un h : Int64} {bo : Nat → Int32} {ta tr ro ot : Nat → Int64} {Bm : Nat → Nat → Nat → Int32} {bk : Nat → Nat → Int32} (k s : Nat) (hk : k < 3) (hs : s < 3) : KX3_emission l D ca ad [.ref 0, .int 2, .int (Int32.ofNat k), .int (Int32.ofNat s)] (MW n vs wo un h (up bo 2 3) ta tr ro ot Bm bk) (some (.long (emM (Bm 3 2) k s))) (MW n vs wo un h (up bo 2 3) ta tr ro ot Bm bk) := by
  match k, hk, s, hs with
  | 0, _, 0, _ => exact m_em_3_2_0_0
  | 0, _, 1, _ => exact m_em_3_2_0_1
  | 0, _, 2, _ => exact m_em_3_2_0_2
  | 1, _, 0, _ => exact m_em_3_2_1_0
  | 1, _, 1, _ => exact m_em_3_2_1_1
  | 1, _, 2, _ => exact m_em_3_2_1_2
  | 2, _, 0, _ => exact m_em_3_2_2_0
  | 2, _, 1, _ => exact m_em_3_2_2_1
  | 2, _, 2, _ => exact m_em_3_2_2_2
set_option maxRecDepth 20000 in
theorem m_em_3_3_0_0 {n vs : Int32} {wo un h : Int64} {bo : Nat → Int32} {ta tr ro ot : Nat → Int64} {Bm : Nat → Nat → Nat → Int32} {bk : Nat → Nat → Int32} : KX3_emission l D ca ad [.ref 0, .int 3, .int 0, .int 0] (MW n vs wo un h (up bo 3 3) ta tr ro ot Bm bk) (some (.long (emM (Bm 3 3) 0 0))) (MW n vs wo un h (up bo 3 3) ta tr ro ot Bm bk) := by
  refine PX3_emission (Nat.le_of_ble_eq_true rfl) ?_
  intro G hT hC hR
  refine mB hT 26 rfl ?_
  refine hC _ 0 [_, _] _ _ _ _ _ (m_main_3_3) rfl rfl (Nat.le_of_ble_eq_true rfl) rfl ?_
  refine mB hT 2 rfl ?_
  exact hR _ (by decide) _ _ _ rfl rfl
set_option maxRecDepth 20000 in
theorem m_em_3_3_0_1 {n vs : Int32} {wo un h : Int64} {bo : Nat → Int32} {ta tr ro ot : Nat → Int64} {Bm : Nat → Nat → Nat → Int32} {bk : Nat → Nat → Int32} : KX3_emission l D ca ad [.ref 0, .int 3, .int 0, .int 1] (MW n vs wo un h (up bo 3 3) ta tr ro ot Bm bk) (some (.long (emM (Bm 3 3) 0 1))) (MW n vs wo un h (up bo 3 3) ta tr ro ot Bm bk) := by
  refine PX3_emission (Nat.le_of_ble_eq_true rfl) ?_
  intro G hT hC hR
  refine mB hT 26 rfl ?_
  refine hC _ 0 [_, _] _ _ _ _ _ (m_main_3_3) rfl rfl (Nat.le_of_ble_eq_true rfl) rfl ?_
  refine mB hT 2 rfl ?_
  exact hR _ (by decide) _ _ _ rfl rfl
set_option maxRecDepth 20000 in
theorem m_em_3_3_0_2 {n vs : Int32} {wo un h : Int64} {bo : Nat → Int32} {ta tr ro ot : Nat → Int64} {Bm : Nat → Nat → Nat → Int32} {bk : Nat → Nat → Int32} : KX3_emission l D ca ad [.ref 0, .int 3, .int 0, .int 2] (MW n vs wo un h (up bo 3 3) ta tr ro ot Bm bk) (some (.long (emM (Bm 3 3) 0 2))) (MW n vs wo un h (up bo 3 3) ta tr ro ot Bm bk) := by
  refine PX3_emission (Nat.le_of_ble_eq_true rfl) ?_
  intro G hT hC hR
  refine mB hT 26 rfl ?_
  refine hC _ 0 [_, _] _ _ _ _ _ (m_main_3_3) rfl rfl (Nat.le_of_ble_eq_true rfl) rfl ?_
  refine mB hT 2 rfl ?_
  exact hR _ (by decide) _ _ _ rfl rfl
set_option maxRecDepth 20000 in
theorem m_em_3_3_1_0 {n vs : Int32} {wo un h : Int64} {bo : Nat → Int32} {ta tr ro ot : Nat → Int64} {Bm : Nat → Nat → Nat → Int32} {bk : Nat → Nat → Int32} : KX3_emission l D ca ad [.ref 0, .int 3, .int 1, .int 0] (MW n vs wo un h (up bo 3 3) ta tr ro ot Bm bk) (some (.long (emM (Bm 3 3) 1 0))) (MW n vs wo un h (up bo 3 3) ta tr ro ot Bm bk) := by
  refine PX3_emission (Nat.le_of_ble_eq_true rfl) ?_
  intro G hT hC hR
  refine mB hT 26 rfl ?_
  refine hC _ 0 [_, _] _ _ _ _ _ (m_main_3_3) rfl rfl (Nat.le_of_ble_eq_true rfl) rfl ?_
  refine mB hT 2 rfl ?_
  exact hR _ (by decide) _ _ _ rfl rfl
set_option maxRecDepth 20000 in
theorem m_em_3_3_1_1 {n vs : Int32} {wo un h : Int64} {bo : Nat → Int32} {ta tr ro ot : Nat → Int64} {Bm : Nat → Nat → Nat → Int32} {bk : Nat → Nat → Int32} : KX3_emission l D ca ad [.ref 0, .int 3, .int 1, .int 1] (MW n vs wo un h (up bo 3 3) ta tr ro ot Bm bk) (some (.long (emM (Bm 3 3) 1 1))) (MW n vs wo un h (up bo 3 3) ta tr ro ot Bm bk) := by
  refine PX3_emission (Nat.le_of_ble_eq_true rfl) ?_
  intro G hT hC hR
  refine mB hT 26 rfl ?_
  refine hC _ 0 [_, _] _ _ _ _ _ (m_main_3_3) rfl rfl (Nat.le_of_ble_eq_true rfl) rfl ?_
  refine mB hT 2 rfl ?_
  exact hR _ (by decide) _ _ _ rfl rfl
set_option maxRecDepth 20000 in
theorem m_em_3_3_1_2 {n vs : Int32} {wo un h : Int64} {bo : Nat → Int32} {ta tr ro ot : Nat → Int64} {Bm : Nat → Nat → Nat → Int32} {bk : Nat → Nat → Int32} : KX3_emission l D ca ad [.ref 0, .int 3, .int 1, .int 2] (MW n vs wo un h (up bo 3 3) ta tr ro ot Bm bk) (some (.long (emM (Bm 3 3) 1 2))) (MW n vs wo un h (up bo 3 3) ta tr ro ot Bm bk) := by
  refine PX3_emission (Nat.le_of_ble_eq_true rfl) ?_
  intro G hT hC hR
  refine mB hT 26 rfl ?_
  refine hC _ 0 [_, _] _ _ _ _ _ (m_main_3_3) rfl rfl (Nat.le_of_ble_eq_true rfl) rfl ?_
  refine mB hT 2 rfl ?_
  exact hR _ (by decide) _ _ _ rfl rfl
set_option maxRecDepth 20000 in
theorem m_em_3_3_2_0 {n vs : Int32} {wo un h : Int64} {bo : Nat → Int32} {ta tr ro ot : Nat → Int64} {Bm : Nat → Nat → Nat → Int32} {bk : Nat → Nat → Int32} : KX3_emission l D ca ad [.ref 0, .int 3, .int 2, .int 0] (MW n vs wo un h (up bo 3 3) ta tr ro ot Bm bk) (some (.long (emM (Bm 3 3) 2 0))) (MW n vs wo un h (up bo 3 3) ta tr ro ot Bm bk) := by
  refine PX3_emission (Nat.le_of_ble_eq_true rfl) ?_
  intro G hT hC hR
  refine mB hT 26 rfl ?_
  refine hC _ 0 [_, _] _ _ _ _ _ (m_main_3_3) rfl rfl (Nat.le_of_ble_eq_true rfl) rfl ?_
  refine mB hT 2 rfl ?_
  exact hR _ (by decide) _ _ _ rfl rfl
set_option maxRecDepth 20000 in
theorem m_em_3_3_2_1 {n vs : Int32} {wo un h : Int64} {bo : Nat → Int32} {ta tr ro ot : Nat → Int64} {Bm : Nat → Nat → Nat → Int32} {bk : Nat → Nat → Int32} : KX3_emission l D ca ad [.ref 0, .int 3, .int 2, .int 1] (MW n vs wo un h (up bo 3 3) ta tr ro ot Bm bk) (some (.long (emM (Bm 3 3) 2 1))) (MW n vs wo un h (up bo 3 3) ta tr ro ot Bm bk) := by
  refine PX3_emission (Nat.le_of_ble_eq_true rfl) ?_
  intro G hT hC hR
  refine mB hT 26 rfl ?_
  refine hC _ 0 [_, _] _ _ _ _ _ (m_main_3_3) rfl rfl (Nat.le_of_ble_eq_true rfl) rfl ?_
  refine mB hT 2 rfl ?_
  exact hR _ (by decide) _ _ _ rfl rfl
set_option maxRecDepth 20000 in
theorem m_em_3_3_2_2 {n vs : Int32} {wo un h : Int64} {bo : Nat → Int32} {ta tr ro ot : Nat → Int64} {Bm : Nat → Nat → Nat → Int32} {bk : Nat → Nat → Int32} : KX3_emission l D ca ad [.ref 0, .int 3, .int 2, .int 2] (MW n vs wo un h (up bo 3 3) ta tr ro ot Bm bk) (some (.long (emM (Bm 3 3) 2 2))) (MW n vs wo un h (up bo 3 3) ta tr ro ot Bm bk) := by
  refine PX3_emission (Nat.le_of_ble_eq_true rfl) ?_
  intro G hT hC hR
  refine mB hT 26 rfl ?_
  refine hC _ 0 [_, _] _ _ _ _ _ (m_main_3_3) rfl rfl (Nat.le_of_ble_eq_true rfl) rfl ?_
  refine mB hT 2 rfl ?_
  exact hR _ (by decide) _ _ _ rfl rfl
theorem m_em_3_3 {n vs : Int32} {wo un h : Int64} {bo : Nat → Int32} {ta tr ro ot : Nat → Int64} {Bm : Nat → Nat → Nat → Int32} {bk : Nat → Nat → Int32} (k s : Nat) (hk : k < 3) (hs : s < 3) : KX3_emission l D ca ad [.ref 0, .int 3, .int (Int32.ofNat k), .int (Int32.ofNat s)] (MW n vs wo un h (up bo 3 3) ta tr ro ot Bm bk) (some (.long (emM (Bm 3 3) k s))) (MW n vs wo un h (up bo 3 3) ta tr ro ot Bm bk) := by
  match k, hk, s, hs with
  | 0, _, 0, _ => exact m_em_3_3_0_0
  | 0, _, 1, _ => exact m_em_3_3_0_1
  | 0, _, 2, _ => exact m_em_3_3_0_2
  | 1, _, 0, _ => exact m_em_3_3_1_0
  | 1, _, 1, _ => exact m_em_3_3_1_1
  | 1, _, 2, _ => exact m_em_3_3_1_2
  | 2, _, 0, _ => exact m_em_3_3_2_0
  | 2, _, 1, _ => exact m_em_3_3_2_1
  | 2, _, 2, _ => exact m_em_3_3_2_2
set_option maxRecDepth 20000 in
theorem m_em_4_0_0_0 {n vs : Int32} {wo un h : Int64} {bo : Nat → Int32} {ta tr ro ot : Nat → Int64} {Bm : Nat → Nat → Nat → Int32} {bk : Nat → Nat → Int32} : KX3_emission l D ca ad [.ref 0, .int 0, .int 0, .int 0] (MW n vs wo un h (up bo 0 4) ta tr ro ot Bm bk) (some (.long (emM (Bm 4 0) 0 0))) (MW n vs wo un h (up bo 0 4) ta tr ro ot Bm bk) := by
  refine PX3_emission (Nat.le_of_ble_eq_true rfl) ?_
  intro G hT hC hR
  refine mB hT 26 rfl ?_
  refine hC _ 0 [_, _] _ _ _ _ _ (m_main_4_0) rfl rfl (Nat.le_of_ble_eq_true rfl) rfl ?_
  refine mB hT 2 rfl ?_
  exact hR _ (by decide) _ _ _ rfl rfl
set_option maxRecDepth 20000 in
theorem m_em_4_0_0_1 {n vs : Int32} {wo un h : Int64} {bo : Nat → Int32} {ta tr ro ot : Nat → Int64} {Bm : Nat → Nat → Nat → Int32} {bk : Nat → Nat → Int32} : KX3_emission l D ca ad [.ref 0, .int 0, .int 0, .int 1] (MW n vs wo un h (up bo 0 4) ta tr ro ot Bm bk) (some (.long (emM (Bm 4 0) 0 1))) (MW n vs wo un h (up bo 0 4) ta tr ro ot Bm bk) := by
  refine PX3_emission (Nat.le_of_ble_eq_true rfl) ?_
  intro G hT hC hR
  refine mB hT 26 rfl ?_
  refine hC _ 0 [_, _] _ _ _ _ _ (m_main_4_0) rfl rfl (Nat.le_of_ble_eq_true rfl) rfl ?_
  refine mB hT 2 rfl ?_
  exact hR _ (by decide) _ _ _ rfl rfl
set_option maxRecDepth 20000 in
theorem m_em_4_0_0_2 {n vs : Int32} {wo un h : Int64} {bo : Nat → Int32} {ta tr ro ot : Nat → Int64} {Bm : Nat → Nat → Nat → Int32} {bk : Nat → Nat → Int32} : KX3_emission l D ca ad [.ref 0, .int 0, .int 0, .int 2] (MW n vs wo un h (up bo 0 4) ta tr ro ot Bm bk) (some (.long (emM (Bm 4 0) 0 2))) (MW n vs wo un h (up bo 0 4) ta tr ro ot Bm bk) := by
  refine PX3_emission (Nat.le_of_ble_eq_true rfl) ?_
  intro G hT hC hR
  refine mB hT 26 rfl ?_
  refine hC _ 0 [_, _] _ _ _ _ _ (m_main_4_0) rfl rfl (Nat.le_of_ble_eq_true rfl) rfl ?_
  refine mB hT 2 rfl ?_
  exact hR _ (by decide) _ _ _ rfl rfl
set_option maxRecDepth 20000 in
theorem m_em_4_0_1_0 {n vs : Int32} {wo un h : Int64} {bo : Nat → Int32} {ta tr ro ot : Nat → Int64} {Bm : Nat → Nat → Nat → Int32} {bk : Nat → Nat → Int32} : KX3_emission l D ca ad [.ref 0, .int 0, .int 1, .int 0] (MW n vs wo un h (up bo 0 4) ta tr ro ot Bm bk) (some (.long (emM (Bm 4 0) 1 0))) (MW n vs wo un h (up bo 0 4) ta tr ro ot Bm bk) := by
  refine PX3_emission (Nat.le_of_ble_eq_true rfl) ?_
  intro G hT hC hR
  refine mB hT 26 rfl ?_
  refine hC _ 0 [_, _] _ _ _ _ _ (m_main_4_0) rfl rfl (Nat.le_of_ble_eq_true rfl) rfl ?_
  refine mB hT 2 rfl ?_
  exact hR _ (by decide) _ _ _ rfl rfl
set_option maxRecDepth 20000 in
theorem m_em_4_0_1_1 {n vs : Int32} {wo un h : Int64} {bo : Nat → Int32} {ta tr ro ot : Nat → Int64} {Bm : Nat → Nat → Nat → Int32} {bk : Nat → Nat → Int32} : KX3_emission l D ca ad [.ref 0, .int 0, .int 1, .int 1] (MW n vs wo un h (up bo 0 4) ta tr ro ot Bm bk) (some (.long (emM (Bm 4 0) 1 1))) (MW n vs wo un h (up bo 0 4) ta tr ro ot Bm bk) := by
  refine PX3_emission (Nat.le_of_ble_eq_true rfl) ?_
  intro G hT hC hR
  refine mB hT 26 rfl ?_
  refine hC _ 0 [_, _] _ _ _ _ _ (m_main_4_0) rfl rfl (Nat.le_of_ble_eq_true rfl) rfl ?_
  refine mB hT 2 rfl ?_
  exact hR _ (by decide) _ _ _ rfl rfl
set_option maxRecDepth 20000 in
theorem m_em_4_0_1_2 {n vs : Int32} {wo un h : Int64} {bo : Nat → Int32} {ta tr ro ot : Nat → Int64} {Bm : Nat → Nat → Nat → Int32} {bk : Nat → Nat → Int32} : KX3_emission l D ca ad [.ref 0, .int 0, .int 1, .int 2] (MW n vs wo un h (up bo 0 4) ta tr ro ot Bm bk) (some (.long (emM (Bm 4 0) 1 2))) (MW n vs wo un h (up bo 0 4) ta tr ro ot Bm bk) := by
  refine PX3_emission (Nat.le_of_ble_eq_true rfl) ?_
  intro G hT hC hR
  refine mB hT 26 rfl ?_
  refine hC _ 0 [_, _] _ _ _ _ _ (m_main_4_0) rfl rfl (Nat.le_of_ble_eq_true rfl) rfl ?_
  refine mB hT 2 rfl ?_
  exact hR _ (by decide) _ _ _ rfl rfl
set_option maxRecDepth 20000 in
theorem m_em_4_0_2_0 {n vs : Int32} {wo un h : Int64} {bo : Nat → Int32} {ta tr ro ot : Nat → Int64} {Bm : Nat → Nat → Nat → Int32} {bk : Nat → Nat → Int32} : KX3_emission l D ca ad [.ref 0, .int 0, .int 2, .int 0] (MW n vs wo un h (up bo 0 4) ta tr ro ot Bm bk) (some (.long (emM (Bm 4 0) 2 0))) (MW n vs wo un h (up bo 0 4) ta tr ro ot Bm bk) := by
  refine PX3_emission (Nat.le_of_ble_eq_true rfl) ?_
  intro G hT hC hR
  refine mB hT 26 rfl ?_
  refine hC _ 0 [_, _] _ _ _ _ _ (m_main_4_0) rfl rfl (Nat.le_of_ble_eq_true rfl) rfl ?_
  refine mB hT 2 rfl ?_
  exact hR _ (by decide) _ _ _ rfl rfl
set_option maxRecDepth 20000 in
theorem m_em_4_0_2_1 {n vs : Int32} {wo un h : Int64} {bo : Nat → Int32} {ta tr ro ot : Nat → Int64} {Bm : Nat → Nat → Nat → Int32} {bk : Nat → Nat → Int32} : KX3_emission l D ca ad [.ref 0, .int 0, .int 2, .int 1] (MW n vs wo un h (up bo 0 4) ta tr ro ot Bm bk) (some (.long (emM (Bm 4 0) 2 1))) (MW n vs wo un h (up bo 0 4) ta tr ro ot Bm bk) := by
  refine PX3_emission (Nat.le_of_ble_eq_true rfl) ?_
  intro G hT hC hR
  refine mB hT 26 rfl ?_
  refine hC _ 0 [_, _] _ _ _ _ _ (m_main_4_0) rfl rfl (Nat.le_of_ble_eq_true rfl) rfl ?_
  refine mB hT 2 rfl ?_
  exact hR _ (by decide) _ _ _ rfl rfl
set_option maxRecDepth 20000 in
theorem m_em_4_0_2_2 {n vs : Int32} {wo un h : Int64} {bo : Nat → Int32} {ta tr ro ot : Nat → Int64} {Bm : Nat → Nat → Nat → Int32} {bk : Nat → Nat → Int32} : KX3_emission l D ca ad [.ref 0, .int 0, .int 2, .int 2] (MW n vs wo un h (up bo 0 4) ta tr ro ot Bm bk) (some (.long (emM (Bm 4 0) 2 2))) (MW n vs wo un h (up bo 0 4) ta tr ro ot Bm bk) := by
  refine PX3_emission (Nat.le_of_ble_eq_true rfl) ?_
  intro G hT hC hR
  refine mB hT 26 rfl ?_
  refine hC _ 0 [_, _] _ _ _ _ _ (m_main_4_0) rfl rfl (Nat.le_of_ble_eq_true rfl) rfl ?_
  refine mB hT 2 rfl ?_
  exact hR _ (by decide) _ _ _ rfl rfl
theorem m_em_4_0 {n vs : Int32} {wo un h : Int64} {bo : Nat → Int32} {ta tr ro ot : Nat → Int64} {Bm : Nat → Nat → Nat → Int32} {bk : Nat → Nat → Int32} (k s : Nat) (hk : k < 3) (hs : s < 3) : KX3_emission l D ca ad [.ref 0, .int 0, .int (Int32.ofNat k), .int (Int32.ofNat s)] (MW n vs wo un h (up bo 0 4) ta tr ro ot Bm bk) (some (.long (emM (Bm 4 0) k s))) (MW n vs wo un h (up bo 0 4) ta tr ro ot Bm bk) := by
  match k, hk, s, hs with
  | 0, _, 0, _ => exact m_em_4_0_0_0
  | 0, _, 1, _ => exact m_em_4_0_0_1
  | 0, _, 2, _ => exact m_em_4_0_0_2
  | 1, _, 0, _ => exact m_em_4_0_1_0
  | 1, _, 1, _ => exact m_em_4_0_1_1
  | 1, _, 2, _ => exact m_em_4_0_1_2
  | 2, _, 0, _ => exact m_em_4_0_2_0
  | 2, _, 1, _ => exact m_em_4_0_2_1
  | 2, _, 2, _ => exact m_em_4_0_2_2
set_option maxRecDepth 20000 in
theorem m_em_4_1_0_0 {n vs : Int32} {wo un h : Int64} {bo : Nat → Int32} {ta tr ro ot : Nat → Int64} {Bm : Nat → Nat → Nat → Int32} {bk : Nat → Nat → Int32} : KX3_emission l D ca ad [.ref 0, .int 1, .int 0, .int 0] (MW n vs wo un h (up bo 1 4) ta tr ro ot Bm bk) (some (.long (emM (Bm 4 1) 0 0))) (MW n vs wo un h (up bo 1 4) ta tr ro ot Bm bk) := by
  refine PX3_emission (Nat.le_of_ble_eq_true rfl) ?_
  intro G hT hC hR
  refine mB hT 26 rfl ?_
  refine hC _ 0 [_, _] _ _ _ _ _ (m_main_4_1) rfl rfl (Nat.le_of_ble_eq_true rfl) rfl ?_
  refine mB hT 2 rfl ?_
  exact hR _ (by decide) _ _ _ rfl rfl
set_option maxRecDepth 20000 in
theorem m_em_4_1_0_1 {n vs : Int32} {wo un h : Int64} {bo : Nat → Int32} {ta tr ro ot : Nat → Int64} {Bm : Nat → Nat → Nat → Int32} {bk : Nat → Nat → Int32} : KX3_emission l D ca ad [.ref 0, .int 1, .int 0, .int 1] (MW n vs wo un h (up bo 1 4) ta tr ro ot Bm bk) (some (.long (emM (Bm 4 1) 0 1))) (MW n vs wo un h (up bo 1 4) ta tr ro ot Bm bk) := by
  refine PX3_emission (Nat.le_of_ble_eq_true rfl) ?_
  intro G hT hC hR
  refine mB hT 26 rfl ?_
  refine hC _ 0 [_, _] _ _ _ _ _ (m_main_4_1) rfl rfl (Nat.le_of_ble_eq_true rfl) rfl ?_
  refine mB hT 2 rfl ?_
  exact hR _ (by decide) _ _ _ rfl rfl
set_option maxRecDepth 20000 in
theorem m_em_4_1_0_2 {n vs : Int32} {wo un h : Int64} {bo : Nat → Int32} {ta tr ro ot : Nat → Int64} {Bm : Nat → Nat → Nat → Int32} {bk : Nat → Nat → Int32} : KX3_emission l D ca ad [.ref 0, .int 1, .int 0, .int 2] (MW n vs wo un h (up bo 1 4) ta tr ro ot Bm bk) (some (.long (emM (Bm 4 1) 0 2))) (MW n vs wo un h (up bo 1 4) ta tr ro ot Bm bk) := by
  refine PX3_emission (Nat.le_of_ble_eq_true rfl) ?_
  intro G hT hC hR
  refine mB hT 26 rfl ?_
  refine hC _ 0 [_, _] _ _ _ _ _ (m_main_4_1) rfl rfl (Nat.le_of_ble_eq_true rfl) rfl ?_
  refine mB hT 2 rfl ?_
  exact hR _ (by decide) _ _ _ rfl rfl
set_option maxRecDepth 20000 in
theorem m_em_4_1_1_0 {n vs : Int32} {wo un h : Int64} {bo : Nat → Int32} {ta tr ro ot : Nat → Int64} {Bm : Nat → Nat → Nat → Int32} {bk : Nat → Nat → Int32} : KX3_emission l D ca ad [.ref 0, .int 1, .int 1, .int 0] (MW n vs wo un h (up bo 1 4) ta tr ro ot Bm bk) (some (.long (emM (Bm 4 1) 1 0))) (MW n vs wo un h (up bo 1 4) ta tr ro ot Bm bk) := by
  refine PX3_emission (Nat.le_of_ble_eq_true rfl) ?_
  intro G hT hC hR
  refine mB hT 26 rfl ?_
  refine hC _ 0 [_, _] _ _ _ _ _ (m_main_4_1) rfl rfl (Nat.le_of_ble_eq_true rfl) rfl ?_
  refine mB hT 2 rfl ?_
  exact hR _ (by decide) _ _ _ rfl rfl
set_option maxRecDepth 20000 in
theorem m_em_4_1_1_1 {n vs : Int32} {wo un h : Int64} {bo : Nat → Int32} {ta tr ro ot : Nat → Int64} {Bm : Nat → Nat → Nat → Int32} {bk : Nat → Nat → Int32} : KX3_emission l D ca ad [.ref 0, .int 1, .int 1, .int 1] (MW n vs wo un h (up bo 1 4) ta tr ro ot Bm bk) (some (.long (emM (Bm 4 1) 1 1))) (MW n vs wo un h (up bo 1 4) ta tr ro ot Bm bk) := by
  refine PX3_emission (Nat.le_of_ble_eq_true rfl) ?_
  intro G hT hC hR
  refine mB hT 26 rfl ?_
  refine hC _ 0 [_, _] _ _ _ _ _ (m_main_4_1) rfl rfl (Nat.le_of_ble_eq_true rfl) rfl ?_
  refine mB hT 2 rfl ?_
  exact hR _ (by decide) _ _ _ rfl rfl
set_option maxRecDepth 20000 in
theorem m_em_4_1_1_2 {n vs : Int32} {wo un h : Int64} {bo : Nat → Int32} {ta tr ro ot : Nat → Int64} {Bm : Nat → Nat → Nat → Int32} {bk : Nat → Nat → Int32} : KX3_emission l D ca ad [.ref 0, .int 1, .int 1, .int 2] (MW n vs wo un h (up bo 1 4) ta tr ro ot Bm bk) (some (.long (emM (Bm 4 1) 1 2))) (MW n vs wo un h (up bo 1 4) ta tr ro ot Bm bk) := by
  refine PX3_emission (Nat.le_of_ble_eq_true rfl) ?_
  intro G hT hC hR
  refine mB hT 26 rfl ?_
  refine hC _ 0 [_, _] _ _ _ _ _ (m_main_4_1) rfl rfl (Nat.le_of_ble_eq_true rfl) rfl ?_
  refine mB hT 2 rfl ?_
  exact hR _ (by decide) _ _ _ rfl rfl
set_option maxRecDepth 20000 in
theorem m_em_4_1_2_0 {n vs : Int32} {wo un h : Int64} {bo : Nat → Int32} {ta tr ro ot : Nat → Int64} {Bm : Nat → Nat → Nat → Int32} {bk : Nat → Nat → Int32} : KX3_emission l D ca ad [.ref 0, .int 1, .int 2, .int 0] (MW n vs wo un h (up bo 1 4) ta tr ro ot Bm bk) (some (.long (emM (Bm 4 1) 2 0))) (MW n vs wo un h (up bo 1 4) ta tr ro ot Bm bk) := by
  refine PX3_emission (Nat.le_of_ble_eq_true rfl) ?_
  intro G hT hC hR
  refine mB hT 26 rfl ?_
  refine hC _ 0 [_, _] _ _ _ _ _ (m_main_4_1) rfl rfl (Nat.le_of_ble_eq_true rfl) rfl ?_
  refine mB hT 2 rfl ?_
  exact hR _ (by decide) _ _ _ rfl rfl
set_option maxRecDepth 20000 in
theorem m_em_4_1_2_1 {n vs : Int32} {wo un h : Int64} {bo : Nat → Int32} {ta tr ro ot : Nat → Int64} {Bm : Nat → Nat → Nat → Int32} {bk : Nat → Nat → Int32} : KX3_emission l D ca ad [.ref 0, .int 1, .int 2, .int 1] (MW n vs wo un h (up bo 1 4) ta tr ro ot Bm bk) (some (.long (emM (Bm 4 1) 2 1))) (MW n vs wo un h (up bo 1 4) ta tr ro ot Bm bk) := by
  refine PX3_emission (Nat.le_of_ble_eq_true rfl) ?_
  intro G hT hC hR
  refine mB hT 26 rfl ?_
  refine hC _ 0 [_, _] _ _ _ _ _ (m_main_4_1) rfl rfl (Nat.le_of_ble_eq_true rfl) rfl ?_
  refine mB hT 2 rfl ?_
  exact hR _ (by decide) _ _ _ rfl rfl
set_option maxRecDepth 20000 in
theorem m_em_4_1_2_2 {n vs : Int32} {wo un h : Int64} {bo : Nat → Int32} {ta tr ro ot : Nat → Int64} {Bm : Nat → Nat → Nat → Int32} {bk : Nat → Nat → Int32} : KX3_emission l D ca ad [.ref 0, .int 1, .int 2, .int 2] (MW n vs wo un h (up bo 1 4) ta tr ro ot Bm bk) (some (.long (emM (Bm 4 1) 2 2))) (MW n vs wo un h (up bo 1 4) ta tr ro ot Bm bk) := by
  refine PX3_emission (Nat.le_of_ble_eq_true rfl) ?_
  intro G hT hC hR
  refine mB hT 26 rfl ?_
  refine hC _ 0 [_, _] _ _ _ _ _ (m_main_4_1) rfl rfl (Nat.le_of_ble_eq_true rfl) rfl ?_
  refine mB hT 2 rfl ?_
  exact hR _ (by decide) _ _ _ rfl rfl
theorem m_em_4_1 {n vs : Int32} {wo un h : Int64} {bo : Nat → Int32} {ta tr ro ot : Nat → Int64} {Bm : Nat → Nat → Nat → Int32} {bk : Nat → Nat → Int32} (k s : Nat) (hk : k < 3) (hs : s < 3) : KX3_emission l D ca ad [.ref 0, .int 1, .int (Int32.ofNat k), .int (Int32.ofNat s)] (MW n vs wo un h (up bo 1 4) ta tr ro ot Bm bk) (some (.long (emM (Bm 4 1) k s))) (MW n vs wo un h (up bo 1 4) ta tr ro ot Bm bk) := by
  match k, hk, s, hs with
  | 0, _, 0, _ => exact m_em_4_1_0_0
  | 0, _, 1, _ => exact m_em_4_1_0_1
  | 0, _, 2, _ => exact m_em_4_1_0_2
  | 1, _, 0, _ => exact m_em_4_1_1_0
  | 1, _, 1, _ => exact m_em_4_1_1_1
  | 1, _, 2, _ => exact m_em_4_1_1_2
  | 2, _, 0, _ => exact m_em_4_1_2_0
  | 2, _, 1, _ => exact m_em_4_1_2_1
  | 2, _, 2, _ => exact m_em_4_1_2_2
set_option maxRecDepth 20000 in
theorem m_em_4_2_0_0 {n vs : Int32} {wo un h : Int64} {bo : Nat → Int32} {ta tr ro ot : Nat → Int64} {Bm : Nat → Nat → Nat → Int32} {bk : Nat → Nat → Int32} : KX3_emission l D ca ad [.ref 0, .int 2, .int 0, .int 0] (MW n vs wo un h (up bo 2 4) ta tr ro ot Bm bk) (some (.long (emM (Bm 4 2) 0 0))) (MW n vs wo un h (up bo 2 4) ta tr ro ot Bm bk) := by
  refine PX3_emission (Nat.le_of_ble_eq_true rfl) ?_
  intro G hT hC hR
  refine mB hT 26 rfl ?_
  refine hC _ 0 [_, _] _ _ _ _ _ (m_main_4_2) rfl rfl (Nat.le_of_ble_eq_true rfl) rfl ?_
  refine mB hT 2 rfl ?_
  exact hR _ (by decide) _ _ _ rfl rfl
set_option maxRecDepth 20000 in
theorem m_em_4_2_0_1 {n vs : Int32} {wo un h : Int64} {bo : Nat → Int32} {ta tr ro ot : Nat → Int64} {Bm : Nat → Nat → Nat → Int32} {bk : Nat → Nat → Int32} : KX3_emission l D ca ad [.ref 0, .int 2, .int 0, .int 1] (MW n vs wo un h (up bo 2 4) ta tr ro ot Bm bk) (some (.long (emM (Bm 4 2) 0 1))) (MW n vs wo un h (up bo 2 4) ta tr ro ot Bm bk) := by
  refine PX3_emission (Nat.le_of_ble_eq_true rfl) ?_
  intro G hT hC hR
  refine mB hT 26 rfl ?_
  refine hC _ 0 [_, _] _ _ _ _ _ (m_main_4_2) rfl rfl (Nat.le_of_ble_eq_true rfl) rfl ?_
  refine mB hT 2 rfl ?_
  exact hR _ (by decide) _ _ _ rfl rfl
set_option maxRecDepth 20000 in
theorem m_em_4_2_0_2 {n vs : Int32} {wo un h : Int64} {bo : Nat → Int32} {ta tr ro ot : Nat → Int64} {Bm : Nat → Nat → Nat → Int32} {bk : Nat → Nat → Int32} : KX3_emission l D ca ad [.ref 0, .int 2, .int 0, .int 2] (MW n vs wo un h (up bo 2 4) ta tr ro ot Bm bk) (some (.long (emM (Bm 4 2) 0 2))) (MW n vs wo un h (up bo 2 4) ta tr ro ot Bm bk) := by
  refine PX3_emission (Nat.le_of_ble_eq_true rfl) ?_
  intro G hT hC hR
  refine mB hT 26 rfl ?_
  refine hC _ 0 [_, _] _ _ _ _ _ (m_main_4_2) rfl rfl (Nat.le_of_ble_eq_true rfl) rfl ?_
  refine mB hT 2 rfl ?_
  exact hR _ (by decide) _ _ _ rfl rfl
set_option maxRecDepth 20000 in
theorem m_em_4_2_1_0 {n vs : Int32} {wo un h : Int64} {bo : Nat → Int32} {ta tr ro ot : Nat → Int64} {Bm : Nat → Nat → Nat → Int32} {bk : Nat → Nat → Int32} : KX3_emission l D ca ad [.ref 0, .int 2, .int 1, .int 0] (MW n vs wo un h (up bo 2 4) ta tr ro ot Bm bk) (some (.long (emM (Bm 4 2) 1 0))) (MW n vs wo un h (up bo 2 4) ta tr ro ot Bm bk) := by
  refine PX3_emission (Nat.le_of_ble_eq_true rfl) ?_
  intro G hT hC hR
  refine mB hT 26 rfl ?_
  refine hC _ 0 [_, _] _ _ _ _ _ (m_main_4_2) rfl rfl (Nat.le_of_ble_eq_true rfl) rfl ?_
  refine mB hT 2 rfl ?_
  exact hR _ (by decide) _ _ _ rfl rfl
set_option maxRecDepth 20000 in
theorem m_em_4_2_1_1 {n vs : Int32} {wo un h : Int64} {bo : Nat → Int32} {ta tr ro ot : Nat → Int64} {Bm : Nat → Nat → Nat → Int32} {bk : Nat → Nat → Int32} : KX3_emission l D ca ad [.ref 0, .int 2, .int 1, .int 1] (MW n vs wo un h (up bo 2 4) ta tr ro ot Bm bk) (some (.long (emM (Bm 4 2) 1 1))) (MW n vs wo un h (up bo 2 4) ta tr ro ot Bm bk) := by
  refine PX3_emission (Nat.le_of_ble_eq_true rfl) ?_
  intro G hT hC hR
  refine mB hT 26 rfl ?_
  refine hC _ 0 [_, _] _ _ _ _ _ (m_main_4_2) rfl rfl (Nat.le_of_ble_eq_true rfl) rfl ?_
  refine mB hT 2 rfl ?_
  exact hR _ (by decide) _ _ _ rfl rfl
set_option maxRecDepth 20000 in
theorem m_em_4_2_1_2 {n vs : Int32} {wo un h : Int64} {bo : Nat → Int32} {ta tr ro ot : Nat → Int64} {Bm : Nat → Nat → Nat → Int32} {bk : Nat → Nat → Int32} : KX3_emission l D ca ad [.ref 0, .int 2, .int 1, .int 2] (MW n vs wo un h (up bo 2 4) ta tr ro ot Bm bk) (some (.long (emM (Bm 4 2) 1 2))) (MW n vs wo un h (up bo 2 4) ta tr ro ot Bm bk) := by
  refine PX3_emission (Nat.le_of_ble_eq_true rfl) ?_
  intro G hT hC hR
  refine mB hT 26 rfl ?_
  refine hC _ 0 [_, _] _ _ _ _ _ (m_main_4_2) rfl rfl (Nat.le_of_ble_eq_true rfl) rfl ?_
  refine mB hT 2 rfl ?_
  exact hR _ (by decide) _ _ _ rfl rfl
set_option maxRecDepth 20000 in
theorem m_em_4_2_2_0 {n vs : Int32} {wo un h : Int64} {bo : Nat → Int32} {ta tr ro ot : Nat → Int64} {Bm : Nat → Nat → Nat → Int32} {bk : Nat → Nat → Int32} : KX3_emission l D ca ad [.ref 0, .int 2, .int 2, .int 0] (MW n vs wo un h (up bo 2 4) ta tr ro ot Bm bk) (some (.long (emM (Bm 4 2) 2 0))) (MW n vs wo un h (up bo 2 4) ta tr ro ot Bm bk) := by
  refine PX3_emission (Nat.le_of_ble_eq_true rfl) ?_
  intro G hT hC hR
  refine mB hT 26 rfl ?_
  refine hC _ 0 [_, _] _ _ _ _ _ (m_main_4_2) rfl rfl (Nat.le_of_ble_eq_true rfl) rfl ?_
  refine mB hT 2 rfl ?_
  exact hR _ (by decide) _ _ _ rfl rfl
set_option maxRecDepth 20000 in
theorem m_em_4_2_2_1 {n vs : Int32} {wo un h : Int64} {bo : Nat → Int32} {ta tr ro ot : Nat → Int64} {Bm : Nat → Nat → Nat → Int32} {bk : Nat → Nat → Int32} : KX3_emission l D ca ad [.ref 0, .int 2, .int 2, .int 1] (MW n vs wo un h (up bo 2 4) ta tr ro ot Bm bk) (some (.long (emM (Bm 4 2) 2 1))) (MW n vs wo un h (up bo 2 4) ta tr ro ot Bm bk) := by
  refine PX3_emission (Nat.le_of_ble_eq_true rfl) ?_
  intro G hT hC hR
  refine mB hT 26 rfl ?_
  refine hC _ 0 [_, _] _ _ _ _ _ (m_main_4_2) rfl rfl (Nat.le_of_ble_eq_true rfl) rfl ?_
  refine mB hT 2 rfl ?_
  exact hR _ (by decide) _ _ _ rfl rfl
set_option maxRecDepth 20000 in
theorem m_em_4_2_2_2 {n vs : Int32} {wo un h : Int64} {bo : Nat → Int32} {ta tr ro ot : Nat → Int64} {Bm : Nat → Nat → Nat → Int32} {bk : Nat → Nat → Int32} : KX3_emission l D ca ad [.ref 0, .int 2, .int 2, .int 2] (MW n vs wo un h (up bo 2 4) ta tr ro ot Bm bk) (some (.long (emM (Bm 4 2) 2 2))) (MW n vs wo un h (up bo 2 4) ta tr ro ot Bm bk) := by
  refine PX3_emission (Nat.le_of_ble_eq_true rfl) ?_
  intro G hT hC hR
  refine mB hT 26 rfl ?_
  refine hC _ 0 [_, _] _ _ _ _ _ (m_main_4_2) rfl rfl (Nat.le_of_ble_eq_true rfl) rfl ?_
  refine mB hT 2 rfl ?_
  exact hR _ (by decide) _ _ _ rfl rfl
theorem m_em_4_2 {n vs : Int32} {wo un h : Int64} {bo : Nat → Int32} {ta tr ro ot : Nat → Int64} {Bm : Nat → Nat → Nat → Int32} {bk : Nat → Nat → Int32} (k s : Nat) (hk : k < 3) (hs : s < 3) : KX3_emission l D ca ad [.ref 0, .int 2, .int (Int32.ofNat k), .int (Int32.ofNat s)] (MW n vs wo un h (up bo 2 4) ta tr ro ot Bm bk) (some (.long (emM (Bm 4 2) k s))) (MW n vs wo un h (up bo 2 4) ta tr ro ot Bm bk) := by
  match k, hk, s, hs with
  | 0, _, 0, _ => exact m_em_4_2_0_0
  | 0, _, 1, _ => exact m_em_4_2_0_1
  | 0, _, 2, _ => exact m_em_4_2_0_2
  | 1, _, 0, _ => exact m_em_4_2_1_0
  | 1, _, 1, _ => exact m_em_4_2_1_1
  | 1, _, 2, _ => exact m_em_4_2_1_2
  | 2, _, 0, _ => exact m_em_4_2_2_0
  | 2, _, 1, _ => exact m_em_4_2_2_1
  | 2, _, 2, _ => exact m_em_4_2_2_2
set_option maxRecDepth 20000 in
theorem m_em_4_3_0_0 {n vs : Int32} {wo un h : Int64} {bo : Nat → Int32} {ta tr ro ot : Nat → Int64} {Bm : Nat → Nat → Nat → Int32} {bk : Nat → Nat → Int32} : KX3_emission l D ca ad [.ref 0, .int 3, .int 0, .int 0] (MW n vs wo un h (up bo 3 4) ta tr ro ot Bm bk) (some (.long (emM (Bm 4 3) 0 0))) (MW n vs wo un h (up bo 3 4) ta tr ro ot Bm bk) := by
  refine PX3_emission (Nat.le_of_ble_eq_true rfl) ?_
  intro G hT hC hR
  refine mB hT 26 rfl ?_
  refine hC _ 0 [_, _] _ _ _ _ _ (m_main_4_3) rfl rfl (Nat.le_of_ble_eq_true rfl) rfl ?_
  refine mB hT 2 rfl ?_
  exact hR _ (by decide) _ _ _ rfl rfl
set_option maxRecDepth 20000 in
theorem m_em_4_3_0_1 {n vs : Int32} {wo un h : Int64} {bo : Nat → Int32} {ta tr ro ot : Nat → Int64} {Bm : Nat → Nat → Nat → Int32} {bk : Nat → Nat → Int32} : KX3_emission l D ca ad [.ref 0, .int 3, .int 0, .int 1] (MW n vs wo un h (up bo 3 4) ta tr ro ot Bm bk) (some (.long (emM (Bm 4 3) 0 1))) (MW n vs wo un h (up bo 3 4) ta tr ro ot Bm bk) := by
  refine PX3_emission (Nat.le_of_ble_eq_true rfl) ?_
  intro G hT hC hR
  refine mB hT 26 rfl ?_
  refine hC _ 0 [_, _] _ _ _ _ _ (m_main_4_3) rfl rfl (Nat.le_of_ble_eq_true rfl) rfl ?_
  refine mB hT 2 rfl ?_
  exact hR _ (by decide) _ _ _ rfl rfl
set_option maxRecDepth 20000 in
theorem m_em_4_3_0_2 {n vs : Int32} {wo un h : Int64} {bo : Nat → Int32} {ta tr ro ot : Nat → Int64} {Bm : Nat → Nat → Nat → Int32} {bk : Nat → Nat → Int32} : KX3_emission l D ca ad [.ref 0, .int 3, .int 0, .int 2] (MW n vs wo un h (up bo 3 4) ta tr ro ot Bm bk) (some (.long (emM (Bm 4 3) 0 2))) (MW n vs wo un h (up bo 3 4) ta tr ro ot Bm bk) := by
  refine PX3_emission (Nat.le_of_ble_eq_true rfl) ?_
  intro G hT hC hR
  refine mB hT 26 rfl ?_
  refine hC _ 0 [_, _] _ _ _ _ _ (m_main_4_3) rfl rfl (Nat.le_of_ble_eq_true rfl) rfl ?_
  refine mB hT 2 rfl ?_
  exact hR _ (by decide) _ _ _ rfl rfl
set_option maxRecDepth 20000 in
theorem m_em_4_3_1_0 {n vs : Int32} {wo un h : Int64} {bo : Nat → Int32} {ta tr ro ot : Nat → Int64} {Bm : Nat → Nat → Nat → Int32} {bk : Nat → Nat → Int32} : KX3_emission l D ca ad [.ref 0, .int 3, .int 1, .int 0] (MW n vs wo un h (up bo 3 4) ta tr ro ot Bm bk) (some (.long (emM (Bm 4 3) 1 0))) (MW n vs wo un h (up bo 3 4) ta tr ro ot Bm bk) := by
  refine PX3_emission (Nat.le_of_ble_eq_true rfl) ?_
  intro G hT hC hR
  refine mB hT 26 rfl ?_
  refine hC _ 0 [_, _] _ _ _ _ _ (m_main_4_3) rfl rfl (Nat.le_of_ble_eq_true rfl) rfl ?_
  refine mB hT 2 rfl ?_
  exact hR _ (by decide) _ _ _ rfl rfl
set_option maxRecDepth 20000 in
theorem m_em_4_3_1_1 {n vs : Int32} {wo un h : Int64} {bo : Nat → Int32} {ta tr ro ot : Nat → Int64} {Bm : Nat → Nat → Nat → Int32} {bk : Nat → Nat → Int32} : KX3_emission l D ca ad [.ref 0, .int 3, .int 1, .int 1] (MW n vs wo un h (up bo 3 4) ta tr ro ot Bm bk) (some (.long (emM (Bm 4 3) 1 1))) (MW n vs wo un h (up bo 3 4) ta tr ro ot Bm bk) := by
  refine PX3_emission (Nat.le_of_ble_eq_true rfl) ?_
  intro G hT hC hR
  refine mB hT 26 rfl ?_
  refine hC _ 0 [_, _] _ _ _ _ _ (m_main_4_3) rfl rfl (Nat.le_of_ble_eq_true rfl) rfl ?_
  refine mB hT 2 rfl ?_
  exact hR _ (by decide) _ _ _ rfl rfl
set_option maxRecDepth 20000 in
theorem m_em_4_3_1_2 {n vs : Int32} {wo un h : Int64} {bo : Nat → Int32} {ta tr ro ot : Nat → Int64} {Bm : Nat → Nat → Nat → Int32} {bk : Nat → Nat → Int32} : KX3_emission l D ca ad [.ref 0, .int 3, .int 1, .int 2] (MW n vs wo un h (up bo 3 4) ta tr ro ot Bm bk) (some (.long (emM (Bm 4 3) 1 2))) (MW n vs wo un h (up bo 3 4) ta tr ro ot Bm bk) := by
  refine PX3_emission (Nat.le_of_ble_eq_true rfl) ?_
  intro G hT hC hR
  refine mB hT 26 rfl ?_
  refine hC _ 0 [_, _] _ _ _ _ _ (m_main_4_3) rfl rfl (Nat.le_of_ble_eq_true rfl) rfl ?_
  refine mB hT 2 rfl ?_
  exact hR _ (by decide) _ _ _ rfl rfl
set_option maxRecDepth 20000 in
theorem m_em_4_3_2_0 {n vs : Int32} {wo un h : Int64} {bo : Nat → Int32} {ta tr ro ot : Nat → Int64} {Bm : Nat → Nat → Nat → Int32} {bk : Nat → Nat → Int32} : KX3_emission l D ca ad [.ref 0, .int 3, .int 2, .int 0] (MW n vs wo un h (up bo 3 4) ta tr ro ot Bm bk) (some (.long (emM (Bm 4 3) 2 0))) (MW n vs wo un h (up bo 3 4) ta tr ro ot Bm bk) := by
  refine PX3_emission (Nat.le_of_ble_eq_true rfl) ?_
  intro G hT hC hR
  refine mB hT 26 rfl ?_
  refine hC _ 0 [_, _] _ _ _ _ _ (m_main_4_3) rfl rfl (Nat.le_of_ble_eq_true rfl) rfl ?_
  refine mB hT 2 rfl ?_
  exact hR _ (by decide) _ _ _ rfl rfl
set_option maxRecDepth 20000 in
theorem m_em_4_3_2_1 {n vs : Int32} {wo un h : Int64} {bo : Nat → Int32} {ta tr ro ot : Nat → Int64} {Bm : Nat → Nat → Nat → Int32} {bk : Nat → Nat → Int32} : KX3_emission l D ca ad [.ref 0, .int 3, .int 2, .int 1] (MW n vs wo un h (up bo 3 4) ta tr ro ot Bm bk) (some (.long (emM (Bm 4 3) 2 1))) (MW n vs wo un h (up bo 3 4) ta tr ro ot Bm bk) := by
  refine PX3_emission (Nat.le_of_ble_eq_true rfl) ?_
  intro G hT hC hR
  refine mB hT 26 rfl ?_
  refine hC _ 0 [_, _] _ _ _ _ _ (m_main_4_3) rfl rfl (Nat.le_of_ble_eq_true rfl) rfl ?_
  refine mB hT 2 rfl ?_
  exact hR _ (by decide) _ _ _ rfl rfl
set_option maxRecDepth 20000 in
theorem m_em_4_3_2_2 {n vs : Int32} {wo un h : Int64} {bo : Nat → Int32} {ta tr ro ot : Nat → Int64} {Bm : Nat → Nat → Nat → Int32} {bk : Nat → Nat → Int32} : KX3_emission l D ca ad [.ref 0, .int 3, .int 2, .int 2] (MW n vs wo un h (up bo 3 4) ta tr ro ot Bm bk) (some (.long (emM (Bm 4 3) 2 2))) (MW n vs wo un h (up bo 3 4) ta tr ro ot Bm bk) := by
  refine PX3_emission (Nat.le_of_ble_eq_true rfl) ?_
  intro G hT hC hR
  refine mB hT 26 rfl ?_
  refine hC _ 0 [_, _] _ _ _ _ _ (m_main_4_3) rfl rfl (Nat.le_of_ble_eq_true rfl) rfl ?_
  refine mB hT 2 rfl ?_
  exact hR _ (by decide) _ _ _ rfl rfl
theorem m_em_4_3 {n vs : Int32} {wo un h : Int64} {bo : Nat → Int32} {ta tr ro ot : Nat → Int64} {Bm : Nat → Nat → Nat → Int32} {bk : Nat → Nat → Int32} (k s : Nat) (hk : k < 3) (hs : s < 3) : KX3_emission l D ca ad [.ref 0, .int 3, .int (Int32.ofNat k), .int (Int32.ofNat s)] (MW n vs wo un h (up bo 3 4) ta tr ro ot Bm bk) (some (.long (emM (Bm 4 3) k s))) (MW n vs wo un h (up bo 3 4) ta tr ro ot Bm bk) := by
  match k, hk, s, hs with
  | 0, _, 0, _ => exact m_em_4_3_0_0
  | 0, _, 1, _ => exact m_em_4_3_0_1
  | 0, _, 2, _ => exact m_em_4_3_0_2
  | 1, _, 0, _ => exact m_em_4_3_1_0
  | 1, _, 1, _ => exact m_em_4_3_1_1
  | 1, _, 2, _ => exact m_em_4_3_1_2
  | 2, _, 0, _ => exact m_em_4_3_2_0
  | 2, _, 1, _ => exact m_em_4_3_2_1
  | 2, _, 2, _ => exact m_em_4_3_2_2
set_option maxRecDepth 20000 in
theorem m_em_5_0_0_0 {n vs : Int32} {wo un h : Int64} {bo : Nat → Int32} {ta tr ro ot : Nat → Int64} {Bm : Nat → Nat → Nat → Int32} {bk : Nat → Nat → Int32} : KX3_emission l D ca ad [.ref 0, .int 0, .int 0, .int 0] (MW n vs wo un h (up bo 0 5) ta tr ro ot Bm bk) (some (.long (emM (Bm 5 0) 0 0))) (MW n vs wo un h (up bo 0 5) ta tr ro ot Bm bk) := by
  refine PX3_emission (Nat.le_of_ble_eq_true rfl) ?_
  intro G hT hC hR
  refine mB hT 26 rfl ?_
  refine hC _ 0 [_, _] _ _ _ _ _ (m_main_5_0) rfl rfl (Nat.le_of_ble_eq_true rfl) rfl ?_
  refine mB hT 2 rfl ?_
  exact hR _ (by decide) _ _ _ rfl rfl
set_option maxRecDepth 20000 in
theorem m_em_5_0_0_1 {n vs : Int32} {wo un h : Int64} {bo : Nat → Int32} {ta tr ro ot : Nat → Int64} {Bm : Nat → Nat → Nat → Int32} {bk : Nat → Nat → Int32} : KX3_emission l D ca ad [.ref 0, .int 0, .int 0, .int 1] (MW n vs wo un h (up bo 0 5) ta tr ro ot Bm bk) (some (.long (emM (Bm 5 0) 0 1))) (MW n vs wo un h (up bo 0 5) ta tr ro ot Bm bk) := by
  refine PX3_emission (Nat.le_of_ble_eq_true rfl) ?_
  intro G hT hC hR
  refine mB hT 26 rfl ?_
  refine hC _ 0 [_, _] _ _ _ _ _ (m_main_5_0) rfl rfl (Nat.le_of_ble_eq_true rfl) rfl ?_
  refine mB hT 2 rfl ?_
  exact hR _ (by decide) _ _ _ rfl rfl
set_option maxRecDepth 20000 in
theorem m_em_5_0_0_2 {n vs : Int32} {wo un h : Int64} {bo : Nat → Int32} {ta tr ro ot : Nat → Int64} {Bm : Nat → Nat → Nat → Int32} {bk : Nat → Nat → Int32} : KX3_emission l D ca ad [.ref 0, .int 0, .int 0, .int 2] (MW n vs wo un h (up bo 0 5) ta tr ro ot Bm bk) (some (.long (emM (Bm 5 0) 0 2))) (MW n vs wo un h (up bo 0 5) ta tr ro ot Bm bk) := by
  refine PX3_emission (Nat.le_of_ble_eq_true rfl) ?_
  intro G hT hC hR
  refine mB hT 26 rfl ?_
  refine hC _ 0 [_, _] _ _ _ _ _ (m_main_5_0) rfl rfl (Nat.le_of_ble_eq_true rfl) rfl ?_
  refine mB hT 2 rfl ?_
  exact hR _ (by decide) _ _ _ rfl rfl
set_option maxRecDepth 20000 in
theorem m_em_5_0_1_0 {n vs : Int32} {wo un h : Int64} {bo : Nat → Int32} {ta tr ro ot : Nat → Int64} {Bm : Nat → Nat → Nat → Int32} {bk : Nat → Nat → Int32} : KX3_emission l D ca ad [.ref 0, .int 0, .int 1, .int 0] (MW n vs wo un h (up bo 0 5) ta tr ro ot Bm bk) (some (.long (emM (Bm 5 0) 1 0))) (MW n vs wo un h (up bo 0 5) ta tr ro ot Bm bk) := by
  refine PX3_emission (Nat.le_of_ble_eq_true rfl) ?_
  intro G hT hC hR
  refine mB hT 26 rfl ?_
  refine hC _ 0 [_, _] _ _ _ _ _ (m_main_5_0) rfl rfl (Nat.le_of_ble_eq_true rfl) rfl ?_
  refine mB hT 2 rfl ?_
  exact hR _ (by decide) _ _ _ rfl rfl
set_option maxRecDepth 20000 in
theorem m_em_5_0_1_1 {n vs : Int32} {wo un h : Int64} {bo : Nat → Int32} {ta tr ro ot : Nat → Int64} {Bm : Nat → Nat → Nat → Int32} {bk : Nat → Nat → Int32} : KX3_emission l D ca ad [.ref 0, .int 0, .int 1, .int 1] (MW n vs wo un h (up bo 0 5) ta tr ro ot Bm bk) (some (.long (emM (Bm 5 0) 1 1))) (MW n vs wo un h (up bo 0 5) ta tr ro ot Bm bk) := by
  refine PX3_emission (Nat.le_of_ble_eq_true rfl) ?_
  intro G hT hC hR
  refine mB hT 26 rfl ?_
  refine hC _ 0 [_, _] _ _ _ _ _ (m_main_5_0) rfl rfl (Nat.le_of_ble_eq_true rfl) rfl ?_
  refine mB hT 2 rfl ?_
  exact hR _ (by decide) _ _ _ rfl rfl
set_option maxRecDepth 20000 in
theorem m_em_5_0_1_2 {n vs : Int32} {wo un h : Int64} {bo : Nat → Int32} {ta tr ro ot : Nat → Int64} {Bm : Nat → Nat → Nat → Int32} {bk : Nat → Nat → Int32} : KX3_emission l D ca ad [.ref 0, .int 0, .int 1, .int 2] (MW n vs wo un h (up bo 0 5) ta tr ro ot Bm bk) (some (.long (emM (Bm 5 0) 1 2))) (MW n vs wo un h (up bo 0 5) ta tr ro ot Bm bk) := by
  refine PX3_emission (Nat.le_of_ble_eq_true rfl) ?_
  intro G hT hC hR
  refine mB hT 26 rfl ?_
  refine hC _ 0 [_, _] _ _ _ _ _ (m_main_5_0) rfl rfl (Nat.le_of_ble_eq_true rfl) rfl ?_
  refine mB hT 2 rfl ?_
  exact hR _ (by decide) _ _ _ rfl rfl
set_option maxRecDepth 20000 in
theorem m_em_5_0_2_0 {n vs : Int32} {wo un h : Int64} {bo : Nat → Int32} {ta tr ro ot : Nat → Int64} {Bm : Nat → Nat → Nat → Int32} {bk : Nat → Nat → Int32} : KX3_emission l D ca ad [.ref 0, .int 0, .int 2, .int 0] (MW n vs wo un h (up bo 0 5) ta tr ro ot Bm bk) (some (.long (emM (Bm 5 0) 2 0))) (MW n vs wo un h (up bo 0 5) ta tr ro ot Bm bk) := by
  refine PX3_emission (Nat.le_of_ble_eq_true rfl) ?_
  intro G hT hC hR
  refine mB hT 26 rfl ?_
  refine hC _ 0 [_, _] _ _ _ _ _ (m_main_5_0) rfl rfl (Nat.le_of_ble_eq_true rfl) rfl ?_
  refine mB hT 2 rfl ?_
  exact hR _ (by decide) _ _ _ rfl rfl
set_option maxRecDepth 20000 in
theorem m_em_5_0_2_1 {n vs : Int32} {wo un h : Int64} {bo : Nat → Int32} {ta tr ro ot : Nat → Int64} {Bm : Nat → Nat → Nat → Int32} {bk : Nat → Nat → Int32} : KX3_emission l D ca ad [.ref 0, .int 0, .int 2, .int 1] (MW n vs wo un h (up bo 0 5) ta tr ro ot Bm bk) (some (.long (emM (Bm 5 0) 2 1))) (MW n vs wo un h (up bo 0 5) ta tr ro ot Bm bk) := by
  refine PX3_emission (Nat.le_of_ble_eq_true rfl) ?_
  intro G hT hC hR
  refine mB hT 26 rfl ?_
  refine hC _ 0 [_, _] _ _ _ _ _ (m_main_5_0) rfl rfl (Nat.le_of_ble_eq_true rfl) rfl ?_
  refine mB hT 2 rfl ?_
  exact hR _ (by decide) _ _ _ rfl rfl
set_option maxRecDepth 20000 in
theorem m_em_5_0_2_2 {n vs : Int32} {wo un h : Int64} {bo : Nat → Int32} {ta tr ro ot : Nat → Int64} {Bm : Nat → Nat → Nat → Int32} {bk : Nat → Nat → Int32} : KX3_emission l D ca ad [.ref 0, .int 0, .int 2, .int 2] (MW n vs wo un h (up bo 0 5) ta tr ro ot Bm bk) (some (.long (emM (Bm 5 0) 2 2))) (MW n vs wo un h (up bo 0 5) ta tr ro ot Bm bk) := by
  refine PX3_emission (Nat.le_of_ble_eq_true rfl) ?_
  intro G hT hC hR
  refine mB hT 26 rfl ?_
  refine hC _ 0 [_, _] _ _ _ _ _ (m_main_5_0) rfl rfl (Nat.le_of_ble_eq_true rfl) rfl ?_
  refine mB hT 2 rfl ?_
  exact hR _ (by decide) _ _ _ rfl rfl
theorem m_em_5_0 {n vs : Int32} {wo un h : Int64} {bo : Nat → Int32} {ta tr ro ot : Nat → Int64} {Bm : Nat → Nat → Nat → Int32} {bk : Nat → Nat → Int32} (k s : Nat) (hk : k < 3) (hs : s < 3) : KX3_emission l D ca ad [.ref 0, .int 0, .int (Int32.ofNat k), .int (Int32.ofNat s)] (MW n vs wo un h (up bo 0 5) ta tr ro ot Bm bk) (some (.long (emM (Bm 5 0) k s))) (MW n vs wo un h (up bo 0 5) ta tr ro ot Bm bk) := by
  match k, hk, s, hs with
  | 0, _, 0, _ => exact m_em_5_0_0_0
  | 0, _, 1, _ => exact m_em_5_0_0_1
  | 0, _, 2, _ => exact m_em_5_0_0_2
  | 1, _, 0, _ => exact m_em_5_0_1_0
  | 1, _, 1, _ => exact m_em_5_0_1_1
  | 1, _, 2, _ => exact m_em_5_0_1_2
  | 2, _, 0, _ => exact m_em_5_0_2_0
  | 2, _, 1, _ => exact m_em_5_0_2_1
  | 2, _, 2, _ => exact m_em_5_0_2_2
set_option maxRecDepth 20000 in
theorem m_em_5_1_0_0 {n vs : Int32} {wo un h : Int64} {bo : Nat → Int32} {ta tr ro ot : Nat → Int64} {Bm : Nat → Nat → Nat → Int32} {bk : Nat → Nat → Int32} : KX3_emission l D ca ad [.ref 0, .int 1, .int 0, .int 0] (MW n vs wo un h (up bo 1 5) ta tr ro ot Bm bk) (some (.long (emM (Bm 5 1) 0 0))) (MW n vs wo un h (up bo 1 5) ta tr ro ot Bm bk) := by
  refine PX3_emission (Nat.le_of_ble_eq_true rfl) ?_
  intro G hT hC hR
  refine mB hT 26 rfl ?_
  refine hC _ 0 [_, _] _ _ _ _ _ (m_main_5_1) rfl rfl (Nat.le_of_ble_eq_true rfl) rfl ?_
  refine mB hT 2 rfl ?_
  exact hR _ (by decide) _ _ _ rfl rfl
set_option maxRecDepth 20000 in
theorem m_em_5_1_0_1 {n vs : Int32} {wo un h : Int64} {bo : Nat → Int32} {ta tr ro ot : Nat → Int64} {Bm : Nat → Nat → Nat → Int32} {bk : Nat → Nat → Int32} : KX3_emission l D ca ad [.ref 0, .int 1, .int 0, .int 1] (MW n vs wo un h (up bo 1 5) ta tr ro ot Bm bk) (some (.long (emM (Bm 5 1) 0 1))) (MW n vs wo un h (up bo 1 5) ta tr ro ot Bm bk) := by
  refine PX3_emission (Nat.le_of_ble_eq_true rfl) ?_
  intro G hT hC hR
  refine mB hT 26 rfl ?_
  refine hC _ 0 [_, _] _ _ _ _ _ (m_main_5_1) rfl rfl (Nat.le_of_ble_eq_true rfl) rfl ?_
  refine mB hT 2 rfl ?_
  exact hR _ (by decide) _ _ _ rfl rfl
set_option maxRecDepth 20000 in
theorem m_em_5_1_0_2 {n vs : Int32} {wo un h : Int64} {bo : Nat → Int32} {ta tr ro ot : Nat → Int64} {Bm : Nat → Nat → Nat → Int32} {bk : Nat → Nat → Int32} : KX3_emission l D ca ad [.ref 0, .int 1, .int 0, .int 2] (MW n vs wo un h (up bo 1 5) ta tr ro ot Bm bk) (some (.long (emM (Bm 5 1) 0 2))) (MW n vs wo un h (up bo 1 5) ta tr ro ot Bm bk) := by
  refine PX3_emission (Nat.le_of_ble_eq_true rfl) ?_
  intro G hT hC hR
  refine mB hT 26 rfl ?_
  refine hC _ 0 [_, _] _ _ _ _ _ (m_main_5_1) rfl rfl (Nat.le_of_ble_eq_true rfl) rfl ?_
  refine mB hT 2 rfl ?_
  exact hR _ (by decide) _ _ _ rfl rfl
set_option maxRecDepth 20000 in
theorem m_em_5_1_1_0 {n vs : Int32} {wo un h : Int64} {bo : Nat → Int32} {ta tr ro ot : Nat → Int64} {Bm : Nat → Nat → Nat → Int32} {bk : Nat → Nat → Int32} : KX3_emission l D ca ad [.ref 0, .int 1, .int 1, .int 0] (MW n vs wo un h (up bo 1 5) ta tr ro ot Bm bk) (some (.long (emM (Bm 5 1) 1 0))) (MW n vs wo un h (up bo 1 5) ta tr ro ot Bm bk) := by
  refine PX3_emission (Nat.le_of_ble_eq_true rfl) ?_
  intro G hT hC hR
  refine mB hT 26 rfl ?_
  refine hC _ 0 [_, _] _ _ _ _ _ (m_main_5_1) rfl rfl (Nat.le_of_ble_eq_true rfl) rfl ?_
  refine mB hT 2 rfl ?_
  exact hR _ (by decide) _ _ _ rfl rfl
set_option maxRecDepth 20000 in
theorem m_em_5_1_1_1 {n vs : Int32} {wo un h : Int64} {bo : Nat → Int32} {ta tr ro ot : Nat → Int64} {Bm : Nat → Nat → Nat → Int32} {bk : Nat → Nat → Int32} : KX3_emission l D ca ad [.ref 0, .int 1, .int 1, .int 1] (MW n vs wo un h (up bo 1 5) ta tr ro ot Bm bk) (some (.long (emM (Bm 5 1) 1 1))) (MW n vs wo un h (up bo 1 5) ta tr ro ot Bm bk) := by
  refine PX3_emission (Nat.le_of_ble_eq_true rfl) ?_
  intro G hT hC hR
  refine mB hT 26 rfl ?_
  refine hC _ 0 [_, _] _ _ _ _ _ (m_main_5_1) rfl rfl (Nat.le_of_ble_eq_true rfl) rfl ?_
  refine mB hT 2 rfl ?_
  exact hR _ (by decide) _ _ _ rfl rfl
set_option maxRecDepth 20000 in
theorem m_em_5_1_1_2 {n vs : Int32} {wo un h : Int64} {bo : Nat → Int32} {ta tr ro ot : Nat → Int64} {Bm : Nat → Nat → Nat → Int32} {bk : Nat → Nat → Int32} : KX3_emission l D ca ad [.ref 0, .int 1, .int 1, .int 2] (MW n vs wo un h (up bo 1 5) ta tr ro ot Bm bk) (some (.long (emM (Bm 5 1) 1 2))) (MW n vs wo un h (up bo 1 5) ta tr ro ot Bm bk) := by
  refine PX3_emission (Nat.le_of_ble_eq_true rfl) ?_
  intro G hT hC hR
  refine mB hT 26 rfl ?_
  refine hC _ 0 [_, _] _ _ _ _ _ (m_main_5_1) rfl rfl (Nat.le_of_ble_eq_true rfl) rfl ?_
  refine mB hT 2 rfl ?_
  exact hR _ (by decide) _ _ _ rfl rfl
set_option maxRecDepth 20000 in
theorem m_em_5_1_2_0 {n vs : Int32} {wo un h : Int64} {bo : Nat → Int32} {ta tr ro ot : Nat → Int64} {Bm : Nat → Nat → Nat → Int32} {bk : Nat → Nat → Int32} : KX3_emission l D ca ad [.ref 0, .int 1, .int 2, .int 0] (MW n vs wo un h (up bo 1 5) ta tr ro ot Bm bk) (some (.long (emM (Bm 5 1) 2 0))) (MW n vs wo un h (up bo 1 5) ta tr ro ot Bm bk) := by
  refine PX3_emission (Nat.le_of_ble_eq_true rfl) ?_
  intro G hT hC hR
  refine mB hT 26 rfl ?_
  refine hC _ 0 [_, _] _ _ _ _ _ (m_main_5_1) rfl rfl (Nat.le_of_ble_eq_true rfl) rfl ?_
  refine mB hT 2 rfl ?_
  exact hR _ (by decide) _ _ _ rfl rfl
set_option maxRecDepth 20000 in
theorem m_em_5_1_2_1 {n vs : Int32} {wo un h : Int64} {bo : Nat → Int32} {ta tr ro ot : Nat → Int64} {Bm : Nat → Nat → Nat → Int32} {bk : Nat → Nat → Int32} : KX3_emission l D ca ad [.ref 0, .int 1, .int 2, .int 1] (MW n vs wo un h (up bo 1 5) ta tr ro ot Bm bk) (some (.long (emM (Bm 5 1) 2 1))) (MW n vs wo un h (up bo 1 5) ta tr ro ot Bm bk) := by
  refine PX3_emission (Nat.le_of_ble_eq_true rfl) ?_
  intro G hT hC hR
  refine mB hT 26 rfl ?_
  refine hC _ 0 [_, _] _ _ _ _ _ (m_main_5_1) rfl rfl (Nat.le_of_ble_eq_true rfl) rfl ?_
  refine mB hT 2 rfl ?_
  exact hR _ (by decide) _ _ _ rfl rfl
set_option maxRecDepth 20000 in
theorem m_em_5_1_2_2 {n vs : Int32} {wo un h : Int64} {bo : Nat → Int32} {ta tr ro ot : Nat → Int64} {Bm : Nat → Nat → Nat → Int32} {bk : Nat → Nat → Int32} : KX3_emission l D ca ad [.ref 0, .int 1, .int 2, .int 2] (MW n vs wo un h (up bo 1 5) ta tr ro ot Bm bk) (some (.long (emM (Bm 5 1) 2 2))) (MW n vs wo un h (up bo 1 5) ta tr ro ot Bm bk) := by
  refine PX3_emission (Nat.le_of_ble_eq_true rfl) ?_
  intro G hT hC hR
  refine mB hT 26 rfl ?_
  refine hC _ 0 [_, _] _ _ _ _ _ (m_main_5_1) rfl rfl (Nat.le_of_ble_eq_true rfl) rfl ?_
  refine mB hT 2 rfl ?_
  exact hR _ (by decide) _ _ _ rfl rfl
theorem m_em_5_1 {n vs : Int32} {wo un h : Int64} {bo : Nat → Int32} {ta tr ro ot : Nat → Int64} {Bm : Nat → Nat → Nat → Int32} {bk : Nat → Nat → Int32} (k s : Nat) (hk : k < 3) (hs : s < 3) : KX3_emission l D ca ad [.ref 0, .int 1, .int (Int32.ofNat k), .int (Int32.ofNat s)] (MW n vs wo un h (up bo 1 5) ta tr ro ot Bm bk) (some (.long (emM (Bm 5 1) k s))) (MW n vs wo un h (up bo 1 5) ta tr ro ot Bm bk) := by
  match k, hk, s, hs with
  | 0, _, 0, _ => exact m_em_5_1_0_0
  | 0, _, 1, _ => exact m_em_5_1_0_1
  | 0, _, 2, _ => exact m_em_5_1_0_2
  | 1, _, 0, _ => exact m_em_5_1_1_0
  | 1, _, 1, _ => exact m_em_5_1_1_1
  | 1, _, 2, _ => exact m_em_5_1_1_2
  | 2, _, 0, _ => exact m_em_5_1_2_0
  | 2, _, 1, _ => exact m_em_5_1_2_1
  | 2, _, 2, _ => exact m_em_5_1_2_2
set_option maxRecDepth 20000 in
theorem m_em_5_2_0_0 {n vs : Int32} {wo un h : Int64} {bo : Nat → Int32} {ta tr ro ot : Nat → Int64} {Bm : Nat → Nat → Nat → Int32} {bk : Nat → Nat → Int32} : KX3_emission l D ca ad [.ref 0, .int 2, .int 0, .int 0] (MW n vs wo un h (up bo 2 5) ta tr ro ot Bm bk) (some (.long (emM (Bm 5 2) 0 0))) (MW n vs wo un h (up bo 2 5) ta tr ro ot Bm bk) := by
  refine PX3_emission (Nat.le_of_ble_eq_true rfl) ?_
  intro G hT hC hR
  refine mB hT 26 rfl ?_
  refine hC _ 0 [_, _] _ _ _ _ _ (m_main_5_2) rfl rfl (Nat.le_of_ble_eq_true rfl) rfl ?_
  refine mB hT 2 rfl ?_
  exact hR _ (by decide) _ _ _ rfl rfl
set_option maxRecDepth 20000 in
theorem m_em_5_2_0_1 {n vs : Int32} {wo un h : Int64} {bo : Nat → Int32} {ta tr ro ot : Nat → Int64} {Bm : Nat → Nat → Nat → Int32} {bk : Nat → Nat → Int32} : KX3_emission l D ca ad [.ref 0, .int 2, .int 0, .int 1] (MW n vs wo un h (up bo 2 5) ta tr ro ot Bm bk) (some (.long (emM (Bm 5 2) 0 1))) (MW n vs wo un h (up bo 2 5) ta tr ro ot Bm bk) := by
  refine PX3_emission (Nat.le_of_ble_eq_true rfl) ?_
  intro G hT hC hR
  refine mB hT 26 rfl ?_
  refine hC _ 0 [_, _] _ _ _ _ _ (m_main_5_2) rfl rfl (Nat.le_of_ble_eq_true rfl) rfl ?_
  refine mB hT 2 rfl ?_
  exact hR _ (by decide) _ _ _ rfl rfl
set_option maxRecDepth 20000 in
theorem m_em_5_2_0_2 {n vs : Int32} {wo un h : Int64} {bo : Nat → Int32} {ta tr ro ot : Nat → Int64} {Bm : Nat → Nat → Nat → Int32} {bk : Nat → Nat → Int32} : KX3_emission l D ca ad [.ref 0, .int 2, .int 0, .int 2] (MW n vs wo un h (up bo 2 5) ta tr ro ot Bm bk) (some (.long (emM (Bm 5 2) 0 2))) (MW n vs wo un h (up bo 2 5) ta tr ro ot Bm bk) := by
  refine PX3_emission (Nat.le_of_ble_eq_true rfl) ?_
  intro G hT hC hR
  refine mB hT 26 rfl ?_
  refine hC _ 0 [_, _] _ _ _ _ _ (m_main_5_2) rfl rfl (Nat.le_of_ble_eq_true rfl) rfl ?_
  refine mB hT 2 rfl ?_
  exact hR _ (by decide) _ _ _ rfl rfl
set_option maxRecDepth 20000 in
theorem m_em_5_2_1_0 {n vs : Int32} {wo un h : Int64} {bo : Nat → Int32} {ta tr ro ot : Nat → Int64} {Bm : Nat → Nat → Nat → Int32} {bk : Nat → Nat → Int32} : KX3_emission l D ca ad [.ref 0, .int 2, .int 1, .int 0] (MW n vs wo un h (up bo 2 5) ta tr ro ot Bm bk) (some (.long (emM (Bm 5 2) 1 0))) (MW n vs wo un h (up bo 2 5) ta tr ro ot Bm bk) := by
  refine PX3_emission (Nat.le_of_ble_eq_true rfl) ?_
  intro G hT hC hR
  refine mB hT 26 rfl ?_
  refine hC _ 0 [_, _] _ _ _ _ _ (m_main_5_2) rfl rfl (Nat.le_of_ble_eq_true rfl) rfl ?_
  refine mB hT 2 rfl ?_
  exact hR _ (by decide) _ _ _ rfl rfl
set_option maxRecDepth 20000 in
theorem m_em_5_2_1_1 {n vs : Int32} {wo un h : Int64} {bo : Nat → Int32} {ta tr ro ot : Nat → Int64} {Bm : Nat → Nat → Nat → Int32} {bk : Nat → Nat → Int32} : KX3_emission l D ca ad [.ref 0, .int 2, .int 1, .int 1] (MW n vs wo un h (up bo 2 5) ta tr ro ot Bm bk) (some (.long (emM (Bm 5 2) 1 1))) (MW n vs wo un h (up bo 2 5) ta tr ro ot Bm bk) := by
  refine PX3_emission (Nat.le_of_ble_eq_true rfl) ?_
  intro G hT hC hR
  refine mB hT 26 rfl ?_
  refine hC _ 0 [_, _] _ _ _ _ _ (m_main_5_2) rfl rfl (Nat.le_of_ble_eq_true rfl) rfl ?_
  refine mB hT 2 rfl ?_
  exact hR _ (by decide) _ _ _ rfl rfl
set_option maxRecDepth 20000 in
theorem m_em_5_2_1_2 {n vs : Int32} {wo un h : Int64} {bo : Nat → Int32} {ta tr ro ot : Nat → Int64} {Bm : Nat → Nat → Nat → Int32} {bk : Nat → Nat → Int32} : KX3_emission l D ca ad [.ref 0, .int 2, .int 1, .int 2] (MW n vs wo un h (up bo 2 5) ta tr ro ot Bm bk) (some (.long (emM (Bm 5 2) 1 2))) (MW n vs wo un h (up bo 2 5) ta tr ro ot Bm bk) := by
  refine PX3_emission (Nat.le_of_ble_eq_true rfl) ?_
  intro G hT hC hR
  refine mB hT 26 rfl ?_
  refine hC _ 0 [_, _] _ _ _ _ _ (m_main_5_2) rfl rfl (Nat.le_of_ble_eq_true rfl) rfl ?_
  refine mB hT 2 rfl ?_
  exact hR _ (by decide) _ _ _ rfl rfl
set_option maxRecDepth 20000 in
theorem m_em_5_2_2_0 {n vs : Int32} {wo un h : Int64} {bo : Nat → Int32} {ta tr ro ot : Nat → Int64} {Bm : Nat → Nat → Nat → Int32} {bk : Nat → Nat → Int32} : KX3_emission l D ca ad [.ref 0, .int 2, .int 2, .int 0] (MW n vs wo un h (up bo 2 5) ta tr ro ot Bm bk) (some (.long (emM (Bm 5 2) 2 0))) (MW n vs wo un h (up bo 2 5) ta tr ro ot Bm bk) := by
  refine PX3_emission (Nat.le_of_ble_eq_true rfl) ?_
  intro G hT hC hR
  refine mB hT 26 rfl ?_
  refine hC _ 0 [_, _] _ _ _ _ _ (m_main_5_2) rfl rfl (Nat.le_of_ble_eq_true rfl) rfl ?_
  refine mB hT 2 rfl ?_
  exact hR _ (by decide) _ _ _ rfl rfl
set_option maxRecDepth 20000 in
theorem m_em_5_2_2_1 {n vs : Int32} {wo un h : Int64} {bo : Nat → Int32} {ta tr ro ot : Nat → Int64} {Bm : Nat → Nat → Nat → Int32} {bk : Nat → Nat → Int32} : KX3_emission l D ca ad [.ref 0, .int 2, .int 2, .int 1] (MW n vs wo un h (up bo 2 5) ta tr ro ot Bm bk) (some (.long (emM (Bm 5 2) 2 1))) (MW n vs wo un h (up bo 2 5) ta tr ro ot Bm bk) := by
  refine PX3_emission (Nat.le_of_ble_eq_true rfl) ?_
  intro G hT hC hR
  refine mB hT 26 rfl ?_
  refine hC _ 0 [_, _] _ _ _ _ _ (m_main_5_2) rfl rfl (Nat.le_of_ble_eq_true rfl) rfl ?_
  refine mB hT 2 rfl ?_
  exact hR _ (by decide) _ _ _ rfl rfl
set_option maxRecDepth 20000 in
theorem m_em_5_2_2_2 {n vs : Int32} {wo un h : Int64} {bo : Nat → Int32} {ta tr ro ot : Nat → Int64} {Bm : Nat → Nat → Nat → Int32} {bk : Nat → Nat → Int32} : KX3_emission l D ca ad [.ref 0, .int 2, .int 2, .int 2] (MW n vs wo un h (up bo 2 5) ta tr ro ot Bm bk) (some (.long (emM (Bm 5 2) 2 2))) (MW n vs wo un h (up bo 2 5) ta tr ro ot Bm bk) := by
  refine PX3_emission (Nat.le_of_ble_eq_true rfl) ?_
  intro G hT hC hR
  refine mB hT 26 rfl ?_
  refine hC _ 0 [_, _] _ _ _ _ _ (m_main_5_2) rfl rfl (Nat.le_of_ble_eq_true rfl) rfl ?_
  refine mB hT 2 rfl ?_
  exact hR _ (by decide) _ _ _ rfl rfl
theorem m_em_5_2 {n vs : Int32} {wo un h : Int64} {bo : Nat → Int32} {ta tr ro ot : Nat → Int64} {Bm : Nat → Nat → Nat → Int32} {bk : Nat → Nat → Int32} (k s : Nat) (hk : k < 3) (hs : s < 3) : KX3_emission l D ca ad [.ref 0, .int 2, .int (Int32.ofNat k), .int (Int32.ofNat s)] (MW n vs wo un h (up bo 2 5) ta tr ro ot Bm bk) (some (.long (emM (Bm 5 2) k s))) (MW n vs wo un h (up bo 2 5) ta tr ro ot Bm bk) := by
  match k, hk, s, hs with
  | 0, _, 0, _ => exact m_em_5_2_0_0
  | 0, _, 1, _ => exact m_em_5_2_0_1
  | 0, _, 2, _ => exact m_em_5_2_0_2
  | 1, _, 0, _ => exact m_em_5_2_1_0
  | 1, _, 1, _ => exact m_em_5_2_1_1
  | 1, _, 2, _ => exact m_em_5_2_1_2
  | 2, _, 0, _ => exact m_em_5_2_2_0
  | 2, _, 1, _ => exact m_em_5_2_2_1
  | 2, _, 2, _ => exact m_em_5_2_2_2
set_option maxRecDepth 20000 in
theorem m_em_5_3_0_0 {n vs : Int32} {wo un h : Int64} {bo : Nat → Int32} {ta tr ro ot : Nat → Int64} {Bm : Nat → Nat → Nat → Int32} {bk : Nat → Nat → Int32} : KX3_emission l D ca ad [.ref 0, .int 3, .int 0, .int 0] (MW n vs wo un h (up bo 3 5) ta tr ro ot Bm bk) (some (.long (emM (Bm 5 3) 0 0))) (MW n vs wo un h (up bo 3 5) ta tr ro ot Bm bk) := by
  refine PX3_emission (Nat.le_of_ble_eq_true rfl) ?_
  intro G hT hC hR
  refine mB hT 26 rfl ?_
  refine hC _ 0 [_, _] _ _ _ _ _ (m_main_5_3) rfl rfl (Nat.le_of_ble_eq_true rfl) rfl ?_
  refine mB hT 2 rfl ?_
  exact hR _ (by decide) _ _ _ rfl rfl
set_option maxRecDepth 20000 in
theorem m_em_5_3_0_1 {n vs : Int32} {wo un h : Int64} {bo : Nat → Int32} {ta tr ro ot : Nat → Int64} {Bm : Nat → Nat → Nat → Int32} {bk : Nat → Nat → Int32} : KX3_emission l D ca ad [.ref 0, .int 3, .int 0, .int 1] (MW n vs wo un h (up bo 3 5) ta tr ro ot Bm bk) (some (.long (emM (Bm 5 3) 0 1))) (MW n vs wo un h (up bo 3 5) ta tr ro ot Bm bk) := by
  refine PX3_emission (Nat.le_of_ble_eq_true rfl) ?_
  intro G hT hC hR
  refine mB hT 26 rfl ?_
  refine hC _ 0 [_, _] _ _ _ _ _ (m_main_5_3) rfl rfl (Nat.le_of_ble_eq_true rfl) rfl ?_
  refine mB hT 2 rfl ?_
  exact hR _ (by decide) _ _ _ rfl rfl
set_option maxRecDepth 20000 in
theorem m_em_5_3_0_2 {n vs : Int32} {wo un h : Int64} {bo : Nat → Int32} {ta tr ro ot : Nat → Int64} {Bm : Nat → Nat → Nat → Int32} {bk : Nat → Nat → Int32} : KX3_emission l D ca ad [.ref 0, .int 3, .int 0, .int 2] (MW n vs wo un h (up bo 3 5) ta tr ro ot Bm bk) (some (.long (emM (Bm 5 3) 0 2))) (MW n vs wo un h (up bo 3 5) ta tr ro ot Bm bk) := by
  refine PX3_emission (Nat.le_of_ble_eq_true rfl) ?_
  intro G hT hC hR
  refine mB hT 26 rfl ?_
  refine hC _ 0 [_, _] _ _ _ _ _ (m_main_5_3) rfl rfl (Nat.le_of_ble_eq_true rfl) rfl ?_
  refine mB hT 2 rfl ?_
  exact hR _ (by decide) _ _ _ rfl rfl
set_option maxRecDepth 20000 in
theorem m_em_5_3_1_0 {n vs : Int32} {wo un h : Int64} {bo : Nat → Int32} {ta tr ro ot : Nat → Int64} {Bm : Nat → Nat → Nat → Int32} {bk : Nat → Nat → Int32} : KX3_emission l D ca ad [.ref 0, .int 3, .int 1, .int 0] (MW n vs wo un h (up bo 3 5) ta tr ro ot Bm bk) (some (.long (emM (Bm 5 3) 1 0))) (MW n vs wo un h (up bo 3 5) ta tr ro ot Bm bk) := by
  refine PX3_emission (Nat.le_of_ble_eq_true rfl) ?_
  intro G hT hC hR
  refine mB hT 26 rfl ?_
  refine hC _ 0 [_, _] _ _ _ _ _ (m_main_5_3) rfl rfl (Nat.le_of_ble_eq_true rfl) rfl ?_
  refine mB hT 2 rfl ?_
  exact hR _ (by decide) _ _ _ rfl rfl
set_option maxRecDepth 20000 in
theorem m_em_5_3_1_1 {n vs : Int32} {wo un h : Int64} {bo : Nat → Int32} {ta tr ro ot : Nat → Int64} {Bm : Nat → Nat → Nat → Int32} {bk : Nat → Nat → Int32} : KX3_emission l D ca ad [.ref 0, .int 3, .int 1, .int 1] (MW n vs wo un h (up bo 3 5) ta tr ro ot Bm bk) (some (.long (emM (Bm 5 3) 1 1))) (MW n vs wo un h (up bo 3 5) ta tr ro ot Bm bk) := by
  refine PX3_emission (Nat.le_of_ble_eq_true rfl) ?_
  intro G hT hC hR
  refine mB hT 26 rfl ?_
  refine hC _ 0 [_, _] _ _ _ _ _ (m_main_5_3) rfl rfl (Nat.le_of_ble_eq_true rfl) rfl ?_
  refine mB hT 2 rfl ?_
  exact hR _ (by decide) _ _ _ rfl rfl
set_option maxRecDepth 20000 in
theorem m_em_5_3_1_2 {n vs : Int32} {wo un h : Int64} {bo : Nat → Int32} {ta tr ro ot : Nat → Int64} {Bm : Nat → Nat → Nat → Int32} {bk : Nat → Nat → Int32} : KX3_emission l D ca ad [.ref 0, .int 3, .int 1, .int 2] (MW n vs wo un h (up bo 3 5) ta tr ro ot Bm bk) (some (.long (emM (Bm 5 3) 1 2))) (MW n vs wo un h (up bo 3 5) ta tr ro ot Bm bk) := by
  refine PX3_emission (Nat.le_of_ble_eq_true rfl) ?_
  intro G hT hC hR
  refine mB hT 26 rfl ?_
  refine hC _ 0 [_, _] _ _ _ _ _ (m_main_5_3) rfl rfl (Nat.le_of_ble_eq_true rfl) rfl ?_
  refine mB hT 2 rfl ?_
  exact hR _ (by decide) _ _ _ rfl rfl
set_option maxRecDepth 20000 in
theorem m_em_5_3_2_0 {n vs : Int32} {wo un h : Int64} {bo : Nat → Int32} {ta tr ro ot : Nat → Int64} {Bm : Nat → Nat → Nat → Int32} {bk : Nat → Nat → Int32} : KX3_emission l D ca ad [.ref 0, .int 3, .int 2, .int 0] (MW n vs wo un h (up bo 3 5) ta tr ro ot Bm bk) (some (.long (emM (Bm 5 3) 2 0))) (MW n vs wo un h (up bo 3 5) ta tr ro ot Bm bk) := by
  refine PX3_emission (Nat.le_of_ble_eq_true rfl) ?_
  intro G hT hC hR
  refine mB hT 26 rfl ?_
  refine hC _ 0 [_, _] _ _ _ _ _ (m_main_5_3) rfl rfl (Nat.le_of_ble_eq_true rfl) rfl ?_
  refine mB hT 2 rfl ?_
  exact hR _ (by decide) _ _ _ rfl rfl
set_option maxRecDepth 20000 in
theorem m_em_5_3_2_1 {n vs : Int32} {wo un h : Int64} {bo : Nat → Int32} {ta tr ro ot : Nat → Int64} {Bm : Nat → Nat → Nat → Int32} {bk : Nat → Nat → Int32} : KX3_emission l D ca ad [.ref 0, .int 3, .int 2, .int 1] (MW n vs wo un h (up bo 3 5) ta tr ro ot Bm bk) (some (.long (emM (Bm 5 3) 2 1))) (MW n vs wo un h (up bo 3 5) ta tr ro ot Bm bk) := by
  refine PX3_emission (Nat.le_of_ble_eq_true rfl) ?_
  intro G hT hC hR
  refine mB hT 26 rfl ?_
  refine hC _ 0 [_, _] _ _ _ _ _ (m_main_5_3) rfl rfl (Nat.le_of_ble_eq_true rfl) rfl ?_
  refine mB hT 2 rfl ?_
  exact hR _ (by decide) _ _ _ rfl rfl
set_option maxRecDepth 20000 in
theorem m_em_5_3_2_2 {n vs : Int32} {wo un h : Int64} {bo : Nat → Int32} {ta tr ro ot : Nat → Int64} {Bm : Nat → Nat → Nat → Int32} {bk : Nat → Nat → Int32} : KX3_emission l D ca ad [.ref 0, .int 3, .int 2, .int 2] (MW n vs wo un h (up bo 3 5) ta tr ro ot Bm bk) (some (.long (emM (Bm 5 3) 2 2))) (MW n vs wo un h (up bo 3 5) ta tr ro ot Bm bk) := by
  refine PX3_emission (Nat.le_of_ble_eq_true rfl) ?_
  intro G hT hC hR
  refine mB hT 26 rfl ?_
  refine hC _ 0 [_, _] _ _ _ _ _ (m_main_5_3) rfl rfl (Nat.le_of_ble_eq_true rfl) rfl ?_
  refine mB hT 2 rfl ?_
  exact hR _ (by decide) _ _ _ rfl rfl
theorem m_em_5_3 {n vs : Int32} {wo un h : Int64} {bo : Nat → Int32} {ta tr ro ot : Nat → Int64} {Bm : Nat → Nat → Nat → Int32} {bk : Nat → Nat → Int32} (k s : Nat) (hk : k < 3) (hs : s < 3) : KX3_emission l D ca ad [.ref 0, .int 3, .int (Int32.ofNat k), .int (Int32.ofNat s)] (MW n vs wo un h (up bo 3 5) ta tr ro ot Bm bk) (some (.long (emM (Bm 5 3) k s))) (MW n vs wo un h (up bo 3 5) ta tr ro ot Bm bk) := by
  match k, hk, s, hs with
  | 0, _, 0, _ => exact m_em_5_3_0_0
  | 0, _, 1, _ => exact m_em_5_3_0_1
  | 0, _, 2, _ => exact m_em_5_3_0_2
  | 1, _, 0, _ => exact m_em_5_3_1_0
  | 1, _, 1, _ => exact m_em_5_3_1_1
  | 1, _, 2, _ => exact m_em_5_3_1_2
  | 2, _, 0, _ => exact m_em_5_3_2_0
  | 2, _, 1, _ => exact m_em_5_3_2_1
  | 2, _, 2, _ => exact m_em_5_3_2_2
set_option maxRecDepth 20000 in
theorem m_em_6_0_0_0 {n vs : Int32} {wo un h : Int64} {bo : Nat → Int32} {ta tr ro ot : Nat → Int64} {Bm : Nat → Nat → Nat → Int32} {bk : Nat → Nat → Int32} : KX3_emission l D ca ad [.ref 0, .int 0, .int 0, .int 0] (MW n vs wo un h (up bo 0 6) ta tr ro ot Bm bk) (some (.long (emM (Bm 6 0) 0 0))) (MW n vs wo un h (up bo 0 6) ta tr ro ot Bm bk) := by
  refine PX3_emission (Nat.le_of_ble_eq_true rfl) ?_
  intro G hT hC hR
  refine mB hT 26 rfl ?_
  refine hC _ 0 [_, _] _ _ _ _ _ (m_main_6_0) rfl rfl (Nat.le_of_ble_eq_true rfl) rfl ?_
  refine mB hT 2 rfl ?_
  exact hR _ (by decide) _ _ _ rfl rfl
set_option maxRecDepth 20000 in
theorem m_em_6_0_0_1 {n vs : Int32} {wo un h : Int64} {bo : Nat → Int32} {ta tr ro ot : Nat → Int64} {Bm : Nat → Nat → Nat → Int32} {bk : Nat → Nat → Int32} : KX3_emission l D ca ad [.ref 0, .int 0, .int 0, .int 1] (MW n vs wo un h (up bo 0 6) ta tr ro ot Bm bk) (some (.long (emM (Bm 6 0) 0 1))) (MW n vs wo un h (up bo 0 6) ta tr ro ot Bm bk) := by
  refine PX3_emission (Nat.le_of_ble_eq_true rfl) ?_
  intro G hT hC hR
  refine mB hT 26 rfl ?_
  refine hC _ 0 [_, _] _ _ _ _ _ (m_main_6_0) rfl rfl (Nat.le_of_ble_eq_true rfl) rfl ?_
  refine mB hT 2 rfl ?_
  exact hR _ (by decide) _ _ _ rfl rfl
set_option maxRecDepth 20000 in
theorem m_em_6_0_0_2 {n vs : Int32} {wo un h : Int64} {bo : Nat → Int32} {ta tr ro ot : Nat → Int64} {Bm : Nat → Nat → Nat → Int32} {bk : Nat → Nat → Int32} : KX3_emission l D ca ad [.ref 0, .int 0, .int 0, .int 2] (MW n vs wo un h (up bo 0 6) ta tr ro ot Bm bk) (some (.long (emM (Bm 6 0) 0 2))) (MW n vs wo un h (up bo 0 6) ta tr ro ot Bm bk) := by
  refine PX3_emission (Nat.le_of_ble_eq_true rfl) ?_
  intro G hT hC hR
  refine mB hT 26 rfl ?_
  refine hC _ 0 [_, _] _ _ _ _ _ (m_main_6_0) rfl rfl (Nat.le_of_ble_eq_true rfl) rfl ?_
  refine mB hT 2 rfl ?_
  exact hR _ (by decide) _ _ _ rfl rfl
set_option maxRecDepth 20000 in
theorem m_em_6_0_1_0 {n vs : Int32} {wo un h : Int64} {bo : Nat → Int32} {ta tr ro ot : Nat → Int64} {Bm : Nat → Nat → Nat → Int32} {bk : Nat → Nat → Int32} : KX3_emission l D ca ad [.ref 0, .int 0, .int 1, .int 0] (MW n vs wo un h (up bo 0 6) ta tr ro ot Bm bk) (some (.long (emM (Bm 6 0) 1 0))) (MW n vs wo un h (up bo 0 6) ta tr ro ot Bm bk) := by
  refine PX3_emission (Nat.le_of_ble_eq_true rfl) ?_
  intro G hT hC hR
  refine mB hT 26 rfl ?_
  refine hC _ 0 [_, _] _ _ _ _ _ (m_main_6_0) rfl rfl (Nat.le_of_ble_eq_true rfl) rfl ?_
  refine mB hT 2 rfl ?_
  exact hR _ (by decide) _ _ _ rfl rfl
set_option maxRecDepth 20000 in
theorem m_em_6_0_1_1 {n vs : Int32} {wo un h : Int64} {bo : Nat → Int32} {ta tr ro ot : Nat → Int64} {Bm : Nat → Nat → Nat → Int32} {bk : Nat → Nat → Int32} : KX3_emission l D ca ad [.ref 0, .int 0, .int 1, .int 1] (MW n vs wo un h (up bo 0 6) ta tr ro ot Bm bk) (some (.long (emM (Bm 6 0) 1 1))) (MW n vs wo un h (up bo 0 6) ta tr ro ot Bm bk) := by
  refine PX3_emission (Nat.le_of_ble_eq_true rfl) ?_
  intro G hT hC hR
  refine mB hT 26 rfl ?_
  refine hC _ 0 [_, _] _ _ _ _ _ (m_main_6_0) rfl rfl (Nat.le_of_ble_eq_true rfl) rfl ?_
  refine mB hT 2 rfl ?_
  exact hR _ (by decide) _ _ _ rfl rfl
set_option maxRecDepth 20000 in
theorem m_em_6_0_1_2 {n vs : Int32} {wo un h : Int64} {bo : Nat → Int32} {ta tr ro ot : Nat → Int64} {Bm : Nat → Nat → Nat → Int32} {bk : Nat → Nat → Int32} : KX3_emission l D ca ad [.ref 0, .int 0, .int 1, .int 2] (MW n vs wo un h (up bo 0 6) ta tr ro ot Bm bk) (some (.long (emM (Bm 6 0) 1 2))) (MW n vs wo un h (up bo 0 6) ta tr ro ot Bm bk) := by
  refine PX3_emission (Nat.le_of_ble_eq_true rfl) ?_
  intro G hT hC hR
  refine mB hT 26 rfl ?_
  refine hC _ 0 [_, _] _ _ _ _ _ (m_main_6_0) rfl rfl (Nat.le_of_ble_eq_true rfl) rfl ?_
  refine mB hT 2 rfl ?_
  exact hR _ (by decide) _ _ _ rfl rfl
set_option maxRecDepth 20000 in
theorem m_em_6_0_2_0 {n vs : Int32} {wo un h : Int64} {bo : Nat → Int32} {ta tr ro ot : Nat → Int64} {Bm : Nat → Nat → Nat → Int32} {bk : Nat → Nat → Int32} : KX3_emission l D ca ad [.ref 0, .int 0, .int 2, .int 0] (MW n vs wo un h (up bo 0 6) ta tr ro ot Bm bk) (some (.long (emM (Bm 6 0) 2 0))) (MW n vs wo un h (up bo 0 6) ta tr ro ot Bm bk) := by
  refine PX3_emission (Nat.le_of_ble_eq_true rfl) ?_
  intro G hT hC hR
  refine mB hT 26 rfl ?_
  refine hC _ 0 [_, _] _ _ _ _ _ (m_main_6_0) rfl rfl (Nat.le_of_ble_eq_true rfl) rfl ?_
  refine mB hT 2 rfl ?_
  exact hR _ (by decide) _ _ _ rfl rfl
set_option maxRecDepth 20000 in
theorem m_em_6_0_2_1 {n vs : Int32} {wo un h : Int64} {bo : Nat → Int32} {ta tr ro ot : Nat → Int64} {Bm : Nat → Nat → Nat → Int32} {bk : Nat → Nat → Int32} : KX3_emission l D ca ad [.ref 0, .int 0, .int 2, .int 1] (MW n vs wo un h (up bo 0 6) ta tr ro ot Bm bk) (some (.long (emM (Bm 6 0) 2 1))) (MW n vs wo un h (up bo 0 6) ta tr ro ot Bm bk) := by
  refine PX3_emission (Nat.le_of_ble_eq_true rfl) ?_
  intro G hT hC hR
  refine mB hT 26 rfl ?_
  refine hC _ 0 [_, _] _ _ _ _ _ (m_main_6_0) rfl rfl (Nat.le_of_ble_eq_true rfl) rfl ?_
  refine mB hT 2 rfl ?_
  exact hR _ (by decide) _ _ _ rfl rfl
set_option maxRecDepth 20000 in
theorem m_em_6_0_2_2 {n vs : Int32} {wo un h : Int64} {bo : Nat → Int32} {ta tr ro ot : Nat → Int64} {Bm : Nat → Nat → Nat → Int32} {bk : Nat → Nat → Int32} : KX3_emission l D ca ad [.ref 0, .int 0, .int 2, .int 2] (MW n vs wo un h (up bo 0 6) ta tr ro ot Bm bk) (some (.long (emM (Bm 6 0) 2 2))) (MW n vs wo un h (up bo 0 6) ta tr ro ot Bm bk) := by
  refine PX3_emission (Nat.le_of_ble_eq_true rfl) ?_
  intro G hT hC hR
  refine mB hT 26 rfl ?_
  refine hC _ 0 [_, _] _ _ _ _ _ (m_main_6_0) rfl rfl (Nat.le_of_ble_eq_true rfl) rfl ?_
  refine mB hT 2 rfl ?_
  exact hR _ (by decide) _ _ _ rfl rfl
theorem m_em_6_0 {n vs : Int32} {wo un h : Int64} {bo : Nat → Int32} {ta tr ro ot : Nat → Int64} {Bm : Nat → Nat → Nat → Int32} {bk : Nat → Nat → Int32} (k s : Nat) (hk : k < 3) (hs : s < 3) : KX3_emission l D ca ad [.ref 0, .int 0, .int (Int32.ofNat k), .int (Int32.ofNat s)] (MW n vs wo un h (up bo 0 6) ta tr ro ot Bm bk) (some (.long (emM (Bm 6 0) k s))) (MW n vs wo un h (up bo 0 6) ta tr ro ot Bm bk) := by
  match k, hk, s, hs with
  | 0, _, 0, _ => exact m_em_6_0_0_0
  | 0, _, 1, _ => exact m_em_6_0_0_1
  | 0, _, 2, _ => exact m_em_6_0_0_2
  | 1, _, 0, _ => exact m_em_6_0_1_0
  | 1, _, 1, _ => exact m_em_6_0_1_1
  | 1, _, 2, _ => exact m_em_6_0_1_2
  | 2, _, 0, _ => exact m_em_6_0_2_0
  | 2, _, 1, _ => exact m_em_6_0_2_1
  | 2, _, 2, _ => exact m_em_6_0_2_2
set_option maxRecDepth 20000 in
theorem m_em_6_1_0_0 {n vs : Int32} {wo un h : Int64} {bo : Nat → Int32} {ta tr ro ot : Nat → Int64} {Bm : Nat → Nat → Nat → Int32} {bk : Nat → Nat → Int32} : KX3_emission l D ca ad [.ref 0, .int 1, .int 0, .int 0] (MW n vs wo un h (up bo 1 6) ta tr ro ot Bm bk) (some (.long (emM (Bm 6 1) 0 0))) (MW n vs wo un h (up bo 1 6) ta tr ro ot Bm bk) := by
  refine PX3_emission (Nat.le_of_ble_eq_true rfl) ?_
  intro G hT hC hR
  refine mB hT 26 rfl ?_
  refine hC _ 0 [_, _] _ _ _ _ _ (m_main_6_1) rfl rfl (Nat.le_of_ble_eq_true rfl) rfl ?_
  refine mB hT 2 rfl ?_
  exact hR _ (by decide) _ _ _ rfl rfl
set_option maxRecDepth 20000 in
theorem m_em_6_1_0_1 {n vs : Int32} {wo un h : Int64} {bo : Nat → Int32} {ta tr ro ot : Nat → Int64} {Bm : Nat → Nat → Nat → Int32} {bk : Nat → Nat → Int32} : KX3_emission l D ca ad [.ref 0, .int 1, .int 0, .int 1] (MW n vs wo un h (up bo 1 6) ta tr ro ot Bm bk) (some (.long (emM (Bm 6 1) 0 1))) (MW n vs wo un h (up bo 1 6) ta tr ro ot Bm bk) := by
  refine PX3_emission (Nat.le_of_ble_eq_true rfl) ?_
  intro G hT hC hR
  refine mB hT 26 rfl ?_
  refine hC _ 0 [_, _] _ _ _ _ _ (m_main_6_1) rfl rfl (Nat.le_of_ble_eq_true rfl) rfl ?_
  refine mB hT 2 rfl ?_
  exact hR _ (by decide) _ _ _ rfl rfl
set_option maxRecDepth 20000 in
theorem m_em_6_1_0_2 {n vs : Int32} {wo un h : Int64} {bo : Nat → Int32} {ta tr ro ot : Nat → Int64} {Bm : Nat → Nat → Nat → Int32} {bk : Nat → Nat → Int32} : KX3_emission l D ca ad [.ref 0, .int 1, .int 0, .int 2] (MW n vs wo un h (up bo 1 6) ta tr ro ot Bm bk) (some (.long (emM (Bm 6 1) 0 2))) (MW n vs wo un h (up bo 1 6) ta tr ro ot Bm bk) := by
  refine PX3_emission (Nat.le_of_ble_eq_true rfl) ?_
  intro G hT hC hR
  refine mB hT 26 rfl ?_
  refine hC _ 0 [_, _] _ _ _ _ _ (m_main_6_1) rfl rfl (Nat.le_of_ble_eq_true rfl) rfl ?_
  refine mB hT 2 rfl ?_
  exact hR _ (by decide) _ _ _ rfl rfl
set_option maxRecDepth 20000 in
theorem m_em_6_1_1_0 {n vs : Int32} {wo un h : Int64} {bo : Nat → Int32} {ta tr ro ot : Nat → Int64} {Bm : Nat → Nat → Nat → Int32} {bk : Nat → Nat → Int32} : KX3_emission l D ca ad [.ref 0, .int 1, .int 1, .int 0] (MW n vs wo un h (up bo 1 6) ta tr ro ot Bm bk) (some (.long (emM (Bm 6 1) 1 0))) (MW n vs wo un h (up bo 1 6) ta tr ro ot Bm bk) := by
  refine PX3_emission (Nat.le_of_ble_eq_true rfl) ?_
  intro G hT hC hR
  refine mB hT 26 rfl ?_
  refine hC _ 0 [_, _] _ _ _ _ _ (m_main_6_1) rfl rfl (Nat.le_of_ble_eq_true rfl) rfl ?_
  refine mB hT 2 rfl ?_
  exact hR _ (by decide) _ _ _ rfl rfl
set_option maxRecDepth 20000 in
theorem m_em_6_1_1_1 {n vs : Int32} {wo un h : Int64} {bo : Nat → Int32} {ta tr ro ot : Nat → Int64} {Bm : Nat → Nat → Nat → Int32} {bk : Nat → Nat → Int32} : KX3_emission l D ca ad [.ref 0, .int 1, .int 1, .int 1] (MW n vs wo un h (up bo 1 6) ta tr ro ot Bm bk) (some (.long (emM (Bm 6 1) 1 1))) (MW n vs wo un h (up bo 1 6) ta tr ro ot Bm bk) := by
  refine PX3_emission (Nat.le_of_ble_eq_true rfl) ?_
  intro G hT hC hR
  refine mB hT 26 rfl ?_
  refine hC _ 0 [_, _] _ _ _ _ _ (m_main_6_1) rfl rfl (Nat.le_of_ble_eq_true rfl) rfl ?_
  refine mB hT 2 rfl ?_
  exact hR _ (by decide) _ _ _ rfl rfl
set_option maxRecDepth 20000 in
theorem m_em_6_1_1_2 {n vs : Int32} {wo un h : Int64} {bo : Nat → Int32} {ta tr ro ot : Nat → Int64} {Bm : Nat → Nat → Nat → Int32} {bk : Nat → Nat → Int32} : KX3_emission l D ca ad [.ref 0, .int 1, .int 1, .int 2] (MW n vs wo un h (up bo 1 6) ta tr ro ot Bm bk) (some (.long (emM (Bm 6 1) 1 2))) (MW n vs wo un h (up bo 1 6) ta tr ro ot Bm bk) := by
  refine PX3_emission (Nat.le_of_ble_eq_true rfl) ?_
  intro G hT hC hR
  refine mB hT 26 rfl ?_
  refine hC _ 0 [_, _] _ _ _ _ _ (m_main_6_1) rfl rfl (Nat.le_of_ble_eq_true rfl) rfl ?_
  refine mB hT 2 rfl ?_
  exact hR _ (by decide) _ _ _ rfl rfl
set_option maxRecDepth 20000 in
theorem m_em_6_1_2_0 {n vs : Int32} {wo un h : Int64} {bo : Nat → Int32} {ta tr ro ot : Nat → Int64} {Bm : Nat → Nat → Nat → Int32} {bk : Nat → Nat → Int32} : KX3_emission l D ca ad [.ref 0, .int 1, .int 2, .int 0] (MW n vs wo un h (up bo 1 6) ta tr ro ot Bm bk) (some (.long (emM (Bm 6 1) 2 0))) (MW n vs wo un h (up bo 1 6) ta tr ro ot Bm bk) := by
  refine PX3_emission (Nat.le_of_ble_eq_true rfl) ?_
  intro G hT hC hR
  refine mB hT 26 rfl ?_
  refine hC _ 0 [_, _] _ _ _ _ _ (m_main_6_1) rfl rfl (Nat.le_of_ble_eq_true rfl) rfl ?_
  refine mB hT 2 rfl ?_
  exact hR _ (by decide) _ _ _ rfl rfl
set_option maxRecDepth 20000 in
theorem m_em_6_1_2_1 {n vs : Int32} {wo un h : Int64} {bo : Nat → Int32} {ta tr ro ot : Nat → Int64} {Bm : Nat → Nat → Nat → Int32} {bk : Nat → Nat → Int32} : KX3_emission l D ca ad [.ref 0, .int 1, .int 2, .int 1] (MW n vs wo un h (up bo 1 6) ta tr ro ot Bm bk) (some (.long (emM (Bm 6 1) 2 1))) (MW n vs wo un h (up bo 1 6) ta tr ro ot Bm bk) := by
  refine PX3_emission (Nat.le_of_ble_eq_true rfl) ?_
  intro G hT hC hR
  refine mB hT 26 rfl ?_
  refine hC _ 0 [_, _] _ _ _ _ _ (m_main_6_1) rfl rfl (Nat.le_of_ble_eq_true rfl) rfl ?_
  refine mB hT 2 rfl ?_
  exact hR _ (by decide) _ _ _ rfl rfl
set_option maxRecDepth 20000 in
theorem m_em_6_1_2_2 {n vs : Int32} {wo un h : Int64} {bo : Nat → Int32} {ta tr ro ot : Nat → Int64} {Bm : Nat → Nat → Nat → Int32} {bk : Nat → Nat → Int32} : KX3_emission l D ca ad [.ref 0, .int 1, .int 2, .int 2] (MW n vs wo un h (up bo 1 6) ta tr ro ot Bm bk) (some (.long (emM (Bm 6 1) 2 2))) (MW n vs wo un h (up bo 1 6) ta tr ro ot Bm bk) := by
  refine PX3_emission (Nat.le_of_ble_eq_true rfl) ?_
  intro G hT hC hR
  refine mB hT 26 rfl ?_
  refine hC _ 0 [_, _] _ _ _ _ _ (m_main_6_1) rfl rfl (Nat.le_of_ble_eq_true rfl) rfl ?_
  refine mB hT 2 rfl ?_
  exact hR _ (by decide) _ _ _ rfl rfl
theorem m_em_6_1 {n vs : Int32} {wo un h : Int64} {bo : Nat → Int32} {ta tr ro ot : Nat → Int64} {Bm : Nat → Nat → Nat → Int32} {bk : Nat → Nat → Int32} (k s : Nat) (hk : k < 3) (hs : s < 3) : KX3_emission l D ca ad [.ref 0, .int 1, .int (Int32.ofNat k), .int (Int32.ofNat s)] (MW n vs wo un h (up bo 1 6) ta tr ro ot Bm bk) (some (.long (emM (Bm 6 1) k s))) (MW n vs wo un h (up bo 1 6) ta tr ro ot Bm bk) := by
  match k, hk, s, hs with
  | 0, _, 0, _ => exact m_em_6_1_0_0
  | 0, _, 1, _ => exact m_em_6_1_0_1
  | 0, _, 2, _ => exact m_em_6_1_0_2
  | 1, _, 0, _ => exact m_em_6_1_1_0
  | 1, _, 1, _ => exact m_em_6_1_1_1
  | 1, _, 2, _ => exact m_em_6_1_1_2
  | 2, _, 0, _ => exact m_em_6_1_2_0
  | 2, _, 1, _ => exact m_em_6_1_2_1
  | 2, _, 2, _ => exact m_em_6_1_2_2
set_option maxRecDepth 20000 in
theorem m_em_6_2_0_0 {n vs : Int32} {wo un h : Int64} {bo : Nat → Int32} {ta tr ro ot : Nat → Int64} {Bm : Nat → Nat → Nat → Int32} {bk : Nat → Nat → Int32} : KX3_emission l D ca ad [.ref 0, .int 2, .int 0, .int 0] (MW n vs wo un h (up bo 2 6) ta tr ro ot Bm bk) (some (.long (emM (Bm 6 2) 0 0))) (MW n vs wo un h (up bo 2 6) ta tr ro ot Bm bk) := by
  refine PX3_emission (Nat.le_of_ble_eq_true rfl) ?_
  intro G hT hC hR
  refine mB hT 26 rfl ?_
  refine hC _ 0 [_, _] _ _ _ _ _ (m_main_6_2) rfl rfl (Nat.le_of_ble_eq_true rfl) rfl ?_
  refine mB hT 2 rfl ?_
  exact hR _ (by decide) _ _ _ rfl rfl
set_option maxRecDepth 20000 in
theorem m_em_6_2_0_1 {n vs : Int32} {wo un h : Int64} {bo : Nat → Int32} {ta tr ro ot : Nat → Int64} {Bm : Nat → Nat → Nat → Int32} {bk : Nat → Nat → Int32} : KX3_emission l D ca ad [.ref 0, .int 2, .int 0, .int 1] (MW n vs wo un h (up bo 2 6) ta tr ro ot Bm bk) (some (.long (emM (Bm 6 2) 0 1))) (MW n vs wo un h (up bo 2 6) ta tr ro ot Bm bk) := by
  refine PX3_emission (Nat.le_of_ble_eq_true rfl) ?_
  intro G hT hC hR
  refine mB hT 26 rfl ?_
  refine hC _ 0 [_, _] _ _ _ _ _ (m_main_6_2) rfl rfl (Nat.le_of_ble_eq_true rfl) rfl ?_
  refine mB hT 2 rfl ?_
  exact hR _ (by decide) _ _ _ rfl rfl
set_option maxRecDepth 20000 in
theorem m_em_6_2_0_2 {n vs : Int32} {wo un h : Int64} {bo : Nat → Int32} {ta tr ro ot : Nat → Int64} {Bm : Nat → Nat → Nat → Int32} {bk : Nat → Nat → Int32} : KX3_emission l D ca ad [.ref 0, .int 2, .int 0, .int 2] (MW n vs wo un h (up bo 2 6) ta tr ro ot Bm bk) (some (.long (emM (Bm 6 2) 0 2))) (MW n vs wo un h (up bo 2 6) ta tr ro ot Bm bk) := by
  refine PX3_emission (Nat.le_of_ble_eq_true rfl) ?_
  intro G hT hC hR
  refine mB hT 26 rfl ?_
  refine hC _ 0 [_, _] _ _ _ _ _ (m_main_6_2) rfl rfl (Nat.le_of_ble_eq_true rfl) rfl ?_
  refine mB hT 2 rfl ?_
  exact hR _ (by decide) _ _ _ rfl rfl
set_option maxRecDepth 20000 in
theorem m_em_6_2_1_0 {n vs : Int32} {wo un h : Int64} {bo : Nat → Int32} {ta tr ro ot : Nat → Int64} {Bm : Nat → Nat → Nat → Int32} {bk : Nat → Nat → Int32} : KX3_emission l D ca ad [.ref 0, .int 2, .int 1, .int 0] (MW n vs wo un h (up bo 2 6) ta tr ro ot Bm bk) (some (.long (emM (Bm 6 2) 1 0))) (MW n vs wo un h (up bo 2 6) ta tr ro ot Bm bk) := by
  refine PX3_emission (Nat.le_of_ble_eq_true rfl) ?_
  intro G hT hC hR
  refine mB hT 26 rfl ?_
  refine hC _ 0 [_, _] _ _ _ _ _ (m_main_6_2) rfl rfl (Nat.le_of_ble_eq_true rfl) rfl ?_
  refine mB hT 2 rfl ?_
  exact hR _ (by decide) _ _ _ rfl rfl
set_option maxRecDepth 20000 in
theorem m_em_6_2_1_1 {n vs : Int32} {wo un h : Int64} {bo : Nat → Int32} {ta tr ro ot : Nat → Int64} {Bm : Nat → Nat → Nat → Int32} {bk : Nat → Nat → Int32} : KX3_emission l D ca ad [.ref 0, .int 2, .int 1, .int 1] (MW n vs wo un h (up bo 2 6) ta tr ro ot Bm bk) (some (.long (emM (Bm 6 2) 1 1))) (MW n vs wo un h (up bo 2 6) ta tr ro ot Bm bk) := by
  refine PX3_emission (Nat.le_of_ble_eq_true rfl) ?_
  intro G hT hC hR
  refine mB hT 26 rfl ?_
  refine hC _ 0 [_, _] _ _ _ _ _ (m_main_6_2) rfl rfl (Nat.le_of_ble_eq_true rfl) rfl ?_
  refine mB hT 2 rfl ?_
  exact hR _ (by decide) _ _ _ rfl rfl
set_option maxRecDepth 20000 in
theorem m_em_6_2_1_2 {n vs : Int32} {wo un h : Int64} {bo : Nat → Int32} {ta tr ro ot : Nat → Int64} {Bm : Nat → Nat → Nat → Int32} {bk : Nat → Nat → Int32} : KX3_emission l D ca ad [.ref 0, .int 2, .int 1, .int 2] (MW n vs wo un h (up bo 2 6) ta tr ro ot Bm bk) (some (.long (emM (Bm 6 2) 1 2))) (MW n vs wo un h (up bo 2 6) ta tr ro ot Bm bk) := by
  refine PX3_emission (Nat.le_of_ble_eq_true rfl) ?_
  intro G hT hC hR
  refine mB hT 26 rfl ?_
  refine hC _ 0 [_, _] _ _ _ _ _ (m_main_6_2) rfl rfl (Nat.le_of_ble_eq_true rfl) rfl ?_
  refine mB hT 2 rfl ?_
  exact hR _ (by decide) _ _ _ rfl rfl
set_option maxRecDepth 20000 in
theorem m_em_6_2_2_0 {n vs : Int32} {wo un h : Int64} {bo : Nat → Int32} {ta tr ro ot : Nat → Int64} {Bm : Nat → Nat → Nat → Int32} {bk : Nat → Nat → Int32} : KX3_emission l D ca ad [.ref 0, .int 2, .int 2, .int 0] (MW n vs wo un h (up bo 2 6) ta tr ro ot Bm bk) (some (.long (emM (Bm 6 2) 2 0))) (MW n vs wo un h (up bo 2 6) ta tr ro ot Bm bk) := by
  refine PX3_emission (Nat.le_of_ble_eq_true rfl) ?_
  intro G hT hC hR
  refine mB hT 26 rfl ?_
  refine hC _ 0 [_, _] _ _ _ _ _ (m_main_6_2) rfl rfl (Nat.le_of_ble_eq_true rfl) rfl ?_
  refine mB hT 2 rfl ?_
  exact hR _ (by decide) _ _ _ rfl rfl
set_option maxRecDepth 20000 in
theorem m_em_6_2_2_1 {n vs : Int32} {wo un h : Int64} {bo : Nat → Int32} {ta tr ro ot : Nat → Int64} {Bm : Nat → Nat → Nat → Int32} {bk : Nat → Nat → Int32} : KX3_emission l D ca ad [.ref 0, .int 2, .int 2, .int 1] (MW n vs wo un h (up bo 2 6) ta tr ro ot Bm bk) (some (.long (emM (Bm 6 2) 2 1))) (MW n vs wo un h (up bo 2 6) ta tr ro ot Bm bk) := by
  refine PX3_emission (Nat.le_of_ble_eq_true rfl) ?_
  intro G hT hC hR
  refine mB hT 26 rfl ?_
  refine hC _ 0 [_, _] _ _ _ _ _ (m_main_6_2) rfl rfl (Nat.le_of_ble_eq_true rfl) rfl ?_
  refine mB hT 2 rfl ?_
  exact hR _ (by decide) _ _ _ rfl rfl
set_option maxRecDepth 20000 in
theorem m_em_6_2_2_2 {n vs : Int32} {wo un h : Int64} {bo : Nat → Int32} {ta tr ro ot : Nat → Int64} {Bm : Nat → Nat → Nat → Int32} {bk : Nat → Nat → Int32} : KX3_emission l D ca ad [.ref 0, .int 2, .int 2, .int 2] (MW n vs wo un h (up bo 2 6) ta tr ro ot Bm bk) (some (.long (emM (Bm 6 2) 2 2))) (MW n vs wo un h (up bo 2 6) ta tr ro ot Bm bk) := by
  refine PX3_emission (Nat.le_of_ble_eq_true rfl) ?_
  intro G hT hC hR
  refine mB hT 26 rfl ?_
  refine hC _ 0 [_, _] _ _ _ _ _ (m_main_6_2) rfl rfl (Nat.le_of_ble_eq_true rfl) rfl ?_
  refine mB hT 2 rfl ?_
  exact hR _ (by decide) _ _ _ rfl rfl
theorem m_em_6_2 {n vs : Int32} {wo un h : Int64} {bo : Nat → Int32} {ta tr ro ot : Nat → Int64} {Bm : Nat → Nat → Nat → Int32} {bk : Nat → Nat → Int32} (k s : Nat) (hk : k < 3) (hs : s < 3) : KX3_emission l D ca ad [.ref 0, .int 2, .int (Int32.ofNat k), .int (Int32.ofNat s)] (MW n vs wo un h (up bo 2 6) ta tr ro ot Bm bk) (some (.long (emM (Bm 6 2) k s))) (MW n vs wo un h (up bo 2 6) ta tr ro ot Bm bk) := by
  match k, hk, s, hs with
  | 0, _, 0, _ => exact m_em_6_2_0_0
  | 0, _, 1, _ => exact m_em_6_2_0_1
  | 0, _, 2, _ => exact m_em_6_2_0_2
  | 1, _, 0, _ => exact m_em_6_2_1_0
  | 1, _, 1, _ => exact m_em_6_2_1_1
  | 1, _, 2, _ => exact m_em_6_2_1_2
  | 2, _, 0, _ => exact m_em_6_2_2_0
  | 2, _, 1, _ => exact m_em_6_2_2_1
  | 2, _, 2, _ => exact m_em_6_2_2_2
set_option maxRecDepth 20000 in
theorem m_em_6_3_0_0 {n vs : Int32} {wo un h : Int64} {bo : Nat → Int32} {ta tr ro ot : Nat → Int64} {Bm : Nat → Nat → Nat → Int32} {bk : Nat → Nat → Int32} : KX3_emission l D ca ad [.ref 0, .int 3, .int 0, .int 0] (MW n vs wo un h (up bo 3 6) ta tr ro ot Bm bk) (some (.long (emM (Bm 6 3) 0 0))) (MW n vs wo un h (up bo 3 6) ta tr ro ot Bm bk) := by
  refine PX3_emission (Nat.le_of_ble_eq_true rfl) ?_
  intro G hT hC hR
  refine mB hT 26 rfl ?_
  refine hC _ 0 [_, _] _ _ _ _ _ (m_main_6_3) rfl rfl (Nat.le_of_ble_eq_true rfl) rfl ?_
  refine mB hT 2 rfl ?_
  exact hR _ (by decide) _ _ _ rfl rfl
set_option maxRecDepth 20000 in
theorem m_em_6_3_0_1 {n vs : Int32} {wo un h : Int64} {bo : Nat → Int32} {ta tr ro ot : Nat → Int64} {Bm : Nat → Nat → Nat → Int32} {bk : Nat → Nat → Int32} : KX3_emission l D ca ad [.ref 0, .int 3, .int 0, .int 1] (MW n vs wo un h (up bo 3 6) ta tr ro ot Bm bk) (some (.long (emM (Bm 6 3) 0 1))) (MW n vs wo un h (up bo 3 6) ta tr ro ot Bm bk) := by
  refine PX3_emission (Nat.le_of_ble_eq_true rfl) ?_
  intro G hT hC hR
  refine mB hT 26 rfl ?_
  refine hC _ 0 [_, _] _ _ _ _ _ (m_main_6_3) rfl rfl (Nat.le_of_ble_eq_true rfl) rfl ?_
  refine mB hT 2 rfl ?_
  exact hR _ (by decide) _ _ _ rfl rfl
set_option maxRecDepth 20000 in
theorem m_em_6_3_0_2 {n vs : Int32} {wo un h : Int64} {bo : Nat → Int32} {ta tr ro ot : Nat → Int64} {Bm : Nat → Nat → Nat → Int32} {bk : Nat → Nat → Int32} : KX3_emission l D ca ad [.ref 0, .int 3, .int 0, .int 2] (MW n vs wo un h (up bo 3 6) ta tr ro ot Bm bk) (some (.long (emM (Bm 6 3) 0 2))) (MW n vs wo un h (up bo 3 6) ta tr ro ot Bm bk) := by
  refine PX3_emission (Nat.le_of_ble_eq_true rfl) ?_
  intro G hT hC hR
  refine mB hT 26 rfl ?_
  refine hC _ 0 [_, _] _ _ _ _ _ (m_main_6_3) rfl rfl (Nat.le_of_ble_eq_true rfl) rfl ?_
  refine mB hT 2 rfl ?_
  exact hR _ (by decide) _ _ _ rfl rfl
set_option maxRecDepth 20000 in
theorem m_em_6_3_1_0 {n vs : Int32} {wo un h : Int64} {bo : Nat → Int32} {ta tr ro ot : Nat → Int64} {Bm : Nat → Nat → Nat → Int32} {bk : Nat → Nat → Int32} : KX3_emission l D ca ad [.ref 0, .int 3, .int 1, .int 0] (MW n vs wo un h (up bo 3 6) ta tr ro ot Bm bk) (some (.long (emM (Bm 6 3) 1 0))) (MW n vs wo un h (up bo 3 6) ta tr ro ot Bm bk) := by
  refine PX3_emission (Nat.le_of_ble_eq_true rfl) ?_
  intro G hT hC hR
  refine mB hT 26 rfl ?_
  refine hC _ 0 [_, _] _ _ _ _ _ (m_main_6_3) rfl rfl (Nat.le_of_ble_eq_true rfl) rfl ?_
  refine mB hT 2 rfl ?_
  exact hR _ (by decide) _ _ _ rfl rfl
set_option maxRecDepth 20000 in
theorem m_em_6_3_1_1 {n vs : Int32} {wo un h : Int64} {bo : Nat → Int32} {ta tr ro ot : Nat → Int64} {Bm : Nat → Nat → Nat → Int32} {bk : Nat → Nat → Int32} : KX3_emission l D ca ad [.ref 0, .int 3, .int 1, .int 1] (MW n vs wo un h (up bo 3 6) ta tr ro ot Bm bk) (some (.long (emM (Bm 6 3) 1 1))) (MW n vs wo un h (up bo 3 6) ta tr ro ot Bm bk) := by
  refine PX3_emission (Nat.le_of_ble_eq_true rfl) ?_
  intro G hT hC hR
  refine mB hT 26 rfl ?_
  refine hC _ 0 [_, _] _ _ _ _ _ (m_main_6_3) rfl rfl (Nat.le_of_ble_eq_true rfl) rfl ?_
  refine mB hT 2 rfl ?_
  exact hR _ (by decide) _ _ _ rfl rfl
set_option maxRecDepth 20000 in
theorem m_em_6_3_1_2 {n vs : Int32} {wo un h : Int64} {bo : Nat → Int32} {ta tr ro ot : Nat → Int64} {Bm : Nat → Nat → Nat → Int32} {bk : Nat → Nat → Int32} : KX3_emission l D ca ad [.ref 0, .int 3, .int 1, .int 2] (MW n vs wo un h (up bo 3 6) ta tr ro ot Bm bk) (some (.long (emM (Bm 6 3) 1 2))) (MW n vs wo un h (up bo 3 6) ta tr ro ot Bm bk) := by
  refine PX3_emission (Nat.le_of_ble_eq_true rfl) ?_
  intro G hT hC hR
  refine mB hT 26 rfl ?_
  refine hC _ 0 [_, _] _ _ _ _ _ (m_main_6_3) rfl rfl (Nat.le_of_ble_eq_true rfl) rfl ?_
  refine mB hT 2 rfl ?_
  exact hR _ (by decide) _ _ _ rfl rfl
set_option maxRecDepth 20000 in
theorem m_em_6_3_2_0 {n vs : Int32} {wo un h : Int64} {bo : Nat → Int32} {ta tr ro ot : Nat → Int64} {Bm : Nat → Nat → Nat → Int32} {bk : Nat → Nat → Int32} : KX3_emission l D ca ad [.ref 0, .int 3, .int 2, .int 0] (MW n vs wo un h (up bo 3 6) ta tr ro ot Bm bk) (some (.long (emM (Bm 6 3) 2 0))) (MW n vs wo un h (up bo 3 6) ta tr ro ot Bm bk) := by
  refine PX3_emission (Nat.le_of_ble_eq_true rfl) ?_
  intro G hT hC hR
  refine mB hT 26 rfl ?_
  refine hC _ 0 [_, _] _ _ _ _ _ (m_main_6_3) rfl rfl (Nat.le_of_ble_eq_true rfl) rfl ?_
  refine mB hT 2 rfl ?_
  exact hR _ (by decide) _ _ _ rfl rfl
set_option maxRecDepth 20000 in
theorem m_em_6_3_2_1 {n vs : Int32} {wo un h : Int64} {bo : Nat → Int32} {ta tr ro ot : Nat → Int64} {Bm : Nat → Nat → Nat → Int32} {bk : Nat → Nat → Int32} : KX3_emission l D ca ad [.ref 0, .int 3, .int 2, .int 1] (MW n vs wo un h (up bo 3 6) ta tr ro ot Bm bk) (some (.long (emM (Bm 6 3) 2 1))) (MW n vs wo un h (up bo 3 6) ta tr ro ot Bm bk) := by
  refine PX3_emission (Nat.le_of_ble_eq_true rfl) ?_
  intro G hT hC hR
  refine mB hT 26 rfl ?_
  refine hC _ 0 [_, _] _ _ _ _ _ (m_main_6_3) rfl rfl (Nat.le_of_ble_eq_true rfl) rfl ?_
  refine mB hT 2 rfl ?_
  exact hR _ (by decide) _ _ _ rfl rfl
set_option maxRecDepth 20000 in
theorem m_em_6_3_2_2 {n vs : Int32} {wo un h : Int64} {bo : Nat → Int32} {ta tr ro ot : Nat → Int64} {Bm : Nat → Nat → Nat → Int32} {bk : Nat → Nat → Int32} : KX3_emission l D ca ad [.ref 0, .int 3, .int 2, .int 2] (MW n vs wo un h (up bo 3 6) ta tr ro ot Bm bk) (some (.long (emM (Bm 6 3) 2 2))) (MW n vs wo un h (up bo 3 6) ta tr ro ot Bm bk) := by
  refine PX3_emission (Nat.le_of_ble_eq_true rfl) ?_
  intro G hT hC hR
  refine mB hT 26 rfl ?_
  refine hC _ 0 [_, _] _ _ _ _ _ (m_main_6_3) rfl rfl (Nat.le_of_ble_eq_true rfl) rfl ?_
  refine mB hT 2 rfl ?_
  exact hR _ (by decide) _ _ _ rfl rfl
theorem m_em_6_3 {n vs : Int32} {wo un h : Int64} {bo : Nat → Int32} {ta tr ro ot : Nat → Int64} {Bm : Nat → Nat → Nat → Int32} {bk : Nat → Nat → Int32} (k s : Nat) (hk : k < 3) (hs : s < 3) : KX3_emission l D ca ad [.ref 0, .int 3, .int (Int32.ofNat k), .int (Int32.ofNat s)] (MW n vs wo un h (up bo 3 6) ta tr ro ot Bm bk) (some (.long (emM (Bm 6 3) k s))) (MW n vs wo un h (up bo 3 6) ta tr ro ot Bm bk) := by
  match k, hk, s, hs with
  | 0, _, 0, _ => exact m_em_6_3_0_0
  | 0, _, 1, _ => exact m_em_6_3_0_1
  | 0, _, 2, _ => exact m_em_6_3_0_2
  | 1, _, 0, _ => exact m_em_6_3_1_0
  | 1, _, 1, _ => exact m_em_6_3_1_1
  | 1, _, 2, _ => exact m_em_6_3_1_2
  | 2, _, 0, _ => exact m_em_6_3_2_0
  | 2, _, 1, _ => exact m_em_6_3_2_1
  | 2, _, 2, _ => exact m_em_6_3_2_2
end
