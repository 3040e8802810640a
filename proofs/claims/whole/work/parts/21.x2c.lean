section
variable {l : Launch} {D : va_G} {ca : Nat → ClassId} {ad : Nat → Nat}

set_option maxRecDepth 20000 in
theorem c_changeR_0_12 {n vs : Int32} {be de : Int64} {sz : Int32} {ro co mi : Nat → Int64} {T : Nat → Nat → Int64} {B : Nat → Nat → Nat → Int32} {hd : Nat → Nat → Int32} {df : Nat → Int32} {rows : Nat → Nat → Int32} (v : Int32) : KX0_change l D ca ad [.ref 10, .int 0, .int 12, .int v] (XW n vs be de sz ro co mi T (up B 6 rows) hd df) (some (.int (rows 0 12))) (XW n vs be de sz ro co mi T (up B 6 (chX rows 0 12 v)) hd df) := by
  refine PX0_change (Nat.le_of_ble_eq_true rfl) ?_
  intro G hT hC hR
  refine mB hT 14 rfl ?_
  refine mWd (w2 := (XW n vs be de sz ro co mi T (up B 6 (up rows 0 (up (rows 0) 12 v))) hd df)) rfl ?_
  exact c_change_on (i := 0) (what := 12) (v := v) hT hC hR
set_option maxRecDepth 20000 in
theorem c_changeR_0_13 {n vs : Int32} {be de : Int64} {sz : Int32} {ro co mi : Nat → Int64} {T : Nat → Nat → Int64} {B : Nat → Nat → Nat → Int32} {hd : Nat → Nat → Int32} {df : Nat → Int32} {rows : Nat → Nat → Int32} (v : Int32) : KX0_change l D ca ad [.ref 10, .int 0, .int 13, .int v] (XW n vs be de sz ro co mi T (up B 6 rows) hd df) (some (.int (rows 0 13))) (XW n vs be de sz ro co mi T (up B 6 (chX rows 0 13 v)) hd df) := by
  refine PX0_change (Nat.le_of_ble_eq_true rfl) ?_
  intro G hT hC hR
  refine mB hT 14 rfl ?_
  refine mWd (w2 := (XW n vs be de sz ro co mi T (up B 6 (up rows 0 (up (rows 0) 13 v))) hd df)) rfl ?_
  exact c_change_on (i := 0) (what := 13) (v := v) hT hC hR
set_option maxRecDepth 20000 in
theorem c_changeR_0_14 {n vs : Int32} {be de : Int64} {sz : Int32} {ro co mi : Nat → Int64} {T : Nat → Nat → Int64} {B : Nat → Nat → Nat → Int32} {hd : Nat → Nat → Int32} {df : Nat → Int32} {rows : Nat → Nat → Int32} (v : Int32) : KX0_change l D ca ad [.ref 10, .int 0, .int 14, .int v] (XW n vs be de sz ro co mi T (up B 6 rows) hd df) (some (.int (rows 0 14))) (XW n vs be de sz ro co mi T (up B 6 (chX rows 0 14 v)) hd df) := by
  refine PX0_change (Nat.le_of_ble_eq_true rfl) ?_
  intro G hT hC hR
  refine mB hT 14 rfl ?_
  refine mWd (w2 := (XW n vs be de sz ro co mi T (up B 6 (up rows 0 (up (rows 0) 14 v))) hd df)) rfl ?_
  exact c_change_on (i := 0) (what := 14) (v := v) hT hC hR
set_option maxRecDepth 20000 in
theorem c_changeR_0_15 {n vs : Int32} {be de : Int64} {sz : Int32} {ro co mi : Nat → Int64} {T : Nat → Nat → Int64} {B : Nat → Nat → Nat → Int32} {hd : Nat → Nat → Int32} {df : Nat → Int32} {rows : Nat → Nat → Int32} (v : Int32) : KX0_change l D ca ad [.ref 10, .int 0, .int 15, .int v] (XW n vs be de sz ro co mi T (up B 6 rows) hd df) (some (.int (rows 0 15))) (XW n vs be de sz ro co mi T (up B 6 (chX rows 0 15 v)) hd df) := by
  refine PX0_change (Nat.le_of_ble_eq_true rfl) ?_
  intro G hT hC hR
  refine mB hT 14 rfl ?_
  refine mWd (w2 := (XW n vs be de sz ro co mi T (up B 6 (up rows 0 (up (rows 0) 15 v))) hd df)) rfl ?_
  exact c_change_on (i := 0) (what := 15) (v := v) hT hC hR
set_option maxRecDepth 20000 in
theorem c_changeR_0_16 {n vs : Int32} {be de : Int64} {sz : Int32} {ro co mi : Nat → Int64} {T : Nat → Nat → Int64} {B : Nat → Nat → Nat → Int32} {hd : Nat → Nat → Int32} {df : Nat → Int32} {rows : Nat → Nat → Int32} (v : Int32) : KX0_change l D ca ad [.ref 10, .int 0, .int 16, .int v] (XW n vs be de sz ro co mi T (up B 6 rows) hd df) (some (.int (rows 0 16))) (XW n vs be de sz ro co mi T (up B 6 (chX rows 0 16 v)) hd df) := by
  refine PX0_change (Nat.le_of_ble_eq_true rfl) ?_
  intro G hT hC hR
  refine mB hT 14 rfl ?_
  refine mWd (w2 := (XW n vs be de sz ro co mi T (up B 6 (up rows 0 (up (rows 0) 16 v))) hd df)) rfl ?_
  exact c_change_on (i := 0) (what := 16) (v := v) hT hC hR
set_option maxRecDepth 20000 in
theorem c_changeR_0_17 {n vs : Int32} {be de : Int64} {sz : Int32} {ro co mi : Nat → Int64} {T : Nat → Nat → Int64} {B : Nat → Nat → Nat → Int32} {hd : Nat → Nat → Int32} {df : Nat → Int32} {rows : Nat → Nat → Int32} (v : Int32) : KX0_change l D ca ad [.ref 10, .int 0, .int 17, .int v] (XW n vs be de sz ro co mi T (up B 6 rows) hd df) (some (.int (rows 0 17))) (XW n vs be de sz ro co mi T (up B 6 (chX rows 0 17 v)) hd df) := by
  refine PX0_change (Nat.le_of_ble_eq_true rfl) ?_
  intro G hT hC hR
  refine mB hT 14 rfl ?_
  refine mWd (w2 := (XW n vs be de sz ro co mi T (up B 6 (up rows 0 (up (rows 0) 17 v))) hd df)) rfl ?_
  exact c_change_on (i := 0) (what := 17) (v := v) hT hC hR
set_option maxRecDepth 20000 in
theorem c_changeR_0_18 {n vs : Int32} {be de : Int64} {sz : Int32} {ro co mi : Nat → Int64} {T : Nat → Nat → Int64} {B : Nat → Nat → Nat → Int32} {hd : Nat → Nat → Int32} {df : Nat → Int32} {rows : Nat → Nat → Int32} (v : Int32) : KX0_change l D ca ad [.ref 10, .int 0, .int 18, .int v] (XW n vs be de sz ro co mi T (up B 6 rows) hd df) (some (.int (rows 0 18))) (XW n vs be de sz ro co mi T (up B 6 (chX rows 0 18 v)) hd df) := by
  refine PX0_change (Nat.le_of_ble_eq_true rfl) ?_
  intro G hT hC hR
  refine mB hT 14 rfl ?_
  refine mWd (w2 := (XW n vs be de sz ro co mi T (up B 6 (up rows 0 (up (rows 0) 18 v))) hd df)) rfl ?_
  exact c_change_on (i := 0) (what := 18) (v := v) hT hC hR
set_option maxRecDepth 20000 in
theorem c_changeR_0_19 {n vs : Int32} {be de : Int64} {sz : Int32} {ro co mi : Nat → Int64} {T : Nat → Nat → Int64} {B : Nat → Nat → Nat → Int32} {hd : Nat → Nat → Int32} {df : Nat → Int32} {rows : Nat → Nat → Int32} (v : Int32) : KX0_change l D ca ad [.ref 10, .int 0, .int 19, .int v] (XW n vs be de sz ro co mi T (up B 6 rows) hd df) (some (.int (rows 0 19))) (XW n vs be de sz ro co mi T (up B 6 (chX rows 0 19 v)) hd df) := by
  refine PX0_change (Nat.le_of_ble_eq_true rfl) ?_
  intro G hT hC hR
  refine mB hT 14 rfl ?_
  refine mWd (w2 := (XW n vs be de sz ro co mi T (up B 6 (up rows 0 (up (rows 0) 19 v))) hd df)) rfl ?_
  exact c_change_on (i := 0) (what := 19) (v := v) hT hC hR
set_option maxRecDepth 20000 in
theorem c_changeR_0_20 {n vs : Int32} {be de : Int64} {sz : Int32} {ro co mi : Nat → Int64} {T : Nat → Nat → Int64} {B : Nat → Nat → Nat → Int32} {hd : Nat → Nat → Int32} {df : Nat → Int32} {rows : Nat → Nat → Int32} (v : Int32) : KX0_change l D ca ad [.ref 10, .int 0, .int 20, .int v] (XW n vs be de sz ro co mi T (up B 6 rows) hd df) (some (.int (rows 0 20))) (XW n vs be de sz ro co mi T (up B 6 (chX rows 0 20 v)) hd df) := by
  refine PX0_change (Nat.le_of_ble_eq_true rfl) ?_
  intro G hT hC hR
  refine mB hT 14 rfl ?_
  refine mWd (w2 := (XW n vs be de sz ro co mi T (up B 6 (up rows 0 (up (rows 0) 20 v))) hd df)) rfl ?_
  exact c_change_on (i := 0) (what := 20) (v := v) hT hC hR
set_option maxRecDepth 20000 in
theorem c_changeR_0_21 {n vs : Int32} {be de : Int64} {sz : Int32} {ro co mi : Nat → Int64} {T : Nat → Nat → Int64} {B : Nat → Nat → Nat → Int32} {hd : Nat → Nat → Int32} {df : Nat → Int32} {rows : Nat → Nat → Int32} (v : Int32) : KX0_change l D ca ad [.ref 10, .int 0, .int 21, .int v] (XW n vs be de sz ro co mi T (up B 6 rows) hd df) (some (.int (rows 0 21))) (XW n vs be de sz ro co mi T (up B 6 (chX rows 0 21 v)) hd df) := by
  refine PX0_change (Nat.le_of_ble_eq_true rfl) ?_
  intro G hT hC hR
  refine mB hT 14 rfl ?_
  refine mWd (w2 := (XW n vs be de sz ro co mi T (up B 6 (up rows 0 (up (rows 0) 21 v))) hd df)) rfl ?_
  exact c_change_on (i := 0) (what := 21) (v := v) hT hC hR
set_option maxRecDepth 20000 in
theorem c_changeR_0_22 {n vs : Int32} {be de : Int64} {sz : Int32} {ro co mi : Nat → Int64} {T : Nat → Nat → Int64} {B : Nat → Nat → Nat → Int32} {hd : Nat → Nat → Int32} {df : Nat → Int32} {rows : Nat → Nat → Int32} (v : Int32) : KX0_change l D ca ad [.ref 10, .int 0, .int 22, .int v] (XW n vs be de sz ro co mi T (up B 6 rows) hd df) (some (.int (rows 0 22))) (XW n vs be de sz ro co mi T (up B 6 (chX rows 0 22 v)) hd df) := by
  refine PX0_change (Nat.le_of_ble_eq_true rfl) ?_
  intro G hT hC hR
  refine mB hT 14 rfl ?_
  refine mWd (w2 := (XW n vs be de sz ro co mi T (up B 6 (up rows 0 (up (rows 0) 22 v))) hd df)) rfl ?_
  exact c_change_on (i := 0) (what := 22) (v := v) hT hC hR
set_option maxRecDepth 20000 in
theorem c_changeR_1_12 {n vs : Int32} {be de : Int64} {sz : Int32} {ro co mi : Nat → Int64} {T : Nat → Nat → Int64} {B : Nat → Nat → Nat → Int32} {hd : Nat → Nat → Int32} {df : Nat → Int32} {rows : Nat → Nat → Int32} (v : Int32) : KX0_change l D ca ad [.ref 10, .int 1, .int 12, .int v] (XW n vs be de sz ro co mi T (up B 6 rows) hd df) (some (.int (rows 1 12))) (XW n vs be de sz ro co mi T (up B 6 (chX rows 1 12 v)) hd df) := by
  refine PX0_change (Nat.le_of_ble_eq_true rfl) ?_
  intro G hT hC hR
  refine mB hT 14 rfl ?_
  refine mWd (w2 := (XW n vs be de sz ro co mi T (up B 6 (up rows 1 (up (rows 1) 12 v))) hd df)) rfl ?_
  exact c_change_on (i := 1) (what := 12) (v := v) hT hC hR
set_option maxRecDepth 20000 in
theorem c_changeR_1_13 {n vs : Int32} {be de : Int64} {sz : Int32} {ro co mi : Nat → Int64} {T : Nat → Nat → Int64} {B : Nat → Nat → Nat → Int32} {hd : Nat → Nat → Int32} {df : Nat → Int32} {rows : Nat → Nat → Int32} (v : Int32) : KX0_change l D ca ad [.ref 10, .int 1, .int 13, .int v] (XW n vs be de sz ro co mi T (up B 6 rows) hd df) (some (.int (rows 1 13))) (XW n vs be de sz ro co mi T (up B 6 (chX rows 1 13 v)) hd df) := by
  refine PX0_change (Nat.le_of_ble_eq_true rfl) ?_
  intro G hT hC hR
  refine mB hT 14 rfl ?_
  refine mWd (w2 := (XW n vs be de sz ro co mi T (up B 6 (up rows 1 (up (rows 1) 13 v))) hd df)) rfl ?_
  exact c_change_on (i := 1) (what := 13) (v := v) hT hC hR
set_option maxRecDepth 20000 in
theorem c_changeR_1_14 {n vs : Int32} {be de : Int64} {sz : Int32} {ro co mi : Nat → Int64} {T : Nat → Nat → Int64} {B : Nat → Nat → Nat → Int32} {hd : Nat → Nat → Int32} {df : Nat → Int32} {rows : Nat → Nat → Int32} (v : Int32) : KX0_change l D ca ad [.ref 10, .int 1, .int 14, .int v] (XW n vs be de sz ro co mi T (up B 6 rows) hd df) (some (.int (rows 1 14))) (XW n vs be de sz ro co mi T (up B 6 (chX rows 1 14 v)) hd df) := by
  refine PX0_change (Nat.le_of_ble_eq_true rfl) ?_
  intro G hT hC hR
  refine mB hT 14 rfl ?_
  refine mWd (w2 := (XW n vs be de sz ro co mi T (up B 6 (up rows 1 (up (rows 1) 14 v))) hd df)) rfl ?_
  exact c_change_on (i := 1) (what := 14) (v := v) hT hC hR
set_option maxRecDepth 20000 in
theorem c_changeR_1_15 {n vs : Int32} {be de : Int64} {sz : Int32} {ro co mi : Nat → Int64} {T : Nat → Nat → Int64} {B : Nat → Nat → Nat → Int32} {hd : Nat → Nat → Int32} {df : Nat → Int32} {rows : Nat → Nat → Int32} (v : Int32) : KX0_change l D ca ad [.ref 10, .int 1, .int 15, .int v] (XW n vs be de sz ro co mi T (up B 6 rows) hd df) (some (.int (rows 1 15))) (XW n vs be de sz ro co mi T (up B 6 (chX rows 1 15 v)) hd df) := by
  refine PX0_change (Nat.le_of_ble_eq_true rfl) ?_
  intro G hT hC hR
  refine mB hT 14 rfl ?_
  refine mWd (w2 := (XW n vs be de sz ro co mi T (up B 6 (up rows 1 (up (rows 1) 15 v))) hd df)) rfl ?_
  exact c_change_on (i := 1) (what := 15) (v := v) hT hC hR
set_option maxRecDepth 20000 in
theorem c_changeR_1_16 {n vs : Int32} {be de : Int64} {sz : Int32} {ro co mi : Nat → Int64} {T : Nat → Nat → Int64} {B : Nat → Nat → Nat → Int32} {hd : Nat → Nat → Int32} {df : Nat → Int32} {rows : Nat → Nat → Int32} (v : Int32) : KX0_change l D ca ad [.ref 10, .int 1, .int 16, .int v] (XW n vs be de sz ro co mi T (up B 6 rows) hd df) (some (.int (rows 1 16))) (XW n vs be de sz ro co mi T (up B 6 (chX rows 1 16 v)) hd df) := by
  refine PX0_change (Nat.le_of_ble_eq_true rfl) ?_
  intro G hT hC hR
  refine mB hT 14 rfl ?_
  refine mWd (w2 := (XW n vs be de sz ro co mi T (up B 6 (up rows 1 (up (rows 1) 16 v))) hd df)) rfl ?_
  exact c_change_on (i := 1) (what := 16) (v := v) hT hC hR
set_option maxRecDepth 20000 in
theorem c_changeR_1_17 {n vs : Int32} {be de : Int64} {sz : Int32} {ro co mi : Nat → Int64} {T : Nat → Nat → Int64} {B : Nat → Nat → Nat → Int32} {hd : Nat → Nat → Int32} {df : Nat → Int32} {rows : Nat → Nat → Int32} (v : Int32) : KX0_change l D ca ad [.ref 10, .int 1, .int 17, .int v] (XW n vs be de sz ro co mi T (up B 6 rows) hd df) (some (.int (rows 1 17))) (XW n vs be de sz ro co mi T (up B 6 (chX rows 1 17 v)) hd df) := by
  refine PX0_change (Nat.le_of_ble_eq_true rfl) ?_
  intro G hT hC hR
  refine mB hT 14 rfl ?_
  refine mWd (w2 := (XW n vs be de sz ro co mi T (up B 6 (up rows 1 (up (rows 1) 17 v))) hd df)) rfl ?_
  exact c_change_on (i := 1) (what := 17) (v := v) hT hC hR
set_option maxRecDepth 20000 in
theorem c_changeR_1_18 {n vs : Int32} {be de : Int64} {sz : Int32} {ro co mi : Nat → Int64} {T : Nat → Nat → Int64} {B : Nat → Nat → Nat → Int32} {hd : Nat → Nat → Int32} {df : Nat → Int32} {rows : Nat → Nat → Int32} (v : Int32) : KX0_change l D ca ad [.ref 10, .int 1, .int 18, .int v] (XW n vs be de sz ro co mi T (up B 6 rows) hd df) (some (.int (rows 1 18))) (XW n vs be de sz ro co mi T (up B 6 (chX rows 1 18 v)) hd df) := by
  refine PX0_change (Nat.le_of_ble_eq_true rfl) ?_
  intro G hT hC hR
  refine mB hT 14 rfl ?_
  refine mWd (w2 := (XW n vs be de sz ro co mi T (up B 6 (up rows 1 (up (rows 1) 18 v))) hd df)) rfl ?_
  exact c_change_on (i := 1) (what := 18) (v := v) hT hC hR
set_option maxRecDepth 20000 in
theorem c_changeR_1_19 {n vs : Int32} {be de : Int64} {sz : Int32} {ro co mi : Nat → Int64} {T : Nat → Nat → Int64} {B : Nat → Nat → Nat → Int32} {hd : Nat → Nat → Int32} {df : Nat → Int32} {rows : Nat → Nat → Int32} (v : Int32) : KX0_change l D ca ad [.ref 10, .int 1, .int 19, .int v] (XW n vs be de sz ro co mi T (up B 6 rows) hd df) (some (.int (rows 1 19))) (XW n vs be de sz ro co mi T (up B 6 (chX rows 1 19 v)) hd df) := by
  refine PX0_change (Nat.le_of_ble_eq_true rfl) ?_
  intro G hT hC hR
  refine mB hT 14 rfl ?_
  refine mWd (w2 := (XW n vs be de sz ro co mi T (up B 6 (up rows 1 (up (rows 1) 19 v))) hd df)) rfl ?_
  exact c_change_on (i := 1) (what := 19) (v := v) hT hC hR
set_option maxRecDepth 20000 in
theorem c_changeR_1_20 {n vs : Int32} {be de : Int64} {sz : Int32} {ro co mi : Nat → Int64} {T : Nat → Nat → Int64} {B : Nat → Nat → Nat → Int32} {hd : Nat → Nat → Int32} {df : Nat → Int32} {rows : Nat → Nat → Int32} (v : Int32) : KX0_change l D ca ad [.ref 10, .int 1, .int 20, .int v] (XW n vs be de sz ro co mi T (up B 6 rows) hd df) (some (.int (rows 1 20))) (XW n vs be de sz ro co mi T (up B 6 (chX rows 1 20 v)) hd df) := by
  refine PX0_change (Nat.le_of_ble_eq_true rfl) ?_
  intro G hT hC hR
  refine mB hT 14 rfl ?_
  refine mWd (w2 := (XW n vs be de sz ro co mi T (up B 6 (up rows 1 (up (rows 1) 20 v))) hd df)) rfl ?_
  exact c_change_on (i := 1) (what := 20) (v := v) hT hC hR
set_option maxRecDepth 20000 in
theorem c_changeR_1_21 {n vs : Int32} {be de : Int64} {sz : Int32} {ro co mi : Nat → Int64} {T : Nat → Nat → Int64} {B : Nat → Nat → Nat → Int32} {hd : Nat → Nat → Int32} {df : Nat → Int32} {rows : Nat → Nat → Int32} (v : Int32) : KX0_change l D ca ad [.ref 10, .int 1, .int 21, .int v] (XW n vs be de sz ro co mi T (up B 6 rows) hd df) (some (.int (rows 1 21))) (XW n vs be de sz ro co mi T (up B 6 (chX rows 1 21 v)) hd df) := by
  refine PX0_change (Nat.le_of_ble_eq_true rfl) ?_
  intro G hT hC hR
  refine mB hT 14 rfl ?_
  refine mWd (w2 := (XW n vs be de sz ro co mi T (up B 6 (up rows 1 (up (rows 1) 21 v))) hd df)) rfl ?_
  exact c_change_on (i := 1) (what := 21) (v := v) hT hC hR
set_option maxRecDepth 20000 in
theorem c_changeR_1_22 {n vs : Int32} {be de : Int64} {sz : Int32} {ro co mi : Nat → Int64} {T : Nat → Nat → Int64} {B : Nat → Nat → Nat → Int32} {hd : Nat → Nat → Int32} {df : Nat → Int32} {rows : Nat → Nat → Int32} (v : Int32) : KX0_change l D ca ad [.ref 10, .int 1, .int 22, .int v] (XW n vs be de sz ro co mi T (up B 6 rows) hd df) (some (.int (rows 1 22))) (XW n vs be de sz ro co mi T (up B 6 (chX rows 1 22 v)) hd df) := by
  refine PX0_change (Nat.le_of_ble_eq_true rfl) ?_
  intro G hT hC hR
  refine mB hT 14 rfl ?_
  refine mWd (w2 := (XW n vs be de sz ro co mi T (up B 6 (up rows 1 (up (rows 1) 22 v))) hd df)) rfl ?_
  exact c_change_on (i := 1) (what := 22) (v := v) hT hC hR
set_option maxRecDepth 20000 in
theorem c_changeR_2_12 {n vs : Int32} {be de : Int64} {sz : Int32} {ro co mi : Nat → Int64} {T : Nat → Nat → Int64} {B : Nat → Nat → Nat → Int32} {hd : Nat → Nat → Int32} {df : Nat → Int32} {rows : Nat → Nat → Int32} (v : Int32) : KX0_change l D ca ad [.ref 10, .int 2, .int 12, .int v] (XW n vs be de sz ro co mi T (up B 6 rows) hd df) (some (.int (rows 2 12))) (XW n vs be de sz ro co mi T (up B 6 (chX rows 2 12 v)) hd df) := by
  refine PX0_change (Nat.le_of_ble_eq_true rfl) ?_
  intro G hT hC hR
  refine mB hT 14 rfl ?_
  refine mWd (w2 := (XW n vs be de sz ro co mi T (up B 6 (up rows 2 (up (rows 2) 12 v))) hd df)) rfl ?_
  exact c_change_on (i := 2) (what := 12) (v := v) hT hC hR
set_option maxRecDepth 20000 in
theorem c_changeR_2_13 {n vs : Int32} {be de : Int64} {sz : Int32} {ro co mi : Nat → Int64} {T : Nat → Nat → Int64} {B : Nat → Nat → Nat → Int32} {hd : Nat → Nat → Int32} {df : Nat → Int32} {rows : Nat → Nat → Int32} (v : Int32) : KX0_change l D ca ad [.ref 10, .int 2, .int 13, .int v] (XW n vs be de sz ro co mi T (up B 6 rows) hd df) (some (.int (rows 2 13))) (XW n vs be de sz ro co mi T (up B 6 (chX rows 2 13 v)) hd df) := by
  refine PX0_change (Nat.le_of_ble_eq_true rfl) ?_
  intro G hT hC hR
  refine mB hT 14 rfl ?_
  refine mWd (w2 := (XW n vs be de sz ro co mi T (up B 6 (up rows 2 (up (rows 2) 13 v))) hd df)) rfl ?_
  exact c_change_on (i := 2) (what := 13) (v := v) hT hC hR
set_option maxRecDepth 20000 in
theorem c_changeR_2_14 {n vs : Int32} {be de : Int64} {sz : Int32} {ro co mi : Nat → Int64} {T : Nat → Nat → Int64} {B : Nat → Nat → Nat → Int32} {hd : Nat → Nat → Int32} {df : Nat → Int32} {rows : Nat → Nat → Int32} (v : Int32) : KX0_change l D ca ad [.ref 10, .int 2, .int 14, .int v] (XW n vs be de sz ro co mi T (up B 6 rows) hd df) (some (.int (rows 2 14))) (XW n vs be de sz ro co mi T (up B 6 (chX rows 2 14 v)) hd df) := by
  refine PX0_change (Nat.le_of_ble_eq_true rfl) ?_
  intro G hT hC hR
  refine mB hT 14 rfl ?_
  refine mWd (w2 := (XW n vs be de sz ro co mi T (up B 6 (up rows 2 (up (rows 2) 14 v))) hd df)) rfl ?_
  exact c_change_on (i := 2) (what := 14) (v := v) hT hC hR
set_option maxRecDepth 20000 in
theorem c_changeR_2_15 {n vs : Int32} {be de : Int64} {sz : Int32} {ro co mi : Nat → Int64} {T : Nat → Nat → Int64} {B : Nat → Nat → Nat → Int32} {hd : Nat → Nat → Int32} {df : Nat → Int32} {rows : Nat → Nat → Int32} (v : Int32) : KX0_change l D ca ad [.ref 10, .int 2, .int 15, .int v] (XW n vs be de sz ro co mi T (up B 6 rows) hd df) (some (.int (rows 2 15))) (XW n vs be de sz ro co mi T (up B 6 (chX rows 2 15 v)) hd df) := by
  refine PX0_change (Nat.le_of_ble_eq_true rfl) ?_
  intro G hT hC hR
  refine mB hT 14 rfl ?_
  refine mWd (w2 := (XW n vs be de sz ro co mi T (up B 6 (up rows 2 (up (rows 2) 15 v))) hd df)) rfl ?_
  exact c_change_on (i := 2) (what := 15) (v := v) hT hC hR
set_option maxRecDepth 20000 in
theorem c_changeR_2_16 {n vs : Int32} {be de : Int64} {sz : Int32} {ro co mi : Nat → Int64} {T : Nat → Nat → Int64} {B : Nat → Nat → Nat → Int32} {hd : Nat → Nat → Int32} {df : Nat → Int32} {rows : Nat → Nat → Int32} (v : Int32) : KX0_change l D ca ad [.ref 10, .int 2, .int 16, .int v] (XW n vs be de sz ro co mi T (up B 6 rows) hd df) (some (.int (rows 2 16))) (XW n vs be de sz ro co mi T (up B 6 (chX rows 2 16 v)) hd df) := by
  refine PX0_change (Nat.le_of_ble_eq_true rfl) ?_
  intro G hT hC hR
  refine mB hT 14 rfl ?_
  refine mWd (w2 := (XW n vs be de sz ro co mi T (up B 6 (up rows 2 (up (rows 2) 16 v))) hd df)) rfl ?_
  exact c_change_on (i := 2) (what := 16) (v := v) hT hC hR
set_option maxRecDepth 20000 in
theorem c_changeR_2_17 {n vs : Int32} {be de : Int64} {sz : Int32} {ro co mi : Nat → Int64} {T : Nat → Nat → Int64} {B : Nat → Nat → Nat → Int32} {hd : Nat → Nat → Int32} {df : Nat → Int32} {rows : Nat → Nat → Int32} (v : Int32) : KX0_change l D ca ad [.ref 10, .int 2, .int 17, .int v] (XW n vs be de sz ro co mi T (up B 6 rows) hd df) (some (.int (rows 2 17))) (XW n vs be de sz ro co mi T (up B 6 (chX rows 2 17 v)) hd df) := by
  refine PX0_change (Nat.le_of_ble_eq_true rfl) ?_
  intro G hT hC hR
  refine mB hT 14 rfl ?_
  refine mWd (w2 := (XW n vs be de sz ro co mi T (up B 6 (up rows 2 (up (rows 2) 17 v))) hd df)) rfl ?_
  exact c_change_on (i := 2) (what := 17) (v := v) hT hC hR
set_option maxRecDepth 20000 in
theorem c_changeR_2_18 {n vs : Int32} {be de : Int64} {sz : Int32} {ro co mi : Nat → Int64} {T : Nat → Nat → Int64} {B : Nat → Nat → Nat → Int32} {hd : Nat → Nat → Int32} {df : Nat → Int32} {rows : Nat → Nat → Int32} (v : Int32) : KX0_change l D ca ad [.ref 10, .int 2, .int 18, .int v] (XW n vs be de sz ro co mi T (up B 6 rows) hd df) (some (.int (rows 2 18))) (XW n vs be de sz ro co mi T (up B 6 (chX rows 2 18 v)) hd df) := by
  refine PX0_change (Nat.le_of_ble_eq_true rfl) ?_
  intro G hT hC hR
  refine mB hT 14 rfl ?_
  refine mWd (w2 := (XW n vs be de sz ro co mi T (up B 6 (up rows 2 (up (rows 2) 18 v))) hd df)) rfl ?_
  exact c_change_on (i := 2) (what := 18) (v := v) hT hC hR
set_option maxRecDepth 20000 in
theorem c_changeR_2_19 {n vs : Int32} {be de : Int64} {sz : Int32} {ro co mi : Nat → Int64} {T : Nat → Nat → Int64} {B : Nat → Nat → Nat → Int32} {hd : Nat → Nat → Int32} {df : Nat → Int32} {rows : Nat → Nat → Int32} (v : Int32) : KX0_change l D ca ad [.ref 10, .int 2, .int 19, .int v] (XW n vs be de sz ro co mi T (up B 6 rows) hd df) (some (.int (rows 2 19))) (XW n vs be de sz ro co mi T (up B 6 (chX rows 2 19 v)) hd df) := by
  refine PX0_change (Nat.le_of_ble_eq_true rfl) ?_
  intro G hT hC hR
  refine mB hT 14 rfl ?_
  refine mWd (w2 := (XW n vs be de sz ro co mi T (up B 6 (up rows 2 (up (rows 2) 19 v))) hd df)) rfl ?_
  exact c_change_on (i := 2) (what := 19) (v := v) hT hC hR
set_option maxRecDepth 20000 in
theorem c_changeR_2_20 {n vs : Int32} {be de : Int64} {sz : Int32} {ro co mi : Nat → Int64} {T : Nat → Nat → Int64} {B : Nat → Nat → Nat → Int32} {hd : Nat → Nat → Int32} {df : Nat → Int32} {rows : Nat → Nat → Int32} (v : Int32) : KX0_change l D ca ad [.ref 10, .int 2, .int 20, .int v] (XW n vs be de sz ro co mi T (up B 6 rows) hd df) (some (.int (rows 2 20))) (XW n vs be de sz ro co mi T (up B 6 (chX rows 2 20 v)) hd df) := by
  refine PX0_change (Nat.le_of_ble_eq_true rfl) ?_
  intro G hT hC hR
  refine mB hT 14 rfl ?_
  refine mWd (w2 := (XW n vs be de sz ro co mi T (up B 6 (up rows 2 (up (rows 2) 20 v))) hd df)) rfl ?_
  exact c_change_on (i := 2) (what := 20) (v := v) hT hC hR
set_option maxRecDepth 20000 in
theorem c_changeR_2_21 {n vs : Int32} {be de : Int64} {sz : Int32} {ro co mi : Nat → Int64} {T : Nat → Nat → Int64} {B : Nat → Nat → Nat → Int32} {hd : Nat → Nat → Int32} {df : Nat → Int32} {rows : Nat → Nat → Int32} (v : Int32) : KX0_change l D ca ad [.ref 10, .int 2, .int 21, .int v] (XW n vs be de sz ro co mi T (up B 6 rows) hd df) (some (.int (rows 2 21))) (XW n vs be de sz ro co mi T (up B 6 (chX rows 2 21 v)) hd df) := by
  refine PX0_change (Nat.le_of_ble_eq_true rfl) ?_
  intro G hT hC hR
  refine mB hT 14 rfl ?_
  refine mWd (w2 := (XW n vs be de sz ro co mi T (up B 6 (up rows 2 (up (rows 2) 21 v))) hd df)) rfl ?_
  exact c_change_on (i := 2) (what := 21) (v := v) hT hC hR
set_option maxRecDepth 20000 in
theorem c_changeR_2_22 {n vs : Int32} {be de : Int64} {sz : Int32} {ro co mi : Nat → Int64} {T : Nat → Nat → Int64} {B : Nat → Nat → Nat → Int32} {hd : Nat → Nat → Int32} {df : Nat → Int32} {rows : Nat → Nat → Int32} (v : Int32) : KX0_change l D ca ad [.ref 10, .int 2, .int 22, .int v] (XW n vs be de sz ro co mi T (up B 6 rows) hd df) (some (.int (rows 2 22))) (XW n vs be de sz ro co mi T (up B 6 (chX rows 2 22 v)) hd df) := by
  refine PX0_change (Nat.le_of_ble_eq_true rfl) ?_
  intro G hT hC hR
  refine mB hT 14 rfl ?_
  refine mWd (w2 := (XW n vs be de sz ro co mi T (up B 6 (up rows 2 (up (rows 2) 22 v))) hd df)) rfl ?_
  exact c_change_on (i := 2) (what := 22) (v := v) hT hC hR
set_option maxRecDepth 20000 in
theorem c_changeR_3_12 {n vs : Int32} {be de : Int64} {sz : Int32} {ro co mi : Nat → Int64} {T : Nat → Nat → Int64} {B : Nat → Nat → Nat → Int32} {hd : Nat → Nat → Int32} {df : Nat → Int32} {rows : Nat → Nat → Int32} (v : Int32) : KX0_change l D ca ad [.ref 10, .int 3, .int 12, .int v] (XW n vs be de sz ro co mi T (up B 6 rows) hd df) (some (.int (rows 3 12))) (XW n vs be de sz ro co mi T (up B 6 (chX rows 3 12 v)) hd df) := by
  refine PX0_change (Nat.le_of_ble_eq_true rfl) ?_
  intro G hT hC hR
  refine mB hT 14 rfl ?_
  refine mWd (w2 := (XW n vs be de sz ro co mi T (up B 6 (up rows 3 (up (rows 3) 12 v))) hd df)) rfl ?_
  exact c_change_on (i := 3) (what := 12) (v := v) hT hC hR
set_option maxRecDepth 20000 in
theorem c_changeR_3_13 {n vs : Int32} {be de : Int64} {sz : Int32} {ro co mi : Nat → Int64} {T : Nat → Nat → Int64} {B : Nat → Nat → Nat → Int32} {hd : Nat → Nat → Int32} {df : Nat → Int32} {rows : Nat → Nat → Int32} (v : Int32) : KX0_change l D ca ad [.ref 10, .int 3, .int 13, .int v] (XW n vs be de sz ro co mi T (up B 6 rows) hd df) (some (.int (rows 3 13))) (XW n vs be de sz ro co mi T (up B 6 (chX rows 3 13 v)) hd df) := by
  refine PX0_change (Nat.le_of_ble_eq_true rfl) ?_
  intro G hT hC hR
  refine mB hT 14 rfl ?_
  refine mWd (w2 := (XW n vs be de sz ro co mi T (up B 6 (up rows 3 (up (rows 3) 13 v))) hd df)) rfl ?_
  exact c_change_on (i := 3) (what := 13) (v := v) hT hC hR
set_option maxRecDepth 20000 in
theorem c_changeR_3_14 {n vs : Int32} {be de : Int64} {sz : Int32} {ro co mi : Nat → Int64} {T : Nat → Nat → Int64} {B : Nat → Nat → Nat → Int32} {hd : Nat → Nat → Int32} {df : Nat → Int32} {rows : Nat → Nat → Int32} (v : Int32) : KX0_change l D ca ad [.ref 10, .int 3, .int 14, .int v] (XW n vs be de sz ro co mi T (up B 6 rows) hd df) (some (.int (rows 3 14))) (XW n vs be de sz ro co mi T (up B 6 (chX rows 3 14 v)) hd df) := by
  refine PX0_change (Nat.le_of_ble_eq_true rfl) ?_
  intro G hT hC hR
  refine mB hT 14 rfl ?_
  refine mWd (w2 := (XW n vs be de sz ro co mi T (up B 6 (up rows 3 (up (rows 3) 14 v))) hd df)) rfl ?_
  exact c_change_on (i := 3) (what := 14) (v := v) hT hC hR
set_option maxRecDepth 20000 in
theorem c_changeR_3_15 {n vs : Int32} {be de : Int64} {sz : Int32} {ro co mi : Nat → Int64} {T : Nat → Nat → Int64} {B : Nat → Nat → Nat → Int32} {hd : Nat → Nat → Int32} {df : Nat → Int32} {rows : Nat → Nat → Int32} (v : Int32) : KX0_change l D ca ad [.ref 10, .int 3, .int 15, .int v] (XW n vs be de sz ro co mi T (up B 6 rows) hd df) (some (.int (rows 3 15))) (XW n vs be de sz ro co mi T (up B 6 (chX rows 3 15 v)) hd df) := by
  refine PX0_change (Nat.le_of_ble_eq_true rfl) ?_
  intro G hT hC hR
  refine mB hT 14 rfl ?_
  refine mWd (w2 := (XW n vs be de sz ro co mi T (up B 6 (up rows 3 (up (rows 3) 15 v))) hd df)) rfl ?_
  exact c_change_on (i := 3) (what := 15) (v := v) hT hC hR
set_option maxRecDepth 20000 in
theorem c_changeR_3_16 {n vs : Int32} {be de : Int64} {sz : Int32} {ro co mi : Nat → Int64} {T : Nat → Nat → Int64} {B : Nat → Nat → Nat → Int32} {hd : Nat → Nat → Int32} {df : Nat → Int32} {rows : Nat → Nat → Int32} (v : Int32) : KX0_change l D ca ad [.ref 10, .int 3, .int 16, .int v] (XW n vs be de sz ro co mi T (up B 6 rows) hd df) (some (.int (rows 3 16))) (XW n vs be de sz ro co mi T (up B 6 (chX rows 3 16 v)) hd df) := by
  refine PX0_change (Nat.le_of_ble_eq_true rfl) ?_
  intro G hT hC hR
  refine mB hT 14 rfl ?_
  refine mWd (w2 := (XW n vs be de sz ro co mi T (up B 6 (up rows 3 (up (rows 3) 16 v))) hd df)) rfl ?_
  exact c_change_on (i := 3) (what := 16) (v := v) hT hC hR
set_option maxRecDepth 20000 in
theorem c_changeR_3_17 {n vs : Int32} {be de : Int64} {sz : Int32} {ro co mi : Nat → Int64} {T : Nat → Nat → Int64} {B : Nat → Nat → Nat → Int32} {hd : Nat → Nat → Int32} {df : Nat → Int32} {rows : Nat → Nat → Int32} (v : Int32) : KX0_change l D ca ad [.ref 10, .int 3, .int 17, .int v] (XW n vs be de sz ro co mi T (up B 6 rows) hd df) (some (.int (rows 3 17))) (XW n vs be de sz ro co mi T (up B 6 (chX rows 3 17 v)) hd df) := by
  refine PX0_change (Nat.le_of_ble_eq_true rfl) ?_
  intro G hT hC hR
  refine mB hT 14 rfl ?_
  refine mWd (w2 := (XW n vs be de sz ro co mi T (up B 6 (up rows 3 (up (rows 3) 17 v))) hd df)) rfl ?_
  exact c_change_on (i := 3) (what := 17) (v := v) hT hC hR
set_option maxRecDepth 20000 in
theorem c_changeR_3_18 {n vs : Int32} {be de : Int64} {sz : Int32} {ro co mi : Nat → Int64} {T : Nat → Nat → Int64} {B : Nat → Nat → Nat → Int32} {hd : Nat → Nat → Int32} {df : Nat → Int32} {rows : Nat → Nat → Int32} (v : Int32) : KX0_change l D ca ad [.ref 10, .int 3, .int 18, .int v] (XW n vs be de sz ro co mi T (up B 6 rows) hd df) (some (.int (rows 3 18))) (XW n vs be de sz ro co mi T (up B 6 (chX rows 3 18 v)) hd df) := by
  refine PX0_change (Nat.le_of_ble_eq_true rfl) ?_
  intro G hT hC hR
  refine mB hT 14 rfl ?_
  refine mWd (w2 := (XW n vs be de sz ro co mi T (up B 6 (up rows 3 (up (rows 3) 18 v))) hd df)) rfl ?_
  exact c_change_on (i := 3) (what := 18) (v := v) hT hC hR
set_option maxRecDepth 20000 in
theorem c_changeR_3_19 {n vs : Int32} {be de : Int64} {sz : Int32} {ro co mi : Nat → Int64} {T : Nat → Nat → Int64} {B : Nat → Nat → Nat → Int32} {hd : Nat → Nat → Int32} {df : Nat → Int32} {rows : Nat → Nat → Int32} (v : Int32) : KX0_change l D ca ad [.ref 10, .int 3, .int 19, .int v] (XW n vs be de sz ro co mi T (up B 6 rows) hd df) (some (.int (rows 3 19))) (XW n vs be de sz ro co mi T (up B 6 (chX rows 3 19 v)) hd df) := by
  refine PX0_change (Nat.le_of_ble_eq_true rfl) ?_
  intro G hT hC hR
  refine mB hT 14 rfl ?_
  refine mWd (w2 := (XW n vs be de sz ro co mi T (up B 6 (up rows 3 (up (rows 3) 19 v))) hd df)) rfl ?_
  exact c_change_on (i := 3) (what := 19) (v := v) hT hC hR
set_option maxRecDepth 20000 in
theorem c_changeR_3_20 {n vs : Int32} {be de : Int64} {sz : Int32} {ro co mi : Nat → Int64} {T : Nat → Nat → Int64} {B : Nat → Nat → Nat → Int32} {hd : Nat → Nat → Int32} {df : Nat → Int32} {rows : Nat → Nat → Int32} (v : Int32) : KX0_change l D ca ad [.ref 10, .int 3, .int 20, .int v] (XW n vs be de sz ro co mi T (up B 6 rows) hd df) (some (.int (rows 3 20))) (XW n vs be de sz ro co mi T (up B 6 (chX rows 3 20 v)) hd df) := by
  refine PX0_change (Nat.le_of_ble_eq_true rfl) ?_
  intro G hT hC hR
  refine mB hT 14 rfl ?_
  refine mWd (w2 := (XW n vs be de sz ro co mi T (up B 6 (up rows 3 (up (rows 3) 20 v))) hd df)) rfl ?_
  exact c_change_on (i := 3) (what := 20) (v := v) hT hC hR
set_option maxRecDepth 20000 in
theorem c_changeR_3_21 {n vs : Int32} {be de : Int64} {sz : Int32} {ro co mi : Nat → Int64} {T : Nat → Nat → Int64} {B : Nat → Nat → Nat → Int32} {hd : Nat → Nat → Int32} {df : Nat → Int32} {rows : Nat → Nat → Int32} (v : Int32) : KX0_change l D ca ad [.ref 10, .int 3, .int 21, .int v] (XW n vs be de sz ro co mi T (up B 6 rows) hd df) (some (.int (rows 3 21))) (XW n vs be de sz ro co mi T (up B 6 (chX rows 3 21 v)) hd df) := by
  refine PX0_change (Nat.le_of_ble_eq_true rfl) ?_
  intro G hT hC hR
  refine mB hT 14 rfl ?_
  refine mWd (w2 := (XW n vs be de sz ro co mi T (up B 6 (up rows 3 (up (rows 3) 21 v))) hd df)) rfl ?_
  exact c_change_on (i := 3) (what := 21) (v := v) hT hC hR
set_option maxRecDepth 20000 in
theorem c_changeR_3_22 {n vs : Int32} {be de : Int64} {sz : Int32} {ro co mi : Nat → Int64} {T : Nat → Nat → Int64} {B : Nat → Nat → Nat → Int32} {hd : Nat → Nat → Int32} {df : Nat → Int32} {rows : Nat → Nat → Int32} (v : Int32) : KX0_change l D ca ad [.ref 10, .int 3, .int 22, .int v] (XW n vs be de sz ro co mi T (up B 6 rows) hd df) (some (.int (rows 3 22))) (XW n vs be de sz ro co mi T (up B 6 (chX rows 3 22 v)) hd df) := by
  refine PX0_change (Nat.le_of_ble_eq_true rfl) ?_
  intro G hT hC hR
  refine mB hT 14 rfl ?_
  refine mWd (w2 := (XW n vs be de sz ro co mi T (up B 6 (up rows 3 (up (rows 3) 22 v))) hd df)) rfl ?_
  exact c_change_on (i := 3) (what := 22) (v := v) hT hC hR
set_option maxRecDepth 20000 in
theorem x_out_0 {n vs : Nat} {be de : Int64} {sz : Int32} {ro co mi : Nat → Int64} {T : Nat → Nat → Int64} {B : Nat → Nat → Nat → Int32} {hd : Nat → Nat → Int32} {df : Nat → Int32} (hi : 0 < n) (hn : n ≤ 4) {v : Int32} (h1 : 1 ≤ v) (h2 : v ≤ 6) : KX2_out l D ca ad [.ref 0, .int 0, .int v] (XW (Int32.ofNat n) (Int32.ofNat vs) be de sz ro co mi T B hd df) (some (.int (B 6 0 0))) (XW (Int32.ofNat n) (Int32.ofNat vs) be de sz ro co mi T (up B 6 (chX (B 6) 0 0 v)) hd df) := by
  refine PX2_out (Nat.le_of_ble_eq_true rfl) ?_
  intro G hT hC hR
  refine mB hT 2 rfl ?_
  refine hC.1 _ 0 [_] _ _ _ _ _ (c_isMaking_t (i := 0) hi hn) rfl rfl (Nat.le_of_ble_eq_true rfl) rfl ?_
  refine mB hT 4 rfl ?_
  refine hC.2.1 _ [_, _, _] _ _ _ _ (c_isWithin_t h1 h2) rfl (Nat.le_of_ble_eq_true rfl) rfl ?_
  refine mB hT 6 rfl ?_
  refine hC.2.2 _ 10 [_, _, _] _ _ _ _ _ (c_change_0_0 v) rfl rfl (Nat.le_of_ble_eq_true rfl) rfl ?_
  exact hR _ (by decide) _ _ _ rfl rfl
set_option maxRecDepth 20000 in
theorem x_out_1 {n vs : Nat} {be de : Int64} {sz : Int32} {ro co mi : Nat → Int64} {T : Nat → Nat → Int64} {B : Nat → Nat → Nat → Int32} {hd : Nat → Nat → Int32} {df : Nat → Int32} (hi : 1 < n) (hn : n ≤ 4) {v : Int32} (h1 : 1 ≤ v) (h2 : v ≤ 6) : KX2_out l D ca ad [.ref 0, .int 1, .int v] (XW (Int32.ofNat n) (Int32.ofNat vs) be de sz ro co mi T B hd df) (some (.int (B 6 1 0))) (XW (Int32.ofNat n) (Int32.ofNat vs) be de sz ro co mi T (up B 6 (chX (B 6) 1 0 v)) hd df) := by
  refine PX2_out (Nat.le_of_ble_eq_true rfl) ?_
  intro G hT hC hR
  refine mB hT 2 rfl ?_
  refine hC.1 _ 0 [_] _ _ _ _ _ (c_isMaking_t (i := 1) hi hn) rfl rfl (Nat.le_of_ble_eq_true rfl) rfl ?_
  refine mB hT 4 rfl ?_
  refine hC.2.1 _ [_, _, _] _ _ _ _ (c_isWithin_t h1 h2) rfl (Nat.le_of_ble_eq_true rfl) rfl ?_
  refine mB hT 6 rfl ?_
  refine hC.2.2 _ 10 [_, _, _] _ _ _ _ _ (c_change_1_0 v) rfl rfl (Nat.le_of_ble_eq_true rfl) rfl ?_
  exact hR _ (by decide) _ _ _ rfl rfl
set_option maxRecDepth 20000 in
theorem x_out_2 {n vs : Nat} {be de : Int64} {sz : Int32} {ro co mi : Nat → Int64} {T : Nat → Nat → Int64} {B : Nat → Nat → Nat → Int32} {hd : Nat → Nat → Int32} {df : Nat → Int32} (hi : 2 < n) (hn : n ≤ 4) {v : Int32} (h1 : 1 ≤ v) (h2 : v ≤ 6) : KX2_out l D ca ad [.ref 0, .int 2, .int v] (XW (Int32.ofNat n) (Int32.ofNat vs) be de sz ro co mi T B hd df) (some (.int (B 6 2 0))) (XW (Int32.ofNat n) (Int32.ofNat vs) be de sz ro co mi T (up B 6 (chX (B 6) 2 0 v)) hd df) := by
  refine PX2_out (Nat.le_of_ble_eq_true rfl) ?_
  intro G hT hC hR
  refine mB hT 2 rfl ?_
  refine hC.1 _ 0 [_] _ _ _ _ _ (c_isMaking_t (i := 2) hi hn) rfl rfl (Nat.le_of_ble_eq_true rfl) rfl ?_
  refine mB hT 4 rfl ?_
  refine hC.2.1 _ [_, _, _] _ _ _ _ (c_isWithin_t h1 h2) rfl (Nat.le_of_ble_eq_true rfl) rfl ?_
  refine mB hT 6 rfl ?_
  refine hC.2.2 _ 10 [_, _, _] _ _ _ _ _ (c_change_2_0 v) rfl rfl (Nat.le_of_ble_eq_true rfl) rfl ?_
  exact hR _ (by decide) _ _ _ rfl rfl
set_option maxRecDepth 20000 in
theorem x_out_3 {n vs : Nat} {be de : Int64} {sz : Int32} {ro co mi : Nat → Int64} {T : Nat → Nat → Int64} {B : Nat → Nat → Nat → Int32} {hd : Nat → Nat → Int32} {df : Nat → Int32} (hi : 3 < n) (hn : n ≤ 4) {v : Int32} (h1 : 1 ≤ v) (h2 : v ≤ 6) : KX2_out l D ca ad [.ref 0, .int 3, .int v] (XW (Int32.ofNat n) (Int32.ofNat vs) be de sz ro co mi T B hd df) (some (.int (B 6 3 0))) (XW (Int32.ofNat n) (Int32.ofNat vs) be de sz ro co mi T (up B 6 (chX (B 6) 3 0 v)) hd df) := by
  refine PX2_out (Nat.le_of_ble_eq_true rfl) ?_
  intro G hT hC hR
  refine mB hT 2 rfl ?_
  refine hC.1 _ 0 [_] _ _ _ _ _ (c_isMaking_t (i := 3) hi hn) rfl rfl (Nat.le_of_ble_eq_true rfl) rfl ?_
  refine mB hT 4 rfl ?_
  refine hC.2.1 _ [_, _, _] _ _ _ _ (c_isWithin_t h1 h2) rfl (Nat.le_of_ble_eq_true rfl) rfl ?_
  refine mB hT 6 rfl ?_
  refine hC.2.2 _ 10 [_, _, _] _ _ _ _ _ (c_change_3_0 v) rfl rfl (Nat.le_of_ble_eq_true rfl) rfl ?_
  exact hR _ (by decide) _ _ _ rfl rfl
theorem x_out {n vs : Nat} {be de : Int64} {sz : Int32} {ro co mi : Nat → Int64} {T : Nat → Nat → Int64} {B : Nat → Nat → Nat → Int32} {hd : Nat → Nat → Int32} {df : Nat → Int32} {i : Nat} (hi : i < n) (hn : n ≤ 4) {v : Int32} (h1 : 1 ≤ v) (h2 : v ≤ 6) : KX2_out l D ca ad [.ref 0, .int (Int32.ofNat i), .int v] (XW (Int32.ofNat n) (Int32.ofNat vs) be de sz ro co mi T B hd df) (some (.int (B 6 i 0))) (XW (Int32.ofNat n) (Int32.ofNat vs) be de sz ro co mi T (up B 6 (chX (B 6) i 0 v)) hd df) := by
  match i, hi with
  | 0, hi => exact x_out_0 hi hn h1 h2
  | 1, hi => exact x_out_1 hi hn h1 h2
  | 2, hi => exact x_out_2 hi hn h1 h2
  | 3, hi => exact x_out_3 hi hn h1 h2
  | i + 4, hi => omega
set_option maxRecDepth 20000 in
theorem x_rule_0 {n vs : Nat} {be de : Int64} {sz : Int32} {ro co mi : Nat → Int64} {T : Nat → Nat → Int64} {B : Nat → Nat → Nat → Int32} {hd : Nat → Nat → Int32} {df : Nat → Int32} (hi : 0 < n) (hn : n ≤ 4) {v : Int32} (h1 : 0 ≤ v) (h2 : v ≤ 2) : KX2_rule l D ca ad [.ref 0, .int 0, .int v] (XW (Int32.ofNat n) (Int32.ofNat vs) be de sz ro co mi T B hd df) (some (.int (B 6 0 1))) (XW (Int32.ofNat n) (Int32.ofNat vs) be de sz ro co mi T (up B 6 (chX (B 6) 0 1 v)) hd df) := by
  refine PX2_rule (Nat.le_of_ble_eq_true rfl) ?_
  intro G hT hC hR
  refine mB hT 2 rfl ?_
  refine hC.1 _ 0 [_] _ _ _ _ _ (c_isMaking_t (i := 0) hi hn) rfl rfl (Nat.le_of_ble_eq_true rfl) rfl ?_
  refine mB hT 4 rfl ?_
  refine hC.2.1 _ [_, _, _] _ _ _ _ (c_isWithin_t h1 h2) rfl (Nat.le_of_ble_eq_true rfl) rfl ?_
  refine mB hT 6 rfl ?_
  refine hC.2.2 _ 10 [_, _, _] _ _ _ _ _ (c_change_0_1 v) rfl rfl (Nat.le_of_ble_eq_true rfl) rfl ?_
  exact hR _ (by decide) _ _ _ rfl rfl
set_option maxRecDepth 20000 in
theorem x_rule_1 {n vs : Nat} {be de : Int64} {sz : Int32} {ro co mi : Nat → Int64} {T : Nat → Nat → Int64} {B : Nat → Nat → Nat → Int32} {hd : Nat → Nat → Int32} {df : Nat → Int32} (hi : 1 < n) (hn : n ≤ 4) {v : Int32} (h1 : 0 ≤ v) (h2 : v ≤ 2) : KX2_rule l D ca ad [.ref 0, .int 1, .int v] (XW (Int32.ofNat n) (Int32.ofNat vs) be de sz ro co mi T B hd df) (some (.int (B 6 1 1))) (XW (Int32.ofNat n) (Int32.ofNat vs) be de sz ro co mi T (up B 6 (chX (B 6) 1 1 v)) hd df) := by
  refine PX2_rule (Nat.le_of_ble_eq_true rfl) ?_
  intro G hT hC hR
  refine mB hT 2 rfl ?_
  refine hC.1 _ 0 [_] _ _ _ _ _ (c_isMaking_t (i := 1) hi hn) rfl rfl (Nat.le_of_ble_eq_true rfl) rfl ?_
  refine mB hT 4 rfl ?_
  refine hC.2.1 _ [_, _, _] _ _ _ _ (c_isWithin_t h1 h2) rfl (Nat.le_of_ble_eq_true rfl) rfl ?_
  refine mB hT 6 rfl ?_
  refine hC.2.2 _ 10 [_, _, _] _ _ _ _ _ (c_change_1_1 v) rfl rfl (Nat.le_of_ble_eq_true rfl) rfl ?_
  exact hR _ (by decide) _ _ _ rfl rfl
set_option maxRecDepth 20000 in
theorem x_rule_2 {n vs : Nat} {be de : Int64} {sz : Int32} {ro co mi : Nat → Int64} {T : Nat → Nat → Int64} {B : Nat → Nat → Nat → Int32} {hd : Nat → Nat → Int32} {df : Nat → Int32} (hi : 2 < n) (hn : n ≤ 4) {v : Int32} (h1 : 0 ≤ v) (h2 : v ≤ 2) : KX2_rule l D ca ad [.ref 0, .int 2, .int v] (XW (Int32.ofNat n) (Int32.ofNat vs) be de sz ro co mi T B hd df) (some (.int (B 6 2 1))) (XW (Int32.ofNat n) (Int32.ofNat vs) be de sz ro co mi T (up B 6 (chX (B 6) 2 1 v)) hd df) := by
  refine PX2_rule (Nat.le_of_ble_eq_true rfl) ?_
  intro G hT hC hR
  refine mB hT 2 rfl ?_
  refine hC.1 _ 0 [_] _ _ _ _ _ (c_isMaking_t (i := 2) hi hn) rfl rfl (Nat.le_of_ble_eq_true rfl) rfl ?_
  refine mB hT 4 rfl ?_
  refine hC.2.1 _ [_, _, _] _ _ _ _ (c_isWithin_t h1 h2) rfl (Nat.le_of_ble_eq_true rfl) rfl ?_
  refine mB hT 6 rfl ?_
  refine hC.2.2 _ 10 [_, _, _] _ _ _ _ _ (c_change_2_1 v) rfl rfl (Nat.le_of_ble_eq_true rfl) rfl ?_
  exact hR _ (by decide) _ _ _ rfl rfl
set_option maxRecDepth 20000 in
theorem x_rule_3 {n vs : Nat} {be de : Int64} {sz : Int32} {ro co mi : Nat → Int64} {T : Nat → Nat → Int64} {B : Nat → Nat → Nat → Int32} {hd : Nat → Nat → Int32} {df : Nat → Int32} (hi : 3 < n) (hn : n ≤ 4) {v : Int32} (h1 : 0 ≤ v) (h2 : v ≤ 2) : KX2_rule l D ca ad [.ref 0, .int 3, .int v] (XW (Int32.ofNat n) (Int32.ofNat vs) be de sz ro co mi T B hd df) (some (.int (B 6 3 1))) (XW (Int32.ofNat n) (Int32.ofNat vs) be de sz ro co mi T (up B 6 (chX (B 6) 3 1 v)) hd df) := by
  refine PX2_rule (Nat.le_of_ble_eq_true rfl) ?_
  intro G hT hC hR
  refine mB hT 2 rfl ?_
  refine hC.1 _ 0 [_] _ _ _ _ _ (c_isMaking_t (i := 3) hi hn) rfl rfl (Nat.le_of_ble_eq_true rfl) rfl ?_
  refine mB hT 4 rfl ?_
  refine hC.2.1 _ [_, _, _] _ _ _ _ (c_isWithin_t h1 h2) rfl (Nat.le_of_ble_eq_true rfl) rfl ?_
  refine mB hT 6 rfl ?_
  refine hC.2.2 _ 10 [_, _, _] _ _ _ _ _ (c_change_3_1 v) rfl rfl (Nat.le_of_ble_eq_true rfl) rfl ?_
  exact hR _ (by decide) _ _ _ rfl rfl
theorem x_rule {n vs : Nat} {be de : Int64} {sz : Int32} {ro co mi : Nat → Int64} {T : Nat → Nat → Int64} {B : Nat → Nat → Nat → Int32} {hd : Nat → Nat → Int32} {df : Nat → Int32} {i : Nat} (hi : i < n) (hn : n ≤ 4) {v : Int32} (h1 : 0 ≤ v) (h2 : v ≤ 2) : KX2_rule l D ca ad [.ref 0, .int (Int32.ofNat i), .int v] (XW (Int32.ofNat n) (Int32.ofNat vs) be de sz ro co mi T B hd df) (some (.int (B 6 i 1))) (XW (Int32.ofNat n) (Int32.ofNat vs) be de sz ro co mi T (up B 6 (chX (B 6) i 1 v)) hd df) := by
  match i, hi with
  | 0, hi => exact x_rule_0 hi hn h1 h2
  | 1, hi => exact x_rule_1 hi hn h1 h2
  | 2, hi => exact x_rule_2 hi hn h1 h2
  | 3, hi => exact x_rule_3 hi hn h1 h2
  | i + 4, hi => omega
set_option maxRecDepth 20000 in
theorem x_needs_0_0 {n vs : Nat} {be de : Int64} {sz : Int32} {ro co mi : Nat → Int64} {T : Nat → Nat → Int64} {B : Nat → Nat → Nat → Int32} {hd : Nat → Nat → Int32} {df : Nat → Int32} (hi : 0 < n) (hj : 0 < n) (hn : n ≤ 4) {v : Int32} (h1 : 0 ≤ v) (h2 : v ≤ 6) : KX2_needs l D ca ad [.ref 0, .int 0, .int 0, .int v] (XW (Int32.ofNat n) (Int32.ofNat vs) be de sz ro co mi T B hd df) (some (.int (B 6 0 4))) (XW (Int32.ofNat n) (Int32.ofNat vs) be de sz ro co mi T (up B 6 (chX (B 6) 0 4 v)) hd df) := by
  refine PX2_needs (Nat.le_of_ble_eq_true rfl) ?_
  intro G hT hC hR
  refine mB hT 2 rfl ?_
  refine hC.1 _ 0 [_] _ _ _ _ _ (c_isMaking_t (i := 0) hi hn) rfl rfl (Nat.le_of_ble_eq_true rfl) rfl ?_
  refine mB hT 3 rfl ?_
  refine hC.2.1 _ 0 [_] _ _ _ _ _ (c_isMaking_t (i := 0) hj hn) rfl rfl (Nat.le_of_ble_eq_true rfl) rfl ?_
  refine mB hT 4 rfl ?_
  refine hC.2.2.1 _ [_, _, _] _ _ _ _ (c_isWithin_t h1 h2) rfl (Nat.le_of_ble_eq_true rfl) rfl ?_
  refine mB hT 8 rfl ?_
  refine hC.2.2.2 _ 10 [_, _, _] _ _ _ _ _ (c_change_0_4 v) rfl rfl (Nat.le_of_ble_eq_true rfl) rfl ?_
  exact hR _ (by decide) _ _ _ rfl rfl
set_option maxRecDepth 20000 in
theorem x_needs_0_1 {n vs : Nat} {be de : Int64} {sz : Int32} {ro co mi : Nat → Int64} {T : Nat → Nat → Int64} {B : Nat → Nat → Nat → Int32} {hd : Nat → Nat → Int32} {df : Nat → Int32} (hi : 0 < n) (hj : 1 < n) (hn : n ≤ 4) {v : Int32} (h1 : 0 ≤ v) (h2 : v ≤ 6) : KX2_needs l D ca ad [.ref 0, .int 0, .int 1, .int v] (XW (Int32.ofNat n) (Int32.ofNat vs) be de sz ro co mi T B hd df) (some (.int (B 6 0 5))) (XW (Int32.ofNat n) (Int32.ofNat vs) be de sz ro co mi T (up B 6 (chX (B 6) 0 5 v)) hd df) := by
  refine PX2_needs (Nat.le_of_ble_eq_true rfl) ?_
  intro G hT hC hR
  refine mB hT 2 rfl ?_
  refine hC.1 _ 0 [_] _ _ _ _ _ (c_isMaking_t (i := 0) hi hn) rfl rfl (Nat.le_of_ble_eq_true rfl) rfl ?_
  refine mB hT 3 rfl ?_
  refine hC.2.1 _ 0 [_] _ _ _ _ _ (c_isMaking_t (i := 1) hj hn) rfl rfl (Nat.le_of_ble_eq_true rfl) rfl ?_
  refine mB hT 4 rfl ?_
  refine hC.2.2.1 _ [_, _, _] _ _ _ _ (c_isWithin_t h1 h2) rfl (Nat.le_of_ble_eq_true rfl) rfl ?_
  refine mB hT 8 rfl ?_
  refine hC.2.2.2 _ 10 [_, _, _] _ _ _ _ _ (c_change_0_5 v) rfl rfl (Nat.le_of_ble_eq_true rfl) rfl ?_
  exact hR _ (by decide) _ _ _ rfl rfl
set_option maxRecDepth 20000 in
theorem x_needs_0_2 {n vs : Nat} {be de : Int64} {sz : Int32} {ro co mi : Nat → Int64} {T : Nat → Nat → Int64} {B : Nat → Nat → Nat → Int32} {hd : Nat → Nat → Int32} {df : Nat → Int32} (hi : 0 < n) (hj : 2 < n) (hn : n ≤ 4) {v : Int32} (h1 : 0 ≤ v) (h2 : v ≤ 6) : KX2_needs l D ca ad [.ref 0, .int 0, .int 2, .int v] (XW (Int32.ofNat n) (Int32.ofNat vs) be de sz ro co mi T B hd df) (some (.int (B 6 0 6))) (XW (Int32.ofNat n) (Int32.ofNat vs) be de sz ro co mi T (up B 6 (chX (B 6) 0 6 v)) hd df) := by
  refine PX2_needs (Nat.le_of_ble_eq_true rfl) ?_
  intro G hT hC hR
  refine mB hT 2 rfl ?_
  refine hC.1 _ 0 [_] _ _ _ _ _ (c_isMaking_t (i := 0) hi hn) rfl rfl (Nat.le_of_ble_eq_true rfl) rfl ?_
  refine mB hT 3 rfl ?_
  refine hC.2.1 _ 0 [_] _ _ _ _ _ (c_isMaking_t (i := 2) hj hn) rfl rfl (Nat.le_of_ble_eq_true rfl) rfl ?_
  refine mB hT 4 rfl ?_
  refine hC.2.2.1 _ [_, _, _] _ _ _ _ (c_isWithin_t h1 h2) rfl (Nat.le_of_ble_eq_true rfl) rfl ?_
  refine mB hT 8 rfl ?_
  refine hC.2.2.2 _ 10 [_, _, _] _ _ _ _ _ (c_change_0_6 v) rfl rfl (Nat.le_of_ble_eq_true rfl) rfl ?_
  exact hR _ (by decide) _ _ _ rfl rfl
set_option maxRecDepth 20000 in
theorem x_needs_0_3 {n vs : Nat} {be de : Int64} {sz : Int32} {ro co mi : Nat → Int64} {T : Nat → Nat → Int64} {B : Nat → Nat → Nat → Int32} {hd : Nat → Nat → Int32} {df : Nat → Int32} (hi : 0 < n) (hj : 3 < n) (hn : n ≤ 4) {v : Int32} (h1 : 0 ≤ v) (h2 : v ≤ 6) : KX2_needs l D ca ad [.ref 0, .int 0, .int 3, .int v] (XW (Int32.ofNat n) (Int32.ofNat vs) be de sz ro co mi T B hd df) (some (.int (B 6 0 7))) (XW (Int32.ofNat n) (Int32.ofNat vs) be de sz ro co mi T (up B 6 (chX (B 6) 0 7 v)) hd df) := by
  refine PX2_needs (Nat.le_of_ble_eq_true rfl) ?_
  intro G hT hC hR
  refine mB hT 2 rfl ?_
  refine hC.1 _ 0 [_] _ _ _ _ _ (c_isMaking_t (i := 0) hi hn) rfl rfl (Nat.le_of_ble_eq_true rfl) rfl ?_
  refine mB hT 3 rfl ?_
  refine hC.2.1 _ 0 [_] _ _ _ _ _ (c_isMaking_t (i := 3) hj hn) rfl rfl (Nat.le_of_ble_eq_true rfl) rfl ?_
  refine mB hT 4 rfl ?_
  refine hC.2.2.1 _ [_, _, _] _ _ _ _ (c_isWithin_t h1 h2) rfl (Nat.le_of_ble_eq_true rfl) rfl ?_
  refine mB hT 8 rfl ?_
  refine hC.2.2.2 _ 10 [_, _, _] _ _ _ _ _ (c_change_0_7 v) rfl rfl (Nat.le_of_ble_eq_true rfl) rfl ?_
  exact hR _ (by decide) _ _ _ rfl rfl
set_option maxRecDepth 20000 in
theorem x_needs_1_0 {n vs : Nat} {be de : Int64} {sz : Int32} {ro co mi : Nat → Int64} {T : Nat → Nat → Int64} {B : Nat → Nat → Nat → Int32} {hd : Nat → Nat → Int32} {df : Nat → Int32} (hi : 1 < n) (hj : 0 < n) (hn : n ≤ 4) {v : Int32} (h1 : 0 ≤ v) (h2 : v ≤ 6) : KX2_needs l D ca ad [.ref 0, .int 1, .int 0, .int v] (XW (Int32.ofNat n) (Int32.ofNat vs) be de sz ro co mi T B hd df) (some (.int (B 6 1 4))) (XW (Int32.ofNat n) (Int32.ofNat vs) be de sz ro co mi T (up B 6 (chX (B 6) 1 4 v)) hd df) := by
  refine PX2_needs (Nat.le_of_ble_eq_true rfl) ?_
  intro G hT hC hR
  refine mB hT 2 rfl ?_
  refine hC.1 _ 0 [_] _ _ _ _ _ (c_isMaking_t (i := 1) hi hn) rfl rfl (Nat.le_of_ble_eq_true rfl) rfl ?_
  refine mB hT 3 rfl ?_
  refine hC.2.1 _ 0 [_] _ _ _ _ _ (c_isMaking_t (i := 0) hj hn) rfl rfl (Nat.le_of_ble_eq_true rfl) rfl ?_
  refine mB hT 4 rfl ?_
  refine hC.2.2.1 _ [_, _, _] _ _ _ _ (c_isWithin_t h1 h2) rfl (Nat.le_of_ble_eq_true rfl) rfl ?_
  refine mB hT 8 rfl ?_
  refine hC.2.2.2 _ 10 [_, _, _] _ _ _ _ _ (c_change_1_4 v) rfl rfl (Nat.le_of_ble_eq_true rfl) rfl ?_
  exact hR _ (by decide) _ _ _ rfl rfl
set_option maxRecDepth 20000 in
theorem x_needs_1_1 {n vs : Nat} {be de : Int64} {sz : Int32} {ro co mi : Nat → Int64} {T : Nat → Nat → Int64} {B : Nat → Nat → Nat → Int32} {hd : Nat → Nat → Int32} {df : Nat → Int32} (hi : 1 < n) (hj : 1 < n) (hn : n ≤ 4) {v : Int32} (h1 : 0 ≤ v) (h2 : v ≤ 6) : KX2_needs l D ca ad [.ref 0, .int 1, .int 1, .int v] (XW (Int32.ofNat n) (Int32.ofNat vs) be de sz ro co mi T B hd df) (some (.int (B 6 1 5))) (XW (Int32.ofNat n) (Int32.ofNat vs) be de sz ro co mi T (up B 6 (chX (B 6) 1 5 v)) hd df) := by
  refine PX2_needs (Nat.le_of_ble_eq_true rfl) ?_
  intro G hT hC hR
  refine mB hT 2 rfl ?_
  refine hC.1 _ 0 [_] _ _ _ _ _ (c_isMaking_t (i := 1) hi hn) rfl rfl (Nat.le_of_ble_eq_true rfl) rfl ?_
  refine mB hT 3 rfl ?_
  refine hC.2.1 _ 0 [_] _ _ _ _ _ (c_isMaking_t (i := 1) hj hn) rfl rfl (Nat.le_of_ble_eq_true rfl) rfl ?_
  refine mB hT 4 rfl ?_
  refine hC.2.2.1 _ [_, _, _] _ _ _ _ (c_isWithin_t h1 h2) rfl (Nat.le_of_ble_eq_true rfl) rfl ?_
  refine mB hT 8 rfl ?_
  refine hC.2.2.2 _ 10 [_, _, _] _ _ _ _ _ (c_change_1_5 v) rfl rfl (Nat.le_of_ble_eq_true rfl) rfl ?_
  exact hR _ (by decide) _ _ _ rfl rfl
set_option maxRecDepth 20000 in
theorem x_needs_1_2 {n vs : Nat} {be de : Int64} {sz : Int32} {ro co mi : Nat → Int64} {T : Nat → Nat → Int64} {B : Nat → Nat → Nat → Int32} {hd : Nat → Nat → Int32} {df : Nat → Int32} (hi : 1 < n) (hj : 2 < n) (hn : n ≤ 4) {v : Int32} (h1 : 0 ≤ v) (h2 : v ≤ 6) : KX2_needs l D ca ad [.ref 0, .int 1, .int 2, .int v] (XW (Int32.ofNat n) (Int32.ofNat vs) be de sz ro co mi T B hd df) (some (.int (B 6 1 6))) (XW (Int32.ofNat n) (Int32.ofNat vs) be de sz ro co mi T (up B 6 (chX (B 6) 1 6 v)) hd df) := by
  refine PX2_needs (Nat.le_of_ble_eq_true rfl) ?_
  intro G hT hC hR
  refine mB hT 2 rfl ?_
  refine hC.1 _ 0 [_] _ _ _ _ _ (c_isMaking_t (i := 1) hi hn) rfl rfl (Nat.le_of_ble_eq_true rfl) rfl ?_
  refine mB hT 3 rfl ?_
  refine hC.2.1 _ 0 [_] _ _ _ _ _ (c_isMaking_t (i := 2) hj hn) rfl rfl (Nat.le_of_ble_eq_true rfl) rfl ?_
  refine mB hT 4 rfl ?_
  refine hC.2.2.1 _ [_, _, _] _ _ _ _ (c_isWithin_t h1 h2) rfl (Nat.le_of_ble_eq_true rfl) rfl ?_
  refine mB hT 8 rfl ?_
  refine hC.2.2.2 _ 10 [_, _, _] _ _ _ _ _ (c_change_1_6 v) rfl rfl (Nat.le_of_ble_eq_true rfl) rfl ?_
  exact hR _ (by decide) _ _ _ rfl rfl
set_option maxRecDepth 20000 in
theorem x_needs_1_3 {n vs : Nat} {be de : Int64} {sz : Int32} {ro co mi : Nat → Int64} {T : Nat → Nat → Int64} {B : Nat → Nat → Nat → Int32} {hd : Nat → Nat → Int32} {df : Nat → Int32} (hi : 1 < n) (hj : 3 < n) (hn : n ≤ 4) {v : Int32} (h1 : 0 ≤ v) (h2 : v ≤ 6) : KX2_needs l D ca ad [.ref 0, .int 1, .int 3, .int v] (XW (Int32.ofNat n) (Int32.ofNat vs) be de sz ro co mi T B hd df) (some (.int (B 6 1 7))) (XW (Int32.ofNat n) (Int32.ofNat vs) be de sz ro co mi T (up B 6 (chX (B 6) 1 7 v)) hd df) := by
  refine PX2_needs (Nat.le_of_ble_eq_true rfl) ?_
  intro G hT hC hR
  refine mB hT 2 rfl ?_
  refine hC.1 _ 0 [_] _ _ _ _ _ (c_isMaking_t (i := 1) hi hn) rfl rfl (Nat.le_of_ble_eq_true rfl) rfl ?_
  refine mB hT 3 rfl ?_
  refine hC.2.1 _ 0 [_] _ _ _ _ _ (c_isMaking_t (i := 3) hj hn) rfl rfl (Nat.le_of_ble_eq_true rfl) rfl ?_
  refine mB hT 4 rfl ?_
  refine hC.2.2.1 _ [_, _, _] _ _ _ _ (c_isWithin_t h1 h2) rfl (Nat.le_of_ble_eq_true rfl) rfl ?_
  refine mB hT 8 rfl ?_
  refine hC.2.2.2 _ 10 [_, _, _] _ _ _ _ _ (c_change_1_7 v) rfl rfl (Nat.le_of_ble_eq_true rfl) rfl ?_
  exact hR _ (by decide) _ _ _ rfl rfl
set_option maxRecDepth 20000 in
theorem x_needs_2_0 {n vs : Nat} {be de : Int64} {sz : Int32} {ro co mi : Nat → Int64} {T : Nat → Nat → Int64} {B : Nat → Nat → Nat → Int32} {hd : Nat → Nat → Int32} {df : Nat → Int32} (hi : 2 < n) (hj : 0 < n) (hn : n ≤ 4) {v : Int32} (h1 : 0 ≤ v) (h2 : v ≤ 6) : KX2_needs l D ca ad [.ref 0, .int 2, .int 0, .int v] (XW (Int32.ofNat n) (Int32.ofNat vs) be de sz ro co mi T B hd df) (some (.int (B 6 2 4))) (XW (Int32.ofNat n) (Int32.ofNat vs) be de sz ro co mi T (up B 6 (chX (B 6) 2 4 v)) hd df) := by
  refine PX2_needs (Nat.le_of_ble_eq_true rfl) ?_
  intro G hT hC hR
  refine mB hT 2 rfl ?_
  refine hC.1 _ 0 [_] _ _ _ _ _ (c_isMaking_t (i := 2) hi hn) rfl rfl (Nat.le_of_ble_eq_true rfl) rfl ?_
  refine mB hT 3 rfl ?_
  refine hC.2.1 _ 0 [_] _ _ _ _ _ (c_isMaking_t (i := 0) hj hn) rfl rfl (Nat.le_of_ble_eq_true rfl) rfl ?_
  refine mB hT 4 rfl ?_
  refine hC.2.2.1 _ [_, _, _] _ _ _ _ (c_isWithin_t h1 h2) rfl (Nat.le_of_ble_eq_true rfl) rfl ?_
  refine mB hT 8 rfl ?_
  refine hC.2.2.2 _ 10 [_, _, _] _ _ _ _ _ (c_change_2_4 v) rfl rfl (Nat.le_of_ble_eq_true rfl) rfl ?_
  exact hR _ (by decide) _ _ _ rfl rfl
set_option maxRecDepth 20000 in
theorem x_needs_2_1 {n vs : Nat} {be de : Int64} {sz : Int32} {ro co mi : Nat → Int64} {T : Nat → Nat → Int64} {B : Nat → Nat → Nat → Int32} {hd : Nat → Nat → Int32} {df : Nat → Int32} (hi : 2 < n) (hj : 1 < n) (hn : n ≤ 4) {v : Int32} (h1 : 0 ≤ v) (h2 : v ≤ 6) : KX2_needs l D ca ad [.ref 0, .int 2, .int 1, .int v] (XW (Int32.ofNat n) (Int32.ofNat vs) be de sz ro co mi T B hd df) (some (.int (B 6 2 5))) (XW (Int32.ofNat n) (Int32.ofNat vs) be de sz ro co mi T (up B 6 (chX (B 6) 2 5 v)) hd df) := by
  refine PX2_needs (Nat.le_of_ble_eq_true rfl) ?_
  intro G hT hC hR
  refine mB hT 2 rfl ?_
  refine hC.1 _ 0 [_] _ _ _ _ _ (c_isMaking_t (i := 2) hi hn) rfl rfl (Nat.le_of_ble_eq_true rfl) rfl ?_
  refine mB hT 3 rfl ?_
  refine hC.2.1 _ 0 [_] _ _ _ _ _ (c_isMaking_t (i := 1) hj hn) rfl rfl (Nat.le_of_ble_eq_true rfl) rfl ?_
  refine mB hT 4 rfl ?_
  refine hC.2.2.1 _ [_, _, _] _ _ _ _ (c_isWithin_t h1 h2) rfl (Nat.le_of_ble_eq_true rfl) rfl ?_
  refine mB hT 8 rfl ?_
  refine hC.2.2.2 _ 10 [_, _, _] _ _ _ _ _ (c_change_2_5 v) rfl rfl (Nat.le_of_ble_eq_true rfl) rfl ?_
  exact hR _ (by decide) _ _ _ rfl rfl
set_option maxRecDepth 20000 in
theorem x_needs_2_2 {n vs : Nat} {be de : Int64} {sz : Int32} {ro co mi : Nat → Int64} {T : Nat → Nat → Int64} {B : Nat → Nat → Nat → Int32} {hd : Nat → Nat → Int32} {df : Nat → Int32} (hi : 2 < n) (hj : 2 < n) (hn : n ≤ 4) {v : Int32} (h1 : 0 ≤ v) (h2 : v ≤ 6) : KX2_needs l D ca ad [.ref 0, .int 2, .int 2, .int v] (XW (Int32.ofNat n) (Int32.ofNat vs) be de sz ro co mi T B hd df) (some (.int (B 6 2 6))) (XW (Int32.ofNat n) (Int32.ofNat vs) be de sz ro co mi T (up B 6 (chX (B 6) 2 6 v)) hd df) := by
  refine PX2_needs (Nat.le_of_ble_eq_true rfl) ?_
  intro G hT hC hR
  refine mB hT 2 rfl ?_
  refine hC.1 _ 0 [_] _ _ _ _ _ (c_isMaking_t (i := 2) hi hn) rfl rfl (Nat.le_of_ble_eq_true rfl) rfl ?_
  refine mB hT 3 rfl ?_
  refine hC.2.1 _ 0 [_] _ _ _ _ _ (c_isMaking_t (i := 2) hj hn) rfl rfl (Nat.le_of_ble_eq_true rfl) rfl ?_
  refine mB hT 4 rfl ?_
  refine hC.2.2.1 _ [_, _, _] _ _ _ _ (c_isWithin_t h1 h2) rfl (Nat.le_of_ble_eq_true rfl) rfl ?_
  refine mB hT 8 rfl ?_
  refine hC.2.2.2 _ 10 [_, _, _] _ _ _ _ _ (c_change_2_6 v) rfl rfl (Nat.le_of_ble_eq_true rfl) rfl ?_
  exact hR _ (by decide) _ _ _ rfl rfl
set_option maxRecDepth 20000 in
theorem x_needs_2_3 {n vs : Nat} {be de : Int64} {sz : Int32} {ro co mi : Nat → Int64} {T : Nat → Nat → Int64} {B : Nat → Nat → Nat → Int32} {hd : Nat → Nat → Int32} {df : Nat → Int32} (hi : 2 < n) (hj : 3 < n) (hn : n ≤ 4) {v : Int32} (h1 : 0 ≤ v) (h2 : v ≤ 6) : KX2_needs l D ca ad [.ref 0, .int 2, .int 3, .int v] (XW (Int32.ofNat n) (Int32.ofNat vs) be de sz ro co mi T B hd df) (some (.int (B 6 2 7))) (XW (Int32.ofNat n) (Int32.ofNat vs) be de sz ro co mi T (up B 6 (chX (B 6) 2 7 v)) hd df) := by
  refine PX2_needs (Nat.le_of_ble_eq_true rfl) ?_
  intro G hT hC hR
  refine mB hT 2 rfl ?_
  refine hC.1 _ 0 [_] _ _ _ _ _ (c_isMaking_t (i := 2) hi hn) rfl rfl (Nat.le_of_ble_eq_true rfl) rfl ?_
  refine mB hT 3 rfl ?_
  refine hC.2.1 _ 0 [_] _ _ _ _ _ (c_isMaking_t (i := 3) hj hn) rfl rfl (Nat.le_of_ble_eq_true rfl) rfl ?_
  refine mB hT 4 rfl ?_
  refine hC.2.2.1 _ [_, _, _] _ _ _ _ (c_isWithin_t h1 h2) rfl (Nat.le_of_ble_eq_true rfl) rfl ?_
  refine mB hT 8 rfl ?_
  refine hC.2.2.2 _ 10 [_, _, _] _ _ _ _ _ (c_change_2_7 v) rfl rfl (Nat.le_of_ble_eq_true rfl) rfl ?_
  exact hR _ (by decide) _ _ _ rfl rfl
set_option maxRecDepth 20000 in
theorem x_needs_3_0 {n vs : Nat} {be de : Int64} {sz : Int32} {ro co mi : Nat → Int64} {T : Nat → Nat → Int64} {B : Nat → Nat → Nat → Int32} {hd : Nat → Nat → Int32} {df : Nat → Int32} (hi : 3 < n) (hj : 0 < n) (hn : n ≤ 4) {v : Int32} (h1 : 0 ≤ v) (h2 : v ≤ 6) : KX2_needs l D ca ad [.ref 0, .int 3, .int 0, .int v] (XW (Int32.ofNat n) (Int32.ofNat vs) be de sz ro co mi T B hd df) (some (.int (B 6 3 4))) (XW (Int32.ofNat n) (Int32.ofNat vs) be de sz ro co mi T (up B 6 (chX (B 6) 3 4 v)) hd df) := by
  refine PX2_needs (Nat.le_of_ble_eq_true rfl) ?_
  intro G hT hC hR
  refine mB hT 2 rfl ?_
  refine hC.1 _ 0 [_] _ _ _ _ _ (c_isMaking_t (i := 3) hi hn) rfl rfl (Nat.le_of_ble_eq_true rfl) rfl ?_
  refine mB hT 3 rfl ?_
  refine hC.2.1 _ 0 [_] _ _ _ _ _ (c_isMaking_t (i := 0) hj hn) rfl rfl (Nat.le_of_ble_eq_true rfl) rfl ?_
  refine mB hT 4 rfl ?_
  refine hC.2.2.1 _ [_, _, _] _ _ _ _ (c_isWithin_t h1 h2) rfl (Nat.le_of_ble_eq_true rfl) rfl ?_
  refine mB hT 8 rfl ?_
  refine hC.2.2.2 _ 10 [_, _, _] _ _ _ _ _ (c_change_3_4 v) rfl rfl (Nat.le_of_ble_eq_true rfl) rfl ?_
  exact hR _ (by decide) _ _ _ rfl rfl
set_option maxRecDepth 20000 in
theorem x_needs_3_1 {n vs : Nat} {be de : Int64} {sz : Int32} {ro co mi : Nat → Int64} {T : Nat → Nat → Int64} {B : Nat → Nat → Nat → Int32} {hd : Nat → Nat → Int32} {df : Nat → Int32} (hi : 3 < n) (hj : 1 < n) (hn : n ≤ 4) {v : Int32} (h1 : 0 ≤ v) (h2 : v ≤ 6) : KX2_needs l D ca ad [.ref 0, .int 3, .int 1, .int v] (XW (Int32.ofNat n) (Int32.ofNat vs) be de sz ro co mi T B hd df) (some (.int (B 6 3 5))) (XW (Int32.ofNat n) (Int32.ofNat vs) be de sz ro co mi T (up B 6 (chX (B 6) 3 5 v)) hd df) := by
  refine PX2_needs (Nat.le_of_ble_eq_true rfl) ?_
  intro G hT hC hR
  refine mB hT 2 rfl ?_
  refine hC.1 _ 0 [_] _ _ _ _ _ (c_isMaking_t (i := 3) hi hn) rfl rfl (Nat.le_of_ble_eq_true rfl) rfl ?_
  refine mB hT 3 rfl ?_
  refine hC.2.1 _ 0 [_] _ _ _ _ _ (c_isMaking_t (i := 1) hj hn) rfl rfl (Nat.le_of_ble_eq_true rfl) rfl ?_
  refine mB hT 4 rfl ?_
  refine hC.2.2.1 _ [_, _, _] _ _ _ _ (c_isWithin_t h1 h2) rfl (Nat.le_of_ble_eq_true rfl) rfl ?_
  refine mB hT 8 rfl ?_
  refine hC.2.2.2 _ 10 [_, _, _] _ _ _ _ _ (c_change_3_5 v) rfl rfl (Nat.le_of_ble_eq_true rfl) rfl ?_
  exact hR _ (by decide) _ _ _ rfl rfl
set_option maxRecDepth 20000 in
theorem x_needs_3_2 {n vs : Nat} {be de : Int64} {sz : Int32} {ro co mi : Nat → Int64} {T : Nat → Nat → Int64} {B : Nat → Nat → Nat → Int32} {hd : Nat → Nat → Int32} {df : Nat → Int32} (hi : 3 < n) (hj : 2 < n) (hn : n ≤ 4) {v : Int32} (h1 : 0 ≤ v) (h2 : v ≤ 6) : KX2_needs l D ca ad [.ref 0, .int 3, .int 2, .int v] (XW (Int32.ofNat n) (Int32.ofNat vs) be de sz ro co mi T B hd df) (some (.int (B 6 3 6))) (XW (Int32.ofNat n) (Int32.ofNat vs) be de sz ro co mi T (up B 6 (chX (B 6) 3 6 v)) hd df) := by
  refine PX2_needs (Nat.le_of_ble_eq_true rfl) ?_
  intro G hT hC hR
  refine mB hT 2 rfl ?_
  refine hC.1 _ 0 [_] _ _ _ _ _ (c_isMaking_t (i := 3) hi hn) rfl rfl (Nat.le_of_ble_eq_true rfl) rfl ?_
  refine mB hT 3 rfl ?_
  refine hC.2.1 _ 0 [_] _ _ _ _ _ (c_isMaking_t (i := 2) hj hn) rfl rfl (Nat.le_of_ble_eq_true rfl) rfl ?_
  refine mB hT 4 rfl ?_
  refine hC.2.2.1 _ [_, _, _] _ _ _ _ (c_isWithin_t h1 h2) rfl (Nat.le_of_ble_eq_true rfl) rfl ?_
  refine mB hT 8 rfl ?_
  refine hC.2.2.2 _ 10 [_, _, _] _ _ _ _ _ (c_change_3_6 v) rfl rfl (Nat.le_of_ble_eq_true rfl) rfl ?_
  exact hR _ (by decide) _ _ _ rfl rfl
set_option maxRecDepth 20000 in
theorem x_needs_3_3 {n vs : Nat} {be de : Int64} {sz : Int32} {ro co mi : Nat → Int64} {T : Nat → Nat → Int64} {B : Nat → Nat → Nat → Int32} {hd : Nat → Nat → Int32} {df : Nat → Int32} (hi : 3 < n) (hj : 3 < n) (hn : n ≤ 4) {v : Int32} (h1 : 0 ≤ v) (h2 : v ≤ 6) : KX2_needs l D ca ad [.ref 0, .int 3, .int 3, .int v] (XW (Int32.ofNat n) (Int32.ofNat vs) be de sz ro co mi T B hd df) (some (.int (B 6 3 7))) (XW (Int32.ofNat n) (Int32.ofNat vs) be de sz ro co mi T (up B 6 (chX (B 6) 3 7 v)) hd df) := by
  refine PX2_needs (Nat.le_of_ble_eq_true rfl) ?_
  intro G hT hC hR
  refine mB hT 2 rfl ?_
  refine hC.1 _ 0 [_] _ _ _ _ _ (c_isMaking_t (i := 3) hi hn) rfl rfl (Nat.le_of_ble_eq_true rfl) rfl ?_
  refine mB hT 3 rfl ?_
  refine hC.2.1 _ 0 [_] _ _ _ _ _ (c_isMaking_t (i := 3) hj hn) rfl rfl (Nat.le_of_ble_eq_true rfl) rfl ?_
  refine mB hT 4 rfl ?_
  refine hC.2.2.1 _ [_, _, _] _ _ _ _ (c_isWithin_t h1 h2) rfl (Nat.le_of_ble_eq_true rfl) rfl ?_
  refine mB hT 8 rfl ?_
  refine hC.2.2.2 _ 10 [_, _, _] _ _ _ _ _ (c_change_3_7 v) rfl rfl (Nat.le_of_ble_eq_true rfl) rfl ?_
  exact hR _ (by decide) _ _ _ rfl rfl
theorem x_needs {n vs : Nat} {be de : Int64} {sz : Int32} {ro co mi : Nat → Int64} {T : Nat → Nat → Int64} {B : Nat → Nat → Nat → Int32} {hd : Nat → Nat → Int32} {df : Nat → Int32} {i j : Nat} (hi : i < n) (hj : j < n) (hn : n ≤ 4) {v : Int32} (h1 : 0 ≤ v) (h2 : v ≤ 6) : KX2_needs l D ca ad [.ref 0, .int (Int32.ofNat i), .int (Int32.ofNat j), .int v] (XW (Int32.ofNat n) (Int32.ofNat vs) be de sz ro co mi T B hd df) (some (.int (B 6 i (4 + j)))) (XW (Int32.ofNat n) (Int32.ofNat vs) be de sz ro co mi T (up B 6 (chX (B 6) i (4 + j) v)) hd df) := by
  match i, hi, j, hj with
  | 0, hi, 0, hj => exact x_needs_0_0 hi hj hn h1 h2
  | 0, hi, 1, hj => exact x_needs_0_1 hi hj hn h1 h2
  | 0, hi, 2, hj => exact x_needs_0_2 hi hj hn h1 h2
  | 0, hi, 3, hj => exact x_needs_0_3 hi hj hn h1 h2
  | 1, hi, 0, hj => exact x_needs_1_0 hi hj hn h1 h2
  | 1, hi, 1, hj => exact x_needs_1_1 hi hj hn h1 h2
  | 1, hi, 2, hj => exact x_needs_1_2 hi hj hn h1 h2
  | 1, hi, 3, hj => exact x_needs_1_3 hi hj hn h1 h2
  | 2, hi, 0, hj => exact x_needs_2_0 hi hj hn h1 h2
  | 2, hi, 1, hj => exact x_needs_2_1 hi hj hn h1 h2
  | 2, hi, 2, hj => exact x_needs_2_2 hi hj hn h1 h2
  | 2, hi, 3, hj => exact x_needs_2_3 hi hj hn h1 h2
  | 3, hi, 0, hj => exact x_needs_3_0 hi hj hn h1 h2
  | 3, hi, 1, hj => exact x_needs_3_1 hi hj hn h1 h2
  | 3, hi, 2, hj => exact x_needs_3_2 hi hj hn h1 h2
  | 3, hi, 3, hj => exact x_needs_3_3 hi hj hn h1 h2
  | i + 4, hi, _, _ => omega
  | _, _, j + 4, hj => omega
set_option maxRecDepth 20000 in
theorem x_by_0_1 {n vs : Nat} {be de : Int64} {sz : Int32} {ro co mi : Nat → Int64} {T : Nat → Nat → Int64} {B : Nat → Nat → Nat → Int32} {hd : Nat → Nat → Int32} {df : Nat → Int32} (hi : 0 < n) (hj : 1 < n) (hn : n ≤ 4) {v : Int32} (h1 : 0 ≤ v) (h2 : v ≤ 6) : KX2_by l D ca ad [.ref 0, .int 0, .int 1, .int v] (XW (Int32.ofNat n) (Int32.ofNat vs) be de sz ro co mi T B hd df) (some (.int (B 6 0 9))) (XW (Int32.ofNat n) (Int32.ofNat vs) be de sz ro co mi T (up B 6 (chX (B 6) 0 9 v)) hd df) := by
  refine PX2_by (Nat.le_of_ble_eq_true rfl) ?_
  intro G hT hC hR
  refine mB hT 2 rfl ?_
  refine hC.1 _ 0 [_] _ _ _ _ _ (c_isMaking_t (i := 0) hi hn) rfl rfl (Nat.le_of_ble_eq_true rfl) rfl ?_
  refine mB hT 3 rfl ?_
  refine hC.2.1 _ 0 [_] _ _ _ _ _ (c_isMaking_t (i := 1) hj hn) rfl rfl (Nat.le_of_ble_eq_true rfl) rfl ?_
  refine mB hT 4 rfl ?_
  refine hC.2.2.1 _ [_, _, _] _ _ _ _ (c_isWithin_t h1 h2) rfl (Nat.le_of_ble_eq_true rfl) rfl ?_
  refine mB hT 11 rfl ?_
  refine hC.2.2.2 _ 10 [_, _, _] _ _ _ _ _ (c_change_0_9 v) rfl rfl (Nat.le_of_ble_eq_true rfl) rfl ?_
  exact hR _ (by decide) _ _ _ rfl rfl
set_option maxRecDepth 20000 in
theorem x_by_0_2 {n vs : Nat} {be de : Int64} {sz : Int32} {ro co mi : Nat → Int64} {T : Nat → Nat → Int64} {B : Nat → Nat → Nat → Int32} {hd : Nat → Nat → Int32} {df : Nat → Int32} (hi : 0 < n) (hj : 2 < n) (hn : n ≤ 4) {v : Int32} (h1 : 0 ≤ v) (h2 : v ≤ 6) : KX2_by l D ca ad [.ref 0, .int 0, .int 2, .int v] (XW (Int32.ofNat n) (Int32.ofNat vs) be de sz ro co mi T B hd df) (some (.int (B 6 0 10))) (XW (Int32.ofNat n) (Int32.ofNat vs) be de sz ro co mi T (up B 6 (chX (B 6) 0 10 v)) hd df) := by
  refine PX2_by (Nat.le_of_ble_eq_true rfl) ?_
  intro G hT hC hR
  refine mB hT 2 rfl ?_
  refine hC.1 _ 0 [_] _ _ _ _ _ (c_isMaking_t (i := 0) hi hn) rfl rfl (Nat.le_of_ble_eq_true rfl) rfl ?_
  refine mB hT 3 rfl ?_
  refine hC.2.1 _ 0 [_] _ _ _ _ _ (c_isMaking_t (i := 2) hj hn) rfl rfl (Nat.le_of_ble_eq_true rfl) rfl ?_
  refine mB hT 4 rfl ?_
  refine hC.2.2.1 _ [_, _, _] _ _ _ _ (c_isWithin_t h1 h2) rfl (Nat.le_of_ble_eq_true rfl) rfl ?_
  refine mB hT 11 rfl ?_
  refine hC.2.2.2 _ 10 [_, _, _] _ _ _ _ _ (c_change_0_10 v) rfl rfl (Nat.le_of_ble_eq_true rfl) rfl ?_
  exact hR _ (by decide) _ _ _ rfl rfl
set_option maxRecDepth 20000 in
theorem x_by_0_3 {n vs : Nat} {be de : Int64} {sz : Int32} {ro co mi : Nat → Int64} {T : Nat → Nat → Int64} {B : Nat → Nat → Nat → Int32} {hd : Nat → Nat → Int32} {df : Nat → Int32} (hi : 0 < n) (hj : 3 < n) (hn : n ≤ 4) {v : Int32} (h1 : 0 ≤ v) (h2 : v ≤ 6) : KX2_by l D ca ad [.ref 0, .int 0, .int 3, .int v] (XW (Int32.ofNat n) (Int32.ofNat vs) be de sz ro co mi T B hd df) (some (.int (B 6 0 11))) (XW (Int32.ofNat n) (Int32.ofNat vs) be de sz ro co mi T (up B 6 (chX (B 6) 0 11 v)) hd df) := by
  refine PX2_by (Nat.le_of_ble_eq_true rfl) ?_
  intro G hT hC hR
  refine mB hT 2 rfl ?_
  refine hC.1 _ 0 [_] _ _ _ _ _ (c_isMaking_t (i := 0) hi hn) rfl rfl (Nat.le_of_ble_eq_true rfl) rfl ?_
  refine mB hT 3 rfl ?_
  refine hC.2.1 _ 0 [_] _ _ _ _ _ (c_isMaking_t (i := 3) hj hn) rfl rfl (Nat.le_of_ble_eq_true rfl) rfl ?_
  refine mB hT 4 rfl ?_
  refine hC.2.2.1 _ [_, _, _] _ _ _ _ (c_isWithin_t h1 h2) rfl (Nat.le_of_ble_eq_true rfl) rfl ?_
  refine mB hT 11 rfl ?_
  refine hC.2.2.2 _ 10 [_, _, _] _ _ _ _ _ (c_change_0_11 v) rfl rfl (Nat.le_of_ble_eq_true rfl) rfl ?_
  exact hR _ (by decide) _ _ _ rfl rfl
set_option maxRecDepth 20000 in
theorem x_by_1_0 {n vs : Nat} {be de : Int64} {sz : Int32} {ro co mi : Nat → Int64} {T : Nat → Nat → Int64} {B : Nat → Nat → Nat → Int32} {hd : Nat → Nat → Int32} {df : Nat → Int32} (hi : 1 < n) (hj : 0 < n) (hn : n ≤ 4) {v : Int32} (h1 : 0 ≤ v) (h2 : v ≤ 6) : KX2_by l D ca ad [.ref 0, .int 1, .int 0, .int v] (XW (Int32.ofNat n) (Int32.ofNat vs) be de sz ro co mi T B hd df) (some (.int (B 6 1 8))) (XW (Int32.ofNat n) (Int32.ofNat vs) be de sz ro co mi T (up B 6 (chX (B 6) 1 8 v)) hd df) := by
  refine PX2_by (Nat.le_of_ble_eq_true rfl) ?_
  intro G hT hC hR
  refine mB hT 2 rfl ?_
  refine hC.1 _ 0 [_] _ _ _ _ _ (c_isMaking_t (i := 1) hi hn) rfl rfl (Nat.le_of_ble_eq_true rfl) rfl ?_
  refine mB hT 3 rfl ?_
  refine hC.2.1 _ 0 [_] _ _ _ _ _ (c_isMaking_t (i := 0) hj hn) rfl rfl (Nat.le_of_ble_eq_true rfl) rfl ?_
  refine mB hT 4 rfl ?_
  refine hC.2.2.1 _ [_, _, _] _ _ _ _ (c_isWithin_t h1 h2) rfl (Nat.le_of_ble_eq_true rfl) rfl ?_
  refine mB hT 11 rfl ?_
  refine hC.2.2.2 _ 10 [_, _, _] _ _ _ _ _ (c_change_1_8 v) rfl rfl (Nat.le_of_ble_eq_true rfl) rfl ?_
  exact hR _ (by decide) _ _ _ rfl rfl
set_option maxRecDepth 20000 in
theorem x_by_1_2 {n vs : Nat} {be de : Int64} {sz : Int32} {ro co mi : Nat → Int64} {T : Nat → Nat → Int64} {B : Nat → Nat → Nat → Int32} {hd : Nat → Nat → Int32} {df : Nat → Int32} (hi : 1 < n) (hj : 2 < n) (hn : n ≤ 4) {v : Int32} (h1 : 0 ≤ v) (h2 : v ≤ 6) : KX2_by l D ca ad [.ref 0, .int 1, .int 2, .int v] (XW (Int32.ofNat n) (Int32.ofNat vs) be de sz ro co mi T B hd df) (some (.int (B 6 1 10))) (XW (Int32.ofNat n) (Int32.ofNat vs) be de sz ro co mi T (up B 6 (chX (B 6) 1 10 v)) hd df) := by
  refine PX2_by (Nat.le_of_ble_eq_true rfl) ?_
  intro G hT hC hR
  refine mB hT 2 rfl ?_
  refine hC.1 _ 0 [_] _ _ _ _ _ (c_isMaking_t (i := 1) hi hn) rfl rfl (Nat.le_of_ble_eq_true rfl) rfl ?_
  refine mB hT 3 rfl ?_
  refine hC.2.1 _ 0 [_] _ _ _ _ _ (c_isMaking_t (i := 2) hj hn) rfl rfl (Nat.le_of_ble_eq_true rfl) rfl ?_
  refine mB hT 4 rfl ?_
  refine hC.2.2.1 _ [_, _, _] _ _ _ _ (c_isWithin_t h1 h2) rfl (Nat.le_of_ble_eq_true rfl) rfl ?_
  refine mB hT 11 rfl ?_
  refine hC.2.2.2 _ 10 [_, _, _] _ _ _ _ _ (c_change_1_10 v) rfl rfl (Nat.le_of_ble_eq_true rfl) rfl ?_
  exact hR _ (by decide) _ _ _ rfl rfl
set_option maxRecDepth 20000 in
theorem x_by_1_3 {n vs : Nat} {be de : Int64} {sz : Int32} {ro co mi : Nat → Int64} {T : Nat → Nat → Int64} {B : Nat → Nat → Nat → Int32} {hd : Nat → Nat → Int32} {df : Nat → Int32} (hi : 1 < n) (hj : 3 < n) (hn : n ≤ 4) {v : Int32} (h1 : 0 ≤ v) (h2 : v ≤ 6) : KX2_by l D ca ad [.ref 0, .int 1, .int 3, .int v] (XW (Int32.ofNat n) (Int32.ofNat vs) be de sz ro co mi T B hd df) (some (.int (B 6 1 11))) (XW (Int32.ofNat n) (Int32.ofNat vs) be de sz ro co mi T (up B 6 (chX (B 6) 1 11 v)) hd df) := by
  refine PX2_by (Nat.le_of_ble_eq_true rfl) ?_
  intro G hT hC hR
  refine mB hT 2 rfl ?_
  refine hC.1 _ 0 [_] _ _ _ _ _ (c_isMaking_t (i := 1) hi hn) rfl rfl (Nat.le_of_ble_eq_true rfl) rfl ?_
  refine mB hT 3 rfl ?_
  refine hC.2.1 _ 0 [_] _ _ _ _ _ (c_isMaking_t (i := 3) hj hn) rfl rfl (Nat.le_of_ble_eq_true rfl) rfl ?_
  refine mB hT 4 rfl ?_
  refine hC.2.2.1 _ [_, _, _] _ _ _ _ (c_isWithin_t h1 h2) rfl (Nat.le_of_ble_eq_true rfl) rfl ?_
  refine mB hT 11 rfl ?_
  refine hC.2.2.2 _ 10 [_, _, _] _ _ _ _ _ (c_change_1_11 v) rfl rfl (Nat.le_of_ble_eq_true rfl) rfl ?_
  exact hR _ (by decide) _ _ _ rfl rfl
set_option maxRecDepth 20000 in
theorem x_by_2_0 {n vs : Nat} {be de : Int64} {sz : Int32} {ro co mi : Nat → Int64} {T : Nat → Nat → Int64} {B : Nat → Nat → Nat → Int32} {hd : Nat → Nat → Int32} {df : Nat → Int32} (hi : 2 < n) (hj : 0 < n) (hn : n ≤ 4) {v : Int32} (h1 : 0 ≤ v) (h2 : v ≤ 6) : KX2_by l D ca ad [.ref 0, .int 2, .int 0, .int v] (XW (Int32.ofNat n) (Int32.ofNat vs) be de sz ro co mi T B hd df) (some (.int (B 6 2 8))) (XW (Int32.ofNat n) (Int32.ofNat vs) be de sz ro co mi T (up B 6 (chX (B 6) 2 8 v)) hd df) := by
  refine PX2_by (Nat.le_of_ble_eq_true rfl) ?_
  intro G hT hC hR
  refine mB hT 2 rfl ?_
  refine hC.1 _ 0 [_] _ _ _ _ _ (c_isMaking_t (i := 2) hi hn) rfl rfl (Nat.le_of_ble_eq_true rfl) rfl ?_
  refine mB hT 3 rfl ?_
  refine hC.2.1 _ 0 [_] _ _ _ _ _ (c_isMaking_t (i := 0) hj hn) rfl rfl (Nat.le_of_ble_eq_true rfl) rfl ?_
  refine mB hT 4 rfl ?_
  refine hC.2.2.1 _ [_, _, _] _ _ _ _ (c_isWithin_t h1 h2) rfl (Nat.le_of_ble_eq_true rfl) rfl ?_
  refine mB hT 11 rfl ?_
  refine hC.2.2.2 _ 10 [_, _, _] _ _ _ _ _ (c_change_2_8 v) rfl rfl (Nat.le_of_ble_eq_true rfl) rfl ?_
  exact hR _ (by decide) _ _ _ rfl rfl
set_option maxRecDepth 20000 in
theorem x_by_2_1 {n vs : Nat} {be de : Int64} {sz : Int32} {ro co mi : Nat → Int64} {T : Nat → Nat → Int64} {B : Nat → Nat → Nat → Int32} {hd : Nat → Nat → Int32} {df : Nat → Int32} (hi : 2 < n) (hj : 1 < n) (hn : n ≤ 4) {v : Int32} (h1 : 0 ≤ v) (h2 : v ≤ 6) : KX2_by l D ca ad [.ref 0, .int 2, .int 1, .int v] (XW (Int32.ofNat n) (Int32.ofNat vs) be de sz ro co mi T B hd df) (some (.int (B 6 2 9))) (XW (Int32.ofNat n) (Int32.ofNat vs) be de sz ro co mi T (up B 6 (chX (B 6) 2 9 v)) hd df) := by
  refine PX2_by (Nat.le_of_ble_eq_true rfl) ?_
  intro G hT hC hR
  refine mB hT 2 rfl ?_
  refine hC.1 _ 0 [_] _ _ _ _ _ (c_isMaking_t (i := 2) hi hn) rfl rfl (Nat.le_of_ble_eq_true rfl) rfl ?_
  refine mB hT 3 rfl ?_
  refine hC.2.1 _ 0 [_] _ _ _ _ _ (c_isMaking_t (i := 1) hj hn) rfl rfl (Nat.le_of_ble_eq_true rfl) rfl ?_
  refine mB hT 4 rfl ?_
  refine hC.2.2.1 _ [_, _, _] _ _ _ _ (c_isWithin_t h1 h2) rfl (Nat.le_of_ble_eq_true rfl) rfl ?_
  refine mB hT 11 rfl ?_
  refine hC.2.2.2 _ 10 [_, _, _] _ _ _ _ _ (c_change_2_9 v) rfl rfl (Nat.le_of_ble_eq_true rfl) rfl ?_
  exact hR _ (by decide) _ _ _ rfl rfl
set_option maxRecDepth 20000 in
theorem x_by_2_3 {n vs : Nat} {be de : Int64} {sz : Int32} {ro co mi : Nat → Int64} {T : Nat → Nat → Int64} {B : Nat → Nat → Nat → Int32} {hd : Nat → Nat → Int32} {df : Nat → Int32} (hi : 2 < n) (hj : 3 < n) (hn : n ≤ 4) {v : Int32} (h1 : 0 ≤ v) (h2 : v ≤ 6) : KX2_by l D ca ad [.ref 0, .int 2, .int 3, .int v] (XW (Int32.ofNat n) (Int32.ofNat vs) be de sz ro co mi T B hd df) (some (.int (B 6 2 11))) (XW (Int32.ofNat n) (Int32.ofNat vs) be de sz ro co mi T (up B 6 (chX (B 6) 2 11 v)) hd df) := by
  refine PX2_by (Nat.le_of_ble_eq_true rfl) ?_
  intro G hT hC hR
  refine mB hT 2 rfl ?_
  refine hC.1 _ 0 [_] _ _ _ _ _ (c_isMaking_t (i := 2) hi hn) rfl rfl (Nat.le_of_ble_eq_true rfl) rfl ?_
  refine mB hT 3 rfl ?_
  refine hC.2.1 _ 0 [_] _ _ _ _ _ (c_isMaking_t (i := 3) hj hn) rfl rfl (Nat.le_of_ble_eq_true rfl) rfl ?_
  refine mB hT 4 rfl ?_
  refine hC.2.2.1 _ [_, _, _] _ _ _ _ (c_isWithin_t h1 h2) rfl (Nat.le_of_ble_eq_true rfl) rfl ?_
  refine mB hT 11 rfl ?_
  refine hC.2.2.2 _ 10 [_, _, _] _ _ _ _ _ (c_change_2_11 v) rfl rfl (Nat.le_of_ble_eq_true rfl) rfl ?_
  exact hR _ (by decide) _ _ _ rfl rfl
set_option maxRecDepth 20000 in
theorem x_by_3_0 {n vs : Nat} {be de : Int64} {sz : Int32} {ro co mi : Nat → Int64} {T : Nat → Nat → Int64} {B : Nat → Nat → Nat → Int32} {hd : Nat → Nat → Int32} {df : Nat → Int32} (hi : 3 < n) (hj : 0 < n) (hn : n ≤ 4) {v : Int32} (h1 : 0 ≤ v) (h2 : v ≤ 6) : KX2_by l D ca ad [.ref 0, .int 3, .int 0, .int v] (XW (Int32.ofNat n) (Int32.ofNat vs) be de sz ro co mi T B hd df) (some (.int (B 6 3 8))) (XW (Int32.ofNat n) (Int32.ofNat vs) be de sz ro co mi T (up B 6 (chX (B 6) 3 8 v)) hd df) := by
  refine PX2_by (Nat.le_of_ble_eq_true rfl) ?_
  intro G hT hC hR
  refine mB hT 2 rfl ?_
  refine hC.1 _ 0 [_] _ _ _ _ _ (c_isMaking_t (i := 3) hi hn) rfl rfl (Nat.le_of_ble_eq_true rfl) rfl ?_
  refine mB hT 3 rfl ?_
  refine hC.2.1 _ 0 [_] _ _ _ _ _ (c_isMaking_t (i := 0) hj hn) rfl rfl (Nat.le_of_ble_eq_true rfl) rfl ?_
  refine mB hT 4 rfl ?_
  refine hC.2.2.1 _ [_, _, _] _ _ _ _ (c_isWithin_t h1 h2) rfl (Nat.le_of_ble_eq_true rfl) rfl ?_
  refine mB hT 11 rfl ?_
  refine hC.2.2.2 _ 10 [_, _, _] _ _ _ _ _ (c_change_3_8 v) rfl rfl (Nat.le_of_ble_eq_true rfl) rfl ?_
  exact hR _ (by decide) _ _ _ rfl rfl
set_option maxRecDepth 20000 in
theorem x_by_3_1 {n vs : Nat} {be de : Int64} {sz : Int32} {ro co mi : Nat → Int64} {T : Nat → Nat → Int64} {B : Nat → Nat → Nat → Int32} {hd : Nat → Nat → Int32} {df : Nat → Int32} (hi : 3 < n) (hj : 1 < n) (hn : n ≤ 4) {v : Int32} (h1 : 0 ≤ v) (h2 : v ≤ 6) : KX2_by l D ca ad [.ref 0, .int 3, .int 1, .int v] (XW (Int32.ofNat n) (Int32.ofNat vs) be de sz ro co mi T B hd df) (some (.int (B 6 3 9))) (XW (Int32.ofNat n) (Int32.ofNat vs) be de sz ro co mi T (up B 6 (chX (B 6) 3 9 v)) hd df) := by
  refine PX2_by (Nat.le_of_ble_eq_true rfl) ?_
  intro G hT hC hR
  refine mB hT 2 rfl ?_
  refine hC.1 _ 0 [_] _ _ _ _ _ (c_isMaking_t (i := 3) hi hn) rfl rfl (Nat.le_of_ble_eq_true rfl) rfl ?_
  refine mB hT 3 rfl ?_
  refine hC.2.1 _ 0 [_] _ _ _ _ _ (c_isMaking_t (i := 1) hj hn) rfl rfl (Nat.le_of_ble_eq_true rfl) rfl ?_
  refine mB hT 4 rfl ?_
  refine hC.2.2.1 _ [_, _, _] _ _ _ _ (c_isWithin_t h1 h2) rfl (Nat.le_of_ble_eq_true rfl) rfl ?_
  refine mB hT 11 rfl ?_
  refine hC.2.2.2 _ 10 [_, _, _] _ _ _ _ _ (c_change_3_9 v) rfl rfl (Nat.le_of_ble_eq_true rfl) rfl ?_
  exact hR _ (by decide) _ _ _ rfl rfl
set_option maxRecDepth 20000 in
theorem x_by_3_2 {n vs : Nat} {be de : Int64} {sz : Int32} {ro co mi : Nat → Int64} {T : Nat → Nat → Int64} {B : Nat → Nat → Nat → Int32} {hd : Nat → Nat → Int32} {df : Nat → Int32} (hi : 3 < n) (hj : 2 < n) (hn : n ≤ 4) {v : Int32} (h1 : 0 ≤ v) (h2 : v ≤ 6) : KX2_by l D ca ad [.ref 0, .int 3, .int 2, .int v] (XW (Int32.ofNat n) (Int32.ofNat vs) be de sz ro co mi T B hd df) (some (.int (B 6 3 10))) (XW (Int32.ofNat n) (Int32.ofNat vs) be de sz ro co mi T (up B 6 (chX (B 6) 3 10 v)) hd df) := by
  refine PX2_by (Nat.le_of_ble_eq_true rfl) ?_
  intro G hT hC hR
  refine mB hT 2 rfl ?_
  refine hC.1 _ 0 [_] _ _ _ _ _ (c_isMaking_t (i := 3) hi hn) rfl rfl (Nat.le_of_ble_eq_true rfl) rfl ?_
  refine mB hT 3 rfl ?_
  refine hC.2.1 _ 0 [_] _ _ _ _ _ (c_isMaking_t (i := 2) hj hn) rfl rfl (Nat.le_of_ble_eq_true rfl) rfl ?_
  refine mB hT 4 rfl ?_
  refine hC.2.2.1 _ [_, _, _] _ _ _ _ (c_isWithin_t h1 h2) rfl (Nat.le_of_ble_eq_true rfl) rfl ?_
  refine mB hT 11 rfl ?_
  refine hC.2.2.2 _ 10 [_, _, _] _ _ _ _ _ (c_change_3_10 v) rfl rfl (Nat.le_of_ble_eq_true rfl) rfl ?_
  exact hR _ (by decide) _ _ _ rfl rfl
theorem x_by {n vs : Nat} {be de : Int64} {sz : Int32} {ro co mi : Nat → Int64} {T : Nat → Nat → Int64} {B : Nat → Nat → Nat → Int32} {hd : Nat → Nat → Int32} {df : Nat → Int32} {i j : Nat} (hi : i < n) (hj : j < n) (hn : n ≤ 4) (hne : i ≠ j) {v : Int32} (h1 : 0 ≤ v) (h2 : v ≤ 6) : KX2_by l D ca ad [.ref 0, .int (Int32.ofNat i), .int (Int32.ofNat j), .int v] (XW (Int32.ofNat n) (Int32.ofNat vs) be de sz ro co mi T B hd df) (some (.int (B 6 i (8 + j)))) (XW (Int32.ofNat n) (Int32.ofNat vs) be de sz ro co mi T (up B 6 (chX (B 6) i (8 + j) v)) hd df) := by
  match i, hi, j, hj, hne with
  | 0, _, 0, _, hne => exact absurd rfl hne
  | 0, hi, 1, hj, _ => exact x_by_0_1 hi hj hn h1 h2
  | 0, hi, 2, hj, _ => exact x_by_0_2 hi hj hn h1 h2
  | 0, hi, 3, hj, _ => exact x_by_0_3 hi hj hn h1 h2
  | 1, hi, 0, hj, _ => exact x_by_1_0 hi hj hn h1 h2
  | 1, _, 1, _, hne => exact absurd rfl hne
  | 1, hi, 2, hj, _ => exact x_by_1_2 hi hj hn h1 h2
  | 1, hi, 3, hj, _ => exact x_by_1_3 hi hj hn h1 h2
  | 2, hi, 0, hj, _ => exact x_by_2_0 hi hj hn h1 h2
  | 2, hi, 1, hj, _ => exact x_by_2_1 hi hj hn h1 h2
  | 2, _, 2, _, hne => exact absurd rfl hne
  | 2, hi, 3, hj, _ => exact x_by_2_3 hi hj hn h1 h2
  | 3, hi, 0, hj, _ => exact x_by_3_0 hi hj hn h1 h2
  | 3, hi, 1, hj, _ => exact x_by_3_1 hi hj hn h1 h2
  | 3, hi, 2, hj, _ => exact x_by_3_2 hi hj hn h1 h2
  | 3, _, 3, _, hne => exact absurd rfl hne
  | i + 4, hi, _, _, _ => omega
  | _, _, j + 4, hj, _ => omega
set_option maxRecDepth 20000 in
theorem x_emits_0_0 {n vs : Nat} {be de : Int64} {sz : Int32} {ro co mi : Nat → Int64} {T : Nat → Nat → Int64} {B : Nat → Nat → Nat → Int32} {hd : Nat → Nat → Int32} {df : Nat → Int32} (hi : 0 < n) (hn : n ≤ 4) {a t g : Int32} (h1 : 0 ≤ a) (h2 : a ≤ 100) (h3 : 0 ≤ g) (h4 : g ≤ 100) (h5 : a ≤ t) (h6 : t ≤ g) : KX2_emits l D ca ad [.ref 0, .int 0, .int 0, .int a, .int t, .int g] (XW (Int32.ofNat n) (Int32.ofNat vs) be de sz ro co mi T B hd df) (some (.int 1)) (XW (Int32.ofNat n) (Int32.ofNat vs) be de sz ro co mi T (up B 6 (chX (chX (chX (B 6) 0 12 a) 0 15 t) 0 18 g)) hd df) := by
  obtain ⟨R1, e1⟩ : ∃ z, z = chX (B 6) 0 12 a := ⟨_, rfl⟩
  obtain ⟨R2, e2⟩ : ∃ z, z = chX R1 0 15 t := ⟨_, rfl⟩
  obtain ⟨R3, e3⟩ : ∃ z, z = chX R2 0 18 g := ⟨_, rfl⟩
  rw [← e1, ← e2, ← e3]
  refine PX2_emits (Nat.le_of_ble_eq_true rfl) ?_
  intro G hT hC hR
  refine mB hT 2 rfl ?_
  refine hC.1 _ 0 [_] _ _ _ _ _ (c_isMaking_t (i := 0) hi hn) rfl rfl (Nat.le_of_ble_eq_true rfl) rfl ?_
  refine mB hT 2 rfl ?_
  refine hC.2.1 _ [_] _ _ _ _ (c_isStuff_t (i := 0) (by decide)) rfl (Nat.le_of_ble_eq_true rfl) rfl ?_
  refine mB hT 4 rfl ?_
  refine hC.2.2.1 _ [_, _, _] _ _ _ _ (c_isWithin_t h1 h2) rfl (Nat.le_of_ble_eq_true rfl) rfl ?_
  refine mB hT 4 rfl ?_
  refine hC.2.2.2.1 _ [_, _, _] _ _ _ _ (c_isWithin_t h3 h4) rfl (Nat.le_of_ble_eq_true rfl) rfl ?_
  refine mB hT 4 rfl ?_
  refine hC.2.2.2.2.1 _ [_, _, _] _ _ _ _ (c_isWithin_t h5 h6) rfl (Nat.le_of_ble_eq_true rfl) rfl ?_
  refine mB hT 6 rfl ?_
  refine hC.2.2.2.2.2.1 _ [_, _] _ _ _ _ (c_place_0_0) rfl (Nat.le_of_ble_eq_true rfl) rfl ?_
  refine mB hT 1 rfl ?_
  refine hC.2.2.2.2.2.2.1 _ 10 [_, _, _] _ _ _ _ _ (show KX0_change l D ca ad _ _ (some (.int ((B 6) 0 12))) (XW (Int32.ofNat n) (Int32.ofNat vs) be de sz ro co mi T (up B 6 R1) hd df) from (by rw [e1]; exact c_change_0_12 a)) rfl rfl (Nat.le_of_ble_eq_true rfl) rfl ?_
  refine mB hT 6 rfl ?_
  refine hC.2.2.2.2.2.2.2.1 _ [_, _] _ _ _ _ (c_place_0_1) rfl (Nat.le_of_ble_eq_true rfl) rfl ?_
  refine mB hT 1 rfl ?_
  refine hC.2.2.2.2.2.2.2.2.1 _ 10 [_, _, _] _ _ _ _ _ (show KX0_change l D ca ad _ _ (some (.int (R1 0 15))) (XW (Int32.ofNat n) (Int32.ofNat vs) be de sz ro co mi T (up B 6 R2) hd df) from (by rw [e2]; exact c_changeR_0_15 t)) rfl rfl (Nat.le_of_ble_eq_true rfl) rfl ?_
  refine mB hT 6 rfl ?_
  refine hC.2.2.2.2.2.2.2.2.2.1 _ [_, _] _ _ _ _ (c_place_0_2) rfl (Nat.le_of_ble_eq_true rfl) rfl ?_
  refine mB hT 1 rfl ?_
  refine hC.2.2.2.2.2.2.2.2.2.2 _ 10 [_, _, _] _ _ _ _ _ (show KX0_change l D ca ad _ _ (some (.int (R2 0 18))) (XW (Int32.ofNat n) (Int32.ofNat vs) be de sz ro co mi T (up B 6 R3) hd df) from (by rw [e3]; exact c_changeR_0_18 g)) rfl rfl (Nat.le_of_ble_eq_true rfl) rfl ?_
  refine mB hT 2 rfl ?_
  exact hR _ (by decide) _ _ _ rfl rfl
set_option maxRecDepth 20000 in
theorem x_emits_0_1 {n vs : Nat} {be de : Int64} {sz : Int32} {ro co mi : Nat → Int64} {T : Nat → Nat → Int64} {B : Nat → Nat → Nat → Int32} {hd : Nat → Nat → Int32} {df : Nat → Int32} (hi : 0 < n) (hn : n ≤ 4) {a t g : Int32} (h1 : 0 ≤ a) (h2 : a ≤ 100) (h3 : 0 ≤ g) (h4 : g ≤ 100) (h5 : a ≤ t) (h6 : t ≤ g) : KX2_emits l D ca ad [.ref 0, .int 0, .int 1, .int a, .int t, .int g] (XW (Int32.ofNat n) (Int32.ofNat vs) be de sz ro co mi T B hd df) (some (.int 1)) (XW (Int32.ofNat n) (Int32.ofNat vs) be de sz ro co mi T (up B 6 (chX (chX (chX (B 6) 0 13 a) 0 16 t) 0 19 g)) hd df) := by
  obtain ⟨R1, e1⟩ : ∃ z, z = chX (B 6) 0 13 a := ⟨_, rfl⟩
  obtain ⟨R2, e2⟩ : ∃ z, z = chX R1 0 16 t := ⟨_, rfl⟩
  obtain ⟨R3, e3⟩ : ∃ z, z = chX R2 0 19 g := ⟨_, rfl⟩
  rw [← e1, ← e2, ← e3]
  refine PX2_emits (Nat.le_of_ble_eq_true rfl) ?_
  intro G hT hC hR
  refine mB hT 2 rfl ?_
  refine hC.1 _ 0 [_] _ _ _ _ _ (c_isMaking_t (i := 0) hi hn) rfl rfl (Nat.le_of_ble_eq_true rfl) rfl ?_
  refine mB hT 2 rfl ?_
  refine hC.2.1 _ [_] _ _ _ _ (c_isStuff_t (i := 1) (by decide)) rfl (Nat.le_of_ble_eq_true rfl) rfl ?_
  refine mB hT 4 rfl ?_
  refine hC.2.2.1 _ [_, _, _] _ _ _ _ (c_isWithin_t h1 h2) rfl (Nat.le_of_ble_eq_true rfl) rfl ?_
  refine mB hT 4 rfl ?_
  refine hC.2.2.2.1 _ [_, _, _] _ _ _ _ (c_isWithin_t h3 h4) rfl (Nat.le_of_ble_eq_true rfl) rfl ?_
  refine mB hT 4 rfl ?_
  refine hC.2.2.2.2.1 _ [_, _, _] _ _ _ _ (c_isWithin_t h5 h6) rfl (Nat.le_of_ble_eq_true rfl) rfl ?_
  refine mB hT 6 rfl ?_
  refine hC.2.2.2.2.2.1 _ [_, _] _ _ _ _ (c_place_1_0) rfl (Nat.le_of_ble_eq_true rfl) rfl ?_
  refine mB hT 1 rfl ?_
  refine hC.2.2.2.2.2.2.1 _ 10 [_, _, _] _ _ _ _ _ (show KX0_change l D ca ad _ _ (some (.int ((B 6) 0 13))) (XW (Int32.ofNat n) (Int32.ofNat vs) be de sz ro co mi T (up B 6 R1) hd df) from (by rw [e1]; exact c_change_0_13 a)) rfl rfl (Nat.le_of_ble_eq_true rfl) rfl ?_
  refine mB hT 6 rfl ?_
  refine hC.2.2.2.2.2.2.2.1 _ [_, _] _ _ _ _ (c_place_1_1) rfl (Nat.le_of_ble_eq_true rfl) rfl ?_
  refine mB hT 1 rfl ?_
  refine hC.2.2.2.2.2.2.2.2.1 _ 10 [_, _, _] _ _ _ _ _ (show KX0_change l D ca ad _ _ (some (.int (R1 0 16))) (XW (Int32.ofNat n) (Int32.ofNat vs) be de sz ro co mi T (up B 6 R2) hd df) from (by rw [e2]; exact c_changeR_0_16 t)) rfl rfl (Nat.le_of_ble_eq_true rfl) rfl ?_
  refine mB hT 6 rfl ?_
  refine hC.2.2.2.2.2.2.2.2.2.1 _ [_, _] _ _ _ _ (c_place_1_2) rfl (Nat.le_of_ble_eq_true rfl) rfl ?_
  refine mB hT 1 rfl ?_
  refine hC.2.2.2.2.2.2.2.2.2.2 _ 10 [_, _, _] _ _ _ _ _ (show KX0_change l D ca ad _ _ (some (.int (R2 0 19))) (XW (Int32.ofNat n) (Int32.ofNat vs) be de sz ro co mi T (up B 6 R3) hd df) from (by rw [e3]; exact c_changeR_0_19 g)) rfl rfl (Nat.le_of_ble_eq_true rfl) rfl ?_
  refine mB hT 2 rfl ?_
  exact hR _ (by decide) _ _ _ rfl rfl
set_option maxRecDepth 20000 in
theorem x_emits_0_2 {n vs : Nat} {be de : Int64} {sz : Int32} {ro co mi : Nat → Int64} {T : Nat → Nat → Int64} {B : Nat → Nat → Nat → Int32} {hd : Nat → Nat → Int32} {df : Nat → Int32} (hi : 0 < n) (hn : n ≤ 4) {a t g : Int32} (h1 : 0 ≤ a) (h2 : a ≤ 100) (h3 : 0 ≤ g) (h4 : g ≤ 100) (h5 : a ≤ t) (h6 : t ≤ g) : KX2_emits l D ca ad [.ref 0, .int 0, .int 2, .int a, .int t, .int g] (XW (Int32.ofNat n) (Int32.ofNat vs) be de sz ro co mi T B hd df) (some (.int 1)) (XW (Int32.ofNat n) (Int32.ofNat vs) be de sz ro co mi T (up B 6 (chX (chX (chX (B 6) 0 14 a) 0 17 t) 0 20 g)) hd df) := by
  obtain ⟨R1, e1⟩ : ∃ z, z = chX (B 6) 0 14 a := ⟨_, rfl⟩
  obtain ⟨R2, e2⟩ : ∃ z, z = chX R1 0 17 t := ⟨_, rfl⟩
  obtain ⟨R3, e3⟩ : ∃ z, z = chX R2 0 20 g := ⟨_, rfl⟩
  rw [← e1, ← e2, ← e3]
  refine PX2_emits (Nat.le_of_ble_eq_true rfl) ?_
  intro G hT hC hR
  refine mB hT 2 rfl ?_
  refine hC.1 _ 0 [_] _ _ _ _ _ (c_isMaking_t (i := 0) hi hn) rfl rfl (Nat.le_of_ble_eq_true rfl) rfl ?_
  refine mB hT 2 rfl ?_
  refine hC.2.1 _ [_] _ _ _ _ (c_isStuff_t (i := 2) (by decide)) rfl (Nat.le_of_ble_eq_true rfl) rfl ?_
  refine mB hT 4 rfl ?_
  refine hC.2.2.1 _ [_, _, _] _ _ _ _ (c_isWithin_t h1 h2) rfl (Nat.le_of_ble_eq_true rfl) rfl ?_
  refine mB hT 4 rfl ?_
  refine hC.2.2.2.1 _ [_, _, _] _ _ _ _ (c_isWithin_t h3 h4) rfl (Nat.le_of_ble_eq_true rfl) rfl ?_
  refine mB hT 4 rfl ?_
  refine hC.2.2.2.2.1 _ [_, _, _] _ _ _ _ (c_isWithin_t h5 h6) rfl (Nat.le_of_ble_eq_true rfl) rfl ?_
  refine mB hT 6 rfl ?_
  refine hC.2.2.2.2.2.1 _ [_, _] _ _ _ _ (c_place_2_0) rfl (Nat.le_of_ble_eq_true rfl) rfl ?_
  refine mB hT 1 rfl ?_
  refine hC.2.2.2.2.2.2.1 _ 10 [_, _, _] _ _ _ _ _ (show KX0_change l D ca ad _ _ (some (.int ((B 6) 0 14))) (XW (Int32.ofNat n) (Int32.ofNat vs) be de sz ro co mi T (up B 6 R1) hd df) from (by rw [e1]; exact c_change_0_14 a)) rfl rfl (Nat.le_of_ble_eq_true rfl) rfl ?_
  refine mB hT 6 rfl ?_
  refine hC.2.2.2.2.2.2.2.1 _ [_, _] _ _ _ _ (c_place_2_1) rfl (Nat.le_of_ble_eq_true rfl) rfl ?_
  refine mB hT 1 rfl ?_
  refine hC.2.2.2.2.2.2.2.2.1 _ 10 [_, _, _] _ _ _ _ _ (show KX0_change l D ca ad _ _ (some (.int (R1 0 17))) (XW (Int32.ofNat n) (Int32.ofNat vs) be de sz ro co mi T (up B 6 R2) hd df) from (by rw [e2]; exact c_changeR_0_17 t)) rfl rfl (Nat.le_of_ble_eq_true rfl) rfl ?_
  refine mB hT 6 rfl ?_
  refine hC.2.2.2.2.2.2.2.2.2.1 _ [_, _] _ _ _ _ (c_place_2_2) rfl (Nat.le_of_ble_eq_true rfl) rfl ?_
  refine mB hT 1 rfl ?_
  refine hC.2.2.2.2.2.2.2.2.2.2 _ 10 [_, _, _] _ _ _ _ _ (show KX0_change l D ca ad _ _ (some (.int (R2 0 20))) (XW (Int32.ofNat n) (Int32.ofNat vs) be de sz ro co mi T (up B 6 R3) hd df) from (by rw [e3]; exact c_changeR_0_20 g)) rfl rfl (Nat.le_of_ble_eq_true rfl) rfl ?_
  refine mB hT 2 rfl ?_
  exact hR _ (by decide) _ _ _ rfl rfl
set_option maxRecDepth 20000 in
theorem x_emits_1_0 {n vs : Nat} {be de : Int64} {sz : Int32} {ro co mi : Nat → Int64} {T : Nat → Nat → Int64} {B : Nat → Nat → Nat → Int32} {hd : Nat → Nat → Int32} {df : Nat → Int32} (hi : 1 < n) (hn : n ≤ 4) {a t g : Int32} (h1 : 0 ≤ a) (h2 : a ≤ 100) (h3 : 0 ≤ g) (h4 : g ≤ 100) (h5 : a ≤ t) (h6 : t ≤ g) : KX2_emits l D ca ad [.ref 0, .int 1, .int 0, .int a, .int t, .int g] (XW (Int32.ofNat n) (Int32.ofNat vs) be de sz ro co mi T B hd df) (some (.int 1)) (XW (Int32.ofNat n) (Int32.ofNat vs) be de sz ro co mi T (up B 6 (chX (chX (chX (B 6) 1 12 a) 1 15 t) 1 18 g)) hd df) := by
  obtain ⟨R1, e1⟩ : ∃ z, z = chX (B 6) 1 12 a := ⟨_, rfl⟩
  obtain ⟨R2, e2⟩ : ∃ z, z = chX R1 1 15 t := ⟨_, rfl⟩
  obtain ⟨R3, e3⟩ : ∃ z, z = chX R2 1 18 g := ⟨_, rfl⟩
  rw [← e1, ← e2, ← e3]
  refine PX2_emits (Nat.le_of_ble_eq_true rfl) ?_
  intro G hT hC hR
  refine mB hT 2 rfl ?_
  refine hC.1 _ 0 [_] _ _ _ _ _ (c_isMaking_t (i := 1) hi hn) rfl rfl (Nat.le_of_ble_eq_true rfl) rfl ?_
  refine mB hT 2 rfl ?_
  refine hC.2.1 _ [_] _ _ _ _ (c_isStuff_t (i := 0) (by decide)) rfl (Nat.le_of_ble_eq_true rfl) rfl ?_
  refine mB hT 4 rfl ?_
  refine hC.2.2.1 _ [_, _, _] _ _ _ _ (c_isWithin_t h1 h2) rfl (Nat.le_of_ble_eq_true rfl) rfl ?_
  refine mB hT 4 rfl ?_
  refine hC.2.2.2.1 _ [_, _, _] _ _ _ _ (c_isWithin_t h3 h4) rfl (Nat.le_of_ble_eq_true rfl) rfl ?_
  refine mB hT 4 rfl ?_
  refine hC.2.2.2.2.1 _ [_, _, _] _ _ _ _ (c_isWithin_t h5 h6) rfl (Nat.le_of_ble_eq_true rfl) rfl ?_
  refine mB hT 6 rfl ?_
  refine hC.2.2.2.2.2.1 _ [_, _] _ _ _ _ (c_place_0_0) rfl (Nat.le_of_ble_eq_true rfl) rfl ?_
  refine mB hT 1 rfl ?_
  refine hC.2.2.2.2.2.2.1 _ 10 [_, _, _] _ _ _ _ _ (show KX0_change l D ca ad _ _ (some (.int ((B 6) 1 12))) (XW (Int32.ofNat n) (Int32.ofNat vs) be de sz ro co mi T (up B 6 R1) hd df) from (by rw [e1]; exact c_change_1_12 a)) rfl rfl (Nat.le_of_ble_eq_true rfl) rfl ?_
  refine mB hT 6 rfl ?_
  refine hC.2.2.2.2.2.2.2.1 _ [_, _] _ _ _ _ (c_place_0_1) rfl (Nat.le_of_ble_eq_true rfl) rfl ?_
  refine mB hT 1 rfl ?_
  refine hC.2.2.2.2.2.2.2.2.1 _ 10 [_, _, _] _ _ _ _ _ (show KX0_change l D ca ad _ _ (some (.int (R1 1 15))) (XW (Int32.ofNat n) (Int32.ofNat vs) be de sz ro co mi T (up B 6 R2) hd df) from (by rw [e2]; exact c_changeR_1_15 t)) rfl rfl (Nat.le_of_ble_eq_true rfl) rfl ?_
  refine mB hT 6 rfl ?_
  refine hC.2.2.2.2.2.2.2.2.2.1 _ [_, _] _ _ _ _ (c_place_0_2) rfl (Nat.le_of_ble_eq_true rfl) rfl ?_
  refine mB hT 1 rfl ?_
  refine hC.2.2.2.2.2.2.2.2.2.2 _ 10 [_, _, _] _ _ _ _ _ (show KX0_change l D ca ad _ _ (some (.int (R2 1 18))) (XW (Int32.ofNat n) (Int32.ofNat vs) be de sz ro co mi T (up B 6 R3) hd df) from (by rw [e3]; exact c_changeR_1_18 g)) rfl rfl (Nat.le_of_ble_eq_true rfl) rfl ?_
  refine mB hT 2 rfl ?_
  exact hR _ (by decide) _ _ _ rfl rfl
set_option maxRecDepth 20000 in
theorem x_emits_1_1 {n vs : Nat} {be de : Int64} {sz : Int32} {ro co mi : Nat → Int64} {T : Nat → Nat → Int64} {B : Nat → Nat → Nat → Int32} {hd : Nat → Nat → Int32} {df : Nat → Int32} (hi : 1 < n) (hn : n ≤ 4) {a t g : Int32} (h1 : 0 ≤ a) (h2 : a ≤ 100) (h3 : 0 ≤ g) (h4 : g ≤ 100) (h5 : a ≤ t) (h6 : t ≤ g) : KX2_emits l D ca ad [.ref 0, .int 1, .int 1, .int a, .int t, .int g] (XW (Int32.ofNat n) (Int32.ofNat vs) be de sz ro co mi T B hd df) (some (.int 1)) (XW (Int32.ofNat n) (Int32.ofNat vs) be de sz ro co mi T (up B 6 (chX (chX (chX (B 6) 1 13 a) 1 16 t) 1 19 g)) hd df) := by
  obtain ⟨R1, e1⟩ : ∃ z, z = chX (B 6) 1 13 a := ⟨_, rfl⟩
  obtain ⟨R2, e2⟩ : ∃ z, z = chX R1 1 16 t := ⟨_, rfl⟩
  obtain ⟨R3, e3⟩ : ∃ z, z = chX R2 1 19 g := ⟨_, rfl⟩
  rw [← e1, ← e2, ← e3]
  refine PX2_emits (Nat.le_of_ble_eq_true rfl) ?_
  intro G hT hC hR
  refine mB hT 2 rfl ?_
  refine hC.1 _ 0 [_] _ _ _ _ _ (c_isMaking_t (i := 1) hi hn) rfl rfl (Nat.le_of_ble_eq_true rfl) rfl ?_
  refine mB hT 2 rfl ?_
  refine hC.2.1 _ [_] _ _ _ _ (c_isStuff_t (i := 1) (by decide)) rfl (Nat.le_of_ble_eq_true rfl) rfl ?_
  refine mB hT 4 rfl ?_
  refine hC.2.2.1 _ [_, _, _] _ _ _ _ (c_isWithin_t h1 h2) rfl (Nat.le_of_ble_eq_true rfl) rfl ?_
  refine mB hT 4 rfl ?_
  refine hC.2.2.2.1 _ [_, _, _] _ _ _ _ (c_isWithin_t h3 h4) rfl (Nat.le_of_ble_eq_true rfl) rfl ?_
  refine mB hT 4 rfl ?_
  refine hC.2.2.2.2.1 _ [_, _, _] _ _ _ _ (c_isWithin_t h5 h6) rfl (Nat.le_of_ble_eq_true rfl) rfl ?_
  refine mB hT 6 rfl ?_
  refine hC.2.2.2.2.2.1 _ [_, _] _ _ _ _ (c_place_1_0) rfl (Nat.le_of_ble_eq_true rfl) rfl ?_
  refine mB hT 1 rfl ?_
  refine hC.2.2.2.2.2.2.1 _ 10 [_, _, _] _ _ _ _ _ (show KX0_change l D ca ad _ _ (some (.int ((B 6) 1 13))) (XW (Int32.ofNat n) (Int32.ofNat vs) be de sz ro co mi T (up B 6 R1) hd df) from (by rw [e1]; exact c_change_1_13 a)) rfl rfl (Nat.le_of_ble_eq_true rfl) rfl ?_
  refine mB hT 6 rfl ?_
  refine hC.2.2.2.2.2.2.2.1 _ [_, _] _ _ _ _ (c_place_1_1) rfl (Nat.le_of_ble_eq_true rfl) rfl ?_
  refine mB hT 1 rfl ?_
  refine hC.2.2.2.2.2.2.2.2.1 _ 10 [_, _, _] _ _ _ _ _ (show KX0_change l D ca ad _ _ (some (.int (R1 1 16))) (XW (Int32.ofNat n) (Int32.ofNat vs) be de sz ro co mi T (up B 6 R2) hd df) from (by rw [e2]; exact c_changeR_1_16 t)) rfl rfl (Nat.le_of_ble_eq_true rfl) rfl ?_
  refine mB hT 6 rfl ?_
  refine hC.2.2.2.2.2.2.2.2.2.1 _ [_, _] _ _ _ _ (c_place_1_2) rfl (Nat.le_of_ble_eq_true rfl) rfl ?_
  refine mB hT 1 rfl ?_
  refine hC.2.2.2.2.2.2.2.2.2.2 _ 10 [_, _, _] _ _ _ _ _ (show KX0_change l D ca ad _ _ (some (.int (R2 1 19))) (XW (Int32.ofNat n) (Int32.ofNat vs) be de sz ro co mi T (up B 6 R3) hd df) from (by rw [e3]; exact c_changeR_1_19 g)) rfl rfl (Nat.le_of_ble_eq_true rfl) rfl ?_
  refine mB hT 2 rfl ?_
  exact hR _ (by decide) _ _ _ rfl rfl
set_option maxRecDepth 20000 in
theorem x_emits_1_2 {n vs : Nat} {be de : Int64} {sz : Int32} {ro co mi : Nat → Int64} {T : Nat → Nat → Int64} {B : Nat → Nat → Nat → Int32} {hd : Nat → Nat → Int32} {df : Nat → Int32} (hi : 1 < n) (hn : n ≤ 4) {a t g : Int32} (h1 : 0 ≤ a) (h2 : a ≤ 100) (h3 : 0 ≤ g) (h4 : g ≤ 100) (h5 : a ≤ t) (h6 : t ≤ g) : KX2_emits l D ca ad [.ref 0, .int 1, .int 2, .int a, .int t, .int g] (XW (Int32.ofNat n) (Int32.ofNat vs) be de sz ro co mi T B hd df) (some (.int 1)) (XW (Int32.ofNat n) (Int32.ofNat vs) be de sz ro co mi T (up B 6 (chX (chX (chX (B 6) 1 14 a) 1 17 t) 1 20 g)) hd df) := by
  obtain ⟨R1, e1⟩ : ∃ z, z = chX (B 6) 1 14 a := ⟨_, rfl⟩
  obtain ⟨R2, e2⟩ : ∃ z, z = chX R1 1 17 t := ⟨_, rfl⟩
  obtain ⟨R3, e3⟩ : ∃ z, z = chX R2 1 20 g := ⟨_, rfl⟩
  rw [← e1, ← e2, ← e3]
  refine PX2_emits (Nat.le_of_ble_eq_true rfl) ?_
  intro G hT hC hR
  refine mB hT 2 rfl ?_
  refine hC.1 _ 0 [_] _ _ _ _ _ (c_isMaking_t (i := 1) hi hn) rfl rfl (Nat.le_of_ble_eq_true rfl) rfl ?_
  refine mB hT 2 rfl ?_
  refine hC.2.1 _ [_] _ _ _ _ (c_isStuff_t (i := 2) (by decide)) rfl (Nat.le_of_ble_eq_true rfl) rfl ?_
  refine mB hT 4 rfl ?_
  refine hC.2.2.1 _ [_, _, _] _ _ _ _ (c_isWithin_t h1 h2) rfl (Nat.le_of_ble_eq_true rfl) rfl ?_
  refine mB hT 4 rfl ?_
  refine hC.2.2.2.1 _ [_, _, _] _ _ _ _ (c_isWithin_t h3 h4) rfl (Nat.le_of_ble_eq_true rfl) rfl ?_
  refine mB hT 4 rfl ?_
  refine hC.2.2.2.2.1 _ [_, _, _] _ _ _ _ (c_isWithin_t h5 h6) rfl (Nat.le_of_ble_eq_true rfl) rfl ?_
  refine mB hT 6 rfl ?_
  refine hC.2.2.2.2.2.1 _ [_, _] _ _ _ _ (c_place_2_0) rfl (Nat.le_of_ble_eq_true rfl) rfl ?_
  refine mB hT 1 rfl ?_
  refine hC.2.2.2.2.2.2.1 _ 10 [_, _, _] _ _ _ _ _ (show KX0_change l D ca ad _ _ (some (.int ((B 6) 1 14))) (XW (Int32.ofNat n) (Int32.ofNat vs) be de sz ro co mi T (up B 6 R1) hd df) from (by rw [e1]; exact c_change_1_14 a)) rfl rfl (Nat.le_of_ble_eq_true rfl) rfl ?_
  refine mB hT 6 rfl ?_
  refine hC.2.2.2.2.2.2.2.1 _ [_, _] _ _ _ _ (c_place_2_1) rfl (Nat.le_of_ble_eq_true rfl) rfl ?_
  refine mB hT 1 rfl ?_
  refine hC.2.2.2.2.2.2.2.2.1 _ 10 [_, _, _] _ _ _ _ _ (show KX0_change l D ca ad _ _ (some (.int (R1 1 17))) (XW (Int32.ofNat n) (Int32.ofNat vs) be de sz ro co mi T (up B 6 R2) hd df) from (by rw [e2]; exact c_changeR_1_17 t)) rfl rfl (Nat.le_of_ble_eq_true rfl) rfl ?_
  refine mB hT 6 rfl ?_
  refine hC.2.2.2.2.2.2.2.2.2.1 _ [_, _] _ _ _ _ (c_place_2_2) rfl (Nat.le_of_ble_eq_true rfl) rfl ?_
  refine mB hT 1 rfl ?_
  refine hC.2.2.2.2.2.2.2.2.2.2 _ 10 [_, _, _] _ _ _ _ _ (show KX0_change l D ca ad _ _ (some (.int (R2 1 20))) (XW (Int32.ofNat n) (Int32.ofNat vs) be de sz ro co mi T (up B 6 R3) hd df) from (by rw [e3]; exact c_changeR_1_20 g)) rfl rfl (Nat.le_of_ble_eq_true rfl) rfl ?_
  refine mB hT 2 rfl ?_
  exact hR _ (by decide) _ _ _ rfl rfl
set_option maxRecDepth 20000 in
theorem x_emits_2_0 {n vs : Nat} {be de : Int64} {sz : Int32} {ro co mi : Nat → Int64} {T : Nat → Nat → Int64} {B : Nat → Nat → Nat → Int32} {hd : Nat → Nat → Int32} {df : Nat → Int32} (hi : 2 < n) (hn : n ≤ 4) {a t g : Int32} (h1 : 0 ≤ a) (h2 : a ≤ 100) (h3 : 0 ≤ g) (h4 : g ≤ 100) (h5 : a ≤ t) (h6 : t ≤ g) : KX2_emits l D ca ad [.ref 0, .int 2, .int 0, .int a, .int t, .int g] (XW (Int32.ofNat n) (Int32.ofNat vs) be de sz ro co mi T B hd df) (some (.int 1)) (XW (Int32.ofNat n) (Int32.ofNat vs) be de sz ro co mi T (up B 6 (chX (chX (chX (B 6) 2 12 a) 2 15 t) 2 18 g)) hd df) := by
  obtain ⟨R1, e1⟩ : ∃ z, z = chX (B 6) 2 12 a := ⟨_, rfl⟩
  obtain ⟨R2, e2⟩ : ∃ z, z = chX R1 2 15 t := ⟨_, rfl⟩
  obtain ⟨R3, e3⟩ : ∃ z, z = chX R2 2 18 g := ⟨_, rfl⟩
  rw [← e1, ← e2, ← e3]
  refine PX2_emits (Nat.le_of_ble_eq_true rfl) ?_
  intro G hT hC hR
  refine mB hT 2 rfl ?_
  refine hC.1 _ 0 [_] _ _ _ _ _ (c_isMaking_t (i := 2) hi hn) rfl rfl (Nat.le_of_ble_eq_true rfl) rfl ?_
  refine mB hT 2 rfl ?_
  refine hC.2.1 _ [_] _ _ _ _ (c_isStuff_t (i := 0) (by decide)) rfl (Nat.le_of_ble_eq_true rfl) rfl ?_
  refine mB hT 4 rfl ?_
  refine hC.2.2.1 _ [_, _, _] _ _ _ _ (c_isWithin_t h1 h2) rfl (Nat.le_of_ble_eq_true rfl) rfl ?_
  refine mB hT 4 rfl ?_
  refine hC.2.2.2.1 _ [_, _, _] _ _ _ _ (c_isWithin_t h3 h4) rfl (Nat.le_of_ble_eq_true rfl) rfl ?_
  refine mB hT 4 rfl ?_
  refine hC.2.2.2.2.1 _ [_, _, _] _ _ _ _ (c_isWithin_t h5 h6) rfl (Nat.le_of_ble_eq_true rfl) rfl ?_
  refine mB hT 6 rfl ?_
  refine hC.2.2.2.2.2.1 _ [_, _] _ _ _ _ (c_place_0_0) rfl (Nat.le_of_ble_eq_true rfl) rfl ?_
  refine mB hT 1 rfl ?_
  refine hC.2.2.2.2.2.2.1 _ 10 [_, _, _] _ _ _ _ _ (show KX0_change l D ca ad _ _ (some (.int ((B 6) 2 12))) (XW (Int32.ofNat n) (Int32.ofNat vs) be de sz ro co mi T (up B 6 R1) hd df) from (by rw [e1]; exact c_change_2_12 a)) rfl rfl (Nat.le_of_ble_eq_true rfl) rfl ?_
  refine mB hT 6 rfl ?_
  refine hC.2.2.2.2.2.2.2.1 _ [_, _] _ _ _ _ (c_place_0_1) rfl (Nat.le_of_ble_eq_true rfl) rfl ?_
  refine mB hT 1 rfl ?_
  refine hC.2.2.2.2.2.2.2.2.1 _ 10 [_, _, _] _ _ _ _ _ (show KX0_change l D ca ad _ _ (some (.int (R1 2 15))) (XW (Int32.ofNat n) (Int32.ofNat vs) be de sz ro co mi T (up B 6 R2) hd df) from (by rw [e2]; exact c_changeR_2_15 t)) rfl rfl (Nat.le_of_ble_eq_true rfl) rfl ?_
  refine mB hT 6 rfl ?_
  refine hC.2.2.2.2.2.2.2.2.2.1 _ [_, _] _ _ _ _ (c_place_0_2) rfl (Nat.le_of_ble_eq_true rfl) rfl ?_
  refine mB hT 1 rfl ?_
  refine hC.2.2.2.2.2.2.2.2.2.2 _ 10 [_, _, _] _ _ _ _ _ (show KX0_change l D ca ad _ _ (some (.int (R2 2 18))) (XW (Int32.ofNat n) (Int32.ofNat vs) be de sz ro co mi T (up B 6 R3) hd df) from (by rw [e3]; exact c_changeR_2_18 g)) rfl rfl (Nat.le_of_ble_eq_true rfl) rfl ?_
  refine mB hT 2 rfl ?_
  exact hR _ (by decide) _ _ _ rfl rfl
set_option maxRecDepth 20000 in
theorem x_emits_2_1 {n vs : Nat} {be de : Int64} {sz : Int32} {ro co mi : Nat → Int64} {T : Nat → Nat → Int64} {B : Nat → Nat → Nat → Int32} {hd : Nat → Nat → Int32} {df : Nat → Int32} (hi : 2 < n) (hn : n ≤ 4) {a t g : Int32} (h1 : 0 ≤ a) (h2 : a ≤ 100) (h3 : 0 ≤ g) (h4 : g ≤ 100) (h5 : a ≤ t) (h6 : t ≤ g) : KX2_emits l D ca ad [.ref 0, .int 2, .int 1, .int a, .int t, .int g] (XW (Int32.ofNat n) (Int32.ofNat vs) be de sz ro co mi T B hd df) (some (.int 1)) (XW (Int32.ofNat n) (Int32.ofNat vs) be de sz ro co mi T (up B 6 (chX (chX (chX (B 6) 2 13 a) 2 16 t) 2 19 g)) hd df) := by
  obtain ⟨R1, e1⟩ : ∃ z, z = chX (B 6) 2 13 a := ⟨_, rfl⟩
  obtain ⟨R2, e2⟩ : ∃ z, z = chX R1 2 16 t := ⟨_, rfl⟩
  obtain ⟨R3, e3⟩ : ∃ z, z = chX R2 2 19 g := ⟨_, rfl⟩
  rw [← e1, ← e2, ← e3]
  refine PX2_emits (Nat.le_of_ble_eq_true rfl) ?_
  intro G hT hC hR
  refine mB hT 2 rfl ?_
  refine hC.1 _ 0 [_] _ _ _ _ _ (c_isMaking_t (i := 2) hi hn) rfl rfl (Nat.le_of_ble_eq_true rfl) rfl ?_
  refine mB hT 2 rfl ?_
  refine hC.2.1 _ [_] _ _ _ _ (c_isStuff_t (i := 1) (by decide)) rfl (Nat.le_of_ble_eq_true rfl) rfl ?_
  refine mB hT 4 rfl ?_
  refine hC.2.2.1 _ [_, _, _] _ _ _ _ (c_isWithin_t h1 h2) rfl (Nat.le_of_ble_eq_true rfl) rfl ?_
  refine mB hT 4 rfl ?_
  refine hC.2.2.2.1 _ [_, _, _] _ _ _ _ (c_isWithin_t h3 h4) rfl (Nat.le_of_ble_eq_true rfl) rfl ?_
  refine mB hT 4 rfl ?_
  refine hC.2.2.2.2.1 _ [_, _, _] _ _ _ _ (c_isWithin_t h5 h6) rfl (Nat.le_of_ble_eq_true rfl) rfl ?_
  refine mB hT 6 rfl ?_
  refine hC.2.2.2.2.2.1 _ [_, _] _ _ _ _ (c_place_1_0) rfl (Nat.le_of_ble_eq_true rfl) rfl ?_
  refine mB hT 1 rfl ?_
  refine hC.2.2.2.2.2.2.1 _ 10 [_, _, _] _ _ _ _ _ (show KX0_change l D ca ad _ _ (some (.int ((B 6) 2 13))) (XW (Int32.ofNat n) (Int32.ofNat vs) be de sz ro co mi T (up B 6 R1) hd df) from (by rw [e1]; exact c_change_2_13 a)) rfl rfl (Nat.le_of_ble_eq_true rfl) rfl ?_
  refine mB hT 6 rfl ?_
  refine hC.2.2.2.2.2.2.2.1 _ [_, _] _ _ _ _ (c_place_1_1) rfl (Nat.le_of_ble_eq_true rfl) rfl ?_
  refine mB hT 1 rfl ?_
  refine hC.2.2.2.2.2.2.2.2.1 _ 10 [_, _, _] _ _ _ _ _ (show KX0_change l D ca ad _ _ (some (.int (R1 2 16))) (XW (Int32.ofNat n) (Int32.ofNat vs) be de sz ro co mi T (up B 6 R2) hd df) from (by rw [e2]; exact c_changeR_2_16 t)) rfl rfl (Nat.le_of_ble_eq_true rfl) rfl ?_
  refine mB hT 6 rfl ?_
  refine hC.2.2.2.2.2.2.2.2.2.1 _ [_, _] _ _ _ _ (c_place_1_2) rfl (Nat.le_of_ble_eq_true rfl) rfl ?_
  refine mB hT 1 rfl ?_
  refine hC.2.2.2.2.2.2.2.2.2.2 _ 10 [_, _, _] _ _ _ _ _ (show KX0_change l D ca ad _ _ (some (.int (R2 2 19))) (XW (Int32.ofNat n) (Int32.ofNat vs) be de sz ro co mi T (up B 6 R3) hd df) from (by rw [e3]; exact c_changeR_2_19 g)) rfl rfl (Nat.le_of_ble_eq_true rfl) rfl ?_
  refine mB hT 2 rfl ?_
  exact hR _ (by decide) _ _ _ rfl rfl
set_option maxRecDepth 20000 in
theorem x_emits_2_2 {n vs : Nat} {be de : Int64} {sz : Int32} {ro co mi : Nat → Int64} {T : Nat → Nat → Int64} {B : Nat → Nat → Nat → Int32} {hd : Nat → Nat → Int32} {df : Nat → Int32} (hi : 2 < n) (hn : n ≤ 4) {a t g : Int32} (h1 : 0 ≤ a) (h2 : a ≤ 100) (h3 : 0 ≤ g) (h4 : g ≤ 100) (h5 : a ≤ t) (h6 : t ≤ g) : KX2_emits l D ca ad [.ref 0, .int 2, .int 2, .int a, .int t, .int g] (XW (Int32.ofNat n) (Int32.ofNat vs) be de sz ro co mi T B hd df) (some (.int 1)) (XW (Int32.ofNat n) (Int32.ofNat vs) be de sz ro co mi T (up B 6 (chX (chX (chX (B 6) 2 14 a) 2 17 t) 2 20 g)) hd df) := by
  obtain ⟨R1, e1⟩ : ∃ z, z = chX (B 6) 2 14 a := ⟨_, rfl⟩
  obtain ⟨R2, e2⟩ : ∃ z, z = chX R1 2 17 t := ⟨_, rfl⟩
  obtain ⟨R3, e3⟩ : ∃ z, z = chX R2 2 20 g := ⟨_, rfl⟩
  rw [← e1, ← e2, ← e3]
  refine PX2_emits (Nat.le_of_ble_eq_true rfl) ?_
  intro G hT hC hR
  refine mB hT 2 rfl ?_
  refine hC.1 _ 0 [_] _ _ _ _ _ (c_isMaking_t (i := 2) hi hn) rfl rfl (Nat.le_of_ble_eq_true rfl) rfl ?_
  refine mB hT 2 rfl ?_
  refine hC.2.1 _ [_] _ _ _ _ (c_isStuff_t (i := 2) (by decide)) rfl (Nat.le_of_ble_eq_true rfl) rfl ?_
  refine mB hT 4 rfl ?_
  refine hC.2.2.1 _ [_, _, _] _ _ _ _ (c_isWithin_t h1 h2) rfl (Nat.le_of_ble_eq_true rfl) rfl ?_
  refine mB hT 4 rfl ?_
  refine hC.2.2.2.1 _ [_, _, _] _ _ _ _ (c_isWithin_t h3 h4) rfl (Nat.le_of_ble_eq_true rfl) rfl ?_
  refine mB hT 4 rfl ?_
  refine hC.2.2.2.2.1 _ [_, _, _] _ _ _ _ (c_isWithin_t h5 h6) rfl (Nat.le_of_ble_eq_true rfl) rfl ?_
  refine mB hT 6 rfl ?_
  refine hC.2.2.2.2.2.1 _ [_, _] _ _ _ _ (c_place_2_0) rfl (Nat.le_of_ble_eq_true rfl) rfl ?_
  refine mB hT 1 rfl ?_
  refine hC.2.2.2.2.2.2.1 _ 10 [_, _, _] _ _ _ _ _ (show KX0_change l D ca ad _ _ (some (.int ((B 6) 2 14))) (XW (Int32.ofNat n) (Int32.ofNat vs) be de sz ro co mi T (up B 6 R1) hd df) from (by rw [e1]; exact c_change_2_14 a)) rfl rfl (Nat.le_of_ble_eq_true rfl) rfl ?_
  refine mB hT 6 rfl ?_
  refine hC.2.2.2.2.2.2.2.1 _ [_, _] _ _ _ _ (c_place_2_1) rfl (Nat.le_of_ble_eq_true rfl) rfl ?_
  refine mB hT 1 rfl ?_
  refine hC.2.2.2.2.2.2.2.2.1 _ 10 [_, _, _] _ _ _ _ _ (show KX0_change l D ca ad _ _ (some (.int (R1 2 17))) (XW (Int32.ofNat n) (Int32.ofNat vs) be de sz ro co mi T (up B 6 R2) hd df) from (by rw [e2]; exact c_changeR_2_17 t)) rfl rfl (Nat.le_of_ble_eq_true rfl) rfl ?_
  refine mB hT 6 rfl ?_
  refine hC.2.2.2.2.2.2.2.2.2.1 _ [_, _] _ _ _ _ (c_place_2_2) rfl (Nat.le_of_ble_eq_true rfl) rfl ?_
  refine mB hT 1 rfl ?_
  refine hC.2.2.2.2.2.2.2.2.2.2 _ 10 [_, _, _] _ _ _ _ _ (show KX0_change l D ca ad _ _ (some (.int (R2 2 20))) (XW (Int32.ofNat n) (Int32.ofNat vs) be de sz ro co mi T (up B 6 R3) hd df) from (by rw [e3]; exact c_changeR_2_20 g)) rfl rfl (Nat.le_of_ble_eq_true rfl) rfl ?_
  refine mB hT 2 rfl ?_
  exact hR _ (by decide) _ _ _ rfl rfl
set_option maxRecDepth 20000 in
theorem x_emits_3_0 {n vs : Nat} {be de : Int64} {sz : Int32} {ro co mi : Nat → Int64} {T : Nat → Nat → Int64} {B : Nat → Nat → Nat → Int32} {hd : Nat → Nat → Int32} {df : Nat → Int32} (hi : 3 < n) (hn : n ≤ 4) {a t g : Int32} (h1 : 0 ≤ a) (h2 : a ≤ 100) (h3 : 0 ≤ g) (h4 : g ≤ 100) (h5 : a ≤ t) (h6 : t ≤ g) : KX2_emits l D ca ad [.ref 0, .int 3, .int 0, .int a, .int t, .int g] (XW (Int32.ofNat n) (Int32.ofNat vs) be de sz ro co mi T B hd df) (some (.int 1)) (XW (Int32.ofNat n) (Int32.ofNat vs) be de sz ro co mi T (up B 6 (chX (chX (chX (B 6) 3 12 a) 3 15 t) 3 18 g)) hd df) := by
  obtain ⟨R1, e1⟩ : ∃ z, z = chX (B 6) 3 12 a := ⟨_, rfl⟩
  obtain ⟨R2, e2⟩ : ∃ z, z = chX R1 3 15 t := ⟨_, rfl⟩
  obtain ⟨R3, e3⟩ : ∃ z, z = chX R2 3 18 g := ⟨_, rfl⟩
  rw [← e1, ← e2, ← e3]
  refine PX2_emits (Nat.le_of_ble_eq_true rfl) ?_
  intro G hT hC hR
  refine mB hT 2 rfl ?_
  refine hC.1 _ 0 [_] _ _ _ _ _ (c_isMaking_t (i := 3) hi hn) rfl rfl (Nat.le_of_ble_eq_true rfl) rfl ?_
  refine mB hT 2 rfl ?_
  refine hC.2.1 _ [_] _ _ _ _ (c_isStuff_t (i := 0) (by decide)) rfl (Nat.le_of_ble_eq_true rfl) rfl ?_
  refine mB hT 4 rfl ?_
  refine hC.2.2.1 _ [_, _, _] _ _ _ _ (c_isWithin_t h1 h2) rfl (Nat.le_of_ble_eq_true rfl) rfl ?_
  refine mB hT 4 rfl ?_
  refine hC.2.2.2.1 _ [_, _, _] _ _ _ _ (c_isWithin_t h3 h4) rfl (Nat.le_of_ble_eq_true rfl) rfl ?_
  refine mB hT 4 rfl ?_
  refine hC.2.2.2.2.1 _ [_, _, _] _ _ _ _ (c_isWithin_t h5 h6) rfl (Nat.le_of_ble_eq_true rfl) rfl ?_
  refine mB hT 6 rfl ?_
  refine hC.2.2.2.2.2.1 _ [_, _] _ _ _ _ (c_place_0_0) rfl (Nat.le_of_ble_eq_true rfl) rfl ?_
  refine mB hT 1 rfl ?_
  refine hC.2.2.2.2.2.2.1 _ 10 [_, _, _] _ _ _ _ _ (show KX0_change l D ca ad _ _ (some (.int ((B 6) 3 12))) (XW (Int32.ofNat n) (Int32.ofNat vs) be de sz ro co mi T (up B 6 R1) hd df) from (by rw [e1]; exact c_change_3_12 a)) rfl rfl (Nat.le_of_ble_eq_true rfl) rfl ?_
  refine mB hT 6 rfl ?_
  refine hC.2.2.2.2.2.2.2.1 _ [_, _] _ _ _ _ (c_place_0_1) rfl (Nat.le_of_ble_eq_true rfl) rfl ?_
  refine mB hT 1 rfl ?_
  refine hC.2.2.2.2.2.2.2.2.1 _ 10 [_, _, _] _ _ _ _ _ (show KX0_change l D ca ad _ _ (some (.int (R1 3 15))) (XW (Int32.ofNat n) (Int32.ofNat vs) be de sz ro co mi T (up B 6 R2) hd df) from (by rw [e2]; exact c_changeR_3_15 t)) rfl rfl (Nat.le_of_ble_eq_true rfl) rfl ?_
  refine mB hT 6 rfl ?_
  refine hC.2.2.2.2.2.2.2.2.2.1 _ [_, _] _ _ _ _ (c_place_0_2) rfl (Nat.le_of_ble_eq_true rfl) rfl ?_
  refine mB hT 1 rfl ?_
  refine hC.2.2.2.2.2.2.2.2.2.2 _ 10 [_, _, _] _ _ _ _ _ (show KX0_change l D ca ad _ _ (some (.int (R2 3 18))) (XW (Int32.ofNat n) (Int32.ofNat vs) be de sz ro co mi T (up B 6 R3) hd df) from (by rw [e3]; exact c_changeR_3_18 g)) rfl rfl (Nat.le_of_ble_eq_true rfl) rfl ?_
  refine mB hT 2 rfl ?_
  exact hR _ (by decide) _ _ _ rfl rfl
set_option maxRecDepth 20000 in
theorem x_emits_3_1 {n vs : Nat} {be de : Int64} {sz : Int32} {ro co mi : Nat → Int64} {T : Nat → Nat → Int64} {B : Nat → Nat → Nat → Int32} {hd : Nat → Nat → Int32} {df : Nat → Int32} (hi : 3 < n) (hn : n ≤ 4) {a t g : Int32} (h1 : 0 ≤ a) (h2 : a ≤ 100) (h3 : 0 ≤ g) (h4 : g ≤ 100) (h5 : a ≤ t) (h6 : t ≤ g) : KX2_emits l D ca ad [.ref 0, .int 3, .int 1, .int a, .int t, .int g] (XW (Int32.ofNat n) (Int32.ofNat vs) be de sz ro co mi T B hd df) (some (.int 1)) (XW (Int32.ofNat n) (Int32.ofNat vs) be de sz ro co mi T (up B 6 (chX (chX (chX (B 6) 3 13 a) 3 16 t) 3 19 g)) hd df) := by
  obtain ⟨R1, e1⟩ : ∃ z, z = chX (B 6) 3 13 a := ⟨_, rfl⟩
  obtain ⟨R2, e2⟩ : ∃ z, z = chX R1 3 16 t := ⟨_, rfl⟩
  obtain ⟨R3, e3⟩ : ∃ z, z = chX R2 3 19 g := ⟨_, rfl⟩
  rw [← e1, ← e2, ← e3]
  refine PX2_emits (Nat.le_of_ble_eq_true rfl) ?_
  intro G hT hC hR
  refine mB hT 2 rfl ?_
  refine hC.1 _ 0 [_] _ _ _ _ _ (c_isMaking_t (i := 3) hi hn) rfl rfl (Nat.le_of_ble_eq_true rfl) rfl ?_
  refine mB hT 2 rfl ?_
  refine hC.2.1 _ [_] _ _ _ _ (c_isStuff_t (i := 1) (by decide)) rfl (Nat.le_of_ble_eq_true rfl) rfl ?_
  refine mB hT 4 rfl ?_
  refine hC.2.2.1 _ [_, _, _] _ _ _ _ (c_isWithin_t h1 h2) rfl (Nat.le_of_ble_eq_true rfl) rfl ?_
  refine mB hT 4 rfl ?_
  refine hC.2.2.2.1 _ [_, _, _] _ _ _ _ (c_isWithin_t h3 h4) rfl (Nat.le_of_ble_eq_true rfl) rfl ?_
  refine mB hT 4 rfl ?_
  refine hC.2.2.2.2.1 _ [_, _, _] _ _ _ _ (c_isWithin_t h5 h6) rfl (Nat.le_of_ble_eq_true rfl) rfl ?_
  refine mB hT 6 rfl ?_
  refine hC.2.2.2.2.2.1 _ [_, _] _ _ _ _ (c_place_1_0) rfl (Nat.le_of_ble_eq_true rfl) rfl ?_
  refine mB hT 1 rfl ?_
  refine hC.2.2.2.2.2.2.1 _ 10 [_, _, _] _ _ _ _ _ (show KX0_change l D ca ad _ _ (some (.int ((B 6) 3 13))) (XW (Int32.ofNat n) (Int32.ofNat vs) be de sz ro co mi T (up B 6 R1) hd df) from (by rw [e1]; exact c_change_3_13 a)) rfl rfl (Nat.le_of_ble_eq_true rfl) rfl ?_
  refine mB hT 6 rfl ?_
  refine hC.2.2.2.2.2.2.2.1 _ [_, _] _ _ _ _ (c_place_1_1) rfl (Nat.le_of_ble_eq_true rfl) rfl ?_
  refine mB hT 1 rfl ?_
  refine hC.2.2.2.2.2.2.2.2.1 _ 10 [_, _, _] _ _ _ _ _ (show KX0_change l D ca ad _ _ (some (.int (R1 3 16))) (XW (Int32.ofNat n) (Int32.ofNat vs) be de sz ro co mi T (up B 6 R2) hd df) from (by rw [e2]; exact c_changeR_3_16 t)) rfl rfl (Nat.le_of_ble_eq_true rfl) rfl ?_
  refine mB hT 6 rfl ?_
  refine hC.2.2.2.2.2.2.2.2.2.1 _ [_, _] _ _ _ _ (c_place_1_2) rfl (Nat.le_of_ble_eq_true rfl) rfl ?_
  refine mB hT 1 rfl ?_
  refine hC.2.2.2.2.2.2.2.2.2.2 _ 10 [_, _, _] _ _ _ _ _ (show KX0_change l D ca ad _ _ (some (.int (R2 3 19))) (XW (Int32.ofNat n) (Int32.ofNat vs) be de sz ro co mi T (up B 6 R3) hd df) from (by rw [e3]; exact c_changeR_3_19 g)) rfl rfl (Nat.le_of_ble_eq_true rfl) rfl ?_
  refine mB hT 2 rfl ?_
  exact hR _ (by decide) _ _ _ rfl rfl
set_option maxRecDepth 20000 in
theorem x_emits_3_2 {n vs : Nat} {be de : Int64} {sz : Int32} {ro co mi : Nat → Int64} {T : Nat → Nat → Int64} {B : Nat → Nat → Nat → Int32} {hd : Nat → Nat → Int32} {df : Nat → Int32} (hi : 3 < n) (hn : n ≤ 4) {a t g : Int32} (h1 : 0 ≤ a) (h2 : a ≤ 100) (h3 : 0 ≤ g) (h4 : g ≤ 100) (h5 : a ≤ t) (h6 : t ≤ g) : KX2_emits l D ca ad [.ref 0, .int 3, .int 2, .int a, .int t, .int g] (XW (Int32.ofNat n) (Int32.ofNat vs) be de sz ro co mi T B hd df) (some (.int 1)) (XW (Int32.ofNat n) (Int32.ofNat vs) be de sz ro co mi T (up B 6 (chX (chX (chX (B 6) 3 14 a) 3 17 t) 3 20 g)) hd df) := by
  obtain ⟨R1, e1⟩ : ∃ z, z = chX (B 6) 3 14 a := ⟨_, rfl⟩
  obtain ⟨R2, e2⟩ : ∃ z, z = chX R1 3 17 t := ⟨_, rfl⟩
  obtain ⟨R3, e3⟩ : ∃ z, z = chX R2 3 20 g := ⟨_, rfl⟩
  rw [← e1, ← e2, ← e3]
  refine PX2_emits (Nat.le_of_ble_eq_true rfl) ?_
  intro G hT hC hR
  refine mB hT 2 rfl ?_
  refine hC.1 _ 0 [_] _ _ _ _ _ (c_isMaking_t (i := 3) hi hn) rfl rfl (Nat.le_of_ble_eq_true rfl) rfl ?_
  refine mB hT 2 rfl ?_
  refine hC.2.1 _ [_] _ _ _ _ (c_isStuff_t (i := 2) (by decide)) rfl (Nat.le_of_ble_eq_true rfl) rfl ?_
  refine mB hT 4 rfl ?_
  refine hC.2.2.1 _ [_, _, _] _ _ _ _ (c_isWithin_t h1 h2) rfl (Nat.le_of_ble_eq_true rfl) rfl ?_
  refine mB hT 4 rfl ?_
  refine hC.2.2.2.1 _ [_, _, _] _ _ _ _ (c_isWithin_t h3 h4) rfl (Nat.le_of_ble_eq_true rfl) rfl ?_
  refine mB hT 4 rfl ?_
  refine hC.2.2.2.2.1 _ [_, _, _] _ _ _ _ (c_isWithin_t h5 h6) rfl (Nat.le_of_ble_eq_true rfl) rfl ?_
  refine mB hT 6 rfl ?_
  refine hC.2.2.2.2.2.1 _ [_, _] _ _ _ _ (c_place_2_0) rfl (Nat.le_of_ble_eq_true rfl) rfl ?_
  refine mB hT 1 rfl ?_
  refine hC.2.2.2.2.2.2.1 _ 10 [_, _, _] _ _ _ _ _ (show KX0_change l D ca ad _ _ (some (.int ((B 6) 3 14))) (XW (Int32.ofNat n) (Int32.ofNat vs) be de sz ro co mi T (up B 6 R1) hd df) from (by rw [e1]; exact c_change_3_14 a)) rfl rfl (Nat.le_of_ble_eq_true rfl) rfl ?_
  refine mB hT 6 rfl ?_
  refine hC.2.2.2.2.2.2.2.1 _ [_, _] _ _ _ _ (c_place_2_1) rfl (Nat.le_of_ble_eq_true rfl) rfl ?_
  refine mB hT 1 rfl ?_
  refine hC.2.2.2.2.2.2.2.2.1 _ 10 [_, _, _] _ _ _ _ _ (show KX0_change l D ca ad _ _ (some (.int (R1 3 17))) (XW (Int32.ofNat n) (Int32.ofNat vs) be de sz ro co mi T (up B 6 R2) hd df) from (by rw [e2]; exact c_changeR_3_17 t)) rfl rfl (Nat.le_of_ble_eq_true rfl) rfl ?_
  refine mB hT 6 rfl ?_
  refine hC.2.2.2.2.2.2.2.2.2.1 _ [_, _] _ _ _ _ (c_place_2_2) rfl (Nat.le_of_ble_eq_true rfl) rfl ?_
  refine mB hT 1 rfl ?_
  refine hC.2.2.2.2.2.2.2.2.2.2 _ 10 [_, _, _] _ _ _ _ _ (show KX0_change l D ca ad _ _ (some (.int (R2 3 20))) (XW (Int32.ofNat n) (Int32.ofNat vs) be de sz ro co mi T (up B 6 R3) hd df) from (by rw [e3]; exact c_changeR_3_20 g)) rfl rfl (Nat.le_of_ble_eq_true rfl) rfl ?_
  refine mB hT 2 rfl ?_
  exact hR _ (by decide) _ _ _ rfl rfl
theorem x_emits {n vs : Nat} {be de : Int64} {sz : Int32} {ro co mi : Nat → Int64} {T : Nat → Nat → Int64} {B : Nat → Nat → Nat → Int32} {hd : Nat → Nat → Int32} {df : Nat → Int32} {i k : Nat} (hi : i < n) (hk : k < 3) (hn : n ≤ 4) {a t g : Int32} (h1 : 0 ≤ a) (h2 : a ≤ 100) (h3 : 0 ≤ g) (h4 : g ≤ 100) (h5 : a ≤ t) (h6 : t ≤ g) : KX2_emits l D ca ad [.ref 0, .int (Int32.ofNat i), .int (Int32.ofNat k), .int a, .int t, .int g] (XW (Int32.ofNat n) (Int32.ofNat vs) be de sz ro co mi T B hd df) (some (.int 1)) (XW (Int32.ofNat n) (Int32.ofNat vs) be de sz ro co mi T (up B 6 (chX (chX (chX (B 6) i (12 + k) a) i (15 + k) t) i (18 + k) g)) hd df) := by
  match i, hi, k, hk with
  | 0, hi, 0, _ => exact x_emits_0_0 hi hn h1 h2 h3 h4 h5 h6
  | 0, hi, 1, _ => exact x_emits_0_1 hi hn h1 h2 h3 h4 h5 h6
  | 0, hi, 2, _ => exact x_emits_0_2 hi hn h1 h2 h3 h4 h5 h6
  | 1, hi, 0, _ => exact x_emits_1_0 hi hn h1 h2 h3 h4 h5 h6
  | 1, hi, 1, _ => exact x_emits_1_1 hi hn h1 h2 h3 h4 h5 h6
  | 1, hi, 2, _ => exact x_emits_1_2 hi hn h1 h2 h3 h4 h5 h6
  | 2, hi, 0, _ => exact x_emits_2_0 hi hn h1 h2 h3 h4 h5 h6
  | 2, hi, 1, _ => exact x_emits_2_1 hi hn h1 h2 h3 h4 h5 h6
  | 2, hi, 2, _ => exact x_emits_2_2 hi hn h1 h2 h3 h4 h5 h6
  | 3, hi, 0, _ => exact x_emits_3_0 hi hn h1 h2 h3 h4 h5 h6
  | 3, hi, 1, _ => exact x_emits_3_1 hi hn h1 h2 h3 h4 h5 h6
  | 3, hi, 2, _ => exact x_emits_3_2 hi hn h1 h2 h3 h4 h5 h6
  | i + 4, hi, _, _ => omega
set_option maxRecDepth 20000 in
theorem x_good_0 {n vs : Nat} {be de : Int64} {sz : Int32} {ro co mi : Nat → Int64} {T : Nat → Nat → Int64} {B : Nat → Nat → Nat → Int32} {hd : Nat → Nat → Int32} {df : Nat → Int32} (hj : 0 < n) (hn : n ≤ 4) {a p : Int32} (h1 : 1 ≤ a) (h2 : a ≤ 5) (h3 : 1 ≤ p) (h4 : p ≤ 5) : KX2_good l D ca ad [.ref 0, .int 0, .int a, .int p] (XW (Int32.ofNat n) (Int32.ofNat vs) be de sz ro co mi T B hd df) (some (.int 1)) (XW (Int32.ofNat n) (Int32.ofNat vs) be de sz ro co mi T (up B 6 (chX (chX (B 6) 0 21 a) 0 22 p)) hd df) := by
  obtain ⟨R1, e1⟩ : ∃ z, z = chX (B 6) 0 21 a := ⟨_, rfl⟩
  obtain ⟨R2, e2⟩ : ∃ z, z = chX R1 0 22 p := ⟨_, rfl⟩
  rw [← e1, ← e2]
  refine PX2_good (Nat.le_of_ble_eq_true rfl) ?_
  intro G hT hC hR
  refine mB hT 2 rfl ?_
  refine hC.1 _ 0 [_] _ _ _ _ _ (c_isMaking_t (i := 0) hj hn) rfl rfl (Nat.le_of_ble_eq_true rfl) rfl ?_
  refine mB hT 4 rfl ?_
  refine hC.2.1 _ [_, _, _] _ _ _ _ (c_isWithin_t h1 h2) rfl (Nat.le_of_ble_eq_true rfl) rfl ?_
  refine mB hT 4 rfl ?_
  refine hC.2.2.1 _ [_, _, _] _ _ _ _ (c_isWithin_t h3 h4) rfl (Nat.le_of_ble_eq_true rfl) rfl ?_
  refine mB hT 6 rfl ?_
  refine hC.2.2.2.1 _ 10 [_, _, _] _ _ _ _ _ (show KX0_change l D ca ad _ _ (some (.int ((B 6) 0 21))) (XW (Int32.ofNat n) (Int32.ofNat vs) be de sz ro co mi T (up B 6 R1) hd df) from (by rw [e1]; exact c_change_0_21 a)) rfl rfl (Nat.le_of_ble_eq_true rfl) rfl ?_
  refine mB hT 6 rfl ?_
  refine hC.2.2.2.2 _ 10 [_, _, _] _ _ _ _ _ (show KX0_change l D ca ad _ _ (some (.int (R1 0 22))) (XW (Int32.ofNat n) (Int32.ofNat vs) be de sz ro co mi T (up B 6 R2) hd df) from (by rw [e2]; exact c_changeR_0_22 p)) rfl rfl (Nat.le_of_ble_eq_true rfl) rfl ?_
  refine mB hT 2 rfl ?_
  exact hR _ (by decide) _ _ _ rfl rfl
set_option maxRecDepth 20000 in
theorem x_good_1 {n vs : Nat} {be de : Int64} {sz : Int32} {ro co mi : Nat → Int64} {T : Nat → Nat → Int64} {B : Nat → Nat → Nat → Int32} {hd : Nat → Nat → Int32} {df : Nat → Int32} (hj : 1 < n) (hn : n ≤ 4) {a p : Int32} (h1 : 1 ≤ a) (h2 : a ≤ 5) (h3 : 1 ≤ p) (h4 : p ≤ 5) : KX2_good l D ca ad [.ref 0, .int 1, .int a, .int p] (XW (Int32.ofNat n) (Int32.ofNat vs) be de sz ro co mi T B hd df) (some (.int 1)) (XW (Int32.ofNat n) (Int32.ofNat vs) be de sz ro co mi T (up B 6 (chX (chX (B 6) 1 21 a) 1 22 p)) hd df) := by
  obtain ⟨R1, e1⟩ : ∃ z, z = chX (B 6) 1 21 a := ⟨_, rfl⟩
  obtain ⟨R2, e2⟩ : ∃ z, z = chX R1 1 22 p := ⟨_, rfl⟩
  rw [← e1, ← e2]
  refine PX2_good (Nat.le_of_ble_eq_true rfl) ?_
  intro G hT hC hR
  refine mB hT 2 rfl ?_
  refine hC.1 _ 0 [_] _ _ _ _ _ (c_isMaking_t (i := 1) hj hn) rfl rfl (Nat.le_of_ble_eq_true rfl) rfl ?_
  refine mB hT 4 rfl ?_
  refine hC.2.1 _ [_, _, _] _ _ _ _ (c_isWithin_t h1 h2) rfl (Nat.le_of_ble_eq_true rfl) rfl ?_
  refine mB hT 4 rfl ?_
  refine hC.2.2.1 _ [_, _, _] _ _ _ _ (c_isWithin_t h3 h4) rfl (Nat.le_of_ble_eq_true rfl) rfl ?_
  refine mB hT 6 rfl ?_
  refine hC.2.2.2.1 _ 10 [_, _, _] _ _ _ _ _ (show KX0_change l D ca ad _ _ (some (.int ((B 6) 1 21))) (XW (Int32.ofNat n) (Int32.ofNat vs) be de sz ro co mi T (up B 6 R1) hd df) from (by rw [e1]; exact c_change_1_21 a)) rfl rfl (Nat.le_of_ble_eq_true rfl) rfl ?_
  refine mB hT 6 rfl ?_
  refine hC.2.2.2.2 _ 10 [_, _, _] _ _ _ _ _ (show KX0_change l D ca ad _ _ (some (.int (R1 1 22))) (XW (Int32.ofNat n) (Int32.ofNat vs) be de sz ro co mi T (up B 6 R2) hd df) from (by rw [e2]; exact c_changeR_1_22 p)) rfl rfl (Nat.le_of_ble_eq_true rfl) rfl ?_
  refine mB hT 2 rfl ?_
  exact hR _ (by decide) _ _ _ rfl rfl
set_option maxRecDepth 20000 in
theorem x_good_2 {n vs : Nat} {be de : Int64} {sz : Int32} {ro co mi : Nat → Int64} {T : Nat → Nat → Int64} {B : Nat → Nat → Nat → Int32} {hd : Nat → Nat → Int32} {df : Nat → Int32} (hj : 2 < n) (hn : n ≤ 4) {a p : Int32} (h1 : 1 ≤ a) (h2 : a ≤ 5) (h3 : 1 ≤ p) (h4 : p ≤ 5) : KX2_good l D ca ad [.ref 0, .int 2, .int a, .int p] (XW (Int32.ofNat n) (Int32.ofNat vs) be de sz ro co mi T B hd df) (some (.int 1)) (XW (Int32.ofNat n) (Int32.ofNat vs) be de sz ro co mi T (up B 6 (chX (chX (B 6) 2 21 a) 2 22 p)) hd df) := by
  obtain ⟨R1, e1⟩ : ∃ z, z = chX (B 6) 2 21 a := ⟨_, rfl⟩
  obtain ⟨R2, e2⟩ : ∃ z, z = chX R1 2 22 p := ⟨_, rfl⟩
  rw [← e1, ← e2]
  refine PX2_good (Nat.le_of_ble_eq_true rfl) ?_
  intro G hT hC hR
  refine mB hT 2 rfl ?_
  refine hC.1 _ 0 [_] _ _ _ _ _ (c_isMaking_t (i := 2) hj hn) rfl rfl (Nat.le_of_ble_eq_true rfl) rfl ?_
  refine mB hT 4 rfl ?_
  refine hC.2.1 _ [_, _, _] _ _ _ _ (c_isWithin_t h1 h2) rfl (Nat.le_of_ble_eq_true rfl) rfl ?_
  refine mB hT 4 rfl ?_
  refine hC.2.2.1 _ [_, _, _] _ _ _ _ (c_isWithin_t h3 h4) rfl (Nat.le_of_ble_eq_true rfl) rfl ?_
  refine mB hT 6 rfl ?_
  refine hC.2.2.2.1 _ 10 [_, _, _] _ _ _ _ _ (show KX0_change l D ca ad _ _ (some (.int ((B 6) 2 21))) (XW (Int32.ofNat n) (Int32.ofNat vs) be de sz ro co mi T (up B 6 R1) hd df) from (by rw [e1]; exact c_change_2_21 a)) rfl rfl (Nat.le_of_ble_eq_true rfl) rfl ?_
  refine mB hT 6 rfl ?_
  refine hC.2.2.2.2 _ 10 [_, _, _] _ _ _ _ _ (show KX0_change l D ca ad _ _ (some (.int (R1 2 22))) (XW (Int32.ofNat n) (Int32.ofNat vs) be de sz ro co mi T (up B 6 R2) hd df) from (by rw [e2]; exact c_changeR_2_22 p)) rfl rfl (Nat.le_of_ble_eq_true rfl) rfl ?_
  refine mB hT 2 rfl ?_
  exact hR _ (by decide) _ _ _ rfl rfl
set_option maxRecDepth 20000 in
theorem x_good_3 {n vs : Nat} {be de : Int64} {sz : Int32} {ro co mi : Nat → Int64} {T : Nat → Nat → Int64} {B : Nat → Nat → Nat → Int32} {hd : Nat → Nat → Int32} {df : Nat → Int32} (hj : 3 < n) (hn : n ≤ 4) {a p : Int32} (h1 : 1 ≤ a) (h2 : a ≤ 5) (h3 : 1 ≤ p) (h4 : p ≤ 5) : KX2_good l D ca ad [.ref 0, .int 3, .int a, .int p] (XW (Int32.ofNat n) (Int32.ofNat vs) be de sz ro co mi T B hd df) (some (.int 1)) (XW (Int32.ofNat n) (Int32.ofNat vs) be de sz ro co mi T (up B 6 (chX (chX (B 6) 3 21 a) 3 22 p)) hd df) := by
  obtain ⟨R1, e1⟩ : ∃ z, z = chX (B 6) 3 21 a := ⟨_, rfl⟩
  obtain ⟨R2, e2⟩ : ∃ z, z = chX R1 3 22 p := ⟨_, rfl⟩
  rw [← e1, ← e2]
  refine PX2_good (Nat.le_of_ble_eq_true rfl) ?_
  intro G hT hC hR
  refine mB hT 2 rfl ?_
  refine hC.1 _ 0 [_] _ _ _ _ _ (c_isMaking_t (i := 3) hj hn) rfl rfl (Nat.le_of_ble_eq_true rfl) rfl ?_
  refine mB hT 4 rfl ?_
  refine hC.2.1 _ [_, _, _] _ _ _ _ (c_isWithin_t h1 h2) rfl (Nat.le_of_ble_eq_true rfl) rfl ?_
  refine mB hT 4 rfl ?_
  refine hC.2.2.1 _ [_, _, _] _ _ _ _ (c_isWithin_t h3 h4) rfl (Nat.le_of_ble_eq_true rfl) rfl ?_
  refine mB hT 6 rfl ?_
  refine hC.2.2.2.1 _ 10 [_, _, _] _ _ _ _ _ (show KX0_change l D ca ad _ _ (some (.int ((B 6) 3 21))) (XW (Int32.ofNat n) (Int32.ofNat vs) be de sz ro co mi T (up B 6 R1) hd df) from (by rw [e1]; exact c_change_3_21 a)) rfl rfl (Nat.le_of_ble_eq_true rfl) rfl ?_
  refine mB hT 6 rfl ?_
  refine hC.2.2.2.2 _ 10 [_, _, _] _ _ _ _ _ (show KX0_change l D ca ad _ _ (some (.int (R1 3 22))) (XW (Int32.ofNat n) (Int32.ofNat vs) be de sz ro co mi T (up B 6 R2) hd df) from (by rw [e2]; exact c_changeR_3_22 p)) rfl rfl (Nat.le_of_ble_eq_true rfl) rfl ?_
  refine mB hT 2 rfl ?_
  exact hR _ (by decide) _ _ _ rfl rfl
theorem x_good {n vs : Nat} {be de : Int64} {sz : Int32} {ro co mi : Nat → Int64} {T : Nat → Nat → Int64} {B : Nat → Nat → Nat → Int32} {hd : Nat → Nat → Int32} {df : Nat → Int32} {j : Nat} (hj : j < n) (hn : n ≤ 4) {a p : Int32} (h1 : 1 ≤ a) (h2 : a ≤ 5) (h3 : 1 ≤ p) (h4 : p ≤ 5) : KX2_good l D ca ad [.ref 0, .int (Int32.ofNat j), .int a, .int p] (XW (Int32.ofNat n) (Int32.ofNat vs) be de sz ro co mi T B hd df) (some (.int 1)) (XW (Int32.ofNat n) (Int32.ofNat vs) be de sz ro co mi T (up B 6 (chX (chX (B 6) j 21 a) j 22 p)) hd df) := by
  match j, hj with
  | 0, hj => exact x_good_0 hj hn h1 h2 h3 h4
  | 1, hj => exact x_good_1 hj hn h1 h2 h3 h4
  | 2, hj => exact x_good_2 hj hn h1 h2 h3 h4
  | 3, hj => exact x_good_3 hj hn h1 h2 h3 h4
  | j + 4, hj => omega
set_option maxRecDepth 20000 in
theorem x_told_0_0 {n vs : Nat} {be de : Int64} {sz : Int32} {ro co mi : Nat → Int64} {T : Nat → Nat → Int64} {B : Nat → Nat → Nat → Int32} {hd : Nat → Nat → Int32} {df : Nat → Int32} (hi : 0 < n) (hn : n ≤ 4) : KX2_told l D ca ad [.ref 0, .int 0, .int 0] (XW (Int32.ofNat n) (Int32.ofNat vs) be de sz ro co mi T B hd df) (some (.int (B 6 0 0))) (XW (Int32.ofNat n) (Int32.ofNat vs) be de sz ro co mi T B hd df) := by
  refine PX2_told (Nat.le_of_ble_eq_true rfl) ?_
  intro G hT hC hR
  refine mB hT 2 rfl ?_
  refine hC.1 _ 0 [_] _ _ _ _ _ (c_isMaking_t (i := 0) hi hn) rfl rfl (Nat.le_of_ble_eq_true rfl) rfl ?_
  refine mB hT 4 rfl ?_
  refine hC.2 _ [_, _, _] _ _ _ _ (c_isWithin_t (by decide) (by decide)) rfl (Nat.le_of_ble_eq_true rfl) rfl ?_
  refine mB hT 8 rfl ?_
  exact hR _ (by decide) _ _ _ rfl rfl
set_option maxRecDepth 20000 in
theorem x_told_0_1 {n vs : Nat} {be de : Int64} {sz : Int32} {ro co mi : Nat → Int64} {T : Nat → Nat → Int64} {B : Nat → Nat → Nat → Int32} {hd : Nat → Nat → Int32} {df : Nat → Int32} (hi : 0 < n) (hn : n ≤ 4) : KX2_told l D ca ad [.ref 0, .int 0, .int 1] (XW (Int32.ofNat n) (Int32.ofNat vs) be de sz ro co mi T B hd df) (some (.int (B 6 0 1))) (XW (Int32.ofNat n) (Int32.ofNat vs) be de sz ro co mi T B hd df) := by
  refine PX2_told (Nat.le_of_ble_eq_true rfl) ?_
  intro G hT hC hR
  refine mB hT 2 rfl ?_
  refine hC.1 _ 0 [_] _ _ _ _ _ (c_isMaking_t (i := 0) hi hn) rfl rfl (Nat.le_of_ble_eq_true rfl) rfl ?_
  refine mB hT 4 rfl ?_
  refine hC.2 _ [_, _, _] _ _ _ _ (c_isWithin_t (by decide) (by decide)) rfl (Nat.le_of_ble_eq_true rfl) rfl ?_
  refine mB hT 8 rfl ?_
  exact hR _ (by decide) _ _ _ rfl rfl
set_option maxRecDepth 20000 in
theorem x_told_0_2 {n vs : Nat} {be de : Int64} {sz : Int32} {ro co mi : Nat → Int64} {T : Nat → Nat → Int64} {B : Nat → Nat → Nat → Int32} {hd : Nat → Nat → Int32} {df : Nat → Int32} (hi : 0 < n) (hn : n ≤ 4) : KX2_told l D ca ad [.ref 0, .int 0, .int 2] (XW (Int32.ofNat n) (Int32.ofNat vs) be de sz ro co mi T B hd df) (some (.int (B 6 0 2))) (XW (Int32.ofNat n) (Int32.ofNat vs) be de sz ro co mi T B hd df) := by
  refine PX2_told (Nat.le_of_ble_eq_true rfl) ?_
  intro G hT hC hR
  refine mB hT 2 rfl ?_
  refine hC.1 _ 0 [_] _ _ _ _ _ (c_isMaking_t (i := 0) hi hn) rfl rfl (Nat.le_of_ble_eq_true rfl) rfl ?_
  refine mB hT 4 rfl ?_
  refine hC.2 _ [_, _, _] _ _ _ _ (c_isWithin_t (by decide) (by decide)) rfl (Nat.le_of_ble_eq_true rfl) rfl ?_
  refine mB hT 8 rfl ?_
  exact hR _ (by decide) _ _ _ rfl rfl
set_option maxRecDepth 20000 in
theorem x_told_0_3 {n vs : Nat} {be de : Int64} {sz : Int32} {ro co mi : Nat → Int64} {T : Nat → Nat → Int64} {B : Nat → Nat → Nat → Int32} {hd : Nat → Nat → Int32} {df : Nat → Int32} (hi : 0 < n) (hn : n ≤ 4) : KX2_told l D ca ad [.ref 0, .int 0, .int 3] (XW (Int32.ofNat n) (Int32.ofNat vs) be de sz ro co mi T B hd df) (some (.int (B 6 0 3))) (XW (Int32.ofNat n) (Int32.ofNat vs) be de sz ro co mi T B hd df) := by
  refine PX2_told (Nat.le_of_ble_eq_true rfl) ?_
  intro G hT hC hR
  refine mB hT 2 rfl ?_
  refine hC.1 _ 0 [_] _ _ _ _ _ (c_isMaking_t (i := 0) hi hn) rfl rfl (Nat.le_of_ble_eq_true rfl) rfl ?_
  refine mB hT 4 rfl ?_
  refine hC.2 _ [_, _, _] _ _ _ _ (c_isWithin_t (by decide) (by decide)) rfl (Nat.le_of_ble_eq_true rfl) rfl ?_
  refine mB hT 8 rfl ?_
  exact hR _ (by decide) _ _ _ rfl rfl
set_option maxRecDepth 20000 in
theorem x_told_0_4 {n vs : Nat} {be de : Int64} {sz : Int32} {ro co mi : Nat → Int64} {T : Nat → Nat → Int64} {B : Nat → Nat → Nat → Int32} {hd : Nat → Nat → Int32} {df : Nat → Int32} (hi : 0 < n) (hn : n ≤ 4) : KX2_told l D ca ad [.ref 0, .int 0, .int 4] (XW (Int32.ofNat n) (Int32.ofNat vs) be de sz ro co mi T B hd df) (some (.int (B 6 0 4))) (XW (Int32.ofNat n) (Int32.ofNat vs) be de sz ro co mi T B hd df) := by
  refine PX2_told (Nat.le_of_ble_eq_true rfl) ?_
  intro G hT hC hR
  refine mB hT 2 rfl ?_
  refine hC.1 _ 0 [_] _ _ _ _ _ (c_isMaking_t (i := 0) hi hn) rfl rfl (Nat.le_of_ble_eq_true rfl) rfl ?_
  refine mB hT 4 rfl ?_
  refine hC.2 _ [_, _, _] _ _ _ _ (c_isWithin_t (by decide) (by decide)) rfl (Nat.le_of_ble_eq_true rfl) rfl ?_
  refine mB hT 8 rfl ?_
  exact hR _ (by decide) _ _ _ rfl rfl
set_option maxRecDepth 20000 in
theorem x_told_0_5 {n vs : Nat} {be de : Int64} {sz : Int32} {ro co mi : Nat → Int64} {T : Nat → Nat → Int64} {B : Nat → Nat → Nat → Int32} {hd : Nat → Nat → Int32} {df : Nat → Int32} (hi : 0 < n) (hn : n ≤ 4) : KX2_told l D ca ad [.ref 0, .int 0, .int 5] (XW (Int32.ofNat n) (Int32.ofNat vs) be de sz ro co mi T B hd df) (some (.int (B 6 0 5))) (XW (Int32.ofNat n) (Int32.ofNat vs) be de sz ro co mi T B hd df) := by
  refine PX2_told (Nat.le_of_ble_eq_true rfl) ?_
  intro G hT hC hR
  refine mB hT 2 rfl ?_
  refine hC.1 _ 0 [_] _ _ _ _ _ (c_isMaking_t (i := 0) hi hn) rfl rfl (Nat.le_of_ble_eq_true rfl) rfl ?_
  refine mB hT 4 rfl ?_
  refine hC.2 _ [_, _, _] _ _ _ _ (c_isWithin_t (by decide) (by decide)) rfl (Nat.le_of_ble_eq_true rfl) rfl ?_
  refine mB hT 8 rfl ?_
  exact hR _ (by decide) _ _ _ rfl rfl
set_option maxRecDepth 20000 in
theorem x_told_0_6 {n vs : Nat} {be de : Int64} {sz : Int32} {ro co mi : Nat → Int64} {T : Nat → Nat → Int64} {B : Nat → Nat → Nat → Int32} {hd : Nat → Nat → Int32} {df : Nat → Int32} (hi : 0 < n) (hn : n ≤ 4) : KX2_told l D ca ad [.ref 0, .int 0, .int 6] (XW (Int32.ofNat n) (Int32.ofNat vs) be de sz ro co mi T B hd df) (some (.int (B 6 0 6))) (XW (Int32.ofNat n) (Int32.ofNat vs) be de sz ro co mi T B hd df) := by
  refine PX2_told (Nat.le_of_ble_eq_true rfl) ?_
  intro G hT hC hR
  refine mB hT 2 rfl ?_
  refine hC.1 _ 0 [_] _ _ _ _ _ (c_isMaking_t (i := 0) hi hn) rfl rfl (Nat.le_of_ble_eq_true rfl) rfl ?_
  refine mB hT 4 rfl ?_
  refine hC.2 _ [_, _, _] _ _ _ _ (c_isWithin_t (by decide) (by decide)) rfl (Nat.le_of_ble_eq_true rfl) rfl ?_
  refine mB hT 8 rfl ?_
  exact hR _ (by decide) _ _ _ rfl rfl
set_option maxRecDepth 20000 in
theorem x_told_0_7 {n vs : Nat} {be de : Int64} {sz : Int32} {ro co mi : Nat → Int64} {T : Nat → Nat → Int64} {B : Nat → Nat → Nat → Int32} {hd : Nat → Nat → Int32} {df : Nat → Int32} (hi : 0 < n) (hn : n ≤ 4) : KX2_told l D ca ad [.ref 0, .int 0, .int 7] (XW (Int32.ofNat n) (Int32.ofNat vs) be de sz ro co mi T B hd df) (some (.int (B 6 0 7))) (XW (Int32.ofNat n) (Int32.ofNat vs) be de sz ro co mi T B hd df) := by
  refine PX2_told (Nat.le_of_ble_eq_true rfl) ?_
  intro G hT hC hR
  refine mB hT 2 rfl ?_
  refine hC.1 _ 0 [_] _ _ _ _ _ (c_isMaking_t (i := 0) hi hn) rfl rfl (Nat.le_of_ble_eq_true rfl) rfl ?_
  refine mB hT 4 rfl ?_
  refine hC.2 _ [_, _, _] _ _ _ _ (c_isWithin_t (by decide) (by decide)) rfl (Nat.le_of_ble_eq_true rfl) rfl ?_
  refine mB hT 8 rfl ?_
  exact hR _ (by decide) _ _ _ rfl rfl
set_option maxRecDepth 20000 in
theorem x_told_0_8 {n vs : Nat} {be de : Int64} {sz : Int32} {ro co mi : Nat → Int64} {T : Nat → Nat → Int64} {B : Nat → Nat → Nat → Int32} {hd : Nat → Nat → Int32} {df : Nat → Int32} (hi : 0 < n) (hn : n ≤ 4) : KX2_told l D ca ad [.ref 0, .int 0, .int 8] (XW (Int32.ofNat n) (Int32.ofNat vs) be de sz ro co mi T B hd df) (some (.int (B 6 0 8))) (XW (Int32.ofNat n) (Int32.ofNat vs) be de sz ro co mi T B hd df) := by
  refine PX2_told (Nat.le_of_ble_eq_true rfl) ?_
  intro G hT hC hR
  refine mB hT 2 rfl ?_
  refine hC.1 _ 0 [_] _ _ _ _ _ (c_isMaking_t (i := 0) hi hn) rfl rfl (Nat.le_of_ble_eq_true rfl) rfl ?_
  refine mB hT 4 rfl ?_
  refine hC.2 _ [_, _, _] _ _ _ _ (c_isWithin_t (by decide) (by decide)) rfl (Nat.le_of_ble_eq_true rfl) rfl ?_
  refine mB hT 8 rfl ?_
  exact hR _ (by decide) _ _ _ rfl rfl
set_option maxRecDepth 20000 in
theorem x_told_0_9 {n vs : Nat} {be de : Int64} {sz : Int32} {ro co mi : Nat → Int64} {T : Nat → Nat → Int64} {B : Nat → Nat → Nat → Int32} {hd : Nat → Nat → Int32} {df : Nat → Int32} (hi : 0 < n) (hn : n ≤ 4) : KX2_told l D ca ad [.ref 0, .int 0, .int 9] (XW (Int32.ofNat n) (Int32.ofNat vs) be de sz ro co mi T B hd df) (some (.int (B 6 0 9))) (XW (Int32.ofNat n) (Int32.ofNat vs) be de sz ro co mi T B hd df) := by
  refine PX2_told (Nat.le_of_ble_eq_true rfl) ?_
  intro G hT hC hR
  refine mB hT 2 rfl ?_
  refine hC.1 _ 0 [_] _ _ _ _ _ (c_isMaking_t (i := 0) hi hn) rfl rfl (Nat.le_of_ble_eq_true rfl) rfl ?_
  refine mB hT 4 rfl ?_
  refine hC.2 _ [_, _, _] _ _ _ _ (c_isWithin_t (by decide) (by decide)) rfl (Nat.le_of_ble_eq_true rfl) rfl ?_
  refine mB hT 8 rfl ?_
  exact hR _ (by decide) _ _ _ rfl rfl
set_option maxRecDepth 20000 in
theorem x_told_0_10 {n vs : Nat} {be de : Int64} {sz : Int32} {ro co mi : Nat → Int64} {T : Nat → Nat → Int64} {B : Nat → Nat → Nat → Int32} {hd : Nat → Nat → Int32} {df : Nat → Int32} (hi : 0 < n) (hn : n ≤ 4) : KX2_told l D ca ad [.ref 0, .int 0, .int 10] (XW (Int32.ofNat n) (Int32.ofNat vs) be de sz ro co mi T B hd df) (some (.int (B 6 0 10))) (XW (Int32.ofNat n) (Int32.ofNat vs) be de sz ro co mi T B hd df) := by
  refine PX2_told (Nat.le_of_ble_eq_true rfl) ?_
  intro G hT hC hR
  refine mB hT 2 rfl ?_
  refine hC.1 _ 0 [_] _ _ _ _ _ (c_isMaking_t (i := 0) hi hn) rfl rfl (Nat.le_of_ble_eq_true rfl) rfl ?_
  refine mB hT 4 rfl ?_
  refine hC.2 _ [_, _, _] _ _ _ _ (c_isWithin_t (by decide) (by decide)) rfl (Nat.le_of_ble_eq_true rfl) rfl ?_
  refine mB hT 8 rfl ?_
  exact hR _ (by decide) _ _ _ rfl rfl
set_option maxRecDepth 20000 in
theorem x_told_0_11 {n vs : Nat} {be de : Int64} {sz : Int32} {ro co mi : Nat → Int64} {T : Nat → Nat → Int64} {B : Nat → Nat → Nat → Int32} {hd : Nat → Nat → Int32} {df : Nat → Int32} (hi : 0 < n) (hn : n ≤ 4) : KX2_told l D ca ad [.ref 0, .int 0, .int 11] (XW (Int32.ofNat n) (Int32.ofNat vs) be de sz ro co mi T B hd df) (some (.int (B 6 0 11))) (XW (Int32.ofNat n) (Int32.ofNat vs) be de sz ro co mi T B hd df) := by
  refine PX2_told (Nat.le_of_ble_eq_true rfl) ?_
  intro G hT hC hR
  refine mB hT 2 rfl ?_
  refine hC.1 _ 0 [_] _ _ _ _ _ (c_isMaking_t (i := 0) hi hn) rfl rfl (Nat.le_of_ble_eq_true rfl) rfl ?_
  refine mB hT 4 rfl ?_
  refine hC.2 _ [_, _, _] _ _ _ _ (c_isWithin_t (by decide) (by decide)) rfl (Nat.le_of_ble_eq_true rfl) rfl ?_
  refine mB hT 8 rfl ?_
  exact hR _ (by decide) _ _ _ rfl rfl
set_option maxRecDepth 20000 in
theorem x_told_0_12 {n vs : Nat} {be de : Int64} {sz : Int32} {ro co mi : Nat → Int64} {T : Nat → Nat → Int64} {B : Nat → Nat → Nat → Int32} {hd : Nat → Nat → Int32} {df : Nat → Int32} (hi : 0 < n) (hn : n ≤ 4) : KX2_told l D ca ad [.ref 0, .int 0, .int 12] (XW (Int32.ofNat n) (Int32.ofNat vs) be de sz ro co mi T B hd df) (some (.int (B 6 0 12))) (XW (Int32.ofNat n) (Int32.ofNat vs) be de sz ro co mi T B hd df) := by
  refine PX2_told (Nat.le_of_ble_eq_true rfl) ?_
  intro G hT hC hR
  refine mB hT 2 rfl ?_
  refine hC.1 _ 0 [_] _ _ _ _ _ (c_isMaking_t (i := 0) hi hn) rfl rfl (Nat.le_of_ble_eq_true rfl) rfl ?_
  refine mB hT 4 rfl ?_
  refine hC.2 _ [_, _, _] _ _ _ _ (c_isWithin_t (by decide) (by decide)) rfl (Nat.le_of_ble_eq_true rfl) rfl ?_
  refine mB hT 8 rfl ?_
  exact hR _ (by decide) _ _ _ rfl rfl
set_option maxRecDepth 20000 in
theorem x_told_0_13 {n vs : Nat} {be de : Int64} {sz : Int32} {ro co mi : Nat → Int64} {T : Nat → Nat → Int64} {B : Nat → Nat → Nat → Int32} {hd : Nat → Nat → Int32} {df : Nat → Int32} (hi : 0 < n) (hn : n ≤ 4) : KX2_told l D ca ad [.ref 0, .int 0, .int 13] (XW (Int32.ofNat n) (Int32.ofNat vs) be de sz ro co mi T B hd df) (some (.int (B 6 0 13))) (XW (Int32.ofNat n) (Int32.ofNat vs) be de sz ro co mi T B hd df) := by
  refine PX2_told (Nat.le_of_ble_eq_true rfl) ?_
  intro G hT hC hR
  refine mB hT 2 rfl ?_
  refine hC.1 _ 0 [_] _ _ _ _ _ (c_isMaking_t (i := 0) hi hn) rfl rfl (Nat.le_of_ble_eq_true rfl) rfl ?_
  refine mB hT 4 rfl ?_
  refine hC.2 _ [_, _, _] _ _ _ _ (c_isWithin_t (by decide) (by decide)) rfl (Nat.le_of_ble_eq_true rfl) rfl ?_
  refine mB hT 8 rfl ?_
  exact hR _ (by decide) _ _ _ rfl rfl
set_option maxRecDepth 20000 in
theorem x_told_0_14 {n vs : Nat} {be de : Int64} {sz : Int32} {ro co mi : Nat → Int64} {T : Nat → Nat → Int64} {B : Nat → Nat → Nat → Int32} {hd : Nat → Nat → Int32} {df : Nat → Int32} (hi : 0 < n) (hn : n ≤ 4) : KX2_told l D ca ad [.ref 0, .int 0, .int 14] (XW (Int32.ofNat n) (Int32.ofNat vs) be de sz ro co mi T B hd df) (some (.int (B 6 0 14))) (XW (Int32.ofNat n) (Int32.ofNat vs) be de sz ro co mi T B hd df) := by
  refine PX2_told (Nat.le_of_ble_eq_true rfl) ?_
  intro G hT hC hR
  refine mB hT 2 rfl ?_
  refine hC.1 _ 0 [_] _ _ _ _ _ (c_isMaking_t (i := 0) hi hn) rfl rfl (Nat.le_of_ble_eq_true rfl) rfl ?_
  refine mB hT 4 rfl ?_
  refine hC.2 _ [_, _, _] _ _ _ _ (c_isWithin_t (by decide) (by decide)) rfl (Nat.le_of_ble_eq_true rfl) rfl ?_
  refine mB hT 8 rfl ?_
  exact hR _ (by decide) _ _ _ rfl rfl
set_option maxRecDepth 20000 in
theorem x_told_0_15 {n vs : Nat} {be de : Int64} {sz : Int32} {ro co mi : Nat → Int64} {T : Nat → Nat → Int64} {B : Nat → Nat → Nat → Int32} {hd : Nat → Nat → Int32} {df : Nat → Int32} (hi : 0 < n) (hn : n ≤ 4) : KX2_told l D ca ad [.ref 0, .int 0, .int 15] (XW (Int32.ofNat n) (Int32.ofNat vs) be de sz ro co mi T B hd df) (some (.int (B 6 0 15))) (XW (Int32.ofNat n) (Int32.ofNat vs) be de sz ro co mi T B hd df) := by
  refine PX2_told (Nat.le_of_ble_eq_true rfl) ?_
  intro G hT hC hR
  refine mB hT 2 rfl ?_
  refine hC.1 _ 0 [_] _ _ _ _ _ (c_isMaking_t (i := 0) hi hn) rfl rfl (Nat.le_of_ble_eq_true rfl) rfl ?_
  refine mB hT 4 rfl ?_
  refine hC.2 _ [_, _, _] _ _ _ _ (c_isWithin_t (by decide) (by decide)) rfl (Nat.le_of_ble_eq_true rfl) rfl ?_
  refine mB hT 8 rfl ?_
  exact hR _ (by decide) _ _ _ rfl rfl
set_option maxRecDepth 20000 in
theorem x_told_0_16 {n vs : Nat} {be de : Int64} {sz : Int32} {ro co mi : Nat → Int64} {T : Nat → Nat → Int64} {B : Nat → Nat → Nat → Int32} {hd : Nat → Nat → Int32} {df : Nat → Int32} (hi : 0 < n) (hn : n ≤ 4) : KX2_told l D ca ad [.ref 0, .int 0, .int 16] (XW (Int32.ofNat n) (Int32.ofNat vs) be de sz ro co mi T B hd df) (some (.int (B 6 0 16))) (XW (Int32.ofNat n) (Int32.ofNat vs) be de sz ro co mi T B hd df) := by
  refine PX2_told (Nat.le_of_ble_eq_true rfl) ?_
  intro G hT hC hR
  refine mB hT 2 rfl ?_
  refine hC.1 _ 0 [_] _ _ _ _ _ (c_isMaking_t (i := 0) hi hn) rfl rfl (Nat.le_of_ble_eq_true rfl) rfl ?_
  refine mB hT 4 rfl ?_
  refine hC.2 _ [_, _, _] _ _ _ _ (c_isWithin_t (by decide) (by decide)) rfl (Nat.le_of_ble_eq_true rfl) rfl ?_
  refine mB hT 8 rfl ?_
  exact hR _ (by decide) _ _ _ rfl rfl
set_option maxRecDepth 20000 in
theorem x_told_0_17 {n vs : Nat} {be de : Int64} {sz : Int32} {ro co mi : Nat → Int64} {T : Nat → Nat → Int64} {B : Nat → Nat → Nat → Int32} {hd : Nat → Nat → Int32} {df : Nat → Int32} (hi : 0 < n) (hn : n ≤ 4) : KX2_told l D ca ad [.ref 0, .int 0, .int 17] (XW (Int32.ofNat n) (Int32.ofNat vs) be de sz ro co mi T B hd df) (some (.int (B 6 0 17))) (XW (Int32.ofNat n) (Int32.ofNat vs) be de sz ro co mi T B hd df) := by
  refine PX2_told (Nat.le_of_ble_eq_true rfl) ?_
  intro G hT hC hR
  refine mB hT 2 rfl ?_
  refine hC.1 _ 0 [_] _ _ _ _ _ (c_isMaking_t (i := 0) hi hn) rfl rfl (Nat.le_of_ble_eq_true rfl) rfl ?_
  refine mB hT 4 rfl ?_
  refine hC.2 _ [_, _, _] _ _ _ _ (c_isWithin_t (by decide) (by decide)) rfl (Nat.le_of_ble_eq_true rfl) rfl ?_
  refine mB hT 8 rfl ?_
  exact hR _ (by decide) _ _ _ rfl rfl
set_option maxRecDepth 20000 in
theorem x_told_0_18 {n vs : Nat} {be de : Int64} {sz : Int32} {ro co mi : Nat → Int64} {T : Nat → Nat → Int64} {B : Nat → Nat → Nat → Int32} {hd : Nat → Nat → Int32} {df : Nat → Int32} (hi : 0 < n) (hn : n ≤ 4) : KX2_told l D ca ad [.ref 0, .int 0, .int 18] (XW (Int32.ofNat n) (Int32.ofNat vs) be de sz ro co mi T B hd df) (some (.int (B 6 0 18))) (XW (Int32.ofNat n) (Int32.ofNat vs) be de sz ro co mi T B hd df) := by
  refine PX2_told (Nat.le_of_ble_eq_true rfl) ?_
  intro G hT hC hR
  refine mB hT 2 rfl ?_
  refine hC.1 _ 0 [_] _ _ _ _ _ (c_isMaking_t (i := 0) hi hn) rfl rfl (Nat.le_of_ble_eq_true rfl) rfl ?_
  refine mB hT 4 rfl ?_
  refine hC.2 _ [_, _, _] _ _ _ _ (c_isWithin_t (by decide) (by decide)) rfl (Nat.le_of_ble_eq_true rfl) rfl ?_
  refine mB hT 8 rfl ?_
  exact hR _ (by decide) _ _ _ rfl rfl
set_option maxRecDepth 20000 in
theorem x_told_0_19 {n vs : Nat} {be de : Int64} {sz : Int32} {ro co mi : Nat → Int64} {T : Nat → Nat → Int64} {B : Nat → Nat → Nat → Int32} {hd : Nat → Nat → Int32} {df : Nat → Int32} (hi : 0 < n) (hn : n ≤ 4) : KX2_told l D ca ad [.ref 0, .int 0, .int 19] (XW (Int32.ofNat n) (Int32.ofNat vs) be de sz ro co mi T B hd df) (some (.int (B 6 0 19))) (XW (Int32.ofNat n) (Int32.ofNat vs) be de sz ro co mi T B hd df) := by
  refine PX2_told (Nat.le_of_ble_eq_true rfl) ?_
  intro G hT hC hR
  refine mB hT 2 rfl ?_
  refine hC.1 _ 0 [_] _ _ _ _ _ (c_isMaking_t (i := 0) hi hn) rfl rfl (Nat.le_of_ble_eq_true rfl) rfl ?_
  refine mB hT 4 rfl ?_
  refine hC.2 _ [_, _, _] _ _ _ _ (c_isWithin_t (by decide) (by decide)) rfl (Nat.le_of_ble_eq_true rfl) rfl ?_
  refine mB hT 8 rfl ?_
  exact hR _ (by decide) _ _ _ rfl rfl
set_option maxRecDepth 20000 in
theorem x_told_0_20 {n vs : Nat} {be de : Int64} {sz : Int32} {ro co mi : Nat → Int64} {T : Nat → Nat → Int64} {B : Nat → Nat → Nat → Int32} {hd : Nat → Nat → Int32} {df : Nat → Int32} (hi : 0 < n) (hn : n ≤ 4) : KX2_told l D ca ad [.ref 0, .int 0, .int 20] (XW (Int32.ofNat n) (Int32.ofNat vs) be de sz ro co mi T B hd df) (some (.int (B 6 0 20))) (XW (Int32.ofNat n) (Int32.ofNat vs) be de sz ro co mi T B hd df) := by
  refine PX2_told (Nat.le_of_ble_eq_true rfl) ?_
  intro G hT hC hR
  refine mB hT 2 rfl ?_
  refine hC.1 _ 0 [_] _ _ _ _ _ (c_isMaking_t (i := 0) hi hn) rfl rfl (Nat.le_of_ble_eq_true rfl) rfl ?_
  refine mB hT 4 rfl ?_
  refine hC.2 _ [_, _, _] _ _ _ _ (c_isWithin_t (by decide) (by decide)) rfl (Nat.le_of_ble_eq_true rfl) rfl ?_
  refine mB hT 8 rfl ?_
  exact hR _ (by decide) _ _ _ rfl rfl
set_option maxRecDepth 20000 in
theorem x_told_0_21 {n vs : Nat} {be de : Int64} {sz : Int32} {ro co mi : Nat → Int64} {T : Nat → Nat → Int64} {B : Nat → Nat → Nat → Int32} {hd : Nat → Nat → Int32} {df : Nat → Int32} (hi : 0 < n) (hn : n ≤ 4) : KX2_told l D ca ad [.ref 0, .int 0, .int 21] (XW (Int32.ofNat n) (Int32.ofNat vs) be de sz ro co mi T B hd df) (some (.int (B 6 0 21))) (XW (Int32.ofNat n) (Int32.ofNat vs) be de sz ro co mi T B hd df) := by
  refine PX2_told (Nat.le_of_ble_eq_true rfl) ?_
  intro G hT hC hR
  refine mB hT 2 rfl ?_
  refine hC.1 _ 0 [_] _ _ _ _ _ (c_isMaking_t (i := 0) hi hn) rfl rfl (Nat.le_of_ble_eq_true rfl) rfl ?_
  refine mB hT 4 rfl ?_
  refine hC.2 _ [_, _, _] _ _ _ _ (c_isWithin_t (by decide) (by decide)) rfl (Nat.le_of_ble_eq_true rfl) rfl ?_
  refine mB hT 8 rfl ?_
  exact hR _ (by decide) _ _ _ rfl rfl
set_option maxRecDepth 20000 in
theorem x_told_0_22 {n vs : Nat} {be de : Int64} {sz : Int32} {ro co mi : Nat → Int64} {T : Nat → Nat → Int64} {B : Nat → Nat → Nat → Int32} {hd : Nat → Nat → Int32} {df : Nat → Int32} (hi : 0 < n) (hn : n ≤ 4) : KX2_told l D ca ad [.ref 0, .int 0, .int 22] (XW (Int32.ofNat n) (Int32.ofNat vs) be de sz ro co mi T B hd df) (some (.int (B 6 0 22))) (XW (Int32.ofNat n) (Int32.ofNat vs) be de sz ro co mi T B hd df) := by
  refine PX2_told (Nat.le_of_ble_eq_true rfl) ?_
  intro G hT hC hR
  refine mB hT 2 rfl ?_
  refine hC.1 _ 0 [_] _ _ _ _ _ (c_isMaking_t (i := 0) hi hn) rfl rfl (Nat.le_of_ble_eq_true rfl) rfl ?_
  refine mB hT 4 rfl ?_
  refine hC.2 _ [_, _, _] _ _ _ _ (c_isWithin_t (by decide) (by decide)) rfl (Nat.le_of_ble_eq_true rfl) rfl ?_
  refine mB hT 8 rfl ?_
  exact hR _ (by decide) _ _ _ rfl rfl
set_option maxRecDepth 20000 in
theorem x_told_1_0 {n vs : Nat} {be de : Int64} {sz : Int32} {ro co mi : Nat → Int64} {T : Nat → Nat → Int64} {B : Nat → Nat → Nat → Int32} {hd : Nat → Nat → Int32} {df : Nat → Int32} (hi : 1 < n) (hn : n ≤ 4) : KX2_told l D ca ad [.ref 0, .int 1, .int 0] (XW (Int32.ofNat n) (Int32.ofNat vs) be de sz ro co mi T B hd df) (some (.int (B 6 1 0))) (XW (Int32.ofNat n) (Int32.ofNat vs) be de sz ro co mi T B hd df) := by
  refine PX2_told (Nat.le_of_ble_eq_true rfl) ?_
  intro G hT hC hR
  refine mB hT 2 rfl ?_
  refine hC.1 _ 0 [_] _ _ _ _ _ (c_isMaking_t (i := 1) hi hn) rfl rfl (Nat.le_of_ble_eq_true rfl) rfl ?_
  refine mB hT 4 rfl ?_
  refine hC.2 _ [_, _, _] _ _ _ _ (c_isWithin_t (by decide) (by decide)) rfl (Nat.le_of_ble_eq_true rfl) rfl ?_
  refine mB hT 8 rfl ?_
  exact hR _ (by decide) _ _ _ rfl rfl
set_option maxRecDepth 20000 in
theorem x_told_1_1 {n vs : Nat} {be de : Int64} {sz : Int32} {ro co mi : Nat → Int64} {T : Nat → Nat → Int64} {B : Nat → Nat → Nat → Int32} {hd : Nat → Nat → Int32} {df : Nat → Int32} (hi : 1 < n) (hn : n ≤ 4) : KX2_told l D ca ad [.ref 0, .int 1, .int 1] (XW (Int32.ofNat n) (Int32.ofNat vs) be de sz ro co mi T B hd df) (some (.int (B 6 1 1))) (XW (Int32.ofNat n) (Int32.ofNat vs) be de sz ro co mi T B hd df) := by
  refine PX2_told (Nat.le_of_ble_eq_true rfl) ?_
  intro G hT hC hR
  refine mB hT 2 rfl ?_
  refine hC.1 _ 0 [_] _ _ _ _ _ (c_isMaking_t (i := 1) hi hn) rfl rfl (Nat.le_of_ble_eq_true rfl) rfl ?_
  refine mB hT 4 rfl ?_
  refine hC.2 _ [_, _, _] _ _ _ _ (c_isWithin_t (by decide) (by decide)) rfl (Nat.le_of_ble_eq_true rfl) rfl ?_
  refine mB hT 8 rfl ?_
  exact hR _ (by decide) _ _ _ rfl rfl
set_option maxRecDepth 20000 in
theorem x_told_1_2 {n vs : Nat} {be de : Int64} {sz : Int32} {ro co mi : Nat → Int64} {T : Nat → Nat → Int64} {B : Nat → Nat → Nat → Int32} {hd : Nat → Nat → Int32} {df : Nat → Int32} (hi : 1 < n) (hn : n ≤ 4) : KX2_told l D ca ad [.ref 0, .int 1, .int 2] (XW (Int32.ofNat n) (Int32.ofNat vs) be de sz ro co mi T B hd df) (some (.int (B 6 1 2))) (XW (Int32.ofNat n) (Int32.ofNat vs) be de sz ro co mi T B hd df) := by
  refine PX2_told (Nat.le_of_ble_eq_true rfl) ?_
  intro G hT hC hR
  refine mB hT 2 rfl ?_
  refine hC.1 _ 0 [_] _ _ _ _ _ (c_isMaking_t (i := 1) hi hn) rfl rfl (Nat.le_of_ble_eq_true rfl) rfl ?_
  refine mB hT 4 rfl ?_
  refine hC.2 _ [_, _, _] _ _ _ _ (c_isWithin_t (by decide) (by decide)) rfl (Nat.le_of_ble_eq_true rfl) rfl ?_
  refine mB hT 8 rfl ?_
  exact hR _ (by decide) _ _ _ rfl rfl
set_option maxRecDepth 20000 in
theorem x_told_1_3 {n vs : Nat} {be de : Int64} {sz : Int32} {ro co mi : Nat → Int64} {T : Nat → Nat → Int64} {B : Nat → Nat → Nat → Int32} {hd : Nat → Nat → Int32} {df : Nat → Int32} (hi : 1 < n) (hn : n ≤ 4) : KX2_told l D ca ad [.ref 0, .int 1, .int 3] (XW (Int32.ofNat n) (Int32.ofNat vs) be de sz ro co mi T B hd df) (some (.int (B 6 1 3))) (XW (Int32.ofNat n) (Int32.ofNat vs) be de sz ro co mi T B hd df) := by
  refine PX2_told (Nat.le_of_ble_eq_true rfl) ?_
  intro G hT hC hR
  refine mB hT 2 rfl ?_
  refine hC.1 _ 0 [_] _ _ _ _ _ (c_isMaking_t (i := 1) hi hn) rfl rfl (Nat.le_of_ble_eq_true rfl) rfl ?_
  refine mB hT 4 rfl ?_
  refine hC.2 _ [_, _, _] _ _ _ _ (c_isWithin_t (by decide) (by decide)) rfl (Nat.le_of_ble_eq_true rfl) rfl ?_
  refine mB hT 8 rfl ?_
  exact hR _ (by decide) _ _ _ rfl rfl
set_option maxRecDepth 20000 in
theorem x_told_1_4 {n vs : Nat} {be de : Int64} {sz : Int32} {ro co mi : Nat → Int64} {T : Nat → Nat → Int64} {B : Nat → Nat → Nat → Int32} {hd : Nat → Nat → Int32} {df : Nat → Int32} (hi : 1 < n) (hn : n ≤ 4) : KX2_told l D ca ad [.ref 0, .int 1, .int 4] (XW (Int32.ofNat n) (Int32.ofNat vs) be de sz ro co mi T B hd df) (some (.int (B 6 1 4))) (XW (Int32.ofNat n) (Int32.ofNat vs) be de sz ro co mi T B hd df) := by
  refine PX2_told (Nat.le_of_ble_eq_true rfl) ?_
  intro G hT hC hR
  refine mB hT 2 rfl ?_
  refine hC.1 _ 0 [_] _ _ _ _ _ (c_isMaking_t (i := 1) hi hn) rfl rfl (Nat.le_of_ble_eq_true rfl) rfl ?_
  refine mB hT 4 rfl ?_
  refine hC.2 _ [_, _, _] _ _ _ _ (c_isWithin_t (by decide) (by decide)) rfl (Nat.le_of_ble_eq_true rfl) rfl ?_
  refine mB hT 8 rfl ?_
  exact hR _ (by decide) _ _ _ rfl rfl
set_option maxRecDepth 20000 in
theorem x_told_1_5 {n vs : Nat} {be de : Int64} {sz : Int32} {ro co mi : Nat → Int64} {T : Nat → Nat → Int64} {B : Nat → Nat → Nat → Int32} {hd : Nat → Nat → Int32} {df : Nat → Int32} (hi : 1 < n) (hn : n ≤ 4) : KX2_told l D ca ad [.ref 0, .int 1, .int 5] (XW (Int32.ofNat n) (Int32.ofNat vs) be de sz ro co mi T B hd df) (some (.int (B 6 1 5))) (XW (Int32.ofNat n) (Int32.ofNat vs) be de sz ro co mi T B hd df) := by
  refine PX2_told (Nat.le_of_ble_eq_true rfl) ?_
  intro G hT hC hR
  refine mB hT 2 rfl ?_
  refine hC.1 _ 0 [_] _ _ _ _ _ (c_isMaking_t (i := 1) hi hn) rfl rfl (Nat.le_of_ble_eq_true rfl) rfl ?_
  refine mB hT 4 rfl ?_
  refine hC.2 _ [_, _, _] _ _ _ _ (c_isWithin_t (by decide) (by decide)) rfl (Nat.le_of_ble_eq_true rfl) rfl ?_
  refine mB hT 8 rfl ?_
  exact hR _ (by decide) _ _ _ rfl rfl
set_option maxRecDepth 20000 in
theorem x_told_1_6 {n vs : Nat} {be de : Int64} {sz : Int32} {ro co mi : Nat → Int64} {T : Nat → Nat → Int64} {B : Nat → Nat → Nat → Int32} {hd : Nat → Nat → Int32} {df : Nat → Int32} (hi : 1 < n) (hn : n ≤ 4) : KX2_told l D ca ad [.ref 0, .int 1, .int 6] (XW (Int32.ofNat n) (Int32.ofNat vs) be de sz ro co mi T B hd df) (some (.int (B 6 1 6))) (XW (Int32.ofNat n) (Int32.ofNat vs) be de sz ro co mi T B hd df) := by
  refine PX2_told (Nat.le_of_ble_eq_true rfl) ?_
  intro G hT hC hR
  refine mB hT 2 rfl ?_
  refine hC.1 _ 0 [_] _ _ _ _ _ (c_isMaking_t (i := 1) hi hn) rfl rfl (Nat.le_of_ble_eq_true rfl) rfl ?_
  refine mB hT 4 rfl ?_
  refine hC.2 _ [_, _, _] _ _ _ _ (c_isWithin_t (by decide) (by decide)) rfl (Nat.le_of_ble_eq_true rfl) rfl ?_
  refine mB hT 8 rfl ?_
  exact hR _ (by decide) _ _ _ rfl rfl
set_option maxRecDepth 20000 in
theorem x_told_1_7 {n vs : Nat} {be de : Int64} {sz : Int32} {ro co mi : Nat → Int64} {T : Nat → Nat → Int64} {B : Nat → Nat → Nat → Int32} {hd : Nat → Nat → Int32} {df : Nat → Int32} (hi : 1 < n) (hn : n ≤ 4) : KX2_told l D ca ad [.ref 0, .int 1, .int 7] (XW (Int32.ofNat n) (Int32.ofNat vs) be de sz ro co mi T B hd df) (some (.int (B 6 1 7))) (XW (Int32.ofNat n) (Int32.ofNat vs) be de sz ro co mi T B hd df) := by
  refine PX2_told (Nat.le_of_ble_eq_true rfl) ?_
  intro G hT hC hR
  refine mB hT 2 rfl ?_
  refine hC.1 _ 0 [_] _ _ _ _ _ (c_isMaking_t (i := 1) hi hn) rfl rfl (Nat.le_of_ble_eq_true rfl) rfl ?_
  refine mB hT 4 rfl ?_
  refine hC.2 _ [_, _, _] _ _ _ _ (c_isWithin_t (by decide) (by decide)) rfl (Nat.le_of_ble_eq_true rfl) rfl ?_
  refine mB hT 8 rfl ?_
  exact hR _ (by decide) _ _ _ rfl rfl
set_option maxRecDepth 20000 in
theorem x_told_1_8 {n vs : Nat} {be de : Int64} {sz : Int32} {ro co mi : Nat → Int64} {T : Nat → Nat → Int64} {B : Nat → Nat → Nat → Int32} {hd : Nat → Nat → Int32} {df : Nat → Int32} (hi : 1 < n) (hn : n ≤ 4) : KX2_told l D ca ad [.ref 0, .int 1, .int 8] (XW (Int32.ofNat n) (Int32.ofNat vs) be de sz ro co mi T B hd df) (some (.int (B 6 1 8))) (XW (Int32.ofNat n) (Int32.ofNat vs) be de sz ro co mi T B hd df) := by
  refine PX2_told (Nat.le_of_ble_eq_true rfl) ?_
  intro G hT hC hR
  refine mB hT 2 rfl ?_
  refine hC.1 _ 0 [_] _ _ _ _ _ (c_isMaking_t (i := 1) hi hn) rfl rfl (Nat.le_of_ble_eq_true rfl) rfl ?_
  refine mB hT 4 rfl ?_
  refine hC.2 _ [_, _, _] _ _ _ _ (c_isWithin_t (by decide) (by decide)) rfl (Nat.le_of_ble_eq_true rfl) rfl ?_
  refine mB hT 8 rfl ?_
  exact hR _ (by decide) _ _ _ rfl rfl
set_option maxRecDepth 20000 in
theorem x_told_1_9 {n vs : Nat} {be de : Int64} {sz : Int32} {ro co mi : Nat → Int64} {T : Nat → Nat → Int64} {B : Nat → Nat → Nat → Int32} {hd : Nat → Nat → Int32} {df : Nat → Int32} (hi : 1 < n) (hn : n ≤ 4) : KX2_told l D ca ad [.ref 0, .int 1, .int 9] (XW (Int32.ofNat n) (Int32.ofNat vs) be de sz ro co mi T B hd df) (some (.int (B 6 1 9))) (XW (Int32.ofNat n) (Int32.ofNat vs) be de sz ro co mi T B hd df) := by
  refine PX2_told (Nat.le_of_ble_eq_true rfl) ?_
  intro G hT hC hR
  refine mB hT 2 rfl ?_
  refine hC.1 _ 0 [_] _ _ _ _ _ (c_isMaking_t (i := 1) hi hn) rfl rfl (Nat.le_of_ble_eq_true rfl) rfl ?_
  refine mB hT 4 rfl ?_
  refine hC.2 _ [_, _, _] _ _ _ _ (c_isWithin_t (by decide) (by decide)) rfl (Nat.le_of_ble_eq_true rfl) rfl ?_
  refine mB hT 8 rfl ?_
  exact hR _ (by decide) _ _ _ rfl rfl
set_option maxRecDepth 20000 in
theorem x_told_1_10 {n vs : Nat} {be de : Int64} {sz : Int32} {ro co mi : Nat → Int64} {T : Nat → Nat → Int64} {B : Nat → Nat → Nat → Int32} {hd : Nat → Nat → Int32} {df : Nat → Int32} (hi : 1 < n) (hn : n ≤ 4) : KX2_told l D ca ad [.ref 0, .int 1, .int 10] (XW (Int32.ofNat n) (Int32.ofNat vs) be de sz ro co mi T B hd df) (some (.int (B 6 1 10))) (XW (Int32.ofNat n) (Int32.ofNat vs) be de sz ro co mi T B hd df) := by
  refine PX2_told (Nat.le_of_ble_eq_true rfl) ?_
  intro G hT hC hR
  refine mB hT 2 rfl ?_
  refine hC.1 _ 0 [_] _ _ _ _ _ (c_isMaking_t (i := 1) hi hn) rfl rfl (Nat.le_of_ble_eq_true rfl) rfl ?_
  refine mB hT 4 rfl ?_
  refine hC.2 _ [_, _, _] _ _ _ _ (c_isWithin_t (by decide) (by decide)) rfl (Nat.le_of_ble_eq_true rfl) rfl ?_
  refine mB hT 8 rfl ?_
  exact hR _ (by decide) _ _ _ rfl rfl
set_option maxRecDepth 20000 in
theorem x_told_1_11 {n vs : Nat} {be de : Int64} {sz : Int32} {ro co mi : Nat → Int64} {T : Nat → Nat → Int64} {B : Nat → Nat → Nat → Int32} {hd : Nat → Nat → Int32} {df : Nat → Int32} (hi : 1 < n) (hn : n ≤ 4) : KX2_told l D ca ad [.ref 0, .int 1, .int 11] (XW (Int32.ofNat n) (Int32.ofNat vs) be de sz ro co mi T B hd df) (some (.int (B 6 1 11))) (XW (Int32.ofNat n) (Int32.ofNat vs) be de sz ro co mi T B hd df) := by
  refine PX2_told (Nat.le_of_ble_eq_true rfl) ?_
  intro G hT hC hR
  refine mB hT 2 rfl ?_
  refine hC.1 _ 0 [_] _ _ _ _ _ (c_isMaking_t (i := 1) hi hn) rfl rfl (Nat.le_of_ble_eq_true rfl) rfl ?_
  refine mB hT 4 rfl ?_
  refine hC.2 _ [_, _, _] _ _ _ _ (c_isWithin_t (by decide) (by decide)) rfl (Nat.le_of_ble_eq_true rfl) rfl ?_
  refine mB hT 8 rfl ?_
  exact hR _ (by decide) _ _ _ rfl rfl
set_option maxRecDepth 20000 in
theorem x_told_1_12 {n vs : Nat} {be de : Int64} {sz : Int32} {ro co mi : Nat → Int64} {T : Nat → Nat → Int64} {B : Nat → Nat → Nat → Int32} {hd : Nat → Nat → Int32} {df : Nat → Int32} (hi : 1 < n) (hn : n ≤ 4) : KX2_told l D ca ad [.ref 0, .int 1, .int 12] (XW (Int32.ofNat n) (Int32.ofNat vs) be de sz ro co mi T B hd df) (some (.int (B 6 1 12))) (XW (Int32.ofNat n) (Int32.ofNat vs) be de sz ro co mi T B hd df) := by
  refine PX2_told (Nat.le_of_ble_eq_true rfl) ?_
  intro G hT hC hR
  refine mB hT 2 rfl ?_
  refine hC.1 _ 0 [_] _ _ _ _ _ (c_isMaking_t (i := 1) hi hn) rfl rfl (Nat.le_of_ble_eq_true rfl) rfl ?_
  refine mB hT 4 rfl ?_
  refine hC.2 _ [_, _, _] _ _ _ _ (c_isWithin_t (by decide) (by decide)) rfl (Nat.le_of_ble_eq_true rfl) rfl ?_
  refine mB hT 8 rfl ?_
  exact hR _ (by decide) _ _ _ rfl rfl
set_option maxRecDepth 20000 in
theorem x_told_1_13 {n vs : Nat} {be de : Int64} {sz : Int32} {ro co mi : Nat → Int64} {T : Nat → Nat → Int64} {B : Nat → Nat → Nat → Int32} {hd : Nat → Nat → Int32} {df : Nat → Int32} (hi : 1 < n) (hn : n ≤ 4) : KX2_told l D ca ad [.ref 0, .int 1, .int 13] (XW (Int32.ofNat n) (Int32.ofNat vs) be de sz ro co mi T B hd df) (some (.int (B 6 1 13))) (XW (Int32.ofNat n) (Int32.ofNat vs) be de sz ro co mi T B hd df) := by
  refine PX2_told (Nat.le_of_ble_eq_true rfl) ?_
  intro G hT hC hR
  refine mB hT 2 rfl ?_
  refine hC.1 _ 0 [_] _ _ _ _ _ (c_isMaking_t (i := 1) hi hn) rfl rfl (Nat.le_of_ble_eq_true rfl) rfl ?_
  refine mB hT 4 rfl ?_
  refine hC.2 _ [_, _, _] _ _ _ _ (c_isWithin_t (by decide) (by decide)) rfl (Nat.le_of_ble_eq_true rfl) rfl ?_
  refine mB hT 8 rfl ?_
  exact hR _ (by decide) _ _ _ rfl rfl
set_option maxRecDepth 20000 in
theorem x_told_1_14 {n vs : Nat} {be de : Int64} {sz : Int32} {ro co mi : Nat → Int64} {T : Nat → Nat → Int64} {B : Nat → Nat → Nat → Int32} {hd : Nat → Nat → Int32} {df : Nat → Int32} (hi : 1 < n) (hn : n ≤ 4) : KX2_told l D ca ad [.ref 0, .int 1, .int 14] (XW (Int32.ofNat n) (Int32.ofNat vs) be de sz ro co mi T B hd df) (some (.int (B 6 1 14))) (XW (Int32.ofNat n) (Int32.ofNat vs) be de sz ro co mi T B hd df) := by
  refine PX2_told (Nat.le_of_ble_eq_true rfl) ?_
  intro G hT hC hR
  refine mB hT 2 rfl ?_
  refine hC.1 _ 0 [_] _ _ _ _ _ (c_isMaking_t (i := 1) hi hn) rfl rfl (Nat.le_of_ble_eq_true rfl) rfl ?_
  refine mB hT 4 rfl ?_
  refine hC.2 _ [_, _, _] _ _ _ _ (c_isWithin_t (by decide) (by decide)) rfl (Nat.le_of_ble_eq_true rfl) rfl ?_
  refine mB hT 8 rfl ?_
  exact hR _ (by decide) _ _ _ rfl rfl
set_option maxRecDepth 20000 in
theorem x_told_1_15 {n vs : Nat} {be de : Int64} {sz : Int32} {ro co mi : Nat → Int64} {T : Nat → Nat → Int64} {B : Nat → Nat → Nat → Int32} {hd : Nat → Nat → Int32} {df : Nat → Int32} (hi : 1 < n) (hn : n ≤ 4) : KX2_told l D ca ad [.ref 0, .int 1, .int 15] (XW (Int32.ofNat n) (Int32.ofNat vs) be de sz ro co mi T B hd df) (some (.int (B 6 1 15))) (XW (Int32.ofNat n) (Int32.ofNat vs) be de sz ro co mi T B hd df) := by
  refine PX2_told (Nat.le_of_ble_eq_true rfl) ?_
  intro G hT hC hR
  refine mB hT 2 rfl ?_
  refine hC.1 _ 0 [_] _ _ _ _ _ (c_isMaking_t (i := 1) hi hn) rfl rfl (Nat.le_of_ble_eq_true rfl) rfl ?_
  refine mB hT 4 rfl ?_
  refine hC.2 _ [_, _, _] _ _ _ _ (c_isWithin_t (by decide) (by decide)) rfl (Nat.le_of_ble_eq_true rfl) rfl ?_
  refine mB hT 8 rfl ?_
  exact hR _ (by decide) _ _ _ rfl rfl
set_option maxRecDepth 20000 in
theorem x_told_1_16 {n vs : Nat} {be de : Int64} {sz : Int32} {ro co mi : Nat → Int64} {T : Nat → Nat → Int64} {B : Nat → Nat → Nat → Int32} {hd : Nat → Nat → Int32} {df : Nat → Int32} (hi : 1 < n) (hn : n ≤ 4) : KX2_told l D ca ad [.ref 0, .int 1, .int 16] (XW (Int32.ofNat n) (Int32.ofNat vs) be de sz ro co mi T B hd df) (some (.int (B 6 1 16))) (XW (Int32.ofNat n) (Int32.ofNat vs) be de sz ro co mi T B hd df) := by
  refine PX2_told (Nat.le_of_ble_eq_true rfl) ?_
  intro G hT hC hR
  refine mB hT 2 rfl ?_
  refine hC.1 _ 0 [_] _ _ _ _ _ (c_isMaking_t (i := 1) hi hn) rfl rfl (Nat.le_of_ble_eq_true rfl) rfl ?_
  refine mB hT 4 rfl ?_
  refine hC.2 _ [_, _, _] _ _ _ _ (c_isWithin_t (by decide) (by decide)) rfl (Nat.le_of_ble_eq_true rfl) rfl ?_
  refine mB hT 8 rfl ?_
  exact hR _ (by decide) _ _ _ rfl rfl
set_option maxRecDepth 20000 in
theorem x_told_1_17 {n vs : Nat} {be de : Int64} {sz : Int32} {ro co mi : Nat → Int64} {T : Nat → Nat → Int64} {B : Nat → Nat → Nat → Int32} {hd : Nat → Nat → Int32} {df : Nat → Int32} (hi : 1 < n) (hn : n ≤ 4) : KX2_told l D ca ad [.ref 0, .int 1, .int 17] (XW (Int32.ofNat n) (Int32.ofNat vs) be de sz ro co mi T B hd df) (some (.int (B 6 1 17))) (XW (Int32.ofNat n) (Int32.ofNat vs) be de sz ro co mi T B hd df) := by
  refine PX2_told (Nat.le_of_ble_eq_true rfl) ?_
  intro G hT hC hR
  refine mB hT 2 rfl ?_
  refine hC.1 _ 0 [_] _ _ _ _ _ (c_isMaking_t (i := 1) hi hn) rfl rfl (Nat.le_of_ble_eq_true rfl) rfl ?_
  refine mB hT 4 rfl ?_
  refine hC.2 _ [_, _, _] _ _ _ _ (c_isWithin_t (by decide) (by decide)) rfl (Nat.le_of_ble_eq_true rfl) rfl ?_
  refine mB hT 8 rfl ?_
  exact hR _ (by decide) _ _ _ rfl rfl
set_option maxRecDepth 20000 in
theorem x_told_1_18 {n vs : Nat} {be de : Int64} {sz : Int32} {ro co mi : Nat → Int64} {T : Nat → Nat → Int64} {B : Nat → Nat → Nat → Int32} {hd : Nat → Nat → Int32} {df : Nat → Int32} (hi : 1 < n) (hn : n ≤ 4) : KX2_told l D ca ad [.ref 0, .int 1, .int 18] (XW (Int32.ofNat n) (Int32.ofNat vs) be de sz ro co mi T B hd df) (some (.int (B 6 1 18))) (XW (Int32.ofNat n) (Int32.ofNat vs) be de sz ro co mi T B hd df) := by
  refine PX2_told (Nat.le_of_ble_eq_true rfl) ?_
  intro G hT hC hR
  refine mB hT 2 rfl ?_
  refine hC.1 _ 0 [_] _ _ _ _ _ (c_isMaking_t (i := 1) hi hn) rfl rfl (Nat.le_of_ble_eq_true rfl) rfl ?_
  refine mB hT 4 rfl ?_
  refine hC.2 _ [_, _, _] _ _ _ _ (c_isWithin_t (by decide) (by decide)) rfl (Nat.le_of_ble_eq_true rfl) rfl ?_
  refine mB hT 8 rfl ?_
  exact hR _ (by decide) _ _ _ rfl rfl
set_option maxRecDepth 20000 in
theorem x_told_1_19 {n vs : Nat} {be de : Int64} {sz : Int32} {ro co mi : Nat → Int64} {T : Nat → Nat → Int64} {B : Nat → Nat → Nat → Int32} {hd : Nat → Nat → Int32} {df : Nat → Int32} (hi : 1 < n) (hn : n ≤ 4) : KX2_told l D ca ad [.ref 0, .int 1, .int 19] (XW (Int32.ofNat n) (Int32.ofNat vs) be de sz ro co mi T B hd df) (some (.int (B 6 1 19))) (XW (Int32.ofNat n) (Int32.ofNat vs) be de sz ro co mi T B hd df) := by
  refine PX2_told (Nat.le_of_ble_eq_true rfl) ?_
  intro G hT hC hR
  refine mB hT 2 rfl ?_
  refine hC.1 _ 0 [_] _ _ _ _ _ (c_isMaking_t (i := 1) hi hn) rfl rfl (Nat.le_of_ble_eq_true rfl) rfl ?_
  refine mB hT 4 rfl ?_
  refine hC.2 _ [_, _, _] _ _ _ _ (c_isWithin_t (by decide) (by decide)) rfl (Nat.le_of_ble_eq_true rfl) rfl ?_
  refine mB hT 8 rfl ?_
  exact hR _ (by decide) _ _ _ rfl rfl
set_option maxRecDepth 20000 in
theorem x_told_1_20 {n vs : Nat} {be de : Int64} {sz : Int32} {ro co mi : Nat → Int64} {T : Nat → Nat → Int64} {B : Nat → Nat → Nat → Int32} {hd : Nat → Nat → Int32} {df : Nat → Int32} (hi : 1 < n) (hn : n ≤ 4) : KX2_told l D ca ad [.ref 0, .int 1, .int 20] (XW (Int32.ofNat n) (Int32.ofNat vs) be de sz ro co mi T B hd df) (some (.int (B 6 1 20))) (XW (Int32.ofNat n) (Int32.ofNat vs) be de sz ro co mi T B hd df) := by
  refine PX2_told (Nat.le_of_ble_eq_true rfl) ?_
  intro G hT hC hR
  refine mB hT 2 rfl ?_
  refine hC.1 _ 0 [_] _ _ _ _ _ (c_isMaking_t (i := 1) hi hn) rfl rfl (Nat.le_of_ble_eq_true rfl) rfl ?_
  refine mB hT 4 rfl ?_
  refine hC.2 _ [_, _, _] _ _ _ _ (c_isWithin_t (by decide) (by decide)) rfl (Nat.le_of_ble_eq_true rfl) rfl ?_
  refine mB hT 8 rfl ?_
  exact hR _ (by decide) _ _ _ rfl rfl
set_option maxRecDepth 20000 in
theorem x_told_1_21 {n vs : Nat} {be de : Int64} {sz : Int32} {ro co mi : Nat → Int64} {T : Nat → Nat → Int64} {B : Nat → Nat → Nat → Int32} {hd : Nat → Nat → Int32} {df : Nat → Int32} (hi : 1 < n) (hn : n ≤ 4) : KX2_told l D ca ad [.ref 0, .int 1, .int 21] (XW (Int32.ofNat n) (Int32.ofNat vs) be de sz ro co mi T B hd df) (some (.int (B 6 1 21))) (XW (Int32.ofNat n) (Int32.ofNat vs) be de sz ro co mi T B hd df) := by
  refine PX2_told (Nat.le_of_ble_eq_true rfl) ?_
  intro G hT hC hR
  refine mB hT 2 rfl ?_
  refine hC.1 _ 0 [_] _ _ _ _ _ (c_isMaking_t (i := 1) hi hn) rfl rfl (Nat.le_of_ble_eq_true rfl) rfl ?_
  refine mB hT 4 rfl ?_
  refine hC.2 _ [_, _, _] _ _ _ _ (c_isWithin_t (by decide) (by decide)) rfl (Nat.le_of_ble_eq_true rfl) rfl ?_
  refine mB hT 8 rfl ?_
  exact hR _ (by decide) _ _ _ rfl rfl
set_option maxRecDepth 20000 in
theorem x_told_1_22 {n vs : Nat} {be de : Int64} {sz : Int32} {ro co mi : Nat → Int64} {T : Nat → Nat → Int64} {B : Nat → Nat → Nat → Int32} {hd : Nat → Nat → Int32} {df : Nat → Int32} (hi : 1 < n) (hn : n ≤ 4) : KX2_told l D ca ad [.ref 0, .int 1, .int 22] (XW (Int32.ofNat n) (Int32.ofNat vs) be de sz ro co mi T B hd df) (some (.int (B 6 1 22))) (XW (Int32.ofNat n) (Int32.ofNat vs) be de sz ro co mi T B hd df) := by
  refine PX2_told (Nat.le_of_ble_eq_true rfl) ?_
  intro G hT hC hR
  refine mB hT 2 rfl ?_
  refine hC.1 _ 0 [_] _ _ _ _ _ (c_isMaking_t (i := 1) hi hn) rfl rfl (Nat.le_of_ble_eq_true rfl) rfl ?_
  refine mB hT 4 rfl ?_
  refine hC.2 _ [_, _, _] _ _ _ _ (c_isWithin_t (by decide) (by decide)) rfl (Nat.le_of_ble_eq_true rfl) rfl ?_
  refine mB hT 8 rfl ?_
  exact hR _ (by decide) _ _ _ rfl rfl
set_option maxRecDepth 20000 in
theorem x_told_2_0 {n vs : Nat} {be de : Int64} {sz : Int32} {ro co mi : Nat → Int64} {T : Nat → Nat → Int64} {B : Nat → Nat → Nat → Int32} {hd : Nat → Nat → Int32} {df : Nat → Int32} (hi : 2 < n) (hn : n ≤ 4) : KX2_told l D ca ad [.ref 0, .int 2, .int 0] (XW (Int32.ofNat n) (Int32.ofNat vs) be de sz ro co mi T B hd df) (some (.int (B 6 2 0))) (XW (Int32.ofNat n) (Int32.ofNat vs) be de sz ro co mi T B hd df) := by
  refine PX2_told (Nat.le_of_ble_eq_true rfl) ?_
  intro G hT hC hR
  refine mB hT 2 rfl ?_
  refine hC.1 _ 0 [_] _ _ _ _ _ (c_isMaking_t (i := 2) hi hn) rfl rfl (Nat.le_of_ble_eq_true rfl) rfl ?_
  refine mB hT 4 rfl ?_
  refine hC.2 _ [_, _, _] _ _ _ _ (c_isWithin_t (by decide) (by decide)) rfl (Nat.le_of_ble_eq_true rfl) rfl ?_
  refine mB hT 8 rfl ?_
  exact hR _ (by decide) _ _ _ rfl rfl
set_option maxRecDepth 20000 in
theorem x_told_2_1 {n vs : Nat} {be de : Int64} {sz : Int32} {ro co mi : Nat → Int64} {T : Nat → Nat → Int64} {B : Nat → Nat → Nat → Int32} {hd : Nat → Nat → Int32} {df : Nat → Int32} (hi : 2 < n) (hn : n ≤ 4) : KX2_told l D ca ad [.ref 0, .int 2, .int 1] (XW (Int32.ofNat n) (Int32.ofNat vs) be de sz ro co mi T B hd df) (some (.int (B 6 2 1))) (XW (Int32.ofNat n) (Int32.ofNat vs) be de sz ro co mi T B hd df) := by
  refine PX2_told (Nat.le_of_ble_eq_true rfl) ?_
  intro G hT hC hR
  refine mB hT 2 rfl ?_
  refine hC.1 _ 0 [_] _ _ _ _ _ (c_isMaking_t (i := 2) hi hn) rfl rfl (Nat.le_of_ble_eq_true rfl) rfl ?_
  refine mB hT 4 rfl ?_
  refine hC.2 _ [_, _, _] _ _ _ _ (c_isWithin_t (by decide) (by decide)) rfl (Nat.le_of_ble_eq_true rfl) rfl ?_
  refine mB hT 8 rfl ?_
  exact hR _ (by decide) _ _ _ rfl rfl
set_option maxRecDepth 20000 in
theorem x_told_2_2 {n vs : Nat} {be de : Int64} {sz : Int32} {ro co mi : Nat → Int64} {T : Nat → Nat → Int64} {B : Nat → Nat → Nat → Int32} {hd : Nat → Nat → Int32} {df : Nat → Int32} (hi : 2 < n) (hn : n ≤ 4) : KX2_told l D ca ad [.ref 0, .int 2, .int 2] (XW (Int32.ofNat n) (Int32.ofNat vs) be de sz ro co mi T B hd df) (some (.int (B 6 2 2))) (XW (Int32.ofNat n) (Int32.ofNat vs) be de sz ro co mi T B hd df) := by
  refine PX2_told (Nat.le_of_ble_eq_true rfl) ?_
  intro G hT hC hR
  refine mB hT 2 rfl ?_
  refine hC.1 _ 0 [_] _ _ _ _ _ (c_isMaking_t (i := 2) hi hn) rfl rfl (Nat.le_of_ble_eq_true rfl) rfl ?_
  refine mB hT 4 rfl ?_
  refine hC.2 _ [_, _, _] _ _ _ _ (c_isWithin_t (by decide) (by decide)) rfl (Nat.le_of_ble_eq_true rfl) rfl ?_
  refine mB hT 8 rfl ?_
  exact hR _ (by decide) _ _ _ rfl rfl
set_option maxRecDepth 20000 in
theorem x_told_2_3 {n vs : Nat} {be de : Int64} {sz : Int32} {ro co mi : Nat → Int64} {T : Nat → Nat → Int64} {B : Nat → Nat → Nat → Int32} {hd : Nat → Nat → Int32} {df : Nat → Int32} (hi : 2 < n) (hn : n ≤ 4) : KX2_told l D ca ad [.ref 0, .int 2, .int 3] (XW (Int32.ofNat n) (Int32.ofNat vs) be de sz ro co mi T B hd df) (some (.int (B 6 2 3))) (XW (Int32.ofNat n) (Int32.ofNat vs) be de sz ro co mi T B hd df) := by
  refine PX2_told (Nat.le_of_ble_eq_true rfl) ?_
  intro G hT hC hR
  refine mB hT 2 rfl ?_
  refine hC.1 _ 0 [_] _ _ _ _ _ (c_isMaking_t (i := 2) hi hn) rfl rfl (Nat.le_of_ble_eq_true rfl) rfl ?_
  refine mB hT 4 rfl ?_
  refine hC.2 _ [_, _, _] _ _ _ _ (c_isWithin_t (by decide) (by decide)) rfl (Nat.le_of_ble_eq_true rfl) rfl ?_
  refine mB hT 8 rfl ?_
  exact hR _ (by decide) _ _ _ rfl rfl
set_option maxRecDepth 20000 in
theorem x_told_2_4 {n vs : Nat} {be de : Int64} {sz : Int32} {ro co mi : Nat → Int64} {T : Nat → Nat → Int64} {B : Nat → Nat → Nat → Int32} {hd : Nat → Nat → Int32} {df : Nat → Int32} (hi : 2 < n) (hn : n ≤ 4) : KX2_told l D ca ad [.ref 0, .int 2, .int 4] (XW (Int32.ofNat n) (Int32.ofNat vs) be de sz ro co mi T B hd df) (some (.int (B 6 2 4))) (XW (Int32.ofNat n) (Int32.ofNat vs) be de sz ro co mi T B hd df) := by
  refine PX2_told (Nat.le_of_ble_eq_true rfl) ?_
  intro G hT hC hR
  refine mB hT 2 rfl ?_
  refine hC.1 _ 0 [_] _ _ _ _ _ (c_isMaking_t (i := 2) hi hn) rfl rfl (Nat.le_of_ble_eq_true rfl) rfl ?_
  refine mB hT 4 rfl ?_
  refine hC.2 _ [_, _, _] _ _ _ _ (c_isWithin_t (by decide) (by decide)) rfl (Nat.le_of_ble_eq_true rfl) rfl ?_
  refine mB hT 8 rfl ?_
  exact hR _ (by decide) _ _ _ rfl rfl
set_option maxRecDepth 20000 in
theorem x_told_2_5 {n vs : Nat} {be de : Int64} {sz : Int32} {ro co mi : Nat → Int64} {T : Nat → Nat → Int64} {B : Nat → Nat → Nat → Int32} {hd : Nat → Nat → Int32} {df : Nat → Int32} (hi : 2 < n) (hn : n ≤ 4) : KX2_told l D ca ad [.ref 0, .int 2, .int 5] (XW (Int32.ofNat n) (Int32.ofNat vs) be de sz ro co mi T B hd df) (some (.int (B 6 2 5))) (XW (Int32.ofNat n) (Int32.ofNat vs) be de sz ro co mi T B hd df) := by
  refine PX2_told (Nat.le_of_ble_eq_true rfl) ?_
  intro G hT hC hR
  refine mB hT 2 rfl ?_
  refine hC.1 _ 0 [_] _ _ _ _ _ (c_isMaking_t (i := 2) hi hn) rfl rfl (Nat.le_of_ble_eq_true rfl) rfl ?_
  refine mB hT 4 rfl ?_
  refine hC.2 _ [_, _, _] _ _ _ _ (c_isWithin_t (by decide) (by decide)) rfl (Nat.le_of_ble_eq_true rfl) rfl ?_
  refine mB hT 8 rfl ?_
  exact hR _ (by decide) _ _ _ rfl rfl
set_option maxRecDepth 20000 in
theorem x_told_2_6 {n vs : Nat} {be de : Int64} {sz : Int32} {ro co mi : Nat → Int64} {T : Nat → Nat → Int64} {B : Nat → Nat → Nat → Int32} {hd : Nat → Nat → Int32} {df : Nat → Int32} (hi : 2 < n) (hn : n ≤ 4) : KX2_told l D ca ad [.ref 0, .int 2, .int 6] (XW (Int32.ofNat n) (Int32.ofNat vs) be de sz ro co mi T B hd df) (some (.int (B 6 2 6))) (XW (Int32.ofNat n) (Int32.ofNat vs) be de sz ro co mi T B hd df) := by
  refine PX2_told (Nat.le_of_ble_eq_true rfl) ?_
  intro G hT hC hR
  refine mB hT 2 rfl ?_
  refine hC.1 _ 0 [_] _ _ _ _ _ (c_isMaking_t (i := 2) hi hn) rfl rfl (Nat.le_of_ble_eq_true rfl) rfl ?_
  refine mB hT 4 rfl ?_
  refine hC.2 _ [_, _, _] _ _ _ _ (c_isWithin_t (by decide) (by decide)) rfl (Nat.le_of_ble_eq_true rfl) rfl ?_
  refine mB hT 8 rfl ?_
  exact hR _ (by decide) _ _ _ rfl rfl
set_option maxRecDepth 20000 in
theorem x_told_2_7 {n vs : Nat} {be de : Int64} {sz : Int32} {ro co mi : Nat → Int64} {T : Nat → Nat → Int64} {B : Nat → Nat → Nat → Int32} {hd : Nat → Nat → Int32} {df : Nat → Int32} (hi : 2 < n) (hn : n ≤ 4) : KX2_told l D ca ad [.ref 0, .int 2, .int 7] (XW (Int32.ofNat n) (Int32.ofNat vs) be de sz ro co mi T B hd df) (some (.int (B 6 2 7))) (XW (Int32.ofNat n) (Int32.ofNat vs) be de sz ro co mi T B hd df) := by
  refine PX2_told (Nat.le_of_ble_eq_true rfl) ?_
  intro G hT hC hR
  refine mB hT 2 rfl ?_
  refine hC.1 _ 0 [_] _ _ _ _ _ (c_isMaking_t (i := 2) hi hn) rfl rfl (Nat.le_of_ble_eq_true rfl) rfl ?_
  refine mB hT 4 rfl ?_
  refine hC.2 _ [_, _, _] _ _ _ _ (c_isWithin_t (by decide) (by decide)) rfl (Nat.le_of_ble_eq_true rfl) rfl ?_
  refine mB hT 8 rfl ?_
  exact hR _ (by decide) _ _ _ rfl rfl
set_option maxRecDepth 20000 in
theorem x_told_2_8 {n vs : Nat} {be de : Int64} {sz : Int32} {ro co mi : Nat → Int64} {T : Nat → Nat → Int64} {B : Nat → Nat → Nat → Int32} {hd : Nat → Nat → Int32} {df : Nat → Int32} (hi : 2 < n) (hn : n ≤ 4) : KX2_told l D ca ad [.ref 0, .int 2, .int 8] (XW (Int32.ofNat n) (Int32.ofNat vs) be de sz ro co mi T B hd df) (some (.int (B 6 2 8))) (XW (Int32.ofNat n) (Int32.ofNat vs) be de sz ro co mi T B hd df) := by
  refine PX2_told (Nat.le_of_ble_eq_true rfl) ?_
  intro G hT hC hR
  refine mB hT 2 rfl ?_
  refine hC.1 _ 0 [_] _ _ _ _ _ (c_isMaking_t (i := 2) hi hn) rfl rfl (Nat.le_of_ble_eq_true rfl) rfl ?_
  refine mB hT 4 rfl ?_
  refine hC.2 _ [_, _, _] _ _ _ _ (c_isWithin_t (by decide) (by decide)) rfl (Nat.le_of_ble_eq_true rfl) rfl ?_
  refine mB hT 8 rfl ?_
  exact hR _ (by decide) _ _ _ rfl rfl
set_option maxRecDepth 20000 in
theorem x_told_2_9 {n vs : Nat} {be de : Int64} {sz : Int32} {ro co mi : Nat → Int64} {T : Nat → Nat → Int64} {B : Nat → Nat → Nat → Int32} {hd : Nat → Nat → Int32} {df : Nat → Int32} (hi : 2 < n) (hn : n ≤ 4) : KX2_told l D ca ad [.ref 0, .int 2, .int 9] (XW (Int32.ofNat n) (Int32.ofNat vs) be de sz ro co mi T B hd df) (some (.int (B 6 2 9))) (XW (Int32.ofNat n) (Int32.ofNat vs) be de sz ro co mi T B hd df) := by
  refine PX2_told (Nat.le_of_ble_eq_true rfl) ?_
  intro G hT hC hR
  refine mB hT 2 rfl ?_
  refine hC.1 _ 0 [_] _ _ _ _ _ (c_isMaking_t (i := 2) hi hn) rfl rfl (Nat.le_of_ble_eq_true rfl) rfl ?_
  refine mB hT 4 rfl ?_
  refine hC.2 _ [_, _, _] _ _ _ _ (c_isWithin_t (by decide) (by decide)) rfl (Nat.le_of_ble_eq_true rfl) rfl ?_
  refine mB hT 8 rfl ?_
  exact hR _ (by decide) _ _ _ rfl rfl
set_option maxRecDepth 20000 in
theorem x_told_2_10 {n vs : Nat} {be de : Int64} {sz : Int32} {ro co mi : Nat → Int64} {T : Nat → Nat → Int64} {B : Nat → Nat → Nat → Int32} {hd : Nat → Nat → Int32} {df : Nat → Int32} (hi : 2 < n) (hn : n ≤ 4) : KX2_told l D ca ad [.ref 0, .int 2, .int 10] (XW (Int32.ofNat n) (Int32.ofNat vs) be de sz ro co mi T B hd df) (some (.int (B 6 2 10))) (XW (Int32.ofNat n) (Int32.ofNat vs) be de sz ro co mi T B hd df) := by
  refine PX2_told (Nat.le_of_ble_eq_true rfl) ?_
  intro G hT hC hR
  refine mB hT 2 rfl ?_
  refine hC.1 _ 0 [_] _ _ _ _ _ (c_isMaking_t (i := 2) hi hn) rfl rfl (Nat.le_of_ble_eq_true rfl) rfl ?_
  refine mB hT 4 rfl ?_
  refine hC.2 _ [_, _, _] _ _ _ _ (c_isWithin_t (by decide) (by decide)) rfl (Nat.le_of_ble_eq_true rfl) rfl ?_
  refine mB hT 8 rfl ?_
  exact hR _ (by decide) _ _ _ rfl rfl
set_option maxRecDepth 20000 in
theorem x_told_2_11 {n vs : Nat} {be de : Int64} {sz : Int32} {ro co mi : Nat → Int64} {T : Nat → Nat → Int64} {B : Nat → Nat → Nat → Int32} {hd : Nat → Nat → Int32} {df : Nat → Int32} (hi : 2 < n) (hn : n ≤ 4) : KX2_told l D ca ad [.ref 0, .int 2, .int 11] (XW (Int32.ofNat n) (Int32.ofNat vs) be de sz ro co mi T B hd df) (some (.int (B 6 2 11))) (XW (Int32.ofNat n) (Int32.ofNat vs) be de sz ro co mi T B hd df) := by
  refine PX2_told (Nat.le_of_ble_eq_true rfl) ?_
  intro G hT hC hR
  refine mB hT 2 rfl ?_
  refine hC.1 _ 0 [_] _ _ _ _ _ (c_isMaking_t (i := 2) hi hn) rfl rfl (Nat.le_of_ble_eq_true rfl) rfl ?_
  refine mB hT 4 rfl ?_
  refine hC.2 _ [_, _, _] _ _ _ _ (c_isWithin_t (by decide) (by decide)) rfl (Nat.le_of_ble_eq_true rfl) rfl ?_
  refine mB hT 8 rfl ?_
  exact hR _ (by decide) _ _ _ rfl rfl
set_option maxRecDepth 20000 in
theorem x_told_2_12 {n vs : Nat} {be de : Int64} {sz : Int32} {ro co mi : Nat → Int64} {T : Nat → Nat → Int64} {B : Nat → Nat → Nat → Int32} {hd : Nat → Nat → Int32} {df : Nat → Int32} (hi : 2 < n) (hn : n ≤ 4) : KX2_told l D ca ad [.ref 0, .int 2, .int 12] (XW (Int32.ofNat n) (Int32.ofNat vs) be de sz ro co mi T B hd df) (some (.int (B 6 2 12))) (XW (Int32.ofNat n) (Int32.ofNat vs) be de sz ro co mi T B hd df) := by
  refine PX2_told (Nat.le_of_ble_eq_true rfl) ?_
  intro G hT hC hR
  refine mB hT 2 rfl ?_
  refine hC.1 _ 0 [_] _ _ _ _ _ (c_isMaking_t (i := 2) hi hn) rfl rfl (Nat.le_of_ble_eq_true rfl) rfl ?_
  refine mB hT 4 rfl ?_
  refine hC.2 _ [_, _, _] _ _ _ _ (c_isWithin_t (by decide) (by decide)) rfl (Nat.le_of_ble_eq_true rfl) rfl ?_
  refine mB hT 8 rfl ?_
  exact hR _ (by decide) _ _ _ rfl rfl
set_option maxRecDepth 20000 in
theorem x_told_2_13 {n vs : Nat} {be de : Int64} {sz : Int32} {ro co mi : Nat → Int64} {T : Nat → Nat → Int64} {B : Nat → Nat → Nat → Int32} {hd : Nat → Nat → Int32} {df : Nat → Int32} (hi : 2 < n) (hn : n ≤ 4) : KX2_told l D ca ad [.ref 0, .int 2, .int 13] (XW (Int32.ofNat n) (Int32.ofNat vs) be de sz ro co mi T B hd df) (some (.int (B 6 2 13))) (XW (Int32.ofNat n) (Int32.ofNat vs) be de sz ro co mi T B hd df) := by
  refine PX2_told (Nat.le_of_ble_eq_true rfl) ?_
  intro G hT hC hR
  refine mB hT 2 rfl ?_
  refine hC.1 _ 0 [_] _ _ _ _ _ (c_isMaking_t (i := 2) hi hn) rfl rfl (Nat.le_of_ble_eq_true rfl) rfl ?_
  refine mB hT 4 rfl ?_
  refine hC.2 _ [_, _, _] _ _ _ _ (c_isWithin_t (by decide) (by decide)) rfl (Nat.le_of_ble_eq_true rfl) rfl ?_
  refine mB hT 8 rfl ?_
  exact hR _ (by decide) _ _ _ rfl rfl
set_option maxRecDepth 20000 in
theorem x_told_2_14 {n vs : Nat} {be de : Int64} {sz : Int32} {ro co mi : Nat → Int64} {T : Nat → Nat → Int64} {B : Nat → Nat → Nat → Int32} {hd : Nat → Nat → Int32} {df : Nat → Int32} (hi : 2 < n) (hn : n ≤ 4) : KX2_told l D ca ad [.ref 0, .int 2, .int 14] (XW (Int32.ofNat n) (Int32.ofNat vs) be de sz ro co mi T B hd df) (some (.int (B 6 2 14))) (XW (Int32.ofNat n) (Int32.ofNat vs) be de sz ro co mi T B hd df) := by
  refine PX2_told (Nat.le_of_ble_eq_true rfl) ?_
  intro G hT hC hR
  refine mB hT 2 rfl ?_
  refine hC.1 _ 0 [_] _ _ _ _ _ (c_isMaking_t (i := 2) hi hn) rfl rfl (Nat.le_of_ble_eq_true rfl) rfl ?_
  refine mB hT 4 rfl ?_
  refine hC.2 _ [_, _, _] _ _ _ _ (c_isWithin_t (by decide) (by decide)) rfl (Nat.le_of_ble_eq_true rfl) rfl ?_
  refine mB hT 8 rfl ?_
  exact hR _ (by decide) _ _ _ rfl rfl
set_option maxRecDepth 20000 in
theorem x_told_2_15 {n vs : Nat} {be de : Int64} {sz : Int32} {ro co mi : Nat → Int64} {T : Nat → Nat → Int64} {B : Nat → Nat → Nat → Int32} {hd : Nat → Nat → Int32} {df : Nat → Int32} (hi : 2 < n) (hn : n ≤ 4) : KX2_told l D ca ad [.ref 0, .int 2, .int 15] (XW (Int32.ofNat n) (Int32.ofNat vs) be de sz ro co mi T B hd df) (some (.int (B 6 2 15))) (XW (Int32.ofNat n) (Int32.ofNat vs) be de sz ro co mi T B hd df) := by
  refine PX2_told (Nat.le_of_ble_eq_true rfl) ?_
  intro G hT hC hR
  refine mB hT 2 rfl ?_
  refine hC.1 _ 0 [_] _ _ _ _ _ (c_isMaking_t (i := 2) hi hn) rfl rfl (Nat.le_of_ble_eq_true rfl) rfl ?_
  refine mB hT 4 rfl ?_
  refine hC.2 _ [_, _, _] _ _ _ _ (c_isWithin_t (by decide) (by decide)) rfl (Nat.le_of_ble_eq_true rfl) rfl ?_
  refine mB hT 8 rfl ?_
  exact hR _ (by decide) _ _ _ rfl rfl
set_option maxRecDepth 20000 in
theorem x_told_2_16 {n vs : Nat} {be de : Int64} {sz : Int32} {ro co mi : Nat → Int64} {T : Nat → Nat → Int64} {B : Nat → Nat → Nat → Int32} {hd : Nat → Nat → Int32} {df : Nat → Int32} (hi : 2 < n) (hn : n ≤ 4) : KX2_told l D ca ad [.ref 0, .int 2, .int 16] (XW (Int32.ofNat n) (Int32.ofNat vs) be de sz ro co mi T B hd df) (some (.int (B 6 2 16))) (XW (Int32.ofNat n) (Int32.ofNat vs) be de sz ro co mi T B hd df) := by
  refine PX2_told (Nat.le_of_ble_eq_true rfl) ?_
  intro G hT hC hR
  refine mB hT 2 rfl ?_
  refine hC.1 _ 0 [_] _ _ _ _ _ (c_isMaking_t (i := 2) hi hn) rfl rfl (Nat.le_of_ble_eq_true rfl) rfl ?_
  refine mB hT 4 rfl ?_
  refine hC.2 _ [_, _, _] _ _ _ _ (c_isWithin_t (by decide) (by decide)) rfl (Nat.le_of_ble_eq_true rfl) rfl ?_
  refine mB hT 8 rfl ?_
  exact hR _ (by decide) _ _ _ rfl rfl
set_option maxRecDepth 20000 in
theorem x_told_2_17 {n vs : Nat} {be de : Int64} {sz : Int32} {ro co mi : Nat → Int64} {T : Nat → Nat → Int64} {B : Nat → Nat → Nat → Int32} {hd : Nat → Nat → Int32} {df : Nat → Int32} (hi : 2 < n) (hn : n ≤ 4) : KX2_told l D ca ad [.ref 0, .int 2, .int 17] (XW (Int32.ofNat n) (Int32.ofNat vs) be de sz ro co mi T B hd df) (some (.int (B 6 2 17))) (XW (Int32.ofNat n) (Int32.ofNat vs) be de sz ro co mi T B hd df) := by
  refine PX2_told (Nat.le_of_ble_eq_true rfl) ?_
  intro G hT hC hR
  refine mB hT 2 rfl ?_
  refine hC.1 _ 0 [_] _ _ _ _ _ (c_isMaking_t (i := 2) hi hn) rfl rfl (Nat.le_of_ble_eq_true rfl) rfl ?_
  refine mB hT 4 rfl ?_
  refine hC.2 _ [_, _, _] _ _ _ _ (c_isWithin_t (by decide) (by decide)) rfl (Nat.le_of_ble_eq_true rfl) rfl ?_
  refine mB hT 8 rfl ?_
  exact hR _ (by decide) _ _ _ rfl rfl
set_option maxRecDepth 20000 in
theorem x_told_2_18 {n vs : Nat} {be de : Int64} {sz : Int32} {ro co mi : Nat → Int64} {T : Nat → Nat → Int64} {B : Nat → Nat → Nat → Int32} {hd : Nat → Nat → Int32} {df : Nat → Int32} (hi : 2 < n) (hn : n ≤ 4) : KX2_told l D ca ad [.ref 0, .int 2, .int 18] (XW (Int32.ofNat n) (Int32.ofNat vs) be de sz ro co mi T B hd df) (some (.int (B 6 2 18))) (XW (Int32.ofNat n) (Int32.ofNat vs) be de sz ro co mi T B hd df) := by
  refine PX2_told (Nat.le_of_ble_eq_true rfl) ?_
  intro G hT hC hR
  refine mB hT 2 rfl ?_
  refine hC.1 _ 0 [_] _ _ _ _ _ (c_isMaking_t (i := 2) hi hn) rfl rfl (Nat.le_of_ble_eq_true rfl) rfl ?_
  refine mB hT 4 rfl ?_
  refine hC.2 _ [_, _, _] _ _ _ _ (c_isWithin_t (by decide) (by decide)) rfl (Nat.le_of_ble_eq_true rfl) rfl ?_
  refine mB hT 8 rfl ?_
  exact hR _ (by decide) _ _ _ rfl rfl
set_option maxRecDepth 20000 in
theorem x_told_2_19 {n vs : Nat} {be de : Int64} {sz : Int32} {ro co mi : Nat → Int64} {T : Nat → Nat → Int64} {B : Nat → Nat → Nat → Int32} {hd : Nat → Nat → Int32} {df : Nat → Int32} (hi : 2 < n) (hn : n ≤ 4) : KX2_told l D ca ad [.ref 0, .int 2, .int 19] (XW (Int32.ofNat n) (Int32.ofNat vs) be de sz ro co mi T B hd df) (some (.int (B 6 2 19))) (XW (Int32.ofNat n) (Int32.ofNat vs) be de sz ro co mi T B hd df) := by
  refine PX2_told (Nat.le_of_ble_eq_true rfl) ?_
  intro G hT hC hR
  refine mB hT 2 rfl ?_
  refine hC.1 _ 0 [_] _ _ _ _ _ (c_isMaking_t (i := 2) hi hn) rfl rfl (Nat.le_of_ble_eq_true rfl) rfl ?_
  refine mB hT 4 rfl ?_
  refine hC.2 _ [_, _, _] _ _ _ _ (c_isWithin_t (by decide) (by decide)) rfl (Nat.le_of_ble_eq_true rfl) rfl ?_
  refine mB hT 8 rfl ?_
  exact hR _ (by decide) _ _ _ rfl rfl
set_option maxRecDepth 20000 in
theorem x_told_2_20 {n vs : Nat} {be de : Int64} {sz : Int32} {ro co mi : Nat → Int64} {T : Nat → Nat → Int64} {B : Nat → Nat → Nat → Int32} {hd : Nat → Nat → Int32} {df : Nat → Int32} (hi : 2 < n) (hn : n ≤ 4) : KX2_told l D ca ad [.ref 0, .int 2, .int 20] (XW (Int32.ofNat n) (Int32.ofNat vs) be de sz ro co mi T B hd df) (some (.int (B 6 2 20))) (XW (Int32.ofNat n) (Int32.ofNat vs) be de sz ro co mi T B hd df) := by
  refine PX2_told (Nat.le_of_ble_eq_true rfl) ?_
  intro G hT hC hR
  refine mB hT 2 rfl ?_
  refine hC.1 _ 0 [_] _ _ _ _ _ (c_isMaking_t (i := 2) hi hn) rfl rfl (Nat.le_of_ble_eq_true rfl) rfl ?_
  refine mB hT 4 rfl ?_
  refine hC.2 _ [_, _, _] _ _ _ _ (c_isWithin_t (by decide) (by decide)) rfl (Nat.le_of_ble_eq_true rfl) rfl ?_
  refine mB hT 8 rfl ?_
  exact hR _ (by decide) _ _ _ rfl rfl
set_option maxRecDepth 20000 in
theorem x_told_2_21 {n vs : Nat} {be de : Int64} {sz : Int32} {ro co mi : Nat → Int64} {T : Nat → Nat → Int64} {B : Nat → Nat → Nat → Int32} {hd : Nat → Nat → Int32} {df : Nat → Int32} (hi : 2 < n) (hn : n ≤ 4) : KX2_told l D ca ad [.ref 0, .int 2, .int 21] (XW (Int32.ofNat n) (Int32.ofNat vs) be de sz ro co mi T B hd df) (some (.int (B 6 2 21))) (XW (Int32.ofNat n) (Int32.ofNat vs) be de sz ro co mi T B hd df) := by
  refine PX2_told (Nat.le_of_ble_eq_true rfl) ?_
  intro G hT hC hR
  refine mB hT 2 rfl ?_
  refine hC.1 _ 0 [_] _ _ _ _ _ (c_isMaking_t (i := 2) hi hn) rfl rfl (Nat.le_of_ble_eq_true rfl) rfl ?_
  refine mB hT 4 rfl ?_
  refine hC.2 _ [_, _, _] _ _ _ _ (c_isWithin_t (by decide) (by decide)) rfl (Nat.le_of_ble_eq_true rfl) rfl ?_
  refine mB hT 8 rfl ?_
  exact hR _ (by decide) _ _ _ rfl rfl
set_option maxRecDepth 20000 in
theorem x_told_2_22 {n vs : Nat} {be de : Int64} {sz : Int32} {ro co mi : Nat → Int64} {T : Nat → Nat → Int64} {B : Nat → Nat → Nat → Int32} {hd : Nat → Nat → Int32} {df : Nat → Int32} (hi : 2 < n) (hn : n ≤ 4) : KX2_told l D ca ad [.ref 0, .int 2, .int 22] (XW (Int32.ofNat n) (Int32.ofNat vs) be de sz ro co mi T B hd df) (some (.int (B 6 2 22))) (XW (Int32.ofNat n) (Int32.ofNat vs) be de sz ro co mi T B hd df) := by
  refine PX2_told (Nat.le_of_ble_eq_true rfl) ?_
  intro G hT hC hR
  refine mB hT 2 rfl ?_
  refine hC.1 _ 0 [_] _ _ _ _ _ (c_isMaking_t (i := 2) hi hn) rfl rfl (Nat.le_of_ble_eq_true rfl) rfl ?_
  refine mB hT 4 rfl ?_
  refine hC.2 _ [_, _, _] _ _ _ _ (c_isWithin_t (by decide) (by decide)) rfl (Nat.le_of_ble_eq_true rfl) rfl ?_
  refine mB hT 8 rfl ?_
  exact hR _ (by decide) _ _ _ rfl rfl
set_option maxRecDepth 20000 in
theorem x_told_3_0 {n vs : Nat} {be de : Int64} {sz : Int32} {ro co mi : Nat → Int64} {T : Nat → Nat → Int64} {B : Nat → Nat → Nat → Int32} {hd : Nat → Nat → Int32} {df : Nat → Int32} (hi : 3 < n) (hn : n ≤ 4) : KX2_told l D ca ad [.ref 0, .int 3, .int 0] (XW (Int32.ofNat n) (Int32.ofNat vs) be de sz ro co mi T B hd df) (some (.int (B 6 3 0))) (XW (Int32.ofNat n) (Int32.ofNat vs) be de sz ro co mi T B hd df) := by
  refine PX2_told (Nat.le_of_ble_eq_true rfl) ?_
  intro G hT hC hR
  refine mB hT 2 rfl ?_
  refine hC.1 _ 0 [_] _ _ _ _ _ (c_isMaking_t (i := 3) hi hn) rfl rfl (Nat.le_of_ble_eq_true rfl) rfl ?_
  refine mB hT 4 rfl ?_
  refine hC.2 _ [_, _, _] _ _ _ _ (c_isWithin_t (by decide) (by decide)) rfl (Nat.le_of_ble_eq_true rfl) rfl ?_
  refine mB hT 8 rfl ?_
  exact hR _ (by decide) _ _ _ rfl rfl
set_option maxRecDepth 20000 in
theorem x_told_3_1 {n vs : Nat} {be de : Int64} {sz : Int32} {ro co mi : Nat → Int64} {T : Nat → Nat → Int64} {B : Nat → Nat → Nat → Int32} {hd : Nat → Nat → Int32} {df : Nat → Int32} (hi : 3 < n) (hn : n ≤ 4) : KX2_told l D ca ad [.ref 0, .int 3, .int 1] (XW (Int32.ofNat n) (Int32.ofNat vs) be de sz ro co mi T B hd df) (some (.int (B 6 3 1))) (XW (Int32.ofNat n) (Int32.ofNat vs) be de sz ro co mi T B hd df) := by
  refine PX2_told (Nat.le_of_ble_eq_true rfl) ?_
  intro G hT hC hR
  refine mB hT 2 rfl ?_
  refine hC.1 _ 0 [_] _ _ _ _ _ (c_isMaking_t (i := 3) hi hn) rfl rfl (Nat.le_of_ble_eq_true rfl) rfl ?_
  refine mB hT 4 rfl ?_
  refine hC.2 _ [_, _, _] _ _ _ _ (c_isWithin_t (by decide) (by decide)) rfl (Nat.le_of_ble_eq_true rfl) rfl ?_
  refine mB hT 8 rfl ?_
  exact hR _ (by decide) _ _ _ rfl rfl
set_option maxRecDepth 20000 in
theorem x_told_3_2 {n vs : Nat} {be de : Int64} {sz : Int32} {ro co mi : Nat → Int64} {T : Nat → Nat → Int64} {B : Nat → Nat → Nat → Int32} {hd : Nat → Nat → Int32} {df : Nat → Int32} (hi : 3 < n) (hn : n ≤ 4) : KX2_told l D ca ad [.ref 0, .int 3, .int 2] (XW (Int32.ofNat n) (Int32.ofNat vs) be de sz ro co mi T B hd df) (some (.int (B 6 3 2))) (XW (Int32.ofNat n) (Int32.ofNat vs) be de sz ro co mi T B hd df) := by
  refine PX2_told (Nat.le_of_ble_eq_true rfl) ?_
  intro G hT hC hR
  refine mB hT 2 rfl ?_
  refine hC.1 _ 0 [_] _ _ _ _ _ (c_isMaking_t (i := 3) hi hn) rfl rfl (Nat.le_of_ble_eq_true rfl) rfl ?_
  refine mB hT 4 rfl ?_
  refine hC.2 _ [_, _, _] _ _ _ _ (c_isWithin_t (by decide) (by decide)) rfl (Nat.le_of_ble_eq_true rfl) rfl ?_
  refine mB hT 8 rfl ?_
  exact hR _ (by decide) _ _ _ rfl rfl
set_option maxRecDepth 20000 in
theorem x_told_3_3 {n vs : Nat} {be de : Int64} {sz : Int32} {ro co mi : Nat → Int64} {T : Nat → Nat → Int64} {B : Nat → Nat → Nat → Int32} {hd : Nat → Nat → Int32} {df : Nat → Int32} (hi : 3 < n) (hn : n ≤ 4) : KX2_told l D ca ad [.ref 0, .int 3, .int 3] (XW (Int32.ofNat n) (Int32.ofNat vs) be de sz ro co mi T B hd df) (some (.int (B 6 3 3))) (XW (Int32.ofNat n) (Int32.ofNat vs) be de sz ro co mi T B hd df) := by
  refine PX2_told (Nat.le_of_ble_eq_true rfl) ?_
  intro G hT hC hR
  refine mB hT 2 rfl ?_
  refine hC.1 _ 0 [_] _ _ _ _ _ (c_isMaking_t (i := 3) hi hn) rfl rfl (Nat.le_of_ble_eq_true rfl) rfl ?_
  refine mB hT 4 rfl ?_
  refine hC.2 _ [_, _, _] _ _ _ _ (c_isWithin_t (by decide) (by decide)) rfl (Nat.le_of_ble_eq_true rfl) rfl ?_
  refine mB hT 8 rfl ?_
  exact hR _ (by decide) _ _ _ rfl rfl
set_option maxRecDepth 20000 in
theorem x_told_3_4 {n vs : Nat} {be de : Int64} {sz : Int32} {ro co mi : Nat → Int64} {T : Nat → Nat → Int64} {B : Nat → Nat → Nat → Int32} {hd : Nat → Nat → Int32} {df : Nat → Int32} (hi : 3 < n) (hn : n ≤ 4) : KX2_told l D ca ad [.ref 0, .int 3, .int 4] (XW (Int32.ofNat n) (Int32.ofNat vs) be de sz ro co mi T B hd df) (some (.int (B 6 3 4))) (XW (Int32.ofNat n) (Int32.ofNat vs) be de sz ro co mi T B hd df) := by
  refine PX2_told (Nat.le_of_ble_eq_true rfl) ?_
  intro G hT hC hR
  refine mB hT 2 rfl ?_
  refine hC.1 _ 0 [_] _ _ _ _ _ (c_isMaking_t (i := 3) hi hn) rfl rfl (Nat.le_of_ble_eq_true rfl) rfl ?_
  refine mB hT 4 rfl ?_
  refine hC.2 _ [_, _, _] _ _ _ _ (c_isWithin_t (by decide) (by decide)) rfl (Nat.le_of_ble_eq_true rfl) rfl ?_
  refine mB hT 8 rfl ?_
  exact hR _ (by decide) _ _ _ rfl rfl
set_option maxRecDepth 20000 in
theorem x_told_3_5 {n vs : Nat} {be de : Int64} {sz : Int32} {ro co mi : Nat → Int64} {T : Nat → Nat → Int64} {B : Nat → Nat → Nat → Int32} {hd : Nat → Nat → Int32} {df : Nat → Int32} (hi : 3 < n) (hn : n ≤ 4) : KX2_told l D ca ad [.ref 0, .int 3, .int 5] (XW (Int32.ofNat n) (Int32.ofNat vs) be de sz ro co mi T B hd df) (some (.int (B 6 3 5))) (XW (Int32.ofNat n) (Int32.ofNat vs) be de sz ro co mi T B hd df) := by
  refine PX2_told (Nat.le_of_ble_eq_true rfl) ?_
  intro G hT hC hR
  refine mB hT 2 rfl ?_
  refine hC.1 _ 0 [_] _ _ _ _ _ (c_isMaking_t (i := 3) hi hn) rfl rfl (Nat.le_of_ble_eq_true rfl) rfl ?_
  refine mB hT 4 rfl ?_
  refine hC.2 _ [_, _, _] _ _ _ _ (c_isWithin_t (by decide) (by decide)) rfl (Nat.le_of_ble_eq_true rfl) rfl ?_
  refine mB hT 8 rfl ?_
  exact hR _ (by decide) _ _ _ rfl rfl
set_option maxRecDepth 20000 in
theorem x_told_3_6 {n vs : Nat} {be de : Int64} {sz : Int32} {ro co mi : Nat → Int64} {T : Nat → Nat → Int64} {B : Nat → Nat → Nat → Int32} {hd : Nat → Nat → Int32} {df : Nat → Int32} (hi : 3 < n) (hn : n ≤ 4) : KX2_told l D ca ad [.ref 0, .int 3, .int 6] (XW (Int32.ofNat n) (Int32.ofNat vs) be de sz ro co mi T B hd df) (some (.int (B 6 3 6))) (XW (Int32.ofNat n) (Int32.ofNat vs) be de sz ro co mi T B hd df) := by
  refine PX2_told (Nat.le_of_ble_eq_true rfl) ?_
  intro G hT hC hR
  refine mB hT 2 rfl ?_
  refine hC.1 _ 0 [_] _ _ _ _ _ (c_isMaking_t (i := 3) hi hn) rfl rfl (Nat.le_of_ble_eq_true rfl) rfl ?_
  refine mB hT 4 rfl ?_
  refine hC.2 _ [_, _, _] _ _ _ _ (c_isWithin_t (by decide) (by decide)) rfl (Nat.le_of_ble_eq_true rfl) rfl ?_
  refine mB hT 8 rfl ?_
  exact hR _ (by decide) _ _ _ rfl rfl
set_option maxRecDepth 20000 in
theorem x_told_3_7 {n vs : Nat} {be de : Int64} {sz : Int32} {ro co mi : Nat → Int64} {T : Nat → Nat → Int64} {B : Nat → Nat → Nat → Int32} {hd : Nat → Nat → Int32} {df : Nat → Int32} (hi : 3 < n) (hn : n ≤ 4) : KX2_told l D ca ad [.ref 0, .int 3, .int 7] (XW (Int32.ofNat n) (Int32.ofNat vs) be de sz ro co mi T B hd df) (some (.int (B 6 3 7))) (XW (Int32.ofNat n) (Int32.ofNat vs) be de sz ro co mi T B hd df) := by
  refine PX2_told (Nat.le_of_ble_eq_true rfl) ?_
  intro G hT hC hR
  refine mB hT 2 rfl ?_
  refine hC.1 _ 0 [_] _ _ _ _ _ (c_isMaking_t (i := 3) hi hn) rfl rfl (Nat.le_of_ble_eq_true rfl) rfl ?_
  refine mB hT 4 rfl ?_
  refine hC.2 _ [_, _, _] _ _ _ _ (c_isWithin_t (by decide) (by decide)) rfl (Nat.le_of_ble_eq_true rfl) rfl ?_
  refine mB hT 8 rfl ?_
  exact hR _ (by decide) _ _ _ rfl rfl
set_option maxRecDepth 20000 in
theorem x_told_3_8 {n vs : Nat} {be de : Int64} {sz : Int32} {ro co mi : Nat → Int64} {T : Nat → Nat → Int64} {B : Nat → Nat → Nat → Int32} {hd : Nat → Nat → Int32} {df : Nat → Int32} (hi : 3 < n) (hn : n ≤ 4) : KX2_told l D ca ad [.ref 0, .int 3, .int 8] (XW (Int32.ofNat n) (Int32.ofNat vs) be de sz ro co mi T B hd df) (some (.int (B 6 3 8))) (XW (Int32.ofNat n) (Int32.ofNat vs) be de sz ro co mi T B hd df) := by
  refine PX2_told (Nat.le_of_ble_eq_true rfl) ?_
  intro G hT hC hR
  refine mB hT 2 rfl ?_
  refine hC.1 _ 0 [_] _ _ _ _ _ (c_isMaking_t (i := 3) hi hn) rfl rfl (Nat.le_of_ble_eq_true rfl) rfl ?_
  refine mB hT 4 rfl ?_
  refine hC.2 _ [_, _, _] _ _ _ _ (c_isWithin_t (by decide) (by decide)) rfl (Nat.le_of_ble_eq_true rfl) rfl ?_
  refine mB hT 8 rfl ?_
  exact hR _ (by decide) _ _ _ rfl rfl
set_option maxRecDepth 20000 in
theorem x_told_3_9 {n vs : Nat} {be de : Int64} {sz : Int32} {ro co mi : Nat → Int64} {T : Nat → Nat → Int64} {B : Nat → Nat → Nat → Int32} {hd : Nat → Nat → Int32} {df : Nat → Int32} (hi : 3 < n) (hn : n ≤ 4) : KX2_told l D ca ad [.ref 0, .int 3, .int 9] (XW (Int32.ofNat n) (Int32.ofNat vs) be de sz ro co mi T B hd df) (some (.int (B 6 3 9))) (XW (Int32.ofNat n) (Int32.ofNat vs) be de sz ro co mi T B hd df) := by
  refine PX2_told (Nat.le_of_ble_eq_true rfl) ?_
  intro G hT hC hR
  refine mB hT 2 rfl ?_
  refine hC.1 _ 0 [_] _ _ _ _ _ (c_isMaking_t (i := 3) hi hn) rfl rfl (Nat.le_of_ble_eq_true rfl) rfl ?_
  refine mB hT 4 rfl ?_
  refine hC.2 _ [_, _, _] _ _ _ _ (c_isWithin_t (by decide) (by decide)) rfl (Nat.le_of_ble_eq_true rfl) rfl ?_
  refine mB hT 8 rfl ?_
  exact hR _ (by decide) _ _ _ rfl rfl
set_option maxRecDepth 20000 in
theorem x_told_3_10 {n vs : Nat} {be de : Int64} {sz : Int32} {ro co mi : Nat → Int64} {T : Nat → Nat → Int64} {B : Nat → Nat → Nat → Int32} {hd : Nat → Nat → Int32} {df : Nat → Int32} (hi : 3 < n) (hn : n ≤ 4) : KX2_told l D ca ad [.ref 0, .int 3, .int 10] (XW (Int32.ofNat n) (Int32.ofNat vs) be de sz ro co mi T B hd df) (some (.int (B 6 3 10))) (XW (Int32.ofNat n) (Int32.ofNat vs) be de sz ro co mi T B hd df) := by
  refine PX2_told (Nat.le_of_ble_eq_true rfl) ?_
  intro G hT hC hR
  refine mB hT 2 rfl ?_
  refine hC.1 _ 0 [_] _ _ _ _ _ (c_isMaking_t (i := 3) hi hn) rfl rfl (Nat.le_of_ble_eq_true rfl) rfl ?_
  refine mB hT 4 rfl ?_
  refine hC.2 _ [_, _, _] _ _ _ _ (c_isWithin_t (by decide) (by decide)) rfl (Nat.le_of_ble_eq_true rfl) rfl ?_
  refine mB hT 8 rfl ?_
  exact hR _ (by decide) _ _ _ rfl rfl
set_option maxRecDepth 20000 in
theorem x_told_3_11 {n vs : Nat} {be de : Int64} {sz : Int32} {ro co mi : Nat → Int64} {T : Nat → Nat → Int64} {B : Nat → Nat → Nat → Int32} {hd : Nat → Nat → Int32} {df : Nat → Int32} (hi : 3 < n) (hn : n ≤ 4) : KX2_told l D ca ad [.ref 0, .int 3, .int 11] (XW (Int32.ofNat n) (Int32.ofNat vs) be de sz ro co mi T B hd df) (some (.int (B 6 3 11))) (XW (Int32.ofNat n) (Int32.ofNat vs) be de sz ro co mi T B hd df) := by
  refine PX2_told (Nat.le_of_ble_eq_true rfl) ?_
  intro G hT hC hR
  refine mB hT 2 rfl ?_
  refine hC.1 _ 0 [_] _ _ _ _ _ (c_isMaking_t (i := 3) hi hn) rfl rfl (Nat.le_of_ble_eq_true rfl) rfl ?_
  refine mB hT 4 rfl ?_
  refine hC.2 _ [_, _, _] _ _ _ _ (c_isWithin_t (by decide) (by decide)) rfl (Nat.le_of_ble_eq_true rfl) rfl ?_
  refine mB hT 8 rfl ?_
  exact hR _ (by decide) _ _ _ rfl rfl
set_option maxRecDepth 20000 in
theorem x_told_3_12 {n vs : Nat} {be de : Int64} {sz : Int32} {ro co mi : Nat → Int64} {T : Nat → Nat → Int64} {B : Nat → Nat → Nat → Int32} {hd : Nat → Nat → Int32} {df : Nat → Int32} (hi : 3 < n) (hn : n ≤ 4) : KX2_told l D ca ad [.ref 0, .int 3, .int 12] (XW (Int32.ofNat n) (Int32.ofNat vs) be de sz ro co mi T B hd df) (some (.int (B 6 3 12))) (XW (Int32.ofNat n) (Int32.ofNat vs) be de sz ro co mi T B hd df) := by
  refine PX2_told (Nat.le_of_ble_eq_true rfl) ?_
  intro G hT hC hR
  refine mB hT 2 rfl ?_
  refine hC.1 _ 0 [_] _ _ _ _ _ (c_isMaking_t (i := 3) hi hn) rfl rfl (Nat.le_of_ble_eq_true rfl) rfl ?_
  refine mB hT 4 rfl ?_
  refine hC.2 _ [_, _, _] _ _ _ _ (c_isWithin_t (by decide) (by decide)) rfl (Nat.le_of_ble_eq_true rfl) rfl ?_
  refine mB hT 8 rfl ?_
  exact hR _ (by decide) _ _ _ rfl rfl
set_option maxRecDepth 20000 in
theorem x_told_3_13 {n vs : Nat} {be de : Int64} {sz : Int32} {ro co mi : Nat → Int64} {T : Nat → Nat → Int64} {B : Nat → Nat → Nat → Int32} {hd : Nat → Nat → Int32} {df : Nat → Int32} (hi : 3 < n) (hn : n ≤ 4) : KX2_told l D ca ad [.ref 0, .int 3, .int 13] (XW (Int32.ofNat n) (Int32.ofNat vs) be de sz ro co mi T B hd df) (some (.int (B 6 3 13))) (XW (Int32.ofNat n) (Int32.ofNat vs) be de sz ro co mi T B hd df) := by
  refine PX2_told (Nat.le_of_ble_eq_true rfl) ?_
  intro G hT hC hR
  refine mB hT 2 rfl ?_
  refine hC.1 _ 0 [_] _ _ _ _ _ (c_isMaking_t (i := 3) hi hn) rfl rfl (Nat.le_of_ble_eq_true rfl) rfl ?_
  refine mB hT 4 rfl ?_
  refine hC.2 _ [_, _, _] _ _ _ _ (c_isWithin_t (by decide) (by decide)) rfl (Nat.le_of_ble_eq_true rfl) rfl ?_
  refine mB hT 8 rfl ?_
  exact hR _ (by decide) _ _ _ rfl rfl
set_option maxRecDepth 20000 in
theorem x_told_3_14 {n vs : Nat} {be de : Int64} {sz : Int32} {ro co mi : Nat → Int64} {T : Nat → Nat → Int64} {B : Nat → Nat → Nat → Int32} {hd : Nat → Nat → Int32} {df : Nat → Int32} (hi : 3 < n) (hn : n ≤ 4) : KX2_told l D ca ad [.ref 0, .int 3, .int 14] (XW (Int32.ofNat n) (Int32.ofNat vs) be de sz ro co mi T B hd df) (some (.int (B 6 3 14))) (XW (Int32.ofNat n) (Int32.ofNat vs) be de sz ro co mi T B hd df) := by
  refine PX2_told (Nat.le_of_ble_eq_true rfl) ?_
  intro G hT hC hR
  refine mB hT 2 rfl ?_
  refine hC.1 _ 0 [_] _ _ _ _ _ (c_isMaking_t (i := 3) hi hn) rfl rfl (Nat.le_of_ble_eq_true rfl) rfl ?_
  refine mB hT 4 rfl ?_
  refine hC.2 _ [_, _, _] _ _ _ _ (c_isWithin_t (by decide) (by decide)) rfl (Nat.le_of_ble_eq_true rfl) rfl ?_
  refine mB hT 8 rfl ?_
  exact hR _ (by decide) _ _ _ rfl rfl
set_option maxRecDepth 20000 in
theorem x_told_3_15 {n vs : Nat} {be de : Int64} {sz : Int32} {ro co mi : Nat → Int64} {T : Nat → Nat → Int64} {B : Nat → Nat → Nat → Int32} {hd : Nat → Nat → Int32} {df : Nat → Int32} (hi : 3 < n) (hn : n ≤ 4) : KX2_told l D ca ad [.ref 0, .int 3, .int 15] (XW (Int32.ofNat n) (Int32.ofNat vs) be de sz ro co mi T B hd df) (some (.int (B 6 3 15))) (XW (Int32.ofNat n) (Int32.ofNat vs) be de sz ro co mi T B hd df) := by
  refine PX2_told (Nat.le_of_ble_eq_true rfl) ?_
  intro G hT hC hR
  refine mB hT 2 rfl ?_
  refine hC.1 _ 0 [_] _ _ _ _ _ (c_isMaking_t (i := 3) hi hn) rfl rfl (Nat.le_of_ble_eq_true rfl) rfl ?_
  refine mB hT 4 rfl ?_
  refine hC.2 _ [_, _, _] _ _ _ _ (c_isWithin_t (by decide) (by decide)) rfl (Nat.le_of_ble_eq_true rfl) rfl ?_
  refine mB hT 8 rfl ?_
  exact hR _ (by decide) _ _ _ rfl rfl
set_option maxRecDepth 20000 in
theorem x_told_3_16 {n vs : Nat} {be de : Int64} {sz : Int32} {ro co mi : Nat → Int64} {T : Nat → Nat → Int64} {B : Nat → Nat → Nat → Int32} {hd : Nat → Nat → Int32} {df : Nat → Int32} (hi : 3 < n) (hn : n ≤ 4) : KX2_told l D ca ad [.ref 0, .int 3, .int 16] (XW (Int32.ofNat n) (Int32.ofNat vs) be de sz ro co mi T B hd df) (some (.int (B 6 3 16))) (XW (Int32.ofNat n) (Int32.ofNat vs) be de sz ro co mi T B hd df) := by
  refine PX2_told (Nat.le_of_ble_eq_true rfl) ?_
  intro G hT hC hR
  refine mB hT 2 rfl ?_
  refine hC.1 _ 0 [_] _ _ _ _ _ (c_isMaking_t (i := 3) hi hn) rfl rfl (Nat.le_of_ble_eq_true rfl) rfl ?_
  refine mB hT 4 rfl ?_
  refine hC.2 _ [_, _, _] _ _ _ _ (c_isWithin_t (by decide) (by decide)) rfl (Nat.le_of_ble_eq_true rfl) rfl ?_
  refine mB hT 8 rfl ?_
  exact hR _ (by decide) _ _ _ rfl rfl
set_option maxRecDepth 20000 in
theorem x_told_3_17 {n vs : Nat} {be de : Int64} {sz : Int32} {ro co mi : Nat → Int64} {T : Nat → Nat → Int64} {B : Nat → Nat → Nat → Int32} {hd : Nat → Nat → Int32} {df : Nat → Int32} (hi : 3 < n) (hn : n ≤ 4) : KX2_told l D ca ad [.ref 0, .int 3, .int 17] (XW (Int32.ofNat n) (Int32.ofNat vs) be de sz ro co mi T B hd df) (some (.int (B 6 3 17))) (XW (Int32.ofNat n) (Int32.ofNat vs) be de sz ro co mi T B hd df) := by
  refine PX2_told (Nat.le_of_ble_eq_true rfl) ?_
  intro G hT hC hR
  refine mB hT 2 rfl ?_
  refine hC.1 _ 0 [_] _ _ _ _ _ (c_isMaking_t (i := 3) hi hn) rfl rfl (Nat.le_of_ble_eq_true rfl) rfl ?_
  refine mB hT 4 rfl ?_
  refine hC.2 _ [_, _, _] _ _ _ _ (c_isWithin_t (by decide) (by decide)) rfl (Nat.le_of_ble_eq_true rfl) rfl ?_
  refine mB hT 8 rfl ?_
  exact hR _ (by decide) _ _ _ rfl rfl
set_option maxRecDepth 20000 in
theorem x_told_3_18 {n vs : Nat} {be de : Int64} {sz : Int32} {ro co mi : Nat → Int64} {T : Nat → Nat → Int64} {B : Nat → Nat → Nat → Int32} {hd : Nat → Nat → Int32} {df : Nat → Int32} (hi : 3 < n) (hn : n ≤ 4) : KX2_told l D ca ad [.ref 0, .int 3, .int 18] (XW (Int32.ofNat n) (Int32.ofNat vs) be de sz ro co mi T B hd df) (some (.int (B 6 3 18))) (XW (Int32.ofNat n) (Int32.ofNat vs) be de sz ro co mi T B hd df) := by
  refine PX2_told (Nat.le_of_ble_eq_true rfl) ?_
  intro G hT hC hR
  refine mB hT 2 rfl ?_
  refine hC.1 _ 0 [_] _ _ _ _ _ (c_isMaking_t (i := 3) hi hn) rfl rfl (Nat.le_of_ble_eq_true rfl) rfl ?_
  refine mB hT 4 rfl ?_
  refine hC.2 _ [_, _, _] _ _ _ _ (c_isWithin_t (by decide) (by decide)) rfl (Nat.le_of_ble_eq_true rfl) rfl ?_
  refine mB hT 8 rfl ?_
  exact hR _ (by decide) _ _ _ rfl rfl
set_option maxRecDepth 20000 in
theorem x_told_3_19 {n vs : Nat} {be de : Int64} {sz : Int32} {ro co mi : Nat → Int64} {T : Nat → Nat → Int64} {B : Nat → Nat → Nat → Int32} {hd : Nat → Nat → Int32} {df : Nat → Int32} (hi : 3 < n) (hn : n ≤ 4) : KX2_told l D ca ad [.ref 0, .int 3, .int 19] (XW (Int32.ofNat n) (Int32.ofNat vs) be de sz ro co mi T B hd df) (some (.int (B 6 3 19))) (XW (Int32.ofNat n) (Int32.ofNat vs) be de sz ro co mi T B hd df) := by
  refine PX2_told (Nat.le_of_ble_eq_true rfl) ?_
  intro G hT hC hR
  refine mB hT 2 rfl ?_
  refine hC.1 _ 0 [_] _ _ _ _ _ (c_isMaking_t (i := 3) hi hn) rfl rfl (Nat.le_of_ble_eq_true rfl) rfl ?_
  refine mB hT 4 rfl ?_
  refine hC.2 _ [_, _, _] _ _ _ _ (c_isWithin_t (by decide) (by decide)) rfl (Nat.le_of_ble_eq_true rfl) rfl ?_
  refine mB hT 8 rfl ?_
  exact hR _ (by decide) _ _ _ rfl rfl
set_option maxRecDepth 20000 in
theorem x_told_3_20 {n vs : Nat} {be de : Int64} {sz : Int32} {ro co mi : Nat → Int64} {T : Nat → Nat → Int64} {B : Nat → Nat → Nat → Int32} {hd : Nat → Nat → Int32} {df : Nat → Int32} (hi : 3 < n) (hn : n ≤ 4) : KX2_told l D ca ad [.ref 0, .int 3, .int 20] (XW (Int32.ofNat n) (Int32.ofNat vs) be de sz ro co mi T B hd df) (some (.int (B 6 3 20))) (XW (Int32.ofNat n) (Int32.ofNat vs) be de sz ro co mi T B hd df) := by
  refine PX2_told (Nat.le_of_ble_eq_true rfl) ?_
  intro G hT hC hR
  refine mB hT 2 rfl ?_
  refine hC.1 _ 0 [_] _ _ _ _ _ (c_isMaking_t (i := 3) hi hn) rfl rfl (Nat.le_of_ble_eq_true rfl) rfl ?_
  refine mB hT 4 rfl ?_
  refine hC.2 _ [_, _, _] _ _ _ _ (c_isWithin_t (by decide) (by decide)) rfl (Nat.le_of_ble_eq_true rfl) rfl ?_
  refine mB hT 8 rfl ?_
  exact hR _ (by decide) _ _ _ rfl rfl
set_option maxRecDepth 20000 in
theorem x_told_3_21 {n vs : Nat} {be de : Int64} {sz : Int32} {ro co mi : Nat → Int64} {T : Nat → Nat → Int64} {B : Nat → Nat → Nat → Int32} {hd : Nat → Nat → Int32} {df : Nat → Int32} (hi : 3 < n) (hn : n ≤ 4) : KX2_told l D ca ad [.ref 0, .int 3, .int 21] (XW (Int32.ofNat n) (Int32.ofNat vs) be de sz ro co mi T B hd df) (some (.int (B 6 3 21))) (XW (Int32.ofNat n) (Int32.ofNat vs) be de sz ro co mi T B hd df) := by
  refine PX2_told (Nat.le_of_ble_eq_true rfl) ?_
  intro G hT hC hR
  refine mB hT 2 rfl ?_
  refine hC.1 _ 0 [_] _ _ _ _ _ (c_isMaking_t (i := 3) hi hn) rfl rfl (Nat.le_of_ble_eq_true rfl) rfl ?_
  refine mB hT 4 rfl ?_
  refine hC.2 _ [_, _, _] _ _ _ _ (c_isWithin_t (by decide) (by decide)) rfl (Nat.le_of_ble_eq_true rfl) rfl ?_
  refine mB hT 8 rfl ?_
  exact hR _ (by decide) _ _ _ rfl rfl
set_option maxRecDepth 20000 in
theorem x_told_3_22 {n vs : Nat} {be de : Int64} {sz : Int32} {ro co mi : Nat → Int64} {T : Nat → Nat → Int64} {B : Nat → Nat → Nat → Int32} {hd : Nat → Nat → Int32} {df : Nat → Int32} (hi : 3 < n) (hn : n ≤ 4) : KX2_told l D ca ad [.ref 0, .int 3, .int 22] (XW (Int32.ofNat n) (Int32.ofNat vs) be de sz ro co mi T B hd df) (some (.int (B 6 3 22))) (XW (Int32.ofNat n) (Int32.ofNat vs) be de sz ro co mi T B hd df) := by
  refine PX2_told (Nat.le_of_ble_eq_true rfl) ?_
  intro G hT hC hR
  refine mB hT 2 rfl ?_
  refine hC.1 _ 0 [_] _ _ _ _ _ (c_isMaking_t (i := 3) hi hn) rfl rfl (Nat.le_of_ble_eq_true rfl) rfl ?_
  refine mB hT 4 rfl ?_
  refine hC.2 _ [_, _, _] _ _ _ _ (c_isWithin_t (by decide) (by decide)) rfl (Nat.le_of_ble_eq_true rfl) rfl ?_
  refine mB hT 8 rfl ?_
  exact hR _ (by decide) _ _ _ rfl rfl
theorem x_told {n vs : Nat} {be de : Int64} {sz : Int32} {ro co mi : Nat → Int64} {T : Nat → Nat → Int64} {B : Nat → Nat → Nat → Int32} {hd : Nat → Nat → Int32} {df : Nat → Int32} {i q : Nat} (hi : i < n) (hn : n ≤ 4) (hq : q < 23) : KX2_told l D ca ad [.ref 0, .int (Int32.ofNat i), .int (Int32.ofNat q)] (XW (Int32.ofNat n) (Int32.ofNat vs) be de sz ro co mi T B hd df) (some (.int (B 6 i q))) (XW (Int32.ofNat n) (Int32.ofNat vs) be de sz ro co mi T B hd df) := by
  match i, hi with
  | 0, hi =>
    match q, hq with
    | 0, _ => exact x_told_0_0 hi hn
    | 1, _ => exact x_told_0_1 hi hn
    | 2, _ => exact x_told_0_2 hi hn
    | 3, _ => exact x_told_0_3 hi hn
    | 4, _ => exact x_told_0_4 hi hn
    | 5, _ => exact x_told_0_5 hi hn
    | 6, _ => exact x_told_0_6 hi hn
    | 7, _ => exact x_told_0_7 hi hn
    | 8, _ => exact x_told_0_8 hi hn
    | 9, _ => exact x_told_0_9 hi hn
    | 10, _ => exact x_told_0_10 hi hn
    | 11, _ => exact x_told_0_11 hi hn
    | 12, _ => exact x_told_0_12 hi hn
    | 13, _ => exact x_told_0_13 hi hn
    | 14, _ => exact x_told_0_14 hi hn
    | 15, _ => exact x_told_0_15 hi hn
    | 16, _ => exact x_told_0_16 hi hn
    | 17, _ => exact x_told_0_17 hi hn
    | 18, _ => exact x_told_0_18 hi hn
    | 19, _ => exact x_told_0_19 hi hn
    | 20, _ => exact x_told_0_20 hi hn
    | 21, _ => exact x_told_0_21 hi hn
    | 22, _ => exact x_told_0_22 hi hn
    | q + 23, hq => omega
  | 1, hi =>
    match q, hq with
    | 0, _ => exact x_told_1_0 hi hn
    | 1, _ => exact x_told_1_1 hi hn
    | 2, _ => exact x_told_1_2 hi hn
    | 3, _ => exact x_told_1_3 hi hn
    | 4, _ => exact x_told_1_4 hi hn
    | 5, _ => exact x_told_1_5 hi hn
    | 6, _ => exact x_told_1_6 hi hn
    | 7, _ => exact x_told_1_7 hi hn
    | 8, _ => exact x_told_1_8 hi hn
    | 9, _ => exact x_told_1_9 hi hn
    | 10, _ => exact x_told_1_10 hi hn
    | 11, _ => exact x_told_1_11 hi hn
    | 12, _ => exact x_told_1_12 hi hn
    | 13, _ => exact x_told_1_13 hi hn
    | 14, _ => exact x_told_1_14 hi hn
    | 15, _ => exact x_told_1_15 hi hn
    | 16, _ => exact x_told_1_16 hi hn
    | 17, _ => exact x_told_1_17 hi hn
    | 18, _ => exact x_told_1_18 hi hn
    | 19, _ => exact x_told_1_19 hi hn
    | 20, _ => exact x_told_1_20 hi hn
    | 21, _ => exact x_told_1_21 hi hn
    | 22, _ => exact x_told_1_22 hi hn
    | q + 23, hq => omega
  | 2, hi =>
    match q, hq with
    | 0, _ => exact x_told_2_0 hi hn
    | 1, _ => exact x_told_2_1 hi hn
    | 2, _ => exact x_told_2_2 hi hn
    | 3, _ => exact x_told_2_3 hi hn
    | 4, _ => exact x_told_2_4 hi hn
    | 5, _ => exact x_told_2_5 hi hn
    | 6, _ => exact x_told_2_6 hi hn
    | 7, _ => exact x_told_2_7 hi hn
    | 8, _ => exact x_told_2_8 hi hn
    | 9, _ => exact x_told_2_9 hi hn
    | 10, _ => exact x_told_2_10 hi hn
    | 11, _ => exact x_told_2_11 hi hn
    | 12, _ => exact x_told_2_12 hi hn
    | 13, _ => exact x_told_2_13 hi hn
    | 14, _ => exact x_told_2_14 hi hn
    | 15, _ => exact x_told_2_15 hi hn
    | 16, _ => exact x_told_2_16 hi hn
    | 17, _ => exact x_told_2_17 hi hn
    | 18, _ => exact x_told_2_18 hi hn
    | 19, _ => exact x_told_2_19 hi hn
    | 20, _ => exact x_told_2_20 hi hn
    | 21, _ => exact x_told_2_21 hi hn
    | 22, _ => exact x_told_2_22 hi hn
    | q + 23, hq => omega
  | 3, hi =>
    match q, hq with
    | 0, _ => exact x_told_3_0 hi hn
    | 1, _ => exact x_told_3_1 hi hn
    | 2, _ => exact x_told_3_2 hi hn
    | 3, _ => exact x_told_3_3 hi hn
    | 4, _ => exact x_told_3_4 hi hn
    | 5, _ => exact x_told_3_5 hi hn
    | 6, _ => exact x_told_3_6 hi hn
    | 7, _ => exact x_told_3_7 hi hn
    | 8, _ => exact x_told_3_8 hi hn
    | 9, _ => exact x_told_3_9 hi hn
    | 10, _ => exact x_told_3_10 hi hn
    | 11, _ => exact x_told_3_11 hi hn
    | 12, _ => exact x_told_3_12 hi hn
    | 13, _ => exact x_told_3_13 hi hn
    | 14, _ => exact x_told_3_14 hi hn
    | 15, _ => exact x_told_3_15 hi hn
    | 16, _ => exact x_told_3_16 hi hn
    | 17, _ => exact x_told_3_17 hi hn
    | 18, _ => exact x_told_3_18 hi hn
    | 19, _ => exact x_told_3_19 hi hn
    | 20, _ => exact x_told_3_20 hi hn
    | 21, _ => exact x_told_3_21 hi hn
    | 22, _ => exact x_told_3_22 hi hn
    | q + 23, hq => omega
  | i + 4, hi => omega
set_option maxRecDepth 20000 in
theorem x_entry_0_0 {n vs : Nat} {be de : Int64} {sz : Int32} {ro co mi : Nat → Int64} {T : Nat → Nat → Int64} {B : Nat → Nat → Nat → Int32} {hd : Nat → Nat → Int32} {df : Nat → Int32} (hj : 0 < n) (hi : 0 < n) (hn : n ≤ 4) : KX2_entry l D ca ad [.ref 0, .int 0, .int 0] (XW (Int32.ofNat n) (Int32.ofNat vs) be de sz ro co mi T B hd df) (some (.int (cellX (B 6 0) 0 0))) (XW (Int32.ofNat n) (Int32.ofNat vs) be de sz ro co mi T B hd df) := by
  refine PX2_entry (Nat.le_of_ble_eq_true rfl) ?_
  intro G hT hC hR
  refine mB hT 2 rfl ?_
  refine hC.1 _ 0 [_] _ _ _ _ _ (c_isMaking_t (i := 0) hj hn) rfl rfl (Nat.le_of_ble_eq_true rfl) rfl ?_
  refine mB hT 3 rfl ?_
  refine hC.2.1 _ 0 [_] _ _ _ _ _ (c_isMaking_t (i := 0) hi hn) rfl rfl (Nat.le_of_ble_eq_true rfl) rfl ?_
  refine mB hT 5 rfl ?_
  refine hC.2.2 _ 10 [_, _] _ _ _ _ _ (c_tableCell_6_0_0) rfl rfl (Nat.le_of_ble_eq_true rfl) rfl ?_
  exact hR _ (by decide) _ _ _ rfl rfl
set_option maxRecDepth 20000 in
theorem x_entry_0_1 {n vs : Nat} {be de : Int64} {sz : Int32} {ro co mi : Nat → Int64} {T : Nat → Nat → Int64} {B : Nat → Nat → Nat → Int32} {hd : Nat → Nat → Int32} {df : Nat → Int32} (hj : 0 < n) (hi : 1 < n) (hn : n ≤ 4) : KX2_entry l D ca ad [.ref 0, .int 0, .int 1] (XW (Int32.ofNat n) (Int32.ofNat vs) be de sz ro co mi T B hd df) (some (.int (cellX (B 6 1) 1 0))) (XW (Int32.ofNat n) (Int32.ofNat vs) be de sz ro co mi T B hd df) := by
  refine PX2_entry (Nat.le_of_ble_eq_true rfl) ?_
  intro G hT hC hR
  refine mB hT 2 rfl ?_
  refine hC.1 _ 0 [_] _ _ _ _ _ (c_isMaking_t (i := 0) hj hn) rfl rfl (Nat.le_of_ble_eq_true rfl) rfl ?_
  refine mB hT 3 rfl ?_
  refine hC.2.1 _ 0 [_] _ _ _ _ _ (c_isMaking_t (i := 1) hi hn) rfl rfl (Nat.le_of_ble_eq_true rfl) rfl ?_
  refine mB hT 5 rfl ?_
  refine hC.2.2 _ 10 [_, _] _ _ _ _ _ (c_tableCell_6_0_1) rfl rfl (Nat.le_of_ble_eq_true rfl) rfl ?_
  exact hR _ (by decide) _ _ _ rfl rfl
set_option maxRecDepth 20000 in
theorem x_entry_0_2 {n vs : Nat} {be de : Int64} {sz : Int32} {ro co mi : Nat → Int64} {T : Nat → Nat → Int64} {B : Nat → Nat → Nat → Int32} {hd : Nat → Nat → Int32} {df : Nat → Int32} (hj : 0 < n) (hi : 2 < n) (hn : n ≤ 4) : KX2_entry l D ca ad [.ref 0, .int 0, .int 2] (XW (Int32.ofNat n) (Int32.ofNat vs) be de sz ro co mi T B hd df) (some (.int (cellX (B 6 2) 2 0))) (XW (Int32.ofNat n) (Int32.ofNat vs) be de sz ro co mi T B hd df) := by
  refine PX2_entry (Nat.le_of_ble_eq_true rfl) ?_
  intro G hT hC hR
  refine mB hT 2 rfl ?_
  refine hC.1 _ 0 [_] _ _ _ _ _ (c_isMaking_t (i := 0) hj hn) rfl rfl (Nat.le_of_ble_eq_true rfl) rfl ?_
  refine mB hT 3 rfl ?_
  refine hC.2.1 _ 0 [_] _ _ _ _ _ (c_isMaking_t (i := 2) hi hn) rfl rfl (Nat.le_of_ble_eq_true rfl) rfl ?_
  refine mB hT 5 rfl ?_
  refine hC.2.2 _ 10 [_, _] _ _ _ _ _ (c_tableCell_6_0_2) rfl rfl (Nat.le_of_ble_eq_true rfl) rfl ?_
  exact hR _ (by decide) _ _ _ rfl rfl
set_option maxRecDepth 20000 in
theorem x_entry_0_3 {n vs : Nat} {be de : Int64} {sz : Int32} {ro co mi : Nat → Int64} {T : Nat → Nat → Int64} {B : Nat → Nat → Nat → Int32} {hd : Nat → Nat → Int32} {df : Nat → Int32} (hj : 0 < n) (hi : 3 < n) (hn : n ≤ 4) : KX2_entry l D ca ad [.ref 0, .int 0, .int 3] (XW (Int32.ofNat n) (Int32.ofNat vs) be de sz ro co mi T B hd df) (some (.int (cellX (B 6 3) 3 0))) (XW (Int32.ofNat n) (Int32.ofNat vs) be de sz ro co mi T B hd df) := by
  refine PX2_entry (Nat.le_of_ble_eq_true rfl) ?_
  intro G hT hC hR
  refine mB hT 2 rfl ?_
  refine hC.1 _ 0 [_] _ _ _ _ _ (c_isMaking_t (i := 0) hj hn) rfl rfl (Nat.le_of_ble_eq_true rfl) rfl ?_
  refine mB hT 3 rfl ?_
  refine hC.2.1 _ 0 [_] _ _ _ _ _ (c_isMaking_t (i := 3) hi hn) rfl rfl (Nat.le_of_ble_eq_true rfl) rfl ?_
  refine mB hT 5 rfl ?_
  refine hC.2.2 _ 10 [_, _] _ _ _ _ _ (c_tableCell_6_0_3) rfl rfl (Nat.le_of_ble_eq_true rfl) rfl ?_
  exact hR _ (by decide) _ _ _ rfl rfl
set_option maxRecDepth 20000 in
theorem x_entry_1_0 {n vs : Nat} {be de : Int64} {sz : Int32} {ro co mi : Nat → Int64} {T : Nat → Nat → Int64} {B : Nat → Nat → Nat → Int32} {hd : Nat → Nat → Int32} {df : Nat → Int32} (hj : 1 < n) (hi : 0 < n) (hn : n ≤ 4) : KX2_entry l D ca ad [.ref 0, .int 1, .int 0] (XW (Int32.ofNat n) (Int32.ofNat vs) be de sz ro co mi T B hd df) (some (.int (cellX (B 6 0) 0 1))) (XW (Int32.ofNat n) (Int32.ofNat vs) be de sz ro co mi T B hd df) := by
  refine PX2_entry (Nat.le_of_ble_eq_true rfl) ?_
  intro G hT hC hR
  refine mB hT 2 rfl ?_
  refine hC.1 _ 0 [_] _ _ _ _ _ (c_isMaking_t (i := 1) hj hn) rfl rfl (Nat.le_of_ble_eq_true rfl) rfl ?_
  refine mB hT 3 rfl ?_
  refine hC.2.1 _ 0 [_] _ _ _ _ _ (c_isMaking_t (i := 0) hi hn) rfl rfl (Nat.le_of_ble_eq_true rfl) rfl ?_
  refine mB hT 5 rfl ?_
  refine hC.2.2 _ 10 [_, _] _ _ _ _ _ (c_tableCell_6_1_0) rfl rfl (Nat.le_of_ble_eq_true rfl) rfl ?_
  exact hR _ (by decide) _ _ _ rfl rfl
set_option maxRecDepth 20000 in
theorem x_entry_1_1 {n vs : Nat} {be de : Int64} {sz : Int32} {ro co mi : Nat → Int64} {T : Nat → Nat → Int64} {B : Nat → Nat → Nat → Int32} {hd : Nat → Nat → Int32} {df : Nat → Int32} (hj : 1 < n) (hi : 1 < n) (hn : n ≤ 4) : KX2_entry l D ca ad [.ref 0, .int 1, .int 1] (XW (Int32.ofNat n) (Int32.ofNat vs) be de sz ro co mi T B hd df) (some (.int (cellX (B 6 1) 1 1))) (XW (Int32.ofNat n) (Int32.ofNat vs) be de sz ro co mi T B hd df) := by
  refine PX2_entry (Nat.le_of_ble_eq_true rfl) ?_
  intro G hT hC hR
  refine mB hT 2 rfl ?_
  refine hC.1 _ 0 [_] _ _ _ _ _ (c_isMaking_t (i := 1) hj hn) rfl rfl (Nat.le_of_ble_eq_true rfl) rfl ?_
  refine mB hT 3 rfl ?_
  refine hC.2.1 _ 0 [_] _ _ _ _ _ (c_isMaking_t (i := 1) hi hn) rfl rfl (Nat.le_of_ble_eq_true rfl) rfl ?_
  refine mB hT 5 rfl ?_
  refine hC.2.2 _ 10 [_, _] _ _ _ _ _ (c_tableCell_6_1_1) rfl rfl (Nat.le_of_ble_eq_true rfl) rfl ?_
  exact hR _ (by decide) _ _ _ rfl rfl
set_option maxRecDepth 20000 in
theorem x_entry_1_2 {n vs : Nat} {be de : Int64} {sz : Int32} {ro co mi : Nat → Int64} {T : Nat → Nat → Int64} {B : Nat → Nat → Nat → Int32} {hd : Nat → Nat → Int32} {df : Nat → Int32} (hj : 1 < n) (hi : 2 < n) (hn : n ≤ 4) : KX2_entry l D ca ad [.ref 0, .int 1, .int 2] (XW (Int32.ofNat n) (Int32.ofNat vs) be de sz ro co mi T B hd df) (some (.int (cellX (B 6 2) 2 1))) (XW (Int32.ofNat n) (Int32.ofNat vs) be de sz ro co mi T B hd df) := by
  refine PX2_entry (Nat.le_of_ble_eq_true rfl) ?_
  intro G hT hC hR
  refine mB hT 2 rfl ?_
  refine hC.1 _ 0 [_] _ _ _ _ _ (c_isMaking_t (i := 1) hj hn) rfl rfl (Nat.le_of_ble_eq_true rfl) rfl ?_
  refine mB hT 3 rfl ?_
  refine hC.2.1 _ 0 [_] _ _ _ _ _ (c_isMaking_t (i := 2) hi hn) rfl rfl (Nat.le_of_ble_eq_true rfl) rfl ?_
  refine mB hT 5 rfl ?_
  refine hC.2.2 _ 10 [_, _] _ _ _ _ _ (c_tableCell_6_1_2) rfl rfl (Nat.le_of_ble_eq_true rfl) rfl ?_
  exact hR _ (by decide) _ _ _ rfl rfl
set_option maxRecDepth 20000 in
theorem x_entry_1_3 {n vs : Nat} {be de : Int64} {sz : Int32} {ro co mi : Nat → Int64} {T : Nat → Nat → Int64} {B : Nat → Nat → Nat → Int32} {hd : Nat → Nat → Int32} {df : Nat → Int32} (hj : 1 < n) (hi : 3 < n) (hn : n ≤ 4) : KX2_entry l D ca ad [.ref 0, .int 1, .int 3] (XW (Int32.ofNat n) (Int32.ofNat vs) be de sz ro co mi T B hd df) (some (.int (cellX (B 6 3) 3 1))) (XW (Int32.ofNat n) (Int32.ofNat vs) be de sz ro co mi T B hd df) := by
  refine PX2_entry (Nat.le_of_ble_eq_true rfl) ?_
  intro G hT hC hR
  refine mB hT 2 rfl ?_
  refine hC.1 _ 0 [_] _ _ _ _ _ (c_isMaking_t (i := 1) hj hn) rfl rfl (Nat.le_of_ble_eq_true rfl) rfl ?_
  refine mB hT 3 rfl ?_
  refine hC.2.1 _ 0 [_] _ _ _ _ _ (c_isMaking_t (i := 3) hi hn) rfl rfl (Nat.le_of_ble_eq_true rfl) rfl ?_
  refine mB hT 5 rfl ?_
  refine hC.2.2 _ 10 [_, _] _ _ _ _ _ (c_tableCell_6_1_3) rfl rfl (Nat.le_of_ble_eq_true rfl) rfl ?_
  exact hR _ (by decide) _ _ _ rfl rfl
set_option maxRecDepth 20000 in
theorem x_entry_2_0 {n vs : Nat} {be de : Int64} {sz : Int32} {ro co mi : Nat → Int64} {T : Nat → Nat → Int64} {B : Nat → Nat → Nat → Int32} {hd : Nat → Nat → Int32} {df : Nat → Int32} (hj : 2 < n) (hi : 0 < n) (hn : n ≤ 4) : KX2_entry l D ca ad [.ref 0, .int 2, .int 0] (XW (Int32.ofNat n) (Int32.ofNat vs) be de sz ro co mi T B hd df) (some (.int (cellX (B 6 0) 0 2))) (XW (Int32.ofNat n) (Int32.ofNat vs) be de sz ro co mi T B hd df) := by
  refine PX2_entry (Nat.le_of_ble_eq_true rfl) ?_
  intro G hT hC hR
  refine mB hT 2 rfl ?_
  refine hC.1 _ 0 [_] _ _ _ _ _ (c_isMaking_t (i := 2) hj hn) rfl rfl (Nat.le_of_ble_eq_true rfl) rfl ?_
  refine mB hT 3 rfl ?_
  refine hC.2.1 _ 0 [_] _ _ _ _ _ (c_isMaking_t (i := 0) hi hn) rfl rfl (Nat.le_of_ble_eq_true rfl) rfl ?_
  refine mB hT 5 rfl ?_
  refine hC.2.2 _ 10 [_, _] _ _ _ _ _ (c_tableCell_6_2_0) rfl rfl (Nat.le_of_ble_eq_true rfl) rfl ?_
  exact hR _ (by decide) _ _ _ rfl rfl
set_option maxRecDepth 20000 in
theorem x_entry_2_1 {n vs : Nat} {be de : Int64} {sz : Int32} {ro co mi : Nat → Int64} {T : Nat → Nat → Int64} {B : Nat → Nat → Nat → Int32} {hd : Nat → Nat → Int32} {df : Nat → Int32} (hj : 2 < n) (hi : 1 < n) (hn : n ≤ 4) : KX2_entry l D ca ad [.ref 0, .int 2, .int 1] (XW (Int32.ofNat n) (Int32.ofNat vs) be de sz ro co mi T B hd df) (some (.int (cellX (B 6 1) 1 2))) (XW (Int32.ofNat n) (Int32.ofNat vs) be de sz ro co mi T B hd df) := by
  refine PX2_entry (Nat.le_of_ble_eq_true rfl) ?_
  intro G hT hC hR
  refine mB hT 2 rfl ?_
  refine hC.1 _ 0 [_] _ _ _ _ _ (c_isMaking_t (i := 2) hj hn) rfl rfl (Nat.le_of_ble_eq_true rfl) rfl ?_
  refine mB hT 3 rfl ?_
  refine hC.2.1 _ 0 [_] _ _ _ _ _ (c_isMaking_t (i := 1) hi hn) rfl rfl (Nat.le_of_ble_eq_true rfl) rfl ?_
  refine mB hT 5 rfl ?_
  refine hC.2.2 _ 10 [_, _] _ _ _ _ _ (c_tableCell_6_2_1) rfl rfl (Nat.le_of_ble_eq_true rfl) rfl ?_
  exact hR _ (by decide) _ _ _ rfl rfl
set_option maxRecDepth 20000 in
theorem x_entry_2_2 {n vs : Nat} {be de : Int64} {sz : Int32} {ro co mi : Nat → Int64} {T : Nat → Nat → Int64} {B : Nat → Nat → Nat → Int32} {hd : Nat → Nat → Int32} {df : Nat → Int32} (hj : 2 < n) (hi : 2 < n) (hn : n ≤ 4) : KX2_entry l D ca ad [.ref 0, .int 2, .int 2] (XW (Int32.ofNat n) (Int32.ofNat vs) be de sz ro co mi T B hd df) (some (.int (cellX (B 6 2) 2 2))) (XW (Int32.ofNat n) (Int32.ofNat vs) be de sz ro co mi T B hd df) := by
  refine PX2_entry (Nat.le_of_ble_eq_true rfl) ?_
  intro G hT hC hR
  refine mB hT 2 rfl ?_
  refine hC.1 _ 0 [_] _ _ _ _ _ (c_isMaking_t (i := 2) hj hn) rfl rfl (Nat.le_of_ble_eq_true rfl) rfl ?_
  refine mB hT 3 rfl ?_
  refine hC.2.1 _ 0 [_] _ _ _ _ _ (c_isMaking_t (i := 2) hi hn) rfl rfl (Nat.le_of_ble_eq_true rfl) rfl ?_
  refine mB hT 5 rfl ?_
  refine hC.2.2 _ 10 [_, _] _ _ _ _ _ (c_tableCell_6_2_2) rfl rfl (Nat.le_of_ble_eq_true rfl) rfl ?_
  exact hR _ (by decide) _ _ _ rfl rfl
set_option maxRecDepth 20000 in
theorem x_entry_2_3 {n vs : Nat} {be de : Int64} {sz : Int32} {ro co mi : Nat → Int64} {T : Nat → Nat → Int64} {B : Nat → Nat → Nat → Int32} {hd : Nat → Nat → Int32} {df : Nat → Int32} (hj : 2 < n) (hi : 3 < n) (hn : n ≤ 4) : KX2_entry l D ca ad [.ref 0, .int 2, .int 3] (XW (Int32.ofNat n) (Int32.ofNat vs) be de sz ro co mi T B hd df) (some (.int (cellX (B 6 3) 3 2))) (XW (Int32.ofNat n) (Int32.ofNat vs) be de sz ro co mi T B hd df) := by
  refine PX2_entry (Nat.le_of_ble_eq_true rfl) ?_
  intro G hT hC hR
  refine mB hT 2 rfl ?_
  refine hC.1 _ 0 [_] _ _ _ _ _ (c_isMaking_t (i := 2) hj hn) rfl rfl (Nat.le_of_ble_eq_true rfl) rfl ?_
  refine mB hT 3 rfl ?_
  refine hC.2.1 _ 0 [_] _ _ _ _ _ (c_isMaking_t (i := 3) hi hn) rfl rfl (Nat.le_of_ble_eq_true rfl) rfl ?_
  refine mB hT 5 rfl ?_
  refine hC.2.2 _ 10 [_, _] _ _ _ _ _ (c_tableCell_6_2_3) rfl rfl (Nat.le_of_ble_eq_true rfl) rfl ?_
  exact hR _ (by decide) _ _ _ rfl rfl
set_option maxRecDepth 20000 in
theorem x_entry_3_0 {n vs : Nat} {be de : Int64} {sz : Int32} {ro co mi : Nat → Int64} {T : Nat → Nat → Int64} {B : Nat → Nat → Nat → Int32} {hd : Nat → Nat → Int32} {df : Nat → Int32} (hj : 3 < n) (hi : 0 < n) (hn : n ≤ 4) : KX2_entry l D ca ad [.ref 0, .int 3, .int 0] (XW (Int32.ofNat n) (Int32.ofNat vs) be de sz ro co mi T B hd df) (some (.int (cellX (B 6 0) 0 3))) (XW (Int32.ofNat n) (Int32.ofNat vs) be de sz ro co mi T B hd df) := by
  refine PX2_entry (Nat.le_of_ble_eq_true rfl) ?_
  intro G hT hC hR
  refine mB hT 2 rfl ?_
  refine hC.1 _ 0 [_] _ _ _ _ _ (c_isMaking_t (i := 3) hj hn) rfl rfl (Nat.le_of_ble_eq_true rfl) rfl ?_
  refine mB hT 3 rfl ?_
  refine hC.2.1 _ 0 [_] _ _ _ _ _ (c_isMaking_t (i := 0) hi hn) rfl rfl (Nat.le_of_ble_eq_true rfl) rfl ?_
  refine mB hT 5 rfl ?_
  refine hC.2.2 _ 10 [_, _] _ _ _ _ _ (c_tableCell_6_3_0) rfl rfl (Nat.le_of_ble_eq_true rfl) rfl ?_
  exact hR _ (by decide) _ _ _ rfl rfl
set_option maxRecDepth 20000 in
theorem x_entry_3_1 {n vs : Nat} {be de : Int64} {sz : Int32} {ro co mi : Nat → Int64} {T : Nat → Nat → Int64} {B : Nat → Nat → Nat → Int32} {hd : Nat → Nat → Int32} {df : Nat → Int32} (hj : 3 < n) (hi : 1 < n) (hn : n ≤ 4) : KX2_entry l D ca ad [.ref 0, .int 3, .int 1] (XW (Int32.ofNat n) (Int32.ofNat vs) be de sz ro co mi T B hd df) (some (.int (cellX (B 6 1) 1 3))) (XW (Int32.ofNat n) (Int32.ofNat vs) be de sz ro co mi T B hd df) := by
  refine PX2_entry (Nat.le_of_ble_eq_true rfl) ?_
  intro G hT hC hR
  refine mB hT 2 rfl ?_
  refine hC.1 _ 0 [_] _ _ _ _ _ (c_isMaking_t (i := 3) hj hn) rfl rfl (Nat.le_of_ble_eq_true rfl) rfl ?_
  refine mB hT 3 rfl ?_
  refine hC.2.1 _ 0 [_] _ _ _ _ _ (c_isMaking_t (i := 1) hi hn) rfl rfl (Nat.le_of_ble_eq_true rfl) rfl ?_
  refine mB hT 5 rfl ?_
  refine hC.2.2 _ 10 [_, _] _ _ _ _ _ (c_tableCell_6_3_1) rfl rfl (Nat.le_of_ble_eq_true rfl) rfl ?_
  exact hR _ (by decide) _ _ _ rfl rfl
set_option maxRecDepth 20000 in
theorem x_entry_3_2 {n vs : Nat} {be de : Int64} {sz : Int32} {ro co mi : Nat → Int64} {T : Nat → Nat → Int64} {B : Nat → Nat → Nat → Int32} {hd : Nat → Nat → Int32} {df : Nat → Int32} (hj : 3 < n) (hi : 2 < n) (hn : n ≤ 4) : KX2_entry l D ca ad [.ref 0, .int 3, .int 2] (XW (Int32.ofNat n) (Int32.ofNat vs) be de sz ro co mi T B hd df) (some (.int (cellX (B 6 2) 2 3))) (XW (Int32.ofNat n) (Int32.ofNat vs) be de sz ro co mi T B hd df) := by
  refine PX2_entry (Nat.le_of_ble_eq_true rfl) ?_
  intro G hT hC hR
  refine mB hT 2 rfl ?_
  refine hC.1 _ 0 [_] _ _ _ _ _ (c_isMaking_t (i := 3) hj hn) rfl rfl (Nat.le_of_ble_eq_true rfl) rfl ?_
  refine mB hT 3 rfl ?_
  refine hC.2.1 _ 0 [_] _ _ _ _ _ (c_isMaking_t (i := 2) hi hn) rfl rfl (Nat.le_of_ble_eq_true rfl) rfl ?_
  refine mB hT 5 rfl ?_
  refine hC.2.2 _ 10 [_, _] _ _ _ _ _ (c_tableCell_6_3_2) rfl rfl (Nat.le_of_ble_eq_true rfl) rfl ?_
  exact hR _ (by decide) _ _ _ rfl rfl
set_option maxRecDepth 20000 in
theorem x_entry_3_3 {n vs : Nat} {be de : Int64} {sz : Int32} {ro co mi : Nat → Int64} {T : Nat → Nat → Int64} {B : Nat → Nat → Nat → Int32} {hd : Nat → Nat → Int32} {df : Nat → Int32} (hj : 3 < n) (hi : 3 < n) (hn : n ≤ 4) : KX2_entry l D ca ad [.ref 0, .int 3, .int 3] (XW (Int32.ofNat n) (Int32.ofNat vs) be de sz ro co mi T B hd df) (some (.int (cellX (B 6 3) 3 3))) (XW (Int32.ofNat n) (Int32.ofNat vs) be de sz ro co mi T B hd df) := by
  refine PX2_entry (Nat.le_of_ble_eq_true rfl) ?_
  intro G hT hC hR
  refine mB hT 2 rfl ?_
  refine hC.1 _ 0 [_] _ _ _ _ _ (c_isMaking_t (i := 3) hj hn) rfl rfl (Nat.le_of_ble_eq_true rfl) rfl ?_
  refine mB hT 3 rfl ?_
  refine hC.2.1 _ 0 [_] _ _ _ _ _ (c_isMaking_t (i := 3) hi hn) rfl rfl (Nat.le_of_ble_eq_true rfl) rfl ?_
  refine mB hT 5 rfl ?_
  refine hC.2.2 _ 10 [_, _] _ _ _ _ _ (c_tableCell_6_3_3) rfl rfl (Nat.le_of_ble_eq_true rfl) rfl ?_
  exact hR _ (by decide) _ _ _ rfl rfl
theorem x_entry {n vs : Nat} {be de : Int64} {sz : Int32} {ro co mi : Nat → Int64} {T : Nat → Nat → Int64} {B : Nat → Nat → Nat → Int32} {hd : Nat → Nat → Int32} {df : Nat → Int32} {i j : Nat} (hj : j < n) (hi : i < n) (hn : n ≤ 4) : KX2_entry l D ca ad [.ref 0, .int (Int32.ofNat j), .int (Int32.ofNat i)] (XW (Int32.ofNat n) (Int32.ofNat vs) be de sz ro co mi T B hd df) (some (.int (cellX (B 6 i) i j))) (XW (Int32.ofNat n) (Int32.ofNat vs) be de sz ro co mi T B hd df) := by
  match j, hj, i, hi with
  | 0, hj, 0, hi => exact x_entry_0_0 hj hi hn
  | 0, hj, 1, hi => exact x_entry_0_1 hj hi hn
  | 0, hj, 2, hi => exact x_entry_0_2 hj hi hn
  | 0, hj, 3, hi => exact x_entry_0_3 hj hi hn
  | 1, hj, 0, hi => exact x_entry_1_0 hj hi hn
  | 1, hj, 1, hi => exact x_entry_1_1 hj hi hn
  | 1, hj, 2, hi => exact x_entry_1_2 hj hi hn
  | 1, hj, 3, hi => exact x_entry_1_3 hj hi hn
  | 2, hj, 0, hi => exact x_entry_2_0 hj hi hn
  | 2, hj, 1, hi => exact x_entry_2_1 hj hi hn
  | 2, hj, 2, hi => exact x_entry_2_2 hj hi hn
  | 2, hj, 3, hi => exact x_entry_2_3 hj hi hn
  | 3, hj, 0, hi => exact x_entry_3_0 hj hi hn
  | 3, hj, 1, hi => exact x_entry_3_1 hj hi hn
  | 3, hj, 2, hi => exact x_entry_3_2 hj hi hn
  | 3, hj, 3, hi => exact x_entry_3_3 hj hi hn
  | j + 4, hj, _, _ => omega
  | _, _, i + 4, hi => omega
set_option maxRecDepth 20000 in
theorem x_put_0_0 {n vs : Nat} {be de : Int64} {sz : Int32} {ro co mi : Nat → Int64} {T : Nat → Nat → Int64} {B : Nat → Nat → Nat → Int32} {hd : Nat → Nat → Int32} {df : Nat → Int32} (hj : 0 < n) (hn : n ≤ 4) {v : Int32} (h1 : 0 ≤ v) (h2 : v ≤ 20) : KX2_put l D ca ad [.ref 0, .int 0, .int 0, .int v] (XW (Int32.ofNat n) (Int32.ofNat vs) be de sz ro co mi T B hd df) (some (.int (hd 0 0))) (XW (Int32.ofNat n) (Int32.ofNat vs) be de sz ro co mi T B (up hd 0 (up (hd 0) 0 v)) df) := by
  refine PX2_put (Nat.le_of_ble_eq_true rfl) ?_
  intro G hT hC hR
  refine mB hT 1 rfl ?_
  refine hC.1 _ [_] _ _ _ _ (c_isBasket_t (i := 0) (by decide)) rfl (Nat.le_of_ble_eq_true rfl) rfl ?_
  refine mB hT 3 rfl ?_
  refine hC.2.1 _ 0 [_] _ _ _ _ _ (c_isMaking_t (i := 0) hj hn) rfl rfl (Nat.le_of_ble_eq_true rfl) rfl ?_
  refine mB hT 4 rfl ?_
  refine hC.2.2 _ [_, _, _] _ _ _ _ (c_isWithin_t h1 h2) rfl (Nat.le_of_ble_eq_true rfl) rfl ?_
  refine mB hT 16 rfl ?_
  exact hR _ (by decide) _ _ _ rfl rfl
set_option maxRecDepth 20000 in
theorem x_put_0_1 {n vs : Nat} {be de : Int64} {sz : Int32} {ro co mi : Nat → Int64} {T : Nat → Nat → Int64} {B : Nat → Nat → Nat → Int32} {hd : Nat → Nat → Int32} {df : Nat → Int32} (hj : 1 < n) (hn : n ≤ 4) {v : Int32} (h1 : 0 ≤ v) (h2 : v ≤ 20) : KX2_put l D ca ad [.ref 0, .int 0, .int 1, .int v] (XW (Int32.ofNat n) (Int32.ofNat vs) be de sz ro co mi T B hd df) (some (.int (hd 0 1))) (XW (Int32.ofNat n) (Int32.ofNat vs) be de sz ro co mi T B (up hd 0 (up (hd 0) 1 v)) df) := by
  refine PX2_put (Nat.le_of_ble_eq_true rfl) ?_
  intro G hT hC hR
  refine mB hT 1 rfl ?_
  refine hC.1 _ [_] _ _ _ _ (c_isBasket_t (i := 0) (by decide)) rfl (Nat.le_of_ble_eq_true rfl) rfl ?_
  refine mB hT 3 rfl ?_
  refine hC.2.1 _ 0 [_] _ _ _ _ _ (c_isMaking_t (i := 1) hj hn) rfl rfl (Nat.le_of_ble_eq_true rfl) rfl ?_
  refine mB hT 4 rfl ?_
  refine hC.2.2 _ [_, _, _] _ _ _ _ (c_isWithin_t h1 h2) rfl (Nat.le_of_ble_eq_true rfl) rfl ?_
  refine mB hT 16 rfl ?_
  exact hR _ (by decide) _ _ _ rfl rfl
set_option maxRecDepth 20000 in
theorem x_put_0_2 {n vs : Nat} {be de : Int64} {sz : Int32} {ro co mi : Nat → Int64} {T : Nat → Nat → Int64} {B : Nat → Nat → Nat → Int32} {hd : Nat → Nat → Int32} {df : Nat → Int32} (hj : 2 < n) (hn : n ≤ 4) {v : Int32} (h1 : 0 ≤ v) (h2 : v ≤ 20) : KX2_put l D ca ad [.ref 0, .int 0, .int 2, .int v] (XW (Int32.ofNat n) (Int32.ofNat vs) be de sz ro co mi T B hd df) (some (.int (hd 0 2))) (XW (Int32.ofNat n) (Int32.ofNat vs) be de sz ro co mi T B (up hd 0 (up (hd 0) 2 v)) df) := by
  refine PX2_put (Nat.le_of_ble_eq_true rfl) ?_
  intro G hT hC hR
  refine mB hT 1 rfl ?_
  refine hC.1 _ [_] _ _ _ _ (c_isBasket_t (i := 0) (by decide)) rfl (Nat.le_of_ble_eq_true rfl) rfl ?_
  refine mB hT 3 rfl ?_
  refine hC.2.1 _ 0 [_] _ _ _ _ _ (c_isMaking_t (i := 2) hj hn) rfl rfl (Nat.le_of_ble_eq_true rfl) rfl ?_
  refine mB hT 4 rfl ?_
  refine hC.2.2 _ [_, _, _] _ _ _ _ (c_isWithin_t h1 h2) rfl (Nat.le_of_ble_eq_true rfl) rfl ?_
  refine mB hT 16 rfl ?_
  exact hR _ (by decide) _ _ _ rfl rfl
set_option maxRecDepth 20000 in
theorem x_put_0_3 {n vs : Nat} {be de : Int64} {sz : Int32} {ro co mi : Nat → Int64} {T : Nat → Nat → Int64} {B : Nat → Nat → Nat → Int32} {hd : Nat → Nat → Int32} {df : Nat → Int32} (hj : 3 < n) (hn : n ≤ 4) {v : Int32} (h1 : 0 ≤ v) (h2 : v ≤ 20) : KX2_put l D ca ad [.ref 0, .int 0, .int 3, .int v] (XW (Int32.ofNat n) (Int32.ofNat vs) be de sz ro co mi T B hd df) (some (.int (hd 0 3))) (XW (Int32.ofNat n) (Int32.ofNat vs) be de sz ro co mi T B (up hd 0 (up (hd 0) 3 v)) df) := by
  refine PX2_put (Nat.le_of_ble_eq_true rfl) ?_
  intro G hT hC hR
  refine mB hT 1 rfl ?_
  refine hC.1 _ [_] _ _ _ _ (c_isBasket_t (i := 0) (by decide)) rfl (Nat.le_of_ble_eq_true rfl) rfl ?_
  refine mB hT 3 rfl ?_
  refine hC.2.1 _ 0 [_] _ _ _ _ _ (c_isMaking_t (i := 3) hj hn) rfl rfl (Nat.le_of_ble_eq_true rfl) rfl ?_
  refine mB hT 4 rfl ?_
  refine hC.2.2 _ [_, _, _] _ _ _ _ (c_isWithin_t h1 h2) rfl (Nat.le_of_ble_eq_true rfl) rfl ?_
  refine mB hT 16 rfl ?_
  exact hR _ (by decide) _ _ _ rfl rfl
set_option maxRecDepth 20000 in
theorem x_put_1_0 {n vs : Nat} {be de : Int64} {sz : Int32} {ro co mi : Nat → Int64} {T : Nat → Nat → Int64} {B : Nat → Nat → Nat → Int32} {hd : Nat → Nat → Int32} {df : Nat → Int32} (hj : 0 < n) (hn : n ≤ 4) {v : Int32} (h1 : 0 ≤ v) (h2 : v ≤ 20) : KX2_put l D ca ad [.ref 0, .int 1, .int 0, .int v] (XW (Int32.ofNat n) (Int32.ofNat vs) be de sz ro co mi T B hd df) (some (.int (hd 1 0))) (XW (Int32.ofNat n) (Int32.ofNat vs) be de sz ro co mi T B (up hd 1 (up (hd 1) 0 v)) df) := by
  refine PX2_put (Nat.le_of_ble_eq_true rfl) ?_
  intro G hT hC hR
  refine mB hT 1 rfl ?_
  refine hC.1 _ [_] _ _ _ _ (c_isBasket_t (i := 1) (by decide)) rfl (Nat.le_of_ble_eq_true rfl) rfl ?_
  refine mB hT 3 rfl ?_
  refine hC.2.1 _ 0 [_] _ _ _ _ _ (c_isMaking_t (i := 0) hj hn) rfl rfl (Nat.le_of_ble_eq_true rfl) rfl ?_
  refine mB hT 4 rfl ?_
  refine hC.2.2 _ [_, _, _] _ _ _ _ (c_isWithin_t h1 h2) rfl (Nat.le_of_ble_eq_true rfl) rfl ?_
  refine mB hT 16 rfl ?_
  exact hR _ (by decide) _ _ _ rfl rfl
set_option maxRecDepth 20000 in
theorem x_put_1_1 {n vs : Nat} {be de : Int64} {sz : Int32} {ro co mi : Nat → Int64} {T : Nat → Nat → Int64} {B : Nat → Nat → Nat → Int32} {hd : Nat → Nat → Int32} {df : Nat → Int32} (hj : 1 < n) (hn : n ≤ 4) {v : Int32} (h1 : 0 ≤ v) (h2 : v ≤ 20) : KX2_put l D ca ad [.ref 0, .int 1, .int 1, .int v] (XW (Int32.ofNat n) (Int32.ofNat vs) be de sz ro co mi T B hd df) (some (.int (hd 1 1))) (XW (Int32.ofNat n) (Int32.ofNat vs) be de sz ro co mi T B (up hd 1 (up (hd 1) 1 v)) df) := by
  refine PX2_put (Nat.le_of_ble_eq_true rfl) ?_
  intro G hT hC hR
  refine mB hT 1 rfl ?_
  refine hC.1 _ [_] _ _ _ _ (c_isBasket_t (i := 1) (by decide)) rfl (Nat.le_of_ble_eq_true rfl) rfl ?_
  refine mB hT 3 rfl ?_
  refine hC.2.1 _ 0 [_] _ _ _ _ _ (c_isMaking_t (i := 1) hj hn) rfl rfl (Nat.le_of_ble_eq_true rfl) rfl ?_
  refine mB hT 4 rfl ?_
  refine hC.2.2 _ [_, _, _] _ _ _ _ (c_isWithin_t h1 h2) rfl (Nat.le_of_ble_eq_true rfl) rfl ?_
  refine mB hT 16 rfl ?_
  exact hR _ (by decide) _ _ _ rfl rfl
set_option maxRecDepth 20000 in
theorem x_put_1_2 {n vs : Nat} {be de : Int64} {sz : Int32} {ro co mi : Nat → Int64} {T : Nat → Nat → Int64} {B : Nat → Nat → Nat → Int32} {hd : Nat → Nat → Int32} {df : Nat → Int32} (hj : 2 < n) (hn : n ≤ 4) {v : Int32} (h1 : 0 ≤ v) (h2 : v ≤ 20) : KX2_put l D ca ad [.ref 0, .int 1, .int 2, .int v] (XW (Int32.ofNat n) (Int32.ofNat vs) be de sz ro co mi T B hd df) (some (.int (hd 1 2))) (XW (Int32.ofNat n) (Int32.ofNat vs) be de sz ro co mi T B (up hd 1 (up (hd 1) 2 v)) df) := by
  refine PX2_put (Nat.le_of_ble_eq_true rfl) ?_
  intro G hT hC hR
  refine mB hT 1 rfl ?_
  refine hC.1 _ [_] _ _ _ _ (c_isBasket_t (i := 1) (by decide)) rfl (Nat.le_of_ble_eq_true rfl) rfl ?_
  refine mB hT 3 rfl ?_
  refine hC.2.1 _ 0 [_] _ _ _ _ _ (c_isMaking_t (i := 2) hj hn) rfl rfl (Nat.le_of_ble_eq_true rfl) rfl ?_
  refine mB hT 4 rfl ?_
  refine hC.2.2 _ [_, _, _] _ _ _ _ (c_isWithin_t h1 h2) rfl (Nat.le_of_ble_eq_true rfl) rfl ?_
  refine mB hT 16 rfl ?_
  exact hR _ (by decide) _ _ _ rfl rfl
set_option maxRecDepth 20000 in
theorem x_put_1_3 {n vs : Nat} {be de : Int64} {sz : Int32} {ro co mi : Nat → Int64} {T : Nat → Nat → Int64} {B : Nat → Nat → Nat → Int32} {hd : Nat → Nat → Int32} {df : Nat → Int32} (hj : 3 < n) (hn : n ≤ 4) {v : Int32} (h1 : 0 ≤ v) (h2 : v ≤ 20) : KX2_put l D ca ad [.ref 0, .int 1, .int 3, .int v] (XW (Int32.ofNat n) (Int32.ofNat vs) be de sz ro co mi T B hd df) (some (.int (hd 1 3))) (XW (Int32.ofNat n) (Int32.ofNat vs) be de sz ro co mi T B (up hd 1 (up (hd 1) 3 v)) df) := by
  refine PX2_put (Nat.le_of_ble_eq_true rfl) ?_
  intro G hT hC hR
  refine mB hT 1 rfl ?_
  refine hC.1 _ [_] _ _ _ _ (c_isBasket_t (i := 1) (by decide)) rfl (Nat.le_of_ble_eq_true rfl) rfl ?_
  refine mB hT 3 rfl ?_
  refine hC.2.1 _ 0 [_] _ _ _ _ _ (c_isMaking_t (i := 3) hj hn) rfl rfl (Nat.le_of_ble_eq_true rfl) rfl ?_
  refine mB hT 4 rfl ?_
  refine hC.2.2 _ [_, _, _] _ _ _ _ (c_isWithin_t h1 h2) rfl (Nat.le_of_ble_eq_true rfl) rfl ?_
  refine mB hT 16 rfl ?_
  exact hR _ (by decide) _ _ _ rfl rfl
set_option maxRecDepth 20000 in
theorem x_put_2_0 {n vs : Nat} {be de : Int64} {sz : Int32} {ro co mi : Nat → Int64} {T : Nat → Nat → Int64} {B : Nat → Nat → Nat → Int32} {hd : Nat → Nat → Int32} {df : Nat → Int32} (hj : 0 < n) (hn : n ≤ 4) {v : Int32} (h1 : 0 ≤ v) (h2 : v ≤ 20) : KX2_put l D ca ad [.ref 0, .int 2, .int 0, .int v] (XW (Int32.ofNat n) (Int32.ofNat vs) be de sz ro co mi T B hd df) (some (.int (hd 2 0))) (XW (Int32.ofNat n) (Int32.ofNat vs) be de sz ro co mi T B (up hd 2 (up (hd 2) 0 v)) df) := by
  refine PX2_put (Nat.le_of_ble_eq_true rfl) ?_
  intro G hT hC hR
  refine mB hT 1 rfl ?_
  refine hC.1 _ [_] _ _ _ _ (c_isBasket_t (i := 2) (by decide)) rfl (Nat.le_of_ble_eq_true rfl) rfl ?_
  refine mB hT 3 rfl ?_
  refine hC.2.1 _ 0 [_] _ _ _ _ _ (c_isMaking_t (i := 0) hj hn) rfl rfl (Nat.le_of_ble_eq_true rfl) rfl ?_
  refine mB hT 4 rfl ?_
  refine hC.2.2 _ [_, _, _] _ _ _ _ (c_isWithin_t h1 h2) rfl (Nat.le_of_ble_eq_true rfl) rfl ?_
  refine mB hT 16 rfl ?_
  exact hR _ (by decide) _ _ _ rfl rfl
set_option maxRecDepth 20000 in
theorem x_put_2_1 {n vs : Nat} {be de : Int64} {sz : Int32} {ro co mi : Nat → Int64} {T : Nat → Nat → Int64} {B : Nat → Nat → Nat → Int32} {hd : Nat → Nat → Int32} {df : Nat → Int32} (hj : 1 < n) (hn : n ≤ 4) {v : Int32} (h1 : 0 ≤ v) (h2 : v ≤ 20) : KX2_put l D ca ad [.ref 0, .int 2, .int 1, .int v] (XW (Int32.ofNat n) (Int32.ofNat vs) be de sz ro co mi T B hd df) (some (.int (hd 2 1))) (XW (Int32.ofNat n) (Int32.ofNat vs) be de sz ro co mi T B (up hd 2 (up (hd 2) 1 v)) df) := by
  refine PX2_put (Nat.le_of_ble_eq_true rfl) ?_
  intro G hT hC hR
  refine mB hT 1 rfl ?_
  refine hC.1 _ [_] _ _ _ _ (c_isBasket_t (i := 2) (by decide)) rfl (Nat.le_of_ble_eq_true rfl) rfl ?_
  refine mB hT 3 rfl ?_
  refine hC.2.1 _ 0 [_] _ _ _ _ _ (c_isMaking_t (i := 1) hj hn) rfl rfl (Nat.le_of_ble_eq_true rfl) rfl ?_
  refine mB hT 4 rfl ?_
  refine hC.2.2 _ [_, _, _] _ _ _ _ (c_isWithin_t h1 h2) rfl (Nat.le_of_ble_eq_true rfl) rfl ?_
  refine mB hT 16 rfl ?_
  exact hR _ (by decide) _ _ _ rfl rfl
set_option maxRecDepth 20000 in
theorem x_put_2_2 {n vs : Nat} {be de : Int64} {sz : Int32} {ro co mi : Nat → Int64} {T : Nat → Nat → Int64} {B : Nat → Nat → Nat → Int32} {hd : Nat → Nat → Int32} {df : Nat → Int32} (hj : 2 < n) (hn : n ≤ 4) {v : Int32} (h1 : 0 ≤ v) (h2 : v ≤ 20) : KX2_put l D ca ad [.ref 0, .int 2, .int 2, .int v] (XW (Int32.ofNat n) (Int32.ofNat vs) be de sz ro co mi T B hd df) (some (.int (hd 2 2))) (XW (Int32.ofNat n) (Int32.ofNat vs) be de sz ro co mi T B (up hd 2 (up (hd 2) 2 v)) df) := by
  refine PX2_put (Nat.le_of_ble_eq_true rfl) ?_
  intro G hT hC hR
  refine mB hT 1 rfl ?_
  refine hC.1 _ [_] _ _ _ _ (c_isBasket_t (i := 2) (by decide)) rfl (Nat.le_of_ble_eq_true rfl) rfl ?_
  refine mB hT 3 rfl ?_
  refine hC.2.1 _ 0 [_] _ _ _ _ _ (c_isMaking_t (i := 2) hj hn) rfl rfl (Nat.le_of_ble_eq_true rfl) rfl ?_
  refine mB hT 4 rfl ?_
  refine hC.2.2 _ [_, _, _] _ _ _ _ (c_isWithin_t h1 h2) rfl (Nat.le_of_ble_eq_true rfl) rfl ?_
  refine mB hT 16 rfl ?_
  exact hR _ (by decide) _ _ _ rfl rfl
set_option maxRecDepth 20000 in
theorem x_put_2_3 {n vs : Nat} {be de : Int64} {sz : Int32} {ro co mi : Nat → Int64} {T : Nat → Nat → Int64} {B : Nat → Nat → Nat → Int32} {hd : Nat → Nat → Int32} {df : Nat → Int32} (hj : 3 < n) (hn : n ≤ 4) {v : Int32} (h1 : 0 ≤ v) (h2 : v ≤ 20) : KX2_put l D ca ad [.ref 0, .int 2, .int 3, .int v] (XW (Int32.ofNat n) (Int32.ofNat vs) be de sz ro co mi T B hd df) (some (.int (hd 2 3))) (XW (Int32.ofNat n) (Int32.ofNat vs) be de sz ro co mi T B (up hd 2 (up (hd 2) 3 v)) df) := by
  refine PX2_put (Nat.le_of_ble_eq_true rfl) ?_
  intro G hT hC hR
  refine mB hT 1 rfl ?_
  refine hC.1 _ [_] _ _ _ _ (c_isBasket_t (i := 2) (by decide)) rfl (Nat.le_of_ble_eq_true rfl) rfl ?_
  refine mB hT 3 rfl ?_
  refine hC.2.1 _ 0 [_] _ _ _ _ _ (c_isMaking_t (i := 3) hj hn) rfl rfl (Nat.le_of_ble_eq_true rfl) rfl ?_
  refine mB hT 4 rfl ?_
  refine hC.2.2 _ [_, _, _] _ _ _ _ (c_isWithin_t h1 h2) rfl (Nat.le_of_ble_eq_true rfl) rfl ?_
  refine mB hT 16 rfl ?_
  exact hR _ (by decide) _ _ _ rfl rfl
set_option maxRecDepth 20000 in
theorem x_put_3_0 {n vs : Nat} {be de : Int64} {sz : Int32} {ro co mi : Nat → Int64} {T : Nat → Nat → Int64} {B : Nat → Nat → Nat → Int32} {hd : Nat → Nat → Int32} {df : Nat → Int32} (hj : 0 < n) (hn : n ≤ 4) {v : Int32} (h1 : 0 ≤ v) (h2 : v ≤ 20) : KX2_put l D ca ad [.ref 0, .int 3, .int 0, .int v] (XW (Int32.ofNat n) (Int32.ofNat vs) be de sz ro co mi T B hd df) (some (.int (hd 3 0))) (XW (Int32.ofNat n) (Int32.ofNat vs) be de sz ro co mi T B (up hd 3 (up (hd 3) 0 v)) df) := by
  refine PX2_put (Nat.le_of_ble_eq_true rfl) ?_
  intro G hT hC hR
  refine mB hT 1 rfl ?_
  refine hC.1 _ [_] _ _ _ _ (c_isBasket_t (i := 3) (by decide)) rfl (Nat.le_of_ble_eq_true rfl) rfl ?_
  refine mB hT 3 rfl ?_
  refine hC.2.1 _ 0 [_] _ _ _ _ _ (c_isMaking_t (i := 0) hj hn) rfl rfl (Nat.le_of_ble_eq_true rfl) rfl ?_
  refine mB hT 4 rfl ?_
  refine hC.2.2 _ [_, _, _] _ _ _ _ (c_isWithin_t h1 h2) rfl (Nat.le_of_ble_eq_true rfl) rfl ?_
  refine mB hT 16 rfl ?_
  exact hR _ (by decide) _ _ _ rfl rfl
set_option maxRecDepth 20000 in
theorem x_put_3_1 {n vs : Nat} {be de : Int64} {sz : Int32} {ro co mi : Nat → Int64} {T : Nat → Nat → Int64} {B : Nat → Nat → Nat → Int32} {hd : Nat → Nat → Int32} {df : Nat → Int32} (hj : 1 < n) (hn : n ≤ 4) {v : Int32} (h1 : 0 ≤ v) (h2 : v ≤ 20) : KX2_put l D ca ad [.ref 0, .int 3, .int 1, .int v] (XW (Int32.ofNat n) (Int32.ofNat vs) be de sz ro co mi T B hd df) (some (.int (hd 3 1))) (XW (Int32.ofNat n) (Int32.ofNat vs) be de sz ro co mi T B (up hd 3 (up (hd 3) 1 v)) df) := by
  refine PX2_put (Nat.le_of_ble_eq_true rfl) ?_
  intro G hT hC hR
  refine mB hT 1 rfl ?_
  refine hC.1 _ [_] _ _ _ _ (c_isBasket_t (i := 3) (by decide)) rfl (Nat.le_of_ble_eq_true rfl) rfl ?_
  refine mB hT 3 rfl ?_
  refine hC.2.1 _ 0 [_] _ _ _ _ _ (c_isMaking_t (i := 1) hj hn) rfl rfl (Nat.le_of_ble_eq_true rfl) rfl ?_
  refine mB hT 4 rfl ?_
  refine hC.2.2 _ [_, _, _] _ _ _ _ (c_isWithin_t h1 h2) rfl (Nat.le_of_ble_eq_true rfl) rfl ?_
  refine mB hT 16 rfl ?_
  exact hR _ (by decide) _ _ _ rfl rfl
set_option maxRecDepth 20000 in
theorem x_put_3_2 {n vs : Nat} {be de : Int64} {sz : Int32} {ro co mi : Nat → Int64} {T : Nat → Nat → Int64} {B : Nat → Nat → Nat → Int32} {hd : Nat → Nat → Int32} {df : Nat → Int32} (hj : 2 < n) (hn : n ≤ 4) {v : Int32} (h1 : 0 ≤ v) (h2 : v ≤ 20) : KX2_put l D ca ad [.ref 0, .int 3, .int 2, .int v] (XW (Int32.ofNat n) (Int32.ofNat vs) be de sz ro co mi T B hd df) (some (.int (hd 3 2))) (XW (Int32.ofNat n) (Int32.ofNat vs) be de sz ro co mi T B (up hd 3 (up (hd 3) 2 v)) df) := by
  refine PX2_put (Nat.le_of_ble_eq_true rfl) ?_
  intro G hT hC hR
  refine mB hT 1 rfl ?_
  refine hC.1 _ [_] _ _ _ _ (c_isBasket_t (i := 3) (by decide)) rfl (Nat.le_of_ble_eq_true rfl) rfl ?_
  refine mB hT 3 rfl ?_
  refine hC.2.1 _ 0 [_] _ _ _ _ _ (c_isMaking_t (i := 2) hj hn) rfl rfl (Nat.le_of_ble_eq_true rfl) rfl ?_
  refine mB hT 4 rfl ?_
  refine hC.2.2 _ [_, _, _] _ _ _ _ (c_isWithin_t h1 h2) rfl (Nat.le_of_ble_eq_true rfl) rfl ?_
  refine mB hT 16 rfl ?_
  exact hR _ (by decide) _ _ _ rfl rfl
set_option maxRecDepth 20000 in
theorem x_put_3_3 {n vs : Nat} {be de : Int64} {sz : Int32} {ro co mi : Nat → Int64} {T : Nat → Nat → Int64} {B : Nat → Nat → Nat → Int32} {hd : Nat → Nat → Int32} {df : Nat → Int32} (hj : 3 < n) (hn : n ≤ 4) {v : Int32} (h1 : 0 ≤ v) (h2 : v ≤ 20) : KX2_put l D ca ad [.ref 0, .int 3, .int 3, .int v] (XW (Int32.ofNat n) (Int32.ofNat vs) be de sz ro co mi T B hd df) (some (.int (hd 3 3))) (XW (Int32.ofNat n) (Int32.ofNat vs) be de sz ro co mi T B (up hd 3 (up (hd 3) 3 v)) df) := by
  refine PX2_put (Nat.le_of_ble_eq_true rfl) ?_
  intro G hT hC hR
  refine mB hT 1 rfl ?_
  refine hC.1 _ [_] _ _ _ _ (c_isBasket_t (i := 3) (by decide)) rfl (Nat.le_of_ble_eq_true rfl) rfl ?_
  refine mB hT 3 rfl ?_
  refine hC.2.1 _ 0 [_] _ _ _ _ _ (c_isMaking_t (i := 3) hj hn) rfl rfl (Nat.le_of_ble_eq_true rfl) rfl ?_
  refine mB hT 4 rfl ?_
  refine hC.2.2 _ [_, _, _] _ _ _ _ (c_isWithin_t h1 h2) rfl (Nat.le_of_ble_eq_true rfl) rfl ?_
  refine mB hT 16 rfl ?_
  exact hR _ (by decide) _ _ _ rfl rfl
theorem x_put {n vs : Nat} {be de : Int64} {sz : Int32} {ro co mi : Nat → Int64} {T : Nat → Nat → Int64} {B : Nat → Nat → Nat → Int32} {hd : Nat → Nat → Int32} {df : Nat → Int32} {b j : Nat} (hb : b < 4) (hj : j < n) (hn : n ≤ 4) {v : Int32} (h1 : 0 ≤ v) (h2 : v ≤ 20) : KX2_put l D ca ad [.ref 0, .int (Int32.ofNat b), .int (Int32.ofNat j), .int v] (XW (Int32.ofNat n) (Int32.ofNat vs) be de sz ro co mi T B hd df) (some (.int (hd b j))) (XW (Int32.ofNat n) (Int32.ofNat vs) be de sz ro co mi T B (up hd b (up (hd b) j v)) df) := by
  match b, hb, j, hj with
  | 0, _, 0, hj => exact x_put_0_0 hj hn h1 h2
  | 0, _, 1, hj => exact x_put_0_1 hj hn h1 h2
  | 0, _, 2, hj => exact x_put_0_2 hj hn h1 h2
  | 0, _, 3, hj => exact x_put_0_3 hj hn h1 h2
  | 1, _, 0, hj => exact x_put_1_0 hj hn h1 h2
  | 1, _, 1, hj => exact x_put_1_1 hj hn h1 h2
  | 1, _, 2, hj => exact x_put_1_2 hj hn h1 h2
  | 1, _, 3, hj => exact x_put_1_3 hj hn h1 h2
  | 2, _, 0, hj => exact x_put_2_0 hj hn h1 h2
  | 2, _, 1, hj => exact x_put_2_1 hj hn h1 h2
  | 2, _, 2, hj => exact x_put_2_2 hj hn h1 h2
  | 2, _, 3, hj => exact x_put_2_3 hj hn h1 h2
  | 3, _, 0, hj => exact x_put_3_0 hj hn h1 h2
  | 3, _, 1, hj => exact x_put_3_1 hj hn h1 h2
  | 3, _, 2, hj => exact x_put_3_2 hj hn h1 h2
  | 3, _, 3, hj => exact x_put_3_3 hj hn h1 h2
  | _, _, j + 4, hj => omega
  | b + 4, hb, _, _ => omega
set_option maxRecDepth 20000 in
theorem x_keep_0 {n : Nat} {be de : Int64} {sz : Int32} {ro co mi : Nat → Int64} {T : Nat → Nat → Int64} {B : Nat → Nat → Nat → Int32} {hd : Nat → Nat → Int32} {df : Nat → Int32} : KX2_keep l D ca ad [.ref 0] (XW (Int32.ofNat n) 0 be de sz ro co mi T B hd df) (some (.int 0)) (XW (Int32.ofNat n) 1 be de sz ro co mi T (cpX B 0 6 0 4) hd df) := by
  refine PX2_keep (Nat.le_of_ble_eq_true rfl) ?_
  intro G hT hC hR
  refine mB hT 13 rfl ?_
  refine hC _ 29 [_, _, _] _ _ _ _ _ (c_copy_0_6_0_4) rfl rfl (Nat.le_of_ble_eq_true rfl) rfl ?_
  refine mB hT 10 rfl ?_
  exact hR _ (by decide) _ _ _ rfl rfl
set_option maxRecDepth 20000 in
theorem x_recall_0 {n vs : Nat} {be de : Int64} {sz : Int32} {ro co mi : Nat → Int64} {T : Nat → Nat → Int64} {B : Nat → Nat → Nat → Int32} {hd : Nat → Nat → Int32} {df : Nat → Int32} (hv : 0 < vs) (hvs : vs ≤ 6) : KX2_recall l D ca ad [.ref 0, .int 0] (XW (Int32.ofNat n) (Int32.ofNat vs) be de sz ro co mi T B hd df) (some (.int 1)) (XW (Int32.ofNat n) (Int32.ofNat vs) be de sz ro co mi T (cpX B 6 0 0 4) hd df) := by
  refine PX2_recall (Nat.le_of_ble_eq_true rfl) ?_
  intro G hT hC hR
  refine mB hT 2 rfl ?_
  refine hC.1 _ 0 [_] _ _ _ _ _ (c_isVersion_t (i := 0) hv hvs) rfl rfl (Nat.le_of_ble_eq_true rfl) rfl ?_
  refine mB hT 9 rfl ?_
  refine hC.2 _ 10 [_, _, _] _ _ _ _ _ (c_copy_6_0_0_4) rfl rfl (Nat.le_of_ble_eq_true rfl) rfl ?_
  refine mB hT 1 rfl ?_
  exact hR _ (by decide) _ _ _ rfl rfl
set_option maxRecDepth 20000 in
theorem x_keep_1 {n : Nat} {be de : Int64} {sz : Int32} {ro co mi : Nat → Int64} {T : Nat → Nat → Int64} {B : Nat → Nat → Nat → Int32} {hd : Nat → Nat → Int32} {df : Nat → Int32} : KX2_keep l D ca ad [.ref 0] (XW (Int32.ofNat n) 1 be de sz ro co mi T B hd df) (some (.int 1)) (XW (Int32.ofNat n) 2 be de sz ro co mi T (cpX B 1 6 0 4) hd df) := by
  refine PX2_keep (Nat.le_of_ble_eq_true rfl) ?_
  intro G hT hC hR
  refine mB hT 13 rfl ?_
  refine hC _ 35 [_, _, _] _ _ _ _ _ (c_copy_1_6_0_4) rfl rfl (Nat.le_of_ble_eq_true rfl) rfl ?_
  refine mB hT 10 rfl ?_
  exact hR _ (by decide) _ _ _ rfl rfl
set_option maxRecDepth 20000 in
theorem x_recall_1 {n vs : Nat} {be de : Int64} {sz : Int32} {ro co mi : Nat → Int64} {T : Nat → Nat → Int64} {B : Nat → Nat → Nat → Int32} {hd : Nat → Nat → Int32} {df : Nat → Int32} (hv : 1 < vs) (hvs : vs ≤ 6) : KX2_recall l D ca ad [.ref 0, .int 1] (XW (Int32.ofNat n) (Int32.ofNat vs) be de sz ro co mi T B hd df) (some (.int 1)) (XW (Int32.ofNat n) (Int32.ofNat vs) be de sz ro co mi T (cpX B 6 1 0 4) hd df) := by
  refine PX2_recall (Nat.le_of_ble_eq_true rfl) ?_
  intro G hT hC hR
  refine mB hT 2 rfl ?_
  refine hC.1 _ 0 [_] _ _ _ _ _ (c_isVersion_t (i := 1) hv hvs) rfl rfl (Nat.le_of_ble_eq_true rfl) rfl ?_
  refine mB hT 9 rfl ?_
  refine hC.2 _ 10 [_, _, _] _ _ _ _ _ (c_copy_6_1_0_4) rfl rfl (Nat.le_of_ble_eq_true rfl) rfl ?_
  refine mB hT 1 rfl ?_
  exact hR _ (by decide) _ _ _ rfl rfl
set_option maxRecDepth 20000 in
theorem x_keep_2 {n : Nat} {be de : Int64} {sz : Int32} {ro co mi : Nat → Int64} {T : Nat → Nat → Int64} {B : Nat → Nat → Nat → Int32} {hd : Nat → Nat → Int32} {df : Nat → Int32} : KX2_keep l D ca ad [.ref 0] (XW (Int32.ofNat n) 2 be de sz ro co mi T B hd df) (some (.int 2)) (XW (Int32.ofNat n) 3 be de sz ro co mi T (cpX B 2 6 0 4) hd df) := by
  refine PX2_keep (Nat.le_of_ble_eq_true rfl) ?_
  intro G hT hC hR
  refine mB hT 13 rfl ?_
  refine hC _ 41 [_, _, _] _ _ _ _ _ (c_copy_2_6_0_4) rfl rfl (Nat.le_of_ble_eq_true rfl) rfl ?_
  refine mB hT 10 rfl ?_
  exact hR _ (by decide) _ _ _ rfl rfl
set_option maxRecDepth 20000 in
theorem x_recall_2 {n vs : Nat} {be de : Int64} {sz : Int32} {ro co mi : Nat → Int64} {T : Nat → Nat → Int64} {B : Nat → Nat → Nat → Int32} {hd : Nat → Nat → Int32} {df : Nat → Int32} (hv : 2 < vs) (hvs : vs ≤ 6) : KX2_recall l D ca ad [.ref 0, .int 2] (XW (Int32.ofNat n) (Int32.ofNat vs) be de sz ro co mi T B hd df) (some (.int 1)) (XW (Int32.ofNat n) (Int32.ofNat vs) be de sz ro co mi T (cpX B 6 2 0 4) hd df) := by
  refine PX2_recall (Nat.le_of_ble_eq_true rfl) ?_
  intro G hT hC hR
  refine mB hT 2 rfl ?_
  refine hC.1 _ 0 [_] _ _ _ _ _ (c_isVersion_t (i := 2) hv hvs) rfl rfl (Nat.le_of_ble_eq_true rfl) rfl ?_
  refine mB hT 9 rfl ?_
  refine hC.2 _ 10 [_, _, _] _ _ _ _ _ (c_copy_6_2_0_4) rfl rfl (Nat.le_of_ble_eq_true rfl) rfl ?_
  refine mB hT 1 rfl ?_
  exact hR _ (by decide) _ _ _ rfl rfl
set_option maxRecDepth 20000 in
theorem x_keep_3 {n : Nat} {be de : Int64} {sz : Int32} {ro co mi : Nat → Int64} {T : Nat → Nat → Int64} {B : Nat → Nat → Nat → Int32} {hd : Nat → Nat → Int32} {df : Nat → Int32} : KX2_keep l D ca ad [.ref 0] (XW (Int32.ofNat n) 3 be de sz ro co mi T B hd df) (some (.int 3)) (XW (Int32.ofNat n) 4 be de sz ro co mi T (cpX B 3 6 0 4) hd df) := by
  refine PX2_keep (Nat.le_of_ble_eq_true rfl) ?_
  intro G hT hC hR
  refine mB hT 13 rfl ?_
  refine hC _ 47 [_, _, _] _ _ _ _ _ (c_copy_3_6_0_4) rfl rfl (Nat.le_of_ble_eq_true rfl) rfl ?_
  refine mB hT 10 rfl ?_
  exact hR _ (by decide) _ _ _ rfl rfl
set_option maxRecDepth 20000 in
theorem x_recall_3 {n vs : Nat} {be de : Int64} {sz : Int32} {ro co mi : Nat → Int64} {T : Nat → Nat → Int64} {B : Nat → Nat → Nat → Int32} {hd : Nat → Nat → Int32} {df : Nat → Int32} (hv : 3 < vs) (hvs : vs ≤ 6) : KX2_recall l D ca ad [.ref 0, .int 3] (XW (Int32.ofNat n) (Int32.ofNat vs) be de sz ro co mi T B hd df) (some (.int 1)) (XW (Int32.ofNat n) (Int32.ofNat vs) be de sz ro co mi T (cpX B 6 3 0 4) hd df) := by
  refine PX2_recall (Nat.le_of_ble_eq_true rfl) ?_
  intro G hT hC hR
  refine mB hT 2 rfl ?_
  refine hC.1 _ 0 [_] _ _ _ _ _ (c_isVersion_t (i := 3) hv hvs) rfl rfl (Nat.le_of_ble_eq_true rfl) rfl ?_
  refine mB hT 9 rfl ?_
  refine hC.2 _ 10 [_, _, _] _ _ _ _ _ (c_copy_6_3_0_4) rfl rfl (Nat.le_of_ble_eq_true rfl) rfl ?_
  refine mB hT 1 rfl ?_
  exact hR _ (by decide) _ _ _ rfl rfl
set_option maxRecDepth 20000 in
theorem x_keep_4 {n : Nat} {be de : Int64} {sz : Int32} {ro co mi : Nat → Int64} {T : Nat → Nat → Int64} {B : Nat → Nat → Nat → Int32} {hd : Nat → Nat → Int32} {df : Nat → Int32} : KX2_keep l D ca ad [.ref 0] (XW (Int32.ofNat n) 4 be de sz ro co mi T B hd df) (some (.int 4)) (XW (Int32.ofNat n) 5 be de sz ro co mi T (cpX B 4 6 0 4) hd df) := by
  refine PX2_keep (Nat.le_of_ble_eq_true rfl) ?_
  intro G hT hC hR
  refine mB hT 13 rfl ?_
  refine hC _ 53 [_, _, _] _ _ _ _ _ (c_copy_4_6_0_4) rfl rfl (Nat.le_of_ble_eq_true rfl) rfl ?_
  refine mB hT 10 rfl ?_
  exact hR _ (by decide) _ _ _ rfl rfl
set_option maxRecDepth 20000 in
theorem x_recall_4 {n vs : Nat} {be de : Int64} {sz : Int32} {ro co mi : Nat → Int64} {T : Nat → Nat → Int64} {B : Nat → Nat → Nat → Int32} {hd : Nat → Nat → Int32} {df : Nat → Int32} (hv : 4 < vs) (hvs : vs ≤ 6) : KX2_recall l D ca ad [.ref 0, .int 4] (XW (Int32.ofNat n) (Int32.ofNat vs) be de sz ro co mi T B hd df) (some (.int 1)) (XW (Int32.ofNat n) (Int32.ofNat vs) be de sz ro co mi T (cpX B 6 4 0 4) hd df) := by
  refine PX2_recall (Nat.le_of_ble_eq_true rfl) ?_
  intro G hT hC hR
  refine mB hT 2 rfl ?_
  refine hC.1 _ 0 [_] _ _ _ _ _ (c_isVersion_t (i := 4) hv hvs) rfl rfl (Nat.le_of_ble_eq_true rfl) rfl ?_
  refine mB hT 9 rfl ?_
  refine hC.2 _ 10 [_, _, _] _ _ _ _ _ (c_copy_6_4_0_4) rfl rfl (Nat.le_of_ble_eq_true rfl) rfl ?_
  refine mB hT 1 rfl ?_
  exact hR _ (by decide) _ _ _ rfl rfl
set_option maxRecDepth 20000 in
theorem x_keep_5 {n : Nat} {be de : Int64} {sz : Int32} {ro co mi : Nat → Int64} {T : Nat → Nat → Int64} {B : Nat → Nat → Nat → Int32} {hd : Nat → Nat → Int32} {df : Nat → Int32} : KX2_keep l D ca ad [.ref 0] (XW (Int32.ofNat n) 5 be de sz ro co mi T B hd df) (some (.int 5)) (XW (Int32.ofNat n) 6 be de sz ro co mi T (cpX B 5 6 0 4) hd df) := by
  refine PX2_keep (Nat.le_of_ble_eq_true rfl) ?_
  intro G hT hC hR
  refine mB hT 13 rfl ?_
  refine hC _ 59 [_, _, _] _ _ _ _ _ (c_copy_5_6_0_4) rfl rfl (Nat.le_of_ble_eq_true rfl) rfl ?_
  refine mB hT 10 rfl ?_
  exact hR _ (by decide) _ _ _ rfl rfl
set_option maxRecDepth 20000 in
theorem x_recall_5 {n vs : Nat} {be de : Int64} {sz : Int32} {ro co mi : Nat → Int64} {T : Nat → Nat → Int64} {B : Nat → Nat → Nat → Int32} {hd : Nat → Nat → Int32} {df : Nat → Int32} (hv : 5 < vs) (hvs : vs ≤ 6) : KX2_recall l D ca ad [.ref 0, .int 5] (XW (Int32.ofNat n) (Int32.ofNat vs) be de sz ro co mi T B hd df) (some (.int 1)) (XW (Int32.ofNat n) (Int32.ofNat vs) be de sz ro co mi T (cpX B 6 5 0 4) hd df) := by
  refine PX2_recall (Nat.le_of_ble_eq_true rfl) ?_
  intro G hT hC hR
  refine mB hT 2 rfl ?_
  refine hC.1 _ 0 [_] _ _ _ _ _ (c_isVersion_t (i := 5) hv hvs) rfl rfl (Nat.le_of_ble_eq_true rfl) rfl ?_
  refine mB hT 9 rfl ?_
  refine hC.2 _ 10 [_, _, _] _ _ _ _ _ (c_copy_6_5_0_4) rfl rfl (Nat.le_of_ble_eq_true rfl) rfl ?_
  refine mB hT 1 rfl ?_
  exact hR _ (by decide) _ _ _ rfl rfl
theorem x_keep {n vs : Nat} {be de : Int64} {sz : Int32} {ro co mi : Nat → Int64} {T : Nat → Nat → Int64} {B : Nat → Nat → Nat → Int32} {hd : Nat → Nat → Int32} {df : Nat → Int32} (hv : vs < 6) : KX2_keep l D ca ad [.ref 0] (XW (Int32.ofNat n) (Int32.ofNat vs) be de sz ro co mi T B hd df) (some (.int (Int32.ofNat vs))) (XW (Int32.ofNat n) (Int32.ofNat (vs + 1)) be de sz ro co mi T (cpX B vs 6 0 4) hd df) := by
  match vs, hv with
  | 0, _ => exact x_keep_0
  | 1, _ => exact x_keep_1
  | 2, _ => exact x_keep_2
  | 3, _ => exact x_keep_3
  | 4, _ => exact x_keep_4
  | 5, _ => exact x_keep_5
theorem x_recall {n vs : Nat} {be de : Int64} {sz : Int32} {ro co mi : Nat → Int64} {T : Nat → Nat → Int64} {B : Nat → Nat → Nat → Int32} {hd : Nat → Nat → Int32} {df : Nat → Int32} {v : Nat} (hv : v < vs) (hvs : vs ≤ 6) : KX2_recall l D ca ad [.ref 0, .int (Int32.ofNat v)] (XW (Int32.ofNat n) (Int32.ofNat vs) be de sz ro co mi T B hd df) (some (.int 1)) (XW (Int32.ofNat n) (Int32.ofNat vs) be de sz ro co mi T (cpX B 6 v 0 4) hd df) := by
  match v, hv with
  | 0, hv => exact x_recall_0 hv hvs
  | 1, hv => exact x_recall_1 hv hvs
  | 2, hv => exact x_recall_2 hv hvs
  | 3, hv => exact x_recall_3 hv hvs
  | 4, hv => exact x_recall_4 hv hvs
  | 5, hv => exact x_recall_5 hv hvs
  | v + 6, hv => omega
end
