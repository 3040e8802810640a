section
variable {l : Launch} {D : va_G} {ca : Nat → ClassId} {ad ae : Nat → Nat}
theorem MX_b1 {n vs : Nat} {B Bm : Nat → Nat → Nat → Int32} {bk : Nat → Nat → Int32} (hI : RI n vs B Bm bk) {v : Nat} (hv : v < vs) (m : Nat) : MX n (cpX (cpX B 7 6 0 m) 7 v m 4 7) Bm m v := by
  have q := hI.2.1
  exact MX_mix hI.1 hI.2.2.1 (hI.2.2.2.1 v hv) (fun i hi => mix_row (by omega) hi)
theorem MX_b2 {n vs : Nat} {B Bm : Nat → Nat → Nat → Int32} {bk : Nat → Nat → Int32} (hI : RI n vs B Bm bk) {v : Nat} (hv : v < vs) (m m2 : Nat) : MX n (cpX (cpX (cpX (cpX B 7 6 0 m) 7 v m 4) 7 6 0 m2) 7 v m2 4 7) Bm m2 v :=
  MX_b1 (RI_b7 hI (fun k hk => mix_o hk)) hv m2
theorem MX_40 {n v : Nat} {Rw : Nat → Nat → Int32} {Bm : Nat → Nat → Nat → Int32} (hn : n ≤ 4) (h : MX n Rw Bm 4 v) : MX n Rw Bm 4 0 := by
  intro i hi
  have e1 : bkM 4 v i = 6 := if_pos (by omega)
  have e2 : bkM 4 0 i = 6 := if_pos (by omega)
  have g := h i hi
  rw [e1] at g
  rw [e2]
  exact g

theorem sb_0_0 {n vs : Nat} {be de : Int64} {sz : Int32} {ro co mi : Nat → Int64} {T : Nat → Nat → Int64} {B : Nat → Nat → Nat → Int32} {bk : Nat → Nat → Int32} {df : Nat → Int32} {wo un h : Int64} {bo : Nat → Int32} {ta tr r2 ot : Nat → Int64} {Bm : Nat → Nat → Nat → Int32} (hI : RI n vs B Bm bk) (hv : 0 < vs) (hi : 0 < n) {b : Nat} (hb : b < 4) {k : Nat} (hk : k < 3) : STl (KX2_blame l D ca ad) (KX3_blame l D ca ae) [.int 0, .int (Int32.ofNat b), .int (Int32.ofNat k), .int 0] (XW (Int32.ofNat n) (Int32.ofNat vs) be de sz ro co mi T B bk df) (MW (Int32.ofNat n) (Int32.ofNat vs) wo un h bo ta tr r2 ot Bm bk) := by
  have hn := hI.1
  have hvs := hI.2.1
  have h1 := MX_b1 hI hv 1
  have h2 := MX_b2 hI hv 1 0
  have hI2 : RI n vs (cpX (cpX (cpX (cpX B 7 6 0 1) 7 0 1 4) 7 6 0 0) 7 0 0 4) Bm bk := RI_b7 hI (fun k hk => by rw [mix_o hk, mix_o hk])
  have e1 := de_eq hn h1
  have e2 := de_eq hn h2
  by_cases z1 : dtM (TnM n Bm 1 0) = 0
  · obtain ⟨be2, de2, sz2, ro2, co2, mi2, T2, cx⟩ := x_blame_A_0_0 (l := l) (D := D) (ca := ca) (ad := ad) (n := n) (vs := vs) (be := be) (de := de) (sz := sz) (ro := ro) (co := co) (mi := mi) (T := T) (B := B) (hd := bk) (df := df) hv hvs hi hn hb hk (by rw [e1]; exact z1)
    obtain ⟨wo3, un3, bo3, ta3, tr3, ro3, cm⟩ := m_blame_A_0_0 (l := l) (D := D) (ca := ca) (ad := ae) (n := n) (vs := vs) (wo := wo) (un := un) (h := h) (bo := bo) (ta := ta) (tr := tr) (ro := r2) (ot := ot) (Bm := Bm) (bk := bk) hv hvs hi hn hb hk z1
    exact st_l (ix_mk hI2) cx cm rfl
  · by_cases z2 : dtM (TnM n Bm 0 0) = 0
    · obtain ⟨be2, de2, sz2, ro2, co2, mi2, T2, cx⟩ := x_blame_B_0_0 (l := l) (D := D) (ca := ca) (ad := ad) (n := n) (vs := vs) (be := be) (de := de) (sz := sz) (ro := ro) (co := co) (mi := mi) (T := T) (B := B) (hd := bk) (df := df) hv hvs hi hn hb hk (by rw [e1]; exact z1) (fun T2 => by rw [e2]; exact z2)
      obtain ⟨wo3, un3, bo3, ta3, tr3, ro3, cm⟩ := m_blame_B_0_0 (l := l) (D := D) (ca := ca) (ad := ae) (n := n) (vs := vs) (wo := wo) (un := un) (h := h) (bo := bo) (ta := ta) (tr := tr) (ro := r2) (ot := ot) (Bm := Bm) (bk := bk) hv hvs hi hn hb hk z1 z2
      exact st_l (ix_mk hI2) cx cm rfl
    · obtain ⟨T5, ro5, be2, de2, sz2, ro2, co2, mi2, T2, cx⟩ := x_blame_C_0_0 (l := l) (D := D) (ca := ca) (ad := ad) (n := n) (vs := vs) (be := be) (de := de) (sz := sz) (ro := ro) (co := co) (mi := mi) (T := T) (B := B) (hd := bk) (df := df) hv hvs hi hn hb hk (by rw [e1]; exact z1) (fun T2 => by rw [e2]; exact z2) (mt_ne hn h1 z1 T (RI_bi hI hb) ro hk) (fun T2 ro2 => mt_ne hn h2 z2 T2 (RI_bi hI hb) ro2 hk)
      obtain ⟨wo3, un3, bo3, ta3, tr3, ro3, cm⟩ := m_blame_C_0_0 (l := l) (D := D) (ca := ca) (ad := ae) (n := n) (vs := vs) (wo := wo) (un := un) (h := h) (bo := bo) (ta := ta) (tr := tr) (ro := r2) (ot := ot) (Bm := Bm) (bk := bk) hv hvs hi hn hb hk z1 z2
      exact st_l (ix_mk hI2) cx cm (by rw [mt_eq hn h1 z1 T (RI_bi hI hb) ro hk, mt_eq hn h2 z2 T5 (RI_bi hI hb) ro5 hk])
theorem sb_0_1 {n vs : Nat} {be de : Int64} {sz : Int32} {ro co mi : Nat → Int64} {T : Nat → Nat → Int64} {B : Nat → Nat → Nat → Int32} {bk : Nat → Nat → Int32} {df : Nat → Int32} {wo un h : Int64} {bo : Nat → Int32} {ta tr r2 ot : Nat → Int64} {Bm : Nat → Nat → Nat → Int32} (hI : RI n vs B Bm bk) (hv : 0 < vs) (hi : 1 < n) {b : Nat} (hb : b < 4) {k : Nat} (hk : k < 3) : STl (KX2_blame l D ca ad) (KX3_blame l D ca ae) [.int 0, .int (Int32.ofNat b), .int (Int32.ofNat k), .int 1] (XW (Int32.ofNat n) (Int32.ofNat vs) be de sz ro co mi T B bk df) (MW (Int32.ofNat n) (Int32.ofNat vs) wo un h bo ta tr r2 ot Bm bk) := by
  have hn := hI.1
  have hvs := hI.2.1
  have h1 := MX_b1 hI hv 2
  have h2 := MX_b2 hI hv 2 1
  have hI2 : RI n vs (cpX (cpX (cpX (cpX B 7 6 0 2) 7 0 2 4) 7 6 0 1) 7 0 1 4) Bm bk := RI_b7 hI (fun k hk => by rw [mix_o hk, mix_o hk])
  have e1 := de_eq hn h1
  have e2 := de_eq hn h2
  by_cases z1 : dtM (TnM n Bm 2 0) = 0
  · obtain ⟨be2, de2, sz2, ro2, co2, mi2, T2, cx⟩ := x_blame_A_0_1 (l := l) (D := D) (ca := ca) (ad := ad) (n := n) (vs := vs) (be := be) (de := de) (sz := sz) (ro := ro) (co := co) (mi := mi) (T := T) (B := B) (hd := bk) (df := df) hv hvs hi hn hb hk (by rw [e1]; exact z1)
    obtain ⟨wo3, un3, bo3, ta3, tr3, ro3, cm⟩ := m_blame_A_0_1 (l := l) (D := D) (ca := ca) (ad := ae) (n := n) (vs := vs) (wo := wo) (un := un) (h := h) (bo := bo) (ta := ta) (tr := tr) (ro := r2) (ot := ot) (Bm := Bm) (bk := bk) hv hvs hi hn hb hk z1
    exact st_l (ix_mk hI2) cx cm rfl
  · by_cases z2 : dtM (TnM n Bm 1 0) = 0
    · obtain ⟨be2, de2, sz2, ro2, co2, mi2, T2, cx⟩ := x_blame_B_0_1 (l := l) (D := D) (ca := ca) (ad := ad) (n := n) (vs := vs) (be := be) (de := de) (sz := sz) (ro := ro) (co := co) (mi := mi) (T := T) (B := B) (hd := bk) (df := df) hv hvs hi hn hb hk (by rw [e1]; exact z1) (fun T2 => by rw [e2]; exact z2)
      obtain ⟨wo3, un3, bo3, ta3, tr3, ro3, cm⟩ := m_blame_B_0_1 (l := l) (D := D) (ca := ca) (ad := ae) (n := n) (vs := vs) (wo := wo) (un := un) (h := h) (bo := bo) (ta := ta) (tr := tr) (ro := r2) (ot := ot) (Bm := Bm) (bk := bk) hv hvs hi hn hb hk z1 z2
      exact st_l (ix_mk hI2) cx cm rfl
    · obtain ⟨T5, ro5, be2, de2, sz2, ro2, co2, mi2, T2, cx⟩ := x_blame_C_0_1 (l := l) (D := D) (ca := ca) (ad := ad) (n := n) (vs := vs) (be := be) (de := de) (sz := sz) (ro := ro) (co := co) (mi := mi) (T := T) (B := B) (hd := bk) (df := df) hv hvs hi hn hb hk (by rw [e1]; exact z1) (fun T2 => by rw [e2]; exact z2) (mt_ne hn h1 z1 T (RI_bi hI hb) ro hk) (fun T2 ro2 => mt_ne hn h2 z2 T2 (RI_bi hI hb) ro2 hk)
      obtain ⟨wo3, un3, bo3, ta3, tr3, ro3, cm⟩ := m_blame_C_0_1 (l := l) (D := D) (ca := ca) (ad := ae) (n := n) (vs := vs) (wo := wo) (un := un) (h := h) (bo := bo) (ta := ta) (tr := tr) (ro := r2) (ot := ot) (Bm := Bm) (bk := bk) hv hvs hi hn hb hk z1 z2
      exact st_l (ix_mk hI2) cx cm (by rw [mt_eq hn h1 z1 T (RI_bi hI hb) ro hk, mt_eq hn h2 z2 T5 (RI_bi hI hb) ro5 hk])
theorem sb_0_2 {n vs : Nat} {be de : Int64} {sz : Int32} {ro co mi : Nat → Int64} {T : Nat → Nat → Int64} {B : Nat → Nat → Nat → Int32} {bk : Nat → Nat → Int32} {df : Nat → Int32} {wo un h : Int64} {bo : Nat → Int32} {ta tr r2 ot : Nat → Int64} {Bm : Nat → Nat → Nat → Int32} (hI : RI n vs B Bm bk) (hv : 0 < vs) (hi : 2 < n) {b : Nat} (hb : b < 4) {k : Nat} (hk : k < 3) : STl (KX2_blame l D ca ad) (KX3_blame l D ca ae) [.int 0, .int (Int32.ofNat b), .int (Int32.ofNat k), .int 2] (XW (Int32.ofNat n) (Int32.ofNat vs) be de sz ro co mi T B bk df) (MW (Int32.ofNat n) (Int32.ofNat vs) wo un h bo ta tr r2 ot Bm bk) := by
  have hn := hI.1
  have hvs := hI.2.1
  have h1 := MX_b1 hI hv 3
  have h2 := MX_b2 hI hv 3 2
  have hI2 : RI n vs (cpX (cpX (cpX (cpX B 7 6 0 3) 7 0 3 4) 7 6 0 2) 7 0 2 4) Bm bk := RI_b7 hI (fun k hk => by rw [mix_o hk, mix_o hk])
  have e1 := de_eq hn h1
  have e2 := de_eq hn h2
  by_cases z1 : dtM (TnM n Bm 3 0) = 0
  · obtain ⟨be2, de2, sz2, ro2, co2, mi2, T2, cx⟩ := x_blame_A_0_2 (l := l) (D := D) (ca := ca) (ad := ad) (n := n) (vs := vs) (be := be) (de := de) (sz := sz) (ro := ro) (co := co) (mi := mi) (T := T) (B := B) (hd := bk) (df := df) hv hvs hi hn hb hk (by rw [e1]; exact z1)
    obtain ⟨wo3, un3, bo3, ta3, tr3, ro3, cm⟩ := m_blame_A_0_2 (l := l) (D := D) (ca := ca) (ad := ae) (n := n) (vs := vs) (wo := wo) (un := un) (h := h) (bo := bo) (ta := ta) (tr := tr) (ro := r2) (ot := ot) (Bm := Bm) (bk := bk) hv hvs hi hn hb hk z1
    exact st_l (ix_mk hI2) cx cm rfl
  · by_cases z2 : dtM (TnM n Bm 2 0) = 0
    · obtain ⟨be2, de2, sz2, ro2, co2, mi2, T2, cx⟩ := x_blame_B_0_2 (l := l) (D := D) (ca := ca) (ad := ad) (n := n) (vs := vs) (be := be) (de := de) (sz := sz) (ro := ro) (co := co) (mi := mi) (T := T) (B := B) (hd := bk) (df := df) hv hvs hi hn hb hk (by rw [e1]; exact z1) (fun T2 => by rw [e2]; exact z2)
      obtain ⟨wo3, un3, bo3, ta3, tr3, ro3, cm⟩ := m_blame_B_0_2 (l := l) (D := D) (ca := ca) (ad := ae) (n := n) (vs := vs) (wo := wo) (un := un) (h := h) (bo := bo) (ta := ta) (tr := tr) (ro := r2) (ot := ot) (Bm := Bm) (bk := bk) hv hvs hi hn hb hk z1 z2
      exact st_l (ix_mk hI2) cx cm rfl
    · obtain ⟨T5, ro5, be2, de2, sz2, ro2, co2, mi2, T2, cx⟩ := x_blame_C_0_2 (l := l) (D := D) (ca := ca) (ad := ad) (n := n) (vs := vs) (be := be) (de := de) (sz := sz) (ro := ro) (co := co) (mi := mi) (T := T) (B := B) (hd := bk) (df := df) hv hvs hi hn hb hk (by rw [e1]; exact z1) (fun T2 => by rw [e2]; exact z2) (mt_ne hn h1 z1 T (RI_bi hI hb) ro hk) (fun T2 ro2 => mt_ne hn h2 z2 T2 (RI_bi hI hb) ro2 hk)
      obtain ⟨wo3, un3, bo3, ta3, tr3, ro3, cm⟩ := m_blame_C_0_2 (l := l) (D := D) (ca := ca) (ad := ae) (n := n) (vs := vs) (wo := wo) (un := un) (h := h) (bo := bo) (ta := ta) (tr := tr) (ro := r2) (ot := ot) (Bm := Bm) (bk := bk) hv hvs hi hn hb hk z1 z2
      exact st_l (ix_mk hI2) cx cm (by rw [mt_eq hn h1 z1 T (RI_bi hI hb) ro hk, mt_eq hn h2 z2 T5 (RI_bi hI hb) ro5 hk])
theorem sb_0_3 {n vs : Nat} {be de : Int64} {sz : Int32} {ro co mi : Nat → Int64} {T : Nat → Nat → Int64} {B : Nat → Nat → Nat → Int32} {bk : Nat → Nat → Int32} {df : Nat → Int32} {wo un h : Int64} {bo : Nat → Int32} {ta tr r2 ot : Nat → Int64} {Bm : Nat → Nat → Nat → Int32} (hI : RI n vs B Bm bk) (hv : 0 < vs) (hi : 3 < n) {b : Nat} (hb : b < 4) {k : Nat} (hk : k < 3) : STl (KX2_blame l D ca ad) (KX3_blame l D ca ae) [.int 0, .int (Int32.ofNat b), .int (Int32.ofNat k), .int 3] (XW (Int32.ofNat n) (Int32.ofNat vs) be de sz ro co mi T B bk df) (MW (Int32.ofNat n) (Int32.ofNat vs) wo un h bo ta tr r2 ot Bm bk) := by
  have hn := hI.1
  have hvs := hI.2.1
  have h1 := MX_40 hn (MX_b1 hI hv 4)
  have h2 := MX_b2 hI hv 4 3
  have hI2 : RI n vs (cpX (cpX (cpX (cpX B 7 6 0 4) 7 0 4 4) 7 6 0 3) 7 0 3 4) Bm bk := RI_b7 hI (fun k hk => by rw [mix_o hk, mix_o hk])
  have e1 := de_eq hn h1
  have e2 := de_eq hn h2
  by_cases z1 : dtM (TnM n Bm 4 0) = 0
  · obtain ⟨be2, de2, sz2, ro2, co2, mi2, T2, cx⟩ := x_blame_A_0_3 (l := l) (D := D) (ca := ca) (ad := ad) (n := n) (vs := vs) (be := be) (de := de) (sz := sz) (ro := ro) (co := co) (mi := mi) (T := T) (B := B) (hd := bk) (df := df) hv hvs hi hn hb hk (by rw [e1]; exact z1)
    obtain ⟨wo3, un3, bo3, ta3, tr3, ro3, cm⟩ := m_blame_A_0_3 (l := l) (D := D) (ca := ca) (ad := ae) (n := n) (vs := vs) (wo := wo) (un := un) (h := h) (bo := bo) (ta := ta) (tr := tr) (ro := r2) (ot := ot) (Bm := Bm) (bk := bk) hv hvs hi hn hb hk z1
    exact st_l (ix_mk hI2) cx cm rfl
  · by_cases z2 : dtM (TnM n Bm 3 0) = 0
    · obtain ⟨be2, de2, sz2, ro2, co2, mi2, T2, cx⟩ := x_blame_B_0_3 (l := l) (D := D) (ca := ca) (ad := ad) (n := n) (vs := vs) (be := be) (de := de) (sz := sz) (ro := ro) (co := co) (mi := mi) (T := T) (B := B) (hd := bk) (df := df) hv hvs hi hn hb hk (by rw [e1]; exact z1) (fun T2 => by rw [e2]; exact z2)
      obtain ⟨wo3, un3, bo3, ta3, tr3, ro3, cm⟩ := m_blame_B_0_3 (l := l) (D := D) (ca := ca) (ad := ae) (n := n) (vs := vs) (wo := wo) (un := un) (h := h) (bo := bo) (ta := ta) (tr := tr) (ro := r2) (ot := ot) (Bm := Bm) (bk := bk) hv hvs hi hn hb hk z1 z2
      exact st_l (ix_mk hI2) cx cm rfl
    · obtain ⟨T5, ro5, be2, de2, sz2, ro2, co2, mi2, T2, cx⟩ := x_blame_C_0_3 (l := l) (D := D) (ca := ca) (ad := ad) (n := n) (vs := vs) (be := be) (de := de) (sz := sz) (ro := ro) (co := co) (mi := mi) (T := T) (B := B) (hd := bk) (df := df) hv hvs hi hn hb hk (by rw [e1]; exact z1) (fun T2 => by rw [e2]; exact z2) (mt_ne hn h1 z1 T (RI_bi hI hb) ro hk) (fun T2 ro2 => mt_ne hn h2 z2 T2 (RI_bi hI hb) ro2 hk)
      obtain ⟨wo3, un3, bo3, ta3, tr3, ro3, cm⟩ := m_blame_C_0_3 (l := l) (D := D) (ca := ca) (ad := ae) (n := n) (vs := vs) (wo := wo) (un := un) (h := h) (bo := bo) (ta := ta) (tr := tr) (ro := r2) (ot := ot) (Bm := Bm) (bk := bk) hv hvs hi hn hb hk z1 z2
      exact st_l (ix_mk hI2) cx cm (by rw [mt_eq hn h1 z1 T (RI_bi hI hb) ro hk, mt_eq hn h2 z2 T5 (RI_bi hI hb) ro5 hk])
theorem sb_1_0 {n vs : Nat} {be de : Int64} {sz : Int32} {ro co mi : Nat → Int64} {T : Nat → Nat → Int64} {B : Nat → Nat → Nat → Int32} {bk : Nat → Nat → Int32} {df : Nat → Int32} {wo un h : Int64} {bo : Nat → Int32} {ta tr r2 ot : Nat → Int64} {Bm : Nat → Nat → Nat → Int32} (hI : RI n vs B Bm bk) (hv : 1 < vs) (hi : 0 < n) {b : Nat} (hb : b < 4) {k : Nat} (hk : k < 3) : STl (KX2_blame l D ca ad) (KX3_blame l D ca ae) [.int 1, .int (Int32.ofNat b), .int (Int32.ofNat k), .int 0] (XW (Int32.ofNat n) (Int32.ofNat vs) be de sz ro co mi T B bk df) (MW (Int32.ofNat n) (Int32.ofNat vs) wo un h bo ta tr r2 ot Bm bk) := by
  have hn := hI.1
  have hvs := hI.2.1
  have h1 := MX_b1 hI hv 1
  have h2 := MX_b2 hI hv 1 0
  have hI2 : RI n vs (cpX (cpX (cpX (cpX B 7 6 0 1) 7 1 1 4) 7 6 0 0) 7 1 0 4) Bm bk := RI_b7 hI (fun k hk => by rw [mix_o hk, mix_o hk])
  have e1 := de_eq hn h1
  have e2 := de_eq hn h2
  by_cases z1 : dtM (TnM n Bm 1 1) = 0
  · obtain ⟨be2, de2, sz2, ro2, co2, mi2, T2, cx⟩ := x_blame_A_1_0 (l := l) (D := D) (ca := ca) (ad := ad) (n := n) (vs := vs) (be := be) (de := de) (sz := sz) (ro := ro) (co := co) (mi := mi) (T := T) (B := B) (hd := bk) (df := df) hv hvs hi hn hb hk (by rw [e1]; exact z1)
    obtain ⟨wo3, un3, bo3, ta3, tr3, ro3, cm⟩ := m_blame_A_1_0 (l := l) (D := D) (ca := ca) (ad := ae) (n := n) (vs := vs) (wo := wo) (un := un) (h := h) (bo := bo) (ta := ta) (tr := tr) (ro := r2) (ot := ot) (Bm := Bm) (bk := bk) hv hvs hi hn hb hk z1
    exact st_l (ix_mk hI2) cx cm rfl
  · by_cases z2 : dtM (TnM n Bm 0 1) = 0
    · obtain ⟨be2, de2, sz2, ro2, co2, mi2, T2, cx⟩ := x_blame_B_1_0 (l := l) (D := D) (ca := ca) (ad := ad) (n := n) (vs := vs) (be := be) (de := de) (sz := sz) (ro := ro) (co := co) (mi := mi) (T := T) (B := B) (hd := bk) (df := df) hv hvs hi hn hb hk (by rw [e1]; exact z1) (fun T2 => by rw [e2]; exact z2)
      obtain ⟨wo3, un3, bo3, ta3, tr3, ro3, cm⟩ := m_blame_B_1_0 (l := l) (D := D) (ca := ca) (ad := ae) (n := n) (vs := vs) (wo := wo) (un := un) (h := h) (bo := bo) (ta := ta) (tr := tr) (ro := r2) (ot := ot) (Bm := Bm) (bk := bk) hv hvs hi hn hb hk z1 z2
      exact st_l (ix_mk hI2) cx cm rfl
    · obtain ⟨T5, ro5, be2, de2, sz2, ro2, co2, mi2, T2, cx⟩ := x_blame_C_1_0 (l := l) (D := D) (ca := ca) (ad := ad) (n := n) (vs := vs) (be := be) (de := de) (sz := sz) (ro := ro) (co := co) (mi := mi) (T := T) (B := B) (hd := bk) (df := df) hv hvs hi hn hb hk (by rw [e1]; exact z1) (fun T2 => by rw [e2]; exact z2) (mt_ne hn h1 z1 T (RI_bi hI hb) ro hk) (fun T2 ro2 => mt_ne hn h2 z2 T2 (RI_bi hI hb) ro2 hk)
      obtain ⟨wo3, un3, bo3, ta3, tr3, ro3, cm⟩ := m_blame_C_1_0 (l := l) (D := D) (ca := ca) (ad := ae) (n := n) (vs := vs) (wo := wo) (un := un) (h := h) (bo := bo) (ta := ta) (tr := tr) (ro := r2) (ot := ot) (Bm := Bm) (bk := bk) hv hvs hi hn hb hk z1 z2
      exact st_l (ix_mk hI2) cx cm (by rw [mt_eq hn h1 z1 T (RI_bi hI hb) ro hk, mt_eq hn h2 z2 T5 (RI_bi hI hb) ro5 hk])
theorem sb_1_1 {n vs : Nat} {be de : Int64} {sz : Int32} {ro co mi : Nat → Int64} {T : Nat → Nat → Int64} {B : Nat → Nat → Nat → Int32} {bk : Nat → Nat → Int32} {df : Nat → Int32} {wo un h : Int64} {bo : Nat → Int32} {ta tr r2 ot : Nat → Int64} {Bm : Nat → Nat → Nat → Int32} (hI : RI n vs B Bm bk) (hv : 1 < vs) (hi : 1 < n) {b : Nat} (hb : b < 4) {k : Nat} (hk : k < 3) : STl (KX2_blame l D ca ad) (KX3_blame l D ca ae) [.int 1, .int (Int32.ofNat b), .int (Int32.ofNat k), .int 1] (XW (Int32.ofNat n) (Int32.ofNat vs) be de sz ro co mi T B bk df) (MW (Int32.ofNat n) (Int32.ofNat vs) wo un h bo ta tr r2 ot Bm bk) := by
  have hn := hI.1
  have hvs := hI.2.1
  have h1 := MX_b1 hI hv 2
  have h2 := MX_b2 hI hv 2 1
  have hI2 : RI n vs (cpX (cpX (cpX (cpX B 7 6 0 2) 7 1 2 4) 7 6 0 1) 7 1 1 4) Bm bk := RI_b7 hI (fun k hk => by rw [mix_o hk, mix_o hk])
  have e1 := de_eq hn h1
  have e2 := de_eq hn h2
  by_cases z1 : dtM (TnM n Bm 2 1) = 0
  · obtain ⟨be2, de2, sz2, ro2, co2, mi2, T2, cx⟩ := x_blame_A_1_1 (l := l) (D := D) (ca := ca) (ad := ad) (n := n) (vs := vs) (be := be) (de := de) (sz := sz) (ro := ro) (co := co) (mi := mi) (T := T) (B := B) (hd := bk) (df := df) hv hvs hi hn hb hk (by rw [e1]; exact z1)
    obtain ⟨wo3, un3, bo3, ta3, tr3, ro3, cm⟩ := m_blame_A_1_1 (l := l) (D := D) (ca := ca) (ad := ae) (n := n) (vs := vs) (wo := wo) (un := un) (h := h) (bo := bo) (ta := ta) (tr := tr) (ro := r2) (ot := ot) (Bm := Bm) (bk := bk) hv hvs hi hn hb hk z1
    exact st_l (ix_mk hI2) cx cm rfl
  · by_cases z2 : dtM (TnM n Bm 1 1) = 0
    · obtain ⟨be2, de2, sz2, ro2, co2, mi2, T2, cx⟩ := x_blame_B_1_1 (l := l) (D := D) (ca := ca) (ad := ad) (n := n) (vs := vs) (be := be) (de := de) (sz := sz) (ro := ro) (co := co) (mi := mi) (T := T) (B := B) (hd := bk) (df := df) hv hvs hi hn hb hk (by rw [e1]; exact z1) (fun T2 => by rw [e2]; exact z2)
      obtain ⟨wo3, un3, bo3, ta3, tr3, ro3, cm⟩ := m_blame_B_1_1 (l := l) (D := D) (ca := ca) (ad := ae) (n := n) (vs := vs) (wo := wo) (un := un) (h := h) (bo := bo) (ta := ta) (tr := tr) (ro := r2) (ot := ot) (Bm := Bm) (bk := bk) hv hvs hi hn hb hk z1 z2
      exact st_l (ix_mk hI2) cx cm rfl
    · obtain ⟨T5, ro5, be2, de2, sz2, ro2, co2, mi2, T2, cx⟩ := x_blame_C_1_1 (l := l) (D := D) (ca := ca) (ad := ad) (n := n) (vs := vs) (be := be) (de := de) (sz := sz) (ro := ro) (co := co) (mi := mi) (T := T) (B := B) (hd := bk) (df := df) hv hvs hi hn hb hk (by rw [e1]; exact z1) (fun T2 => by rw [e2]; exact z2) (mt_ne hn h1 z1 T (RI_bi hI hb) ro hk) (fun T2 ro2 => mt_ne hn h2 z2 T2 (RI_bi hI hb) ro2 hk)
      obtain ⟨wo3, un3, bo3, ta3, tr3, ro3, cm⟩ := m_blame_C_1_1 (l := l) (D := D) (ca := ca) (ad := ae) (n := n) (vs := vs) (wo := wo) (un := un) (h := h) (bo := bo) (ta := ta) (tr := tr) (ro := r2) (ot := ot) (Bm := Bm) (bk := bk) hv hvs hi hn hb hk z1 z2
      exact st_l (ix_mk hI2) cx cm (by rw [mt_eq hn h1 z1 T (RI_bi hI hb) ro hk, mt_eq hn h2 z2 T5 (RI_bi hI hb) ro5 hk])
theorem sb_1_2 {n vs : Nat} {be de : Int64} {sz : Int32} {ro co mi : Nat → Int64} {T : Nat → Nat → Int64} {B : Nat → Nat → Nat → Int32} {bk : Nat → Nat → Int32} {df : Nat → Int32} {wo un h : Int64} {bo : Nat → Int32} {ta tr r2 ot : Nat → Int64} {Bm : Nat → Nat → Nat → Int32} (hI : RI n vs B Bm bk) (hv : 1 < vs) (hi : 2 < n) {b : Nat} (hb : b < 4) {k : Nat} (hk : k < 3) : STl (KX2_blame l D ca ad) (KX3_blame l D ca ae) [.int 1, .int (Int32.ofNat b), .int (Int32.ofNat k), .int 2] (XW (Int32.ofNat n) (Int32.ofNat vs) be de sz ro co mi T B bk df) (MW (Int32.ofNat n) (Int32.ofNat vs) wo un h bo ta tr r2 ot Bm bk) := by
  have hn := hI.1
  have hvs := hI.2.1
  have h1 := MX_b1 hI hv 3
  have h2 := MX_b2 hI hv 3 2
  have hI2 : RI n vs (cpX (cpX (cpX (cpX B 7 6 0 3) 7 1 3 4) 7 6 0 2) 7 1 2 4) Bm bk := RI_b7 hI (fun k hk => by rw [mix_o hk, mix_o hk])
  have e1 := de_eq hn h1
  have e2 := de_eq hn h2
  by_cases z1 : dtM (TnM n Bm 3 1) = 0
  · obtain ⟨be2, de2, sz2, ro2, co2, mi2, T2, cx⟩ := x_blame_A_1_2 (l := l) (D := D) (ca := ca) (ad := ad) (n := n) (vs := vs) (be := be) (de := de) (sz := sz) (ro := ro) (co := co) (mi := mi) (T := T) (B := B) (hd := bk) (df := df) hv hvs hi hn hb hk (by rw [e1]; exact z1)
    obtain ⟨wo3, un3, bo3, ta3, tr3, ro3, cm⟩ := m_blame_A_1_2 (l := l) (D := D) (ca := ca) (ad := ae) (n := n) (vs := vs) (wo := wo) (un := un) (h := h) (bo := bo) (ta := ta) (tr := tr) (ro := r2) (ot := ot) (Bm := Bm) (bk := bk) hv hvs hi hn hb hk z1
    exact st_l (ix_mk hI2) cx cm rfl
  · by_cases z2 : dtM (TnM n Bm 2 1) = 0
    · obtain ⟨be2, de2, sz2, ro2, co2, mi2, T2, cx⟩ := x_blame_B_1_2 (l := l) (D := D) (ca := ca) (ad := ad) (n := n) (vs := vs) (be := be) (de := de) (sz := sz) (ro := ro) (co := co) (mi := mi) (T := T) (B := B) (hd := bk) (df := df) hv hvs hi hn hb hk (by rw [e1]; exact z1) (fun T2 => by rw [e2]; exact z2)
      obtain ⟨wo3, un3, bo3, ta3, tr3, ro3, cm⟩ := m_blame_B_1_2 (l := l) (D := D) (ca := ca) (ad := ae) (n := n) (vs := vs) (wo := wo) (un := un) (h := h) (bo := bo) (ta := ta) (tr := tr) (ro := r2) (ot := ot) (Bm := Bm) (bk := bk) hv hvs hi hn hb hk z1 z2
      exact st_l (ix_mk hI2) cx cm rfl
    · obtain ⟨T5, ro5, be2, de2, sz2, ro2, co2, mi2, T2, cx⟩ := x_blame_C_1_2 (l := l) (D := D) (ca := ca) (ad := ad) (n := n) (vs := vs) (be := be) (de := de) (sz := sz) (ro := ro) (co := co) (mi := mi) (T := T) (B := B) (hd := bk) (df := df) hv hvs hi hn hb hk (by rw [e1]; exact z1) (fun T2 => by rw [e2]; exact z2) (mt_ne hn h1 z1 T (RI_bi hI hb) ro hk) (fun T2 ro2 => mt_ne hn h2 z2 T2 (RI_bi hI hb) ro2 hk)
      obtain ⟨wo3, un3, bo3, ta3, tr3, ro3, cm⟩ := m_blame_C_1_2 (l := l) (D := D) (ca := ca) (ad := ae) (n := n) (vs := vs) (wo := wo) (un := un) (h := h) (bo := bo) (ta := ta) (tr := tr) (ro := r2) (ot := ot) (Bm := Bm) (bk := bk) hv hvs hi hn hb hk z1 z2
      exact st_l (ix_mk hI2) cx cm (by rw [mt_eq hn h1 z1 T (RI_bi hI hb) ro hk, mt_eq hn h2 z2 T5 (RI_bi hI hb) ro5 hk])
theorem sb_1_3 {n vs : Nat} {be de : Int64} {sz : Int32} {ro co mi : Nat → Int64} {T : Nat → Nat → Int64} {B : Nat → Nat → Nat → Int32} {bk : Nat → Nat → Int32} {df : Nat → Int32} {wo un h : Int64} {bo : Nat → Int32} {ta tr r2 ot : Nat → Int64} {Bm : Nat → Nat → Nat → Int32} (hI : RI n vs B Bm bk) (hv : 1 < vs) (hi : 3 < n) {b : Nat} (hb : b < 4) {k : Nat} (hk : k < 3) : STl (KX2_blame l D ca ad) (KX3_blame l D ca ae) [.int 1, .int (Int32.ofNat b), .int (Int32.ofNat k), .int 3] (XW (Int32.ofNat n) (Int32.ofNat vs) be de sz ro co mi T B bk df) (MW (Int32.ofNat n) (Int32.ofNat vs) wo un h bo ta tr r2 ot Bm bk) := by
  have hn := hI.1
  have hvs := hI.2.1
  have h1 := MX_40 hn (MX_b1 hI hv 4)
  have h2 := MX_b2 hI hv 4 3
  have hI2 : RI n vs (cpX (cpX (cpX (cpX B 7 6 0 4) 7 1 4 4) 7 6 0 3) 7 1 3 4) Bm bk := RI_b7 hI (fun k hk => by rw [mix_o hk, mix_o hk])
  have e1 := de_eq hn h1
  have e2 := de_eq hn h2
  by_cases z1 : dtM (TnM n Bm 4 0) = 0
  · obtain ⟨be2, de2, sz2, ro2, co2, mi2, T2, cx⟩ := x_blame_A_1_3 (l := l) (D := D) (ca := ca) (ad := ad) (n := n) (vs := vs) (be := be) (de := de) (sz := sz) (ro := ro) (co := co) (mi := mi) (T := T) (B := B) (hd := bk) (df := df) hv hvs hi hn hb hk (by rw [e1]; exact z1)
    obtain ⟨wo3, un3, bo3, ta3, tr3, ro3, cm⟩ := m_blame_A_1_3 (l := l) (D := D) (ca := ca) (ad := ae) (n := n) (vs := vs) (wo := wo) (un := un) (h := h) (bo := bo) (ta := ta) (tr := tr) (ro := r2) (ot := ot) (Bm := Bm) (bk := bk) hv hvs hi hn hb hk z1
    exact st_l (ix_mk hI2) cx cm rfl
  · by_cases z2 : dtM (TnM n Bm 3 1) = 0
    · obtain ⟨be2, de2, sz2, ro2, co2, mi2, T2, cx⟩ := x_blame_B_1_3 (l := l) (D := D) (ca := ca) (ad := ad) (n := n) (vs := vs) (be := be) (de := de) (sz := sz) (ro := ro) (co := co) (mi := mi) (T := T) (B := B) (hd := bk) (df := df) hv hvs hi hn hb hk (by rw [e1]; exact z1) (fun T2 => by rw [e2]; exact z2)
      obtain ⟨wo3, un3, bo3, ta3, tr3, ro3, cm⟩ := m_blame_B_1_3 (l := l) (D := D) (ca := ca) (ad := ae) (n := n) (vs := vs) (wo := wo) (un := un) (h := h) (bo := bo) (ta := ta) (tr := tr) (ro := r2) (ot := ot) (Bm := Bm) (bk := bk) hv hvs hi hn hb hk z1 z2
      exact st_l (ix_mk hI2) cx cm rfl
    · obtain ⟨T5, ro5, be2, de2, sz2, ro2, co2, mi2, T2, cx⟩ := x_blame_C_1_3 (l := l) (D := D) (ca := ca) (ad := ad) (n := n) (vs := vs) (be := be) (de := de) (sz := sz) (ro := ro) (co := co) (mi := mi) (T := T) (B := B) (hd := bk) (df := df) hv hvs hi hn hb hk (by rw [e1]; exact z1) (fun T2 => by rw [e2]; exact z2) (mt_ne hn h1 z1 T (RI_bi hI hb) ro hk) (fun T2 ro2 => mt_ne hn h2 z2 T2 (RI_bi hI hb) ro2 hk)
      obtain ⟨wo3, un3, bo3, ta3, tr3, ro3, cm⟩ := m_blame_C_1_3 (l := l) (D := D) (ca := ca) (ad := ae) (n := n) (vs := vs) (wo := wo) (un := un) (h := h) (bo := bo) (ta := ta) (tr := tr) (ro := r2) (ot := ot) (Bm := Bm) (bk := bk) hv hvs hi hn hb hk z1 z2
      exact st_l (ix_mk hI2) cx cm (by rw [mt_eq hn h1 z1 T (RI_bi hI hb) ro hk, mt_eq hn h2 z2 T5 (RI_bi hI hb) ro5 hk])
theorem sb_2_0 {n vs : Nat} {be de : Int64} {sz : Int32} {ro co mi : Nat → Int64} {T : Nat → Nat → Int64} {B : Nat → Nat → Nat → Int32} {bk : Nat → Nat → Int32} {df : Nat → Int32} {wo un h : Int64} {bo : Nat → Int32} {ta tr r2 ot : Nat → Int64} {Bm : Nat → Nat → Nat → Int32} (hI : RI n vs B Bm bk) (hv : 2 < vs) (hi : 0 < n) {b : Nat} (hb : b < 4) {k : Nat} (hk : k < 3) : STl (KX2_blame l D ca ad) (KX3_blame l D ca ae) [.int 2, .int (Int32.ofNat b), .int (Int32.ofNat k), .int 0] (XW (Int32.ofNat n) (Int32.ofNat vs) be de sz ro co mi T B bk df) (MW (Int32.ofNat n) (Int32.ofNat vs) wo un h bo ta tr r2 ot Bm bk) := by
  have hn := hI.1
  have hvs := hI.2.1
  have h1 := MX_b1 hI hv 1
  have h2 := MX_b2 hI hv 1 0
  have hI2 : RI n vs (cpX (cpX (cpX (cpX B 7 6 0 1) 7 2 1 4) 7 6 0 0) 7 2 0 4) Bm bk := RI_b7 hI (fun k hk => by rw [mix_o hk, mix_o hk])
  have e1 := de_eq hn h1
  have e2 := de_eq hn h2
  by_cases z1 : dtM (TnM n Bm 1 2) = 0
  · obtain ⟨be2, de2, sz2, ro2, co2, mi2, T2, cx⟩ := x_blame_A_2_0 (l := l) (D := D) (ca := ca) (ad := ad) (n := n) (vs := vs) (be := be) (de := de) (sz := sz) (ro := ro) (co := co) (mi := mi) (T := T) (B := B) (hd := bk) (df := df) hv hvs hi hn hb hk (by rw [e1]; exact z1)
    obtain ⟨wo3, un3, bo3, ta3, tr3, ro3, cm⟩ := m_blame_A_2_0 (l := l) (D := D) (ca := ca) (ad := ae) (n := n) (vs := vs) (wo := wo) (un := un) (h := h) (bo := bo) (ta := ta) (tr := tr) (ro := r2) (ot := ot) (Bm := Bm) (bk := bk) hv hvs hi hn hb hk z1
    exact st_l (ix_mk hI2) cx cm rfl
  · by_cases z2 : dtM (TnM n Bm 0 2) = 0
    · obtain ⟨be2, de2, sz2, ro2, co2, mi2, T2, cx⟩ := x_blame_B_2_0 (l := l) (D := D) (ca := ca) (ad := ad) (n := n) (vs := vs) (be := be) (de := de) (sz := sz) (ro := ro) (co := co) (mi := mi) (T := T) (B := B) (hd := bk) (df := df) hv hvs hi hn hb hk (by rw [e1]; exact z1) (fun T2 => by rw [e2]; exact z2)
      obtain ⟨wo3, un3, bo3, ta3, tr3, ro3, cm⟩ := m_blame_B_2_0 (l := l) (D := D) (ca := ca) (ad := ae) (n := n) (vs := vs) (wo := wo) (un := un) (h := h) (bo := bo) (ta := ta) (tr := tr) (ro := r2) (ot := ot) (Bm := Bm) (bk := bk) hv hvs hi hn hb hk z1 z2
      exact st_l (ix_mk hI2) cx cm rfl
    · obtain ⟨T5, ro5, be2, de2, sz2, ro2, co2, mi2, T2, cx⟩ := x_blame_C_2_0 (l := l) (D := D) (ca := ca) (ad := ad) (n := n) (vs := vs) (be := be) (de := de) (sz := sz) (ro := ro) (co := co) (mi := mi) (T := T) (B := B) (hd := bk) (df := df) hv hvs hi hn hb hk (by rw [e1]; exact z1) (fun T2 => by rw [e2]; exact z2) (mt_ne hn h1 z1 T (RI_bi hI hb) ro hk) (fun T2 ro2 => mt_ne hn h2 z2 T2 (RI_bi hI hb) ro2 hk)
      obtain ⟨wo3, un3, bo3, ta3, tr3, ro3, cm⟩ := m_blame_C_2_0 (l := l) (D := D) (ca := ca) (ad := ae) (n := n) (vs := vs) (wo := wo) (un := un) (h := h) (bo := bo) (ta := ta) (tr := tr) (ro := r2) (ot := ot) (Bm := Bm) (bk := bk) hv hvs hi hn hb hk z1 z2
      exact st_l (ix_mk hI2) cx cm (by rw [mt_eq hn h1 z1 T (RI_bi hI hb) ro hk, mt_eq hn h2 z2 T5 (RI_bi hI hb) ro5 hk])
theorem sb_2_1 {n vs : Nat} {be de : Int64} {sz : Int32} {ro co mi : Nat → Int64} {T : Nat → Nat → Int64} {B : Nat → Nat → Nat → Int32} {bk : Nat → Nat → Int32} {df : Nat → Int32} {wo un h : Int64} {bo : Nat → Int32} {ta tr r2 ot : Nat → Int64} {Bm : Nat → Nat → Nat → Int32} (hI : RI n vs B Bm bk) (hv : 2 < vs) (hi : 1 < n) {b : Nat} (hb : b < 4) {k : Nat} (hk : k < 3) : STl (KX2_blame l D ca ad) (KX3_blame l D ca ae) [.int 2, .int (Int32.ofNat b), .int (Int32.ofNat k), .int 1] (XW (Int32.ofNat n) (Int32.ofNat vs) be de sz ro co mi T B bk df) (MW (Int32.ofNat n) (Int32.ofNat vs) wo un h bo ta tr r2 ot Bm bk) := by
  have hn := hI.1
  have hvs := hI.2.1
  have h1 := MX_b1 hI hv 2
  have h2 := MX_b2 hI hv 2 1
  have hI2 : RI n vs (cpX (cpX (cpX (cpX B 7 6 0 2) 7 2 2 4) 7 6 0 1) 7 2 1 4) Bm bk := RI_b7 hI (fun k hk => by rw [mix_o hk, mix_o hk])
  have e1 := de_eq hn h1
  have e2 := de_eq hn h2
  by_cases z1 : dtM (TnM n Bm 2 2) = 0
  · obtain ⟨be2, de2, sz2, ro2, co2, mi2, T2, cx⟩ := x_blame_A_2_1 (l := l) (D := D) (ca := ca) (ad := ad) (n := n) (vs := vs) (be := be) (de := de) (sz := sz) (ro := ro) (co := co) (mi := mi) (T := T) (B := B) (hd := bk) (df := df) hv hvs hi hn hb hk (by rw [e1]; exact z1)
    obtain ⟨wo3, un3, bo3, ta3, tr3, ro3, cm⟩ := m_blame_A_2_1 (l := l) (D := D) (ca := ca) (ad := ae) (n := n) (vs := vs) (wo := wo) (un := un) (h := h) (bo := bo) (ta := ta) (tr := tr) (ro := r2) (ot := ot) (Bm := Bm) (bk := bk) hv hvs hi hn hb hk z1
    exact st_l (ix_mk hI2) cx cm rfl
  · by_cases z2 : dtM (TnM n Bm 1 2) = 0
    · obtain ⟨be2, de2, sz2, ro2, co2, mi2, T2, cx⟩ := x_blame_B_2_1 (l := l) (D := D) (ca := ca) (ad := ad) (n := n) (vs := vs) (be := be) (de := de) (sz := sz) (ro := ro) (co := co) (mi := mi) (T := T) (B := B) (hd := bk) (df := df) hv hvs hi hn hb hk (by rw [e1]; exact z1) (fun T2 => by rw [e2]; exact z2)
      obtain ⟨wo3, un3, bo3, ta3, tr3, ro3, cm⟩ := m_blame_B_2_1 (l := l) (D := D) (ca := ca) (ad := ae) (n := n) (vs := vs) (wo := wo) (un := un) (h := h) (bo := bo) (ta := ta) (tr := tr) (ro := r2) (ot := ot) (Bm := Bm) (bk := bk) hv hvs hi hn hb hk z1 z2
      exact st_l (ix_mk hI2) cx cm rfl
    · obtain ⟨T5, ro5, be2, de2, sz2, ro2, co2, mi2, T2, cx⟩ := x_blame_C_2_1 (l := l) (D := D) (ca := ca) (ad := ad) (n := n) (vs := vs) (be := be) (de := de) (sz := sz) (ro := ro) (co := co) (mi := mi) (T := T) (B := B) (hd := bk) (df := df) hv hvs hi hn hb hk (by rw [e1]; exact z1) (fun T2 => by rw [e2]; exact z2) (mt_ne hn h1 z1 T (RI_bi hI hb) ro hk) (fun T2 ro2 => mt_ne hn h2 z2 T2 (RI_bi hI hb) ro2 hk)
      obtain ⟨wo3, un3, bo3, ta3, tr3, ro3, cm⟩ := m_blame_C_2_1 (l := l) (D := D) (ca := ca) (ad := ae) (n := n) (vs := vs) (wo := wo) (un := un) (h := h) (bo := bo) (ta := ta) (tr := tr) (ro := r2) (ot := ot) (Bm := Bm) (bk := bk) hv hvs hi hn hb hk z1 z2
      exact st_l (ix_mk hI2) cx cm (by rw [mt_eq hn h1 z1 T (RI_bi hI hb) ro hk, mt_eq hn h2 z2 T5 (RI_bi hI hb) ro5 hk])
theorem sb_2_2 {n vs : Nat} {be de : Int64} {sz : Int32} {ro co mi : Nat → Int64} {T : Nat → Nat → Int64} {B : Nat → Nat → Nat → Int32} {bk : Nat → Nat → Int32} {df : Nat → Int32} {wo un h : Int64} {bo : Nat → Int32} {ta tr r2 ot : Nat → Int64} {Bm : Nat → Nat → Nat → Int32} (hI : RI n vs B Bm bk) (hv : 2 < vs) (hi : 2 < n) {b : Nat} (hb : b < 4) {k : Nat} (hk : k < 3) : STl (KX2_blame l D ca ad) (KX3_blame l D ca ae) [.int 2, .int (Int32.ofNat b), .int (Int32.ofNat k), .int 2] (XW (Int32.ofNat n) (Int32.ofNat vs) be de sz ro co mi T B bk df) (MW (Int32.ofNat n) (Int32.ofNat vs) wo un h bo ta tr r2 ot Bm bk) := by
  have hn := hI.1
  have hvs := hI.2.1
  have h1 := MX_b1 hI hv 3
  have h2 := MX_b2 hI hv 3 2
  have hI2 : RI n vs (cpX (cpX (cpX (cpX B 7 6 0 3) 7 2 3 4) 7 6 0 2) 7 2 2 4) Bm bk := RI_b7 hI (fun k hk => by rw [mix_o hk, mix_o hk])
  have e1 := de_eq hn h1
  have e2 := de_eq hn h2
  by_cases z1 : dtM (TnM n Bm 3 2) = 0
  · obtain ⟨be2, de2, sz2, ro2, co2, mi2, T2, cx⟩ := x_blame_A_2_2 (l := l) (D := D) (ca := ca) (ad := ad) (n := n) (vs := vs) (be := be) (de := de) (sz := sz) (ro := ro) (co := co) (mi := mi) (T := T) (B := B) (hd := bk) (df := df) hv hvs hi hn hb hk (by rw [e1]; exact z1)
    obtain ⟨wo3, un3, bo3, ta3, tr3, ro3, cm⟩ := m_blame_A_2_2 (l := l) (D := D) (ca := ca) (ad := ae) (n := n) (vs := vs) (wo := wo) (un := un) (h := h) (bo := bo) (ta := ta) (tr := tr) (ro := r2) (ot := ot) (Bm := Bm) (bk := bk) hv hvs hi hn hb hk z1
    exact st_l (ix_mk hI2) cx cm rfl
  · by_cases z2 : dtM (TnM n Bm 2 2) = 0
    · obtain ⟨be2, de2, sz2, ro2, co2, mi2, T2, cx⟩ := x_blame_B_2_2 (l := l) (D := D) (ca := ca) (ad := ad) (n := n) (vs := vs) (be := be) (de := de) (sz := sz) (ro := ro) (co := co) (mi := mi) (T := T) (B := B) (hd := bk) (df := df) hv hvs hi hn hb hk (by rw [e1]; exact z1) (fun T2 => by rw [e2]; exact z2)
      obtain ⟨wo3, un3, bo3, ta3, tr3, ro3, cm⟩ := m_blame_B_2_2 (l := l) (D := D) (ca := ca) (ad := ae) (n := n) (vs := vs) (wo := wo) (un := un) (h := h) (bo := bo) (ta := ta) (tr := tr) (ro := r2) (ot := ot) (Bm := Bm) (bk := bk) hv hvs hi hn hb hk z1 z2
      exact st_l (ix_mk hI2) cx cm rfl
    · obtain ⟨T5, ro5, be2, de2, sz2, ro2, co2, mi2, T2, cx⟩ := x_blame_C_2_2 (l := l) (D := D) (ca := ca) (ad := ad) (n := n) (vs := vs) (be := be) (de := de) (sz := sz) (ro := ro) (co := co) (mi := mi) (T := T) (B := B) (hd := bk) (df := df) hv hvs hi hn hb hk (by rw [e1]; exact z1) (fun T2 => by rw [e2]; exact z2) (mt_ne hn h1 z1 T (RI_bi hI hb) ro hk) (fun T2 ro2 => mt_ne hn h2 z2 T2 (RI_bi hI hb) ro2 hk)
      obtain ⟨wo3, un3, bo3, ta3, tr3, ro3, cm⟩ := m_blame_C_2_2 (l := l) (D := D) (ca := ca) (ad := ae) (n := n) (vs := vs) (wo := wo) (un := un) (h := h) (bo := bo) (ta := ta) (tr := tr) (ro := r2) (ot := ot) (Bm := Bm) (bk := bk) hv hvs hi hn hb hk z1 z2
      exact st_l (ix_mk hI2) cx cm (by rw [mt_eq hn h1 z1 T (RI_bi hI hb) ro hk, mt_eq hn h2 z2 T5 (RI_bi hI hb) ro5 hk])
theorem sb_2_3 {n vs : Nat} {be de : Int64} {sz : Int32} {ro co mi : Nat → Int64} {T : Nat → Nat → Int64} {B : Nat → Nat → Nat → Int32} {bk : Nat → Nat → Int32} {df : Nat → Int32} {wo un h : Int64} {bo : Nat → Int32} {ta tr r2 ot : Nat → Int64} {Bm : Nat → Nat → Nat → Int32} (hI : RI n vs B Bm bk) (hv : 2 < vs) (hi : 3 < n) {b : Nat} (hb : b < 4) {k : Nat} (hk : k < 3) : STl (KX2_blame l D ca ad) (KX3_blame l D ca ae) [.int 2, .int (Int32.ofNat b), .int (Int32.ofNat k), .int 3] (XW (Int32.ofNat n) (Int32.ofNat vs) be de sz ro co mi T B bk df) (MW (Int32.ofNat n) (Int32.ofNat vs) wo un h bo ta tr r2 ot Bm bk) := by
  have hn := hI.1
  have hvs := hI.2.1
  have h1 := MX_40 hn (MX_b1 hI hv 4)
  have h2 := MX_b2 hI hv 4 3
  have hI2 : RI n vs (cpX (cpX (cpX (cpX B 7 6 0 4) 7 2 4 4) 7 6 0 3) 7 2 3 4) Bm bk := RI_b7 hI (fun k hk => by rw [mix_o hk, mix_o hk])
  have e1 := de_eq hn h1
  have e2 := de_eq hn h2
  by_cases z1 : dtM (TnM n Bm 4 0) = 0
  · obtain ⟨be2, de2, sz2, ro2, co2, mi2, T2, cx⟩ := x_blame_A_2_3 (l := l) (D := D) (ca := ca) (ad := ad) (n := n) (vs := vs) (be := be) (de := de) (sz := sz) (ro := ro) (co := co) (mi := mi) (T := T) (B := B) (hd := bk) (df := df) hv hvs hi hn hb hk (by rw [e1]; exact z1)
    obtain ⟨wo3, un3, bo3, ta3, tr3, ro3, cm⟩ := m_blame_A_2_3 (l := l) (D := D) (ca := ca) (ad := ae) (n := n) (vs := vs) (wo := wo) (un := un) (h := h) (bo := bo) (ta := ta) (tr := tr) (ro := r2) (ot := ot) (Bm := Bm) (bk := bk) hv hvs hi hn hb hk z1
    exact st_l (ix_mk hI2) cx cm rfl
  · by_cases z2 : dtM (TnM n Bm 3 2) = 0
    · obtain ⟨be2, de2, sz2, ro2, co2, mi2, T2, cx⟩ := x_blame_B_2_3 (l := l) (D := D) (ca := ca) (ad := ad) (n := n) (vs := vs) (be := be) (de := de) (sz := sz) (ro := ro) (co := co) (mi := mi) (T := T) (B := B) (hd := bk) (df := df) hv hvs hi hn hb hk (by rw [e1]; exact z1) (fun T2 => by rw [e2]; exact z2)
      obtain ⟨wo3, un3, bo3, ta3, tr3, ro3, cm⟩ := m_blame_B_2_3 (l := l) (D := D) (ca := ca) (ad := ae) (n := n) (vs := vs) (wo := wo) (un := un) (h := h) (bo := bo) (ta := ta) (tr := tr) (ro := r2) (ot := ot) (Bm := Bm) (bk := bk) hv hvs hi hn hb hk z1 z2
      exact st_l (ix_mk hI2) cx cm rfl
    · obtain ⟨T5, ro5, be2, de2, sz2, ro2, co2, mi2, T2, cx⟩ := x_blame_C_2_3 (l := l) (D := D) (ca := ca) (ad := ad) (n := n) (vs := vs) (be := be) (de := de) (sz := sz) (ro := ro) (co := co) (mi := mi) (T := T) (B := B) (hd := bk) (df := df) hv hvs hi hn hb hk (by rw [e1]; exact z1) (fun T2 => by rw [e2]; exact z2) (mt_ne hn h1 z1 T (RI_bi hI hb) ro hk) (fun T2 ro2 => mt_ne hn h2 z2 T2 (RI_bi hI hb) ro2 hk)
      obtain ⟨wo3, un3, bo3, ta3, tr3, ro3, cm⟩ := m_blame_C_2_3 (l := l) (D := D) (ca := ca) (ad := ae) (n := n) (vs := vs) (wo := wo) (un := un) (h := h) (bo := bo) (ta := ta) (tr := tr) (ro := r2) (ot := ot) (Bm := Bm) (bk := bk) hv hvs hi hn hb hk z1 z2
      exact st_l (ix_mk hI2) cx cm (by rw [mt_eq hn h1 z1 T (RI_bi hI hb) ro hk, mt_eq hn h2 z2 T5 (RI_bi hI hb) ro5 hk])
theorem sb_3_0 {n vs : Nat} {be de : Int64} {sz : Int32} {ro co mi : Nat → Int64} {T : Nat → Nat → Int64} {B : Nat → Nat → Nat → Int32} {bk : Nat → Nat → Int32} {df : Nat → Int32} {wo un h : Int64} {bo : Nat → Int32} {ta tr r2 ot : Nat → Int64} {Bm : Nat → Nat → Nat → Int32} (hI : RI n vs B Bm bk) (hv : 3 < vs) (hi : 0 < n) {b : Nat} (hb : b < 4) {k : Nat} (hk : k < 3) : STl (KX2_blame l D ca ad) (KX3_blame l D ca ae) [.int 3, .int (Int32.ofNat b), .int (Int32.ofNat k), .int 0] (XW (Int32.ofNat n) (Int32.ofNat vs) be de sz ro co mi T B bk df) (MW (Int32.ofNat n) (Int32.ofNat vs) wo un h bo ta tr r2 ot Bm bk) := by
  have hn := hI.1
  have hvs := hI.2.1
  have h1 := MX_b1 hI hv 1
  have h2 := MX_b2 hI hv 1 0
  have hI2 : RI n vs (cpX (cpX (cpX (cpX B 7 6 0 1) 7 3 1 4) 7 6 0 0) 7 3 0 4) Bm bk := RI_b7 hI (fun k hk => by rw [mix_o hk, mix_o hk])
  have e1 := de_eq hn h1
  have e2 := de_eq hn h2
  by_cases z1 : dtM (TnM n Bm 1 3) = 0
  · obtain ⟨be2, de2, sz2, ro2, co2, mi2, T2, cx⟩ := x_blame_A_3_0 (l := l) (D := D) (ca := ca) (ad := ad) (n := n) (vs := vs) (be := be) (de := de) (sz := sz) (ro := ro) (co := co) (mi := mi) (T := T) (B := B) (hd := bk) (df := df) hv hvs hi hn hb hk (by rw [e1]; exact z1)
    obtain ⟨wo3, un3, bo3, ta3, tr3, ro3, cm⟩ := m_blame_A_3_0 (l := l) (D := D) (ca := ca) (ad := ae) (n := n) (vs := vs) (wo := wo) (un := un) (h := h) (bo := bo) (ta := ta) (tr := tr) (ro := r2) (ot := ot) (Bm := Bm) (bk := bk) hv hvs hi hn hb hk z1
    exact st_l (ix_mk hI2) cx cm rfl
  · by_cases z2 : dtM (TnM n Bm 0 3) = 0
    · obtain ⟨be2, de2, sz2, ro2, co2, mi2, T2, cx⟩ := x_blame_B_3_0 (l := l) (D := D) (ca := ca) (ad := ad) (n := n) (vs := vs) (be := be) (de := de) (sz := sz) (ro := ro) (co := co) (mi := mi) (T := T) (B := B) (hd := bk) (df := df) hv hvs hi hn hb hk (by rw [e1]; exact z1) (fun T2 => by rw [e2]; exact z2)
      obtain ⟨wo3, un3, bo3, ta3, tr3, ro3, cm⟩ := m_blame_B_3_0 (l := l) (D := D) (ca := ca) (ad := ae) (n := n) (vs := vs) (wo := wo) (un := un) (h := h) (bo := bo) (ta := ta) (tr := tr) (ro := r2) (ot := ot) (Bm := Bm) (bk := bk) hv hvs hi hn hb hk z1 z2
      exact st_l (ix_mk hI2) cx cm rfl
    · obtain ⟨T5, ro5, be2, de2, sz2, ro2, co2, mi2, T2, cx⟩ := x_blame_C_3_0 (l := l) (D := D) (ca := ca) (ad := ad) (n := n) (vs := vs) (be := be) (de := de) (sz := sz) (ro := ro) (co := co) (mi := mi) (T := T) (B := B) (hd := bk) (df := df) hv hvs hi hn hb hk (by rw [e1]; exact z1) (fun T2 => by rw [e2]; exact z2) (mt_ne hn h1 z1 T (RI_bi hI hb) ro hk) (fun T2 ro2 => mt_ne hn h2 z2 T2 (RI_bi hI hb) ro2 hk)
      obtain ⟨wo3, un3, bo3, ta3, tr3, ro3, cm⟩ := m_blame_C_3_0 (l := l) (D := D) (ca := ca) (ad := ae) (n := n) (vs := vs) (wo := wo) (un := un) (h := h) (bo := bo) (ta := ta) (tr := tr) (ro := r2) (ot := ot) (Bm := Bm) (bk := bk) hv hvs hi hn hb hk z1 z2
      exact st_l (ix_mk hI2) cx cm (by rw [mt_eq hn h1 z1 T (RI_bi hI hb) ro hk, mt_eq hn h2 z2 T5 (RI_bi hI hb) ro5 hk])
theorem sb_3_1 {n vs : Nat} {be de : Int64} {sz : Int32} {ro co mi : Nat → Int64} {T : Nat → Nat → Int64} {B : Nat → Nat → Nat → Int32} {bk : Nat → Nat → Int32} {df : Nat → Int32} {wo un h : Int64} {bo : Nat → Int32} {ta tr r2 ot : Nat → Int64} {Bm : Nat → Nat → Nat → Int32} (hI : RI n vs B Bm bk) (hv : 3 < vs) (hi : 1 < n) {b : Nat} (hb : b < 4) {k : Nat} (hk : k < 3) : STl (KX2_blame l D ca ad) (KX3_blame l D ca ae) [.int 3, .int (Int32.ofNat b), .int (Int32.ofNat k), .int 1] (XW (Int32.ofNat n) (Int32.ofNat vs) be de sz ro co mi T B bk df) (MW (Int32.ofNat n) (Int32.ofNat vs) wo un h bo ta tr r2 ot Bm bk) := by
  have hn := hI.1
  have hvs := hI.2.1
  have h1 := MX_b1 hI hv 2
  have h2 := MX_b2 hI hv 2 1
  have hI2 : RI n vs (cpX (cpX (cpX (cpX B 7 6 0 2) 7 3 2 4) 7 6 0 1) 7 3 1 4) Bm bk := RI_b7 hI (fun k hk => by rw [mix_o hk, mix_o hk])
  have e1 := de_eq hn h1
  have e2 := de_eq hn h2
  by_cases z1 : dtM (TnM n Bm 2 3) = 0
  · obtain ⟨be2, de2, sz2, ro2, co2, mi2, T2, cx⟩ := x_blame_A_3_1 (l := l) (D := D) (ca := ca) (ad := ad) (n := n) (vs := vs) (be := be) (de := de) (sz := sz) (ro := ro) (co := co) (mi := mi) (T := T) (B := B) (hd := bk) (df := df) hv hvs hi hn hb hk (by rw [e1]; exact z1)
    obtain ⟨wo3, un3, bo3, ta3, tr3, ro3, cm⟩ := m_blame_A_3_1 (l := l) (D := D) (ca := ca) (ad := ae) (n := n) (vs := vs) (wo := wo) (un := un) (h := h) (bo := bo) (ta := ta) (tr := tr) (ro := r2) (ot := ot) (Bm := Bm) (bk := bk) hv hvs hi hn hb hk z1
    exact st_l (ix_mk hI2) cx cm rfl
  · by_cases z2 : dtM (TnM n Bm 1 3) = 0
    · obtain ⟨be2, de2, sz2, ro2, co2, mi2, T2, cx⟩ := x_blame_B_3_1 (l := l) (D := D) (ca := ca) (ad := ad) (n := n) (vs := vs) (be := be) (de := de) (sz := sz) (ro := ro) (co := co) (mi := mi) (T := T) (B := B) (hd := bk) (df := df) hv hvs hi hn hb hk (by rw [e1]; exact z1) (fun T2 => by rw [e2]; exact z2)
      obtain ⟨wo3, un3, bo3, ta3, tr3, ro3, cm⟩ := m_blame_B_3_1 (l := l) (D := D) (ca := ca) (ad := ae) (n := n) (vs := vs) (wo := wo) (un := un) (h := h) (bo := bo) (ta := ta) (tr := tr) (ro := r2) (ot := ot) (Bm := Bm) (bk := bk) hv hvs hi hn hb hk z1 z2
      exact st_l (ix_mk hI2) cx cm rfl
    · obtain ⟨T5, ro5, be2, de2, sz2, ro2, co2, mi2, T2, cx⟩ := x_blame_C_3_1 (l := l) (D := D) (ca := ca) (ad := ad) (n := n) (vs := vs) (be := be) (de := de) (sz := sz) (ro := ro) (co := co) (mi := mi) (T := T) (B := B) (hd := bk) (df := df) hv hvs hi hn hb hk (by rw [e1]; exact z1) (fun T2 => by rw [e2]; exact z2) (mt_ne hn h1 z1 T (RI_bi hI hb) ro hk) (fun T2 ro2 => mt_ne hn h2 z2 T2 (RI_bi hI hb) ro2 hk)
      obtain ⟨wo3, un3, bo3, ta3, tr3, ro3, cm⟩ := m_blame_C_3_1 (l := l) (D := D) (ca := ca) (ad := ae) (n := n) (vs := vs) (wo := wo) (un := un) (h := h) (bo := bo) (ta := ta) (tr := tr) (ro := r2) (ot := ot) (Bm := Bm) (bk := bk) hv hvs hi hn hb hk z1 z2
      exact st_l (ix_mk hI2) cx cm (by rw [mt_eq hn h1 z1 T (RI_bi hI hb) ro hk, mt_eq hn h2 z2 T5 (RI_bi hI hb) ro5 hk])
theorem sb_3_2 {n vs : Nat} {be de : Int64} {sz : Int32} {ro co mi : Nat → Int64} {T : Nat → Nat → Int64} {B : Nat → Nat → Nat → Int32} {bk : Nat → Nat → Int32} {df : Nat → Int32} {wo un h : Int64} {bo : Nat → Int32} {ta tr r2 ot : Nat → Int64} {Bm : Nat → Nat → Nat → Int32} (hI : RI n vs B Bm bk) (hv : 3 < vs) (hi : 2 < n) {b : Nat} (hb : b < 4) {k : Nat} (hk : k < 3) : STl (KX2_blame l D ca ad) (KX3_blame l D ca ae) [.int 3, .int (Int32.ofNat b), .int (Int32.ofNat k), .int 2] (XW (Int32.ofNat n) (Int32.ofNat vs) be de sz ro co mi T B bk df) (MW (Int32.ofNat n) (Int32.ofNat vs) wo un h bo ta tr r2 ot Bm bk) := by
  have hn := hI.1
  have hvs := hI.2.1
  have h1 := MX_b1 hI hv 3
  have h2 := MX_b2 hI hv 3 2
  have hI2 : RI n vs (cpX (cpX (cpX (cpX B 7 6 0 3) 7 3 3 4) 7 6 0 2) 7 3 2 4) Bm bk := RI_b7 hI (fun k hk => by rw [mix_o hk, mix_o hk])
  have e1 := de_eq hn h1
  have e2 := de_eq hn h2
  by_cases z1 : dtM (TnM n Bm 3 3) = 0
  · obtain ⟨be2, de2, sz2, ro2, co2, mi2, T2, cx⟩ := x_blame_A_3_2 (l := l) (D := D) (ca := ca) (ad := ad) (n := n) (vs := vs) (be := be) (de := de) (sz := sz) (ro := ro) (co := co) (mi := mi) (T := T) (B := B) (hd := bk) (df := df) hv hvs hi hn hb hk (by rw [e1]; exact z1)
    obtain ⟨wo3, un3, bo3, ta3, tr3, ro3, cm⟩ := m_blame_A_3_2 (l := l) (D := D) (ca := ca) (ad := ae) (n := n) (vs := vs) (wo := wo) (un := un) (h := h) (bo := bo) (ta := ta) (tr := tr) (ro := r2) (ot := ot) (Bm := Bm) (bk := bk) hv hvs hi hn hb hk z1
    exact st_l (ix_mk hI2) cx cm rfl
  · by_cases z2 : dtM (TnM n Bm 2 3) = 0
    · obtain ⟨be2, de2, sz2, ro2, co2, mi2, T2, cx⟩ := x_blame_B_3_2 (l := l) (D := D) (ca := ca) (ad := ad) (n := n) (vs := vs) (be := be) (de := de) (sz := sz) (ro := ro) (co := co) (mi := mi) (T := T) (B := B) (hd := bk) (df := df) hv hvs hi hn hb hk (by rw [e1]; exact z1) (fun T2 => by rw [e2]; exact z2)
      obtain ⟨wo3, un3, bo3, ta3, tr3, ro3, cm⟩ := m_blame_B_3_2 (l := l) (D := D) (ca := ca) (ad := ae) (n := n) (vs := vs) (wo := wo) (un := un) (h := h) (bo := bo) (ta := ta) (tr := tr) (ro := r2) (ot := ot) (Bm := Bm) (bk := bk) hv hvs hi hn hb hk z1 z2
      exact st_l (ix_mk hI2) cx cm rfl
    · obtain ⟨T5, ro5, be2, de2, sz2, ro2, co2, mi2, T2, cx⟩ := x_blame_C_3_2 (l := l) (D := D) (ca := ca) (ad := ad) (n := n) (vs := vs) (be := be) (de := de) (sz := sz) (ro := ro) (co := co) (mi := mi) (T := T) (B := B) (hd := bk) (df := df) hv hvs hi hn hb hk (by rw [e1]; exact z1) (fun T2 => by rw [e2]; exact z2) (mt_ne hn h1 z1 T (RI_bi hI hb) ro hk) (fun T2 ro2 => mt_ne hn h2 z2 T2 (RI_bi hI hb) ro2 hk)
      obtain ⟨wo3, un3, bo3, ta3, tr3, ro3, cm⟩ := m_blame_C_3_2 (l := l) (D := D) (ca := ca) (ad := ae) (n := n) (vs := vs) (wo := wo) (un := un) (h := h) (bo := bo) (ta := ta) (tr := tr) (ro := r2) (ot := ot) (Bm := Bm) (bk := bk) hv hvs hi hn hb hk z1 z2
      exact st_l (ix_mk hI2) cx cm (by rw [mt_eq hn h1 z1 T (RI_bi hI hb) ro hk, mt_eq hn h2 z2 T5 (RI_bi hI hb) ro5 hk])
theorem sb_3_3 {n vs : Nat} {be de : Int64} {sz : Int32} {ro co mi : Nat → Int64} {T : Nat → Nat → Int64} {B : Nat → Nat → Nat → Int32} {bk : Nat → Nat → Int32} {df : Nat → Int32} {wo un h : Int64} {bo : Nat → Int32} {ta tr r2 ot : Nat → Int64} {Bm : Nat → Nat → Nat → Int32} (hI : RI n vs B Bm bk) (hv : 3 < vs) (hi : 3 < n) {b : Nat} (hb : b < 4) {k : Nat} (hk : k < 3) : STl (KX2_blame l D ca ad) (KX3_blame l D ca ae) [.int 3, .int (Int32.ofNat b), .int (Int32.ofNat k), .int 3] (XW (Int32.ofNat n) (Int32.ofNat vs) be de sz ro co mi T B bk df) (MW (Int32.ofNat n) (Int32.ofNat vs) wo un h bo ta tr r2 ot Bm bk) := by
  have hn := hI.1
  have hvs := hI.2.1
  have h1 := MX_40 hn (MX_b1 hI hv 4)
  have h2 := MX_b2 hI hv 4 3
  have hI2 : RI n vs (cpX (cpX (cpX (cpX B 7 6 0 4) 7 3 4 4) 7 6 0 3) 7 3 3 4) Bm bk := RI_b7 hI (fun k hk => by rw [mix_o hk, mix_o hk])
  have e1 := de_eq hn h1
  have e2 := de_eq hn h2
  by_cases z1 : dtM (TnM n Bm 4 0) = 0
  · obtain ⟨be2, de2, sz2, ro2, co2, mi2, T2, cx⟩ := x_blame_A_3_3 (l := l) (D := D) (ca := ca) (ad := ad) (n := n) (vs := vs) (be := be) (de := de) (sz := sz) (ro := ro) (co := co) (mi := mi) (T := T) (B := B) (hd := bk) (df := df) hv hvs hi hn hb hk (by rw [e1]; exact z1)
    obtain ⟨wo3, un3, bo3, ta3, tr3, ro3, cm⟩ := m_blame_A_3_3 (l := l) (D := D) (ca := ca) (ad := ae) (n := n) (vs := vs) (wo := wo) (un := un) (h := h) (bo := bo) (ta := ta) (tr := tr) (ro := r2) (ot := ot) (Bm := Bm) (bk := bk) hv hvs hi hn hb hk z1
    exact st_l (ix_mk hI2) cx cm rfl
  · by_cases z2 : dtM (TnM n Bm 3 3) = 0
    · obtain ⟨be2, de2, sz2, ro2, co2, mi2, T2, cx⟩ := x_blame_B_3_3 (l := l) (D := D) (ca := ca) (ad := ad) (n := n) (vs := vs) (be := be) (de := de) (sz := sz) (ro := ro) (co := co) (mi := mi) (T := T) (B := B) (hd := bk) (df := df) hv hvs hi hn hb hk (by rw [e1]; exact z1) (fun T2 => by rw [e2]; exact z2)
      obtain ⟨wo3, un3, bo3, ta3, tr3, ro3, cm⟩ := m_blame_B_3_3 (l := l) (D := D) (ca := ca) (ad := ae) (n := n) (vs := vs) (wo := wo) (un := un) (h := h) (bo := bo) (ta := ta) (tr := tr) (ro := r2) (ot := ot) (Bm := Bm) (bk := bk) hv hvs hi hn hb hk z1 z2
      exact st_l (ix_mk hI2) cx cm rfl
    · obtain ⟨T5, ro5, be2, de2, sz2, ro2, co2, mi2, T2, cx⟩ := x_blame_C_3_3 (l := l) (D := D) (ca := ca) (ad := ad) (n := n) (vs := vs) (be := be) (de := de) (sz := sz) (ro := ro) (co := co) (mi := mi) (T := T) (B := B) (hd := bk) (df := df) hv hvs hi hn hb hk (by rw [e1]; exact z1) (fun T2 => by rw [e2]; exact z2) (mt_ne hn h1 z1 T (RI_bi hI hb) ro hk) (fun T2 ro2 => mt_ne hn h2 z2 T2 (RI_bi hI hb) ro2 hk)
      obtain ⟨wo3, un3, bo3, ta3, tr3, ro3, cm⟩ := m_blame_C_3_3 (l := l) (D := D) (ca := ca) (ad := ae) (n := n) (vs := vs) (wo := wo) (un := un) (h := h) (bo := bo) (ta := ta) (tr := tr) (ro := r2) (ot := ot) (Bm := Bm) (bk := bk) hv hvs hi hn hb hk z1 z2
      exact st_l (ix_mk hI2) cx cm (by rw [mt_eq hn h1 z1 T (RI_bi hI hb) ro hk, mt_eq hn h2 z2 T5 (RI_bi hI hb) ro5 hk])
theorem sb_4_0 {n vs : Nat} {be de : Int64} {sz : Int32} {ro co mi : Nat → Int64} {T : Nat → Nat → Int64} {B : Nat → Nat → Nat → Int32} {bk : Nat → Nat → Int32} {df : Nat → Int32} {wo un h : Int64} {bo : Nat → Int32} {ta tr r2 ot : Nat → Int64} {Bm : Nat → Nat → Nat → Int32} (hI : RI n vs B Bm bk) (hv : 4 < vs) (hi : 0 < n) {b : Nat} (hb : b < 4) {k : Nat} (hk : k < 3) : STl (KX2_blame l D ca ad) (KX3_blame l D ca ae) [.int 4, .int (Int32.ofNat b), .int (Int32.ofNat k), .int 0] (XW (Int32.ofNat n) (Int32.ofNat vs) be de sz ro co mi T B bk df) (MW (Int32.ofNat n) (Int32.ofNat vs) wo un h bo ta tr r2 ot Bm bk) := by
  have hn := hI.1
  have hvs := hI.2.1
  have h1 := MX_b1 hI hv 1
  have h2 := MX_b2 hI hv 1 0
  have hI2 : RI n vs (cpX (cpX (cpX (cpX B 7 6 0 1) 7 4 1 4) 7 6 0 0) 7 4 0 4) Bm bk := RI_b7 hI (fun k hk => by rw [mix_o hk, mix_o hk])
  have e1 := de_eq hn h1
  have e2 := de_eq hn h2
  by_cases z1 : dtM (TnM n Bm 1 4) = 0
  · obtain ⟨be2, de2, sz2, ro2, co2, mi2, T2, cx⟩ := x_blame_A_4_0 (l := l) (D := D) (ca := ca) (ad := ad) (n := n) (vs := vs) (be := be) (de := de) (sz := sz) (ro := ro) (co := co) (mi := mi) (T := T) (B := B) (hd := bk) (df := df) hv hvs hi hn hb hk (by rw [e1]; exact z1)
    obtain ⟨wo3, un3, bo3, ta3, tr3, ro3, cm⟩ := m_blame_A_4_0 (l := l) (D := D) (ca := ca) (ad := ae) (n := n) (vs := vs) (wo := wo) (un := un) (h := h) (bo := bo) (ta := ta) (tr := tr) (ro := r2) (ot := ot) (Bm := Bm) (bk := bk) hv hvs hi hn hb hk z1
    exact st_l (ix_mk hI2) cx cm rfl
  · by_cases z2 : dtM (TnM n Bm 0 4) = 0
    · obtain ⟨be2, de2, sz2, ro2, co2, mi2, T2, cx⟩ := x_blame_B_4_0 (l := l) (D := D) (ca := ca) (ad := ad) (n := n) (vs := vs) (be := be) (de := de) (sz := sz) (ro := ro) (co := co) (mi := mi) (T := T) (B := B) (hd := bk) (df := df) hv hvs hi hn hb hk (by rw [e1]; exact z1) (fun T2 => by rw [e2]; exact z2)
      obtain ⟨wo3, un3, bo3, ta3, tr3, ro3, cm⟩ := m_blame_B_4_0 (l := l) (D := D) (ca := ca) (ad := ae) (n := n) (vs := vs) (wo := wo) (un := un) (h := h) (bo := bo) (ta := ta) (tr := tr) (ro := r2) (ot := ot) (Bm := Bm) (bk := bk) hv hvs hi hn hb hk z1 z2
      exact st_l (ix_mk hI2) cx cm rfl
    · obtain ⟨T5, ro5, be2, de2, sz2, ro2, co2, mi2, T2, cx⟩ := x_blame_C_4_0 (l := l) (D := D) (ca := ca) (ad := ad) (n := n) (vs := vs) (be := be) (de := de) (sz := sz) (ro := ro) (co := co) (mi := mi) (T := T) (B := B) (hd := bk) (df := df) hv hvs hi hn hb hk (by rw [e1]; exact z1) (fun T2 => by rw [e2]; exact z2) (mt_ne hn h1 z1 T (RI_bi hI hb) ro hk) (fun T2 ro2 => mt_ne hn h2 z2 T2 (RI_bi hI hb) ro2 hk)
      obtain ⟨wo3, un3, bo3, ta3, tr3, ro3, cm⟩ := m_blame_C_4_0 (l := l) (D := D) (ca := ca) (ad := ae) (n := n) (vs := vs) (wo := wo) (un := un) (h := h) (bo := bo) (ta := ta) (tr := tr) (ro := r2) (ot := ot) (Bm := Bm) (bk := bk) hv hvs hi hn hb hk z1 z2
      exact st_l (ix_mk hI2) cx cm (by rw [mt_eq hn h1 z1 T (RI_bi hI hb) ro hk, mt_eq hn h2 z2 T5 (RI_bi hI hb) ro5 hk])
theorem sb_4_1 {n vs : Nat} {be de : Int64} {sz : Int32} {ro co mi : Nat → Int64} {T : Nat → Nat → Int64} {B : Nat → Nat → Nat → Int32} {bk : Nat → Nat → Int32} {df : Nat → Int32} {wo un h : Int64} {bo : Nat → Int32} {ta tr r2 ot : Nat → Int64} {Bm : Nat → Nat → Nat → Int32} (hI : RI n vs B Bm bk) (hv : 4 < vs) (hi : 1 < n) {b : Nat} (hb : b < 4) {k : Nat} (hk : k < 3) : STl (KX2_blame l D ca ad) (KX3_blame l D ca ae) [.int 4, .int (Int32.ofNat b), .int (Int32.ofNat k), .int 1] (XW (Int32.ofNat n) (Int32.ofNat vs) be de sz ro co mi T B bk df) (MW (Int32.ofNat n) (Int32.ofNat vs) wo un h bo ta tr r2 ot Bm bk) := by
  have hn := hI.1
  have hvs := hI.2.1
  have h1 := MX_b1 hI hv 2
  have h2 := MX_b2 hI hv 2 1
  have hI2 : RI n vs (cpX (cpX (cpX (cpX B 7 6 0 2) 7 4 2 4) 7 6 0 1) 7 4 1 4) Bm bk := RI_b7 hI (fun k hk => by rw [mix_o hk, mix_o hk])
  have e1 := de_eq hn h1
  have e2 := de_eq hn h2
  by_cases z1 : dtM (TnM n Bm 2 4) = 0
  · obtain ⟨be2, de2, sz2, ro2, co2, mi2, T2, cx⟩ := x_blame_A_4_1 (l := l) (D := D) (ca := ca) (ad := ad) (n := n) (vs := vs) (be := be) (de := de) (sz := sz) (ro := ro) (co := co) (mi := mi) (T := T) (B := B) (hd := bk) (df := df) hv hvs hi hn hb hk (by rw [e1]; exact z1)
    obtain ⟨wo3, un3, bo3, ta3, tr3, ro3, cm⟩ := m_blame_A_4_1 (l := l) (D := D) (ca := ca) (ad := ae) (n := n) (vs := vs) (wo := wo) (un := un) (h := h) (bo := bo) (ta := ta) (tr := tr) (ro := r2) (ot := ot) (Bm := Bm) (bk := bk) hv hvs hi hn hb hk z1
    exact st_l (ix_mk hI2) cx cm rfl
  · by_cases z2 : dtM (TnM n Bm 1 4) = 0
    · obtain ⟨be2, de2, sz2, ro2, co2, mi2, T2, cx⟩ := x_blame_B_4_1 (l := l) (D := D) (ca := ca) (ad := ad) (n := n) (vs := vs) (be := be) (de := de) (sz := sz) (ro := ro) (co := co) (mi := mi) (T := T) (B := B) (hd := bk) (df := df) hv hvs hi hn hb hk (by rw [e1]; exact z1) (fun T2 => by rw [e2]; exact z2)
      obtain ⟨wo3, un3, bo3, ta3, tr3, ro3, cm⟩ := m_blame_B_4_1 (l := l) (D := D) (ca := ca) (ad := ae) (n := n) (vs := vs) (wo := wo) (un := un) (h := h) (bo := bo) (ta := ta) (tr := tr) (ro := r2) (ot := ot) (Bm := Bm) (bk := bk) hv hvs hi hn hb hk z1 z2
      exact st_l (ix_mk hI2) cx cm rfl
    · obtain ⟨T5, ro5, be2, de2, sz2, ro2, co2, mi2, T2, cx⟩ := x_blame_C_4_1 (l := l) (D := D) (ca := ca) (ad := ad) (n := n) (vs := vs) (be := be) (de := de) (sz := sz) (ro := ro) (co := co) (mi := mi) (T := T) (B := B) (hd := bk) (df := df) hv hvs hi hn hb hk (by rw [e1]; exact z1) (fun T2 => by rw [e2]; exact z2) (mt_ne hn h1 z1 T (RI_bi hI hb) ro hk) (fun T2 ro2 => mt_ne hn h2 z2 T2 (RI_bi hI hb) ro2 hk)
      obtain ⟨wo3, un3, bo3, ta3, tr3, ro3, cm⟩ := m_blame_C_4_1 (l := l) (D := D) (ca := ca) (ad := ae) (n := n) (vs := vs) (wo := wo) (un := un) (h := h) (bo := bo) (ta := ta) (tr := tr) (ro := r2) (ot := ot) (Bm := Bm) (bk := bk) hv hvs hi hn hb hk z1 z2
      exact st_l (ix_mk hI2) cx cm (by rw [mt_eq hn h1 z1 T (RI_bi hI hb) ro hk, mt_eq hn h2 z2 T5 (RI_bi hI hb) ro5 hk])
theorem sb_4_2 {n vs : Nat} {be de : Int64} {sz : Int32} {ro co mi : Nat → Int64} {T : Nat → Nat → Int64} {B : Nat → Nat → Nat → Int32} {bk : Nat → Nat → Int32} {df : Nat → Int32} {wo un h : Int64} {bo : Nat → Int32} {ta tr r2 ot : Nat → Int64} {Bm : Nat → Nat → Nat → Int32} (hI : RI n vs B Bm bk) (hv : 4 < vs) (hi : 2 < n) {b : Nat} (hb : b < 4) {k : Nat} (hk : k < 3) : STl (KX2_blame l D ca ad) (KX3_blame l D ca ae) [.int 4, .int (Int32.ofNat b), .int (Int32.ofNat k), .int 2] (XW (Int32.ofNat n) (Int32.ofNat vs) be de sz ro co mi T B bk df) (MW (Int32.ofNat n) (Int32.ofNat vs) wo un h bo ta tr r2 ot Bm bk) := by
  have hn := hI.1
  have hvs := hI.2.1
  have h1 := MX_b1 hI hv 3
  have h2 := MX_b2 hI hv 3 2
  have hI2 : RI n vs (cpX (cpX (cpX (cpX B 7 6 0 3) 7 4 3 4) 7 6 0 2) 7 4 2 4) Bm bk := RI_b7 hI (fun k hk => by rw [mix_o hk, mix_o hk])
  have e1 := de_eq hn h1
  have e2 := de_eq hn h2
  by_cases z1 : dtM (TnM n Bm 3 4) = 0
  · obtain ⟨be2, de2, sz2, ro2, co2, mi2, T2, cx⟩ := x_blame_A_4_2 (l := l) (D := D) (ca := ca) (ad := ad) (n := n) (vs := vs) (be := be) (de := de) (sz := sz) (ro := ro) (co := co) (mi := mi) (T := T) (B := B) (hd := bk) (df := df) hv hvs hi hn hb hk (by rw [e1]; exact z1)
    obtain ⟨wo3, un3, bo3, ta3, tr3, ro3, cm⟩ := m_blame_A_4_2 (l := l) (D := D) (ca := ca) (ad := ae) (n := n) (vs := vs) (wo := wo) (un := un) (h := h) (bo := bo) (ta := ta) (tr := tr) (ro := r2) (ot := ot) (Bm := Bm) (bk := bk) hv hvs hi hn hb hk z1
    exact st_l (ix_mk hI2) cx cm rfl
  · by_cases z2 : dtM (TnM n Bm 2 4) = 0
    · obtain ⟨be2, de2, sz2, ro2, co2, mi2, T2, cx⟩ := x_blame_B_4_2 (l := l) (D := D) (ca := ca) (ad := ad) (n := n) (vs := vs) (be := be) (de := de) (sz := sz) (ro := ro) (co := co) (mi := mi) (T := T) (B := B) (hd := bk) (df := df) hv hvs hi hn hb hk (by rw [e1]; exact z1) (fun T2 => by rw [e2]; exact z2)
      obtain ⟨wo3, un3, bo3, ta3, tr3, ro3, cm⟩ := m_blame_B_4_2 (l := l) (D := D) (ca := ca) (ad := ae) (n := n) (vs := vs) (wo := wo) (un := un) (h := h) (bo := bo) (ta := ta) (tr := tr) (ro := r2) (ot := ot) (Bm := Bm) (bk := bk) hv hvs hi hn hb hk z1 z2
      exact st_l (ix_mk hI2) cx cm rfl
    · obtain ⟨T5, ro5, be2, de2, sz2, ro2, co2, mi2, T2, cx⟩ := x_blame_C_4_2 (l := l) (D := D) (ca := ca) (ad := ad) (n := n) (vs := vs) (be := be) (de := de) (sz := sz) (ro := ro) (co := co) (mi := mi) (T := T) (B := B) (hd := bk) (df := df) hv hvs hi hn hb hk (by rw [e1]; exact z1) (fun T2 => by rw [e2]; exact z2) (mt_ne hn h1 z1 T (RI_bi hI hb) ro hk) (fun T2 ro2 => mt_ne hn h2 z2 T2 (RI_bi hI hb) ro2 hk)
      obtain ⟨wo3, un3, bo3, ta3, tr3, ro3, cm⟩ := m_blame_C_4_2 (l := l) (D := D) (ca := ca) (ad := ae) (n := n) (vs := vs) (wo := wo) (un := un) (h := h) (bo := bo) (ta := ta) (tr := tr) (ro := r2) (ot := ot) (Bm := Bm) (bk := bk) hv hvs hi hn hb hk z1 z2
      exact st_l (ix_mk hI2) cx cm (by rw [mt_eq hn h1 z1 T (RI_bi hI hb) ro hk, mt_eq hn h2 z2 T5 (RI_bi hI hb) ro5 hk])
theorem sb_4_3 {n vs : Nat} {be de : Int64} {sz : Int32} {ro co mi : Nat → Int64} {T : Nat → Nat → Int64} {B : Nat → Nat → Nat → Int32} {bk : Nat → Nat → Int32} {df : Nat → Int32} {wo un h : Int64} {bo : Nat → Int32} {ta tr r2 ot : Nat → Int64} {Bm : Nat → Nat → Nat → Int32} (hI : RI n vs B Bm bk) (hv : 4 < vs) (hi : 3 < n) {b : Nat} (hb : b < 4) {k : Nat} (hk : k < 3) : STl (KX2_blame l D ca ad) (KX3_blame l D ca ae) [.int 4, .int (Int32.ofNat b), .int (Int32.ofNat k), .int 3] (XW (Int32.ofNat n) (Int32.ofNat vs) be de sz ro co mi T B bk df) (MW (Int32.ofNat n) (Int32.ofNat vs) wo un h bo ta tr r2 ot Bm bk) := by
  have hn := hI.1
  have hvs := hI.2.1
  have h1 := MX_40 hn (MX_b1 hI hv 4)
  have h2 := MX_b2 hI hv 4 3
  have hI2 : RI n vs (cpX (cpX (cpX (cpX B 7 6 0 4) 7 4 4 4) 7 6 0 3) 7 4 3 4) Bm bk := RI_b7 hI (fun k hk => by rw [mix_o hk, mix_o hk])
  have e1 := de_eq hn h1
  have e2 := de_eq hn h2
  by_cases z1 : dtM (TnM n Bm 4 0) = 0
  · obtain ⟨be2, de2, sz2, ro2, co2, mi2, T2, cx⟩ := x_blame_A_4_3 (l := l) (D := D) (ca := ca) (ad := ad) (n := n) (vs := vs) (be := be) (de := de) (sz := sz) (ro := ro) (co := co) (mi := mi) (T := T) (B := B) (hd := bk) (df := df) hv hvs hi hn hb hk (by rw [e1]; exact z1)
    obtain ⟨wo3, un3, bo3, ta3, tr3, ro3, cm⟩ := m_blame_A_4_3 (l := l) (D := D) (ca := ca) (ad := ae) (n := n) (vs := vs) (wo := wo) (un := un) (h := h) (bo := bo) (ta := ta) (tr := tr) (ro := r2) (ot := ot) (Bm := Bm) (bk := bk) hv hvs hi hn hb hk z1
    exact st_l (ix_mk hI2) cx cm rfl
  · by_cases z2 : dtM (TnM n Bm 3 4) = 0
    · obtain ⟨be2, de2, sz2, ro2, co2, mi2, T2, cx⟩ := x_blame_B_4_3 (l := l) (D := D) (ca := ca) (ad := ad) (n := n) (vs := vs) (be := be) (de := de) (sz := sz) (ro := ro) (co := co) (mi := mi) (T := T) (B := B) (hd := bk) (df := df) hv hvs hi hn hb hk (by rw [e1]; exact z1) (fun T2 => by rw [e2]; exact z2)
      obtain ⟨wo3, un3, bo3, ta3, tr3, ro3, cm⟩ := m_blame_B_4_3 (l := l) (D := D) (ca := ca) (ad := ae) (n := n) (vs := vs) (wo := wo) (un := un) (h := h) (bo := bo) (ta := ta) (tr := tr) (ro := r2) (ot := ot) (Bm := Bm) (bk := bk) hv hvs hi hn hb hk z1 z2
      exact st_l (ix_mk hI2) cx cm rfl
    · obtain ⟨T5, ro5, be2, de2, sz2, ro2, co2, mi2, T2, cx⟩ := x_blame_C_4_3 (l := l) (D := D) (ca := ca) (ad := ad) (n := n) (vs := vs) (be := be) (de := de) (sz := sz) (ro := ro) (co := co) (mi := mi) (T := T) (B := B) (hd := bk) (df := df) hv hvs hi hn hb hk (by rw [e1]; exact z1) (fun T2 => by rw [e2]; exact z2) (mt_ne hn h1 z1 T (RI_bi hI hb) ro hk) (fun T2 ro2 => mt_ne hn h2 z2 T2 (RI_bi hI hb) ro2 hk)
      obtain ⟨wo3, un3, bo3, ta3, tr3, ro3, cm⟩ := m_blame_C_4_3 (l := l) (D := D) (ca := ca) (ad := ae) (n := n) (vs := vs) (wo := wo) (un := un) (h := h) (bo := bo) (ta := ta) (tr := tr) (ro := r2) (ot := ot) (Bm := Bm) (bk := bk) hv hvs hi hn hb hk z1 z2
      exact st_l (ix_mk hI2) cx cm (by rw [mt_eq hn h1 z1 T (RI_bi hI hb) ro hk, mt_eq hn h2 z2 T5 (RI_bi hI hb) ro5 hk])
theorem sb_5_0 {n vs : Nat} {be de : Int64} {sz : Int32} {ro co mi : Nat → Int64} {T : Nat → Nat → Int64} {B : Nat → Nat → Nat → Int32} {bk : Nat → Nat → Int32} {df : Nat → Int32} {wo un h : Int64} {bo : Nat → Int32} {ta tr r2 ot : Nat → Int64} {Bm : Nat → Nat → Nat → Int32} (hI : RI n vs B Bm bk) (hv : 5 < vs) (hi : 0 < n) {b : Nat} (hb : b < 4) {k : Nat} (hk : k < 3) : STl (KX2_blame l D ca ad) (KX3_blame l D ca ae) [.int 5, .int (Int32.ofNat b), .int (Int32.ofNat k), .int 0] (XW (Int32.ofNat n) (Int32.ofNat vs) be de sz ro co mi T B bk df) (MW (Int32.ofNat n) (Int32.ofNat vs) wo un h bo ta tr r2 ot Bm bk) := by
  have hn := hI.1
  have hvs := hI.2.1
  have h1 := MX_b1 hI hv 1
  have h2 := MX_b2 hI hv 1 0
  have hI2 : RI n vs (cpX (cpX (cpX (cpX B 7 6 0 1) 7 5 1 4) 7 6 0 0) 7 5 0 4) Bm bk := RI_b7 hI (fun k hk => by rw [mix_o hk, mix_o hk])
  have e1 := de_eq hn h1
  have e2 := de_eq hn h2
  by_cases z1 : dtM (TnM n Bm 1 5) = 0
  · obtain ⟨be2, de2, sz2, ro2, co2, mi2, T2, cx⟩ := x_blame_A_5_0 (l := l) (D := D) (ca := ca) (ad := ad) (n := n) (vs := vs) (be := be) (de := de) (sz := sz) (ro := ro) (co := co) (mi := mi) (T := T) (B := B) (hd := bk) (df := df) hv hvs hi hn hb hk (by rw [e1]; exact z1)
    obtain ⟨wo3, un3, bo3, ta3, tr3, ro3, cm⟩ := m_blame_A_5_0 (l := l) (D := D) (ca := ca) (ad := ae) (n := n) (vs := vs) (wo := wo) (un := un) (h := h) (bo := bo) (ta := ta) (tr := tr) (ro := r2) (ot := ot) (Bm := Bm) (bk := bk) hv hvs hi hn hb hk z1
    exact st_l (ix_mk hI2) cx cm rfl
  · by_cases z2 : dtM (TnM n Bm 0 5) = 0
    · obtain ⟨be2, de2, sz2, ro2, co2, mi2, T2, cx⟩ := x_blame_B_5_0 (l := l) (D := D) (ca := ca) (ad := ad) (n := n) (vs := vs) (be := be) (de := de) (sz := sz) (ro := ro) (co := co) (mi := mi) (T := T) (B := B) (hd := bk) (df := df) hv hvs hi hn hb hk (by rw [e1]; exact z1) (fun T2 => by rw [e2]; exact z2)
      obtain ⟨wo3, un3, bo3, ta3, tr3, ro3, cm⟩ := m_blame_B_5_0 (l := l) (D := D) (ca := ca) (ad := ae) (n := n) (vs := vs) (wo := wo) (un := un) (h := h) (bo := bo) (ta := ta) (tr := tr) (ro := r2) (ot := ot) (Bm := Bm) (bk := bk) hv hvs hi hn hb hk z1 z2
      exact st_l (ix_mk hI2) cx cm rfl
    · obtain ⟨T5, ro5, be2, de2, sz2, ro2, co2, mi2, T2, cx⟩ := x_blame_C_5_0 (l := l) (D := D) (ca := ca) (ad := ad) (n := n) (vs := vs) (be := be) (de := de) (sz := sz) (ro := ro) (co := co) (mi := mi) (T := T) (B := B) (hd := bk) (df := df) hv hvs hi hn hb hk (by rw [e1]; exact z1) (fun T2 => by rw [e2]; exact z2) (mt_ne hn h1 z1 T (RI_bi hI hb) ro hk) (fun T2 ro2 => mt_ne hn h2 z2 T2 (RI_bi hI hb) ro2 hk)
      obtain ⟨wo3, un3, bo3, ta3, tr3, ro3, cm⟩ := m_blame_C_5_0 (l := l) (D := D) (ca := ca) (ad := ae) (n := n) (vs := vs) (wo := wo) (un := un) (h := h) (bo := bo) (ta := ta) (tr := tr) (ro := r2) (ot := ot) (Bm := Bm) (bk := bk) hv hvs hi hn hb hk z1 z2
      exact st_l (ix_mk hI2) cx cm (by rw [mt_eq hn h1 z1 T (RI_bi hI hb) ro hk, mt_eq hn h2 z2 T5 (RI_bi hI hb) ro5 hk])
theorem sb_5_1 {n vs : Nat} {be de : Int64} {sz : Int32} {ro co mi : Nat → Int64} {T : Nat → Nat → Int64} {B : Nat → Nat → Nat → Int32} {bk : Nat → Nat → Int32} {df : Nat → Int32} {wo un h : Int64} {bo : Nat → Int32} {ta tr r2 ot : Nat → Int64} {Bm : Nat → Nat → Nat → Int32} (hI : RI n vs B Bm bk) (hv : 5 < vs) (hi : 1 < n) {b : Nat} (hb : b < 4) {k : Nat} (hk : k < 3) : STl (KX2_blame l D ca ad) (KX3_blame l D ca ae) [.int 5, .int (Int32.ofNat b), .int (Int32.ofNat k), .int 1] (XW (Int32.ofNat n) (Int32.ofNat vs) be de sz ro co mi T B bk df) (MW (Int32.ofNat n) (Int32.ofNat vs) wo un h bo ta tr r2 ot Bm bk) := by
  have hn := hI.1
  have hvs := hI.2.1
  have h1 := MX_b1 hI hv 2
  have h2 := MX_b2 hI hv 2 1
  have hI2 : RI n vs (cpX (cpX (cpX (cpX B 7 6 0 2) 7 5 2 4) 7 6 0 1) 7 5 1 4) Bm bk := RI_b7 hI (fun k hk => by rw [mix_o hk, mix_o hk])
  have e1 := de_eq hn h1
  have e2 := de_eq hn h2
  by_cases z1 : dtM (TnM n Bm 2 5) = 0
  · obtain ⟨be2, de2, sz2, ro2, co2, mi2, T2, cx⟩ := x_blame_A_5_1 (l := l) (D := D) (ca := ca) (ad := ad) (n := n) (vs := vs) (be := be) (de := de) (sz := sz) (ro := ro) (co := co) (mi := mi) (T := T) (B := B) (hd := bk) (df := df) hv hvs hi hn hb hk (by rw [e1]; exact z1)
    obtain ⟨wo3, un3, bo3, ta3, tr3, ro3, cm⟩ := m_blame_A_5_1 (l := l) (D := D) (ca := ca) (ad := ae) (n := n) (vs := vs) (wo := wo) (un := un) (h := h) (bo := bo) (ta := ta) (tr := tr) (ro := r2) (ot := ot) (Bm := Bm) (bk := bk) hv hvs hi hn hb hk z1
    exact st_l (ix_mk hI2) cx cm rfl
  · by_cases z2 : dtM (TnM n Bm 1 5) = 0
    · obtain ⟨be2, de2, sz2, ro2, co2, mi2, T2, cx⟩ := x_blame_B_5_1 (l := l) (D := D) (ca := ca) (ad := ad) (n := n) (vs := vs) (be := be) (de := de) (sz := sz) (ro := ro) (co := co) (mi := mi) (T := T) (B := B) (hd := bk) (df := df) hv hvs hi hn hb hk (by rw [e1]; exact z1) (fun T2 => by rw [e2]; exact z2)
      obtain ⟨wo3, un3, bo3, ta3, tr3, ro3, cm⟩ := m_blame_B_5_1 (l := l) (D := D) (ca := ca) (ad := ae) (n := n) (vs := vs) (wo := wo) (un := un) (h := h) (bo := bo) (ta := ta) (tr := tr) (ro := r2) (ot := ot) (Bm := Bm) (bk := bk) hv hvs hi hn hb hk z1 z2
      exact st_l (ix_mk hI2) cx cm rfl
    · obtain ⟨T5, ro5, be2, de2, sz2, ro2, co2, mi2, T2, cx⟩ := x_blame_C_5_1 (l := l) (D := D) (ca := ca) (ad := ad) (n := n) (vs := vs) (be := be) (de := de) (sz := sz) (ro := ro) (co := co) (mi := mi) (T := T) (B := B) (hd := bk) (df := df) hv hvs hi hn hb hk (by rw [e1]; exact z1) (fun T2 => by rw [e2]; exact z2) (mt_ne hn h1 z1 T (RI_bi hI hb) ro hk) (fun T2 ro2 => mt_ne hn h2 z2 T2 (RI_bi hI hb) ro2 hk)
      obtain ⟨wo3, un3, bo3, ta3, tr3, ro3, cm⟩ := m_blame_C_5_1 (l := l) (D := D) (ca := ca) (ad := ae) (n := n) (vs := vs) (wo := wo) (un := un) (h := h) (bo := bo) (ta := ta) (tr := tr) (ro := r2) (ot := ot) (Bm := Bm) (bk := bk) hv hvs hi hn hb hk z1 z2
      exact st_l (ix_mk hI2) cx cm (by rw [mt_eq hn h1 z1 T (RI_bi hI hb) ro hk, mt_eq hn h2 z2 T5 (RI_bi hI hb) ro5 hk])
theorem sb_5_2 {n vs : Nat} {be de : Int64} {sz : Int32} {ro co mi : Nat → Int64} {T : Nat → Nat → Int64} {B : Nat → Nat → Nat → Int32} {bk : Nat → Nat → Int32} {df : Nat → Int32} {wo un h : Int64} {bo : Nat → Int32} {ta tr r2 ot : Nat → Int64} {Bm : Nat → Nat → Nat → Int32} (hI : RI n vs B Bm bk) (hv : 5 < vs) (hi : 2 < n) {b : Nat} (hb : b < 4) {k : Nat} (hk : k < 3) : STl (KX2_blame l D ca ad) (KX3_blame l D ca ae) [.int 5, .int (Int32.ofNat b), .int (Int32.ofNat k), .int 2] (XW (Int32.ofNat n) (Int32.ofNat vs) be de sz ro co mi T B bk df) (MW (Int32.ofNat n) (Int32.ofNat vs) wo un h bo ta tr r2 ot Bm bk) := by
  have hn := hI.1
  have hvs := hI.2.1
  have h1 := MX_b1 hI hv 3
  have h2 := MX_b2 hI hv 3 2
  have hI2 : RI n vs (cpX (cpX (cpX (cpX B 7 6 0 3) 7 5 3 4) 7 6 0 2) 7 5 2 4) Bm bk := RI_b7 hI (fun k hk => by rw [mix_o hk, mix_o hk])
  have e1 := de_eq hn h1
  have e2 := de_eq hn h2
  by_cases z1 : dtM (TnM n Bm 3 5) = 0
  · obtain ⟨be2, de2, sz2, ro2, co2, mi2, T2, cx⟩ := x_blame_A_5_2 (l := l) (D := D) (ca := ca) (ad := ad) (n := n) (vs := vs) (be := be) (de := de) (sz := sz) (ro := ro) (co := co) (mi := mi) (T := T) (B := B) (hd := bk) (df := df) hv hvs hi hn hb hk (by rw [e1]; exact z1)
    obtain ⟨wo3, un3, bo3, ta3, tr3, ro3, cm⟩ := m_blame_A_5_2 (l := l) (D := D) (ca := ca) (ad := ae) (n := n) (vs := vs) (wo := wo) (un := un) (h := h) (bo := bo) (ta := ta) (tr := tr) (ro := r2) (ot := ot) (Bm := Bm) (bk := bk) hv hvs hi hn hb hk z1
    exact st_l (ix_mk hI2) cx cm rfl
  · by_cases z2 : dtM (TnM n Bm 2 5) = 0
    · obtain ⟨be2, de2, sz2, ro2, co2, mi2, T2, cx⟩ := x_blame_B_5_2 (l := l) (D := D) (ca := ca) (ad := ad) (n := n) (vs := vs) (be := be) (de := de) (sz := sz) (ro := ro) (co := co) (mi := mi) (T := T) (B := B) (hd := bk) (df := df) hv hvs hi hn hb hk (by rw [e1]; exact z1) (fun T2 => by rw [e2]; exact z2)
      obtain ⟨wo3, un3, bo3, ta3, tr3, ro3, cm⟩ := m_blame_B_5_2 (l := l) (D := D) (ca := ca) (ad := ae) (n := n) (vs := vs) (wo := wo) (un := un) (h := h) (bo := bo) (ta := ta) (tr := tr) (ro := r2) (ot := ot) (Bm := Bm) (bk := bk) hv hvs hi hn hb hk z1 z2
      exact st_l (ix_mk hI2) cx cm rfl
    · obtain ⟨T5, ro5, be2, de2, sz2, ro2, co2, mi2, T2, cx⟩ := x_blame_C_5_2 (l := l) (D := D) (ca := ca) (ad := ad) (n := n) (vs := vs) (be := be) (de := de) (sz := sz) (ro := ro) (co := co) (mi := mi) (T := T) (B := B) (hd := bk) (df := df) hv hvs hi hn hb hk (by rw [e1]; exact z1) (fun T2 => by rw [e2]; exact z2) (mt_ne hn h1 z1 T (RI_bi hI hb) ro hk) (fun T2 ro2 => mt_ne hn h2 z2 T2 (RI_bi hI hb) ro2 hk)
      obtain ⟨wo3, un3, bo3, ta3, tr3, ro3, cm⟩ := m_blame_C_5_2 (l := l) (D := D) (ca := ca) (ad := ae) (n := n) (vs := vs) (wo := wo) (un := un) (h := h) (bo := bo) (ta := ta) (tr := tr) (ro := r2) (ot := ot) (Bm := Bm) (bk := bk) hv hvs hi hn hb hk z1 z2
      exact st_l (ix_mk hI2) cx cm (by rw [mt_eq hn h1 z1 T (RI_bi hI hb) ro hk, mt_eq hn h2 z2 T5 (RI_bi hI hb) ro5 hk])
theorem sb_5_3 {n vs : Nat} {be de : Int64} {sz : Int32} {ro co mi : Nat → Int64} {T : Nat → Nat → Int64} {B : Nat → Nat → Nat → Int32} {bk : Nat → Nat → Int32} {df : Nat → Int32} {wo un h : Int64} {bo : Nat → Int32} {ta tr r2 ot : Nat → Int64} {Bm : Nat → Nat → Nat → Int32} (hI : RI n vs B Bm bk) (hv : 5 < vs) (hi : 3 < n) {b : Nat} (hb : b < 4) {k : Nat} (hk : k < 3) : STl (KX2_blame l D ca ad) (KX3_blame l D ca ae) [.int 5, .int (Int32.ofNat b), .int (Int32.ofNat k), .int 3] (XW (Int32.ofNat n) (Int32.ofNat vs) be de sz ro co mi T B bk df) (MW (Int32.ofNat n) (Int32.ofNat vs) wo un h bo ta tr r2 ot Bm bk) := by
  have hn := hI.1
  have hvs := hI.2.1
  have h1 := MX_40 hn (MX_b1 hI hv 4)
  have h2 := MX_b2 hI hv 4 3
  have hI2 : RI n vs (cpX (cpX (cpX (cpX B 7 6 0 4) 7 5 4 4) 7 6 0 3) 7 5 3 4) Bm bk := RI_b7 hI (fun k hk => by rw [mix_o hk, mix_o hk])
  have e1 := de_eq hn h1
  have e2 := de_eq hn h2
  by_cases z1 : dtM (TnM n Bm 4 0) = 0
  · obtain ⟨be2, de2, sz2, ro2, co2, mi2, T2, cx⟩ := x_blame_A_5_3 (l := l) (D := D) (ca := ca) (ad := ad) (n := n) (vs := vs) (be := be) (de := de) (sz := sz) (ro := ro) (co := co) (mi := mi) (T := T) (B := B) (hd := bk) (df := df) hv hvs hi hn hb hk (by rw [e1]; exact z1)
    obtain ⟨wo3, un3, bo3, ta3, tr3, ro3, cm⟩ := m_blame_A_5_3 (l := l) (D := D) (ca := ca) (ad := ae) (n := n) (vs := vs) (wo := wo) (un := un) (h := h) (bo := bo) (ta := ta) (tr := tr) (ro := r2) (ot := ot) (Bm := Bm) (bk := bk) hv hvs hi hn hb hk z1
    exact st_l (ix_mk hI2) cx cm rfl
  · by_cases z2 : dtM (TnM n Bm 3 5) = 0
    · obtain ⟨be2, de2, sz2, ro2, co2, mi2, T2, cx⟩ := x_blame_B_5_3 (l := l) (D := D) (ca := ca) (ad := ad) (n := n) (vs := vs) (be := be) (de := de) (sz := sz) (ro := ro) (co := co) (mi := mi) (T := T) (B := B) (hd := bk) (df := df) hv hvs hi hn hb hk (by rw [e1]; exact z1) (fun T2 => by rw [e2]; exact z2)
      obtain ⟨wo3, un3, bo3, ta3, tr3, ro3, cm⟩ := m_blame_B_5_3 (l := l) (D := D) (ca := ca) (ad := ae) (n := n) (vs := vs) (wo := wo) (un := un) (h := h) (bo := bo) (ta := ta) (tr := tr) (ro := r2) (ot := ot) (Bm := Bm) (bk := bk) hv hvs hi hn hb hk z1 z2
      exact st_l (ix_mk hI2) cx cm rfl
    · obtain ⟨T5, ro5, be2, de2, sz2, ro2, co2, mi2, T2, cx⟩ := x_blame_C_5_3 (l := l) (D := D) (ca := ca) (ad := ad) (n := n) (vs := vs) (be := be) (de := de) (sz := sz) (ro := ro) (co := co) (mi := mi) (T := T) (B := B) (hd := bk) (df := df) hv hvs hi hn hb hk (by rw [e1]; exact z1) (fun T2 => by rw [e2]; exact z2) (mt_ne hn h1 z1 T (RI_bi hI hb) ro hk) (fun T2 ro2 => mt_ne hn h2 z2 T2 (RI_bi hI hb) ro2 hk)
      obtain ⟨wo3, un3, bo3, ta3, tr3, ro3, cm⟩ := m_blame_C_5_3 (l := l) (D := D) (ca := ca) (ad := ae) (n := n) (vs := vs) (wo := wo) (un := un) (h := h) (bo := bo) (ta := ta) (tr := tr) (ro := r2) (ot := ot) (Bm := Bm) (bk := bk) hv hvs hi hn hb hk z1 z2
      exact st_l (ix_mk hI2) cx cm (by rw [mt_eq hn h1 z1 T (RI_bi hI hb) ro hk, mt_eq hn h2 z2 T5 (RI_bi hI hb) ro5 hk])
theorem s_blame (a c d g : Int32) {X M : mW} (hI : IX X M) : STl (KX2_blame l D ca ad) (KX3_blame l D ca ae) [.int a, .int c, .int d, .int g] X M := by
  obtain ⟨n, vs, be, de, sz, ro, co, mi, T, B, bk, df, wo, un, h, bo, ta, tr, r2, ot, Bm, rfl, rfl, hI⟩ := hI
  have hn := hI.1
  have hvs := hI.2.1
  by_cases q_a : 0 ≤ a ∧ a < Int32.ofNat vs
  rotate_left
  · exact st_l (ix_mk hI) (x_blame_U1 q_a) (m_blame_U1 hvs q_a) rfl
  obtain ⟨v, hv, rfl⟩ := arg_lt (by omega) q_a
  by_cases q_c : 0 ≤ c ∧ c < 4
  rotate_left
  · exact st_l (ix_mk hI) (x_blame_U2 hv hvs q_c) (m_blame_U2 hv hvs q_c) rfl
  obtain ⟨b, hb, rfl⟩ := arg_lt (n := 4) (by omega) q_c
  by_cases q_d : 0 ≤ d ∧ d < 3
  rotate_left
  · exact st_l (ix_mk hI) (x_blame_U3 hv hvs hb q_d) (m_blame_U3 hv hvs hb q_d) rfl
  obtain ⟨k, hk, rfl⟩ := arg_lt (n := 3) (by omega) q_d
  by_cases q_g : 0 ≤ g ∧ g < Int32.ofNat n
  rotate_left
  · exact st_l (ix_mk hI) (x_blame_U4 hv hvs hb hk q_g) (m_blame_U4 hv hvs hb hk hn q_g) rfl
  obtain ⟨i, hi, rfl⟩ := arg_lt (by omega) q_g
  rcases (show v = 0 ∨ v = 1 ∨ v = 2 ∨ v = 3 ∨ v = 4 ∨ v = 5 by omega) with e | e | e | e | e | e
  · subst e
    rcases (show i = 0 ∨ i = 1 ∨ i = 2 ∨ i = 3 by omega) with e | e | e | e
    · subst e; exact sb_0_0 hI hv hi hb hk
    · subst e; exact sb_0_1 hI hv hi hb hk
    · subst e; exact sb_0_2 hI hv hi hb hk
    · subst e; exact sb_0_3 hI hv hi hb hk
  · subst e
    rcases (show i = 0 ∨ i = 1 ∨ i = 2 ∨ i = 3 by omega) with e | e | e | e
    · subst e; exact sb_1_0 hI hv hi hb hk
    · subst e; exact sb_1_1 hI hv hi hb hk
    · subst e; exact sb_1_2 hI hv hi hb hk
    · subst e; exact sb_1_3 hI hv hi hb hk
  · subst e
    rcases (show i = 0 ∨ i = 1 ∨ i = 2 ∨ i = 3 by omega) with e | e | e | e
    · subst e; exact sb_2_0 hI hv hi hb hk
    · subst e; exact sb_2_1 hI hv hi hb hk
    · subst e; exact sb_2_2 hI hv hi hb hk
    · subst e; exact sb_2_3 hI hv hi hb hk
  · subst e
    rcases (show i = 0 ∨ i = 1 ∨ i = 2 ∨ i = 3 by omega) with e | e | e | e
    · subst e; exact sb_3_0 hI hv hi hb hk
    · subst e; exact sb_3_1 hI hv hi hb hk
    · subst e; exact sb_3_2 hI hv hi hb hk
    · subst e; exact sb_3_3 hI hv hi hb hk
  · subst e
    rcases (show i = 0 ∨ i = 1 ∨ i = 2 ∨ i = 3 by omega) with e | e | e | e
    · subst e; exact sb_4_0 hI hv hi hb hk
    · subst e; exact sb_4_1 hI hv hi hb hk
    · subst e; exact sb_4_2 hI hv hi hb hk
    · subst e; exact sb_4_3 hI hv hi hb hk
  · subst e
    rcases (show i = 0 ∨ i = 1 ∨ i = 2 ∨ i = 3 by omega) with e | e | e | e
    · subst e; exact sb_5_0 hI hv hi hb hk
    · subst e; exact sb_5_1 hI hv hi hb hk
    · subst e; exact sb_5_2 hI hv hi hb hk
    · subst e; exact sb_5_3 hI hv hi hb hk
end
