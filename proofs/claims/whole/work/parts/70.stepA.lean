/-! A CALL, class and reference beside each other: the same answer, and the books stay beside each other -/
def IX (X M : mW) : Prop := ∃ (n vs : Nat) (be de : Int64) (sz : Int32) (ro co mi : Nat → Int64) (T : Nat → Nat → Int64) (B : Nat → Nat → Nat → Int32) (bk : Nat → Nat → Int32) (df : Nat → Int32) (wo un h : Int64) (bo : Nat → Int32) (ta tr r2 ot : Nat → Int64) (Bm : Nat → Nat → Nat → Int32),
  X = XW (Int32.ofNat n) (Int32.ofNat vs) be de sz ro co mi T B bk df ∧ M = MW (Int32.ofNat n) (Int32.ofNat vs) wo un h bo ta tr r2 ot Bm bk ∧ RI n vs B Bm bk
theorem ix_mk {n vs : Nat} {be de : Int64} {sz : Int32} {ro co mi : Nat → Int64} {T : Nat → Nat → Int64} {B : Nat → Nat → Nat → Int32} {bk : Nat → Nat → Int32} {df : Nat → Int32} {wo un h : Int64} {bo : Nat → Int32} {ta tr r2 ot : Nat → Int64} {Bm : Nat → Nat → Nat → Int32} (hI : RI n vs B Bm bk) : IX (XW (Int32.ofNat n) (Int32.ofNat vs) be de sz ro co mi T B bk df) (MW (Int32.ofNat n) (Int32.ofNat vs) wo un h bo ta tr r2 ot Bm bk) :=
  ⟨n, vs, be, de, sz, ro, co, mi, T, B, bk, df, wo, un, h, bo, ta, tr, r2, ot, Bm, rfl, rfl, hI⟩
abbrev mKt : Type := List Value → mW → Option Value → mW → Prop
def STi (KX KM : mKt) (av : List Value) (X M : mW) : Prop := ∃ (v : Int32) (X2 M2 : mW), IX X2 M2 ∧ KX (.ref 0 :: av) X (some (.int v)) X2 ∧ KM (.ref 0 :: av) M (some (.int v)) M2
def STl (KX KM : mKt) (av : List Value) (X M : mW) : Prop := ∃ (v : Int64) (X2 M2 : mW), IX X2 M2 ∧ KX (.ref 0 :: av) X (some (.long v)) X2 ∧ KM (.ref 0 :: av) M (some (.long v)) M2
theorem st_i {KX KM : mKt} {av : List Value} {X M : mW} {v v2 : Int32} {X2 M2 : mW} (hI : IX X2 M2) (h1 : KX (.ref 0 :: av) X (some (.int v)) X2) (h2 : KM (.ref 0 :: av) M (some (.int v2)) M2) (e : v = v2) : STi KX KM av X M := ⟨v, X2, M2, hI, h1, by rw [e]; exact h2⟩
theorem st_l {KX KM : mKt} {av : List Value} {X M : mW} {v v2 : Int64} {X2 M2 : mW} (hI : IX X2 M2) (h1 : KX (.ref 0 :: av) X (some (.long v)) X2) (h2 : KM (.ref 0 :: av) M (some (.long v2)) M2) (e : v = v2) : STl KX KM av X M := ⟨v, X2, M2, hI, h1, by rw [e]; exact h2⟩
theorem arg_lt {a : Int32} {n : Nat} (hn : n ≤ 1000) (h : 0 ≤ a ∧ a < Int32.ofNat n) : ∃ i : Nat, i < n ∧ a = Int32.ofNat i := by
  have h1 : (0 : Int32).toInt ≤ a.toInt := Int32.le_iff_toInt_le.mp h.1
  have h2 : a.toInt < (Int32.ofNat n).toInt := Int32.lt_iff_toInt_lt.mp h.2
  have h3 : (Int32.ofNat n).toInt = n := nI_toInt (by omega)
  have h0 : (0 : Int32).toInt = 0 := rfl
  refine ⟨a.toInt.toNat, by omega, Int32.toInt_inj.mp ?_⟩
  have h4 : (Int32.ofNat a.toInt.toNat).toInt = (a.toInt.toNat : Int) := nI_toInt (by omega)
  rw [h4]
  omega
theorem arg_le {a : Int32} {n : Nat} (hn : n ≤ 1000) (h : 0 ≤ a ∧ a ≤ Int32.ofNat n) : ∃ i : Nat, i < n + 1 ∧ a = Int32.ofNat i := by
  have h1 : (0 : Int32).toInt ≤ a.toInt := Int32.le_iff_toInt_le.mp h.1
  have h2 : a.toInt ≤ (Int32.ofNat n).toInt := Int32.le_iff_toInt_le.mp h.2
  have h3 : (Int32.ofNat n).toInt = n := nI_toInt (by omega)
  have h0 : (0 : Int32).toInt = 0 := rfl
  refine ⟨a.toInt.toNat, by omega, Int32.toInt_inj.mp ?_⟩
  have h4 : (Int32.ofNat a.toInt.toNat).toInt = (a.toInt.toNat : Int) := nI_toInt (by omega)
  rw [h4]
  omega
theorem i_le {a b : Int32} (h : a ≤ b) : a.toInt ≤ b.toInt := Int32.le_iff_toInt_le.mp h
theorem RI_up {n vs : Nat} {B Bm : Nat → Nat → Nat → Int32} {bk : Nat → Nat → Int32} (h : RI n vs B Bm bk) {R M : Nat → Nat → Int32} (hb : BR n R M) : RI n vs (up B 6 R) (up Bm 6 M) bk := by
  refine ⟨h.1, h.2.1, ?_, fun v hv => ?_, h.2.2.2.2⟩
  · rw [up_at, up_at]; exact hb
  · have q := h.2.1
    rw [up_ne (by omega), up_ne (by omega)]; exact h.2.2.2.1 v hv
theorem RI_ch {n vs : Nat} {B Bm : Nat → Nat → Nat → Int32} {bk : Nat → Nat → Int32} (h : RI n vs B Bm bk) {i : Nat} (hi : i < n) {p : Nat} {v : Int32} (h1 : loR p ≤ v.toInt) (h2 : v.toInt ≤ hiR n p) : RI n vs (up B 6 (chX (B 6) i p v)) (up Bm 6 (up (Bm 6) i (up (Bm 6 i) p v))) bk :=
  RI_up h (BR_ch h.1 h.2.2.1 hi h1 h2)
theorem hi_4 {n p : Nat} (h1 : 4 ≤ p) (h2 : p < 8) : hiR n p = 6 := by
  unfold hiR
  rw [if_neg (by omega), if_neg (by omega), if_pos h2]
theorem hi_8 {n j : Nat} (h : j < n) (h4 : j < 4) : hiR n (8 + j) = 6 := by
  unfold hiR
  rw [if_neg (by omega), if_neg (by omega), if_neg (by omega), if_pos (by omega), if_pos (by omega)]
theorem hi_12 {n p : Nat} (h1 : 12 ≤ p) (h2 : p < 21) : hiR n p = 100 := by
  unfold hiR
  rw [if_neg (by omega), if_neg (by omega), if_neg (by omega), if_neg (by omega), if_pos h2]
theorem lo_0 {p : Nat} (h1 : 1 ≤ p) (h2 : p < 21) : loR p = 0 := by
  unfold loR
  rw [if_neg (by omega), if_neg (by omega), if_neg (by omega)]
theorem RI_keep {n vs : Nat} {B Bm : Nat → Nat → Nat → Int32} {bk : Nat → Nat → Int32} (h : RI n vs B Bm bk) (hv : vs < 6) : RI n (vs + 1) (cpX B vs 6 0 4) (up Bm vs (Bm 6)) bk := by
  have e : ∀ i : Nat, i < 4 → cpX B vs 6 0 4 vs i = B 6 i := fun i hi => by
    rw [cp_at, if_pos (Nat.zero_le i), if_pos hi]
  refine ⟨h.1, by omega, ?_, fun v q => ?_, h.2.2.2.2⟩
  · rw [cp_o (by omega), up_ne (by omega)]; exact h.2.2.1
  · by_cases z : v = vs
    · subst z
      rw [up_at]
      have hn := h.1
      refine ⟨fun i hi => RO_of (h.2.2.1.1 i hi) (e i (by omega)), fun i h1 h2 => ?_⟩
      rw [e i h2]
      exact h.2.2.1.2 i h1 h2
    · rw [cp_o z, up_ne z]; exact h.2.2.2.1 v (by omega)
theorem RI_rec {n vs : Nat} {B Bm : Nat → Nat → Nat → Int32} {bk : Nat → Nat → Int32} (h : RI n vs B Bm bk) {v : Nat} (hv : v < vs) : RI n vs (cpX B 6 v 0 4) (up Bm 6 (Bm v)) bk := by
  have q := h.2.1
  have hn := h.1
  have e : ∀ i : Nat, i < 4 → cpX B 6 v 0 4 6 i = B v i := fun i hi => by
    rw [cp_at, if_pos (Nat.zero_le i), if_pos hi]
  refine ⟨h.1, h.2.1, ?_, fun k z => ?_, h.2.2.2.2⟩
  · rw [up_at]
    refine ⟨fun i hi => RO_of ((h.2.2.2.1 v hv).1 i hi) (e i (by omega)), fun i h1 h2 => ?_⟩
    rw [e i h2]
    exact (h.2.2.2.1 v hv).2 i h1 h2
  · rw [cp_o (by omega), up_ne (by omega)]; exact h.2.2.2.1 k z
theorem RI_put {n vs : Nat} {B Bm : Nat → Nat → Nat → Int32} {bk : Nat → Nat → Int32} (h : RI n vs B Bm bk) {b j : Nat} {v : Int32} (h1 : 0 ≤ v) (h2 : v ≤ 20) : RI n vs B Bm (up bk b (up (bk b) j v)) := by
  refine ⟨h.1, h.2.1, h.2.2.1, h.2.2.2.1, fun c i hc hi => ?_⟩
  by_cases e : c = b
  · subst e
    rw [up_at]
    by_cases e2 : i = j
    · subst e2
      rw [up_at]
      exact ⟨i_le h1, i_le h2⟩
    · rw [up_ne e2]; exact h.2.2.2.2 c i hc hi
  · rw [up_ne e]; exact h.2.2.2.2 c i hc hi
theorem RI_b7 {n vs : Nat} {B B2 Bm : Nat → Nat → Nat → Int32} {bk : Nat → Nat → Int32} (h : RI n vs B Bm bk) (e : ∀ k : Nat, k ≠ 7 → B2 k = B k) : RI n vs B2 Bm bk := by
  have q := h.2.1
  refine ⟨h.1, h.2.1, ?_, fun v hv => ?_, h.2.2.2.2⟩
  · rw [e 6 (by decide)]; exact h.2.2.1
  · rw [e v (by omega)]; exact h.2.2.2.1 v hv
theorem RI_bi {n vs : Nat} {B Bm : Nat → Nat → Nat → Int32} {bk : Nat → Nat → Int32} (h : RI n vs B Bm bk) {b : Nat} (hb : b < 4) : ∀ j : Nat, j < 4 → bi (bk b j) 20 := fun j hj => bi_of (h.2.2.2.2 b j hb hj).1 (h.2.2.2.2 b j hb hj).2
section
variable {l : Launch} {D : va_G} {ca : Nat → ClassId} {ad ae : Nat → Nat}

theorem s_making {X M : mW} (hI : IX X M) : STi (KX2_making l D ca ad) (KX3_making l D ca ae) [] X M := by
  obtain ⟨n, vs, be, de, sz, ro, co, mi, T, B, bk, df, wo, un, h, bo, ta, tr, r2, ot, Bm, rfl, rfl, hI⟩ := hI
  have hn := hI.1
  have hvs := hI.2.1
  by_cases hv : 0 < vs
  · exact st_i (ix_mk hI) (x_making_state hv hvs) (m_making_state hv hvs) rfl
  · have e : vs = 0 := by omega
    subst e
    have mk : ∀ k : Nat, k < 4 → n = k → RI (k + 1) 0 B (up Bm 6 (up (Bm 6) k (up (up (up (up (Bm 6 k) 0 1) 1 0) 21 1) 22 1))) bk := fun k hk e => by
      subst e
      refine ⟨by omega, by omega, ?_, fun v q => absurd q (Nat.not_lt_zero v), hI.2.2.2.2⟩
      rw [up_at]
      exact BR_mk hk hI.2.2.1
    rcases (show n = 0 ∨ n = 1 ∨ n = 2 ∨ n = 3 ∨ n = 4 by omega) with e | e | e | e | e
    · have hI2 := mk 0 (by decide) e; subst e; exact st_i (ix_mk hI2) x_making_0 m_making_0 rfl
    · have hI2 := mk 1 (by decide) e; subst e; exact st_i (ix_mk hI2) x_making_1 m_making_1 rfl
    · have hI2 := mk 2 (by decide) e; subst e; exact st_i (ix_mk hI2) x_making_2 m_making_2 rfl
    · have hI2 := mk 3 (by decide) e; subst e; exact st_i (ix_mk hI2) x_making_3 m_making_3 rfl
    · subst e; exact st_i (ix_mk hI) x_making_full m_making_full rfl
theorem s_out (a v : Int32) {X M : mW} (hI : IX X M) : STi (KX2_out l D ca ad) (KX3_out l D ca ae) [.int a, .int v] X M := by
  obtain ⟨n, vs, be, de, sz, ro, co, mi, T, B, bk, df, wo, un, h, bo, ta, tr, r2, ot, Bm, rfl, rfl, hI⟩ := hI
  have hn := hI.1
  have hvs := hI.2.1
  by_cases q_a : 0 ≤ a ∧ a < Int32.ofNat n
  rotate_left
  · exact st_i (ix_mk hI) (x_out_U q_a) (m_out_U hn q_a) rfl
  obtain ⟨i, hi, rfl⟩ := arg_lt (by omega) q_a
  by_cases q_v : 1 ≤ v ∧ v ≤ 6
  rotate_left
  · exact st_i (ix_mk hI) (x_out_O hi hn q_v) (m_out_O hi hn q_v) rfl
  exact st_i (ix_mk (RI_ch hI hi (p := 0) (i_le q_v.1) (i_le q_v.2))) (x_out hi hn q_v.1 q_v.2) (m_out hi hn q_v.1 q_v.2) ((hI.2.2.1.1 i hi).1 0 (by decide) (by decide) (by decide))
theorem s_rule (a v : Int32) {X M : mW} (hI : IX X M) : STi (KX2_rule l D ca ad) (KX3_rule l D ca ae) [.int a, .int v] X M := by
  obtain ⟨n, vs, be, de, sz, ro, co, mi, T, B, bk, df, wo, un, h, bo, ta, tr, r2, ot, Bm, rfl, rfl, hI⟩ := hI
  have hn := hI.1
  have hvs := hI.2.1
  by_cases q_a : 0 ≤ a ∧ a < Int32.ofNat n
  rotate_left
  · exact st_i (ix_mk hI) (x_rule_U q_a) (m_rule_U hn q_a) rfl
  obtain ⟨i, hi, rfl⟩ := arg_lt (by omega) q_a
  by_cases q_v : 0 ≤ v ∧ v ≤ 2
  rotate_left
  · exact st_i (ix_mk hI) (x_rule_O hi hn q_v) (m_rule_O hi hn q_v) rfl
  exact st_i (ix_mk (RI_ch hI hi (p := 1) (i_le q_v.1) (i_le q_v.2))) (x_rule hi hn q_v.1 q_v.2) (m_rule hi hn q_v.1 q_v.2) ((hI.2.2.1.1 i hi).1 1 (by decide) (by decide) (by decide))
theorem s_needs (a c v : Int32) {X M : mW} (hI : IX X M) : STi (KX2_needs l D ca ad) (KX3_needs l D ca ae) [.int a, .int c, .int v] X M := by
  obtain ⟨n, vs, be, de, sz, ro, co, mi, T, B, bk, df, wo, un, h, bo, ta, tr, r2, ot, Bm, rfl, rfl, hI⟩ := hI
  have hn := hI.1
  have hvs := hI.2.1
  by_cases q_a : 0 ≤ a ∧ a < Int32.ofNat n
  rotate_left
  · exact st_i (ix_mk hI) (x_needs_U1 q_a) (m_needs_U1 hn q_a) rfl
  obtain ⟨i, hi, rfl⟩ := arg_lt (by omega) q_a
  by_cases q_c : 0 ≤ c ∧ c < Int32.ofNat n
  rotate_left
  · exact st_i (ix_mk hI) (x_needs_U2 hi hn q_c) (m_needs_U2 hi hn q_c) rfl
  obtain ⟨j, hj, rfl⟩ := arg_lt (by omega) q_c
  by_cases q_v : 0 ≤ v ∧ v ≤ 6
  rotate_left
  · exact st_i (ix_mk hI) (x_needs_O hi hn hj q_v) (m_needs_O hi hn hj q_v) rfl
  exact st_i (ix_mk (RI_ch hI hi (p := 4 + j) (by rw [lo_0 (by omega) (by omega)]; exact i_le q_v.1) (by rw [hi_4 (by omega) (by omega)]; exact i_le q_v.2))) (x_needs hi hj hn q_v.1 q_v.2) (m_needs hi hj hn q_v.1 q_v.2) ((hI.2.2.1.1 i hi).1 (4 + j) (by omega) (by omega) (by omega))
theorem s_by (a c v : Int32) {X M : mW} (hI : IX X M) : STi (KX2_by l D ca ad) (KX3_by l D ca ae) [.int a, .int c, .int v] X M := by
  obtain ⟨n, vs, be, de, sz, ro, co, mi, T, B, bk, df, wo, un, h, bo, ta, tr, r2, ot, Bm, rfl, rfl, hI⟩ := hI
  have hn := hI.1
  have hvs := hI.2.1
  by_cases q_a : 0 ≤ a ∧ a < Int32.ofNat n
  rotate_left
  · exact st_i (ix_mk hI) (x_by_U1 q_a) (m_by_U1 hn q_a) rfl
  obtain ⟨i, hi, rfl⟩ := arg_lt (by omega) q_a
  by_cases q_c : 0 ≤ c ∧ c < Int32.ofNat n
  rotate_left
  · exact st_i (ix_mk hI) (x_by_U2 hi hn q_c) (m_by_U2 hi hn q_c) rfl
  obtain ⟨j, hj, rfl⟩ := arg_lt (by omega) q_c
  by_cases q_v : 0 ≤ v ∧ v ≤ 6
  rotate_left
  · exact st_i (ix_mk hI) (x_by_O hi hn hj q_v) (m_by_O hi hn hj q_v) rfl
  by_cases e : i = j
  · subst e; exact st_i (ix_mk hI) (x_by_S hi hn q_v.1 q_v.2) (m_by_S hi hn q_v.1 q_v.2) rfl
  exact st_i (ix_mk (RI_ch hI hi (p := 8 + j) (by rw [lo_0 (by omega) (by omega)]; exact i_le q_v.1) (by rw [hi_8 hj (by omega)]; exact i_le q_v.2))) (x_by hi hj hn e q_v.1 q_v.2) (m_by hi hj hn e q_v.1 q_v.2) ((hI.2.2.1.1 i hi).1 (8 + j) (by omega) (by omega) (by omega))
theorem s_emits (a c u t g : Int32) {X M : mW} (hI : IX X M) : STi (KX2_emits l D ca ad) (KX3_emits l D ca ae) [.int a, .int c, .int u, .int t, .int g] X M := by
  obtain ⟨n, vs, be, de, sz, ro, co, mi, T, B, bk, df, wo, un, h, bo, ta, tr, r2, ot, Bm, rfl, rfl, hI⟩ := hI
  have hn := hI.1
  have hvs := hI.2.1
  by_cases q_a : 0 ≤ a ∧ a < Int32.ofNat n
  rotate_left
  · exact st_i (ix_mk hI) (x_emits_U1 q_a) (m_emits_U1 hn q_a) rfl
  obtain ⟨i, hi, rfl⟩ := arg_lt (by omega) q_a
  by_cases q_c : 0 ≤ c ∧ c < 3
  rotate_left
  · exact st_i (ix_mk hI) (x_emits_U2 hi hn q_c) (m_emits_U2 hi hn q_c) rfl
  obtain ⟨k, hk, rfl⟩ := arg_lt (n := 3) (by omega) q_c
  by_cases q : (0 ≤ u ∧ u ≤ 100) ∧ (0 ≤ g ∧ g ≤ 100) ∧ u ≤ t ∧ t ≤ g
  rotate_left
  · have hx : KX2_emits l D ca ad [.ref 0, .int (Int32.ofNat i), .int (Int32.ofNat k), .int u, .int t, .int g] (XW (Int32.ofNat n) (Int32.ofNat vs) be de sz ro co mi T B bk df) (some (.int (-102))) (XW (Int32.ofNat n) (Int32.ofNat vs) be de sz ro co mi T B bk df) := by
      by_cases q1 : 0 ≤ u ∧ u ≤ 100
      · by_cases q2 : 0 ≤ g ∧ g ≤ 100
        · exact x_emits_O3 hi hn hk q1.1 q1.2 q2.1 q2.2 (fun z => q ⟨q1, q2, z⟩)
        · exact x_emits_O2 hi hn hk q1.1 q1.2 q2
      · exact x_emits_O1 hi hn hk q1
    have hm : KX3_emits l D ca ae [.ref 0, .int (Int32.ofNat i), .int (Int32.ofNat k), .int u, .int t, .int g] (MW (Int32.ofNat n) (Int32.ofNat vs) wo un h bo ta tr r2 ot Bm bk) (some (.int (-102))) (MW (Int32.ofNat n) (Int32.ofNat vs) wo un h bo ta tr r2 ot Bm bk) := by
      by_cases q1 : u < 0
      · exact m_emits_O1 hi hn hk q1
      · by_cases q2 : t < u
        · exact m_emits_O2 hi hn hk q1 q2
        · by_cases q3 : g < t
          · exact m_emits_O3 hi hn hk q1 q2 q3
          · refine m_emits_O4 hi hn hk q1 q2 q3 (fun z => q ?_)
            have a1 : 0 ≤ u := Int32.not_lt.mp q1
            have a2 : u ≤ t := Int32.not_lt.mp q2
            have a3 : t ≤ g := Int32.not_lt.mp q3
            exact ⟨⟨a1, Int32.le_trans a2 (Int32.le_trans a3 z)⟩, ⟨Int32.le_trans a1 (Int32.le_trans a2 a3), z⟩, a2, a3⟩
    exact st_i (ix_mk hI) hx hm rfl
  obtain ⟨q1, q2, q3, q4⟩ := q
  have b0 : ∀ p : Nat, 12 ≤ p → p < 21 → ∀ z : Int32, 0 ≤ z → z ≤ 100 → loR p ≤ z.toInt ∧ z.toInt ≤ hiR n p := fun p h1 h2 z z1 z2 => by
    rw [hi_12 h1 h2, lo_0 (by omega) h2]
    exact ⟨i_le z1, i_le z2⟩
  have t0 : 0 ≤ t := Int32.le_trans q1.1 q3
  have t1 : t ≤ 100 := Int32.le_trans q4 q2.2
  have z1 := b0 (12 + k) (by omega) (by omega) u q1.1 q1.2
  have z2 := b0 (15 + k) (by omega) (by omega) t t0 t1
  have z3 := b0 (18 + k) (by omega) (by omega) g q2.1 q2.2
  have hb := BR_ch hn (BR_ch hn (BR_ch hn hI.2.2.1 hi z1.1 z1.2) hi z2.1 z2.2) hi z3.1 z3.2
  rw [up_at, up_up, up_at, up_up] at hb
  exact st_i (ix_mk (RI_up hI hb)) (x_emits hi hk hn q1.1 q1.2 q2.1 q2.2 q3 q4) (m_emits hi hk hn q1.1 q3 q4 q2.2) rfl
theorem s_good (a u g : Int32) {X M : mW} (hI : IX X M) : STi (KX2_good l D ca ad) (KX3_good l D ca ae) [.int a, .int u, .int g] X M := by
  obtain ⟨n, vs, be, de, sz, ro, co, mi, T, B, bk, df, wo, un, h, bo, ta, tr, r2, ot, Bm, rfl, rfl, hI⟩ := hI
  have hn := hI.1
  have hvs := hI.2.1
  by_cases q_a : 0 ≤ a ∧ a < Int32.ofNat n
  rotate_left
  · exact st_i (ix_mk hI) (x_good_U q_a) (m_good_U hn q_a) rfl
  obtain ⟨i, hi, rfl⟩ := arg_lt (by omega) q_a
  by_cases q_u : 1 ≤ u ∧ u ≤ 5
  rotate_left
  · exact st_i (ix_mk hI) (x_good_O1 hi hn q_u) (m_good_O1 hi hn q_u) rfl
  by_cases q_g : 1 ≤ g ∧ g ≤ 5
  rotate_left
  · exact st_i (ix_mk hI) (x_good_O2 hi hn q_u.1 q_u.2 q_g) (m_good_O2 hi hn q_u.1 q_u.2 q_g) rfl
  have hb := BR_ch hn (BR_ch hn hI.2.2.1 hi (w := 21) (v := u) (i_le q_u.1) (i_le q_u.2)) hi (w := 22) (v := g) (i_le q_g.1) (i_le q_g.2)
  rw [up_at, up_up] at hb
  exact st_i (ix_mk (RI_up hI hb)) (x_good hi hn q_u.1 q_u.2 q_g.1 q_g.2) (m_good hi hn q_u.1 q_u.2 q_g.1 q_g.2) rfl
theorem s_told (a q : Int32) {X M : mW} (hI : IX X M) : STi (KX2_told l D ca ad) (KX3_told l D ca ae) [.int a, .int q] X M := by
  obtain ⟨n, vs, be, de, sz, ro, co, mi, T, B, bk, df, wo, un, h, bo, ta, tr, r2, ot, Bm, rfl, rfl, hI⟩ := hI
  have hn := hI.1
  have hvs := hI.2.1
  by_cases q_a : 0 ≤ a ∧ a < Int32.ofNat n
  rotate_left
  · exact st_i (ix_mk hI) (x_told_U q_a) (m_told_U hn q_a) rfl
  obtain ⟨i, hi, rfl⟩ := arg_lt (by omega) q_a
  by_cases q_q : 0 ≤ q ∧ q ≤ 22
  rotate_left
  · exact st_i (ix_mk hI) (x_told_O hi hn q_q) (m_told_O hi hn q_q) rfl
  obtain ⟨p, hp, rfl⟩ := arg_le (n := 22) (by omega) q_q
  exact st_i (ix_mk hI) (x_told hi hn hp) (m_told hi hn hp) (RO_td (hI.2.2.1.1 i hi) hp)
theorem s_entry (a c : Int32) {X M : mW} (hI : IX X M) : STi (KX2_entry l D ca ad) (KX3_entry l D ca ae) [.int a, .int c] X M := by
  obtain ⟨n, vs, be, de, sz, ro, co, mi, T, B, bk, df, wo, un, h, bo, ta, tr, r2, ot, Bm, rfl, rfl, hI⟩ := hI
  have hn := hI.1
  have hvs := hI.2.1
  by_cases q_a : 0 ≤ a ∧ a < Int32.ofNat n
  rotate_left
  · exact st_i (ix_mk hI) (x_entry_U1 q_a) (m_entry_U1 hn q_a) rfl
  obtain ⟨j, hj, rfl⟩ := arg_lt (by omega) q_a
  by_cases q_c : 0 ≤ c ∧ c < Int32.ofNat n
  rotate_left
  · exact st_i (ix_mk hI) (x_entry_U2 hj hn q_c) (m_entry_U2 hj hn q_c) rfl
  obtain ⟨i, hi, rfl⟩ := arg_lt (by omega) q_c
  exact st_i (ix_mk hI) (x_entry hj hi hn) (m_entry hj hi hn) (RO_cell (hI.2.2.1.1 i hi) (by omega))
theorem s_put (a c v : Int32) {X M : mW} (hI : IX X M) : STi (KX2_put l D ca ad) (KX3_put l D ca ae) [.int a, .int c, .int v] X M := by
  obtain ⟨n, vs, be, de, sz, ro, co, mi, T, B, bk, df, wo, un, h, bo, ta, tr, r2, ot, Bm, rfl, rfl, hI⟩ := hI
  have hn := hI.1
  have hvs := hI.2.1
  by_cases q_a : 0 ≤ a ∧ a < 4
  rotate_left
  · exact st_i (ix_mk hI) (x_put_U1 q_a) (m_put_U1 q_a) rfl
  obtain ⟨b, hb, rfl⟩ := arg_lt (n := 4) (by omega) q_a
  by_cases q_c : 0 ≤ c ∧ c < Int32.ofNat n
  rotate_left
  · exact st_i (ix_mk hI) (x_put_U2 hb q_c) (m_put_U2 hb hn q_c) rfl
  obtain ⟨j, hj, rfl⟩ := arg_lt (by omega) q_c
  by_cases q_v : 0 ≤ v ∧ v ≤ 20
  rotate_left
  · exact st_i (ix_mk hI) (x_put_O hb hj hn q_v) (m_put_O hb hj hn q_v) rfl
  exact st_i (ix_mk (RI_put hI q_v.1 q_v.2)) (x_put hb hj hn q_v.1 q_v.2) (m_put hb hj hn q_v.1 q_v.2) rfl
theorem s_worth {X M : mW} (hI : IX X M) : STl (KX2_worth l D ca ad) (KX3_worth l D ca ae) [] X M := by
  obtain ⟨n, vs, be, de, sz, ro, co, mi, T, B, bk, df, wo, un, h, bo, ta, tr, r2, ot, Bm, rfl, rfl, hI⟩ := hI
  have hn := hI.1
  have hvs := hI.2.1
  obtain ⟨be2, de2, sz2, ro2, co2, mi2, T2, cx⟩ := x_worth (l := l) (D := D) (ca := ca) (ad := ad) (n := n) (vs := vs) (be := be) (de := de) (sz := sz) (ro := ro) (co := co) (mi := mi) (T := T) (B := B) (hd := bk) (df := df) hn
  obtain ⟨bo3, ta3, tr3, cm⟩ := m_worth (l := l) (D := D) (ca := ca) (ad := ae) (n := n) (vs := vs) (wo := wo) (un := un) (h := h) (bo := bo) (ta := ta) (tr := tr) (ro := r2) (ot := ot) (Bm := Bm) (bk := bk) hn
  exact st_l (ix_mk hI) cx cm (de_eq hn (MX_now hn hI.2.2.1) T)
theorem s_runs (a c : Int32) {X M : mW} (hI : IX X M) : STl (KX2_runs l D ca ad) (KX3_runs l D ca ae) [.int a, .int c] X M := by
  obtain ⟨n, vs, be, de, sz, ro, co, mi, T, B, bk, df, wo, un, h, bo, ta, tr, r2, ot, Bm, rfl, rfl, hI⟩ := hI
  have hn := hI.1
  have hvs := hI.2.1
  by_cases q_a : 0 ≤ a ∧ a < 4
  rotate_left
  · exact st_l (ix_mk hI) (x_runs_U1 q_a) (m_runs_U1 q_a) rfl
  obtain ⟨b, hb, rfl⟩ := arg_lt (n := 4) (by omega) q_a
  by_cases q_c : 0 ≤ c ∧ c < Int32.ofNat n
  rotate_left
  · exact st_l (ix_mk hI) (x_runs_U2 hb q_c) (m_runs_U2 hb hn q_c) rfl
  obtain ⟨i, hi, rfl⟩ := arg_lt (by omega) q_c
  have hm := MX_now hn hI.2.2.1
  have ed := de_eq hn hm T
  by_cases h0 : dtM (TnM n Bm 4 0) = 0
  · obtain ⟨be2, de2, sz2, ro2, co2, mi2, T2, cx⟩ := x_runs_B (l := l) (D := D) (ca := ca) (ad := ad) (n := n) (vs := vs) (be := be) (de := de) (sz := sz) (ro := ro) (co := co) (mi := mi) (T := T) (B := B) (hd := bk) (df := df) hi hn hb (by rw [ed]; exact h0)
    obtain ⟨wo3, un3, h3, bo3, ta3, tr3, ro3, ot3, cm⟩ := m_runs_B (l := l) (D := D) (ca := ca) (ad := ae) (n := n) (vs := vs) (wo := wo) (un := un) (h := h) (bo := bo) (ta := ta) (tr := tr) (ro := r2) (ot := ot) (Bm := Bm) (bk := bk) hi hn hb h0
    exact st_l (ix_mk hI) cx cm rfl
  · obtain ⟨be2, de2, sz2, ro2, co2, mi2, T2, cx⟩ := x_runs (l := l) (D := D) (ca := ca) (ad := ad) (n := n) (vs := vs) (be := be) (de := de) (sz := sz) (ro := ro) (co := co) (mi := mi) (T := T) (B := B) (hd := bk) (df := df) hi hn hb (by rw [ed]; exact h0)
    obtain ⟨wo3, un3, h3, bo3, ta3, tr3, ro3, ot3, cm⟩ := m_runs (l := l) (D := D) (ca := ca) (ad := ae) (n := n) (vs := vs) (wo := wo) (un := un) (h := h) (bo := bo) (ta := ta) (tr := tr) (ro := r2) (ot := ot) (Bm := Bm) (bk := bk) hi hn hb h0
    exact st_l (ix_mk hI) cx cm (by rw [rn_eq hn hm T (bk b) ro hi, ed, (hI.2.2.1.1 i hi).2.2.1]; exact tt_eq hn hm h0 (bd_le (bd_mul (rn_bd hn hm (RI_bi hI hb) hi) (bi_bd (al_bi hn (hI.2.2.1.1 i hi).2.2.2 (fun j hj => (hI.2.2.1.1 j hj).2.2.2))) (by decide)) (by decide)))
theorem s_share (a c d : Int32) {X M : mW} (hI : IX X M) : STl (KX2_share l D ca ad) (KX3_share l D ca ae) [.int a, .int c, .int d] X M := by
  obtain ⟨n, vs, be, de, sz, ro, co, mi, T, B, bk, df, wo, un, h, bo, ta, tr, r2, ot, Bm, rfl, rfl, hI⟩ := hI
  have hn := hI.1
  have hvs := hI.2.1
  by_cases q_a : 0 ≤ a ∧ a < 4
  rotate_left
  · exact st_l (ix_mk hI) (x_share_U1 q_a) (m_share_U1 q_a) rfl
  obtain ⟨b, hb, rfl⟩ := arg_lt (n := 4) (by omega) q_a
  by_cases q_c : 0 ≤ c ∧ c < 3
  rotate_left
  · exact st_l (ix_mk hI) (x_share_U2 hb q_c) (m_share_U2 hb q_c) rfl
  obtain ⟨k, hk, rfl⟩ := arg_lt (n := 3) (by omega) q_c
  by_cases q_d : 0 ≤ d ∧ d < Int32.ofNat n
  rotate_left
  · exact st_l (ix_mk hI) (x_share_U3 hb hk q_d) (m_share_U3 hb hk hn q_d) rfl
  obtain ⟨i, hi, rfl⟩ := arg_lt (by omega) q_d
  have hm := MX_now hn hI.2.2.1
  have ed := de_eq hn hm T
  by_cases h0 : dtM (TnM n Bm 4 0) = 0
  · obtain ⟨be2, de2, sz2, ro2, co2, mi2, T2, cx⟩ := x_share_B (l := l) (D := D) (ca := ca) (ad := ad) (n := n) (vs := vs) (be := be) (de := de) (sz := sz) (ro := ro) (co := co) (mi := mi) (T := T) (B := B) (hd := bk) (df := df) hi hn hb hk (by rw [ed]; exact h0)
    obtain ⟨wo3, un3, h3, bo3, ta3, tr3, ro3, ot3, cm⟩ := m_share_B (l := l) (D := D) (ca := ca) (ad := ae) (n := n) (vs := vs) (wo := wo) (un := un) (h := h) (bo := bo) (ta := ta) (tr := tr) (ro := r2) (ot := ot) (Bm := Bm) (bk := bk) hi hn hb hk h0
    exact st_l (ix_mk hI) cx cm rfl
  · obtain ⟨be2, de2, sz2, ro2, co2, mi2, T2, cx⟩ := x_share (l := l) (D := D) (ca := ca) (ad := ad) (n := n) (vs := vs) (be := be) (de := de) (sz := sz) (ro := ro) (co := co) (mi := mi) (T := T) (B := B) (hd := bk) (df := df) hi hn hb hk (by rw [ed]; exact h0)
    obtain ⟨wo3, un3, h3, bo3, ta3, tr3, ro3, ot3, cm⟩ := m_share (l := l) (D := D) (ca := ca) (ad := ae) (n := n) (vs := vs) (wo := wo) (un := un) (h := h) (bo := bo) (ta := ta) (tr := tr) (ro := r2) (ot := ot) (Bm := Bm) (bk := bk) hi hn hb hk h0
    exact st_l (ix_mk hI) cx cm (by rw [rn_eq hn hm T (bk b) ro hi, ed, em_eq (hm i hi).1 hk (by decide)]; exact tt_eq hn hm h0 (bd_le (bd_mul (em_bd (hm i hi).1.2.2.2 hk (by decide)) (rn_bd hn hm (RI_bi hI hb) hi) (by decide)) (by decide)))
theorem s_total (a c d e : Int32) {X M : mW} (hI : IX X M) : STl (KX2_total l D ca ad) (KX3_total l D ca ae) [.int a, .int c, .int d, .int e] X M := by
  obtain ⟨n, vs, be, de, sz, ro, co, mi, T, B, bk, df, wo, un, h, bo, ta, tr, r2, ot, Bm, rfl, rfl, hI⟩ := hI
  have hn := hI.1
  have hvs := hI.2.1
  by_cases q_a : 0 ≤ a ∧ a < 4
  rotate_left
  · exact st_l (ix_mk hI) (x_total_U1 q_a) (m_total_U1 q_a) rfl
  obtain ⟨b, hb, rfl⟩ := arg_lt (n := 4) (by omega) q_a
  by_cases q_c : 0 ≤ c ∧ c < 3
  rotate_left
  · exact st_l (ix_mk hI) (x_total_U2 hb q_c) (m_total_U2 hb q_c) rfl
  obtain ⟨k, hk, rfl⟩ := arg_lt (n := 3) (by omega) q_c
  by_cases q_d : 0 ≤ d ∧ d ≤ 2
  rotate_left
  · exact st_l (ix_mk hI) (x_total_O1 hb hk q_d) (m_total_O1 hb hk q_d) rfl
  by_cases q_e : 0 ≤ e ∧ e ≤ 1
  rotate_left
  · exact st_l (ix_mk hI) (x_total_O2 hb hk q_d.1 q_d.2 q_e) (m_total_O2 hb hk q_d.1 q_d.2 q_e) rfl
  obtain ⟨s, hs, rfl⟩ := arg_le (n := 2) (by omega) q_d
  obtain ⟨p, hp, rfl⟩ := arg_le (n := 1) (by omega) q_e
  have hm := MX_now hn hI.2.2.1
  have ed := de_eq hn hm T
  have es := sn_eq hn hm T (bk b) ro hk hs
  have eg : gcX 1000 (absX (smX n (B 6) (roX n (lyT n (B 6) T) (bk b) ro) k s)) (absX (absX (detX n (lyT n (B 6) T)))) = gcX 1000 (absX (smG n (fun i s => emM (Bm (bkM 4 0 i) i) k s) (rdM n (TnM n Bm 4 0) (dtM (TnM n Bm 4 0)) (fun j => (bk b j).toInt64)) s)) (absX (dtM (TnM n Bm 4 0))) := by
    rw [es, ed, absX_abs (de_bd hn hm) (by decide)]
  rcases (show p = 0 ∨ p = 1 by omega) with e | e
  · subst e
    by_cases h0 : dtM (TnM n Bm 4 0) = 0
    · obtain ⟨be2, de2, sz2, ro2, co2, mi2, T2, cx⟩ := x_total_B_0 (l := l) (D := D) (ca := ca) (ad := ad) (n := n) (vs := vs) (be := be) (de := de) (sz := sz) (ro := ro) (co := co) (mi := mi) (T := T) (B := B) (hd := bk) (df := df) hn hb hk hs (by rw [ed]; exact h0)
      obtain ⟨wo3, un3, h3, bo3, ta3, tr3, ro3, ot3, cm⟩ := m_total_B_0 (l := l) (D := D) (ca := ca) (ad := ae) (n := n) (vs := vs) (wo := wo) (un := un) (h := h) (bo := bo) (ta := ta) (tr := tr) (ro := r2) (ot := ot) (Bm := Bm) (bk := bk) hn hb hk hs h0
      exact st_l (ix_mk hI) cx cm rfl
    · obtain ⟨be2, de2, sz2, ro2, co2, mi2, T2, cx⟩ := x_total_0 (l := l) (D := D) (ca := ca) (ad := ad) (n := n) (vs := vs) (be := be) (de := de) (sz := sz) (ro := ro) (co := co) (mi := mi) (T := T) (B := B) (hd := bk) (df := df) hn hb hk hs (by rw [ed]; exact h0) (by rw [eg]; exact to_ne hn hm h0 (RI_bi hI hb) hk hs)
      obtain ⟨wo3, un3, h3, bo3, ta3, tr3, ro3, ot3, cm⟩ := m_total_0 (l := l) (D := D) (ca := ca) (ad := ae) (n := n) (vs := vs) (wo := wo) (un := un) (h := h) (bo := bo) (ta := ta) (tr := tr) (ro := r2) (ot := ot) (Bm := Bm) (bk := bk) hn hb hk hs h0 1000 (to_ge hn hm (RI_bi hI hb) hk hs) (to_ne hn hm h0 (RI_bi hI hb) hk hs)
      exact st_l (ix_mk hI) cx cm (by rw [eg, es])
  · subst e
    by_cases h0 : dtM (TnM n Bm 4 0) = 0
    · obtain ⟨be2, de2, sz2, ro2, co2, mi2, T2, cx⟩ := x_total_B_1 (l := l) (D := D) (ca := ca) (ad := ad) (n := n) (vs := vs) (be := be) (de := de) (sz := sz) (ro := ro) (co := co) (mi := mi) (T := T) (B := B) (hd := bk) (df := df) hn hb hk hs (by rw [ed]; exact h0)
      obtain ⟨wo3, un3, h3, bo3, ta3, tr3, ro3, ot3, cm⟩ := m_total_B_1 (l := l) (D := D) (ca := ca) (ad := ae) (n := n) (vs := vs) (wo := wo) (un := un) (h := h) (bo := bo) (ta := ta) (tr := tr) (ro := r2) (ot := ot) (Bm := Bm) (bk := bk) hn hb hk hs h0
      exact st_l (ix_mk hI) cx cm rfl
    · obtain ⟨be2, de2, sz2, ro2, co2, mi2, T2, cx⟩ := x_total_1 (l := l) (D := D) (ca := ca) (ad := ad) (n := n) (vs := vs) (be := be) (de := de) (sz := sz) (ro := ro) (co := co) (mi := mi) (T := T) (B := B) (hd := bk) (df := df) hn hb hk hs (by rw [ed]; exact h0) (by rw [eg]; exact to_ne hn hm h0 (RI_bi hI hb) hk hs)
      obtain ⟨wo3, un3, h3, bo3, ta3, tr3, ro3, ot3, cm⟩ := m_total_1 (l := l) (D := D) (ca := ca) (ad := ae) (n := n) (vs := vs) (wo := wo) (un := un) (h := h) (bo := bo) (ta := ta) (tr := tr) (ro := r2) (ot := ot) (Bm := Bm) (bk := bk) hn hb hk hs h0 1000 (to_ge hn hm (RI_bi hI hb) hk hs) (to_ne hn hm h0 (RI_bi hI hb) hk hs)
      exact st_l (ix_mk hI) cx cm (by rw [eg, ed])
theorem s_sure (a c d : Int32) {X M : mW} (hI : IX X M) : STi (KX2_sure l D ca ad) (KX3_sure l D ca ae) [.int a, .int c, .int d] X M := by
  obtain ⟨n, vs, be, de, sz, ro, co, mi, T, B, bk, df, wo, un, h, bo, ta, tr, r2, ot, Bm, rfl, rfl, hI⟩ := hI
  have hn := hI.1
  have hvs := hI.2.1
  by_cases q_a : 0 ≤ a ∧ a < 4
  rotate_left
  · exact st_i (ix_mk hI) (x_sure_U1 q_a) (m_sure_U1 q_a) rfl
  obtain ⟨a2, ha, rfl⟩ := arg_lt (n := 4) (by omega) q_a
  by_cases q_c : 0 ≤ c ∧ c < 4
  rotate_left
  · exact st_i (ix_mk hI) (x_sure_U2 ha q_c) (m_sure_U2 ha q_c) rfl
  obtain ⟨b, hb, rfl⟩ := arg_lt (n := 4) (by omega) q_c
  by_cases q_d : 0 ≤ d ∧ d < 3
  rotate_left
  · exact st_i (ix_mk hI) (x_sure_U3 ha hb q_d) (m_sure_U3 ha hb q_d) rfl
  obtain ⟨k, hk, rfl⟩ := arg_lt (n := 3) (by omega) q_d
  have hm := MX_now hn hI.2.2.1
  have ed := de_eq hn hm T
  by_cases h0 : dtM (TnM n Bm 4 0) = 0
  · obtain ⟨be2, de2, sz2, ro2, co2, mi2, T2, cx⟩ := x_sure_B (l := l) (D := D) (ca := ca) (ad := ad) (n := n) (vs := vs) (be := be) (de := de) (sz := sz) (ro := ro) (co := co) (mi := mi) (T := T) (B := B) (hd := bk) (df := df) ha hb hn hk (by rw [ed]; exact h0)
    obtain ⟨wo3, un3, h3, bo3, ta3, tr3, ro3, ot3, cm⟩ := m_sure_B (l := l) (D := D) (ca := ca) (ad := ae) (n := n) (vs := vs) (wo := wo) (un := un) (h := h) (bo := bo) (ta := ta) (tr := tr) (ro := r2) (ot := ot) (Bm := Bm) (bk := bk) hn ha hb hk h0
    exact st_i (ix_mk hI) cx cm rfl
  · obtain ⟨be2, de2, sz2, ro2, co2, mi2, T2, cx⟩ := x_sure (l := l) (D := D) (ca := ca) (ad := ad) (n := n) (vs := vs) (be := be) (de := de) (sz := sz) (ro := ro) (co := co) (mi := mi) (T := T) (B := B) (hd := bk) (df := df) ha hb hn hk (by rw [ed]; exact h0)
    obtain ⟨wo3, un3, h3, bo3, ta3, tr3, ro3, ot3, cm⟩ := m_sure (l := l) (D := D) (ca := ca) (ad := ae) (n := n) (vs := vs) (wo := wo) (un := un) (h := h) (bo := bo) (ta := ta) (tr := tr) (ro := r2) (ot := ot) (Bm := Bm) (bk := bk) hn ha hb hk h0
    exact st_i (ix_mk hI) cx cm (by rw [se_eq hn hm T (fun j hj => hI.2.2.2.2 a2 j ha hj) (fun j hj => hI.2.2.2.2 b j hb hj) ro hk])
theorem s_most (a c : Int32) {X M : mW} (hI : IX X M) : STi (KX2_most l D ca ad) (KX3_most l D ca ae) [.int a, .int c] X M := by
  obtain ⟨n, vs, be, de, sz, ro, co, mi, T, B, bk, df, wo, un, h, bo, ta, tr, r2, ot, Bm, rfl, rfl, hI⟩ := hI
  have hn := hI.1
  have hvs := hI.2.1
  by_cases q_a : 0 ≤ a ∧ a < 4
  rotate_left
  · exact st_i (ix_mk hI) (x_most_U1 q_a) (m_most_U1 q_a) rfl
  obtain ⟨b, hb, rfl⟩ := arg_lt (n := 4) (by omega) q_a
  by_cases q_c : 0 ≤ c ∧ c < 3
  rotate_left
  · exact st_i (ix_mk hI) (x_most_U2 hb q_c) (m_most_U2 hb q_c) rfl
  obtain ⟨k, hk, rfl⟩ := arg_lt (n := 3) (by omega) q_c
  have hm := MX_now hn hI.2.2.1
  have ed := de_eq hn hm T
  by_cases h0 : dtM (TnM n Bm 4 0) = 0
  · obtain ⟨be2, de2, sz2, ro2, co2, mi2, T2, cx⟩ := x_most_B (l := l) (D := D) (ca := ca) (ad := ad) (n := n) (vs := vs) (be := be) (de := de) (sz := sz) (ro := ro) (co := co) (mi := mi) (T := T) (B := B) (hd := bk) (df := df) hn hb hk (by rw [ed]; exact h0)
    obtain ⟨wo3, un3, h3, bo3, ta3, tr3, ro3, ot3, cm⟩ := m_most_B (l := l) (D := D) (ca := ca) (ad := ae) (n := n) (vs := vs) (wo := wo) (un := un) (h := h) (bo := bo) (ta := ta) (tr := tr) (ro := r2) (ot := ot) (Bm := Bm) (bk := bk) hn hb hk h0
    exact st_i (ix_mk hI) cx cm rfl
  · obtain ⟨be2, de2, sz2, ro2, co2, mi2, T2, cx⟩ := x_most (l := l) (D := D) (ca := ca) (ad := ad) (n := n) (vs := vs) (be := be) (de := de) (sz := sz) (ro := ro) (co := co) (mi := mi) (T := T) (B := B) (hd := bk) (df := df) hn hb hk (by rw [ed]; exact h0)
    obtain ⟨wo3, un3, h3, bo3, ta3, tr3, ro3, ot3, cm⟩ := m_most (l := l) (D := D) (ca := ca) (ad := ae) (n := n) (vs := vs) (wo := wo) (un := un) (h := h) (bo := bo) (ta := ta) (tr := tr) (ro := r2) (ot := ot) (Bm := Bm) (bk := bk) hn hb hk h0
    exact st_i (ix_mk hI) cx cm (mb_eq hn hm T (bk b) ro hk)
theorem s_turned (a : Int32) {X M : mW} (hI : IX X M) : STi (KX2_turned l D ca ad) (KX3_turned l D ca ae) [.int a] X M := by
  obtain ⟨n, vs, be, de, sz, ro, co, mi, T, B, bk, df, wo, un, h, bo, ta, tr, r2, ot, Bm, rfl, rfl, hI⟩ := hI
  have hn := hI.1
  have hvs := hI.2.1
  by_cases q_a : 0 ≤ a ∧ a < 4
  rotate_left
  · exact st_i (ix_mk hI) (x_turned_U q_a) (m_turned_U q_a) rfl
  obtain ⟨b, hb, rfl⟩ := arg_lt (n := 4) (by omega) q_a
  have hm := MX_now hn hI.2.2.1
  have ed := de_eq hn hm T
  by_cases h0 : dtM (TnM n Bm 4 0) = 0
  · obtain ⟨be2, de2, sz2, ro2, co2, mi2, T2, cx⟩ := x_turned_B (l := l) (D := D) (ca := ca) (ad := ad) (n := n) (vs := vs) (be := be) (de := de) (sz := sz) (ro := ro) (co := co) (mi := mi) (T := T) (B := B) (hd := bk) (df := df) hn hb (by rw [ed]; exact h0)
    obtain ⟨wo3, un3, h3, bo3, ta3, tr3, ro3, ot3, cm⟩ := m_turned_B (l := l) (D := D) (ca := ca) (ad := ae) (n := n) (vs := vs) (wo := wo) (un := un) (h := h) (bo := bo) (ta := ta) (tr := tr) (ro := r2) (ot := ot) (Bm := Bm) (bk := bk) hn hb h0
    exact st_i (ix_mk hI) cx cm rfl
  · obtain ⟨be2, de2, sz2, ro2, co2, mi2, T2, cx⟩ := x_turned (l := l) (D := D) (ca := ca) (ad := ad) (n := n) (vs := vs) (be := be) (de := de) (sz := sz) (ro := ro) (co := co) (mi := mi) (T := T) (B := B) (hd := bk) (df := df) hn hb (by rw [ed]; exact h0)
    obtain ⟨wo3, un3, h3, bo3, ta3, tr3, ro3, ot3, cm⟩ := m_turned (l := l) (D := D) (ca := ca) (ad := ae) (n := n) (vs := vs) (wo := wo) (un := un) (h := h) (bo := bo) (ta := ta) (tr := tr) (ro := r2) (ot := ot) (Bm := Bm) (bk := bk) hn hb h0
    exact st_i (ix_mk hI) cx cm (tu_eq hn hm T (bk b) ro)
theorem s_keep {X M : mW} (hI : IX X M) : STi (KX2_keep l D ca ad) (KX3_keep l D ca ae) [] X M := by
  obtain ⟨n, vs, be, de, sz, ro, co, mi, T, B, bk, df, wo, un, h, bo, ta, tr, r2, ot, Bm, rfl, rfl, hI⟩ := hI
  have hn := hI.1
  have hvs := hI.2.1
  by_cases hv : vs < 6
  · exact st_i (ix_mk (RI_keep hI hv)) (x_keep hv) (m_keep hv) rfl
  · have e : vs = 6 := by omega
    subst e
    exact st_i (ix_mk hI) x_keep_full m_keep_full rfl
theorem s_recall (a : Int32) {X M : mW} (hI : IX X M) : STi (KX2_recall l D ca ad) (KX3_recall l D ca ae) [.int a] X M := by
  obtain ⟨n, vs, be, de, sz, ro, co, mi, T, B, bk, df, wo, un, h, bo, ta, tr, r2, ot, Bm, rfl, rfl, hI⟩ := hI
  have hn := hI.1
  have hvs := hI.2.1
  by_cases q_a : 0 ≤ a ∧ a < Int32.ofNat vs
  rotate_left
  · exact st_i (ix_mk hI) (x_recall_U q_a) (m_recall_U hvs q_a) rfl
  obtain ⟨v, hv, rfl⟩ := arg_lt (by omega) q_a
  exact st_i (ix_mk (RI_rec hI hv)) (x_recall hv hvs) (m_recall hv hvs) rfl
end
