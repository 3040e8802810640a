/-! ONE BOOK (now, or mixed of now and a version) in class (rows Rw) and reference (books m, v): what both answer of it -/
def MX (n : Nat) (Rw : Nat → Nat → Int32) (Bm : Nat → Nat → Nat → Int32) (m v : Nat) : Prop :=
  ∀ i : Nat, i < n → RO n Rw (Bm (bkM m v i)) i ∧ ∀ j : Nat, j < n → RG n (Bm (bkM m v i) j)
theorem RO_of {n : Nat} {R R2 M : Nat → Nat → Int32} {i : Nat} (h : RO n R M i) (e : R2 i = R i) : RO n R2 M i := by
  unfold RO at h ⊢
  rw [e]
  exact h
theorem MX_now {n : Nat} {B Bm : Nat → Nat → Nat → Int32} (hn : n ≤ 4) (h : BR n (B 6) (Bm 6)) : MX n (B 6) Bm 4 0 := by
  intro i hi
  have e : bkM 4 0 i = 6 := if_pos (by omega)
  rw [e]
  exact ⟨h.1 i hi, fun j hj => (h.1 j hj).2.2.2⟩
theorem MX_mix {n : Nat} {B Bm : Nat → Nat → Nat → Int32} {Rw : Nat → Nat → Int32} {m v : Nat} (hn : n ≤ 4) (h : BR n (B 6) (Bm 6)) (h2 : BR n (B v) (Bm v)) (hr : ∀ i : Nat, i < 4 → Rw i = B (bkM m v i) i) : MX n Rw Bm m v := by
  intro i hi
  have e := hr i (by omega)
  by_cases q : i < m
  · have eb : bkM m v i = 6 := if_pos q
    rw [eb] at e ⊢
    exact ⟨RO_of (h.1 i hi) e, fun j hj => (h.1 j hj).2.2.2⟩
  · have eb : bkM m v i = v := if_neg q
    rw [eb] at e ⊢
    exact ⟨RO_of (h2.1 i hi) e, fun j hj => (h2.1 j hj).2.2.2⟩
theorem cp_o {B : Nat → Nat → Nat → Int32} {t f a b k : Nat} (h : k ≠ t) : cpX B t f a b k = B k := up_ne h
theorem mix_o {B : Nat → Nat → Nat → Int32} {m v k : Nat} (h : k ≠ 7) : cpX (cpX B 7 6 0 m) 7 v m 4 k = B k := by rw [cp_o h, cp_o h]
theorem cp_at {B : Nat → Nat → Nat → Int32} {t f a b i : Nat} : cpX B t f a b t i = if a ≤ i then (if i < b then B f i else B t i) else B t i := congrFun (up_at B t (fun i => if a ≤ i then (if i < b then B f i else B t i) else B t i)) i
theorem mix_row {B : Nat → Nat → Nat → Int32} {m v : Nat} (hv : v ≠ 7) {i : Nat} (hi : i < 4) : cpX (cpX B 7 6 0 m) 7 v m 4 7 i = B (bkM m v i) i := by
  rw [cp_at, cp_at, cp_o hv]
  unfold bkM
  by_cases q : i < m
  · rw [if_neg (by omega), if_pos (Nat.zero_le i), if_pos q, if_pos q]
  · rw [if_pos (by omega), if_pos hi, if_neg q]
section
variable {n : Nat} {Rw : Nat → Nat → Int32} {Bm : Nat → Nat → Nat → Int32} {m v : Nat}
theorem tn_eq (hn : n ≤ 4) (h : MX n Rw Bm m v) : TnM n Bm m v = taM n (fun j i => (cellX (Rw i) i j).toInt64) := by
  unfold TnM
  refine taM_congr (fun j i hj hi => ?_)
  show (ceM n (Bm (bkM m v i)) i j).toInt64 = (cellX (Rw i) i j).toInt64
  rw [RO_cell (h i hi).1 (by omega)]
theorem cc_bd (hn : n ≤ 4) (h : MX n Rw Bm m v) : ∀ j i : Nat, j < n → i < n → bd ((cellX (Rw i) i j).toInt64) 1080 := by
  intro j i hj hi
  rw [RO_cell (h i hi).1 (by omega)]
  exact bi_bd (ce_bi hn (h i hi).1.2.2.2 (h i hi).2 (by omega))
theorem de_eq (hn : n ≤ 4) (h : MX n Rw Bm m v) (T : Nat → Nat → Int64) : detX n (lyT n Rw T) = dtM (TnM n Bm m v) := by
  rw [tn_eq hn h]
  exact dtc hn _ T
theorem de_bd (hn : n ≤ 4) (h : MX n Rw Bm m v) : bd (dtM (TnM n Bm m v)) 32651735040000 := by
  rw [tn_eq hn h]
  exact dw_bd (cc_bd hn h)
theorem rn_eq (hn : n ≤ 4) (h : MX n Rw Bm m v) (T : Nat → Nat → Int64) (hh : Nat → Int32) (ro : Nat → Int64) {i : Nat} (hi : i < n) : roX n (lyT n Rw T) hh ro i = rdM n (TnM n Bm m v) (dtM (TnM n Bm m v)) (fun j => (hh j).toInt64) i := by
  rw [tn_eq hn h]
  exact ro_eq hn _ T hh ro hi
theorem rn_bd (hn : n ≤ 4) (h : MX n Rw Bm m v) {hh : Nat → Int32} (hb : ∀ j : Nat, j < 4 → bi (hh j) 20) {i : Nat} (hi : i < n) : bd (rdM n (TnM n Bm m v) (dtM (TnM n Bm m v)) (fun j => (hh j).toInt64) i) 604661760000 := by
  rw [tn_eq hn h]
  exact rd_bd (by omega) (ta_bd (cc_bd hn h)) (fun j hj => bi_bd (hb j hj))
theorem sn_eq (hn : n ≤ 4) (h : MX n Rw Bm m v) (T : Nat → Nat → Int64) (hh : Nat → Int32) (ro : Nat → Int64) {k s : Nat} (hk : k < 3) (hs : s < 3) : smX n Rw (roX n (lyT n Rw T) hh ro) k s = smG n (fun i s => emM (Bm (bkM m v i) i) k s) (rdM n (TnM n Bm m v) (dtM (TnM n Bm m v)) (fun j => (hh j).toInt64)) s :=
  sm_eq hs (fun i hi q hq => em_eq (h i hi).1 hk hq) (fun i hi => rn_eq hn h T hh ro hi)
theorem sn_bd (hn : n ≤ 4) (h : MX n Rw Bm m v) {hh : Nat → Int32} (hb : ∀ j : Nat, j < 4 → bi (hh j) 20) {k s : Nat} (hk : k < 3) (hs : s < 3) : bd (smG n (fun i s => emM (Bm (bkM m v i) i) k s) (rdM n (TnM n Bm m v) (dtM (TnM n Bm m v)) (fun j => (hh j).toInt64)) s) 7255941120000000 :=
  bd_le (smG_bd hs hn (fun i hi q hq => em_bd (h i hi).1.2.2.2 hk hq) (fun i hi => rn_bd hn h hb hi)) (by omega)
theorem un_pos (hn : n ≤ 4) (h : MX n Rw Bm m v) (h0 : ¬ dtM (TnM n Bm m v) = 0) : 0 < (absX (dtM (TnM n Bm m v))).toInt ∧ (absX (dtM (TnM n Bm m v))).toInt < 9000000000000000 := by
  have b := de_bd hn h
  refine ⟨absX_pos b (by decide) h0, ?_⟩
  have b2 := bd_rng (bd_abs b (by decide))
  omega
theorem tt_eq (hn : n ≤ 4) (h : MX n Rw Bm m v) (h0 : ¬ dtM (TnM n Bm m v) = 0) {a : Int64} (ha : bd a 8999999999999999) : thX a (absX (dtM (TnM n Bm m v))) = thM a (absX (dtM (TnM n Bm m v))) :=
  th_eq ha (by decide) (un_pos hn h h0).1 (un_pos hn h h0).2
/-- the mixed book's total -/
theorem mt_eq (hn : n ≤ 4) (h : MX n Rw Bm m v) (h0 : ¬ dtM (TnM n Bm m v) = 0) (T : Nat → Nat → Int64) {hh : Nat → Int32} (hb : ∀ j : Nat, j < 4 → bi (hh j) 20) (ro : Nat → Int64) {k : Nat} (hk : k < 3) : thX (smX n Rw (roX n (lyT n Rw T) hh ro) k 1) (absX (detX n (lyT n Rw T))) = thM (smG n (fun i s => emM (Bm (bkM m v i) i) k s) (rdM n (TnM n Bm m v) (dtM (TnM n Bm m v)) (fun j => (hh j).toInt64)) 1) (absX (dtM (TnM n Bm m v))) := by
  rw [sn_eq hn h T hh ro hk (by decide), de_eq hn h T]
  exact tt_eq hn h h0 (bd_le (sn_bd hn h hb hk (by decide)) (by decide))
theorem mt_ne (hn : n ≤ 4) (h : MX n Rw Bm m v) (h0 : ¬ dtM (TnM n Bm m v) = 0) (T : Nat → Nat → Int64) {hh : Nat → Int32} (hb : ∀ j : Nat, j < 4 → bi (hh j) 20) (ro : Nat → Int64) {k : Nat} (hk : k < 3) : ¬ thX (smX n Rw (roX n (lyT n Rw T) hh ro) k 1) (absX (detX n (lyT n Rw T))) = -9000000000000000004 := by
  rw [sn_eq hn h T hh ro hk (by decide), de_eq hn h T]
  have b := thX_bd (sn_bd (s := 1) hn h hb hk (by decide)) (by decide) (un_pos hn h h0).1
  intro z
  rw [z] at b
  exact absurd b (by unfold bd; decide)
theorem mb_eq (hn : n ≤ 4) (h : MX n Rw Bm m v) (T : Nat → Nat → Int64) (hh : Nat → Int32) (ro : Nat → Int64) {k : Nat} (hk : k < 3) : (mbX n (fun i => emX (Rw i) k 1 * (roX n (lyT n Rw T) hh ro) i)).1 = (mbX n (fun i => emM (Bm (bkM m v i) i) k 1 * (rdM n (TnM n Bm m v) (dtM (TnM n Bm m v)) (fun j => (hh j).toInt64)) i)).1 := by
  rw [mb_congr (fun i hi => ?_)]
  show emX (Rw i) k 1 * _ = emM _ k 1 * _
  rw [em_eq (h i hi).1 hk (by decide), rn_eq hn h T hh ro hi]
theorem tu_eq (hn : n ≤ 4) (h : MX n Rw Bm m v) (T : Nat → Nat → Int64) (hh : Nat → Int32) (ro : Nat → Int64) : tnF n 0 (roX n (lyT n Rw T) hh ro) = tnF n 0 (rdM n (TnM n Bm m v) (dtM (TnM n Bm m v)) (fun j => (hh j).toInt64)) :=
  tn_congr (fun k hk => rn_eq hn h T hh ro (by omega))
theorem se_eq (hn : n ≤ 4) (h : MX n Rw Bm m v) (T : Nat → Nat → Int64) {ha hb : Nat → Int32} (ra : ∀ j : Nat, j < 4 → 0 ≤ (ha j).toInt ∧ (ha j).toInt ≤ 20) (rb : ∀ j : Nat, j < 4 → 0 ≤ (hb j).toInt ∧ (hb j).toInt ≤ 20) (ro : Nat → Int64) {k : Nat} (hk : k < 3) : smX n Rw (roX n (lyT n Rw T) (fun j => ha j - hb j) ro) k 2 = suM n (fun i s => emM (Bm (bkM m v i) i) k s) (fun i => (rdM n (TnM n Bm m v) (dtM (TnM n Bm m v)) (fun j => (ha j).toInt64)) i - (rdM n (TnM n Bm m v) (dtM (TnM n Bm m v)) (fun j => (hb j).toInt64)) i) := by
  refine su_eq (fun i hi q hq => em_eq (h i hi).1 hk hq) (fun i hi => ?_)
  rw [rn_eq hn h T _ ro hi, ← rd_lin (by omega)]
  have e : ∀ k : Nat, tsM n (TnM n Bm m v) i (fun j => (ha j - hb j).toInt64) k = tsM n (TnM n Bm m v) i (fun j => (ha j).toInt64 - (hb j).toInt64) k := fun k => by
    unfold tsM
    split
    · split
      · exact dif64 (ra _ (by omega)) (rb _ (by omega))
      · rfl
    · rfl
  unfold rdM
  rw [funext e]
theorem to_ge (hn : n ≤ 4) (h : MX n Rw Bm m v) {hh : Nat → Int32} (hb : ∀ j : Nat, j < 4 → bi (hh j) 20) {k s : Nat} (hk : k < 3) (hs : s < 3) : gcE 1000 (absX (smG n (fun i s => emM (Bm (bkM m v i) i) k s) (rdM n (TnM n Bm m v) (dtM (TnM n Bm m v)) (fun j => (hh j).toInt64)) s)) (absX (dtM (TnM n Bm m v))) := by
  refine gcE_1000 _ _ ?_ ?_
  · rw [absX_int (sn_bd hn h hb hk hs) (by decide)]; omega
  · rw [absX_int (de_bd hn h) (by decide)]; omega
theorem abs_ne {x : Int64} {a : Nat} (hx : bd x a) (ha : a < 9223372036854775808) (h0 : ¬ x = 0) : ¬ absX x = 0 := fun z => by
  have p := absX_pos hx ha h0
  rw [z] at p
  exact absurd p (by decide)
theorem to_ne (hn : n ≤ 4) (h : MX n Rw Bm m v) (h0 : ¬ dtM (TnM n Bm m v) = 0) {hh : Nat → Int32} (hb : ∀ j : Nat, j < 4 → bi (hh j) 20) {k s : Nat} (hk : k < 3) (hs : s < 3) : ¬ gcX 1000 (absX (smG n (fun i s => emM (Bm (bkM m v i) i) k s) (rdM n (TnM n Bm m v) (dtM (TnM n Bm m v)) (fun j => (hh j).toInt64)) s)) (absX (dtM (TnM n Bm m v))) = 0 :=
  gcX_ne 1000 _ _ (to_ge hn h hb hk hs) (Or.inr (abs_ne (de_bd hn h) (by decide) h0))
end
