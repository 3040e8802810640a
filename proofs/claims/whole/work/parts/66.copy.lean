/-! copy of the reference, from and to any: arrays as functions of their places -/
def fI (N : Nat) (g : Nat → Int32) : List Int32 := (List.range N).map g
theorem fI_len (N : Nat) (g : Nat → Int32) : (fI N g).length = N := by unfold fI; rw [List.length_map, List.length_range]
theorem fI_get {N : Nat} {g : Nat → Int32} {i : Nat} (h : i < N) : (fI N g)[i]? = some (g i) := by
  unfold fI
  rw [List.getElem?_map, List.getElem?_range h]
  rfl
theorem fI_set (N : Nat) (g : Nat → Int32) (i : Nat) (v : Int32) : (fI N g).set i v = fI N (up g i v) := by
  apply List.ext_getElem?
  intro k
  by_cases hk : k < N
  · rw [fI_get hk]
    by_cases e : i = k
    · subst e
      rw [List.getElem?_set_self (by rw [fI_len]; exact hk), up_at]
    · rw [List.getElem?_set_ne e, fI_get hk, up_ne (fun z => e z.symm)]
  · rw [List.getElem?_eq_none (by rw [List.length_set, fI_len]; omega), List.getElem?_eq_none (by rw [fI_len]; omega)]
theorem mIaldF {G : mS → Prop} {tb : List (Nat × mR)} (hT : mTb G tb) {pc m : Nat} (hm : (pc, r_iald m) ∈ tb) {lv : mL} {st : List Value} {w : mW} {a N : Nat} {g : Nat → Int32} {i : Nat} {x : Int32} (hw : w[a]? = some (.inr (0, .inl (fI N g)))) (hx : x = Int32.ofNat i) (hi : i < N) (hN : N < 1000) (k : G (m, lv, .int (g i) :: st, w)) : G (pc, lv, .int x :: .ref a :: st, w) := by
  refine hT.1 _ hm lv _ w (m, lv, .int (g i) :: st, w) ?_ k
  have e1 : ¬ Int32.ofNat i < 0 := nI_pos (by omega)
  have e2 : (Int32.ofNat i).toNatClampNeg = i := nI_clamp (by omega)
  subst hx
  simp only [r_iald, hw, if_neg e1, e2, fI_get hi]
theorem mIastF {G : mS → Prop} {tb : List (Nat × mR)} (hT : mTb G tb) {pc m : Nat} (hm : (pc, r_iast m) ∈ tb) {lv : mL} {st : List Value} {w : mW} {a N : Nat} {g : Nat → Int32} {i : Nat} {x v : Int32} (hw : w[a]? = some (.inr (0, .inl (fI N g)))) (hx : x = Int32.ofNat i) (hi : i < N) (hN : N < 1000) (k : G (m, lv, st, w.set a (.inr (0, .inl (fI N (up g i v)))))) : G (pc, lv, .int v :: .int x :: .ref a :: st, w) := by
  refine hT.1 _ hm lv _ w (m, lv, st, w.set a (.inr (0, .inl (fI N (up g i v))))) ?_ k
  have e1 : ¬ Int32.ofNat i < 0 := nI_pos (by omega)
  have e2 : (Int32.ofNat i).toNatClampNeg = i := nI_clamp (by omega)
  have e3 : Nat.blt i N = true := Nat.ble_eq.mpr hi
  subst hx
  simp only [r_iast, hw, if_neg e1, e2, fI_len, e3, cond_true, fI_set]
theorem ix_e (c a b : Nat) : Int32.ofNat c * Int32.ofNat a + Int32.ofNat b = Int32.ofNat (c * a + b) := by rw [Int32.ofNat_add, Int32.ofNat_mul]
def cpf (sz f t k : Nat) (g : Nat → Int32) : Nat → Int32 := fun i => if sz * t ≤ i then (if i < sz * t + k then g (i - sz * t + sz * f) else g i) else g i
theorem cpf_0_4 (f t : Nat) (g : Nat → Int32) : cpf 4 f t 0 g = g := by
  funext i
  unfold cpf
  split
  · rw [if_neg (by omega)]
  · rfl
theorem cpf_s4 {f t k : Nat} (g : Nat → Int32) (h : f ≠ t) (hk : k < 4) : up (cpf 4 f t k g) (4 * t + k) (cpf 4 f t k g (4 * f + k)) = cpf 4 f t (k + 1) g := by
  funext i
  by_cases e : i = 4 * t + k
  · subst e
    rw [up_at]
    have e1 : cpf 4 f t k g (4 * f + k) = g (4 * f + k) := by
      unfold cpf
      by_cases q : 4 * t ≤ 4 * f + k
      · rw [if_pos q, if_neg (by omega)]
      · rw [if_neg q]
    rw [e1]
    unfold cpf
    rw [if_pos (by omega), if_pos (by omega)]
    congr 1
    omega
  · rw [up_ne e]
    unfold cpf
    by_cases q : 4 * t ≤ i
    · rw [if_pos q, if_pos q]
      by_cases q2 : i < 4 * t + k
      · rw [if_pos q2, if_pos (by omega)]
      · rw [if_neg q2, if_neg (by omega)]
    · rw [if_neg q, if_neg q]
theorem cpf_0_16 (f t : Nat) (g : Nat → Int32) : cpf 16 f t 0 g = g := by
  funext i
  unfold cpf
  split
  · rw [if_neg (by omega)]
  · rfl
theorem cpf_s16 {f t k : Nat} (g : Nat → Int32) (h : f ≠ t) (hk : k < 16) : up (cpf 16 f t k g) (16 * t + k) (cpf 16 f t k g (16 * f + k)) = cpf 16 f t (k + 1) g := by
  funext i
  by_cases e : i = 16 * t + k
  · subst e
    rw [up_at]
    have e1 : cpf 16 f t k g (16 * f + k) = g (16 * f + k) := by
      unfold cpf
      by_cases q : 16 * t ≤ 16 * f + k
      · rw [if_pos q, if_neg (by omega)]
      · rw [if_neg q]
    rw [e1]
    unfold cpf
    rw [if_pos (by omega), if_pos (by omega)]
    congr 1
    omega
  · rw [up_ne e]
    unfold cpf
    by_cases q : 16 * t ≤ i
    · rw [if_pos q, if_pos q]
      by_cases q2 : i < 16 * t + k
      · rw [if_pos q2, if_pos (by omega)]
      · rw [if_neg q2, if_neg (by omega)]
    · rw [if_neg q, if_neg q]
theorem cpf_0_36 (f t : Nat) (g : Nat → Int32) : cpf 36 f t 0 g = g := by
  funext i
  unfold cpf
  split
  · rw [if_neg (by omega)]
  · rfl
theorem cpf_s36 {f t k : Nat} (g : Nat → Int32) (h : f ≠ t) (hk : k < 36) : up (cpf 36 f t k g) (36 * t + k) (cpf 36 f t k g (36 * f + k)) = cpf 36 f t (k + 1) g := by
  funext i
  by_cases e : i = 36 * t + k
  · subst e
    rw [up_at]
    have e1 : cpf 36 f t k g (36 * f + k) = g (36 * f + k) := by
      unfold cpf
      by_cases q : 36 * t ≤ 36 * f + k
      · rw [if_pos q, if_neg (by omega)]
      · rw [if_neg q]
    rw [e1]
    unfold cpf
    rw [if_pos (by omega), if_pos (by omega)]
    congr 1
    omega
  · rw [up_ne e]
    unfold cpf
    by_cases q : 36 * t ≤ i
    · rw [if_pos q, if_pos q]
      by_cases q2 : i < 36 * t + k
      · rw [if_pos q2, if_pos (by omega)]
      · rw [if_neg q2, if_neg (by omega)]
    · rw [if_neg q, if_neg q]
def gO (p : Nat) (Bm : Nat → Nat → Nat → Int32) : Nat → Int32 := fun i => Bm (i / 4) (i % 4) p
def gN (p : Nat) (Bm : Nat → Nat → Nat → Int32) : Nat → Int32 := fun i => Bm (i / 16) (i % 16 / 4) (p + i % 4)
def gE (Bm : Nat → Nat → Nat → Int32) : Nat → Int32 := fun i => Bm (i / 36) (i % 36 / 9) (12 + i % 9)
theorem fI_congr {N : Nat} {g h : Nat → Int32} (e : ∀ i : Nat, i < N → g i = h i) : fI N g = fI N h := List.map_congr_left (fun i hi => e i (List.mem_range.mp hi))
theorem cp_gO (p : Nat) {f t : Nat} (Bm : Nat → Nat → Nat → Int32) (hf : f < 7) (ht : t < 7) : fI 28 (cpf 4 f t 4 (gO p Bm)) = fI 28 (gO p (up Bm t (Bm f))) := by
  refine fI_congr (fun i hi => ?_)
  unfold cpf
  by_cases q : 4 * t ≤ i
  · rw [if_pos q]
    by_cases q2 : i < 4 * t + 4
    · rw [if_pos q2]
      show Bm ((i - 4 * t + 4 * f) / 4) ((i - 4 * t + 4 * f) % 4) p = up Bm t (Bm f) ((i) / 4) ((i) % 4) p
      rw [show (i - 4 * t + 4 * f) / 4 = f by omega, show (i - 4 * t + 4 * f) % 4 = i % 4 by omega, show i / 4 = t by omega, up_at]
    · rw [if_neg q2]
      show Bm ((i) / 4) ((i) % 4) p = up Bm t (Bm f) ((i) / 4) ((i) % 4) p
      rw [up_ne (by omega)]
  · rw [if_neg q]
    show Bm ((i) / 4) ((i) % 4) p = up Bm t (Bm f) ((i) / 4) ((i) % 4) p
    rw [up_ne (by omega)]
theorem cp_gN (p : Nat) {f t : Nat} (Bm : Nat → Nat → Nat → Int32) (hf : f < 7) (ht : t < 7) : fI 112 (cpf 16 f t 16 (gN p Bm)) = fI 112 (gN p (up Bm t (Bm f))) := by
  refine fI_congr (fun i hi => ?_)
  unfold cpf
  by_cases q : 16 * t ≤ i
  · rw [if_pos q]
    by_cases q2 : i < 16 * t + 16
    · rw [if_pos q2]
      show Bm ((i - 16 * t + 16 * f) / 16) ((i - 16 * t + 16 * f) % 16 / 4) (p + (i - 16 * t + 16 * f) % 4) = up Bm t (Bm f) ((i) / 16) ((i) % 16 / 4) (p + (i) % 4)
      rw [show (i - 16 * t + 16 * f) / 16 = f by omega, show (i - 16 * t + 16 * f) % 16 / 4 = i % 16 / 4 by omega, show (i - 16 * t + 16 * f) % 4 = i % 4 by omega, show i / 16 = t by omega, up_at]
    · rw [if_neg q2]
      show Bm ((i) / 16) ((i) % 16 / 4) (p + (i) % 4) = up Bm t (Bm f) ((i) / 16) ((i) % 16 / 4) (p + (i) % 4)
      rw [up_ne (by omega)]
  · rw [if_neg q]
    show Bm ((i) / 16) ((i) % 16 / 4) (p + (i) % 4) = up Bm t (Bm f) ((i) / 16) ((i) % 16 / 4) (p + (i) % 4)
    rw [up_ne (by omega)]
theorem cp_gE {f t : Nat} (Bm : Nat → Nat → Nat → Int32) (hf : f < 7) (ht : t < 7) : fI 252 (cpf 36 f t 36 (gE Bm)) = fI 252 (gE (up Bm t (Bm f))) := by
  refine fI_congr (fun i hi => ?_)
  unfold cpf
  by_cases q : 36 * t ≤ i
  · rw [if_pos q]
    by_cases q2 : i < 36 * t + 36
    · rw [if_pos q2]
      show Bm ((i - 36 * t + 36 * f) / 36) ((i - 36 * t + 36 * f) % 36 / 9) (12 + (i - 36 * t + 36 * f) % 9) = up Bm t (Bm f) ((i) / 36) ((i) % 36 / 9) (12 + (i) % 9)
      rw [show (i - 36 * t + 36 * f) / 36 = f by omega, show (i - 36 * t + 36 * f) % 36 / 9 = i % 36 / 9 by omega, show (i - 36 * t + 36 * f) % 9 = i % 9 by omega, show i / 36 = t by omega, up_at]
    · rw [if_neg q2]
      show Bm ((i) / 36) ((i) % 36 / 9) (12 + (i) % 9) = up Bm t (Bm f) ((i) / 36) ((i) % 36 / 9) (12 + (i) % 9)
      rw [up_ne (by omega)]
  · rw [if_neg q]
    show Bm ((i) / 36) ((i) % 36 / 9) (12 + (i) % 9) = up Bm t (Bm f) ((i) / 36) ((i) % 36 / 9) (12 + (i) % 9)
    rw [up_ne (by omega)]
def MWl (n vs : Int32) (wo un h : Int64) (bo : Nat → Int32) (ta tr ro ot : Nat → Int64) (O R We P N Gi E : List Int32) (bk : Nat → Nat → Int32) : mW :=
  [.inl (3, [.int n, .int vs, .ref 1, .ref 2, .ref 3, .ref 4, .ref 5, .ref 6, .ref 7, .ref 8, .ref 9, .ref 10, .ref 11, .long wo, .ref 12, .long un, .ref 13, .long h]),
   .inr (0, .inl O),
   .inr (0, .inl R),
   .inr (0, .inl We),
   .inr (0, .inl P),
   .inr (0, .inl N),
   .inr (0, .inl Gi),
   .inr (0, .inl E),
   .inr (0, .inl (mBk bk)),
   eI4 bo,
   eL16 ta,
   eL16 tr,
   eL4 ro,
   eL4 ot]
def MWf (n vs : Int32) (wo un h : Int64) (bo : Nat → Int32) (ta tr ro ot : Nat → Int64) (g1 g2 g3 g4 g5 g6 g7 : Nat → Int32) (bk : Nat → Nat → Int32) : mW :=
  MWl n vs wo un h bo ta tr ro ot (fI 28 g1) (fI 28 g2) (fI 28 g3) (fI 28 g4) (fI 112 g5) (fI 112 g6) (fI 252 g7) bk
set_option maxRecDepth 20000 in
theorem MWf_eq {n vs : Int32} {wo un h : Int64} {bo : Nat → Int32} {ta tr ro ot : Nat → Int64} {Bm : Nat → Nat → Nat → Int32} {bk : Nat → Nat → Int32} : MW n vs wo un h bo ta tr ro ot Bm bk = MWf n vs wo un h bo ta tr ro ot (gO 0 Bm) (gO 1 Bm) (gO 21 Bm) (gO 22 Bm) (gN 4 Bm) (gN 8 Bm) (gE Bm) bk := by
  have e1 : mO Bm = fI 28 (gO 0 Bm) := rfl
  have e2 : mRu Bm = fI 28 (gO 1 Bm) := rfl
  have e3 : mWe Bm = fI 28 (gO 21 Bm) := rfl
  have e4 : mPr Bm = fI 28 (gO 22 Bm) := rfl
  have e5 : mNe Bm = fI 112 (gN 4 Bm) := rfl
  have e6 : mGi Bm = fI 112 (gN 8 Bm) := rfl
  have e7 : mEm Bm = fI 252 (gE Bm) := rfl
  unfold MW MWf MWl
  rw [e1, e2, e3, e4, e5, e6, e7]
section
variable {l : Launch} {D : va_G} {ca : Nat → ClassId} {ad : Nat → Nat}

theorem cp_l1 {G : mS → Prop} (hT : mTb G tbX3_copy) {n vs : Int32} {wo un h : Int64} {bo : Nat → Int32} {ta tr ro ot : Nat → Int64} {g1 g2 g3 g4 g5 g6 g7 : Nat → Int32} {bk : Nat → Nat → Int32} {f t : Nat} (hf : f < 7) (ht : t < 7) (hft : f ≠ t) (hE : G (93, [(3, .int (Int32.ofNat 4)), (0, .ref 0), (1, .int (Int32.ofNat f)), (2, .int (Int32.ofNat t))], [], (MWf n vs wo un h bo ta tr ro ot (cpf 4 f t 4 g1) (cpf 4 f t 4 g2) (cpf 4 f t 4 g3) (cpf 4 f t 4 g4) g5 g6 g7 bk))) : ∀ (j k : Nat), k + j = 4 → G (2, [(3, .int (Int32.ofNat k)), (0, .ref 0), (1, .int (Int32.ofNat f)), (2, .int (Int32.ofNat t))], [], (MWf n vs wo un h bo ta tr ro ot (cpf 4 f t k g1) (cpf 4 f t k g2) (cpf 4 f t k g3) (cpf 4 f t k g4) g5 g6 g7 bk)) := by
  intro j
  induction j with
  | zero =>
    intro k hk
    have e : k = 4 := by omega
    subst e
    refine mB hT 3 rfl ?_
    refine mIf (fun _ => hE) (fun z => absurd (nI_le (Nat.le_refl 4) (by decide)) z)
  | succ j ih =>
    intro k hk
    refine mB hT 3 rfl ?_
    refine mIf (fun z => absurd z (nI_ge (a := k) (b := 4) (by omega) (by decide))) (fun _ => ?_)
    refine mB hT 14 rfl ?_
    refine mIaldF hT (List.mem_of_getElem? (i := 19) rfl) (a := 1) rfl (ix_e 4 f k) (by omega) (by decide) ?_
    refine mIastF hT (List.mem_of_getElem? (i := 20) rfl) (a := 1) rfl (ix_e 4 t k) (by omega) (by decide) ?_
    refine mWd (w2 := (MWf n vs wo un h bo ta tr ro ot (cpf 4 f t (k + 1) g1) (cpf 4 f t k g2) (cpf 4 f t k g3) (cpf 4 f t k g4) g5 g6 g7 bk)) (by rw [cpf_s4 g1 hft (by omega)]; rfl) ?_
    refine mB hT 14 rfl ?_
    refine mIaldF hT (List.mem_of_getElem? (i := 35) rfl) (a := 2) rfl (ix_e 4 f k) (by omega) (by decide) ?_
    refine mIastF hT (List.mem_of_getElem? (i := 36) rfl) (a := 2) rfl (ix_e 4 t k) (by omega) (by decide) ?_
    refine mWd (w2 := (MWf n vs wo un h bo ta tr ro ot (cpf 4 f t (k + 1) g1) (cpf 4 f t (k + 1) g2) (cpf 4 f t k g3) (cpf 4 f t k g4) g5 g6 g7 bk)) (by rw [cpf_s4 g2 hft (by omega)]; rfl) ?_
    refine mB hT 14 rfl ?_
    refine mIaldF hT (List.mem_of_getElem? (i := 51) rfl) (a := 3) rfl (ix_e 4 f k) (by omega) (by decide) ?_
    refine mIastF hT (List.mem_of_getElem? (i := 52) rfl) (a := 3) rfl (ix_e 4 t k) (by omega) (by decide) ?_
    refine mWd (w2 := (MWf n vs wo un h bo ta tr ro ot (cpf 4 f t (k + 1) g1) (cpf 4 f t (k + 1) g2) (cpf 4 f t (k + 1) g3) (cpf 4 f t k g4) g5 g6 g7 bk)) (by rw [cpf_s4 g3 hft (by omega)]; rfl) ?_
    refine mB hT 14 rfl ?_
    refine mIaldF hT (List.mem_of_getElem? (i := 67) rfl) (a := 4) rfl (ix_e 4 f k) (by omega) (by decide) ?_
    refine mIastF hT (List.mem_of_getElem? (i := 68) rfl) (a := 4) rfl (ix_e 4 t k) (by omega) (by decide) ?_
    refine mWd (w2 := (MWf n vs wo un h bo ta tr ro ot (cpf 4 f t (k + 1) g1) (cpf 4 f t (k + 1) g2) (cpf 4 f t (k + 1) g3) (cpf 4 f t (k + 1) g4) g5 g6 g7 bk)) (by rw [cpf_s4 g4 hft (by omega)]; rfl) ?_
    refine mB hT 2 rfl ?_
    refine mNf (lv2 := [(3, .int (Int32.ofNat (k + 1))), (0, .ref 0), (1, .int (Int32.ofNat f)), (2, .int (Int32.ofNat t))]) (st2 := []) (by rw [ofNat_succ k]; rfl) rfl ?_
    exact ih (k + 1) (by omega)
theorem cp_l2 {G : mS → Prop} (hT : mTb G tbX3_copy) {n vs : Int32} {wo un h : Int64} {bo : Nat → Int32} {ta tr ro ot : Nat → Int64} {g1 g2 g3 g4 g5 g6 g7 : Nat → Int32} {bk : Nat → Nat → Int32} {f t : Nat} (hf : f < 7) (ht : t < 7) (hft : f ≠ t) (hE : G (151, [(3, .int (Int32.ofNat 16)), (0, .ref 0), (1, .int (Int32.ofNat f)), (2, .int (Int32.ofNat t))], [], (MWf n vs wo un h bo ta tr ro ot g1 g2 g3 g4 (cpf 16 f t 16 g5) (cpf 16 f t 16 g6) g7 bk))) : ∀ (j k : Nat), k + j = 16 → G (95, [(3, .int (Int32.ofNat k)), (0, .ref 0), (1, .int (Int32.ofNat f)), (2, .int (Int32.ofNat t))], [], (MWf n vs wo un h bo ta tr ro ot g1 g2 g3 g4 (cpf 16 f t k g5) (cpf 16 f t k g6) g7 bk)) := by
  intro j
  induction j with
  | zero =>
    intro k hk
    have e : k = 16 := by omega
    subst e
    refine mB hT 3 rfl ?_
    refine mIf (fun _ => hE) (fun z => absurd (nI_le (Nat.le_refl 16) (by decide)) z)
  | succ j ih =>
    intro k hk
    refine mB hT 3 rfl ?_
    refine mIf (fun z => absurd z (nI_ge (a := k) (b := 16) (by omega) (by decide))) (fun _ => ?_)
    refine mB hT 14 rfl ?_
    refine mIaldF hT (List.mem_of_getElem? (i := 90) rfl) (a := 5) rfl (ix_e 16 f k) (by omega) (by decide) ?_
    refine mIastF hT (List.mem_of_getElem? (i := 91) rfl) (a := 5) rfl (ix_e 16 t k) (by omega) (by decide) ?_
    refine mWd (w2 := (MWf n vs wo un h bo ta tr ro ot g1 g2 g3 g4 (cpf 16 f t (k + 1) g5) (cpf 16 f t k g6) g7 bk)) (by rw [cpf_s16 g5 hft (by omega)]; rfl) ?_
    refine mB hT 14 rfl ?_
    refine mIaldF hT (List.mem_of_getElem? (i := 106) rfl) (a := 6) rfl (ix_e 16 f k) (by omega) (by decide) ?_
    refine mIastF hT (List.mem_of_getElem? (i := 107) rfl) (a := 6) rfl (ix_e 16 t k) (by omega) (by decide) ?_
    refine mWd (w2 := (MWf n vs wo un h bo ta tr ro ot g1 g2 g3 g4 (cpf 16 f t (k + 1) g5) (cpf 16 f t (k + 1) g6) g7 bk)) (by rw [cpf_s16 g6 hft (by omega)]; rfl) ?_
    refine mB hT 2 rfl ?_
    refine mNf (lv2 := [(3, .int (Int32.ofNat (k + 1))), (0, .ref 0), (1, .int (Int32.ofNat f)), (2, .int (Int32.ofNat t))]) (st2 := []) (by rw [ofNat_succ k]; rfl) rfl ?_
    exact ih (k + 1) (by omega)
theorem cp_l3 {G : mS → Prop} (hT : mTb G tbX3_copy) {n vs : Int32} {wo un h : Int64} {bo : Nat → Int32} {ta tr ro ot : Nat → Int64} {g1 g2 g3 g4 g5 g6 g7 : Nat → Int32} {bk : Nat → Nat → Int32} {f t : Nat} (hf : f < 7) (ht : t < 7) (hft : f ≠ t) (hE : G (187, [(3, .int (Int32.ofNat 36)), (0, .ref 0), (1, .int (Int32.ofNat f)), (2, .int (Int32.ofNat t))], [], (MWf n vs wo un h bo ta tr ro ot g1 g2 g3 g4 g5 g6 (cpf 36 f t 36 g7) bk))) : ∀ (j k : Nat), k + j = 36 → G (153, [(3, .int (Int32.ofNat k)), (0, .ref 0), (1, .int (Int32.ofNat f)), (2, .int (Int32.ofNat t))], [], (MWf n vs wo un h bo ta tr ro ot g1 g2 g3 g4 g5 g6 (cpf 36 f t k g7) bk)) := by
  intro j
  induction j with
  | zero =>
    intro k hk
    have e : k = 36 := by omega
    subst e
    refine mB hT 3 rfl ?_
    refine mIf (fun _ => hE) (fun z => absurd (nI_le (Nat.le_refl 36) (by decide)) z)
  | succ j ih =>
    intro k hk
    refine mB hT 3 rfl ?_
    refine mIf (fun z => absurd z (nI_ge (a := k) (b := 36) (by omega) (by decide))) (fun _ => ?_)
    refine mB hT 14 rfl ?_
    refine mIaldF hT (List.mem_of_getElem? (i := 129) rfl) (a := 7) rfl (ix_e 36 f k) (by omega) (by decide) ?_
    refine mIastF hT (List.mem_of_getElem? (i := 130) rfl) (a := 7) rfl (ix_e 36 t k) (by omega) (by decide) ?_
    refine mWd (w2 := (MWf n vs wo un h bo ta tr ro ot g1 g2 g3 g4 g5 g6 (cpf 36 f t (k + 1) g7) bk)) (by rw [cpf_s36 g7 hft (by omega)]; rfl) ?_
    refine mB hT 2 rfl ?_
    refine mNf (lv2 := [(3, .int (Int32.ofNat (k + 1))), (0, .ref 0), (1, .int (Int32.ofNat f)), (2, .int (Int32.ofNat t))]) (st2 := []) (by rw [ofNat_succ k]; rfl) rfl ?_
    exact ih (k + 1) (by omega)
theorem m_copy {n vs : Int32} {wo un h : Int64} {bo : Nat → Int32} {ta tr ro ot : Nat → Int64} {Bm : Nat → Nat → Nat → Int32} {bk : Nat → Nat → Int32} {f t : Nat} (hf : f < 7) (ht : t < 7) (hft : f ≠ t) : KX3_copy l D ca ad [.ref 0, .int (Int32.ofNat f), .int (Int32.ofNat t)] (MW n vs wo un h bo ta tr ro ot Bm bk) none (MW n vs wo un h bo ta tr ro ot (up Bm t (Bm f)) bk) := by
  refine PX3_copy (Nat.le_of_ble_eq_true rfl) ?_
  intro G hT hC hR
  refine mWd MWf_eq ?_
  refine mB hT 2 rfl ?_
  refine mNf (lv2 := [(3, .int (Int32.ofNat 0)), (0, .ref 0), (1, .int (Int32.ofNat f)), (2, .int (Int32.ofNat t))]) (st2 := []) rfl rfl ?_
  refine mWd (w2 := (MWf n vs wo un h bo ta tr ro ot (cpf 4 f t 0 (gO 0 Bm)) (cpf 4 f t 0 (gO 1 Bm)) (cpf 4 f t 0 (gO 21 Bm)) (cpf 4 f t 0 (gO 22 Bm)) (gN 4 Bm) (gN 8 Bm) (gE Bm) bk)) (by rw [cpf_0_4, cpf_0_4, cpf_0_4, cpf_0_4]) ?_
  refine cp_l1 hT hf ht hft ?_ 4 0 rfl
  refine mB hT 2 rfl ?_
  refine mNf (lv2 := [(3, .int (Int32.ofNat 0)), (0, .ref 0), (1, .int (Int32.ofNat f)), (2, .int (Int32.ofNat t))]) (st2 := []) rfl rfl ?_
  refine mWd (w2 := (MWf n vs wo un h bo ta tr ro ot (cpf 4 f t 4 (gO 0 Bm)) (cpf 4 f t 4 (gO 1 Bm)) (cpf 4 f t 4 (gO 21 Bm)) (cpf 4 f t 4 (gO 22 Bm)) (cpf 16 f t 0 (gN 4 Bm)) (cpf 16 f t 0 (gN 8 Bm)) (gE Bm) bk)) (by rw [cpf_0_16, cpf_0_16]) ?_
  refine cp_l2 hT hf ht hft ?_ 16 0 rfl
  refine mB hT 2 rfl ?_
  refine mNf (lv2 := [(3, .int (Int32.ofNat 0)), (0, .ref 0), (1, .int (Int32.ofNat f)), (2, .int (Int32.ofNat t))]) (st2 := []) rfl rfl ?_
  refine mWd (w2 := (MWf n vs wo un h bo ta tr ro ot (cpf 4 f t 4 (gO 0 Bm)) (cpf 4 f t 4 (gO 1 Bm)) (cpf 4 f t 4 (gO 21 Bm)) (cpf 4 f t 4 (gO 22 Bm)) (cpf 16 f t 16 (gN 4 Bm)) (cpf 16 f t 16 (gN 8 Bm)) (cpf 36 f t 0 (gE Bm)) bk)) (by rw [cpf_0_36]) ?_
  refine cp_l3 hT hf ht hft ?_ 36 0 rfl
  refine hR _ (by decide) _ _ _ rfl ?_
  rw [MWf_eq]
  unfold MWf
  rw [cp_gO 0 Bm hf ht, cp_gO 1 Bm hf ht, cp_gO 21 Bm hf ht, cp_gO 22 Bm hf ht, cp_gN 4 Bm hf ht, cp_gN 8 Bm hf ht, cp_gE Bm hf ht]
theorem m_copy_6_0 {n vs : Int32} {wo un h : Int64} {bo : Nat → Int32} {ta tr ro ot : Nat → Int64} {Bm : Nat → Nat → Nat → Int32} {bk : Nat → Nat → Int32} : KX3_copy l D ca ad [.ref 0, .int 6, .int 0] (MW n vs wo un h bo ta tr ro ot Bm bk) none (MW n vs wo un h bo ta tr ro ot (up Bm 0 (Bm 6)) bk) := m_copy (f := 6) (t := 0) (by decide) (by decide) (by decide)
theorem m_copy_0_6 {n vs : Int32} {wo un h : Int64} {bo : Nat → Int32} {ta tr ro ot : Nat → Int64} {Bm : Nat → Nat → Nat → Int32} {bk : Nat → Nat → Int32} : KX3_copy l D ca ad [.ref 0, .int 0, .int 6] (MW n vs wo un h bo ta tr ro ot Bm bk) none (MW n vs wo un h bo ta tr ro ot (up Bm 6 (Bm 0)) bk) := m_copy (f := 0) (t := 6) (by decide) (by decide) (by decide)
theorem m_copy_6_1 {n vs : Int32} {wo un h : Int64} {bo : Nat → Int32} {ta tr ro ot : Nat → Int64} {Bm : Nat → Nat → Nat → Int32} {bk : Nat → Nat → Int32} : KX3_copy l D ca ad [.ref 0, .int 6, .int 1] (MW n vs wo un h bo ta tr ro ot Bm bk) none (MW n vs wo un h bo ta tr ro ot (up Bm 1 (Bm 6)) bk) := m_copy (f := 6) (t := 1) (by decide) (by decide) (by decide)
theorem m_copy_1_6 {n vs : Int32} {wo un h : Int64} {bo : Nat → Int32} {ta tr ro ot : Nat → Int64} {Bm : Nat → Nat → Nat → Int32} {bk : Nat → Nat → Int32} : KX3_copy l D ca ad [.ref 0, .int 1, .int 6] (MW n vs wo un h bo ta tr ro ot Bm bk) none (MW n vs wo un h bo ta tr ro ot (up Bm 6 (Bm 1)) bk) := m_copy (f := 1) (t := 6) (by decide) (by decide) (by decide)
theorem m_copy_6_2 {n vs : Int32} {wo un h : Int64} {bo : Nat → Int32} {ta tr ro ot : Nat → Int64} {Bm : Nat → Nat → Nat → Int32} {bk : Nat → Nat → Int32} : KX3_copy l D ca ad [.ref 0, .int 6, .int 2] (MW n vs wo un h bo ta tr ro ot Bm bk) none (MW n vs wo un h bo ta tr ro ot (up Bm 2 (Bm 6)) bk) := m_copy (f := 6) (t := 2) (by decide) (by decide) (by decide)
theorem m_copy_2_6 {n vs : Int32} {wo un h : Int64} {bo : Nat → Int32} {ta tr ro ot : Nat → Int64} {Bm : Nat → Nat → Nat → Int32} {bk : Nat → Nat → Int32} : KX3_copy l D ca ad [.ref 0, .int 2, .int 6] (MW n vs wo un h bo ta tr ro ot Bm bk) none (MW n vs wo un h bo ta tr ro ot (up Bm 6 (Bm 2)) bk) := m_copy (f := 2) (t := 6) (by decide) (by decide) (by decide)
theorem m_copy_6_3 {n vs : Int32} {wo un h : Int64} {bo : Nat → Int32} {ta tr ro ot : Nat → Int64} {Bm : Nat → Nat → Nat → Int32} {bk : Nat → Nat → Int32} : KX3_copy l D ca ad [.ref 0, .int 6, .int 3] (MW n vs wo un h bo ta tr ro ot Bm bk) none (MW n vs wo un h bo ta tr ro ot (up Bm 3 (Bm 6)) bk) := m_copy (f := 6) (t := 3) (by decide) (by decide) (by decide)
theorem m_copy_3_6 {n vs : Int32} {wo un h : Int64} {bo : Nat → Int32} {ta tr ro ot : Nat → Int64} {Bm : Nat → Nat → Nat → Int32} {bk : Nat → Nat → Int32} : KX3_copy l D ca ad [.ref 0, .int 3, .int 6] (MW n vs wo un h bo ta tr ro ot Bm bk) none (MW n vs wo un h bo ta tr ro ot (up Bm 6 (Bm 3)) bk) := m_copy (f := 3) (t := 6) (by decide) (by decide) (by decide)
theorem m_copy_6_4 {n vs : Int32} {wo un h : Int64} {bo : Nat → Int32} {ta tr ro ot : Nat → Int64} {Bm : Nat → Nat → Nat → Int32} {bk : Nat → Nat → Int32} : KX3_copy l D ca ad [.ref 0, .int 6, .int 4] (MW n vs wo un h bo ta tr ro ot Bm bk) none (MW n vs wo un h bo ta tr ro ot (up Bm 4 (Bm 6)) bk) := m_copy (f := 6) (t := 4) (by decide) (by decide) (by decide)
theorem m_copy_4_6 {n vs : Int32} {wo un h : Int64} {bo : Nat → Int32} {ta tr ro ot : Nat → Int64} {Bm : Nat → Nat → Nat → Int32} {bk : Nat → Nat → Int32} : KX3_copy l D ca ad [.ref 0, .int 4, .int 6] (MW n vs wo un h bo ta tr ro ot Bm bk) none (MW n vs wo un h bo ta tr ro ot (up Bm 6 (Bm 4)) bk) := m_copy (f := 4) (t := 6) (by decide) (by decide) (by decide)
theorem m_copy_6_5 {n vs : Int32} {wo un h : Int64} {bo : Nat → Int32} {ta tr ro ot : Nat → Int64} {Bm : Nat → Nat → Nat → Int32} {bk : Nat → Nat → Int32} : KX3_copy l D ca ad [.ref 0, .int 6, .int 5] (MW n vs wo un h bo ta tr ro ot Bm bk) none (MW n vs wo un h bo ta tr ro ot (up Bm 5 (Bm 6)) bk) := m_copy (f := 6) (t := 5) (by decide) (by decide) (by decide)
theorem m_copy_5_6 {n vs : Int32} {wo un h : Int64} {bo : Nat → Int32} {ta tr ro ot : Nat → Int64} {Bm : Nat → Nat → Nat → Int32} {bk : Nat → Nat → Int32} : KX3_copy l D ca ad [.ref 0, .int 5, .int 6] (MW n vs wo un h bo ta tr ro ot Bm bk) none (MW n vs wo un h bo ta tr ro ot (up Bm 6 (Bm 5)) bk) := m_copy (f := 5) (t := 6) (by decide) (by decide) (by decide)
end
