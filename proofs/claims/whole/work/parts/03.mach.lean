/-! A SMALL MACHINE over pictures: a picture is a list of cells, a reference is a cell's number in it; a row of a method
is a function from (locals, stack, picture) to the next place; a run of rows is computed, and is sound for W. -/
def mTbl : List Cond := lw_tbl.filter goodWord
theorem mTbl_good : ∀ w ∈ mTbl, goodWord w = true := fun _ h => (List.mem_filter.mp h).2
theorem mX0 : ∀ w ∈ wsX00, w ∈ mTbl := by decide +kernel
theorem mX1 : ∀ w ∈ wsX10, w ∈ mTbl := by decide +kernel
theorem mX2 : ∀ w ∈ wsX20, w ∈ mTbl := by decide +kernel
theorem mX3 : ∀ w ∈ wsX30, w ∈ mTbl := by decide +kernel
def mRm (d : Nat) : Room := { frames := d, cells := 0, slots := 0, locals := 32 * d }
def mCls : List vw_C := [(RX0, TX0, 1), (RX1, TX1, 7), (RX2, TX2, 8), (RX3, TX3, 18)]
def mTys (ca : Nat → ClassId) : List (ClassId × FieldType) := [(ca 0, .int), (ca 1, .long), (ca 2, .array .int), (ca 3, .array .long), (ca 4, .object "CradleNets$Book")]
abbrev mE : Type := (Nat × List Value) ⊕ (Nat × (List Int32 ⊕ List Int64 ⊕ List Nat))
abbrev mW : Type := List mE
abbrev mL : Type := List (Nat × Value)
abbrev mS : Type := Nat × mL × List Value × mW
abbrev mR : Type := mL → List Value → mW → Option mS
def cz (ad : Nat → Nat) (v : Value) : Value := match v with
  | .ref a => .ref (ad a)
  | v => v
theorem cz_cat (ad : Nat → Nat) (v : Value) : (cz ad v).category = v.category := by cases v <;> rfl
def cE (ad : Nat → Nat) (ca : Nat → ClassId) (x : mE) : va_E := match x with
  | .inl o => .inr (o.1, o.2.map (cz ad))
  | .inr (t, .inl L) => .inl (ca t, L.length, .inl (fun j => L.getD j 0))
  | .inr (t, .inr (.inl L)) => .inl (ca t, L.length, .inr (.inl (fun j => L.getD j 0)))
  | .inr (t, .inr (.inr L)) => .inl (ca t, L.length, .inr (.inr (.inr (.inr (fun j => (L[j]?).map ad)))))
def cW (ad : Nat → Nat) (ca : Nat → ClassId) (w : mW) : va_W := w.mapIdx (fun i x => (ad i, cE ad ca x))
theorem cW_get (ad : Nat → Nat) (ca : Nat → ClassId) (w : mW) (k : Nat) : (cW ad ca w)[k]? = (w[k]?).map (fun x => (ad k, cE ad ca x)) := by
  unfold cW
  rw [List.getElem?_mapIdx]
theorem cW_at {ad : Nat → Nat} {ca : Nat → ClassId} {w : mW} {k : Nat} {x : mE} (h : w[k]? = some x) : (cW ad ca w)[k]? = some (ad k, cE ad ca x) := by
  rw [cW_get, h]; rfl
theorem cW_of {ad : Nat → Nat} {ca : Nat → ClassId} {w : mW} {k : Nat} {q : Nat × va_E} (h : (cW ad ca w)[k]? = some q) : ∃ x, w[k]? = some x ∧ q = (ad k, cE ad ca x) := by
  rw [cW_get] at h
  cases hw : w[k]? with
  | none => rw [hw] at h; cases h
  | some x => rw [hw] at h; exact ⟨x, rfl, (Option.some.inj h).symm⟩
theorem cW_len (ad : Nat → Nat) (ca : Nat → ClassId) (w : mW) : (cW ad ca w).length = w.length := by
  unfold cW
  rw [List.length_mapIdx]
theorem cW_set (ad : Nat → Nat) (ca : Nat → ClassId) (w : mW) (k : Nat) (x : mE) : cW ad ca (w.set k x) = (cW ad ca w).set k (ad k, cE ad ca x) := by
  apply List.ext_getElem?
  intro i
  rw [cW_get]
  by_cases h : k = i
  · subst h
    by_cases hk : k < w.length
    · rw [List.getElem?_set_self hk, List.getElem?_set_self (by rw [cW_len]; exact hk)]; rfl
    · rw [List.getElem?_eq_none (by rw [List.length_set]; omega), List.getElem?_eq_none (by rw [List.length_set, cW_len]; omega)]; rfl
  · rw [List.getElem?_set_ne h, List.getElem?_set_ne h, cW_get]
def cL (ad : Nat → Nat) (lv : mL) : List (Nat × Value) := lv.map (fun q => (q.1, cz ad q.2))
def mdrop1 (lv : mL) (i : Nat) : mL := lv.filter (fun q => !(q.1 == i) && !(q.1 + 1 == i && q.2.category == 2))
def mdrop2 (lv : mL) (i : Nat) : mL := lv.filter (fun q => !(q.1 == i) && (!(q.1 == i + 1) && !(q.1 + 1 == i && q.2.category == 2)))
theorem cL_drop1 (ad : Nat → Nat) (lv : mL) (i : Nat) : (cL ad lv).filter (fun q => !(q.1 == i) && !(q.1 + 1 == i && q.2.category == 2)) = cL ad (mdrop1 lv i) := by
  unfold cL mdrop1
  rw [List.filter_map]
  refine congrArg (List.map _) (List.filter_congr (fun q _ => ?_))
  simp only [Function.comp, cz_cat]
theorem cL_drop2 (ad : Nat → Nat) (lv : mL) (i : Nat) : (cL ad lv).filter (fun q => !(q.1 == i) && (!(q.1 == i + 1) && !(q.1 + 1 == i && q.2.category == 2))) = cL ad (mdrop2 lv i) := by
  unfold cL mdrop2
  rw [List.filter_map]
  refine congrArg (List.map _) (List.filter_congr (fun q _ => ?_))
  simp only [Function.comp, cz_cat]
def mget : mL → Nat → Option Value
  | [], _ => none
  | (k, v) :: t, i => bif Nat.beq k i then some v else mget t i
theorem mget_mem : ∀ {lv : mL} {i : Nat} {v : Value}, mget lv i = some v → (i, v) ∈ lv
  | [], _, _, h => by cases h
  | (k, u) :: t, i, v, h => by
    unfold mget at h
    cases hb : Nat.beq k i with
    | true =>
      rw [hb] at h
      have e : k = i := Nat.eq_of_beq_eq_true hb
      subst e
      cases h
      exact List.mem_cons_self
    | false =>
      rw [hb] at h
      exact List.mem_cons_of_mem _ (mget_mem h)
theorem mget_at {ad : Nat → Nat} {ls : Array Slot} {nL : Nat} {lv : mL} {i : Nat} {v : Value} (hl : lv_has ls nL (cL ad lv)) (h : mget lv i = some v) : ls[i]? = some (.val (cz ad v)) :=
  hl.2.2 (i, cz ad v) (List.mem_map.mpr ⟨(i, v), mget_mem h, rfl⟩)
/-- the machine stands at a place: from any heap that holds the picture it comes to Q -/
def mG (p : Program) (l : Launch) (e : Env) (R : Room) (s : State) (m : MethodId) (args : Array Value) (below : List Frame) (meth : Method) (c : Code) (D : va_G) (ca : Nat → ClassId) (ad : Nat → Nat) (A : Nat → Prop) (nL cells slots : Nat) (Q : State → Prop) (σ : mS) : Prop :=
  ∀ (H : Heap) (locs : List Loc) (ls : Array Slot), va_P D mCls (cW ad ca σ.2.2.2) H → va_D A (cW ad ca σ.2.2.2) → va_S A s.heap H locs → lv_has ls nL (cL ad σ.2.1) →
    W p l e R s m args below meth c H locs cells slots Q (F0 m σ.1 ls (σ.2.2.1.map (cz ad)))
def mNest : Cond := .methodLinkNest "CradleNets$Book" 26 yX2_placeOfEmits "CradleNets"
def mK (D : va_G) (ca : Nat → ClassId) (U : State) : Prop := va_K D mCls (mTys ca) U ∧ va_Nw mNest U
theorem mK.warm {D : va_G} {ca : Nat → ClassId} {s U : State} (hW : s.WarmedH U.vm) (h : mK D ca s) : mK D ca U := ⟨va_K.moved hW.alike h.1, va_Nw.warmM hW h.2⟩
/-- what a method's walk knows -/
def mX (p : Program) (s : State) (m : MethodId) (args : Array Value) (meth : Method) (c : Code) (bs : ByteArray) (nL : Nat) (own : String) (D : va_G) (ca : Nat → ClassId) (A : Nat → Prop) : Prop :=
  CallFix p m c bs nL s args mTbl own ∧ mK D ca s ∧ meth.locks = false ∧ ∀ q : Nat, s.heap.size ≤ q → A q
/-- a row is sound -/
def mOk (bs : ByteArray) (own : String) (nL pc : Nat) (r : mR) : Prop :=
  ∀ (p : Program) (l : Launch) (e : Env) (R : Room) (s : State) (m : MethodId) (args : Array Value) (below : List Frame) (meth : Method) (c : Code) (D : va_G) (ca : Nat → ClassId) (ad : Nat → Nat) (A : Nat → Prop) (cells slots : Nat) (Q : State → Prop),
    mX p s m args meth c bs nL own D ca A → ∀ (lv : mL) (st : List Value) (w : mW) (σ : mS), r lv st w = some σ →
    mG p l e R s m args below meth c D ca ad A nL cells slots Q σ → mG p l e R s m args below meth c D ca ad A nL cells slots Q (pc, lv, st, w)
/-! rows -/
def r_iload (n i : Nat) : mR := fun lv st w => match mget lv i with
  | some (.int x) => some (n, lv, .int x :: st, w)
  | _ => none
def r_lload (n i : Nat) : mR := fun lv st w => match mget lv i with
  | some (.long x) => some (n, lv, .long x :: st, w)
  | _ => none
def r_aload (n i : Nat) : mR := fun lv st w => match mget lv i with
  | some (.ref x) => some (n, lv, .ref x :: st, w)
  | _ => none
def r_istore (n i : Nat) : mR := fun lv st w => match st with
  | .int x :: r => some (n, (i, .int x) :: mdrop1 lv i, r, w)
  | _ => none
def r_lstore (n i : Nat) : mR := fun lv st w => match st with
  | .long x :: r => some (n, (i, .long x) :: mdrop2 lv i, r, w)
  | _ => none
def r_astore (n i : Nat) : mR := fun lv st w => match st with
  | .ref x :: r => some (n, (i, .ref x) :: mdrop1 lv i, r, w)
  | _ => none
def r_iinc (n i : Nat) (k : Int32) : mR := fun lv st w => match mget lv i with
  | some (.int x) => some (n, (i, .int (x + k)) :: mdrop1 lv i, st, w)
  | _ => none
def r_ic (n : Nat) (k : Int32) : mR := fun lv st w => some (n, lv, .int k :: st, w)
def r_lc (n : Nat) (k : Int64) : mR := fun lv st w => some (n, lv, .long k :: st, w)
def r_ii (n : Nat) (f : Int32 → Int32 → Int32) : mR := fun lv st w => match st with
  | .int y :: .int x :: r => some (n, lv, .int (f x y) :: r, w)
  | _ => none
def r_iid (n : Nat) (f : Int32 → Int32 → Int32) : mR := fun lv st w => match st with
  | .int y :: .int x :: r => if y = 0 then none else some (n, lv, .int (f x y) :: r, w)
  | _ => none
def r_ll (n : Nat) (f : Int64 → Int64 → Int64) : mR := fun lv st w => match st with
  | .long y :: .long x :: r => some (n, lv, .long (f x y) :: r, w)
  | _ => none
def r_lld (n : Nat) (f : Int64 → Int64 → Int64) : mR := fun lv st w => match st with
  | .long y :: .long x :: r => if y = 0 then none else some (n, lv, .long (f x y) :: r, w)
  | _ => none
def r_ineg (n : Nat) : mR := fun lv st w => match st with
  | .int x :: r => some (n, lv, .int (-x) :: r, w)
  | _ => none
def r_lneg (n : Nat) : mR := fun lv st w => match st with
  | .long x :: r => some (n, lv, .long (-x) :: r, w)
  | _ => none
def r_i2l (n : Nat) : mR := fun lv st w => match st with
  | .int x :: r => some (n, lv, .long x.toInt64 :: r, w)
  | _ => none
def r_lcmp (n : Nat) : mR := fun lv st w => match st with
  | .long y :: .long x :: r => some (n, lv, .int (lg_cmp x y) :: r, w)
  | _ => none
def r_pop (n : Nat) : mR := fun lv st w => match st with
  | .int _ :: r => some (n, lv, r, w)
  | _ => none
def r_goto (t : Nat) : mR := fun lv st w => some (t, lv, st, w)
def r_ifeq (n t : Nat) : mR := fun lv st w => match st with
  | .int x :: r => some (if x = 0 then (t, lv, r, w) else (n, lv, r, w))
  | _ => none
def r_ifne (n t : Nat) : mR := fun lv st w => match st with
  | .int x :: r => some (if x = 0 then (n, lv, r, w) else (t, lv, r, w))
  | _ => none
def r_iflt (n t : Nat) : mR := fun lv st w => match st with
  | .int x :: r => some (if x < 0 then (t, lv, r, w) else (n, lv, r, w))
  | _ => none
def r_ifge (n t : Nat) : mR := fun lv st w => match st with
  | .int x :: r => some (if 0 ≤ x then (t, lv, r, w) else (n, lv, r, w))
  | _ => none
def r_ifgt (n t : Nat) : mR := fun lv st w => match st with
  | .int x :: r => some (if 0 < x then (t, lv, r, w) else (n, lv, r, w))
  | _ => none
def r_ifle (n t : Nat) : mR := fun lv st w => match st with
  | .int x :: r => some (if x ≤ 0 then (t, lv, r, w) else (n, lv, r, w))
  | _ => none
def r_ceq (n t : Nat) : mR := fun lv st w => match st with
  | .int y :: .int x :: r => some (if x = y then (t, lv, r, w) else (n, lv, r, w))
  | _ => none
def r_cne (n t : Nat) : mR := fun lv st w => match st with
  | .int y :: .int x :: r => some (if x = y then (n, lv, r, w) else (t, lv, r, w))
  | _ => none
def r_clt (n t : Nat) : mR := fun lv st w => match st with
  | .int y :: .int x :: r => some (if x < y then (t, lv, r, w) else (n, lv, r, w))
  | _ => none
def r_cge (n t : Nat) : mR := fun lv st w => match st with
  | .int y :: .int x :: r => some (if y ≤ x then (t, lv, r, w) else (n, lv, r, w))
  | _ => none
def r_cgt (n t : Nat) : mR := fun lv st w => match st with
  | .int y :: .int x :: r => some (if y < x then (t, lv, r, w) else (n, lv, r, w))
  | _ => none
def r_cle (n t : Nat) : mR := fun lv st w => match st with
  | .int y :: .int x :: r => some (if x ≤ y then (t, lv, r, w) else (n, lv, r, w))
  | _ => none
def r_getf (n ci k : Nat) : mR := fun lv st w => match st with
  | .ref a :: r => match w[a]? with
    | some (.inl (c, fs)) => bif Nat.beq c ci then (match fs[k]? with
      | some v => some (n, lv, v :: r, w)
      | none => none) else none
    | _ => none
  | _ => none
def r_puti (n ci k : Nat) : mR := fun lv st w => match st with
  | .int x :: .ref a :: r => match w[a]? with
    | some (.inl (c, fs)) => bif Nat.beq c ci && Nat.blt k fs.length then some (n, lv, r, w.set a (.inl (ci, fs.set k (.int x)))) else none
    | _ => none
  | _ => none
def r_putl (n ci k : Nat) : mR := fun lv st w => match st with
  | .long x :: .ref a :: r => match w[a]? with
    | some (.inl (c, fs)) => bif Nat.beq c ci && Nat.blt k fs.length then some (n, lv, r, w.set a (.inl (ci, fs.set k (.long x)))) else none
    | _ => none
  | _ => none
def r_iald (n : Nat) : mR := fun lv st w => match st with
  | .int i :: .ref a :: r => match w[a]? with
    | some (.inr (0, .inl L)) => if i < 0 then none else (match L[i.toNatClampNeg]? with
      | some x => some (n, lv, .int x :: r, w)
      | none => none)
    | _ => none
  | _ => none
def r_lald (n : Nat) : mR := fun lv st w => match st with
  | .int i :: .ref a :: r => match w[a]? with
    | some (.inr (1, .inr (.inl L))) => if i < 0 then none else (match L[i.toNatClampNeg]? with
      | some x => some (n, lv, .long x :: r, w)
      | none => none)
    | _ => none
  | _ => none
def r_aald (n : Nat) : mR := fun lv st w => match st with
  | .int i :: .ref a :: r => match w[a]? with
    | some (.inr (t, .inr (.inr L))) => bif Nat.beq t 2 || (Nat.beq t 3 || Nat.beq t 4) then (if i < 0 then none else (match L[i.toNatClampNeg]? with
      | some x => some (n, lv, .ref x :: r, w)
      | none => none)) else none
    | _ => none
  | _ => none
def r_iast (n : Nat) : mR := fun lv st w => match st with
  | .int x :: .int i :: .ref a :: r => match w[a]? with
    | some (.inr (0, .inl L)) => if i < 0 then none else (bif Nat.blt i.toNatClampNeg L.length then some (n, lv, r, w.set a (.inr (0, .inl (L.set i.toNatClampNeg x)))) else none)
    | _ => none
  | _ => none
def r_last (n : Nat) : mR := fun lv st w => match st with
  | .long x :: .int i :: .ref a :: r => match w[a]? with
    | some (.inr (1, .inr (.inl L))) => if i < 0 then none else (bif Nat.blt i.toNatClampNeg L.length then some (n, lv, r, w.set a (.inr (1, .inr (.inl (L.set i.toNatClampNeg x))))) else none)
    | _ => none
  | _ => none
def r_alen (n : Nat) : mR := fun lv st w => match st with
  | .ref a :: r => match w[a]? with
    | some (.inr (0, .inl L)) => some (n, lv, .int (Int32.ofNat L.length) :: r, w)
    | _ => none
  | _ => none
