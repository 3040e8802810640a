/-! runs of rows -/
def mfrom : List (Nat × mR) → Nat → Option (List (Nat × mR))
  | [], _ => none
  | q :: t, pc => bif Nat.beq q.1 pc then some (q :: t) else mfrom t pc
def mseek (cur tb : List (Nat × mR)) (pc : Nat) : Option (List (Nat × mR)) := match mfrom cur pc with
  | some q => some q
  | none => mfrom tb pc
def mrun (tb : List (Nat × mR)) : Nat → List (Nat × mR) → mS → Option mS
  | 0, _, σ => some σ
  | n + 1, cur, (pc, lv, st, w) => match mseek cur tb pc with
    | some (q :: t) => match q.2 lv st w with
      | some σ => mrun tb n t σ
      | none => none
    | _ => none
def mTb (G : mS → Prop) (tb : List (Nat × mR)) : Prop := (∀ q ∈ tb, ∀ (lv : mL) (st : List Value) (w : mW) (σ : mS), q.2 lv st w = some σ → G σ → G (q.1, lv, st, w)) ∧
  ∀ (pc : Nat) (lv lv2 : mL) (st : List Value) (w : mW), (∀ q ∈ lv2, q ∈ lv) → G (pc, lv2, st, w) → G (pc, lv, st, w)
theorem mfrom_spec : ∀ {tb : List (Nat × mR)} {pc : Nat} {q : Nat × mR} {t : List (Nat × mR)}, mfrom tb pc = some (q :: t) → q.1 = pc ∧ q ∈ tb ∧ ∀ x ∈ t, x ∈ tb
  | [], _, _, _, h => by cases h
  | a :: tb, pc, q, t, h => by
    unfold mfrom at h
    cases hb : Nat.beq a.1 pc with
    | true =>
      rw [hb, cond_true] at h
      cases h
      exact ⟨Nat.eq_of_beq_eq_true hb, List.mem_cons_self, fun x hx => List.mem_cons_of_mem _ hx⟩
    | false =>
      rw [hb, cond_false] at h
      obtain ⟨h1, h2, h3⟩ := mfrom_spec h
      exact ⟨h1, List.mem_cons_of_mem _ h2, fun x hx => List.mem_cons_of_mem _ (h3 x hx)⟩
theorem mseek_spec {cur tb : List (Nat × mR)} {pc : Nat} {q : Nat × mR} {t : List (Nat × mR)} (hc : ∀ x ∈ cur, x ∈ tb) (h : mseek cur tb pc = some (q :: t)) : q.1 = pc ∧ q ∈ tb ∧ ∀ x ∈ t, x ∈ tb := by
  unfold mseek at h
  split at h
  · next z hz =>
    cases h
    obtain ⟨h1, h2, h3⟩ := mfrom_spec hz
    exact ⟨h1, hc _ h2, fun x hx => hc _ (h3 x hx)⟩
  · exact mfrom_spec h
theorem mrun_ok {G : mS → Prop} {tb : List (Nat × mR)} (hT : mTb G tb) : ∀ (n : Nat) (cur : List (Nat × mR)) (σ τ : mS), (∀ x ∈ cur, x ∈ tb) → mrun tb n cur σ = some τ → G τ → G σ
  | 0, _, σ, τ, _, h, k => by
    unfold mrun at h
    cases h
    exact k
  | n + 1, cur, (pc, lv, st, w), τ, hc, h, k => by
    unfold mrun at h
    split at h
    · next q t hq =>
      obtain ⟨h1, h2, h3⟩ := mseek_spec hc hq
      split at h
      · next σ2 hσ =>
        subst h1
        exact hT.1 q h2 lv st w σ2 hσ (mrun_ok hT n t σ2 τ h3 h k)
      · cases h
    · cases h
/-- n rows behind one another, computed -/
theorem mB {G : mS → Prop} {tb : List (Nat × mR)} (hT : mTb G tb) (n : Nat) {σ τ : mS} (h : mrun tb n tb σ = some τ) (k : G τ) : G σ := mrun_ok hT n tb σ τ (fun _ h => h) h k
theorem mIf {G : mS → Prop} {c : Prop} [Decidable c] {σ τ : mS} (h1 : c → G σ) (h2 : ¬ c → G τ) : G (if c then σ else τ) := by
  by_cases h : c
  · rw [if_pos h]; exact h1 h
  · rw [if_neg h]; exact h2 h
/-! contracts -/
def mQ (D : va_G) (ca : Nat → ClassId) (ad : Nat → Nat) (r : Option Value) (w : mW) (A : Nat → Prop) : Array Value → State → Outcome → State → Prop := fun _ st oc t =>
  (oc = .returned (r.map (cz ad)) ∧ va_P D mCls (cW ad ca w) t.heap) ∧ va_F A st t
def mPc (D : va_G) (ca : Nat → ClassId) (ad : Nat → Nat) (av : List Value) (w : mW) (sz : Nat) : Array Value → State → Prop :=
  va_Pc (av.map (cz ad)) (fun U => U.heap.size = sz ∧ va_P D mCls (cW ad ca w) U.heap ∧ mK D ca U ∧ va_D (fun _ => True) (cW ad ca w))
/-- method y, called with av where the picture is w, answers r and leaves the picture w2 -/
def mC (l : Launch) (d : Nat) (y : MethodName) (bs : ByteArray) (nL : Nat) (rt : Option FieldType) (D : va_G) (ca : Nat → ClassId) (ad : Nat → Nat) (av : List Value) (w : mW) (r : Option Value) (w2 : mW) : Prop :=
  ∀ sz : Nat, Met l y (.code y bs nL rt :: mTbl) (mRm d) (mPc D ca ad av w sz) (mQ D ca ad r w2 (va_A (cW ad ca w) sz)) 0 0 (va_A (cW ad ca w) sz)
theorem mPc_blind (D : va_G) (ca : Nat → ClassId) (ad : Nat → Nat) (av : List Value) (w : mW) (sz : Nat) : FrameBlind (mPc D ca ad av w sz) := fun a U g mk q => by
  obtain ⟨q0, q1, qP, qK, qD⟩ := q
  exact ⟨q0, q1, qP, ⟨va_K.moved (u := U) (U := U.calling g mk a) (Vm.Alike.refl U.vm) qK.1, va_Nw.same (u := U) (U := U.calling g mk a) rfl rfl qK.2⟩, qD⟩
theorem cz_args (ad : Nat → Nat) : ∀ (vs : List Value) (i : Nat), lv_args i (vs.map (cz ad)) = cL ad (lv_args i vs)
  | [], _ => rfl
  | v :: vs, i => by
    show (i, cz ad v) :: lv_args (if (cz ad v).category = 2 then i + 2 else i + 1) (vs.map (cz ad)) = _
    rw [cz_cat, cz_args ad vs]
    rfl
theorem cz_sl (ad : Nat → Nat) (vs : List Value) : (lg_sl (vs.map (cz ad))).length = (lg_sl vs).length := by
  unfold lg_sl
  induction vs with
  | nil => rfl
  | cons v vs ih =>
    simp only [List.map_cons, List.flatMap_cons, List.length_append, ih, cz_cat]
    split <;> rfl
theorem mMk {l : Launch} {d : Nat} {y : MethodName} {bs : ByteArray} {nL : Nat} {rt : Option FieldType} {D : va_G} {ca : Nat → ClassId} {ad : Nat → Nat} {av : List Value} {w : mW} {r : Option Value} {w2 : mW} (hy : plainFor y = true) (hlen : (lg_sl av).length ≤ nL)
    (body : ∀ (p : Program) (e : Env) (s : State) (m : MethodId) (args : Array Value) (below : List Frame) (meth : Method) (c : Code) (A : Nat → Prop), mX p s m args meth c bs nL y.cls D ca A → meth.sig.returnType = rt →
      mG p l e (mRm d) s m args below meth c D ca ad A nL 0 0 (MQ below (mQ D ca ad r w2 A) args s 0 0 A) (0, lv_args 0 av, [], w)) : mC l d y bs nL rt D ca ad av w r w2 := by
  intro sz
  refine va_MetF (cc := bs) (maxL := nL) (ret := rt) hy rfl ?_
  intro p e s m args below meth c s₁ B hml hv
  obtain ⟨rfl, hsz, hP, hK, hD⟩ := hv
  subst hsz
  have hts := atoms_spec (ws := Cond.code y bs nL rt :: mTbl) B.pre
  have hX : mX p s m (av.map (cz ad)).toArray meth c bs nL y.cls D ca (va_A (cW ad ca w) s.heap.size) := ⟨⟨B.exec, B.bytes, hml, findClass_of_methodNamed B.named, fun w hw => hts w (List.mem_cons_of_mem _ hw)⟩, hK, B.notSynchronized, fun q h => Or.inr h⟩
  have hl := lv_entry (av.map (cz ad)) (n := nL) (by rw [cz_sl]; exact hlen)
  rw [cz_args] at hl
  rw [lg_entry_eq]
  exact body p e s m _ below meth c _ hX B.returns s.heap [] _ hP hD.self va_S.rf hl
/-! calls -/
def mCallV (G : mS → Prop) (C : List Value → mW → Option Value → mW → Prop) (pc ci n : Nat) : Prop :=
  ∀ (lv : mL) (a : Nat) (As rest : List Value) (w : mW) (r : Option Value) (w2 : mW) (fs : List Value), C (.ref a :: As) w r w2 → As.length = n → w[a]? = some (.inl (ci, fs)) → (rest.map fun v => v.category).sum ≤ 8 → w2.length = w.length →
    G (pc + 3, lv, r.toList ++ rest, w2) → G (pc, lv, As.reverse ++ .ref a :: rest, w)
def mCallS (G : mS → Prop) (C : List Value → mW → Option Value → mW → Prop) (pc n : Nat) : Prop :=
  ∀ (lv : mL) (As rest : List Value) (w : mW) (r : Option Value) (w2 : mW), C As w r w2 → As.length = n → (rest.map fun v => v.category).sum ≤ 8 → w2.length = w.length →
    G (pc + 3, lv, r.toList ++ rest, w2) → G (pc, lv, As.reverse ++ rest, w)
theorem cz_sum (ad : Nat → Nat) (rest : List Value) : ((rest.map (cz ad)).map fun v => v.category) = rest.map fun v => v.category := by
  rw [List.map_map]
  exact List.map_congr_left (fun v _ => cz_cat ad v)
theorem cz_top (ad : Nat → Nat) (r : Option Value) (rest : List Value) : (r.toList ++ rest).map (cz ad) = (r.map (cz ad)).toList ++ rest.map (cz ad) := by cases r <;> rfl
theorem va_D_len {A A2 : Nat → Prop} {ad : Nat → Nat} {ca : Nat → ClassId} {w w2 : mW} (h : va_D A (cW ad ca w)) (hl : w2.length = w.length) (hA : ∀ k, k < w.length → A2 (ad k)) : va_D A2 (cW ad ca w2) := by
  have ex : ∀ {k : Nat} {q : Nat × va_E}, (cW ad ca w2)[k]? = some q → k < w.length ∧ q.1 = ad k := fun {k q} hq => by
    obtain ⟨x, hx, e⟩ := cW_of hq
    exact ⟨by rw [← hl]; exact (List.getElem?_eq_some_iff.mp hx).1, by rw [e]⟩
  have ew : ∀ {k : Nat}, k < w.length → ∃ q, (cW ad ca w)[k]? = some q ∧ q.1 = ad k := fun {k} hk => ⟨_, cW_at (List.getElem?_eq_getElem hk), rfl⟩
  refine ⟨fun i j a b hi hj hab => ?_, fun k q hq => ?_⟩
  · obtain ⟨h1, e1⟩ := ex hi
    obtain ⟨h2, e2⟩ := ex hj
    obtain ⟨a2, g1, f1⟩ := ew h1
    obtain ⟨b2, g2, f2⟩ := ew h2
    exact h.1 i j a2 b2 g1 g2 (by rw [f1, f2, ← e1, ← e2]; exact hab)
  · obtain ⟨h1, e1⟩ := ex hq
    rw [e1]
    exact hA k h1
theorem mRun_on {p : Program} {l : Launch} {e : Env} {R : Room} {s : State} {m : MethodId} {args : Array Value} {below : List Frame} {meth : Method} {c : Code} {D : va_G} {ca : Nat → ClassId} {ad : Nat → Nat} {A : Nat → Prop} {nL cells slots : Nat} {Q : State → Prop} {H : Heap} {locs : List Loc} {ls : Array Slot} {pc : Nat} {st0 : List Value} {rest : List Value} {lv : mL} {w w2 : mW} {r : Option Value} {av : Array Value}
    (hA : ∀ q : Nat, s.heap.size ≤ q → A q) (hD : va_D A (cW ad ca w)) (hS : va_S A s.heap H locs) (hl : lv_has ls nL (cL ad lv)) (hw : w2.length = w.length)
    (hr : va_Run p l e R s m args below meth c H locs cells slots 0 0 (F0 m pc ls st0) (rest.map (cz ad)) (mQ D ca ad r w2 (va_A (cW ad ca w) H.size) av) (va_A (cW ad ca w) H.size))
    (k : mG p l e R s m args below meth c D ca ad A nL cells slots Q (pc + 3, lv, r.toList ++ rest, w2)) : W p l e R s m args below meth c H locs cells slots Q (F0 m pc ls st0) := by
  have hF : ∀ q, va_A (cW ad ca w) H.size q → A q := fun q h => by
    rcases h with ⟨k, x, h⟩ | h
    · exact hD.2 k _ h
    · exact hA q (Nat.le_trans hS.1 h)
  intro T hT X
  obtain ⟨v, st₀, t, T', L, h0, X', hL, e1, e2, ⟨⟨hv, hP1⟩, hz, hk⟩, st⟩ := hr T hT X
  cases hv
  rw [h0] at hz hk
  obtain ⟨t2, a1, b1⟩ := k T'.heap (locs ++ L) ls (by rw [e1]; exact hP1) (va_D_len hD hw (fun k hk => hD.2 k _ (cW_at (List.getElem?_eq_getElem hk))))
    ⟨Nat.le_trans hS.1 (by rw [e1]; exact hz), fun q h1 h2 => by rw [e1, hk q (Nat.lt_of_lt_of_le h1 hS.1) (fun z => h2 (hF q z))]; exact hS.2.1 q h1 h2, fun q hq => by
      rcases List.mem_append.mp hq with h | h
      · exact hS.2.2 q h
      · exact hF _ (hL q h)⟩ hl T' rfl X'
  rw [cz_top] at a1
  exact ⟨t2, st t2 a1, b1⟩
theorem mGood {y : MethodName} {bs : ByteArray} {nL : Nat} {rt : Option FieldType} (h : Cond.code y bs nL rt ∈ mTbl) : GoodIn mTbl (.code y bs nL rt :: mTbl) := fun w hw => by
  rcases List.mem_cons.mp hw with e | hw
  · subst e; exact ⟨h, good_of_word (mTbl_good _ h)⟩
  · exact ⟨hw, good_of_word (mTbl_good _ hw)⟩
/-- the words of a call: place of the method's link, its class and code -/
def mLk (own : String) (index : Nat) (y : MethodName) (bs : ByteArray) (nL : Nat) (rt : Option FieldType) (n : Nat) : Prop :=
  Cond.methodLink own index y ∈ mTbl ∧ Cond.initialized y.cls ∈ mTbl ∧ Cond.code y bs nL rt ∈ mTbl ∧ (y.cls ≠ "java/lang/invoke/MethodHandle" ∧ y.cls ≠ "java/lang/invoke/VarHandle" ∧ (parseMethodDescriptor y.desc).map (fun d => d.parameters.length) = some n)
theorem mCallV_ok {p : Program} {l : Launch} {e : Env} {d2 : Nat} {s : State} {m : MethodId} {args : Array Value} {below : List Frame} {meth : Method} {c : Code} {D : va_G} {ca : Nat → ClassId} {ad : Nat → Nat} {A : Nat → Prop} {nL cells slots : Nat} {Q : State → Prop} {bs : ByteArray} {own : String} {R : Room} (hX : mX p s m args meth c bs nL own D ca A)
    {pc ci n index nL2 : Nat} {y : MethodName} {bs2 : ByteArray} {rt2 : Option FieldType} {T : u_T} {N : Nat} (hd : decode bs pc = .ok (.invokevirtual index, 3)) (hc : mCls[ci]? = some (y.cls, T, N)) (hk : mLk own index y bs2 nL2 rt2 n) (hi : Cond.instanceMethod y ∈ mTbl) (hs : Cond.selects y.cls y y ∈ mTbl) (hR : d2 + 1 ≤ R.frames ∧ 8 + (nL2 + 11) + 32 * d2 ≤ R.locals) (hcl : cells + 0 ≤ R.cells ∧ slots + 0 ≤ R.slots) :
    mCallV (mG p l e R s m args below meth c D ca ad A nL cells slots Q) (mC l d2 y bs2 nL2 rt2 D ca ad) pc ci n := by
  intro lv a As rest w r w2 fs hC hn ha hsum hw k H locs ls hP hD hS hl
  have ht := hX.1.2.2.2.2
  refine mRun_on (lv := lv) (rest := rest) hX.2.2.2 hD hS hl hw (va_runV (C := y.cls) (index := index) (b := ad a) (As := As.map (cz ad)) hX.1 (hC H.size) ⟨callB_of n ht (mGood hk.2.2.1) rfl rfl rfl (ht _ hk.2.1) (ht _ hk.1) hk.2.2.2 hR, ht _ hi, ht _ hs⟩ ⟨mPc_blind _ _ _ _ _ _, va_recv hX.2.1.1 hP hc (cW_at ha), fun U hU hW => ⟨rfl, by rw [hU], by rw [hU]; exact hP, hX.2.1.warm hW, hD.weaken (fun _ _ _ _ => trivial)⟩⟩ rfl (by rw [List.length_map]; exact hn) hl.1 ?_ (lv_room (by rw [cz_sum]; exact hsum)) hd hcl) k
  show (As.reverse ++ .ref a :: rest).map (cz ad) = _
  rw [List.map_append, List.map_reverse]
  rfl
theorem mCallS_ok {p : Program} {l : Launch} {e : Env} {d2 : Nat} {s : State} {m : MethodId} {args : Array Value} {below : List Frame} {meth : Method} {c : Code} {D : va_G} {ca : Nat → ClassId} {ad : Nat → Nat} {A : Nat → Prop} {nL cells slots : Nat} {Q : State → Prop} {bs : ByteArray} {own : String} {R : Room} (hX : mX p s m args meth c bs nL own D ca A)
    {pc n index nL2 : Nat} {y : MethodName} {bs2 : ByteArray} {rt2 : Option FieldType} (hd : decode bs pc = .ok (.invokestatic index, 3)) (hk : mLk own index y bs2 nL2 rt2 n) (hi : Cond.static y ∈ mTbl) (hR : d2 + 1 ≤ R.frames ∧ 8 + (nL2 + 11) + 32 * d2 ≤ R.locals) (hcl : cells + 0 ≤ R.cells ∧ slots + 0 ≤ R.slots) :
    mCallS (mG p l e R s m args below meth c D ca ad A nL cells slots Q) (mC l d2 y bs2 nL2 rt2 D ca ad) pc n := by
  intro lv As rest w r w2 hC hn hsum hw k H locs ls hP hD hS hl
  have ht := hX.1.2.2.2.2
  refine mRun_on (lv := lv) (rest := rest) hX.2.2.2 hD hS hl hw (va_runS (index := index) (As := As.map (cz ad)) hX.1 (hC H.size) ⟨callB_of n ht (mGood hk.2.2.1) rfl rfl rfl (ht _ hk.2.1) (ht _ hk.1) hk.2.2.2 hR, ht _ hi⟩ ⟨mPc_blind _ _ _ _ _ _, fun U hU hW => ⟨rfl, by rw [hU], by rw [hU]; exact hP, hX.2.1.warm hW, hD.weaken (fun _ _ _ _ => trivial)⟩⟩ rfl (by rw [List.length_map]; exact hn) hl.1 ?_ (lv_room (by rw [cz_sum]; exact hsum)) hd hcl) k
  show (As.reverse ++ rest).map (cz ad) = _
  rw [List.map_append, List.map_reverse]
/-- the one call of a nest mate's private static method -/
theorem mCallN_ok {p : Program} {l : Launch} {e : Env} {d2 : Nat} {s : State} {m : MethodId} {args : Array Value} {below : List Frame} {meth : Method} {c : Code} {D : va_G} {ca : Nat → ClassId} {ad : Nat → Nat} {A : Nat → Prop} {nL cells slots : Nat} {Q : State → Prop} {bs : ByteArray} {R : Room} (hX : mX p s m args meth c bs nL "CradleNets$Book" D ca A)
    {pc nL2 : Nat} {bs2 : ByteArray} {rt2 : Option FieldType} (hd : decode bs pc = .ok (.invokestatic 26, 3)) (hini : Cond.initialized yX2_placeOfEmits.cls ∈ mTbl) (hcode : Cond.code yX2_placeOfEmits bs2 nL2 rt2 ∈ mTbl) (hi : Cond.static yX2_placeOfEmits ∈ mTbl) (hR : d2 + 1 ≤ R.frames ∧ 8 + (nL2 + 11) + 32 * d2 ≤ R.locals) (hcl : cells + 0 ≤ R.cells ∧ slots + 0 ≤ R.slots) :
    mCallS (mG p l e R s m args below meth c D ca ad A nL cells slots Q) (mC l d2 yX2_placeOfEmits bs2 nL2 rt2 D ca ad) pc 2 := by
  intro lv As rest w r w2 hC hn hsum hw k H locs ls hP hD hS hl
  have ht := hX.1.2.2.2.2
  refine mRun_on (lv := lv) (rest := rest) hX.2.2.2 hD hS hl hw (va_runSN (index := 26) (host := "CradleNets") (As := As.map (cz ad)) hX.1 (hC H.size) ⟨va_cnB 2 ht (mGood hcode) rfl rfl rfl hX.2.1.2 (ht _ hini) ⟨by decide +kernel, by decide +kernel, by decide +kernel⟩ hR, ht _ hi, trivial⟩ ⟨mPc_blind _ _ _ _ _ _, fun U hU hW => ⟨rfl, by rw [hU], by rw [hU]; exact hP, hX.2.1.warm hW, hD.weaken (fun _ _ _ _ => trivial)⟩⟩ rfl (by rw [List.length_map]; exact hn) hl.1 ?_ (lv_room (by rw [cz_sum]; exact hsum)) hd hcl) k
  show (As.reverse ++ rest).map (cz ad) = _
  rw [List.map_append, List.map_reverse]
/-! returns -/
def mRet (G : mS → Prop) (r : Option Value) (w2 : mW) (rets : List Nat) : Prop := ∀ pc ∈ rets, ∀ (lv : mL) (st : List Value) (w : mW), st = r.toList → w = w2 → G (pc, lv, st, w)
section MR
variable {p : Program} {l : Launch} {e : Env} {R : Room} {s : State} {m : MethodId} {args : Array Value} {below : List Frame} {meth : Method} {c : Code} {D : va_G} {ca : Nat → ClassId} {ad : Nat → Nat} {A : Nat → Prop} {nL cells slots : Nat} {bs : ByteArray} {own : String} {r : Option Value} {w2 : mW}
theorem mRetI (hX : mX p s m args meth c bs nL own D ca A) (hr : meth.sig.returnType = some .int) {x : Int32} (h : r = some (.int x)) {rets : List Nat} (hd : ∀ pc ∈ rets, decode bs pc = .ok (.ireturn, 1)) :
    mRet (mG p l e R s m args below meth c D ca ad A nL cells slots (MQ below (mQ D ca ad r w2 A) args s cells slots A)) r w2 rets := by
  intro pc hpc lv st w hst hw H locs ls hP hD hS hl
  subst hst hw h
  exact W.iret hX.1.1 hX.1.2.1 hr (fun t ht hW => ⟨⟨rfl, by rw [ht]; exact hP⟩, hS.F ht⟩) hS.2.2 (hd pc hpc) hX.2.2.1
theorem mRetZ (hX : mX p s m args meth c bs nL own D ca A) (hr : meth.sig.returnType = some .boolean) {x : Int32} (h : r = some (.int x)) (hx : narrow .boolean (.int x) = .int x) {rets : List Nat} (hd : ∀ pc ∈ rets, decode bs pc = .ok (.ireturn, 1)) :
    mRet (mG p l e R s m args below meth c D ca ad A nL cells slots (MQ below (mQ D ca ad r w2 A) args s cells slots A)) r w2 rets := by
  intro pc hpc lv st w hst hw H locs ls hP hD hS hl
  subst hst hw h
  exact W.zret hX.1.1 hX.1.2.1 hr hx (fun t ht hW => ⟨⟨rfl, by rw [ht]; exact hP⟩, hS.F ht⟩) hS.2.2 (hd pc hpc) hX.2.2.1
theorem mRetL (hX : mX p s m args meth c bs nL own D ca A) (hr : meth.sig.returnType = some .long) {x : Int64} (h : r = some (.long x)) {rets : List Nat} (hd : ∀ pc ∈ rets, decode bs pc = .ok (.lreturn, 1)) :
    mRet (mG p l e R s m args below meth c D ca ad A nL cells slots (MQ below (mQ D ca ad r w2 A) args s cells slots A)) r w2 rets := by
  intro pc hpc lv st w hst hw H locs ls hP hD hS hl
  subst hst hw h
  exact W.lret hX.1.1 hX.1.2.1 hr (fun t ht hW => ⟨⟨rfl, by rw [ht]; exact hP⟩, hS.F ht⟩) hS.2.2 (hd pc hpc) hX.2.2.1
theorem mRetV (hX : mX p s m args meth c bs nL own D ca A) (hr : meth.sig.returnType = none) (h : r = none) {rets : List Nat} (hd : ∀ pc ∈ rets, decode bs pc = .ok (.return_, 1)) :
    mRet (mG p l e R s m args below meth c D ca ad A nL cells slots (MQ below (mQ D ca ad r w2 A) args s cells slots A)) r w2 rets := by
  intro pc hpc lv st w hst hw H locs ls hP hD hS hl
  subst hst hw h
  exact W.vret hX.1.1 hX.1.2.1 hr (fun t ht hW => ⟨⟨rfl, by rw [ht]; exact hP⟩, hS.F ht⟩) hS.2.2 (hd pc hpc) hX.2.2.1
end MR
theorem mG_sub {p : Program} {l : Launch} {e : Env} {R : Room} {s : State} {m : MethodId} {args : Array Value} {below : List Frame} {meth : Method} {c : Code} {D : va_G} {ca : Nat → ClassId} {ad : Nat → Nat} {A : Nat → Prop} {nL cells slots : Nat} {Q : State → Prop} (pc : Nat) (lv lv2 : mL) (st : List Value) (w : mW) (h : ∀ q ∈ lv2, q ∈ lv) (k : mG p l e R s m args below meth c D ca ad A nL cells slots Q (pc, lv2, st, w)) : mG p l e R s m args below meth c D ca ad A nL cells slots Q (pc, lv, st, w) := by
  intro H locs ls hP hD hS hl
  refine k H locs ls hP hD hS ⟨hl.1, hl.2.1, fun q hq => ?_⟩
  obtain ⟨x, hx, e⟩ := List.mem_map.mp hq
  exact hl.2.2 q (List.mem_map.mpr ⟨x, h x hx, e⟩)
/-- fewer locals, by their places -/
theorem mPk {G : mS → Prop} {tb : List (Nat × mR)} (hT : mTb G tb) (ks : List Nat) {pc : Nat} {lv lv2 : mL} {st : List Value} {w : mW} (h : ks.filterMap (fun k => lv[k]?) = lv2) (k : G (pc, lv2, st, w)) : G (pc, lv, st, w) := by
  refine hT.2 pc lv lv2 st w (fun q hq => ?_) k
  rw [← h] at hq
  obtain ⟨i, -, hi⟩ := List.mem_filterMap.mp hq
  exact List.mem_of_getElem? hi
/-- a method's pack: its rows, its calls, its returns, for any abstract 'stands well' G -/
theorem mPackI {l : Launch} {d : Nat} {y : MethodName} {bs : ByteArray} {nL : Nat} {D : va_G} {ca : Nat → ClassId} {ad : Nat → Nat} {av : List Value} {w : mW} {x : Int32} {w2 : mW} {tb : List (Nat × mR)} {CF : (mS → Prop) → Prop} (rets : List Nat) (hy : plainFor y = true) (hlen : (lg_sl av).length ≤ nL) (hT : ∀ q ∈ tb, mOk bs y.cls nL q.1 q.2)
    (hC : ∀ (p : Program) (e : Env) (s : State) (m : MethodId) (args : Array Value) (below : List Frame) (meth : Method) (c : Code) (A : Nat → Prop) (Q : State → Prop), mX p s m args meth c bs nL y.cls D ca A → CF (mG p l e (mRm d) s m args below meth c D ca ad A nL 0 0 Q))
    (hd : ∀ pc ∈ rets, decode bs pc = .ok (.ireturn, 1)) (body : ∀ G : mS → Prop, mTb G tb → CF G → mRet G (some (.int x)) w2 rets → G (0, lv_args 0 av, [], w)) : mC l d y bs nL (some .int) D ca ad av w (some (.int x)) w2 :=
  mMk hy hlen (fun p e s m args below meth c A hX hr => body _ ⟨fun q hq lv st w σ h k => hT q hq p l e _ s m args below meth c D ca ad A 0 0 _ hX lv st w σ h k, mG_sub⟩ (hC p e s m args below meth c A _ hX) (mRetI hX hr rfl hd))
theorem mPackZ {l : Launch} {d : Nat} {y : MethodName} {bs : ByteArray} {nL : Nat} {D : va_G} {ca : Nat → ClassId} {ad : Nat → Nat} {av : List Value} {w : mW} {x : Int32} {w2 : mW} {tb : List (Nat × mR)} {CF : (mS → Prop) → Prop} (rets : List Nat) (hy : plainFor y = true) (hlen : (lg_sl av).length ≤ nL) (hT : ∀ q ∈ tb, mOk bs y.cls nL q.1 q.2)
    (hC : ∀ (p : Program) (e : Env) (s : State) (m : MethodId) (args : Array Value) (below : List Frame) (meth : Method) (c : Code) (A : Nat → Prop) (Q : State → Prop), mX p s m args meth c bs nL y.cls D ca A → CF (mG p l e (mRm d) s m args below meth c D ca ad A nL 0 0 Q))
    (hd : ∀ pc ∈ rets, decode bs pc = .ok (.ireturn, 1)) (hx : x = 0 ∨ x = 1) (body : ∀ G : mS → Prop, mTb G tb → CF G → mRet G (some (.int x)) w2 rets → G (0, lv_args 0 av, [], w)) : mC l d y bs nL (some .boolean) D ca ad av w (some (.int x)) w2 :=
  mMk hy hlen (fun p e s m args below meth c A hX hr => body _ ⟨fun q hq lv st w σ h k => hT q hq p l e _ s m args below meth c D ca ad A 0 0 _ hX lv st w σ h k, mG_sub⟩ (hC p e s m args below meth c A _ hX) (mRetZ hX hr rfl (by rcases hx with h | h <;> subst h <;> rfl) hd))
theorem mPackL {l : Launch} {d : Nat} {y : MethodName} {bs : ByteArray} {nL : Nat} {D : va_G} {ca : Nat → ClassId} {ad : Nat → Nat} {av : List Value} {w : mW} {x : Int64} {w2 : mW} {tb : List (Nat × mR)} {CF : (mS → Prop) → Prop} (rets : List Nat) (hy : plainFor y = true) (hlen : (lg_sl av).length ≤ nL) (hT : ∀ q ∈ tb, mOk bs y.cls nL q.1 q.2)
    (hC : ∀ (p : Program) (e : Env) (s : State) (m : MethodId) (args : Array Value) (below : List Frame) (meth : Method) (c : Code) (A : Nat → Prop) (Q : State → Prop), mX p s m args meth c bs nL y.cls D ca A → CF (mG p l e (mRm d) s m args below meth c D ca ad A nL 0 0 Q))
    (hd : ∀ pc ∈ rets, decode bs pc = .ok (.lreturn, 1)) (body : ∀ G : mS → Prop, mTb G tb → CF G → mRet G (some (.long x)) w2 rets → G (0, lv_args 0 av, [], w)) : mC l d y bs nL (some .long) D ca ad av w (some (.long x)) w2 :=
  mMk hy hlen (fun p e s m args below meth c A hX hr => body _ ⟨fun q hq lv st w σ h k => hT q hq p l e _ s m args below meth c D ca ad A 0 0 _ hX lv st w σ h k, mG_sub⟩ (hC p e s m args below meth c A _ hX) (mRetL hX hr rfl hd))
theorem mPackV {l : Launch} {d : Nat} {y : MethodName} {bs : ByteArray} {nL : Nat} {D : va_G} {ca : Nat → ClassId} {ad : Nat → Nat} {av : List Value} {w : mW} {w2 : mW} {tb : List (Nat × mR)} {CF : (mS → Prop) → Prop} (rets : List Nat) (hy : plainFor y = true) (hlen : (lg_sl av).length ≤ nL) (hT : ∀ q ∈ tb, mOk bs y.cls nL q.1 q.2)
    (hC : ∀ (p : Program) (e : Env) (s : State) (m : MethodId) (args : Array Value) (below : List Frame) (meth : Method) (c : Code) (A : Nat → Prop) (Q : State → Prop), mX p s m args meth c bs nL y.cls D ca A → CF (mG p l e (mRm d) s m args below meth c D ca ad A nL 0 0 Q))
    (hd : ∀ pc ∈ rets, decode bs pc = .ok (.return_, 1)) (body : ∀ G : mS → Prop, mTb G tb → CF G → mRet G none w2 rets → G (0, lv_args 0 av, [], w)) : mC l d y bs nL none D ca ad av w none w2 :=
  mMk hy hlen (fun p e s m args below meth c A hX hr => body _ ⟨fun q hq lv st w σ h k => hT q hq p l e _ s m args below meth c D ca ad A 0 0 _ hX lv st w σ h k, mG_sub⟩ (hC p e s m args below meth c A _ hX) (mRetV hX hr rfl hd))
