/-! THE LAW over two pictures: X the class's cells, M the reference's -/
def LG (p : Program) (l : Launch) (e : Env) (s : State) (m : MethodId) (below : List Frame) (meth : Method) (c : Code) (b : Nat) (D : va_G) (ca : Nat → ClassId) (ax am : Nat → Nat) (pc : Nat) (lv : List (Nat × Value)) (st : List Value) (X M : mW) : Prop :=
  ∀ (H : Heap) (locs : List Loc) (ls : Array Slot), va_P D mCls (cW ax ca X) H → va_P D mCls (cW am ca M) H → va_D (fun q : Nat => s.heap.size ≤ q) (cW ax ca X) → va_D (fun q : Nat => s.heap.size ≤ q) (cW am ca M) → (∀ j k : Nat, j < 65 → k < 14 → ax j ≠ am k) → X.length = 65 → M.length = 14 → va_S (fun q : Nat => s.heap.size ≤ q) s.heap H locs → lv_has ls 4 lv →
    W p l e room_1 s m #[Value.ref b] below meth c H locs 600000 7302250 (lw_Z below #[Value.ref b] s) (F0 m pc ls st)
theorem ix_len {X M : mW} (h : IX X M) : X.length = 65 ∧ M.length = 14 := by
  obtain ⟨n, vs, be, de, sz, ro, co, mi, T, B, bk, df, wo, un, h, bo, ta, tr, r2, ot, Bm, rfl, rfl, hI⟩ := h
  exact ⟨rfl, rfl⟩
theorem ix_x {X M : mW} (h : IX X M) : ∃ fs : List Value, X[0]? = some (.inl (2, fs)) := by
  obtain ⟨n, vs, be, de, sz, ro, co, mi, T, B, bk, df, wo, un, h, bo, ta, tr, r2, ot, Bm, rfl, rfl, hI⟩ := h
  exact ⟨_, rfl⟩
theorem ix_m {X M : mW} (h : IX X M) : ∃ fs : List Value, M[0]? = some (.inl (3, fs)) := by
  obtain ⟨n, vs, be, de, sz, ro, co, mi, T, B, bk, df, wo, un, h, bo, ta, tr, r2, ot, Bm, rfl, rfl, hI⟩ := h
  exact ⟨_, rfl⟩
theorem lw_apart {ax am : Nat → Nat} {ca : Nat → ClassId} {X M : mW} {H : Heap} {D : va_G} (hN : ∀ j k : Nat, j < X.length → k < M.length → ax j ≠ am k) (hQ : va_P D mCls (cW am ca M) H) {k : Nat} {x : Nat × va_E} (hx : (cW am ca M)[k]? = some x) : ¬ va_A (cW ax ca X) H.size x.1 := by
  intro z
  rcases z with ⟨j, y, hj⟩ | z
  · obtain ⟨x1, h1, e1⟩ := cW_of hj
    obtain ⟨x2, h2, e2⟩ := cW_of hx
    have f1 : x.1 = ax j := congrArg Prod.fst e1
    have f2 : x.1 = am k := congrArg Prod.fst e2
    exact hN j k (List.getElem?_eq_some_iff.mp h1).1 (List.getElem?_eq_some_iff.mp h2).1 (f1.symm.trans f2)
  · exact absurd (hQ k x hx).lt (Nat.not_lt.mpr z)
section LW
variable {p : Program} {l : Launch} {e : Env} {s : State} {m : MethodId} {below : List Frame} {meth : Method} {c : Code} {b L : Nat} {xs : Nat → Int32} {D : va_G} {ca : Nat → ClassId} {ax am : Nat → Nat}

theorem lwX (C : lw_At p s m meth c b L xs) (hK : mK D ca s) {pc ci n index nL2 d2 : Nat} {y : MethodName} {bs2 : ByteArray} {rt2 : Option FieldType} {T : u_T} {N : Nat} (hd : decode code pc = .ok (.invokevirtual index, 3)) (hc : mCls[ci]? = some (y.cls, T, N)) (hk : mLk R_law index y bs2 nL2 rt2 n) (hi : Cond.instanceMethod y ∈ mTbl) (hs : Cond.selects y.cls y y ∈ mTbl) (hR : d2 + 1 ≤ room_1.frames ∧ 8 + (nL2 + 11) + 32 * d2 ≤ room_1.locals)
    {lv : List (Nat × Value)} (As rest : List Value) {M w w2 : mW} {r : Value} (hC : mC l d2 y bs2 nL2 rt2 D ca ax (.ref 0 :: As) w (some r) w2) (hn : As.length = n) (ha : ∃ fs : List Value, w[0]? = some (.inl (ci, fs))) (hsum : (rest.map fun v => v.category).sum ≤ 8) (hw : w2.length = w.length)
    (k : LG p l e s m below meth c b D ca ax am (pc + 3) lv (cz ax r :: rest) w2 M) : LG p l e s m below meth c b D ca ax am pc lv ((As.map (cz ax)).reverse ++ .ref (ax 0) :: rest) w M := by
  intro H locs ls hP hQ hD hE hN h65 h14 hS hl
  obtain ⟨fs, ha⟩ := ha
  have ht : ∀ x ∈ mTbl, x.before #[Value.ref b] s = true := fun x hx => C.2.2.2.2.2.1 x (List.mem_filter.mp hx).1
  have hF : CallFix p m c code 4 s #[Value.ref b] mTbl R_law := ⟨C.1, C.2.1, C.2.2.2.1, C.2.2.2.2.1, ht⟩
  have hr := va_runV (l := l) (e := e) (R := room_1) (below := below) (meth := meth) (locs := locs) (cells := 600000) (slots := 7302250) (g := F0 m pc ls ((As.map (cz ax)).reverse ++ .ref (ax 0) :: rest)) (rest := rest) (C := y.cls) (index := index) (b := ax 0) (As := As.map (cz ax)) hF (hC H.size) ⟨callB_of n ht (mGood hk.2.2.1) rfl rfl rfl (ht _ hk.2.1) (ht _ hk.1) hk.2.2.2 hR, ht _ hi, ht _ hs⟩ ⟨mPc_blind _ _ _ _ _ _, va_recv hK.1 hP hc (cW_at ha), fun U hU hW => ⟨rfl, by rw [hU], by rw [hU]; exact hP, hK.warm hW, hD.weaken (fun _ _ _ _ => trivial)⟩⟩ rfl (by rw [List.length_map]; exact hn) hl.1 rfl (lv_room hsum) hd ⟨Nat.le_refl _, Nat.le_refl _⟩
  have hFr : ∀ q, va_A (cW ax ca w) H.size q → s.heap.size ≤ q := fun q h => by
    rcases h with ⟨k, x, h⟩ | h
    · exact hD.2 k _ h
    · exact Nat.le_trans hS.1 h
  intro T hT Xs
  obtain ⟨v, st₀, t, T', L', h0, X', hL, e1, e2, ⟨⟨hv, hP1⟩, hz, hk2⟩, st⟩ := hr T hT Xs
  cases hv
  rw [h0] at hz hk2
  have hO1 : va_P D mCls (cW am ca M) T'.heap := hQ.kept (fun k x hx => by rw [e1]; exact hk2 x.1 (hQ k x hx).lt (lw_apart (fun j k hj hk => hN j k (by omega) (by omega)) hQ hx))
  obtain ⟨t2, a1, b1⟩ := k T'.heap (locs ++ L') ls (by rw [e1]; exact hP1) hO1 (va_D_len hD hw (fun k hk => hD.2 k _ (cW_at (List.getElem?_eq_getElem hk)))) hE hN (hw.trans h65) h14
    ⟨Nat.le_trans hS.1 (by rw [e1]; exact hz), fun q h1 h2 => by rw [e1, hk2 q (Nat.lt_of_lt_of_le h1 hS.1) (fun z => h2 (hFr q z))]; exact hS.2.1 q h1 h2, fun q hq => by
      rcases List.mem_append.mp hq with h | h
      · exact hS.2.2 q h
      · exact hFr _ (hL q h)⟩ hl T' rfl X'
  exact ⟨t2, st t2 a1, b1⟩
theorem lwM (C : lw_At p s m meth c b L xs) (hK : mK D ca s) {pc ci n index nL2 d2 : Nat} {y : MethodName} {bs2 : ByteArray} {rt2 : Option FieldType} {T : u_T} {N : Nat} (hd : decode code pc = .ok (.invokevirtual index, 3)) (hc : mCls[ci]? = some (y.cls, T, N)) (hk : mLk R_law index y bs2 nL2 rt2 n) (hi : Cond.instanceMethod y ∈ mTbl) (hs : Cond.selects y.cls y y ∈ mTbl) (hR : d2 + 1 ≤ room_1.frames ∧ 8 + (nL2 + 11) + 32 * d2 ≤ room_1.locals)
    {lv : List (Nat × Value)} (As rest : List Value) {X w w2 : mW} {r : Value} (hC : mC l d2 y bs2 nL2 rt2 D ca am (.ref 0 :: As) w (some r) w2) (hn : As.length = n) (ha : ∃ fs : List Value, w[0]? = some (.inl (ci, fs))) (hsum : (rest.map fun v => v.category).sum ≤ 8) (hw : w2.length = w.length)
    (k : LG p l e s m below meth c b D ca ax am (pc + 3) lv (cz am r :: rest) X w2) : LG p l e s m below meth c b D ca ax am pc lv ((As.map (cz am)).reverse ++ .ref (am 0) :: rest) X w := by
  intro H locs ls hP hQ hD hE hN h65 h14 hS hl
  obtain ⟨fs, ha⟩ := ha
  have ht : ∀ x ∈ mTbl, x.before #[Value.ref b] s = true := fun x hx => C.2.2.2.2.2.1 x (List.mem_filter.mp hx).1
  have hF : CallFix p m c code 4 s #[Value.ref b] mTbl R_law := ⟨C.1, C.2.1, C.2.2.2.1, C.2.2.2.2.1, ht⟩
  have hr := va_runV (l := l) (e := e) (R := room_1) (below := below) (meth := meth) (locs := locs) (cells := 600000) (slots := 7302250) (g := F0 m pc ls ((As.map (cz am)).reverse ++ .ref (am 0) :: rest)) (rest := rest) (C := y.cls) (index := index) (b := am 0) (As := As.map (cz am)) hF (hC H.size) ⟨callB_of n ht (mGood hk.2.2.1) rfl rfl rfl (ht _ hk.2.1) (ht _ hk.1) hk.2.2.2 hR, ht _ hi, ht _ hs⟩ ⟨mPc_blind _ _ _ _ _ _, va_recv hK.1 hQ hc (cW_at ha), fun U hU hW => ⟨rfl, by rw [hU], by rw [hU]; exact hQ, hK.warm hW, hE.weaken (fun _ _ _ _ => trivial)⟩⟩ rfl (by rw [List.length_map]; exact hn) hl.1 rfl (lv_room hsum) hd ⟨Nat.le_refl _, Nat.le_refl _⟩
  have hFr : ∀ q, va_A (cW am ca w) H.size q → s.heap.size ≤ q := fun q h => by
    rcases h with ⟨k, x, h⟩ | h
    · exact hE.2 k _ h
    · exact Nat.le_trans hS.1 h
  intro T hT Xs
  obtain ⟨v, st₀, t, T', L', h0, X', hL, e1, e2, ⟨⟨hv, hP1⟩, hz, hk2⟩, st⟩ := hr T hT Xs
  cases hv
  rw [h0] at hz hk2
  have hO1 : va_P D mCls (cW ax ca X) T'.heap := hP.kept (fun k x hx => by rw [e1]; exact hk2 x.1 (hP k x hx).lt (lw_apart (fun j k hj hk z => hN k j (by omega) (by omega) z.symm) hP hx))
  obtain ⟨t2, a1, b1⟩ := k T'.heap (locs ++ L') ls hO1 (by rw [e1]; exact hP1) hD (va_D_len hE hw (fun k hk => hE.2 k _ (cW_at (List.getElem?_eq_getElem hk)))) hN h65 (hw.trans h14)
    ⟨Nat.le_trans hS.1 (by rw [e1]; exact hz), fun q h1 h2 => by rw [e1, hk2 q (Nat.lt_of_lt_of_le h1 hS.1) (fun z => h2 (hFr q z))]; exact hS.2.1 q h1 h2, fun q hq => by
      rcases List.mem_append.mp hq with h | h
      · exact hS.2.2 q h
      · exact hFr _ (hL q h)⟩ hl T' rfl X'
  exact ⟨t2, st t2 a1, b1⟩
theorem lwLd (C : lw_At p s m meth c b L xs) (hL : L ≤ 3072) {pc i k : Nat} {n : Int} (hin : i + k < L) (d0 : decode code pc = .ok (.aload_n 0, 1)) (d1 : decode code (pc + 1) = .ok (.iload_n 3, 1)) (d2 : decode code (pc + 2) = .ok (.iconst n, 1)) (d3 : decode code (pc + 3) = .ok (.iadd, 1)) (d4 : decode code (pc + 4) = .ok (.iaload, 1)) (hk : Int32.ofInt n = Int32.ofNat k)
    {H : Heap} {locs : List Loc} {ls : Array Slot} {rest : List Value} {cells slots : Nat} {Q : State → Prop} (hS : va_S (fun q : Nat => s.heap.size ≤ q) s.heap H locs) (hl : lv_has ls 4 [(0, .ref b), (1, .ref (ax 0)), (2, .ref (am 0)), (3, .int (Int32.ofNat i))])
    (kk : W p l e room_1 s m #[Value.ref b] below meth c H locs cells slots Q (F0 m (pc + 5) ls (.int (xs (i + k)) :: rest))) : W p l e room_1 s m #[Value.ref b] below meth c H locs cells slots Q (F0 m pc ls rest) := by
  obtain ⟨hx, hb, hr, hml, hown, hts, hX, hbl, hlocks, hgv⟩ := id C
  refine lv_aload_n hx hb d0 rfl (lv_at hl 0 rfl) ?_
  refine lv_iload_n hx hb d1 rfl (lv_at hl 3 rfl) ?_
  refine lv_iconst hx hb d2 hk ?_
  refine lv_iadd hx hb d3 ?_
  have e1 : Int32.ofNat i + Int32.ofNat k = Int32.ofNat (i + k) := nI_add i k
  have e2 : (Int32.ofNat (i + k)).toNatClampNeg = i + k := nI_clamp (by omega)
  rw [e1]
  refine va_sld hx hb hX hbl (A := fun q : Nat => s.heap.size ≤ q) (Nat.not_le.mpr hbl) hS (vp_in_nI hin (by omega)) d4 ?_
  rw [e2]
  exact kk

theorem lc_making (C : lw_At p s m meth c b L xs) (hK : mK D ca s) (hL : L ≤ 3072) {i : Nat} (hi : i + 6 ≤ L) {X M : mW} (hI : IX X M) (kk : ∀ X2 M2 : mW, IX X2 M2 → LG p l e s m below meth c b D ca ax am 956 [(0, .ref b), (1, .ref (ax 0)), (2, .ref (am 0)), (3, .int (Int32.ofNat i))] [] X2 M2) : LG p l e s m below meth c b D ca ax am 140 [(0, .ref b), (1, .ref (ax 0)), (2, .ref (am 0)), (3, .int (Int32.ofNat i))] [] X M := by
  obtain ⟨v, X2, M2, hI2, cx, cm⟩ := s_making (l := l) (D := D) (ca := ca) (ad := ax) (ae := am)  hI
  have hx := C.1
  have hb := C.2.1
  have lx := (ix_len hI2).1.trans (ix_len hI).1.symm
  have lm := (ix_len hI2).2.trans (ix_len hI).2.symm
  intro H locs ls hP hQ hD hE hN h65 h14 hS hl
  refine lv_aload_n hx hb dL_140 rfl (lv_at hl 1 rfl) ?_
  refine lwX C hK (ci := 2) (n := 0) (index := 13) (d2 := 0) (y := yX2_making) (bs2 := cX2_making) (nL2 := 1) (rt2 := (some .int)) (T := TX2) (N := 8) dL_141 rfl ⟨by decide +kernel, by decide +kernel, by decide +kernel, by decide +kernel, by decide +kernel, by decide +kernel⟩ (by decide +kernel) (by decide +kernel) (by decide) [] [] cx rfl (ix_x hI) (Nat.le_of_ble_eq_true rfl) lx ?_ H locs ls hP hQ hD hE hN h65 h14 hS hl
  intro H locs ls hP hQ hD hE hN h65 h14 hS hl
  refine lv_aload_n hx hb dL_144 rfl (lv_at hl 2 rfl) ?_
  refine lwM C hK (ci := 3) (n := 0) (index := 17) (d2 := 0) (y := yX3_making) (bs2 := cX3_making) (nL2 := 2) (rt2 := (some .int)) (T := TX3) (N := 18) dL_145 rfl ⟨by decide +kernel, by decide +kernel, by decide +kernel, by decide +kernel, by decide +kernel, by decide +kernel⟩ (by decide +kernel) (by decide +kernel) (by decide) [] [.int v] cm rfl (ix_m hI) (Nat.le_of_ble_eq_true rfl) lm ?_ H locs ls hP hQ hD hE hN h65 h14 hS hl
  intro H locs ls hP hQ hD hE hN h65 h14 hS hl
  refine lv_icmp_eq (tgt := 956) hx hb dL_148 (by decide) (fun _ => ?_) (fun q => absurd rfl q)
  exact kk X2 M2 hI2 H locs ls hP hQ hD hE hN h65 h14 hS hl
theorem lc_out (C : lw_At p s m meth c b L xs) (hK : mK D ca s) (hL : L ≤ 3072) {i : Nat} (hi : i + 6 ≤ L) {X M : mW} (hI : IX X M) (kk : ∀ X2 M2 : mW, IX X2 M2 → LG p l e s m below meth c b D ca ax am 956 [(0, .ref b), (1, .ref (ax 0)), (2, .ref (am 0)), (3, .int (Int32.ofNat i))] [] X2 M2) : LG p l e s m below meth c b D ca ax am 153 [(0, .ref b), (1, .ref (ax 0)), (2, .ref (am 0)), (3, .int (Int32.ofNat i))] [] X M := by
  obtain ⟨v, X2, M2, hI2, cx, cm⟩ := s_out (l := l) (D := D) (ca := ca) (ad := ax) (ae := am) (xs (i + 1)) (xs (i + 2)) hI
  have hx := C.1
  have hb := C.2.1
  have lx := (ix_len hI2).1.trans (ix_len hI).1.symm
  have lm := (ix_len hI2).2.trans (ix_len hI).2.symm
  intro H locs ls hP hQ hD hE hN h65 h14 hS hl
  refine lv_aload_n hx hb dL_153 rfl (lv_at hl 1 rfl) ?_
  refine lwLd (k := 1) C hL (by omega) dL_154 dL_155 dL_156 dL_157 dL_158 (by decide) hS hl ?_
  refine lwLd (k := 2) C hL (by omega) dL_159 dL_160 dL_161 dL_162 dL_163 (by decide) hS hl ?_
  refine lwX C hK (ci := 2) (n := 2) (index := 18) (d2 := 2) (y := yX2_out) (bs2 := cX2_out) (nL2 := 3) (rt2 := (some .int)) (T := TX2) (N := 8) dL_164 rfl ⟨by decide +kernel, by decide +kernel, by decide +kernel, by decide +kernel, by decide +kernel, by decide +kernel⟩ (by decide +kernel) (by decide +kernel) (by decide) [.int (xs (i + 1)), .int (xs (i + 2))] [] cx rfl (ix_x hI) (Nat.le_of_ble_eq_true rfl) lx ?_ H locs ls hP hQ hD hE hN h65 h14 hS hl
  intro H locs ls hP hQ hD hE hN h65 h14 hS hl
  refine lv_aload_n hx hb dL_167 rfl (lv_at hl 2 rfl) ?_
  refine lwLd (k := 1) C hL (by omega) dL_168 dL_169 dL_170 dL_171 dL_172 (by decide) hS hl ?_
  refine lwLd (k := 2) C hL (by omega) dL_173 dL_174 dL_175 dL_176 dL_177 (by decide) hS hl ?_
  refine lwM C hK (ci := 3) (n := 2) (index := 22) (d2 := 2) (y := yX3_out) (bs2 := cX3_out) (nL2 := 4) (rt2 := (some .int)) (T := TX3) (N := 18) dL_178 rfl ⟨by decide +kernel, by decide +kernel, by decide +kernel, by decide +kernel, by decide +kernel, by decide +kernel⟩ (by decide +kernel) (by decide +kernel) (by decide) [.int (xs (i + 1)), .int (xs (i + 2))] [.int v] cm rfl (ix_m hI) (Nat.le_of_ble_eq_true rfl) lm ?_ H locs ls hP hQ hD hE hN h65 h14 hS hl
  intro H locs ls hP hQ hD hE hN h65 h14 hS hl
  refine lv_icmp_eq (tgt := 956) hx hb dL_181 (by decide) (fun _ => ?_) (fun q => absurd rfl q)
  exact kk X2 M2 hI2 H locs ls hP hQ hD hE hN h65 h14 hS hl
theorem lc_needs (C : lw_At p s m meth c b L xs) (hK : mK D ca s) (hL : L ≤ 3072) {i : Nat} (hi : i + 6 ≤ L) {X M : mW} (hI : IX X M) (kk : ∀ X2 M2 : mW, IX X2 M2 → LG p l e s m below meth c b D ca ax am 956 [(0, .ref b), (1, .ref (ax 0)), (2, .ref (am 0)), (3, .int (Int32.ofNat i))] [] X2 M2) : LG p l e s m below meth c b D ca ax am 186 [(0, .ref b), (1, .ref (ax 0)), (2, .ref (am 0)), (3, .int (Int32.ofNat i))] [] X M := by
  obtain ⟨v, X2, M2, hI2, cx, cm⟩ := s_needs (l := l) (D := D) (ca := ca) (ad := ax) (ae := am) (xs (i + 1)) (xs (i + 2)) (xs (i + 3)) hI
  have hx := C.1
  have hb := C.2.1
  have lx := (ix_len hI2).1.trans (ix_len hI).1.symm
  have lm := (ix_len hI2).2.trans (ix_len hI).2.symm
  intro H locs ls hP hQ hD hE hN h65 h14 hS hl
  refine lv_aload_n hx hb dL_186 rfl (lv_at hl 1 rfl) ?_
  refine lwLd (k := 1) C hL (by omega) dL_187 dL_188 dL_189 dL_190 dL_191 (by decide) hS hl ?_
  refine lwLd (k := 2) C hL (by omega) dL_192 dL_193 dL_194 dL_195 dL_196 (by decide) hS hl ?_
  refine lwLd (k := 3) C hL (by omega) dL_197 dL_198 dL_199 dL_200 dL_201 (by decide) hS hl ?_
  refine lwX C hK (ci := 2) (n := 3) (index := 23) (d2 := 2) (y := yX2_needs) (bs2 := cX2_needs) (nL2 := 4) (rt2 := (some .int)) (T := TX2) (N := 8) dL_202 rfl ⟨by decide +kernel, by decide +kernel, by decide +kernel, by decide +kernel, by decide +kernel, by decide +kernel⟩ (by decide +kernel) (by decide +kernel) (by decide) [.int (xs (i + 1)), .int (xs (i + 2)), .int (xs (i + 3))] [] cx rfl (ix_x hI) (Nat.le_of_ble_eq_true rfl) lx ?_ H locs ls hP hQ hD hE hN h65 h14 hS hl
  intro H locs ls hP hQ hD hE hN h65 h14 hS hl
  refine lv_aload_n hx hb dL_205 rfl (lv_at hl 2 rfl) ?_
  refine lwLd (k := 1) C hL (by omega) dL_206 dL_207 dL_208 dL_209 dL_210 (by decide) hS hl ?_
  refine lwLd (k := 2) C hL (by omega) dL_211 dL_212 dL_213 dL_214 dL_215 (by decide) hS hl ?_
  refine lwLd (k := 3) C hL (by omega) dL_216 dL_217 dL_218 dL_219 dL_220 (by decide) hS hl ?_
  refine lwM C hK (ci := 3) (n := 3) (index := 27) (d2 := 2) (y := yX3_needs) (bs2 := cX3_needs) (nL2 := 6) (rt2 := (some .int)) (T := TX3) (N := 18) dL_221 rfl ⟨by decide +kernel, by decide +kernel, by decide +kernel, by decide +kernel, by decide +kernel, by decide +kernel⟩ (by decide +kernel) (by decide +kernel) (by decide) [.int (xs (i + 1)), .int (xs (i + 2)), .int (xs (i + 3))] [.int v] cm rfl (ix_m hI) (Nat.le_of_ble_eq_true rfl) lm ?_ H locs ls hP hQ hD hE hN h65 h14 hS hl
  intro H locs ls hP hQ hD hE hN h65 h14 hS hl
  refine lv_icmp_eq (tgt := 956) hx hb dL_224 (by decide) (fun _ => ?_) (fun q => absurd rfl q)
  exact kk X2 M2 hI2 H locs ls hP hQ hD hE hN h65 h14 hS hl
theorem lc_by (C : lw_At p s m meth c b L xs) (hK : mK D ca s) (hL : L ≤ 3072) {i : Nat} (hi : i + 6 ≤ L) {X M : mW} (hI : IX X M) (kk : ∀ X2 M2 : mW, IX X2 M2 → LG p l e s m below meth c b D ca ax am 956 [(0, .ref b), (1, .ref (ax 0)), (2, .ref (am 0)), (3, .int (Int32.ofNat i))] [] X2 M2) : LG p l e s m below meth c b D ca ax am 229 [(0, .ref b), (1, .ref (ax 0)), (2, .ref (am 0)), (3, .int (Int32.ofNat i))] [] X M := by
  obtain ⟨v, X2, M2, hI2, cx, cm⟩ := s_by (l := l) (D := D) (ca := ca) (ad := ax) (ae := am) (xs (i + 1)) (xs (i + 2)) (xs (i + 3)) hI
  have hx := C.1
  have hb := C.2.1
  have lx := (ix_len hI2).1.trans (ix_len hI).1.symm
  have lm := (ix_len hI2).2.trans (ix_len hI).2.symm
  intro H locs ls hP hQ hD hE hN h65 h14 hS hl
  refine lv_aload_n hx hb dL_229 rfl (lv_at hl 1 rfl) ?_
  refine lwLd (k := 1) C hL (by omega) dL_230 dL_231 dL_232 dL_233 dL_234 (by decide) hS hl ?_
  refine lwLd (k := 2) C hL (by omega) dL_235 dL_236 dL_237 dL_238 dL_239 (by decide) hS hl ?_
  refine lwLd (k := 3) C hL (by omega) dL_240 dL_241 dL_242 dL_243 dL_244 (by decide) hS hl ?_
  refine lwX C hK (ci := 2) (n := 3) (index := 28) (d2 := 2) (y := yX2_by) (bs2 := cX2_by) (nL2 := 4) (rt2 := (some .int)) (T := TX2) (N := 8) dL_245 rfl ⟨by decide +kernel, by decide +kernel, by decide +kernel, by decide +kernel, by decide +kernel, by decide +kernel⟩ (by decide +kernel) (by decide +kernel) (by decide) [.int (xs (i + 1)), .int (xs (i + 2)), .int (xs (i + 3))] [] cx rfl (ix_x hI) (Nat.le_of_ble_eq_true rfl) lx ?_ H locs ls hP hQ hD hE hN h65 h14 hS hl
  intro H locs ls hP hQ hD hE hN h65 h14 hS hl
  refine lv_aload_n hx hb dL_248 rfl (lv_at hl 2 rfl) ?_
  refine lwLd (k := 1) C hL (by omega) dL_249 dL_250 dL_251 dL_252 dL_253 (by decide) hS hl ?_
  refine lwLd (k := 2) C hL (by omega) dL_254 dL_255 dL_256 dL_257 dL_258 (by decide) hS hl ?_
  refine lwLd (k := 3) C hL (by omega) dL_259 dL_260 dL_261 dL_262 dL_263 (by decide) hS hl ?_
  refine lwM C hK (ci := 3) (n := 3) (index := 31) (d2 := 2) (y := yX3_by) (bs2 := cX3_by) (nL2 := 6) (rt2 := (some .int)) (T := TX3) (N := 18) dL_264 rfl ⟨by decide +kernel, by decide +kernel, by decide +kernel, by decide +kernel, by decide +kernel, by decide +kernel⟩ (by decide +kernel) (by decide +kernel) (by decide) [.int (xs (i + 1)), .int (xs (i + 2)), .int (xs (i + 3))] [.int v] cm rfl (ix_m hI) (Nat.le_of_ble_eq_true rfl) lm ?_ H locs ls hP hQ hD hE hN h65 h14 hS hl
  intro H locs ls hP hQ hD hE hN h65 h14 hS hl
  refine lv_icmp_eq (tgt := 956) hx hb dL_267 (by decide) (fun _ => ?_) (fun q => absurd rfl q)
  exact kk X2 M2 hI2 H locs ls hP hQ hD hE hN h65 h14 hS hl
theorem lc_emits (C : lw_At p s m meth c b L xs) (hK : mK D ca s) (hL : L ≤ 3072) {i : Nat} (hi : i + 6 ≤ L) {X M : mW} (hI : IX X M) (kk : ∀ X2 M2 : mW, IX X2 M2 → LG p l e s m below meth c b D ca ax am 956 [(0, .ref b), (1, .ref (ax 0)), (2, .ref (am 0)), (3, .int (Int32.ofNat i))] [] X2 M2) : LG p l e s m below meth c b D ca ax am 272 [(0, .ref b), (1, .ref (ax 0)), (2, .ref (am 0)), (3, .int (Int32.ofNat i))] [] X M := by
  obtain ⟨v, X2, M2, hI2, cx, cm⟩ := s_emits (l := l) (D := D) (ca := ca) (ad := ax) (ae := am) (xs (i + 1)) (xs (i + 2)) (xs (i + 3)) (xs (i + 4)) (xs (i + 5)) hI
  have hx := C.1
  have hb := C.2.1
  have lx := (ix_len hI2).1.trans (ix_len hI).1.symm
  have lm := (ix_len hI2).2.trans (ix_len hI).2.symm
  intro H locs ls hP hQ hD hE hN h65 h14 hS hl
  refine lv_aload_n hx hb dL_272 rfl (lv_at hl 1 rfl) ?_
  refine lwLd (k := 1) C hL (by omega) dL_273 dL_274 dL_275 dL_276 dL_277 (by decide) hS hl ?_
  refine lwLd (k := 2) C hL (by omega) dL_278 dL_279 dL_280 dL_281 dL_282 (by decide) hS hl ?_
  refine lwLd (k := 3) C hL (by omega) dL_283 dL_284 dL_285 dL_286 dL_287 (by decide) hS hl ?_
  refine lwLd (k := 4) C hL (by omega) dL_288 dL_289 dL_290 dL_291 dL_292 (by decide) hS hl ?_
  refine lwLd (k := 5) C hL (by omega) dL_293 dL_294 dL_295 dL_296 dL_297 (by decide) hS hl ?_
  refine lwX C hK (ci := 2) (n := 5) (index := 32) (d2 := 2) (y := yX2_emits) (bs2 := cX2_emits) (nL2 := 6) (rt2 := (some .int)) (T := TX2) (N := 8) dL_298 rfl ⟨by decide +kernel, by decide +kernel, by decide +kernel, by decide +kernel, by decide +kernel, by decide +kernel⟩ (by decide +kernel) (by decide +kernel) (by decide) [.int (xs (i + 1)), .int (xs (i + 2)), .int (xs (i + 3)), .int (xs (i + 4)), .int (xs (i + 5))] [] cx rfl (ix_x hI) (Nat.le_of_ble_eq_true rfl) lx ?_ H locs ls hP hQ hD hE hN h65 h14 hS hl
  intro H locs ls hP hQ hD hE hN h65 h14 hS hl
  refine lv_aload_n hx hb dL_301 rfl (lv_at hl 2 rfl) ?_
  refine lwLd (k := 1) C hL (by omega) dL_302 dL_303 dL_304 dL_305 dL_306 (by decide) hS hl ?_
  refine lwLd (k := 2) C hL (by omega) dL_307 dL_308 dL_309 dL_310 dL_311 (by decide) hS hl ?_
  refine lwLd (k := 3) C hL (by omega) dL_312 dL_313 dL_314 dL_315 dL_316 (by decide) hS hl ?_
  refine lwLd (k := 4) C hL (by omega) dL_317 dL_318 dL_319 dL_320 dL_321 (by decide) hS hl ?_
  refine lwLd (k := 5) C hL (by omega) dL_322 dL_323 dL_324 dL_325 dL_326 (by decide) hS hl ?_
  refine lwM C hK (ci := 3) (n := 5) (index := 36) (d2 := 2) (y := yX3_emits) (bs2 := cX3_emits) (nL2 := 7) (rt2 := (some .int)) (T := TX3) (N := 18) dL_327 rfl ⟨by decide +kernel, by decide +kernel, by decide +kernel, by decide +kernel, by decide +kernel, by decide +kernel⟩ (by decide +kernel) (by decide +kernel) (by decide) [.int (xs (i + 1)), .int (xs (i + 2)), .int (xs (i + 3)), .int (xs (i + 4)), .int (xs (i + 5))] [.int v] cm rfl (ix_m hI) (Nat.le_of_ble_eq_true rfl) lm ?_ H locs ls hP hQ hD hE hN h65 h14 hS hl
  intro H locs ls hP hQ hD hE hN h65 h14 hS hl
  refine lv_icmp_eq (tgt := 956) hx hb dL_330 (by decide) (fun _ => ?_) (fun q => absurd rfl q)
  exact kk X2 M2 hI2 H locs ls hP hQ hD hE hN h65 h14 hS hl
theorem lc_good (C : lw_At p s m meth c b L xs) (hK : mK D ca s) (hL : L ≤ 3072) {i : Nat} (hi : i + 6 ≤ L) {X M : mW} (hI : IX X M) (kk : ∀ X2 M2 : mW, IX X2 M2 → LG p l e s m below meth c b D ca ax am 956 [(0, .ref b), (1, .ref (ax 0)), (2, .ref (am 0)), (3, .int (Int32.ofNat i))] [] X2 M2) : LG p l e s m below meth c b D ca ax am 335 [(0, .ref b), (1, .ref (ax 0)), (2, .ref (am 0)), (3, .int (Int32.ofNat i))] [] X M := by
  obtain ⟨v, X2, M2, hI2, cx, cm⟩ := s_good (l := l) (D := D) (ca := ca) (ad := ax) (ae := am) (xs (i + 1)) (xs (i + 2)) (xs (i + 3)) hI
  have hx := C.1
  have hb := C.2.1
  have lx := (ix_len hI2).1.trans (ix_len hI).1.symm
  have lm := (ix_len hI2).2.trans (ix_len hI).2.symm
  intro H locs ls hP hQ hD hE hN h65 h14 hS hl
  refine lv_aload_n hx hb dL_335 rfl (lv_at hl 1 rfl) ?_
  refine lwLd (k := 1) C hL (by omega) dL_336 dL_337 dL_338 dL_339 dL_340 (by decide) hS hl ?_
  refine lwLd (k := 2) C hL (by omega) dL_341 dL_342 dL_343 dL_344 dL_345 (by decide) hS hl ?_
  refine lwLd (k := 3) C hL (by omega) dL_346 dL_347 dL_348 dL_349 dL_350 (by decide) hS hl ?_
  refine lwX C hK (ci := 2) (n := 3) (index := 37) (d2 := 2) (y := yX2_good) (bs2 := cX2_good) (nL2 := 4) (rt2 := (some .int)) (T := TX2) (N := 8) dL_351 rfl ⟨by decide +kernel, by decide +kernel, by decide +kernel, by decide +kernel, by decide +kernel, by decide +kernel⟩ (by decide +kernel) (by decide +kernel) (by decide) [.int (xs (i + 1)), .int (xs (i + 2)), .int (xs (i + 3))] [] cx rfl (ix_x hI) (Nat.le_of_ble_eq_true rfl) lx ?_ H locs ls hP hQ hD hE hN h65 h14 hS hl
  intro H locs ls hP hQ hD hE hN h65 h14 hS hl
  refine lv_aload_n hx hb dL_354 rfl (lv_at hl 2 rfl) ?_
  refine lwLd (k := 1) C hL (by omega) dL_355 dL_356 dL_357 dL_358 dL_359 (by decide) hS hl ?_
  refine lwLd (k := 2) C hL (by omega) dL_360 dL_361 dL_362 dL_363 dL_364 (by decide) hS hl ?_
  refine lwLd (k := 3) C hL (by omega) dL_365 dL_366 dL_367 dL_368 dL_369 (by decide) hS hl ?_
  refine lwM C hK (ci := 3) (n := 3) (index := 40) (d2 := 2) (y := yX3_good) (bs2 := cX3_good) (nL2 := 4) (rt2 := (some .int)) (T := TX3) (N := 18) dL_370 rfl ⟨by decide +kernel, by decide +kernel, by decide +kernel, by decide +kernel, by decide +kernel, by decide +kernel⟩ (by decide +kernel) (by decide +kernel) (by decide) [.int (xs (i + 1)), .int (xs (i + 2)), .int (xs (i + 3))] [.int v] cm rfl (ix_m hI) (Nat.le_of_ble_eq_true rfl) lm ?_ H locs ls hP hQ hD hE hN h65 h14 hS hl
  intro H locs ls hP hQ hD hE hN h65 h14 hS hl
  refine lv_icmp_eq (tgt := 956) hx hb dL_373 (by decide) (fun _ => ?_) (fun q => absurd rfl q)
  exact kk X2 M2 hI2 H locs ls hP hQ hD hE hN h65 h14 hS hl
theorem lc_rule (C : lw_At p s m meth c b L xs) (hK : mK D ca s) (hL : L ≤ 3072) {i : Nat} (hi : i + 6 ≤ L) {X M : mW} (hI : IX X M) (kk : ∀ X2 M2 : mW, IX X2 M2 → LG p l e s m below meth c b D ca ax am 956 [(0, .ref b), (1, .ref (ax 0)), (2, .ref (am 0)), (3, .int (Int32.ofNat i))] [] X2 M2) : LG p l e s m below meth c b D ca ax am 378 [(0, .ref b), (1, .ref (ax 0)), (2, .ref (am 0)), (3, .int (Int32.ofNat i))] [] X M := by
  obtain ⟨v, X2, M2, hI2, cx, cm⟩ := s_rule (l := l) (D := D) (ca := ca) (ad := ax) (ae := am) (xs (i + 1)) (xs (i + 2)) hI
  have hx := C.1
  have hb := C.2.1
  have lx := (ix_len hI2).1.trans (ix_len hI).1.symm
  have lm := (ix_len hI2).2.trans (ix_len hI).2.symm
  intro H locs ls hP hQ hD hE hN h65 h14 hS hl
  refine lv_aload_n hx hb dL_378 rfl (lv_at hl 1 rfl) ?_
  refine lwLd (k := 1) C hL (by omega) dL_379 dL_380 dL_381 dL_382 dL_383 (by decide) hS hl ?_
  refine lwLd (k := 2) C hL (by omega) dL_384 dL_385 dL_386 dL_387 dL_388 (by decide) hS hl ?_
  refine lwX C hK (ci := 2) (n := 2) (index := 41) (d2 := 2) (y := yX2_rule) (bs2 := cX2_rule) (nL2 := 3) (rt2 := (some .int)) (T := TX2) (N := 8) dL_389 rfl ⟨by decide +kernel, by decide +kernel, by decide +kernel, by decide +kernel, by decide +kernel, by decide +kernel⟩ (by decide +kernel) (by decide +kernel) (by decide) [.int (xs (i + 1)), .int (xs (i + 2))] [] cx rfl (ix_x hI) (Nat.le_of_ble_eq_true rfl) lx ?_ H locs ls hP hQ hD hE hN h65 h14 hS hl
  intro H locs ls hP hQ hD hE hN h65 h14 hS hl
  refine lv_aload_n hx hb dL_392 rfl (lv_at hl 2 rfl) ?_
  refine lwLd (k := 1) C hL (by omega) dL_393 dL_394 dL_395 dL_396 dL_397 (by decide) hS hl ?_
  refine lwLd (k := 2) C hL (by omega) dL_398 dL_399 dL_400 dL_401 dL_402 (by decide) hS hl ?_
  refine lwM C hK (ci := 3) (n := 2) (index := 44) (d2 := 2) (y := yX3_rule) (bs2 := cX3_rule) (nL2 := 4) (rt2 := (some .int)) (T := TX3) (N := 18) dL_403 rfl ⟨by decide +kernel, by decide +kernel, by decide +kernel, by decide +kernel, by decide +kernel, by decide +kernel⟩ (by decide +kernel) (by decide +kernel) (by decide) [.int (xs (i + 1)), .int (xs (i + 2))] [.int v] cm rfl (ix_m hI) (Nat.le_of_ble_eq_true rfl) lm ?_ H locs ls hP hQ hD hE hN h65 h14 hS hl
  intro H locs ls hP hQ hD hE hN h65 h14 hS hl
  refine lv_icmp_eq (tgt := 956) hx hb dL_406 (by decide) (fun _ => ?_) (fun q => absurd rfl q)
  exact kk X2 M2 hI2 H locs ls hP hQ hD hE hN h65 h14 hS hl
theorem lc_told (C : lw_At p s m meth c b L xs) (hK : mK D ca s) (hL : L ≤ 3072) {i : Nat} (hi : i + 6 ≤ L) {X M : mW} (hI : IX X M) (kk : ∀ X2 M2 : mW, IX X2 M2 → LG p l e s m below meth c b D ca ax am 956 [(0, .ref b), (1, .ref (ax 0)), (2, .ref (am 0)), (3, .int (Int32.ofNat i))] [] X2 M2) : LG p l e s m below meth c b D ca ax am 411 [(0, .ref b), (1, .ref (ax 0)), (2, .ref (am 0)), (3, .int (Int32.ofNat i))] [] X M := by
  obtain ⟨v, X2, M2, hI2, cx, cm⟩ := s_told (l := l) (D := D) (ca := ca) (ad := ax) (ae := am) (xs (i + 1)) (xs (i + 2)) hI
  have hx := C.1
  have hb := C.2.1
  have lx := (ix_len hI2).1.trans (ix_len hI).1.symm
  have lm := (ix_len hI2).2.trans (ix_len hI).2.symm
  intro H locs ls hP hQ hD hE hN h65 h14 hS hl
  refine lv_aload_n hx hb dL_411 rfl (lv_at hl 1 rfl) ?_
  refine lwLd (k := 1) C hL (by omega) dL_412 dL_413 dL_414 dL_415 dL_416 (by decide) hS hl ?_
  refine lwLd (k := 2) C hL (by omega) dL_417 dL_418 dL_419 dL_420 dL_421 (by decide) hS hl ?_
  refine lwX C hK (ci := 2) (n := 2) (index := 45) (d2 := 1) (y := yX2_told) (bs2 := cX2_told) (nL2 := 3) (rt2 := (some .int)) (T := TX2) (N := 8) dL_422 rfl ⟨by decide +kernel, by decide +kernel, by decide +kernel, by decide +kernel, by decide +kernel, by decide +kernel⟩ (by decide +kernel) (by decide +kernel) (by decide) [.int (xs (i + 1)), .int (xs (i + 2))] [] cx rfl (ix_x hI) (Nat.le_of_ble_eq_true rfl) lx ?_ H locs ls hP hQ hD hE hN h65 h14 hS hl
  intro H locs ls hP hQ hD hE hN h65 h14 hS hl
  refine lv_aload_n hx hb dL_425 rfl (lv_at hl 2 rfl) ?_
  refine lwLd (k := 1) C hL (by omega) dL_426 dL_427 dL_428 dL_429 dL_430 (by decide) hS hl ?_
  refine lwLd (k := 2) C hL (by omega) dL_431 dL_432 dL_433 dL_434 dL_435 (by decide) hS hl ?_
  refine lwM C hK (ci := 3) (n := 2) (index := 48) (d2 := 4) (y := yX3_told) (bs2 := cX3_told) (nL2 := 3) (rt2 := (some .int)) (T := TX3) (N := 18) dL_436 rfl ⟨by decide +kernel, by decide +kernel, by decide +kernel, by decide +kernel, by decide +kernel, by decide +kernel⟩ (by decide +kernel) (by decide +kernel) (by decide) [.int (xs (i + 1)), .int (xs (i + 2))] [.int v] cm rfl (ix_m hI) (Nat.le_of_ble_eq_true rfl) lm ?_ H locs ls hP hQ hD hE hN h65 h14 hS hl
  intro H locs ls hP hQ hD hE hN h65 h14 hS hl
  refine lv_icmp_eq (tgt := 956) hx hb dL_439 (by decide) (fun _ => ?_) (fun q => absurd rfl q)
  exact kk X2 M2 hI2 H locs ls hP hQ hD hE hN h65 h14 hS hl
theorem lc_entry (C : lw_At p s m meth c b L xs) (hK : mK D ca s) (hL : L ≤ 3072) {i : Nat} (hi : i + 6 ≤ L) {X M : mW} (hI : IX X M) (kk : ∀ X2 M2 : mW, IX X2 M2 → LG p l e s m below meth c b D ca ax am 956 [(0, .ref b), (1, .ref (ax 0)), (2, .ref (am 0)), (3, .int (Int32.ofNat i))] [] X2 M2) : LG p l e s m below meth c b D ca ax am 444 [(0, .ref b), (1, .ref (ax 0)), (2, .ref (am 0)), (3, .int (Int32.ofNat i))] [] X M := by
  obtain ⟨v, X2, M2, hI2, cx, cm⟩ := s_entry (l := l) (D := D) (ca := ca) (ad := ax) (ae := am) (xs (i + 1)) (xs (i + 2)) hI
  have hx := C.1
  have hb := C.2.1
  have lx := (ix_len hI2).1.trans (ix_len hI).1.symm
  have lm := (ix_len hI2).2.trans (ix_len hI).2.symm
  intro H locs ls hP hQ hD hE hN h65 h14 hS hl
  refine lv_aload_n hx hb dL_444 rfl (lv_at hl 1 rfl) ?_
  refine lwLd (k := 1) C hL (by omega) dL_445 dL_446 dL_447 dL_448 dL_449 (by decide) hS hl ?_
  refine lwLd (k := 2) C hL (by omega) dL_450 dL_451 dL_452 dL_453 dL_454 (by decide) hS hl ?_
  refine lwX C hK (ci := 2) (n := 2) (index := 49) (d2 := 1) (y := yX2_entry) (bs2 := cX2_entry) (nL2 := 3) (rt2 := (some .int)) (T := TX2) (N := 8) dL_455 rfl ⟨by decide +kernel, by decide +kernel, by decide +kernel, by decide +kernel, by decide +kernel, by decide +kernel⟩ (by decide +kernel) (by decide +kernel) (by decide) [.int (xs (i + 1)), .int (xs (i + 2))] [] cx rfl (ix_x hI) (Nat.le_of_ble_eq_true rfl) lx ?_ H locs ls hP hQ hD hE hN h65 h14 hS hl
  intro H locs ls hP hQ hD hE hN h65 h14 hS hl
  refine lv_aload_n hx hb dL_458 rfl (lv_at hl 2 rfl) ?_
  refine lwLd (k := 1) C hL (by omega) dL_459 dL_460 dL_461 dL_462 dL_463 (by decide) hS hl ?_
  refine lwLd (k := 2) C hL (by omega) dL_464 dL_465 dL_466 dL_467 dL_468 (by decide) hS hl ?_
  refine lwM C hK (ci := 3) (n := 2) (index := 52) (d2 := 4) (y := yX3_entry) (bs2 := cX3_entry) (nL2 := 3) (rt2 := (some .int)) (T := TX3) (N := 18) dL_469 rfl ⟨by decide +kernel, by decide +kernel, by decide +kernel, by decide +kernel, by decide +kernel, by decide +kernel⟩ (by decide +kernel) (by decide +kernel) (by decide) [.int (xs (i + 1)), .int (xs (i + 2))] [.int v] cm rfl (ix_m hI) (Nat.le_of_ble_eq_true rfl) lm ?_ H locs ls hP hQ hD hE hN h65 h14 hS hl
  intro H locs ls hP hQ hD hE hN h65 h14 hS hl
  refine lv_icmp_eq (tgt := 956) hx hb dL_472 (by decide) (fun _ => ?_) (fun q => absurd rfl q)
  exact kk X2 M2 hI2 H locs ls hP hQ hD hE hN h65 h14 hS hl
theorem lc_worth (C : lw_At p s m meth c b L xs) (hK : mK D ca s) (hL : L ≤ 3072) {i : Nat} (hi : i + 6 ≤ L) {X M : mW} (hI : IX X M) (kk : ∀ X2 M2 : mW, IX X2 M2 → LG p l e s m below meth c b D ca ax am 956 [(0, .ref b), (1, .ref (ax 0)), (2, .ref (am 0)), (3, .int (Int32.ofNat i))] [] X2 M2) : LG p l e s m below meth c b D ca ax am 477 [(0, .ref b), (1, .ref (ax 0)), (2, .ref (am 0)), (3, .int (Int32.ofNat i))] [] X M := by
  obtain ⟨v, X2, M2, hI2, cx, cm⟩ := s_worth (l := l) (D := D) (ca := ca) (ad := ax) (ae := am)  hI
  have hx := C.1
  have hb := C.2.1
  have lx := (ix_len hI2).1.trans (ix_len hI).1.symm
  have lm := (ix_len hI2).2.trans (ix_len hI).2.symm
  intro H locs ls hP hQ hD hE hN h65 h14 hS hl
  refine lv_aload_n hx hb dL_477 rfl (lv_at hl 1 rfl) ?_
  refine lwX C hK (ci := 2) (n := 0) (index := 53) (d2 := 4) (y := yX2_worth) (bs2 := cX2_worth) (nL2 := 1) (rt2 := (some .long)) (T := TX2) (N := 8) dL_478 rfl ⟨by decide +kernel, by decide +kernel, by decide +kernel, by decide +kernel, by decide +kernel, by decide +kernel⟩ (by decide +kernel) (by decide +kernel) (by decide) [] [] cx rfl (ix_x hI) (Nat.le_of_ble_eq_true rfl) lx ?_ H locs ls hP hQ hD hE hN h65 h14 hS hl
  intro H locs ls hP hQ hD hE hN h65 h14 hS hl
  refine lv_aload_n hx hb dL_481 rfl (lv_at hl 2 rfl) ?_
  refine lwM C hK (ci := 3) (n := 0) (index := 57) (d2 := 6) (y := yX3_worth) (bs2 := cX3_worth) (nL2 := 1) (rt2 := (some .long)) (T := TX3) (N := 18) dL_482 rfl ⟨by decide +kernel, by decide +kernel, by decide +kernel, by decide +kernel, by decide +kernel, by decide +kernel⟩ (by decide +kernel) (by decide +kernel) (by decide) [] [.long v] cm rfl (ix_m hI) (Nat.le_of_ble_eq_true rfl) lm ?_ H locs ls hP hQ hD hE hN h65 h14 hS hl
  intro H locs ls hP hQ hD hE hN h65 h14 hS hl
  refine W.lcmp hx hb dL_485 ?_
  refine lv_if_eq (tgt := 956) hx hb dL_486 (by decide) (fun _ => ?_) (fun q => absurd (lc_eq.mpr rfl) q)
  exact kk X2 M2 hI2 H locs ls hP hQ hD hE hN h65 h14 hS hl
theorem lc_put (C : lw_At p s m meth c b L xs) (hK : mK D ca s) (hL : L ≤ 3072) {i : Nat} (hi : i + 6 ≤ L) {X M : mW} (hI : IX X M) (kk : ∀ X2 M2 : mW, IX X2 M2 → LG p l e s m below meth c b D ca ax am 956 [(0, .ref b), (1, .ref (ax 0)), (2, .ref (am 0)), (3, .int (Int32.ofNat i))] [] X2 M2) : LG p l e s m below meth c b D ca ax am 491 [(0, .ref b), (1, .ref (ax 0)), (2, .ref (am 0)), (3, .int (Int32.ofNat i))] [] X M := by
  obtain ⟨v, X2, M2, hI2, cx, cm⟩ := s_put (l := l) (D := D) (ca := ca) (ad := ax) (ae := am) (xs (i + 1)) (xs (i + 2)) (xs (i + 3)) hI
  have hx := C.1
  have hb := C.2.1
  have lx := (ix_len hI2).1.trans (ix_len hI).1.symm
  have lm := (ix_len hI2).2.trans (ix_len hI).2.symm
  intro H locs ls hP hQ hD hE hN h65 h14 hS hl
  refine lv_aload_n hx hb dL_491 rfl (lv_at hl 1 rfl) ?_
  refine lwLd (k := 1) C hL (by omega) dL_492 dL_493 dL_494 dL_495 dL_496 (by decide) hS hl ?_
  refine lwLd (k := 2) C hL (by omega) dL_497 dL_498 dL_499 dL_500 dL_501 (by decide) hS hl ?_
  refine lwLd (k := 3) C hL (by omega) dL_502 dL_503 dL_504 dL_505 dL_506 (by decide) hS hl ?_
  refine lwX C hK (ci := 2) (n := 3) (index := 58) (d2 := 1) (y := yX2_put) (bs2 := cX2_put) (nL2 := 5) (rt2 := (some .int)) (T := TX2) (N := 8) dL_507 rfl ⟨by decide +kernel, by decide +kernel, by decide +kernel, by decide +kernel, by decide +kernel, by decide +kernel⟩ (by decide +kernel) (by decide +kernel) (by decide) [.int (xs (i + 1)), .int (xs (i + 2)), .int (xs (i + 3))] [] cx rfl (ix_x hI) (Nat.le_of_ble_eq_true rfl) lx ?_ H locs ls hP hQ hD hE hN h65 h14 hS hl
  intro H locs ls hP hQ hD hE hN h65 h14 hS hl
  refine lv_aload_n hx hb dL_510 rfl (lv_at hl 2 rfl) ?_
  refine lwLd (k := 1) C hL (by omega) dL_511 dL_512 dL_513 dL_514 dL_515 (by decide) hS hl ?_
  refine lwLd (k := 2) C hL (by omega) dL_516 dL_517 dL_518 dL_519 dL_520 (by decide) hS hl ?_
  refine lwLd (k := 3) C hL (by omega) dL_521 dL_522 dL_523 dL_524 dL_525 (by decide) hS hl ?_
  refine lwM C hK (ci := 3) (n := 3) (index := 61) (d2 := 2) (y := yX3_put) (bs2 := cX3_put) (nL2 := 5) (rt2 := (some .int)) (T := TX3) (N := 18) dL_526 rfl ⟨by decide +kernel, by decide +kernel, by decide +kernel, by decide +kernel, by decide +kernel, by decide +kernel⟩ (by decide +kernel) (by decide +kernel) (by decide) [.int (xs (i + 1)), .int (xs (i + 2)), .int (xs (i + 3))] [.int v] cm rfl (ix_m hI) (Nat.le_of_ble_eq_true rfl) lm ?_ H locs ls hP hQ hD hE hN h65 h14 hS hl
  intro H locs ls hP hQ hD hE hN h65 h14 hS hl
  refine lv_icmp_eq (tgt := 956) hx hb dL_529 (by decide) (fun _ => ?_) (fun q => absurd rfl q)
  exact kk X2 M2 hI2 H locs ls hP hQ hD hE hN h65 h14 hS hl
theorem lc_runs (C : lw_At p s m meth c b L xs) (hK : mK D ca s) (hL : L ≤ 3072) {i : Nat} (hi : i + 6 ≤ L) {X M : mW} (hI : IX X M) (kk : ∀ X2 M2 : mW, IX X2 M2 → LG p l e s m below meth c b D ca ax am 956 [(0, .ref b), (1, .ref (ax 0)), (2, .ref (am 0)), (3, .int (Int32.ofNat i))] [] X2 M2) : LG p l e s m below meth c b D ca ax am 534 [(0, .ref b), (1, .ref (ax 0)), (2, .ref (am 0)), (3, .int (Int32.ofNat i))] [] X M := by
  obtain ⟨v, X2, M2, hI2, cx, cm⟩ := s_runs (l := l) (D := D) (ca := ca) (ad := ax) (ae := am) (xs (i + 1)) (xs (i + 2)) hI
  have hx := C.1
  have hb := C.2.1
  have lx := (ix_len hI2).1.trans (ix_len hI).1.symm
  have lm := (ix_len hI2).2.trans (ix_len hI).2.symm
  intro H locs ls hP hQ hD hE hN h65 h14 hS hl
  refine lv_aload_n hx hb dL_534 rfl (lv_at hl 1 rfl) ?_
  refine lwLd (k := 1) C hL (by omega) dL_535 dL_536 dL_537 dL_538 dL_539 (by decide) hS hl ?_
  refine lwLd (k := 2) C hL (by omega) dL_540 dL_541 dL_542 dL_543 dL_544 (by decide) hS hl ?_
  refine lwX C hK (ci := 2) (n := 2) (index := 62) (d2 := 5) (y := yX2_runs) (bs2 := cX2_runs) (nL2 := 3) (rt2 := (some .long)) (T := TX2) (N := 8) dL_545 rfl ⟨by decide +kernel, by decide +kernel, by decide +kernel, by decide +kernel, by decide +kernel, by decide +kernel⟩ (by decide +kernel) (by decide +kernel) (by decide) [.int (xs (i + 1)), .int (xs (i + 2))] [] cx rfl (ix_x hI) (Nat.le_of_ble_eq_true rfl) lx ?_ H locs ls hP hQ hD hE hN h65 h14 hS hl
  intro H locs ls hP hQ hD hE hN h65 h14 hS hl
  refine lv_aload_n hx hb dL_548 rfl (lv_at hl 2 rfl) ?_
  refine lwLd (k := 1) C hL (by omega) dL_549 dL_550 dL_551 dL_552 dL_553 (by decide) hS hl ?_
  refine lwLd (k := 2) C hL (by omega) dL_554 dL_555 dL_556 dL_557 dL_558 (by decide) hS hl ?_
  refine lwM C hK (ci := 3) (n := 2) (index := 66) (d2 := 6) (y := yX3_runs) (bs2 := cX3_runs) (nL2 := 3) (rt2 := (some .long)) (T := TX3) (N := 18) dL_559 rfl ⟨by decide +kernel, by decide +kernel, by decide +kernel, by decide +kernel, by decide +kernel, by decide +kernel⟩ (by decide +kernel) (by decide +kernel) (by decide) [.int (xs (i + 1)), .int (xs (i + 2))] [.long v] cm rfl (ix_m hI) (Nat.le_of_ble_eq_true rfl) lm ?_ H locs ls hP hQ hD hE hN h65 h14 hS hl
  intro H locs ls hP hQ hD hE hN h65 h14 hS hl
  refine W.lcmp hx hb dL_562 ?_
  refine lv_if_eq (tgt := 956) hx hb dL_563 (by decide) (fun _ => ?_) (fun q => absurd (lc_eq.mpr rfl) q)
  exact kk X2 M2 hI2 H locs ls hP hQ hD hE hN h65 h14 hS hl
theorem lc_total (C : lw_At p s m meth c b L xs) (hK : mK D ca s) (hL : L ≤ 3072) {i : Nat} (hi : i + 6 ≤ L) {X M : mW} (hI : IX X M) (kk : ∀ X2 M2 : mW, IX X2 M2 → LG p l e s m below meth c b D ca ax am 956 [(0, .ref b), (1, .ref (ax 0)), (2, .ref (am 0)), (3, .int (Int32.ofNat i))] [] X2 M2) : LG p l e s m below meth c b D ca ax am 568 [(0, .ref b), (1, .ref (ax 0)), (2, .ref (am 0)), (3, .int (Int32.ofNat i))] [] X M := by
  obtain ⟨v, X2, M2, hI2, cx, cm⟩ := s_total (l := l) (D := D) (ca := ca) (ad := ax) (ae := am) (xs (i + 1)) (xs (i + 2)) (xs (i + 3)) (xs (i + 4)) hI
  have hx := C.1
  have hb := C.2.1
  have lx := (ix_len hI2).1.trans (ix_len hI).1.symm
  have lm := (ix_len hI2).2.trans (ix_len hI).2.symm
  intro H locs ls hP hQ hD hE hN h65 h14 hS hl
  refine lv_aload_n hx hb dL_568 rfl (lv_at hl 1 rfl) ?_
  refine lwLd (k := 1) C hL (by omega) dL_569 dL_570 dL_571 dL_572 dL_573 (by decide) hS hl ?_
  refine lwLd (k := 2) C hL (by omega) dL_574 dL_575 dL_576 dL_577 dL_578 (by decide) hS hl ?_
  refine lwLd (k := 3) C hL (by omega) dL_579 dL_580 dL_581 dL_582 dL_583 (by decide) hS hl ?_
  refine lwLd (k := 4) C hL (by omega) dL_584 dL_585 dL_586 dL_587 dL_588 (by decide) hS hl ?_
  refine lwX C hK (ci := 2) (n := 4) (index := 67) (d2 := 5) (y := yX2_total) (bs2 := cX2_total) (nL2 := 7) (rt2 := (some .long)) (T := TX2) (N := 8) dL_589 rfl ⟨by decide +kernel, by decide +kernel, by decide +kernel, by decide +kernel, by decide +kernel, by decide +kernel⟩ (by decide +kernel) (by decide +kernel) (by decide) [.int (xs (i + 1)), .int (xs (i + 2)), .int (xs (i + 3)), .int (xs (i + 4))] [] cx rfl (ix_x hI) (Nat.le_of_ble_eq_true rfl) lx ?_ H locs ls hP hQ hD hE hN h65 h14 hS hl
  intro H locs ls hP hQ hD hE hN h65 h14 hS hl
  refine lv_aload_n hx hb dL_592 rfl (lv_at hl 2 rfl) ?_
  refine lwLd (k := 1) C hL (by omega) dL_593 dL_594 dL_595 dL_596 dL_597 (by decide) hS hl ?_
  refine lwLd (k := 2) C hL (by omega) dL_598 dL_599 dL_600 dL_601 dL_602 (by decide) hS hl ?_
  refine lwLd (k := 3) C hL (by omega) dL_603 dL_604 dL_605 dL_606 dL_607 (by decide) hS hl ?_
  refine lwLd (k := 4) C hL (by omega) dL_608 dL_609 dL_610 dL_611 dL_612 (by decide) hS hl ?_
  refine lwM C hK (ci := 3) (n := 4) (index := 71) (d2 := 6) (y := yX3_total) (bs2 := cX3_total) (nL2 := 9) (rt2 := (some .long)) (T := TX3) (N := 18) dL_613 rfl ⟨by decide +kernel, by decide +kernel, by decide +kernel, by decide +kernel, by decide +kernel, by decide +kernel⟩ (by decide +kernel) (by decide +kernel) (by decide) [.int (xs (i + 1)), .int (xs (i + 2)), .int (xs (i + 3)), .int (xs (i + 4))] [.long v] cm rfl (ix_m hI) (Nat.le_of_ble_eq_true rfl) lm ?_ H locs ls hP hQ hD hE hN h65 h14 hS hl
  intro H locs ls hP hQ hD hE hN h65 h14 hS hl
  refine W.lcmp hx hb dL_616 ?_
  refine lv_if_eq (tgt := 956) hx hb dL_617 (by decide) (fun _ => ?_) (fun q => absurd (lc_eq.mpr rfl) q)
  exact kk X2 M2 hI2 H locs ls hP hQ hD hE hN h65 h14 hS hl
theorem lc_share (C : lw_At p s m meth c b L xs) (hK : mK D ca s) (hL : L ≤ 3072) {i : Nat} (hi : i + 6 ≤ L) {X M : mW} (hI : IX X M) (kk : ∀ X2 M2 : mW, IX X2 M2 → LG p l e s m below meth c b D ca ax am 956 [(0, .ref b), (1, .ref (ax 0)), (2, .ref (am 0)), (3, .int (Int32.ofNat i))] [] X2 M2) : LG p l e s m below meth c b D ca ax am 622 [(0, .ref b), (1, .ref (ax 0)), (2, .ref (am 0)), (3, .int (Int32.ofNat i))] [] X M := by
  obtain ⟨v, X2, M2, hI2, cx, cm⟩ := s_share (l := l) (D := D) (ca := ca) (ad := ax) (ae := am) (xs (i + 1)) (xs (i + 2)) (xs (i + 3)) hI
  have hx := C.1
  have hb := C.2.1
  have lx := (ix_len hI2).1.trans (ix_len hI).1.symm
  have lm := (ix_len hI2).2.trans (ix_len hI).2.symm
  intro H locs ls hP hQ hD hE hN h65 h14 hS hl
  refine lv_aload_n hx hb dL_622 rfl (lv_at hl 1 rfl) ?_
  refine lwLd (k := 1) C hL (by omega) dL_623 dL_624 dL_625 dL_626 dL_627 (by decide) hS hl ?_
  refine lwLd (k := 2) C hL (by omega) dL_628 dL_629 dL_630 dL_631 dL_632 (by decide) hS hl ?_
  refine lwLd (k := 3) C hL (by omega) dL_633 dL_634 dL_635 dL_636 dL_637 (by decide) hS hl ?_
  refine lwX C hK (ci := 2) (n := 3) (index := 72) (d2 := 5) (y := yX2_share) (bs2 := cX2_share) (nL2 := 4) (rt2 := (some .long)) (T := TX2) (N := 8) dL_638 rfl ⟨by decide +kernel, by decide +kernel, by decide +kernel, by decide +kernel, by decide +kernel, by decide +kernel⟩ (by decide +kernel) (by decide +kernel) (by decide) [.int (xs (i + 1)), .int (xs (i + 2)), .int (xs (i + 3))] [] cx rfl (ix_x hI) (Nat.le_of_ble_eq_true rfl) lx ?_ H locs ls hP hQ hD hE hN h65 h14 hS hl
  intro H locs ls hP hQ hD hE hN h65 h14 hS hl
  refine lv_aload_n hx hb dL_641 rfl (lv_at hl 2 rfl) ?_
  refine lwLd (k := 1) C hL (by omega) dL_642 dL_643 dL_644 dL_645 dL_646 (by decide) hS hl ?_
  refine lwLd (k := 2) C hL (by omega) dL_647 dL_648 dL_649 dL_650 dL_651 (by decide) hS hl ?_
  refine lwLd (k := 3) C hL (by omega) dL_652 dL_653 dL_654 dL_655 dL_656 (by decide) hS hl ?_
  refine lwM C hK (ci := 3) (n := 3) (index := 76) (d2 := 6) (y := yX3_share) (bs2 := cX3_share) (nL2 := 4) (rt2 := (some .long)) (T := TX3) (N := 18) dL_657 rfl ⟨by decide +kernel, by decide +kernel, by decide +kernel, by decide +kernel, by decide +kernel, by decide +kernel⟩ (by decide +kernel) (by decide +kernel) (by decide) [.int (xs (i + 1)), .int (xs (i + 2)), .int (xs (i + 3))] [.long v] cm rfl (ix_m hI) (Nat.le_of_ble_eq_true rfl) lm ?_ H locs ls hP hQ hD hE hN h65 h14 hS hl
  intro H locs ls hP hQ hD hE hN h65 h14 hS hl
  refine W.lcmp hx hb dL_660 ?_
  refine lv_if_eq (tgt := 956) hx hb dL_661 (by decide) (fun _ => ?_) (fun q => absurd (lc_eq.mpr rfl) q)
  exact kk X2 M2 hI2 H locs ls hP hQ hD hE hN h65 h14 hS hl
theorem lc_way (C : lw_At p s m meth c b L xs) (hK : mK D ca s) (hL : L ≤ 3072) {i : Nat} (hi : i + 6 ≤ L) {X M : mW} (hI : IX X M) (kk : ∀ X2 M2 : mW, IX X2 M2 → LG p l e s m below meth c b D ca ax am 956 [(0, .ref b), (1, .ref (ax 0)), (2, .ref (am 0)), (3, .int (Int32.ofNat i))] [] X2 M2) : LG p l e s m below meth c b D ca ax am 666 [(0, .ref b), (1, .ref (ax 0)), (2, .ref (am 0)), (3, .int (Int32.ofNat i))] [] X M := by
  obtain ⟨v, X2, M2, hI2, cx, cm⟩ := s_way (l := l) (D := D) (ca := ca) (ad := ax) (ae := am) (xs (i + 1)) (xs (i + 2)) (xs (i + 3)) (xs (i + 4)) (xs (i + 5)) hI
  have hx := C.1
  have hb := C.2.1
  have lx := (ix_len hI2).1.trans (ix_len hI).1.symm
  have lm := (ix_len hI2).2.trans (ix_len hI).2.symm
  intro H locs ls hP hQ hD hE hN h65 h14 hS hl
  refine lv_aload_n hx hb dL_666 rfl (lv_at hl 1 rfl) ?_
  refine lwLd (k := 1) C hL (by omega) dL_667 dL_668 dL_669 dL_670 dL_671 (by decide) hS hl ?_
  refine lwLd (k := 2) C hL (by omega) dL_672 dL_673 dL_674 dL_675 dL_676 (by decide) hS hl ?_
  refine lwLd (k := 3) C hL (by omega) dL_677 dL_678 dL_679 dL_680 dL_681 (by decide) hS hl ?_
  refine lwLd (k := 4) C hL (by omega) dL_682 dL_683 dL_684 dL_685 dL_686 (by decide) hS hl ?_
  refine lwLd (k := 5) C hL (by omega) dL_687 dL_688 dL_689 dL_690 dL_691 (by decide) hS hl ?_
  refine lwX C hK (ci := 2) (n := 5) (index := 77) (d2 := 2) (y := yX2_way) (bs2 := cX2_way) (nL2 := 11) (rt2 := (some .long)) (T := TX2) (N := 8) dL_692 rfl ⟨by decide +kernel, by decide +kernel, by decide +kernel, by decide +kernel, by decide +kernel, by decide +kernel⟩ (by decide +kernel) (by decide +kernel) (by decide) [.int (xs (i + 1)), .int (xs (i + 2)), .int (xs (i + 3)), .int (xs (i + 4)), .int (xs (i + 5))] [] cx rfl (ix_x hI) (Nat.le_of_ble_eq_true rfl) lx ?_ H locs ls hP hQ hD hE hN h65 h14 hS hl
  intro H locs ls hP hQ hD hE hN h65 h14 hS hl
  refine lv_aload_n hx hb dL_695 rfl (lv_at hl 2 rfl) ?_
  refine lwLd (k := 1) C hL (by omega) dL_696 dL_697 dL_698 dL_699 dL_700 (by decide) hS hl ?_
  refine lwLd (k := 2) C hL (by omega) dL_701 dL_702 dL_703 dL_704 dL_705 (by decide) hS hl ?_
  refine lwLd (k := 3) C hL (by omega) dL_706 dL_707 dL_708 dL_709 dL_710 (by decide) hS hl ?_
  refine lwLd (k := 4) C hL (by omega) dL_711 dL_712 dL_713 dL_714 dL_715 (by decide) hS hl ?_
  refine lwLd (k := 5) C hL (by omega) dL_716 dL_717 dL_718 dL_719 dL_720 (by decide) hS hl ?_
  refine lwM C hK (ci := 3) (n := 5) (index := 81) (d2 := 6) (y := yX3_way) (bs2 := cX3_way) (nL2 := 11) (rt2 := (some .long)) (T := TX3) (N := 18) dL_721 rfl ⟨by decide +kernel, by decide +kernel, by decide +kernel, by decide +kernel, by decide +kernel, by decide +kernel⟩ (by decide +kernel) (by decide +kernel) (by decide) [.int (xs (i + 1)), .int (xs (i + 2)), .int (xs (i + 3)), .int (xs (i + 4)), .int (xs (i + 5))] [.long v] cm rfl (ix_m hI) (Nat.le_of_ble_eq_true rfl) lm ?_ H locs ls hP hQ hD hE hN h65 h14 hS hl
  intro H locs ls hP hQ hD hE hN h65 h14 hS hl
  refine W.lcmp hx hb dL_724 ?_
  refine lv_if_eq (tgt := 956) hx hb dL_725 (by decide) (fun _ => ?_) (fun q => absurd (lc_eq.mpr rfl) q)
  exact kk X2 M2 hI2 H locs ls hP hQ hD hE hN h65 h14 hS hl
theorem lc_sure (C : lw_At p s m meth c b L xs) (hK : mK D ca s) (hL : L ≤ 3072) {i : Nat} (hi : i + 6 ≤ L) {X M : mW} (hI : IX X M) (kk : ∀ X2 M2 : mW, IX X2 M2 → LG p l e s m below meth c b D ca ax am 956 [(0, .ref b), (1, .ref (ax 0)), (2, .ref (am 0)), (3, .int (Int32.ofNat i))] [] X2 M2) : LG p l e s m below meth c b D ca ax am 730 [(0, .ref b), (1, .ref (ax 0)), (2, .ref (am 0)), (3, .int (Int32.ofNat i))] [] X M := by
  obtain ⟨v, X2, M2, hI2, cx, cm⟩ := s_sure (l := l) (D := D) (ca := ca) (ad := ax) (ae := am) (xs (i + 1)) (xs (i + 2)) (xs (i + 3)) hI
  have hx := C.1
  have hb := C.2.1
  have lx := (ix_len hI2).1.trans (ix_len hI).1.symm
  have lm := (ix_len hI2).2.trans (ix_len hI).2.symm
  intro H locs ls hP hQ hD hE hN h65 h14 hS hl
  refine lv_aload_n hx hb dL_730 rfl (lv_at hl 1 rfl) ?_
  refine lwLd (k := 1) C hL (by omega) dL_731 dL_732 dL_733 dL_734 dL_735 (by decide) hS hl ?_
  refine lwLd (k := 2) C hL (by omega) dL_736 dL_737 dL_738 dL_739 dL_740 (by decide) hS hl ?_
  refine lwLd (k := 3) C hL (by omega) dL_741 dL_742 dL_743 dL_744 dL_745 (by decide) hS hl ?_
  refine lwX C hK (ci := 2) (n := 3) (index := 82) (d2 := 5) (y := yX2_sure) (bs2 := cX2_sure) (nL2 := 5) (rt2 := (some .int)) (T := TX2) (N := 8) dL_746 rfl ⟨by decide +kernel, by decide +kernel, by decide +kernel, by decide +kernel, by decide +kernel, by decide +kernel⟩ (by decide +kernel) (by decide +kernel) (by decide) [.int (xs (i + 1)), .int (xs (i + 2)), .int (xs (i + 3))] [] cx rfl (ix_x hI) (Nat.le_of_ble_eq_true rfl) lx ?_ H locs ls hP hQ hD hE hN h65 h14 hS hl
  intro H locs ls hP hQ hD hE hN h65 h14 hS hl
  refine lv_aload_n hx hb dL_749 rfl (lv_at hl 2 rfl) ?_
  refine lwLd (k := 1) C hL (by omega) dL_750 dL_751 dL_752 dL_753 dL_754 (by decide) hS hl ?_
  refine lwLd (k := 2) C hL (by omega) dL_755 dL_756 dL_757 dL_758 dL_759 (by decide) hS hl ?_
  refine lwLd (k := 3) C hL (by omega) dL_760 dL_761 dL_762 dL_763 dL_764 (by decide) hS hl ?_
  refine lwM C hK (ci := 3) (n := 3) (index := 85) (d2 := 6) (y := yX3_sure) (bs2 := cX3_sure) (nL2 := 9) (rt2 := (some .int)) (T := TX3) (N := 18) dL_765 rfl ⟨by decide +kernel, by decide +kernel, by decide +kernel, by decide +kernel, by decide +kernel, by decide +kernel⟩ (by decide +kernel) (by decide +kernel) (by decide) [.int (xs (i + 1)), .int (xs (i + 2)), .int (xs (i + 3))] [.int v] cm rfl (ix_m hI) (Nat.le_of_ble_eq_true rfl) lm ?_ H locs ls hP hQ hD hE hN h65 h14 hS hl
  intro H locs ls hP hQ hD hE hN h65 h14 hS hl
  refine lv_icmp_eq (tgt := 956) hx hb dL_768 (by decide) (fun _ => ?_) (fun q => absurd rfl q)
  exact kk X2 M2 hI2 H locs ls hP hQ hD hE hN h65 h14 hS hl
theorem lc_most (C : lw_At p s m meth c b L xs) (hK : mK D ca s) (hL : L ≤ 3072) {i : Nat} (hi : i + 6 ≤ L) {X M : mW} (hI : IX X M) (kk : ∀ X2 M2 : mW, IX X2 M2 → LG p l e s m below meth c b D ca ax am 956 [(0, .ref b), (1, .ref (ax 0)), (2, .ref (am 0)), (3, .int (Int32.ofNat i))] [] X2 M2) : LG p l e s m below meth c b D ca ax am 773 [(0, .ref b), (1, .ref (ax 0)), (2, .ref (am 0)), (3, .int (Int32.ofNat i))] [] X M := by
  obtain ⟨v, X2, M2, hI2, cx, cm⟩ := s_most (l := l) (D := D) (ca := ca) (ad := ax) (ae := am) (xs (i + 1)) (xs (i + 2)) hI
  have hx := C.1
  have hb := C.2.1
  have lx := (ix_len hI2).1.trans (ix_len hI).1.symm
  have lm := (ix_len hI2).2.trans (ix_len hI).2.symm
  intro H locs ls hP hQ hD hE hN h65 h14 hS hl
  refine lv_aload_n hx hb dL_773 rfl (lv_at hl 1 rfl) ?_
  refine lwLd (k := 1) C hL (by omega) dL_774 dL_775 dL_776 dL_777 dL_778 (by decide) hS hl ?_
  refine lwLd (k := 2) C hL (by omega) dL_779 dL_780 dL_781 dL_782 dL_783 (by decide) hS hl ?_
  refine lwX C hK (ci := 2) (n := 2) (index := 86) (d2 := 5) (y := yX2_most) (bs2 := cX2_most) (nL2 := 9) (rt2 := (some .int)) (T := TX2) (N := 8) dL_784 rfl ⟨by decide +kernel, by decide +kernel, by decide +kernel, by decide +kernel, by decide +kernel, by decide +kernel⟩ (by decide +kernel) (by decide +kernel) (by decide) [.int (xs (i + 1)), .int (xs (i + 2))] [] cx rfl (ix_x hI) (Nat.le_of_ble_eq_true rfl) lx ?_ H locs ls hP hQ hD hE hN h65 h14 hS hl
  intro H locs ls hP hQ hD hE hN h65 h14 hS hl
  refine lv_aload_n hx hb dL_787 rfl (lv_at hl 2 rfl) ?_
  refine lwLd (k := 1) C hL (by omega) dL_788 dL_789 dL_790 dL_791 dL_792 (by decide) hS hl ?_
  refine lwLd (k := 2) C hL (by omega) dL_793 dL_794 dL_795 dL_796 dL_797 (by decide) hS hl ?_
  refine lwM C hK (ci := 3) (n := 2) (index := 89) (d2 := 6) (y := yX3_most) (bs2 := cX3_most) (nL2 := 5) (rt2 := (some .int)) (T := TX3) (N := 18) dL_798 rfl ⟨by decide +kernel, by decide +kernel, by decide +kernel, by decide +kernel, by decide +kernel, by decide +kernel⟩ (by decide +kernel) (by decide +kernel) (by decide) [.int (xs (i + 1)), .int (xs (i + 2))] [.int v] cm rfl (ix_m hI) (Nat.le_of_ble_eq_true rfl) lm ?_ H locs ls hP hQ hD hE hN h65 h14 hS hl
  intro H locs ls hP hQ hD hE hN h65 h14 hS hl
  refine lv_icmp_eq (tgt := 956) hx hb dL_801 (by decide) (fun _ => ?_) (fun q => absurd rfl q)
  exact kk X2 M2 hI2 H locs ls hP hQ hD hE hN h65 h14 hS hl
theorem lc_turned (C : lw_At p s m meth c b L xs) (hK : mK D ca s) (hL : L ≤ 3072) {i : Nat} (hi : i + 6 ≤ L) {X M : mW} (hI : IX X M) (kk : ∀ X2 M2 : mW, IX X2 M2 → LG p l e s m below meth c b D ca ax am 956 [(0, .ref b), (1, .ref (ax 0)), (2, .ref (am 0)), (3, .int (Int32.ofNat i))] [] X2 M2) : LG p l e s m below meth c b D ca ax am 806 [(0, .ref b), (1, .ref (ax 0)), (2, .ref (am 0)), (3, .int (Int32.ofNat i))] [] X M := by
  obtain ⟨v, X2, M2, hI2, cx, cm⟩ := s_turned (l := l) (D := D) (ca := ca) (ad := ax) (ae := am) (xs (i + 1)) hI
  have hx := C.1
  have hb := C.2.1
  have lx := (ix_len hI2).1.trans (ix_len hI).1.symm
  have lm := (ix_len hI2).2.trans (ix_len hI).2.symm
  intro H locs ls hP hQ hD hE hN h65 h14 hS hl
  refine lv_aload_n hx hb dL_806 rfl (lv_at hl 1 rfl) ?_
  refine lwLd (k := 1) C hL (by omega) dL_807 dL_808 dL_809 dL_810 dL_811 (by decide) hS hl ?_
  refine lwX C hK (ci := 2) (n := 1) (index := 90) (d2 := 5) (y := yX2_turned) (bs2 := cX2_turned) (nL2 := 3) (rt2 := (some .int)) (T := TX2) (N := 8) dL_812 rfl ⟨by decide +kernel, by decide +kernel, by decide +kernel, by decide +kernel, by decide +kernel, by decide +kernel⟩ (by decide +kernel) (by decide +kernel) (by decide) [.int (xs (i + 1))] [] cx rfl (ix_x hI) (Nat.le_of_ble_eq_true rfl) lx ?_ H locs ls hP hQ hD hE hN h65 h14 hS hl
  intro H locs ls hP hQ hD hE hN h65 h14 hS hl
  refine lv_aload_n hx hb dL_815 rfl (lv_at hl 2 rfl) ?_
  refine lwLd (k := 1) C hL (by omega) dL_816 dL_817 dL_818 dL_819 dL_820 (by decide) hS hl ?_
  refine lwM C hK (ci := 3) (n := 1) (index := 94) (d2 := 6) (y := yX3_turned) (bs2 := cX3_turned) (nL2 := 3) (rt2 := (some .int)) (T := TX3) (N := 18) dL_821 rfl ⟨by decide +kernel, by decide +kernel, by decide +kernel, by decide +kernel, by decide +kernel, by decide +kernel⟩ (by decide +kernel) (by decide +kernel) (by decide) [.int (xs (i + 1))] [.int v] cm rfl (ix_m hI) (Nat.le_of_ble_eq_true rfl) lm ?_ H locs ls hP hQ hD hE hN h65 h14 hS hl
  intro H locs ls hP hQ hD hE hN h65 h14 hS hl
  refine lv_icmp_eq (tgt := 956) hx hb dL_824 (by decide) (fun _ => ?_) (fun q => absurd rfl q)
  exact kk X2 M2 hI2 H locs ls hP hQ hD hE hN h65 h14 hS hl
theorem lc_keep (C : lw_At p s m meth c b L xs) (hK : mK D ca s) (hL : L ≤ 3072) {i : Nat} (hi : i + 6 ≤ L) {X M : mW} (hI : IX X M) (kk : ∀ X2 M2 : mW, IX X2 M2 → LG p l e s m below meth c b D ca ax am 956 [(0, .ref b), (1, .ref (ax 0)), (2, .ref (am 0)), (3, .int (Int32.ofNat i))] [] X2 M2) : LG p l e s m below meth c b D ca ax am 829 [(0, .ref b), (1, .ref (ax 0)), (2, .ref (am 0)), (3, .int (Int32.ofNat i))] [] X M := by
  obtain ⟨v, X2, M2, hI2, cx, cm⟩ := s_keep (l := l) (D := D) (ca := ca) (ad := ax) (ae := am)  hI
  have hx := C.1
  have hb := C.2.1
  have lx := (ix_len hI2).1.trans (ix_len hI).1.symm
  have lm := (ix_len hI2).2.trans (ix_len hI).2.symm
  intro H locs ls hP hQ hD hE hN h65 h14 hS hl
  refine lv_aload_n hx hb dL_829 rfl (lv_at hl 1 rfl) ?_
  refine lwX C hK (ci := 2) (n := 0) (index := 95) (d2 := 3) (y := yX2_keep) (bs2 := cX2_keep) (nL2 := 1) (rt2 := (some .int)) (T := TX2) (N := 8) dL_830 rfl ⟨by decide +kernel, by decide +kernel, by decide +kernel, by decide +kernel, by decide +kernel, by decide +kernel⟩ (by decide +kernel) (by decide +kernel) (by decide) [] [] cx rfl (ix_x hI) (Nat.le_of_ble_eq_true rfl) lx ?_ H locs ls hP hQ hD hE hN h65 h14 hS hl
  intro H locs ls hP hQ hD hE hN h65 h14 hS hl
  refine lv_aload_n hx hb dL_833 rfl (lv_at hl 2 rfl) ?_
  refine lwM C hK (ci := 3) (n := 0) (index := 98) (d2 := 1) (y := yX3_keep) (bs2 := cX3_keep) (nL2 := 1) (rt2 := (some .int)) (T := TX3) (N := 18) dL_834 rfl ⟨by decide +kernel, by decide +kernel, by decide +kernel, by decide +kernel, by decide +kernel, by decide +kernel⟩ (by decide +kernel) (by decide +kernel) (by decide) [] [.int v] cm rfl (ix_m hI) (Nat.le_of_ble_eq_true rfl) lm ?_ H locs ls hP hQ hD hE hN h65 h14 hS hl
  intro H locs ls hP hQ hD hE hN h65 h14 hS hl
  refine lv_icmp_eq (tgt := 956) hx hb dL_837 (by decide) (fun _ => ?_) (fun q => absurd rfl q)
  exact kk X2 M2 hI2 H locs ls hP hQ hD hE hN h65 h14 hS hl
theorem lc_recall (C : lw_At p s m meth c b L xs) (hK : mK D ca s) (hL : L ≤ 3072) {i : Nat} (hi : i + 6 ≤ L) {X M : mW} (hI : IX X M) (kk : ∀ X2 M2 : mW, IX X2 M2 → LG p l e s m below meth c b D ca ax am 956 [(0, .ref b), (1, .ref (ax 0)), (2, .ref (am 0)), (3, .int (Int32.ofNat i))] [] X2 M2) : LG p l e s m below meth c b D ca ax am 842 [(0, .ref b), (1, .ref (ax 0)), (2, .ref (am 0)), (3, .int (Int32.ofNat i))] [] X M := by
  obtain ⟨v, X2, M2, hI2, cx, cm⟩ := s_recall (l := l) (D := D) (ca := ca) (ad := ax) (ae := am) (xs (i + 1)) hI
  have hx := C.1
  have hb := C.2.1
  have lx := (ix_len hI2).1.trans (ix_len hI).1.symm
  have lm := (ix_len hI2).2.trans (ix_len hI).2.symm
  intro H locs ls hP hQ hD hE hN h65 h14 hS hl
  refine lv_aload_n hx hb dL_842 rfl (lv_at hl 1 rfl) ?_
  refine lwLd (k := 1) C hL (by omega) dL_843 dL_844 dL_845 dL_846 dL_847 (by decide) hS hl ?_
  refine lwX C hK (ci := 2) (n := 1) (index := 99) (d2 := 3) (y := yX2_recall) (bs2 := cX2_recall) (nL2 := 2) (rt2 := (some .int)) (T := TX2) (N := 8) dL_848 rfl ⟨by decide +kernel, by decide +kernel, by decide +kernel, by decide +kernel, by decide +kernel, by decide +kernel⟩ (by decide +kernel) (by decide +kernel) (by decide) [.int (xs (i + 1))] [] cx rfl (ix_x hI) (Nat.le_of_ble_eq_true rfl) lx ?_ H locs ls hP hQ hD hE hN h65 h14 hS hl
  intro H locs ls hP hQ hD hE hN h65 h14 hS hl
  refine lv_aload_n hx hb dL_851 rfl (lv_at hl 2 rfl) ?_
  refine lwLd (k := 1) C hL (by omega) dL_852 dL_853 dL_854 dL_855 dL_856 (by decide) hS hl ?_
  refine lwM C hK (ci := 3) (n := 1) (index := 102) (d2 := 1) (y := yX3_recall) (bs2 := cX3_recall) (nL2 := 2) (rt2 := (some .int)) (T := TX3) (N := 18) dL_857 rfl ⟨by decide +kernel, by decide +kernel, by decide +kernel, by decide +kernel, by decide +kernel, by decide +kernel⟩ (by decide +kernel) (by decide +kernel) (by decide) [.int (xs (i + 1))] [.int v] cm rfl (ix_m hI) (Nat.le_of_ble_eq_true rfl) lm ?_ H locs ls hP hQ hD hE hN h65 h14 hS hl
  intro H locs ls hP hQ hD hE hN h65 h14 hS hl
  refine lv_icmp_eq (tgt := 956) hx hb dL_860 (by decide) (fun _ => ?_) (fun q => absurd rfl q)
  exact kk X2 M2 hI2 H locs ls hP hQ hD hE hN h65 h14 hS hl
theorem lc_blame (C : lw_At p s m meth c b L xs) (hK : mK D ca s) (hL : L ≤ 3072) {i : Nat} (hi : i + 6 ≤ L) {X M : mW} (hI : IX X M) (kk : ∀ X2 M2 : mW, IX X2 M2 → LG p l e s m below meth c b D ca ax am 956 [(0, .ref b), (1, .ref (ax 0)), (2, .ref (am 0)), (3, .int (Int32.ofNat i))] [] X2 M2) : LG p l e s m below meth c b D ca ax am 865 [(0, .ref b), (1, .ref (ax 0)), (2, .ref (am 0)), (3, .int (Int32.ofNat i))] [] X M := by
  obtain ⟨v, X2, M2, hI2, cx, cm⟩ := s_blame (l := l) (D := D) (ca := ca) (ad := ax) (ae := am) (xs (i + 1)) (xs (i + 2)) (xs (i + 3)) (xs (i + 4)) hI
  have hx := C.1
  have hb := C.2.1
  have lx := (ix_len hI2).1.trans (ix_len hI).1.symm
  have lm := (ix_len hI2).2.trans (ix_len hI).2.symm
  intro H locs ls hP hQ hD hE hN h65 h14 hS hl
  refine lv_aload_n hx hb dL_865 rfl (lv_at hl 1 rfl) ?_
  refine lwLd (k := 1) C hL (by omega) dL_866 dL_867 dL_868 dL_869 dL_870 (by decide) hS hl ?_
  refine lwLd (k := 2) C hL (by omega) dL_871 dL_872 dL_873 dL_874 dL_875 (by decide) hS hl ?_
  refine lwLd (k := 3) C hL (by omega) dL_876 dL_877 dL_878 dL_879 dL_880 (by decide) hS hl ?_
  refine lwLd (k := 4) C hL (by omega) dL_881 dL_882 dL_883 dL_884 dL_885 (by decide) hS hl ?_
  refine lwX C hK (ci := 2) (n := 4) (index := 103) (d2 := 6) (y := yX2_blame) (bs2 := cX2_blame) (nL2 := 9) (rt2 := (some .long)) (T := TX2) (N := 8) dL_886 rfl ⟨by decide +kernel, by decide +kernel, by decide +kernel, by decide +kernel, by decide +kernel, by decide +kernel⟩ (by decide +kernel) (by decide +kernel) (by decide) [.int (xs (i + 1)), .int (xs (i + 2)), .int (xs (i + 3)), .int (xs (i + 4))] [] cx rfl (ix_x hI) (Nat.le_of_ble_eq_true rfl) lx ?_ H locs ls hP hQ hD hE hN h65 h14 hS hl
  intro H locs ls hP hQ hD hE hN h65 h14 hS hl
  refine lv_aload_n hx hb dL_889 rfl (lv_at hl 2 rfl) ?_
  refine lwLd (k := 1) C hL (by omega) dL_890 dL_891 dL_892 dL_893 dL_894 (by decide) hS hl ?_
  refine lwLd (k := 2) C hL (by omega) dL_895 dL_896 dL_897 dL_898 dL_899 (by decide) hS hl ?_
  refine lwLd (k := 3) C hL (by omega) dL_900 dL_901 dL_902 dL_903 dL_904 (by decide) hS hl ?_
  refine lwLd (k := 4) C hL (by omega) dL_905 dL_906 dL_907 dL_908 dL_909 (by decide) hS hl ?_
  refine lwM C hK (ci := 3) (n := 4) (index := 106) (d2 := 6) (y := yX3_blame) (bs2 := cX3_blame) (nL2 := 9) (rt2 := (some .long)) (T := TX3) (N := 18) dL_910 rfl ⟨by decide +kernel, by decide +kernel, by decide +kernel, by decide +kernel, by decide +kernel, by decide +kernel⟩ (by decide +kernel) (by decide +kernel) (by decide) [.int (xs (i + 1)), .int (xs (i + 2)), .int (xs (i + 3)), .int (xs (i + 4))] [.long v] cm rfl (ix_m hI) (Nat.le_of_ble_eq_true rfl) lm ?_ H locs ls hP hQ hD hE hN h65 h14 hS hl
  intro H locs ls hP hQ hD hE hN h65 h14 hS hl
  refine W.lcmp hx hb dL_913 ?_
  refine lv_if_eq (tgt := 956) hx hb dL_914 (by decide) (fun _ => ?_) (fun q => absurd (lc_eq.mpr rfl) q)
  exact kk X2 M2 hI2 H locs ls hP hQ hD hE hN h65 h14 hS hl
theorem lc_count (C : lw_At p s m meth c b L xs) (hK : mK D ca s) (hL : L ≤ 3072) {i : Nat} (hi : i + 6 ≤ L) {X M : mW} (hI : IX X M) (kk : ∀ X2 M2 : mW, IX X2 M2 → LG p l e s m below meth c b D ca ax am 956 [(0, .ref b), (1, .ref (ax 0)), (2, .ref (am 0)), (3, .int (Int32.ofNat i))] [] X2 M2) : LG p l e s m below meth c b D ca ax am 919 [(0, .ref b), (1, .ref (ax 0)), (2, .ref (am 0)), (3, .int (Int32.ofNat i))] [] X M := by
  obtain ⟨v, X2, M2, hI2, cx, cm⟩ := s_count (l := l) (D := D) (ca := ca) (ad := ax) (ae := am) (xs (i + 1)) hI
  have hx := C.1
  have hb := C.2.1
  have lx := (ix_len hI2).1.trans (ix_len hI).1.symm
  have lm := (ix_len hI2).2.trans (ix_len hI).2.symm
  intro H locs ls hP hQ hD hE hN h65 h14 hS hl
  refine lv_aload_n hx hb dL_919 rfl (lv_at hl 1 rfl) ?_
  refine lwLd (k := 1) C hL (by omega) dL_920 dL_921 dL_922 dL_923 dL_924 (by decide) hS hl ?_
  refine lwX C hK (ci := 2) (n := 1) (index := 107) (d2 := 2) (y := yX2_count) (bs2 := cX2_count) (nL2 := 2) (rt2 := (some .int)) (T := TX2) (N := 8) dL_925 rfl ⟨by decide +kernel, by decide +kernel, by decide +kernel, by decide +kernel, by decide +kernel, by decide +kernel⟩ (by decide +kernel) (by decide +kernel) (by decide) [.int (xs (i + 1))] [] cx rfl (ix_x hI) (Nat.le_of_ble_eq_true rfl) lx ?_ H locs ls hP hQ hD hE hN h65 h14 hS hl
  intro H locs ls hP hQ hD hE hN h65 h14 hS hl
  refine lv_aload_n hx hb dL_928 rfl (lv_at hl 2 rfl) ?_
  refine lwLd (k := 1) C hL (by omega) dL_929 dL_930 dL_931 dL_932 dL_933 (by decide) hS hl ?_
  refine lwM C hK (ci := 3) (n := 1) (index := 110) (d2 := 4) (y := yX3_count) (bs2 := cX3_count) (nL2 := 6) (rt2 := (some .int)) (T := TX3) (N := 18) dL_934 rfl ⟨by decide +kernel, by decide +kernel, by decide +kernel, by decide +kernel, by decide +kernel, by decide +kernel⟩ (by decide +kernel) (by decide +kernel) (by decide) [.int (xs (i + 1))] [.int v] cm rfl (ix_m hI) (Nat.le_of_ble_eq_true rfl) lm ?_ H locs ls hP hQ hD hE hN h65 h14 hS hl
  intro H locs ls hP hQ hD hE hN h65 h14 hS hl
  refine lv_icmp_eq (tgt := 956) hx hb dL_937 (by decide) (fun _ => ?_) (fun q => absurd rfl q)
  exact kk X2 M2 hI2 H locs ls hP hQ hD hE hN h65 h14 hS hl
theorem lc_digest (C : lw_At p s m meth c b L xs) (hK : mK D ca s) (hL : L ≤ 3072) {i : Nat} (hi : i + 6 ≤ L) {X M : mW} (hI : IX X M) (kk : ∀ X2 M2 : mW, IX X2 M2 → LG p l e s m below meth c b D ca ax am 956 [(0, .ref b), (1, .ref (ax 0)), (2, .ref (am 0)), (3, .int (Int32.ofNat i))] [] X2 M2) : LG p l e s m below meth c b D ca ax am 942 [(0, .ref b), (1, .ref (ax 0)), (2, .ref (am 0)), (3, .int (Int32.ofNat i))] [] X M := by
  obtain ⟨v, X2, M2, hI2, cx, cm⟩ := s_digest (l := l) (D := D) (ca := ca) (ad := ax) (ae := am)  hI
  have hx := C.1
  have hb := C.2.1
  have lx := (ix_len hI2).1.trans (ix_len hI).1.symm
  have lm := (ix_len hI2).2.trans (ix_len hI).2.symm
  intro H locs ls hP hQ hD hE hN h65 h14 hS hl
  refine lv_aload_n hx hb dL_942 rfl (lv_at hl 1 rfl) ?_
  refine lwX C hK (ci := 2) (n := 0) (index := 111) (d2 := 5) (y := yX2_digest) (bs2 := cX2_digest) (nL2 := 5) (rt2 := (some .long)) (T := TX2) (N := 8) dL_943 rfl ⟨by decide +kernel, by decide +kernel, by decide +kernel, by decide +kernel, by decide +kernel, by decide +kernel⟩ (by decide +kernel) (by decide +kernel) (by decide) [] [] cx rfl (ix_x hI) (Nat.le_of_ble_eq_true rfl) lx ?_ H locs ls hP hQ hD hE hN h65 h14 hS hl
  intro H locs ls hP hQ hD hE hN h65 h14 hS hl
  refine lv_aload_n hx hb dL_946 rfl (lv_at hl 2 rfl) ?_
  refine lwM C hK (ci := 3) (n := 0) (index := 114) (d2 := 7) (y := yX3_digest) (bs2 := cX3_digest) (nL2 := 3) (rt2 := (some .long)) (T := TX3) (N := 18) dL_947 rfl ⟨by decide +kernel, by decide +kernel, by decide +kernel, by decide +kernel, by decide +kernel, by decide +kernel⟩ (by decide +kernel) (by decide +kernel) (by decide) [] [.long v] cm rfl (ix_m hI) (Nat.le_of_ble_eq_true rfl) lm ?_ H locs ls hP hQ hD hE hN h65 h14 hS hl
  intro H locs ls hP hQ hD hE hN h65 h14 hS hl
  refine W.lcmp hx hb dL_950 ?_
  refine lv_if_eq (tgt := 956) hx hb dL_951 (by decide) (fun _ => ?_) (fun q => absurd (lc_eq.mpr rfl) q)
  exact kk X2 M2 hI2 H locs ls hP hQ hD hE hN h65 h14 hS hl
end LW
