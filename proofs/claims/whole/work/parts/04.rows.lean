theorem ok_iload_n {bs : ByteArray} {own : String} {nL pc i : Nat} {k9 : Fin 4} (hd : decode bs pc = .ok (.iload_n k9, 1)) (hi : (k9 : Nat) = i) : mOk bs own nL pc (r_iload (pc + 1) i) := by
  intro p l e R s m args below meth c D ca ad A cells slots Q hX lv st w σ h k H locs ls hP hD hS hl
  unfold r_iload at h
  split at h
  · next x hx =>
    cases h
    refine lv_iload_n hX.1.1 hX.1.2.1 hd hi (mget_at hl hx) ?_
    exact k H locs ls hP hD hS hl
  · cases h
theorem ok_iload {bs : ByteArray} {own : String} {nL pc i : Nat} (hd : decode bs pc = .ok (.iload i, 2)) : mOk bs own nL pc (r_iload (pc + 2) i) := by
  intro p l e R s m args below meth c D ca ad A cells slots Q hX lv st w σ h k H locs ls hP hD hS hl
  unfold r_iload at h
  split at h
  · next x hx =>
    cases h
    refine lv_iload hX.1.1 hX.1.2.1 hd (mget_at hl hx) ?_
    exact k H locs ls hP hD hS hl
  · cases h
theorem ok_lload_n {bs : ByteArray} {own : String} {nL pc i : Nat} {k9 : Fin 4} (hd : decode bs pc = .ok (.lload_n k9, 1)) (hi : (k9 : Nat) = i) : mOk bs own nL pc (r_lload (pc + 1) i) := by
  intro p l e R s m args below meth c D ca ad A cells slots Q hX lv st w σ h k H locs ls hP hD hS hl
  unfold r_lload at h
  split at h
  · next x hx =>
    cases h
    refine lv_lload_n hX.1.1 hX.1.2.1 hd hi (mget_at hl hx) ?_
    exact k H locs ls hP hD hS hl
  · cases h
theorem ok_lload {bs : ByteArray} {own : String} {nL pc i : Nat} (hd : decode bs pc = .ok (.lload i, 2)) : mOk bs own nL pc (r_lload (pc + 2) i) := by
  intro p l e R s m args below meth c D ca ad A cells slots Q hX lv st w σ h k H locs ls hP hD hS hl
  unfold r_lload at h
  split at h
  · next x hx =>
    cases h
    refine lv_lload hX.1.1 hX.1.2.1 hd (mget_at hl hx) ?_
    exact k H locs ls hP hD hS hl
  · cases h
theorem ok_aload_n {bs : ByteArray} {own : String} {nL pc i : Nat} {k9 : Fin 4} (hd : decode bs pc = .ok (.aload_n k9, 1)) (hi : (k9 : Nat) = i) : mOk bs own nL pc (r_aload (pc + 1) i) := by
  intro p l e R s m args below meth c D ca ad A cells slots Q hX lv st w σ h k H locs ls hP hD hS hl
  unfold r_aload at h
  split at h
  · next x hx =>
    cases h
    refine lv_aload_n hX.1.1 hX.1.2.1 hd hi (mget_at hl hx) ?_
    exact k H locs ls hP hD hS hl
  · cases h
theorem ok_aload {bs : ByteArray} {own : String} {nL pc i : Nat} (hd : decode bs pc = .ok (.aload i, 2)) : mOk bs own nL pc (r_aload (pc + 2) i) := by
  intro p l e R s m args below meth c D ca ad A cells slots Q hX lv st w σ h k H locs ls hP hD hS hl
  unfold r_aload at h
  split at h
  · next x hx =>
    cases h
    refine lv_aload hX.1.1 hX.1.2.1 hd (mget_at hl hx) ?_
    exact k H locs ls hP hD hS hl
  · cases h
theorem ok_istore_n {bs : ByteArray} {own : String} {nL pc i : Nat} {k9 : Fin 4} (hd : decode bs pc = .ok (.istore_n k9, 1)) (hi : (k9 : Nat) = i) (hn : i < nL) : mOk bs own nL pc (r_istore (pc + 1) i) := by
  intro p l e R s m args below meth c D ca ad A cells slots Q hX lv st w σ h k H locs ls hP hD hS hl
  unfold r_istore at h
  split at h
  · next x r =>
    cases h
    exact lv_istore_n hX.1.1 hX.1.2.1 hd hi hl hn (congrArg _ (cL_drop1 ad lv i)) (fun ls2 hl2 => k H locs ls2 hP hD hS hl2)
  · cases h
theorem ok_istore {bs : ByteArray} {own : String} {nL pc i : Nat} (hd : decode bs pc = .ok (.istore i, 2)) (hn : i < nL) : mOk bs own nL pc (r_istore (pc + 2) i) := by
  intro p l e R s m args below meth c D ca ad A cells slots Q hX lv st w σ h k H locs ls hP hD hS hl
  unfold r_istore at h
  split at h
  · next x r =>
    cases h
    exact lv_istore hX.1.1 hX.1.2.1 hd hl hn (congrArg _ (cL_drop1 ad lv i)) (fun ls2 hl2 => k H locs ls2 hP hD hS hl2)
  · cases h
theorem ok_lstore_n {bs : ByteArray} {own : String} {nL pc i : Nat} {k9 : Fin 4} (hd : decode bs pc = .ok (.lstore_n k9, 1)) (hi : (k9 : Nat) = i) (hn : i + 1 < nL) : mOk bs own nL pc (r_lstore (pc + 1) i) := by
  intro p l e R s m args below meth c D ca ad A cells slots Q hX lv st w σ h k H locs ls hP hD hS hl
  unfold r_lstore at h
  split at h
  · next x r =>
    cases h
    exact lv_lstore_n hX.1.1 hX.1.2.1 hd hi hl hn (congrArg _ (cL_drop2 ad lv i)) (fun ls2 hl2 => k H locs ls2 hP hD hS hl2)
  · cases h
theorem ok_lstore {bs : ByteArray} {own : String} {nL pc i : Nat} (hd : decode bs pc = .ok (.lstore i, 2)) (hn : i + 1 < nL) : mOk bs own nL pc (r_lstore (pc + 2) i) := by
  intro p l e R s m args below meth c D ca ad A cells slots Q hX lv st w σ h k H locs ls hP hD hS hl
  unfold r_lstore at h
  split at h
  · next x r =>
    cases h
    exact lv_lstore hX.1.1 hX.1.2.1 hd hl hn (congrArg _ (cL_drop2 ad lv i)) (fun ls2 hl2 => k H locs ls2 hP hD hS hl2)
  · cases h
theorem ok_astore_n {bs : ByteArray} {own : String} {nL pc i : Nat} {k9 : Fin 4} (hd : decode bs pc = .ok (.astore_n k9, 1)) (hi : (k9 : Nat) = i) (hn : i < nL) : mOk bs own nL pc (r_astore (pc + 1) i) := by
  intro p l e R s m args below meth c D ca ad A cells slots Q hX lv st w σ h k H locs ls hP hD hS hl
  unfold r_astore at h
  split at h
  · next x r =>
    cases h
    exact lv_astore_n hX.1.1 hX.1.2.1 hd hi hl hn (congrArg _ (cL_drop1 ad lv i)) (fun ls2 hl2 => k H locs ls2 hP hD hS hl2)
  · cases h
theorem ok_astore {bs : ByteArray} {own : String} {nL pc i : Nat} (hd : decode bs pc = .ok (.astore i, 2)) (hn : i < nL) : mOk bs own nL pc (r_astore (pc + 2) i) := by
  intro p l e R s m args below meth c D ca ad A cells slots Q hX lv st w σ h k H locs ls hP hD hS hl
  unfold r_astore at h
  split at h
  · next x r =>
    cases h
    exact lv_astore hX.1.1 hX.1.2.1 hd hl hn (congrArg _ (cL_drop1 ad lv i)) (fun ls2 hl2 => k H locs ls2 hP hD hS hl2)
  · cases h
theorem ok_iinc {bs : ByteArray} {own : String} {nL pc i : Nat} {n : Int} {v : Int32} (hd : decode bs pc = .ok (.iinc i n, 3)) (hv : Int32.ofInt n = v) (hn : i < nL) : mOk bs own nL pc (r_iinc (pc + 3) i v) := by
  intro p l e R s m args below meth c D ca ad A cells slots Q hX lv st w σ h k H locs ls hP hD hS hl
  unfold r_iinc at h
  split at h
  · next x hx =>
    cases h
    subst hv
    obtain ⟨j, hj⟩ := List.getElem?_of_mem (List.mem_map.mpr ⟨(i, .int x), mget_mem hx, rfl⟩ : (i, cz ad (.int x)) ∈ cL ad lv)
    exact lv_iinc hX.1.1 hX.1.2.1 hd hl hj rfl hn (congrArg _ (cL_drop1 ad lv i)) (fun ls2 hl2 => k H locs ls2 hP hD hS hl2)
  · cases h
theorem ok_iconst {bs : ByteArray} {own : String} {nL pc : Nat} {n : Int} {v : Int32} (hd : decode bs pc = .ok (.iconst n, 1)) (hv : Int32.ofInt n = v) : mOk bs own nL pc (r_ic (pc + 1) v) := by
  intro p l e R s m args below meth c D ca ad A cells slots Q hX lv st w σ h k H locs ls hP hD hS hl
  cases h
  exact lv_iconst hX.1.1 hX.1.2.1 hd hv (k H locs ls hP hD hS hl)
theorem ok_bipush {bs : ByteArray} {own : String} {nL pc : Nat} {n : Int} {v : Int32} (hd : decode bs pc = .ok (.bipush n, 2)) (hv : (Int8.ofInt n).toInt32 = v) : mOk bs own nL pc (r_ic (pc + 2) v) := by
  intro p l e R s m args below meth c D ca ad A cells slots Q hX lv st w σ h k H locs ls hP hD hS hl
  cases h
  exact lv_bipush hX.1.1 hX.1.2.1 hd hv (k H locs ls hP hD hS hl)
theorem ok_sipush {bs : ByteArray} {own : String} {nL pc : Nat} {n : Int} {v : Int32} (hd : decode bs pc = .ok (.sipush n, 3)) (hv : (Int16.ofInt n).toInt32 = v) : mOk bs own nL pc (r_ic (pc + 3) v) := by
  intro p l e R s m args below meth c D ca ad A cells slots Q hX lv st w σ h k H locs ls hP hD hS hl
  cases h
  exact lv_sipush hX.1.1 hX.1.2.1 hd hv (k H locs ls hP hD hS hl)
theorem ok_lconst {bs : ByteArray} {own : String} {nL pc : Nat} {n : Fin 2} {v : Int64} (hd : decode bs pc = .ok (.lconst n, 1)) (hv : Int64.ofNat (n : Nat) = v) : mOk bs own nL pc (r_lc (pc + 1) v) := by
  intro p l e R s m args below meth c D ca ad A cells slots Q hX lv st w σ h k H locs ls hP hD hS hl
  cases h
  exact lv_lconst hX.1.1 hX.1.2.1 hd hv (k H locs ls hP hD hS hl)
theorem ok_ldc {bs : ByteArray} {own : String} {nL pc index : Nat} {v : Int32} (hd : decode bs pc = .ok (.ldc index, 2)) (hw : Cond.constant own index v ∈ mTbl) : mOk bs own nL pc (r_ic (pc + 2) v) := by
  intro p l e R s m args below meth c D ca ad A cells slots Q hX lv st w σ h k H locs ls hP hD hS hl
  cases h
  exact lv_ldc hX.1.1 hX.1.2.1 hX.1.2.2.2.1 (hX.1.2.2.2.2 _ hw) hd (k H locs ls hP hD hS hl)
theorem ok_ldcw {bs : ByteArray} {own : String} {nL pc index : Nat} {v : Int32} (hd : decode bs pc = .ok (.ldc_w index, 3)) (hw : Cond.constant own index v ∈ mTbl) : mOk bs own nL pc (r_ic (pc + 3) v) := by
  intro p l e R s m args below meth c D ca ad A cells slots Q hX lv st w σ h k H locs ls hP hD hS hl
  cases h
  exact lv_ldcw hX.1.1 hX.1.2.1 hX.1.2.2.2.1 (hX.1.2.2.2.2 _ hw) hd (k H locs ls hP hD hS hl)
theorem ok_ldc2 {bs : ByteArray} {own : String} {nL pc index : Nat} {v : Int64} (hd : decode bs pc = .ok (.ldc2_w index, 3)) (hw : Cond.constantLong own index v ∈ mTbl) : mOk bs own nL pc (r_lc (pc + 3) v) := by
  intro p l e R s m args below meth c D ca ad A cells slots Q hX lv st w σ h k H locs ls hP hD hS hl
  cases h
  exact lv_ldc2 hX.1.1 hX.1.2.1 hX.1.2.2.2.1 (hX.1.2.2.2.2 _ hw) hd (k H locs ls hP hD hS hl)
theorem ok_iadd {bs : ByteArray} {own : String} {nL pc : Nat} (hd : decode bs pc = .ok (.iadd, 1)) : mOk bs own nL pc (r_ii (pc + 1) (fun x y => x + y)) := by
  intro p l e R s m args below meth c D ca ad A cells slots Q hX lv st w σ h k H locs ls hP hD hS hl
  unfold r_ii at h
  split at h
  · cases h
    exact lv_iadd hX.1.1 hX.1.2.1 hd (k H locs ls hP hD hS hl)
  · cases h
theorem ok_isub {bs : ByteArray} {own : String} {nL pc : Nat} (hd : decode bs pc = .ok (.isub, 1)) : mOk bs own nL pc (r_ii (pc + 1) (fun x y => x - y)) := by
  intro p l e R s m args below meth c D ca ad A cells slots Q hX lv st w σ h k H locs ls hP hD hS hl
  unfold r_ii at h
  split at h
  · cases h
    exact lv_isub hX.1.1 hX.1.2.1 hd (k H locs ls hP hD hS hl)
  · cases h
theorem ok_imul {bs : ByteArray} {own : String} {nL pc : Nat} (hd : decode bs pc = .ok (.imul, 1)) : mOk bs own nL pc (r_ii (pc + 1) (fun x y => x * y)) := by
  intro p l e R s m args below meth c D ca ad A cells slots Q hX lv st w σ h k H locs ls hP hD hS hl
  unfold r_ii at h
  split at h
  · cases h
    exact lv_imul hX.1.1 hX.1.2.1 hd (k H locs ls hP hD hS hl)
  · cases h
theorem ok_iand {bs : ByteArray} {own : String} {nL pc : Nat} (hd : decode bs pc = .ok (.iand, 1)) : mOk bs own nL pc (r_ii (pc + 1) (fun x y => x &&& y)) := by
  intro p l e R s m args below meth c D ca ad A cells slots Q hX lv st w σ h k H locs ls hP hD hS hl
  unfold r_ii at h
  split at h
  · cases h
    exact lv_iand hX.1.1 hX.1.2.1 hd (k H locs ls hP hD hS hl)
  · cases h
theorem ok_ishl {bs : ByteArray} {own : String} {nL pc : Nat} (hd : decode bs pc = .ok (.ishl, 1)) : mOk bs own nL pc (r_ii (pc + 1) (fun x y => x <<< (y &&& 31))) := by
  intro p l e R s m args below meth c D ca ad A cells slots Q hX lv st w σ h k H locs ls hP hD hS hl
  unfold r_ii at h
  split at h
  · cases h
    exact lv_ishl hX.1.1 hX.1.2.1 hd (k H locs ls hP hD hS hl)
  · cases h
theorem ok_ishr {bs : ByteArray} {own : String} {nL pc : Nat} (hd : decode bs pc = .ok (.ishr, 1)) : mOk bs own nL pc (r_ii (pc + 1) (fun x y => x >>> (y &&& 31))) := by
  intro p l e R s m args below meth c D ca ad A cells slots Q hX lv st w σ h k H locs ls hP hD hS hl
  unfold r_ii at h
  split at h
  · cases h
    exact lv_ishr hX.1.1 hX.1.2.1 hd (k H locs ls hP hD hS hl)
  · cases h
theorem ok_iushr {bs : ByteArray} {own : String} {nL pc : Nat} (hd : decode bs pc = .ok (.iushr, 1)) : mOk bs own nL pc (r_ii (pc + 1) (fun x y => (x.toUInt32 >>> (y.toUInt32 &&& Int32.toUInt32 31)).toInt32)) := by
  intro p l e R s m args below meth c D ca ad A cells slots Q hX lv st w σ h k H locs ls hP hD hS hl
  unfold r_ii at h
  split at h
  · cases h
    exact lv_iushr hX.1.1 hX.1.2.1 hd rfl (k H locs ls hP hD hS hl)
  · cases h
theorem ok_idiv {bs : ByteArray} {own : String} {nL pc : Nat} (hd : decode bs pc = .ok (.idiv, 1)) : mOk bs own nL pc (r_iid (pc + 1) (fun x y => x / y)) := by
  intro p l e R s m args below meth c D ca ad A cells slots Q hX lv st w σ h k H locs ls hP hD hS hl
  unfold r_iid at h
  split at h
  · split at h
    · cases h
    · next hne =>
      cases h
      exact lv_idiv hX.1.1 hX.1.2.1 hd hne (k H locs ls hP hD hS hl)
  · cases h
theorem ok_irem {bs : ByteArray} {own : String} {nL pc : Nat} (hd : decode bs pc = .ok (.irem, 1)) : mOk bs own nL pc (r_iid (pc + 1) (fun x y => x - x / y * y)) := by
  intro p l e R s m args below meth c D ca ad A cells slots Q hX lv st w σ h k H locs ls hP hD hS hl
  unfold r_iid at h
  split at h
  · split at h
    · cases h
    · next hne =>
      cases h
      exact lv_irem hX.1.1 hX.1.2.1 hd hne (k H locs ls hP hD hS hl)
  · cases h
theorem ok_ladd {bs : ByteArray} {own : String} {nL pc : Nat} (hd : decode bs pc = .ok (.ladd, 1)) : mOk bs own nL pc (r_ll (pc + 1) (fun x y => x + y)) := by
  intro p l e R s m args below meth c D ca ad A cells slots Q hX lv st w σ h k H locs ls hP hD hS hl
  unfold r_ll at h
  split at h
  · cases h
    exact lv_ladd hX.1.1 hX.1.2.1 hd (k H locs ls hP hD hS hl)
  · cases h
theorem ok_lsub {bs : ByteArray} {own : String} {nL pc : Nat} (hd : decode bs pc = .ok (.lsub, 1)) : mOk bs own nL pc (r_ll (pc + 1) (fun x y => x - y)) := by
  intro p l e R s m args below meth c D ca ad A cells slots Q hX lv st w σ h k H locs ls hP hD hS hl
  unfold r_ll at h
  split at h
  · cases h
    exact lv_lsub hX.1.1 hX.1.2.1 hd (k H locs ls hP hD hS hl)
  · cases h
theorem ok_lmul {bs : ByteArray} {own : String} {nL pc : Nat} (hd : decode bs pc = .ok (.lmul, 1)) : mOk bs own nL pc (r_ll (pc + 1) (fun x y => x * y)) := by
  intro p l e R s m args below meth c D ca ad A cells slots Q hX lv st w σ h k H locs ls hP hD hS hl
  unfold r_ll at h
  split at h
  · cases h
    exact lv_lmul hX.1.1 hX.1.2.1 hd (k H locs ls hP hD hS hl)
  · cases h
theorem ok_lxor {bs : ByteArray} {own : String} {nL pc : Nat} (hd : decode bs pc = .ok (.lxor, 1)) : mOk bs own nL pc (r_ll (pc + 1) (fun x y => x ^^^ y)) := by
  intro p l e R s m args below meth c D ca ad A cells slots Q hX lv st w σ h k H locs ls hP hD hS hl
  unfold r_ll at h
  split at h
  · cases h
    exact lv_lxor hX.1.1 hX.1.2.1 hd (k H locs ls hP hD hS hl)
  · cases h
theorem ok_ldiv {bs : ByteArray} {own : String} {nL pc : Nat} (hd : decode bs pc = .ok (.ldiv, 1)) : mOk bs own nL pc (r_lld (pc + 1) (fun x y => x / y)) := by
  intro p l e R s m args below meth c D ca ad A cells slots Q hX lv st w σ h k H locs ls hP hD hS hl
  unfold r_lld at h
  split at h
  · split at h
    · cases h
    · next hne =>
      cases h
      exact lv_ldiv hX.1.1 hX.1.2.1 hd hne (k H locs ls hP hD hS hl)
  · cases h
theorem ok_lrem {bs : ByteArray} {own : String} {nL pc : Nat} (hd : decode bs pc = .ok (.lrem, 1)) : mOk bs own nL pc (r_lld (pc + 1) (fun x y => x - x / y * y)) := by
  intro p l e R s m args below meth c D ca ad A cells slots Q hX lv st w σ h k H locs ls hP hD hS hl
  unfold r_lld at h
  split at h
  · split at h
    · cases h
    · next hne =>
      cases h
      exact lv_lrem hX.1.1 hX.1.2.1 hd hne (k H locs ls hP hD hS hl)
  · cases h
theorem ok_ineg {bs : ByteArray} {own : String} {nL pc : Nat} (hd : decode bs pc = .ok (.ineg, 1)) : mOk bs own nL pc (r_ineg (pc + 1)) := by
  intro p l e R s m args below meth c D ca ad A cells slots Q hX lv st w σ h k H locs ls hP hD hS hl
  unfold r_ineg at h
  split at h
  · cases h
    exact lv_ineg hX.1.1 hX.1.2.1 hd (k H locs ls hP hD hS hl)
  · cases h
theorem ok_lneg {bs : ByteArray} {own : String} {nL pc : Nat} (hd : decode bs pc = .ok (.lneg, 1)) : mOk bs own nL pc (r_lneg (pc + 1)) := by
  intro p l e R s m args below meth c D ca ad A cells slots Q hX lv st w σ h k H locs ls hP hD hS hl
  unfold r_lneg at h
  split at h
  · cases h
    exact lv_lneg hX.1.1 hX.1.2.1 hd (k H locs ls hP hD hS hl)
  · cases h
theorem ok_i2l {bs : ByteArray} {own : String} {nL pc : Nat} (hd : decode bs pc = .ok (.i2l, 1)) : mOk bs own nL pc (r_i2l (pc + 1)) := by
  intro p l e R s m args below meth c D ca ad A cells slots Q hX lv st w σ h k H locs ls hP hD hS hl
  unfold r_i2l at h
  split at h
  · cases h
    exact lv_i2l hX.1.1 hX.1.2.1 hd rfl (k H locs ls hP hD hS hl)
  · cases h
theorem ok_lcmp {bs : ByteArray} {own : String} {nL pc : Nat} (hd : decode bs pc = .ok (.lcmp, 1)) : mOk bs own nL pc (r_lcmp (pc + 1)) := by
  intro p l e R s m args below meth c D ca ad A cells slots Q hX lv st w σ h k H locs ls hP hD hS hl
  unfold r_lcmp at h
  split at h
  · cases h
    exact W.lcmp hX.1.1 hX.1.2.1 hd (k H locs ls hP hD hS hl)
  · cases h
theorem ok_pop {bs : ByteArray} {own : String} {nL pc : Nat} (hd : decode bs pc = .ok (.pop, 1)) : mOk bs own nL pc (r_pop (pc + 1)) := by
  intro p l e R s m args below meth c D ca ad A cells slots Q hX lv st w σ h k H locs ls hP hD hS hl
  unfold r_pop at h
  split at h
  · cases h
    exact lv_pop hX.1.1 hX.1.2.1 hd rfl (k H locs ls hP hD hS hl)
  · cases h
theorem ok_goto {bs : ByteArray} {own : String} {nL pc t : Nat} {off : Int} (hd : decode bs pc = .ok (.goto off, 3)) (ht : (pc : Int) + off = (t : Int)) : mOk bs own nL pc (r_goto t) := by
  intro p l e R s m args below meth c D ca ad A cells slots Q hX lv st w σ h k H locs ls hP hD hS hl
  cases h
  exact lv_goto hX.1.1 hX.1.2.1 hd ht (k H locs ls hP hD hS hl)
theorem ok_ifeq {bs : ByteArray} {own : String} {nL pc t : Nat} {off : Int} (hd : decode bs pc = .ok (.ifCond .eq off, 3)) (ht : (pc : Int) + off = (t : Int)) : mOk bs own nL pc (r_ifeq (pc + 3) t) := by
  intro p l e R s m args below meth c D ca ad A cells slots Q hX lv st w σ h k H locs ls hP hD hS hl
  unfold r_ifeq at h
  split at h
  · cases h
    exact lv_if_eq hX.1.1 hX.1.2.1 hd ht (fun q => by rw [if_pos q] at k; exact k H locs ls hP hD hS hl) (fun q => by rw [if_neg q] at k; exact k H locs ls hP hD hS hl)
  · cases h
theorem ok_ifne {bs : ByteArray} {own : String} {nL pc t : Nat} {off : Int} (hd : decode bs pc = .ok (.ifCond .ne off, 3)) (ht : (pc : Int) + off = (t : Int)) : mOk bs own nL pc (r_ifne (pc + 3) t) := by
  intro p l e R s m args below meth c D ca ad A cells slots Q hX lv st w σ h k H locs ls hP hD hS hl
  unfold r_ifne at h
  split at h
  · cases h
    exact lv_if_ne hX.1.1 hX.1.2.1 hd ht (fun q => by rw [if_neg q] at k; exact k H locs ls hP hD hS hl) (fun q => by rw [if_pos q] at k; exact k H locs ls hP hD hS hl)
  · cases h
theorem ok_iflt {bs : ByteArray} {own : String} {nL pc t : Nat} {off : Int} (hd : decode bs pc = .ok (.ifCond .lt off, 3)) (ht : (pc : Int) + off = (t : Int)) : mOk bs own nL pc (r_iflt (pc + 3) t) := by
  intro p l e R s m args below meth c D ca ad A cells slots Q hX lv st w σ h k H locs ls hP hD hS hl
  unfold r_iflt at h
  split at h
  · cases h
    exact lv_if_lt hX.1.1 hX.1.2.1 hd ht (fun q => by rw [if_pos q] at k; exact k H locs ls hP hD hS hl) (fun q => by rw [if_neg q] at k; exact k H locs ls hP hD hS hl)
  · cases h
theorem ok_ifge {bs : ByteArray} {own : String} {nL pc t : Nat} {off : Int} (hd : decode bs pc = .ok (.ifCond .ge off, 3)) (ht : (pc : Int) + off = (t : Int)) : mOk bs own nL pc (r_ifge (pc + 3) t) := by
  intro p l e R s m args below meth c D ca ad A cells slots Q hX lv st w σ h k H locs ls hP hD hS hl
  unfold r_ifge at h
  split at h
  · cases h
    exact lv_if_ge hX.1.1 hX.1.2.1 hd ht (fun q => by rw [if_pos q] at k; exact k H locs ls hP hD hS hl) (fun q => by rw [if_neg q] at k; exact k H locs ls hP hD hS hl)
  · cases h
theorem ok_ifgt {bs : ByteArray} {own : String} {nL pc t : Nat} {off : Int} (hd : decode bs pc = .ok (.ifCond .gt off, 3)) (ht : (pc : Int) + off = (t : Int)) : mOk bs own nL pc (r_ifgt (pc + 3) t) := by
  intro p l e R s m args below meth c D ca ad A cells slots Q hX lv st w σ h k H locs ls hP hD hS hl
  unfold r_ifgt at h
  split at h
  · cases h
    exact lv_if_gt hX.1.1 hX.1.2.1 hd ht (fun q => by rw [if_pos q] at k; exact k H locs ls hP hD hS hl) (fun q => by rw [if_neg q] at k; exact k H locs ls hP hD hS hl)
  · cases h
theorem ok_ifle {bs : ByteArray} {own : String} {nL pc t : Nat} {off : Int} (hd : decode bs pc = .ok (.ifCond .le off, 3)) (ht : (pc : Int) + off = (t : Int)) : mOk bs own nL pc (r_ifle (pc + 3) t) := by
  intro p l e R s m args below meth c D ca ad A cells slots Q hX lv st w σ h k H locs ls hP hD hS hl
  unfold r_ifle at h
  split at h
  · cases h
    exact lv_if_le hX.1.1 hX.1.2.1 hd ht (fun q => by rw [if_pos q] at k; exact k H locs ls hP hD hS hl) (fun q => by rw [if_neg q] at k; exact k H locs ls hP hD hS hl)
  · cases h
theorem ok_ceq {bs : ByteArray} {own : String} {nL pc t : Nat} {off : Int} (hd : decode bs pc = .ok (.if_icmp .eq off, 3)) (ht : (pc : Int) + off = (t : Int)) : mOk bs own nL pc (r_ceq (pc + 3) t) := by
  intro p l e R s m args below meth c D ca ad A cells slots Q hX lv st w σ h k H locs ls hP hD hS hl
  unfold r_ceq at h
  split at h
  · cases h
    exact lv_icmp_eq hX.1.1 hX.1.2.1 hd ht (fun q => by rw [if_pos q] at k; exact k H locs ls hP hD hS hl) (fun q => by rw [if_neg q] at k; exact k H locs ls hP hD hS hl)
  · cases h
theorem ok_cne {bs : ByteArray} {own : String} {nL pc t : Nat} {off : Int} (hd : decode bs pc = .ok (.if_icmp .ne off, 3)) (ht : (pc : Int) + off = (t : Int)) : mOk bs own nL pc (r_cne (pc + 3) t) := by
  intro p l e R s m args below meth c D ca ad A cells slots Q hX lv st w σ h k H locs ls hP hD hS hl
  unfold r_cne at h
  split at h
  · cases h
    exact lv_icmp_ne hX.1.1 hX.1.2.1 hd ht (fun q => by rw [if_neg q] at k; exact k H locs ls hP hD hS hl) (fun q => by rw [if_pos q] at k; exact k H locs ls hP hD hS hl)
  · cases h
theorem ok_clt {bs : ByteArray} {own : String} {nL pc t : Nat} {off : Int} (hd : decode bs pc = .ok (.if_icmp .lt off, 3)) (ht : (pc : Int) + off = (t : Int)) : mOk bs own nL pc (r_clt (pc + 3) t) := by
  intro p l e R s m args below meth c D ca ad A cells slots Q hX lv st w σ h k H locs ls hP hD hS hl
  unfold r_clt at h
  split at h
  · cases h
    exact lv_icmp_lt hX.1.1 hX.1.2.1 hd ht (fun q => by rw [if_pos q] at k; exact k H locs ls hP hD hS hl) (fun q => by rw [if_neg q] at k; exact k H locs ls hP hD hS hl)
  · cases h
theorem ok_cge {bs : ByteArray} {own : String} {nL pc t : Nat} {off : Int} (hd : decode bs pc = .ok (.if_icmp .ge off, 3)) (ht : (pc : Int) + off = (t : Int)) : mOk bs own nL pc (r_cge (pc + 3) t) := by
  intro p l e R s m args below meth c D ca ad A cells slots Q hX lv st w σ h k H locs ls hP hD hS hl
  unfold r_cge at h
  split at h
  · cases h
    exact lv_icmp_ge hX.1.1 hX.1.2.1 hd ht (fun q => by rw [if_pos q] at k; exact k H locs ls hP hD hS hl) (fun q => by rw [if_neg q] at k; exact k H locs ls hP hD hS hl)
  · cases h
theorem ok_cgt {bs : ByteArray} {own : String} {nL pc t : Nat} {off : Int} (hd : decode bs pc = .ok (.if_icmp .gt off, 3)) (ht : (pc : Int) + off = (t : Int)) : mOk bs own nL pc (r_cgt (pc + 3) t) := by
  intro p l e R s m args below meth c D ca ad A cells slots Q hX lv st w σ h k H locs ls hP hD hS hl
  unfold r_cgt at h
  split at h
  · cases h
    exact lv_icmp_gt hX.1.1 hX.1.2.1 hd ht (fun q => by rw [if_pos q] at k; exact k H locs ls hP hD hS hl) (fun q => by rw [if_neg q] at k; exact k H locs ls hP hD hS hl)
  · cases h
theorem ok_cle {bs : ByteArray} {own : String} {nL pc t : Nat} {off : Int} (hd : decode bs pc = .ok (.if_icmp .le off, 3)) (ht : (pc : Int) + off = (t : Int)) : mOk bs own nL pc (r_cle (pc + 3) t) := by
  intro p l e R s m args below meth c D ca ad A cells slots Q hX lv st w σ h k H locs ls hP hD hS hl
  unfold r_cle at h
  split at h
  · cases h
    exact lv_icmp_le hX.1.1 hX.1.2.1 hd ht (fun q => by rw [if_pos q] at k; exact k H locs ls hP hD hS hl) (fun q => by rw [if_neg q] at k; exact k H locs ls hP hD hS hl)
  · cases h
