theorem mP_get {D : va_G} {ca : Nat → ClassId} {ad : Nat → Nat} {w : mW} {H : Heap} {a : Nat} {x : mE} (hP : va_P D mCls (cW ad ca w) H) (h : w[a]? = some x) : va_at D mCls (ad a, cE ad ca x) H := hP a _ (cW_at h)
theorem nat_beq {a b : Nat} (h : Nat.beq a b = true) : a = b := Nat.eq_of_beq_eq_true h
/-- a field's row: its class is number ci of mCls, its place there is k -/
theorem ok_getf {bs : ByteArray} {own ref C : String} {T : u_T} {N nL pc ci index : Nat} (k : Nat) (hd : decode bs pc = .ok (.getfield index, 3)) (hc : mCls[ci]? = some (C, T, N)) (hin : ∀ w ∈ u_ws C T N, w ∈ mTbl) (hk : k < N) (hlink : Cond.fieldLink own index ref (T k).2.1 (T k).2.2.1 ∈ mTbl) (hsame : (T k).1 = ref) : mOk bs own nL pc (r_getf (pc + 3) ci k) := by
  intro p l e R s m args below meth c D ca ad A cells slots Q hX lv st w σ h kk H locs ls hP hD hS hl
  unfold r_getf at h
  split at h
  · next a r =>
    split at h
    · next c0 fs hw =>
      cases hb : Nat.beq c0 ci with
      | false => rw [hb] at h; cases h
      | true =>
        rw [hb, cond_true] at h
        have e := nat_beq hb
        subst e
        split at h
        · next v hv =>
          cases h
          exact va_get (v := cz ad v) hX.1.1 hX.1.2.1 hX.1.2.2.2.2 hin hX.1.2.2.2.1 hX.2.1.1 hP a (cW_at hw) hc k hk (hX.1.2.2.2.2 _ hlink) (fun x hx => by rw [← hsame]; exact hx) (by show (fs.map (cz ad))[k]? = _; rw [List.getElem?_map, hv]; rfl) hd (kk H locs ls hP hD hS hl)
        · cases h
    · cases h
  · cases h
theorem ok_puti {bs : ByteArray} {own ref C : String} {T : u_T} {ty0 : Nat → FieldType} {N nL pc ci index : Nat} (k : Nat) (hd : decode bs pc = .ok (.putfield index, 3)) (hc : mCls[ci]? = some (C, T, N)) (hin : ∀ w ∈ u_ws C T N, w ∈ mTbl) (hty : ∀ k, k < N → parseFieldDescriptor (T k).2.2.1 = some (ty0 k)) (hnm : ∀ a, a < N → ∀ b, b < N → a ≠ b → (T a).2.1 ≠ (T b).2.1) (hk : k < N) (hlink : Cond.fieldLink own index ref (T k).2.1 (T k).2.2.1 ∈ mTbl) (hsame : (T k).1 = ref) (hfin : (T k).2.2.2 = false) (hint : parseFieldDescriptor (T k).2.2.1 = some .int) : mOk bs own nL pc (r_puti (pc + 3) ci k) := by
  intro p l e R s m args below meth c D ca ad A cells slots Q hX lv st w σ h kk H locs ls hP hD hS hl
  unfold r_puti at h
  split at h
  · next x a r =>
    split at h
    · next c0 fs hw =>
      cases hb : (Nat.beq c0 ci && Nat.blt k fs.length) with
      | false => rw [hb] at h; cases h
      | true =>
        rw [hb, cond_true] at h
        cases h
        obtain ⟨h1, h2⟩ := (Bool.and_eq_true _ _).mp hb
        have e := nat_beq h1
        subst e
        have hlt : k < fs.length := Nat.le_of_ble_eq_true h2
        refine va_put (v := .int x) hX.1.1 hX.1.2.1 hX.1.2.2.2.2 hin ty0 hty hnm hX.1.2.2.2.1 hX.2.1.1 hP hD hS a (cW_at hw) hc k hk (hX.1.2.2.2.2 _ hlink) (fun x hx => by rw [← hsame]; exact hx) hfin hint rfl rfl (by rw [List.length_map]; exact hlt) hd (fun H1 locs1 hP1 hD1 hS1 => ?_)
        have e1 : cW ad ca (w.set a (.inl (c0, fs.set k (.int x)))) = (cW ad ca w).set a (ad a, .inr (c0, (fs.map (cz ad)).set k (.int x))) := by
          rw [cW_set]
          show _ = _
          rw [show cE ad ca (.inl (c0, fs.set k (.int x))) = .inr (c0, (fs.set k (.int x)).map (cz ad)) from rfl, List.map_set]
          rfl
        exact kk H1 locs1 ls (by rw [← e1] at hP1; exact hP1) (by rw [← e1] at hD1; exact hD1) hS1 hl
    · cases h
  · cases h
theorem ok_putl {bs : ByteArray} {own ref C : String} {T : u_T} {ty0 : Nat → FieldType} {N nL pc ci index : Nat} (k : Nat) (hd : decode bs pc = .ok (.putfield index, 3)) (hc : mCls[ci]? = some (C, T, N)) (hin : ∀ w ∈ u_ws C T N, w ∈ mTbl) (hty : ∀ k, k < N → parseFieldDescriptor (T k).2.2.1 = some (ty0 k)) (hnm : ∀ a, a < N → ∀ b, b < N → a ≠ b → (T a).2.1 ≠ (T b).2.1) (hk : k < N) (hlink : Cond.fieldLink own index ref (T k).2.1 (T k).2.2.1 ∈ mTbl) (hsame : (T k).1 = ref) (hfin : (T k).2.2.2 = false) (hint : parseFieldDescriptor (T k).2.2.1 = some .long) : mOk bs own nL pc (r_putl (pc + 3) ci k) := by
  intro p l e R s m args below meth c D ca ad A cells slots Q hX lv st w σ h kk H locs ls hP hD hS hl
  unfold r_putl at h
  split at h
  · next x a r =>
    split at h
    · next c0 fs hw =>
      cases hb : (Nat.beq c0 ci && Nat.blt k fs.length) with
      | false => rw [hb] at h; cases h
      | true =>
        rw [hb, cond_true] at h
        cases h
        obtain ⟨h1, h2⟩ := (Bool.and_eq_true _ _).mp hb
        have e := nat_beq h1
        subst e
        have hlt : k < fs.length := Nat.le_of_ble_eq_true h2
        refine va_put (v := .long x) hX.1.1 hX.1.2.1 hX.1.2.2.2.2 hin ty0 hty hnm hX.1.2.2.2.1 hX.2.1.1 hP hD hS a (cW_at hw) hc k hk (hX.1.2.2.2.2 _ hlink) (fun x hx => by rw [← hsame]; exact hx) hfin hint rfl rfl (by rw [List.length_map]; exact hlt) hd (fun H1 locs1 hP1 hD1 hS1 => ?_)
        have e1 : cW ad ca (w.set a (.inl (c0, fs.set k (.long x)))) = (cW ad ca w).set a (ad a, .inr (c0, (fs.map (cz ad)).set k (.long x))) := by
          rw [cW_set]
          show _ = _
          rw [show cE ad ca (.inl (c0, fs.set k (.long x))) = .inr (c0, (fs.set k (.long x)).map (cz ad)) from rfl, List.map_set]
          rfl
        exact kk H1 locs1 ls (by rw [← e1] at hP1; exact hP1) (by rw [← e1] at hD1; exact hD1) hS1 hl
    · cases h
  · cases h
theorem m_in {i : Int32} {n : Nat} (h0 : ¬ i < 0) (h : i.toNatClampNeg < n) : vp_in i n := fun q => q.elim h0 (fun q => absurd h (Nat.not_lt.mpr q))
theorem getD_of {α : Type} {L : List α} {i : Nat} {x d : α} (h : L[i]? = some x) : L.getD i d = x := by
  rw [List.getD_eq_getElem?_getD, h]; rfl
theorem ok_iald {bs : ByteArray} {own : String} {nL pc : Nat} (hd : decode bs pc = .ok (.iaload, 1)) : mOk bs own nL pc (r_iald (pc + 1)) := by
  intro p l e R s m args below meth c D ca ad A cells slots Q hX lv st w σ h kk H locs ls hP hD hS hl
  unfold r_iald at h
  split at h
  · next i a r =>
    split at h
    · next L hw =>
      split at h
      · cases h
      · next h0 =>
        split at h
        · next x hx =>
          cases h
          have hlt := (List.getElem?_eq_some_iff.mp hx).1
          refine va_iald (a := ad a) hX.1.1 hX.1.2.1 hX.2.1.1 hP a 0 (cW_at hw) rfl (m_in h0 hlt) hd ?_
          rw [getD_of hx]
          exact kk H locs ls hP hD hS hl
        · cases h
    · cases h
  · cases h
theorem ok_lald {bs : ByteArray} {own : String} {nL pc : Nat} (hd : decode bs pc = .ok (.laload, 1)) : mOk bs own nL pc (r_lald (pc + 1)) := by
  intro p l e R s m args below meth c D ca ad A cells slots Q hX lv st w σ h kk H locs ls hP hD hS hl
  unfold r_lald at h
  split at h
  · next i a r =>
    split at h
    · next L hw =>
      split at h
      · cases h
      · next h0 =>
        split at h
        · next x hx =>
          cases h
          have hlt := (List.getElem?_eq_some_iff.mp hx).1
          refine va_lald (a := ad a) hX.1.1 hX.1.2.1 hX.2.1.1 hP a 1 (cW_at hw) rfl (m_in h0 hlt) hd ?_
          rw [getD_of hx]
          exact kk H locs ls hP hD hS hl
        · cases h
    · cases h
  · cases h
theorem upd_set (L : List Int32) (k : Nat) (x : Int32) (h : k < L.length) : upd (fun j => L.getD j 0) k x = fun j => (L.set k x).getD j 0 := by
  funext j
  unfold upd
  by_cases e : j = k
  · subst e
    rw [if_pos rfl, List.getD_eq_getElem?_getD, List.getElem?_set_self h]; rfl
  · rw [if_neg e, List.getD_eq_getElem?_getD, List.getElem?_set_ne (fun q => e q.symm)]
    exact List.getD_eq_getElem?_getD
theorem updL_set (L : List Int64) (k : Nat) (x : Int64) (h : k < L.length) : vp_updL (fun j => L.getD j 0) k x = fun j => (L.set k x).getD j 0 := by
  funext j
  unfold vp_updL
  by_cases e : j = k
  · subst e
    rw [if_pos rfl, List.getD_eq_getElem?_getD, List.getElem?_set_self h]; rfl
  · rw [if_neg e, List.getD_eq_getElem?_getD, List.getElem?_set_ne (fun q => e q.symm)]
    exact List.getD_eq_getElem?_getD
theorem ok_iast {bs : ByteArray} {own : String} {nL pc : Nat} (hd : decode bs pc = .ok (.iastore, 1)) : mOk bs own nL pc (r_iast (pc + 1)) := by
  intro p l e R s m args below meth c D ca ad A cells slots Q hX lv st w σ h kk H locs ls hP hD hS hl
  unfold r_iast at h
  split at h
  · next x i a r =>
    split at h
    · next L hw =>
      split at h
      · cases h
      · next h0 =>
        cases hb : Nat.blt i.toNatClampNeg L.length with
        | false => rw [hb] at h; cases h
        | true =>
          rw [hb, cond_true] at h
          cases h
          have hlt : i.toNatClampNeg < L.length := Nat.le_of_ble_eq_true hb
          refine va_iast (a := ad a) hX.1.1 hX.1.2.1 hX.2.1.1 hP hD hS a 0 (cW_at hw) rfl (m_in h0 hlt) hd (fun H1 locs1 hP1 hD1 hS1 => ?_)
          have e1 : cW ad ca (w.set a (.inr (0, .inl (L.set i.toNatClampNeg x)))) = (cW ad ca w).set a (ad a, .inl (ca 0, L.length, .inl (upd (fun j => L.getD j 0) i.toNatClampNeg x))) := by
            rw [cW_set, upd_set L _ x hlt]
            show List.set _ _ (ad a, Sum.inl (ca 0, (L.set i.toNatClampNeg x).length, _)) = _
            rw [List.length_set]
          exact kk H1 locs1 ls (by rw [← e1] at hP1; exact hP1) (by rw [← e1] at hD1; exact hD1) hS1 hl
    · cases h
  · cases h
theorem ok_last {bs : ByteArray} {own : String} {nL pc : Nat} (hd : decode bs pc = .ok (.lastore, 1)) : mOk bs own nL pc (r_last (pc + 1)) := by
  intro p l e R s m args below meth c D ca ad A cells slots Q hX lv st w σ h kk H locs ls hP hD hS hl
  unfold r_last at h
  split at h
  · next x i a r =>
    split at h
    · next L hw =>
      split at h
      · cases h
      · next h0 =>
        cases hb : Nat.blt i.toNatClampNeg L.length with
        | false => rw [hb] at h; cases h
        | true =>
          rw [hb, cond_true] at h
          cases h
          have hlt : i.toNatClampNeg < L.length := Nat.le_of_ble_eq_true hb
          refine va_last (a := ad a) hX.1.1 hX.1.2.1 hX.2.1.1 hP hD hS a 1 (cW_at hw) rfl (m_in h0 hlt) hd (fun H1 locs1 hP1 hD1 hS1 => ?_)
          have e1 : cW ad ca (w.set a (.inr (1, .inr (.inl (L.set i.toNatClampNeg x))))) = (cW ad ca w).set a (ad a, .inl (ca 1, L.length, .inr (.inl (vp_updL (fun j => L.getD j 0) i.toNatClampNeg x)))) := by
            rw [cW_set, updL_set L _ x hlt]
            show List.set _ _ (ad a, Sum.inl (ca 1, (L.set i.toNatClampNeg x).length, _)) = _
            rw [List.length_set]
          exact kk H1 locs1 ls (by rw [← e1] at hP1; exact hP1) (by rw [← e1] at hD1; exact hD1) hS1 hl
    · cases h
  · cases h
theorem ok_aald {bs : ByteArray} {own : String} {nL pc : Nat} (hd : decode bs pc = .ok (.aaload, 1)) : mOk bs own nL pc (r_aald (pc + 1)) := by
  intro p l e R s m args below meth c D ca ad A cells slots Q hX lv st w σ h kk H locs ls hP hD hS hl
  unfold r_aald at h
  split at h
  · next i a r =>
    split at h
    · next t L hw =>
      cases hb : (Nat.beq t 2 || (Nat.beq t 3 || Nat.beq t 4)) with
      | false => rw [hb] at h; cases h
      | true =>
        rw [hb, cond_true] at h
        split at h
        · cases h
        · next h0 =>
          split at h
          · next x hx =>
            cases h
            have hlt := (List.getElem?_eq_some_iff.mp hx).1
            have ht : ∃ ty : FieldType, (mTys ca)[t]? = some (ca t, ty) ∧ ty.isReference = true := by
              rcases (Bool.or_eq_true _ _).mp hb with q | q
              · have e := nat_beq q; subst e; exact ⟨_, rfl, rfl⟩
              · rcases (Bool.or_eq_true _ _).mp q with q | q
                · have e := nat_beq q; subst e; exact ⟨_, rfl, rfl⟩
                · have e := nat_beq q; subst e; exact ⟨_, rfl, rfl⟩
            obtain ⟨ty, ht1, ht2⟩ := ht
            have hcell := mP_get hP hw
            have hg : (L[i.toNatClampNeg]?).map ad = some (ad x) := by rw [hx]; rfl
            exact W.aald (v := .ref (ad x)) (ty := ty) hX.1.1 hX.1.2.1 hcell ((hX.2.1.1.2 t _ ht1).1 L.length (fun j => va_rf ((L[j]?).map ad))) ht2 (fun q => by cases q) (by show ¬ (i < 0 ∨ (arrV _ _ _).slots.size ≤ _); rw [arrV_size]; exact m_in h0 hlt) (by show (arrV _ _ _).slots[_]? = _; rw [arrV_read _ _ hlt]; exact congrArg (fun z => some (va_rf z)) hg) rfl rfl hd (kk H locs ls hP hD hS hl)
          · cases h
    · cases h
  · cases h
theorem ok_alen {bs : ByteArray} {own : String} {nL pc : Nat} (hd : decode bs pc = .ok (.arraylength, 1)) : mOk bs own nL pc (r_alen (pc + 1)) := by
  intro p l e R s m args below meth c D ca ad A cells slots Q hX lv st w σ h kk H locs ls hP hD hS hl
  unfold r_alen at h
  split at h
  · next a r =>
    split at h
    · next L hw =>
      cases h
      exact va_alen (a := ad a) hX.1.1 hX.1.2.1 hX.2.1.1 hP a 0 (cW_at hw) (ty := .int) rfl rfl hd (kk H locs ls hP hD hS hl)
    · cases h
  · cases h
