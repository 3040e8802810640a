theorem mcons {P : Nat × mR → Prop} {a : Nat × mR} {t : List (Nat × mR)} (h : P a) (ht : ∀ q ∈ t, P q) : ∀ q ∈ a :: t, P q := List.forall_mem_cons.mpr ⟨h, ht⟩
theorem mnil {P : Nat × mR → Prop} : ∀ q ∈ ([] : List (Nat × mR)), P q := fun _ h => absurd h List.not_mem_nil
def r_tsw (lo hi : Int) (df : Nat) (ts : List Nat) : mR := fun lv st w => match st with
  | .int x :: r => if x.toInt < lo ∨ hi < x.toInt then some (df, lv, r, w) else (match ts[(x.toInt - lo).toNat]? with
    | some t => some (t, lv, r, w)
    | none => none)
  | _ => none
theorem ok_tsw {bs : ByteArray} {own : String} {nL pc df len : Nat} {ts : List Nat} {dflt lo hi : Int} {offs : Array Int} (hd : decode bs pc = .ok (.tableswitch dflt lo hi offs, len)) (hf : (pc : Int) + dflt = (df : Int)) (hts : offs.toList.map (fun o : Int => (pc : Int) + o) = ts.map (fun t : Nat => (t : Int))) : mOk bs own nL pc (r_tsw lo hi df ts) := by
  intro p l e R s m args below meth c D ca ad A cells slots Q hX lv st w σ h k H locs ls hP hD hS hl
  unfold r_tsw at h
  split at h
  · next x r =>
    split at h
    · next hc =>
      cases h
      exact lv_tableOut hX.1.1 hX.1.2.1 hd hc hf (k H locs ls hP hD hS hl)
    · next hc =>
      split at h
      · next t ht =>
        cases h
        have h1 : (offs.toList.map (fun o : Int => (pc : Int) + o))[(x.toInt - lo).toNat]? = some (t : Int) := by rw [hts, List.getElem?_map, ht]; rfl
        rw [List.getElem?_map] at h1
        cases ho : offs.toList[(x.toInt - lo).toNat]? with
        | none => rw [ho] at h1; cases h1
        | some off =>
          rw [ho] at h1
          exact lv_tableIn (off := off) hX.1.1 hX.1.2.1 hd (fun q => hc (Or.inl q)) (fun q => hc (Or.inr q)) (by rw [← Array.getElem?_toList]; exact ho) (Option.some.inj h1) (k H locs ls hP hD hS hl)
      · cases h
  · cases h
def r_lsw (pc : Nat) (dflt : Int) (ps : List (Int × Int)) : mR := fun lv st w => match st with
  | .int x :: r => if 0 ≤ (pc : Int) + Op.lookupswitch.offset ps dflt x.toInt then some (((pc : Int) + Op.lookupswitch.offset ps dflt x.toInt).toNat, lv, r, w) else none
  | _ => none
theorem ok_lsw {bs : ByteArray} {own : String} {nL pc len : Nat} {dflt : Int} {ps : List (Int × Int)} (hd : decode bs pc = .ok (.lookupswitch dflt ps.toArray, len)) (hp : (ps.zip (ps.drop 1)).all (fun (a, next) => a.1 < next.1) = true) : mOk bs own nL pc (r_lsw pc dflt ps) := by
  intro p l e R s m args below meth c D ca ad A cells slots Q hX lv st w σ h k H locs ls hP hD hS hl
  unfold r_lsw at h
  split at h
  · next x r =>
    split at h
    · next hc =>
      cases h
      exact lv_lookup (off := Op.lookupswitch.offset ps dflt x.toInt) hX.1.1 hX.1.2.1 hd hp rfl (Int.toNat_of_nonneg hc).symm (k H locs ls hP hD hS hl)
    · cases h
  · cases h
/-- the one call of System.arraycopy: all 23 of a row -/
def mCopy (G : mS → Prop) (pc : Nat) : Prop := ∀ (lv : mL) (a b : Nat) (rest : List Value) (w : mW) (L M : List Int32), w[a]? = some (.inr (0, .inl L)) → w[b]? = some (.inr (0, .inl M)) → L.length = 23 → M.length = 23 → (rest.map fun v => v.category).sum ≤ 8 →
  G (pc + 3, lv, rest, w.set b (.inr (0, .inl L))) → G (pc, lv, .int 23 :: .int 0 :: .ref b :: .int 0 :: .ref a :: rest, w)
theorem mCopy_ok {p : Program} {l : Launch} {e : Env} {s : State} {m : MethodId} {args : Array Value} {below : List Frame} {meth : Method} {c : Code} {D : va_G} {ca : Nat → ClassId} {ad : Nat → Nat} {A : Nat → Prop} {nL cells slots : Nat} {Q : State → Prop} {bs : ByteArray} {own : String} {R : Room} (hX : mX p s m args meth c bs nL own D ca A)
    {pc index : Nat} (hd : decode bs pc = .ok (.invokestatic index, 3)) (hlink : Cond.methodLink own index arraycopyName ∈ mTbl) (hnat : Cond.native arraycopyName ∈ mTbl) (hst : Cond.static arraycopyName ∈ mTbl) (hini : Cond.initialized "java/lang/System" ∈ mTbl) (hR : 1 ≤ R.frames) (hR2 : 8 + (nativeFrameWords "java/lang/System" "arraycopy" 5 + 11) ≤ R.locals) :
    mCopy (mG p l e R s m args below meth c D ca ad A nL cells slots Q) pc := by
  intro lv a b rest w L M ha hb hL hM hsum k H locs ls hP hD hS hl
  have ht := hX.1.2.2.2.2
  refine va_copyi (a := ad b) (a0 := ad a) (ty := .int) hX.1.1 hX.1.2.1 (hX.1.2.2.1.trans hl.1.symm) hX.1.2.2.2.1 (ht _ hlink) (ht _ hnat) (ht _ hst) (ht _ hini) hX.2.1.1 hP hD hS a b 0 0 (cW_at ha) (cW_at hb) rfl rfl rfl (by decide) (by decide) (by decide) (by rw [hL]; decide) (by rw [hM]; decide) (fun _ _ => rfl) hR (by rw [cz_sum]; omega) hd (fun H1 locs1 hP1 hD1 hS1 => ?_)
  have ef : va_cpy (fun j => L.getD j 0) (fun j => M.getD j 0) (0 : Int32).toNatClampNeg (0 : Int32).toNatClampNeg (23 : Int32).toNatClampNeg = fun j => L.getD j 0 := by
    funext j
    rw [show (0 : Int32).toNatClampNeg = 0 from by decide, show (23 : Int32).toNatClampNeg = 23 from by decide]
    unfold va_cpy
    by_cases h : 0 ≤ j ∧ j < 0 + 23
    · rw [if_pos h, Nat.zero_add, Nat.sub_zero]
    · rw [if_neg h]
      show M.getD j 0 = L.getD j 0
      rw [List.getD_eq_getElem?_getD, List.getD_eq_getElem?_getD, List.getElem?_eq_none (by omega), List.getElem?_eq_none (by omega)]
  have e1 : cW ad ca (w.set b (.inr (0, .inl L))) = (cW ad ca w).set b (ad b, .inl (ca 0, M.length, .inl (va_cpy (fun j => L.getD j 0) (fun j => M.getD j 0) (0 : Int32).toNatClampNeg (0 : Int32).toNatClampNeg (23 : Int32).toNatClampNeg))) := by
    rw [cW_set, ef, hM, ← hL]
    rfl
  exact k H1 locs1 ls (by rw [← e1] at hP1; exact hP1) (by rw [← e1] at hD1; exact hD1) hS1 hl
def r_dup (n : Nat) : mR := fun lv st w => match st with
  | v :: r => bif Nat.beq v.category 1 then some (n, lv, v :: v :: r, w) else none
  | _ => none
theorem ok_dup {bs : ByteArray} {own : String} {nL pc : Nat} (hd : decode bs pc = .ok (.dup, 1)) : mOk bs own nL pc (r_dup (pc + 1)) := by
  intro p l e R s m args below meth c D ca ad A cells slots Q hX lv st w σ h k H locs ls hP hD hS hl
  unfold r_dup at h
  split at h
  · next v r =>
    cases hb : Nat.beq v.category 1 with
    | false => rw [hb] at h; cases h
    | true =>
      rw [hb, cond_true] at h
      cases h
      exact lv_dup hX.1.1 hX.1.2.1 hd ((cz_cat ad v).trans (nat_beq hb)) (k H locs ls hP hD hS hl)
  · cases h
