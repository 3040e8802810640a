theorem wj_0 : Cond.methodLink RX0 3 Lib.objectInit ∈ mTbl := by decide +kernel
theorem wj_1 : Cond.methodLink RX1 3 Lib.objectInit ∈ mTbl := by decide +kernel
theorem wj_2 : Cond.methodLink RX2 1 Lib.objectInit ∈ mTbl := by decide +kernel
theorem wj_3 : Cond.methodLink RX3 1 Lib.objectInit ∈ mTbl := by decide +kernel
theorem wj_4 : Cond.fieldLink RX0 11 "CradleNets$Book" "rows" "[[I" ∈ mTbl := by decide +kernel
theorem wj_5 : Cond.fieldLink RX1 9 "CradleNets$Net" "rounds" "[J" ∈ mTbl := by decide +kernel
theorem wj_6 : Cond.fieldLink RX1 15 "CradleNets$Net" "below" "J" ∈ mTbl := by decide +kernel
theorem wj_7 : Cond.fieldLink RX1 19 "CradleNets$Net" "determinant" "J" ∈ mTbl := by decide +kernel
theorem wj_8 : Cond.fieldLink RX1 24 "CradleNets$Net" "table" "[[J" ∈ mTbl := by decide +kernel
theorem wj_9 : Cond.fieldLink RX1 27 "CradleNets$Net" "column" "[J" ∈ mTbl := by decide +kernel
theorem wj_10 : Cond.fieldLink RX1 30 "CradleNets$Net" "minors" "[J" ∈ mTbl := by decide +kernel
theorem wj_11 : Cond.fieldLink RX1 33 "CradleNets$Net" "size" "I" ∈ mTbl := by decide +kernel
theorem wj_12 : Cond.fieldLink RX2 10 "CradleNets" "now" "LCradleNets$Book;" ∈ mTbl := by decide +kernel
theorem wj_13 : Cond.fieldLink RX2 16 "CradleNets" "mixed" "LCradleNets$Book;" ∈ mTbl := by decide +kernel
theorem wj_14 : Cond.fieldLink RX2 19 "CradleNets" "kept" "[LCradleNets$Book;" ∈ mTbl := by decide +kernel
theorem wj_15 : Cond.fieldLink RX2 26 "CradleNets" "net" "LCradleNets$Net;" ∈ mTbl := by decide +kernel
theorem wj_16 : Cond.fieldLink RX2 32 "CradleNets" "held" "[[I" ∈ mTbl := by decide +kernel
theorem wj_17 : Cond.fieldLink RX2 35 "CradleNets" "difference" "[I" ∈ mTbl := by decide +kernel
theorem wj_18 : Cond.fieldLink RX2 39 "CradleNets" "makings" "I" ∈ mTbl := by decide +kernel
theorem wj_19 : Cond.fieldLink RX2 43 "CradleNets" "versions" "I" ∈ mTbl := by decide +kernel
theorem wj_20 : Cond.fieldLink RX3 7 "CradleNetsModel" "outs" "[I" ∈ mTbl := by decide +kernel
theorem wj_21 : Cond.fieldLink RX3 13 "CradleNetsModel" "rules" "[I" ∈ mTbl := by decide +kernel
theorem wj_22 : Cond.fieldLink RX3 16 "CradleNetsModel" "weights" "[I" ∈ mTbl := by decide +kernel
theorem wj_23 : Cond.fieldLink RX3 19 "CradleNetsModel" "prices" "[I" ∈ mTbl := by decide +kernel
theorem wj_24 : Cond.fieldLink RX3 22 "CradleNetsModel" "need" "[I" ∈ mTbl := by decide +kernel
theorem wj_25 : Cond.fieldLink RX3 25 "CradleNetsModel" "gives" "[I" ∈ mTbl := by decide +kernel
theorem wj_26 : Cond.fieldLink RX3 28 "CradleNetsModel" "emit" "[I" ∈ mTbl := by decide +kernel
theorem wj_27 : Cond.fieldLink RX3 31 "CradleNetsModel" "basket" "[I" ∈ mTbl := by decide +kernel
theorem wj_28 : Cond.fieldLink RX3 34 "CradleNetsModel" "bookOf" "[I" ∈ mTbl := by decide +kernel
theorem wj_29 : Cond.fieldLink RX3 37 "CradleNetsModel" "table" "[J" ∈ mTbl := by decide +kernel
theorem wj_30 : Cond.fieldLink RX3 41 "CradleNetsModel" "tried" "[J" ∈ mTbl := by decide +kernel
theorem wj_31 : Cond.fieldLink RX3 44 "CradleNetsModel" "rounds" "[J" ∈ mTbl := by decide +kernel
theorem wj_32 : Cond.fieldLink RX3 47 "CradleNetsModel" "others" "[J" ∈ mTbl := by decide +kernel
theorem wj_33 : Cond.arrayClass .int ∈ mTbl := by decide +kernel
theorem wj_34 : Cond.arrayClass .long ∈ mTbl := by decide +kernel
theorem wj_35 : Cond.classLink RX0 9 ("[" ++ (FieldType.array .int).toString) ∈ mTbl := by decide +kernel
theorem wj_36 : Cond.classLink RX1 22 ("[" ++ (FieldType.array .long).toString) ∈ mTbl := by decide +kernel
theorem wj_37 : Cond.classLink RX2 30 ("[" ++ (FieldType.array .int).toString) ∈ mTbl := by decide +kernel
theorem wj_38 : Cond.classLink RX2 7 RX0 ∈ mTbl := by decide +kernel
theorem wj_39 : Cond.classLink RX2 23 RX1 ∈ mTbl := by decide +kernel
theorem wj_40 : Cond.instantiable RX0 1 ∈ mTbl := by decide +kernel
theorem wj_41 : Cond.instantiable RX1 7 ∈ mTbl := by decide +kernel
theorem wj_42 : Cond.initialized RX0 ∈ mTbl := by decide +kernel
theorem wj_43 : Cond.initialized RX1 ∈ mTbl := by decide +kernel
theorem wj_44 : Cond.methodLink RX2 9 yX0_init ∈ mTbl := by decide +kernel
theorem wj_45 : Cond.code yX0_init cX0_init 2 none ∈ mTbl := by decide +kernel
theorem wj_46 : Cond.instanceMethod yX0_init ∈ mTbl := by decide +kernel
theorem wj_47 : Cond.code yX1_init cX1_init 1 none ∈ mTbl := by decide +kernel
theorem wj_48 : Cond.instanceMethod yX1_init ∈ mTbl := by decide +kernel
def tbX0_init : List (Nat × mR) := [(15, r_ic 16 0), (16, r_istore 17 1), (17, r_iload 18 1), (18, r_ic 19 4), (19, r_cge 22 75), (22, r_aload 23 0), (23, r_getf 26 0 0), (26, r_iload 27 1), (27, r_aald 28), (28, r_ic 29 0), (29, r_ic 30 1), (30, r_iast 31), (31, r_aload 32 0), (32, r_getf 35 0 0), (35, r_iload 36 1), (36, r_aald 37), (37, r_ic 38 2), (38, r_ic 39 1), (39, r_iast 40), (40, r_aload 41 0), (41, r_getf 44 0 0), (44, r_iload 45 1), (45, r_aald 46), (46, r_ic 47 3), (47, r_ic 48 1), (48, r_iast 49), (49, r_aload 50 0), (50, r_getf 53 0 0), (53, r_iload 54 1), (54, r_aald 55), (55, r_ic 57 21), (57, r_ic 58 1), (58, r_iast 59), (59, r_aload 60 0), (60, r_getf 63 0 0), (63, r_iload 64 1), (64, r_aald 65), (65, r_ic 67 22), (67, r_ic 68 1), (68, r_iast 69), (69, r_iinc 72 1 1), (72, r_goto 17)]
theorem tkX0_init : ∀ q ∈ tbX0_init, mOk cX0_init RX0 2 q.1 q.2 := by
  unfold tbX0_init
  refine mcons (ok_iconst dX0_init_15 (by decide)) ?_
  refine mcons (ok_istore_n dX0_init_16 rfl (by decide)) ?_
  refine mcons (ok_iload_n dX0_init_17 rfl) ?_
  refine mcons (ok_iconst dX0_init_18 (by decide)) ?_
  refine mcons (ok_cge dX0_init_19 (by decide)) ?_
  refine mcons (ok_aload_n dX0_init_22 rfl) ?_
  refine mcons (ok_getf 0 dX0_init_23 rfl mX0 (by decide) wj_4 rfl) ?_
  refine mcons (ok_iload_n dX0_init_26 rfl) ?_
  refine mcons (ok_aald dX0_init_27) ?_
  refine mcons (ok_iconst dX0_init_28 (by decide)) ?_
  refine mcons (ok_iconst dX0_init_29 (by decide)) ?_
  refine mcons (ok_iast dX0_init_30) ?_
  refine mcons (ok_aload_n dX0_init_31 rfl) ?_
  refine mcons (ok_getf 0 dX0_init_32 rfl mX0 (by decide) wj_4 rfl) ?_
  refine mcons (ok_iload_n dX0_init_35 rfl) ?_
  refine mcons (ok_aald dX0_init_36) ?_
  refine mcons (ok_iconst dX0_init_37 (by decide)) ?_
  refine mcons (ok_iconst dX0_init_38 (by decide)) ?_
  refine mcons (ok_iast dX0_init_39) ?_
  refine mcons (ok_aload_n dX0_init_40 rfl) ?_
  refine mcons (ok_getf 0 dX0_init_41 rfl mX0 (by decide) wj_4 rfl) ?_
  refine mcons (ok_iload_n dX0_init_44 rfl) ?_
  refine mcons (ok_aald dX0_init_45) ?_
  refine mcons (ok_iconst dX0_init_46 (by decide)) ?_
  refine mcons (ok_iconst dX0_init_47 (by decide)) ?_
  refine mcons (ok_iast dX0_init_48) ?_
  refine mcons (ok_aload_n dX0_init_49 rfl) ?_
  refine mcons (ok_getf 0 dX0_init_50 rfl mX0 (by decide) wj_4 rfl) ?_
  refine mcons (ok_iload_n dX0_init_53 rfl) ?_
  refine mcons (ok_aald dX0_init_54) ?_
  refine mcons (ok_bipush dX0_init_55 (by decide)) ?_
  refine mcons (ok_iconst dX0_init_57 (by decide)) ?_
  refine mcons (ok_iast dX0_init_58) ?_
  refine mcons (ok_aload_n dX0_init_59 rfl) ?_
  refine mcons (ok_getf 0 dX0_init_60 rfl mX0 (by decide) wj_4 rfl) ?_
  refine mcons (ok_iload_n dX0_init_63 rfl) ?_
  refine mcons (ok_aald dX0_init_64) ?_
  refine mcons (ok_bipush dX0_init_65 (by decide)) ?_
  refine mcons (ok_iconst dX0_init_67 (by decide)) ?_
  refine mcons (ok_iast dX0_init_68) ?_
  refine mcons (ok_iinc dX0_init_69 (by decide) (by decide)) ?_
  refine mcons (ok_goto dX0_init_72 (by decide)) ?_
  exact mnil
def z0 : Nat → Int32 := fun _ => 0
def frB : Nat → Int32 := up (up (up (up (up z0 0 1) 2 1) 3 1) 21 1) 22 1
def bW (b0 b1 b2 b3 : Nat → Int32) : mW := [.inl (0, [.ref 1]), eR 2 [2, 3, 4, 5], eI23 b0, eI23 b1, eI23 b2, eI23 b3]
def bkW (ca : Nat → ClassId) (h0 : Nat) (a : Nat → Nat) : va_W := [(h0, .inr (0, [.ref (a 1)])), (a 1, oR ca 2 [a 2, a 3, a 4, a 5]), (a 2, cE id ca (eI23 frB)), (a 3, cE id ca (eI23 frB)), (a 4, cE id ca (eI23 frB)), (a 5, cE id ca (eI23 frB))]
set_option maxRecDepth 20000 in
theorem bk_loop {G : mS → Prop} (hT : mTb G tbX0_init) (hE : ∀ lv : mL, G (75, lv, [], bW frB frB frB frB)) : G (15, [(0, .ref 0)], [], bW z0 z0 z0 z0) := by
  refine mB hT 40 rfl ?_
  refine mWd (w2 := (bW (up (up (up (up (up z0 0 1) 2 1) 3 1) 21 1) 22 1) z0 z0 z0)) rfl ?_
  refine mB hT 40 rfl ?_
  refine mNf (lv2 := [(1, .int 1), (0, .ref 0)]) (st2 := []) rfl rfl ?_
  refine mWd (w2 := (bW (up (up (up (up (up z0 0 1) 2 1) 3 1) 21 1) 22 1) (up (up (up (up (up z0 0 1) 2 1) 3 1) 21 1) 22 1) z0 z0)) rfl ?_
  refine mB hT 40 rfl ?_
  refine mWd (w2 := (bW (up (up (up (up (up z0 0 1) 2 1) 3 1) 21 1) 22 1) (up (up (up (up (up z0 0 1) 2 1) 3 1) 21 1) 22 1) (up (up (up (up (up z0 0 1) 2 1) 3 1) 21 1) 22 1) z0)) rfl ?_
  refine mB hT 40 rfl ?_
  refine mNf (lv2 := [(1, .int 3), (0, .ref 0)]) (st2 := []) rfl rfl ?_
  refine mWd (w2 := (bW (up (up (up (up (up z0 0 1) 2 1) 3 1) 21 1) 22 1) (up (up (up (up (up z0 0 1) 2 1) 3 1) 21 1) 22 1) (up (up (up (up (up z0 0 1) 2 1) 3 1) 21 1) 22 1) (up (up (up (up (up z0 0 1) 2 1) 3 1) 21 1) 22 1))) rfl ?_
  refine mB hT 5 rfl ?_
  exact hE _
set_option maxHeartbeats 4000000 in
set_option maxRecDepth 100000 in
theorem ci_X0 (l : Launch) (D : va_G) (ca : Nat → ClassId) : mI l yX0_init cX0_init 2 1 D ca (.inr (0, [.null])) (bkW ca) 5 96 := by
  intro h0 sz
  refine va_MetF (cc := cX0_init) (maxL := 2) (ret := none) (by decide +kernel) rfl ?_
  intro p e s m args below meth c s₁ B hml hv
  obtain ⟨rfl, hsz, hP, hkf, hD0⟩ := hv
  subst hsz
  have hx := B.exec
  have hb := B.bytes
  have hr := B.returns
  have ht : ∀ w ∈ mTbl, w.before ([Value.ref h0] : List Value).toArray s = true := fun w hw => atoms_spec (ws := Cond.code yX0_init cX0_init 2 none :: mTbl) B.pre w (List.mem_cons_of_mem _ hw)
  have hown : s.vm.findClass RX0 = some m.cls := findClass_of_methodNamed B.named
  have hin : meth.name = "<init>" := (name_of_methodNamed B.named B.method).1
  have hlocks := B.notSynchronized
  have hD := hD0.self (sz := s.heap.size)
  have hA : ∀ q : Nat, s.heap.size ≤ q → va_A [(h0, (.inr (0, [.null])))] s.heap.size q := fun q h => Or.inr h
  have hS : va_S (va_A [(h0, (.inr (0, [.null])))] s.heap.size) s.heap s.heap [] := va_S.rf
  have hl := lv_entry ([.ref h0]) (n := 2) (Nat.le_of_ble_eq_true rfl)
  rw [lg_entry_eq]
  generalize (lg_sl ([.ref h0]) ++ List.replicate (2 - (lg_sl ([.ref h0])).length) Slot.unset).toArray = ls at hl ⊢
  have hl : lv_has ls 2 [(0, .ref h0)] := hl
  refine lv_aload_n hx hb dX0_init_0 rfl (lv_at hl 0 rfl) ?_
  refine objI hx hb hown hml ht wj_0 hl.1 dX0_init_1 (Nat.le_of_ble_eq_true rfl) (Nat.le_of_ble_eq_true rfl) ?_
  refine lv_aload_n hx hb dX0_init_4 rfl (lv_at hl 0 rfl) ?_
  refine lv_iconst (v := 4) hx hb dX0_init_5 (by decide) ?_
  refine lv_bipush (v := 23) hx hb dX0_init_6 (by decide) ?_
  refine mI_new (K := 23) hx hb hown (ht _ wj_35) hkf (ht _ wj_33) hP hD hS hA (by decide) rfl (by decide) (by decide) (Nat.le_of_ble_eq_true rfl) (Nat.le_of_ble_eq_true rfl) dX0_init_8 (fun q r0 r1 r2 r3 H hP hD hS => ?_)
  have hP : va_P D mCls ([(h0, .inr (0, [.null])), (q, oR ca 2 [r0, r1, r2, r3]), (r0, zI ca 23), (r1, zI ca 23), (r2, zI ca 23), (r3, zI ca 23)]) H := hP
  have hD : va_D (va_A [(h0, (.inr (0, [.null])))] s.heap.size) ([(h0, .inr (0, [.null])), (q, oR ca 2 [r0, r1, r2, r3]), (r0, zI ca 23), (r1, zI ca 23), (r2, zI ca 23), (r3, zI ca 23)]) := hD
  refine va_putF (D := D) (ci := 0) (v := .ref q) (ty := (.array (.array .int))) (C := RX0) (T := TX0) (N := 1) hx hb ht mX0 tyX0 tyX0_ok nmX0 hown hkf.1.1 hP hD hS 0 rfl rfl 0 (by decide) (ht _ wj_4) (fun _ h9 => h9) rfl hin rfl (by decide +kernel) rfl rfl (Nat.le_of_ble_eq_true rfl) dX0_init_12 (fun H locs hP hD hS => ?_)
  have hP : va_P D mCls ([(h0, .inr (0, [.ref q])), (q, oR ca 2 [r0, r1, r2, r3]), (r0, zI ca 23), (r1, zI ca 23), (r2, zI ca 23), (r3, zI ca 23)]) H := hP
  have hD : va_D (va_A [(h0, (.inr (0, [.null])))] s.heap.size) ([(h0, .inr (0, [.ref q])), (q, oR ca 2 [r0, r1, r2, r3]), (r0, zI ca 23), (r1, zI ca 23), (r2, zI ca 23), (r3, zI ca 23)]) := hD
  have hX : mX p s m ([Value.ref h0] : List Value).toArray meth c cX0_init 2 RX0 D ca (va_A [(h0, (.inr (0, [.null])))] s.heap.size) := ⟨⟨hx, hb, hml, hown, ht⟩, hkf.1, hlocks, hA⟩
  obtain ⟨ad, ead⟩ : ∃ z : Nat → Nat, z = fun k => [h0, q, r0, r1, r2, r3].getD k 0 := ⟨_, rfl⟩
  have eW : ∀ b0 b1 b2 b3 : Nat → Int32, cW ad ca (bW b0 b1 b2 b3) = [(h0, .inr (0, [.ref q])), (q, oR ca 2 [r0, r1, r2, r3]), (r0, cE id ca (eI23 b0)), (r1, cE id ca (eI23 b1)), (r2, cE id ca (eI23 b2)), (r3, cE id ca (eI23 b3))] := fun b0 b1 b2 b3 => by
    subst ead
    have e1 : cE (fun k => [h0, q, r0, r1, r2, r3].getD k 0) ca (eR 2 [2, 3, 4, 5]) = oR ca 2 [r0, r1, r2, r3] := cE_R _ ca 2 [2, 3, 4, 5]
    rw [← e1]
    rfl
  refine bk_loop (G := mG p l e _ s m ([Value.ref h0] : List Value).toArray below meth c D ca ad (va_A [(h0, (.inr (0, [.null])))] s.heap.size) 2 5 96 (MQ below (iQ D h0 (.inr (0, [.null])) s.heap.size (bkW ca h0)) ([Value.ref h0] : List Value).toArray s 5 96 (va_A [(h0, (.inr (0, [.null])))] s.heap.size))) ⟨fun q hq lv st w σ h k => tkX0_init q hq p l e _ s m _ below meth c D ca ad _ 5 96 _ hX lv st w σ h k, mG_sub⟩ (fun lv H locs ls hP hD hS hl => ?_) H locs ls (by rw [eW]; exact hP) (by rw [eW]; exact hD) hS (by subst ead; exact hl)
  rw [eW] at hP hD
  exact W.vret hx hb hr (fun t hh hW => ⟨⟨rfl, fun k => [h0, q, r0, r1, r2, r3].getD k 0, by rw [hh]; exact hP, hD⟩, hS.F hh⟩) hS.2.2 dX0_init_75 hlocks
def ntW (ca : Nat → ClassId) (h0 : Nat) (a : Nat → Nat) : va_W := [(h0, .inr (1, [.ref (a 1), .long 1, .long 1, .ref (a 2), .ref (a 7), .ref (a 8), .int 0])), (a 1, zL ca 4), (a 2, oR ca 3 [a 3, a 4, a 5, a 6]), (a 3, zL ca 4), (a 4, zL ca 4), (a 5, zL ca 4), (a 6, zL ca 4), (a 7, zL ca 4), (a 8, zL ca 16)]
set_option maxHeartbeats 4000000 in
set_option maxRecDepth 100000 in
theorem ci_X1 (l : Launch) (D : va_G) (ca : Nat → ClassId) : mI l yX1_init cX1_init 1 1 D ca (.inr (1, [.null, .long 0, .long 0, .null, .null, .null, .int 0])) (ntW ca) 8 44 := by
  intro h0 sz
  refine va_MetF (cc := cX1_init) (maxL := 1) (ret := none) (by decide +kernel) rfl ?_
  intro p e s m args below meth c s₁ B hml hv
  obtain ⟨rfl, hsz, hP, hkf, hD0⟩ := hv
  subst hsz
  have hx := B.exec
  have hb := B.bytes
  have hr := B.returns
  have ht : ∀ w ∈ mTbl, w.before ([Value.ref h0] : List Value).toArray s = true := fun w hw => atoms_spec (ws := Cond.code yX1_init cX1_init 1 none :: mTbl) B.pre w (List.mem_cons_of_mem _ hw)
  have hown : s.vm.findClass RX1 = some m.cls := findClass_of_methodNamed B.named
  have hin : meth.name = "<init>" := (name_of_methodNamed B.named B.method).1
  have hlocks := B.notSynchronized
  have hD := hD0.self (sz := s.heap.size)
  have hA : ∀ q : Nat, s.heap.size ≤ q → va_A [(h0, (.inr (1, [.null, .long 0, .long 0, .null, .null, .null, .int 0])))] s.heap.size q := fun q h => Or.inr h
  have hS : va_S (va_A [(h0, (.inr (1, [.null, .long 0, .long 0, .null, .null, .null, .int 0])))] s.heap.size) s.heap s.heap [] := va_S.rf
  have hl := lv_entry ([.ref h0]) (n := 1) (Nat.le_of_ble_eq_true rfl)
  rw [lg_entry_eq]
  generalize (lg_sl ([.ref h0]) ++ List.replicate (1 - (lg_sl ([.ref h0])).length) Slot.unset).toArray = ls at hl ⊢
  have hl : lv_has ls 1 [(0, .ref h0)] := hl
  refine lv_aload_n hx hb dX1_init_0 rfl (lv_at hl 0 rfl) ?_
  refine objI hx hb hown hml ht wj_1 hl.1 dX1_init_1 (Nat.le_of_ble_eq_true rfl) (Nat.le_of_ble_eq_true rfl) ?_
  refine lv_aload_n hx hb dX1_init_4 rfl (lv_at hl 0 rfl) ?_
  refine lv_iconst (v := 4) hx hb dX1_init_5 (by decide) ?_
  refine nL_new (N := 4) hx hb (ht _ wj_34) hkf.1.1 hP hD hS hA (by decide) rfl (by decide) (Nat.le_of_ble_eq_true rfl) (Nat.le_of_ble_eq_true rfl) dX1_init_6 (fun q1 H hP hD hS => ?_)
  have hP : va_P D mCls ([(h0, .inr (1, [.null, .long 0, .long 0, .null, .null, .null, .int 0])), (q1, zL ca 4)]) H := hP
  have hD : va_D (va_A [(h0, (.inr (1, [.null, .long 0, .long 0, .null, .null, .null, .int 0])))] s.heap.size) ([(h0, .inr (1, [.null, .long 0, .long 0, .null, .null, .null, .int 0])), (q1, zL ca 4)]) := hD
  refine va_putF (D := D) (ci := 1) (v := .ref q1) (ty := (.array .long)) (C := RX1) (T := TX1) (N := 7) hx hb ht mX1 tyX1 tyX1_ok nmX1 hown hkf.1.1 hP hD hS 0 rfl rfl 0 (by decide) (ht _ wj_5) (fun _ h9 => h9) rfl hin rfl (by decide +kernel) rfl rfl (Nat.le_of_ble_eq_true rfl) dX1_init_8 (fun H locs hP hD hS => ?_)
  have hP : va_P D mCls ([(h0, .inr (1, [.ref q1, .long 0, .long 0, .null, .null, .null, .int 0])), (q1, zL ca 4)]) H := hP
  have hD : va_D (va_A [(h0, (.inr (1, [.null, .long 0, .long 0, .null, .null, .null, .int 0])))] s.heap.size) ([(h0, .inr (1, [.ref q1, .long 0, .long 0, .null, .null, .null, .int 0])), (q1, zL ca 4)]) := hD
  refine lv_aload_n hx hb dX1_init_11 rfl (lv_at hl 0 rfl) ?_
  refine lv_lconst (v := 1) hx hb dX1_init_12 (by decide) ?_
  refine va_put (D := D) (ci := 1) (v := .long 1) (ty := .long) (C := RX1) (T := TX1) (N := 7) hx hb ht mX1 tyX1 tyX1_ok nmX1 hown hkf.1.1 hP hD hS 0 rfl rfl 1 (by decide) (ht _ wj_6) (fun _ h9 => h9) rfl (by decide +kernel) rfl rfl (Nat.le_of_ble_eq_true rfl) dX1_init_13 (fun H locs hP hD hS => ?_)
  have hP : va_P D mCls ([(h0, .inr (1, [.ref q1, .long 1, .long 0, .null, .null, .null, .int 0])), (q1, zL ca 4)]) H := hP
  have hD : va_D (va_A [(h0, (.inr (1, [.null, .long 0, .long 0, .null, .null, .null, .int 0])))] s.heap.size) ([(h0, .inr (1, [.ref q1, .long 1, .long 0, .null, .null, .null, .int 0])), (q1, zL ca 4)]) := hD
  refine lv_aload_n hx hb dX1_init_16 rfl (lv_at hl 0 rfl) ?_
  refine lv_lconst (v := 1) hx hb dX1_init_17 (by decide) ?_
  refine va_put (D := D) (ci := 1) (v := .long 1) (ty := .long) (C := RX1) (T := TX1) (N := 7) hx hb ht mX1 tyX1 tyX1_ok nmX1 hown hkf.1.1 hP hD hS 0 rfl rfl 2 (by decide) (ht _ wj_7) (fun _ h9 => h9) rfl (by decide +kernel) rfl rfl (Nat.le_of_ble_eq_true rfl) dX1_init_18 (fun H locs hP hD hS => ?_)
  have hP : va_P D mCls ([(h0, .inr (1, [.ref q1, .long 1, .long 1, .null, .null, .null, .int 0])), (q1, zL ca 4)]) H := hP
  have hD : va_D (va_A [(h0, (.inr (1, [.null, .long 0, .long 0, .null, .null, .null, .int 0])))] s.heap.size) ([(h0, .inr (1, [.ref q1, .long 1, .long 1, .null, .null, .null, .int 0])), (q1, zL ca 4)]) := hD
  refine lv_aload_n hx hb dX1_init_21 rfl (lv_at hl 0 rfl) ?_
  refine lv_iconst (v := 4) hx hb dX1_init_22 (by decide) ?_
  refine lv_iconst (v := 4) hx hb dX1_init_23 (by decide) ?_
  refine mL_new (K := 4) hx hb hown (ht _ wj_36) hkf (ht _ wj_34) hP hD hS hA (by decide) rfl (by decide) (by decide) (Nat.le_of_ble_eq_true rfl) (Nat.le_of_ble_eq_true rfl) dX1_init_24 (fun q2 q3 q4 q5 q6 H hP hD hS => ?_)
  have hP : va_P D mCls ([(h0, .inr (1, [.ref q1, .long 1, .long 1, .null, .null, .null, .int 0])), (q1, zL ca 4), (q2, oR ca 3 [q3, q4, q5, q6]), (q3, zL ca 4), (q4, zL ca 4), (q5, zL ca 4), (q6, zL ca 4)]) H := hP
  have hD : va_D (va_A [(h0, (.inr (1, [.null, .long 0, .long 0, .null, .null, .null, .int 0])))] s.heap.size) ([(h0, .inr (1, [.ref q1, .long 1, .long 1, .null, .null, .null, .int 0])), (q1, zL ca 4), (q2, oR ca 3 [q3, q4, q5, q6]), (q3, zL ca 4), (q4, zL ca 4), (q5, zL ca 4), (q6, zL ca 4)]) := hD
  refine va_putF (D := D) (ci := 1) (v := .ref q2) (ty := (.array (.array .long))) (C := RX1) (T := TX1) (N := 7) hx hb ht mX1 tyX1 tyX1_ok nmX1 hown hkf.1.1 hP hD hS 0 rfl rfl 3 (by decide) (ht _ wj_8) (fun _ h9 => h9) rfl hin rfl (by decide +kernel) rfl rfl (Nat.le_of_ble_eq_true rfl) dX1_init_28 (fun H locs hP hD hS => ?_)
  have hP : va_P D mCls ([(h0, .inr (1, [.ref q1, .long 1, .long 1, .ref q2, .null, .null, .int 0])), (q1, zL ca 4), (q2, oR ca 3 [q3, q4, q5, q6]), (q3, zL ca 4), (q4, zL ca 4), (q5, zL ca 4), (q6, zL ca 4)]) H := hP
  have hD : va_D (va_A [(h0, (.inr (1, [.null, .long 0, .long 0, .null, .null, .null, .int 0])))] s.heap.size) ([(h0, .inr (1, [.ref q1, .long 1, .long 1, .ref q2, .null, .null, .int 0])), (q1, zL ca 4), (q2, oR ca 3 [q3, q4, q5, q6]), (q3, zL ca 4), (q4, zL ca 4), (q5, zL ca 4), (q6, zL ca 4)]) := hD
  refine lv_aload_n hx hb dX1_init_31 rfl (lv_at hl 0 rfl) ?_
  refine lv_iconst (v := 4) hx hb dX1_init_32 (by decide) ?_
  refine nL_new (N := 4) hx hb (ht _ wj_34) hkf.1.1 hP hD hS hA (by decide) rfl (by decide) (Nat.le_of_ble_eq_true rfl) (Nat.le_of_ble_eq_true rfl) dX1_init_33 (fun q7 H hP hD hS => ?_)
  have hP : va_P D mCls ([(h0, .inr (1, [.ref q1, .long 1, .long 1, .ref q2, .null, .null, .int 0])), (q1, zL ca 4), (q2, oR ca 3 [q3, q4, q5, q6]), (q3, zL ca 4), (q4, zL ca 4), (q5, zL ca 4), (q6, zL ca 4), (q7, zL ca 4)]) H := hP
  have hD : va_D (va_A [(h0, (.inr (1, [.null, .long 0, .long 0, .null, .null, .null, .int 0])))] s.heap.size) ([(h0, .inr (1, [.ref q1, .long 1, .long 1, .ref q2, .null, .null, .int 0])), (q1, zL ca 4), (q2, oR ca 3 [q3, q4, q5, q6]), (q3, zL ca 4), (q4, zL ca 4), (q5, zL ca 4), (q6, zL ca 4), (q7, zL ca 4)]) := hD
  refine va_putF (D := D) (ci := 1) (v := .ref q7) (ty := (.array .long)) (C := RX1) (T := TX1) (N := 7) hx hb ht mX1 tyX1 tyX1_ok nmX1 hown hkf.1.1 hP hD hS 0 rfl rfl 4 (by decide) (ht _ wj_9) (fun _ h9 => h9) rfl hin rfl (by decide +kernel) rfl rfl (Nat.le_of_ble_eq_true rfl) dX1_init_35 (fun H locs hP hD hS => ?_)
  have hP : va_P D mCls ([(h0, .inr (1, [.ref q1, .long 1, .long 1, .ref q2, .ref q7, .null, .int 0])), (q1, zL ca 4), (q2, oR ca 3 [q3, q4, q5, q6]), (q3, zL ca 4), (q4, zL ca 4), (q5, zL ca 4), (q6, zL ca 4), (q7, zL ca 4)]) H := hP
  have hD : va_D (va_A [(h0, (.inr (1, [.null, .long 0, .long 0, .null, .null, .null, .int 0])))] s.heap.size) ([(h0, .inr (1, [.ref q1, .long 1, .long 1, .ref q2, .ref q7, .null, .int 0])), (q1, zL ca 4), (q2, oR ca 3 [q3, q4, q5, q6]), (q3, zL ca 4), (q4, zL ca 4), (q5, zL ca 4), (q6, zL ca 4), (q7, zL ca 4)]) := hD
  refine lv_aload_n hx hb dX1_init_38 rfl (lv_at hl 0 rfl) ?_
  refine lv_bipush (v := 16) hx hb dX1_init_39 (by decide) ?_
  refine nL_new (N := 16) hx hb (ht _ wj_34) hkf.1.1 hP hD hS hA (by decide) rfl (by decide) (Nat.le_of_ble_eq_true rfl) (Nat.le_of_ble_eq_true rfl) dX1_init_41 (fun q8 H hP hD hS => ?_)
  have hP : va_P D mCls ([(h0, .inr (1, [.ref q1, .long 1, .long 1, .ref q2, .ref q7, .null, .int 0])), (q1, zL ca 4), (q2, oR ca 3 [q3, q4, q5, q6]), (q3, zL ca 4), (q4, zL ca 4), (q5, zL ca 4), (q6, zL ca 4), (q7, zL ca 4), (q8, zL ca 16)]) H := hP
  have hD : va_D (va_A [(h0, (.inr (1, [.null, .long 0, .long 0, .null, .null, .null, .int 0])))] s.heap.size) ([(h0, .inr (1, [.ref q1, .long 1, .long 1, .ref q2, .ref q7, .null, .int 0])), (q1, zL ca 4), (q2, oR ca 3 [q3, q4, q5, q6]), (q3, zL ca 4), (q4, zL ca 4), (q5, zL ca 4), (q6, zL ca 4), (q7, zL ca 4), (q8, zL ca 16)]) := hD
  refine va_putF (D := D) (ci := 1) (v := .ref q8) (ty := (.array .long)) (C := RX1) (T := TX1) (N := 7) hx hb ht mX1 tyX1 tyX1_ok nmX1 hown hkf.1.1 hP hD hS 0 rfl rfl 5 (by decide) (ht _ wj_10) (fun _ h9 => h9) rfl hin rfl (by decide +kernel) rfl rfl (Nat.le_of_ble_eq_true rfl) dX1_init_43 (fun H locs hP hD hS => ?_)
  have hP : va_P D mCls ([(h0, .inr (1, [.ref q1, .long 1, .long 1, .ref q2, .ref q7, .ref q8, .int 0])), (q1, zL ca 4), (q2, oR ca 3 [q3, q4, q5, q6]), (q3, zL ca 4), (q4, zL ca 4), (q5, zL ca 4), (q6, zL ca 4), (q7, zL ca 4), (q8, zL ca 16)]) H := hP
  have hD : va_D (va_A [(h0, (.inr (1, [.null, .long 0, .long 0, .null, .null, .null, .int 0])))] s.heap.size) ([(h0, .inr (1, [.ref q1, .long 1, .long 1, .ref q2, .ref q7, .ref q8, .int 0])), (q1, zL ca 4), (q2, oR ca 3 [q3, q4, q5, q6]), (q3, zL ca 4), (q4, zL ca 4), (q5, zL ca 4), (q6, zL ca 4), (q7, zL ca 4), (q8, zL ca 16)]) := hD
  refine lv_aload_n hx hb dX1_init_46 rfl (lv_at hl 0 rfl) ?_
  refine lv_iconst (v := 0) hx hb dX1_init_47 (by decide) ?_
  refine va_put (D := D) (ci := 1) (v := .int 0) (ty := .int) (C := RX1) (T := TX1) (N := 7) hx hb ht mX1 tyX1 tyX1_ok nmX1 hown hkf.1.1 hP hD hS 0 rfl rfl 6 (by decide) (ht _ wj_11) (fun _ h9 => h9) rfl (by decide +kernel) rfl rfl (Nat.le_of_ble_eq_true rfl) dX1_init_48 (fun H locs hP hD hS => ?_)
  have hP : va_P D mCls ([(h0, .inr (1, [.ref q1, .long 1, .long 1, .ref q2, .ref q7, .ref q8, .int 0])), (q1, zL ca 4), (q2, oR ca 3 [q3, q4, q5, q6]), (q3, zL ca 4), (q4, zL ca 4), (q5, zL ca 4), (q6, zL ca 4), (q7, zL ca 4), (q8, zL ca 16)]) H := hP
  have hD : va_D (va_A [(h0, (.inr (1, [.null, .long 0, .long 0, .null, .null, .null, .int 0])))] s.heap.size) ([(h0, .inr (1, [.ref q1, .long 1, .long 1, .ref q2, .ref q7, .ref q8, .int 0])), (q1, zL ca 4), (q2, oR ca 3 [q3, q4, q5, q6]), (q3, zL ca 4), (q4, zL ca 4), (q5, zL ca 4), (q6, zL ca 4), (q7, zL ca 4), (q8, zL ca 16)]) := hD
  exact W.vret hx hb hr (fun t hh hW => ⟨⟨rfl, fun k => [h0, q1, q2, q3, q4, q5, q6, q7, q8].getD k 0, by rw [hh]; exact hP, hD⟩, hS.F hh⟩) hS.2.2 dX1_init_51 hlocks
def mdW (ca : Nat → ClassId) (h0 : Nat) (a : Nat → Nat) : va_W := [(h0, .inr (3, [.int 0, .int 0, .ref (a 1), .ref (a 2), .ref (a 3), .ref (a 4), .ref (a 5), .ref (a 6), .ref (a 7), .ref (a 8), .ref (a 9), .ref (a 10), .ref (a 11), .long 0, .ref (a 12), .long 0, .ref (a 13), .long 0])), (a 1, zI ca 28), (a 2, zI ca 28), (a 3, zI ca 28), (a 4, zI ca 28), (a 5, zI ca 112), (a 6, zI ca 112), (a 7, zI ca 252), (a 8, zI ca 16), (a 9, zI ca 4), (a 10, zL ca 16), (a 11, zL ca 16), (a 12, zL ca 4), (a 13, zL ca 4)]
set_option maxHeartbeats 4000000 in
set_option maxRecDepth 100000 in
theorem ci_X3 (l : Launch) (D : va_G) (ca : Nat → ClassId) : mI l yX3_init cX3_init 1 1 D ca (.inr (3, [.int 0, .int 0, .null, .null, .null, .null, .null, .null, .null, .null, .null, .null, .null, .long 0, .null, .long 0, .null, .long 0])) (mdW ca) 13 648 := by
  intro h0 sz
  refine va_MetF (cc := cX3_init) (maxL := 1) (ret := none) (by decide +kernel) rfl ?_
  intro p e s m args below meth c s₁ B hml hv
  obtain ⟨rfl, hsz, hP, hkf, hD0⟩ := hv
  subst hsz
  have hx := B.exec
  have hb := B.bytes
  have hr := B.returns
  have ht : ∀ w ∈ mTbl, w.before ([Value.ref h0] : List Value).toArray s = true := fun w hw => atoms_spec (ws := Cond.code yX3_init cX3_init 1 none :: mTbl) B.pre w (List.mem_cons_of_mem _ hw)
  have hown : s.vm.findClass RX3 = some m.cls := findClass_of_methodNamed B.named
  have hin : meth.name = "<init>" := (name_of_methodNamed B.named B.method).1
  have hlocks := B.notSynchronized
  have hD := hD0.self (sz := s.heap.size)
  have hA : ∀ q : Nat, s.heap.size ≤ q → va_A [(h0, (.inr (3, [.int 0, .int 0, .null, .null, .null, .null, .null, .null, .null, .null, .null, .null, .null, .long 0, .null, .long 0, .null, .long 0])))] s.heap.size q := fun q h => Or.inr h
  have hS : va_S (va_A [(h0, (.inr (3, [.int 0, .int 0, .null, .null, .null, .null, .null, .null, .null, .null, .null, .null, .null, .long 0, .null, .long 0, .null, .long 0])))] s.heap.size) s.heap s.heap [] := va_S.rf
  have hl := lv_entry ([.ref h0]) (n := 1) (Nat.le_of_ble_eq_true rfl)
  rw [lg_entry_eq]
  generalize (lg_sl ([.ref h0]) ++ List.replicate (1 - (lg_sl ([.ref h0])).length) Slot.unset).toArray = ls at hl ⊢
  have hl : lv_has ls 1 [(0, .ref h0)] := hl
  refine lv_aload_n hx hb dX3_init_0 rfl (lv_at hl 0 rfl) ?_
  refine objI hx hb hown hml ht wj_3 hl.1 dX3_init_1 (Nat.le_of_ble_eq_true rfl) (Nat.le_of_ble_eq_true rfl) ?_
  refine lv_aload_n hx hb dX3_init_4 rfl (lv_at hl 0 rfl) ?_
  refine lv_bipush (v := 28) hx hb dX3_init_5 (by decide) ?_
  refine nI_new (N := 28) hx hb (ht _ wj_33) hkf.1.1 hP hD hS hA (by decide) rfl (by decide) (Nat.le_of_ble_eq_true rfl) (Nat.le_of_ble_eq_true rfl) dX3_init_7 (fun q1 H hP hD hS => ?_)
  have hP : va_P D mCls ([(h0, .inr (3, [.int 0, .int 0, .null, .null, .null, .null, .null, .null, .null, .null, .null, .null, .null, .long 0, .null, .long 0, .null, .long 0])), (q1, zI ca 28)]) H := hP
  have hD : va_D (va_A [(h0, (.inr (3, [.int 0, .int 0, .null, .null, .null, .null, .null, .null, .null, .null, .null, .null, .null, .long 0, .null, .long 0, .null, .long 0])))] s.heap.size) ([(h0, .inr (3, [.int 0, .int 0, .null, .null, .null, .null, .null, .null, .null, .null, .null, .null, .null, .long 0, .null, .long 0, .null, .long 0])), (q1, zI ca 28)]) := hD
  refine va_putF (D := D) (ci := 3) (v := .ref q1) (ty := (.array .int)) (C := RX3) (T := TX3) (N := 18) hx hb ht mX3 tyX3 tyX3_ok nmX3 hown hkf.1.1 hP hD hS 0 rfl rfl 2 (by decide) (ht _ wj_20) (fun _ h9 => h9) rfl hin rfl (by decide +kernel) rfl rfl (Nat.le_of_ble_eq_true rfl) dX3_init_9 (fun H locs hP hD hS => ?_)
  have hP : va_P D mCls ([(h0, .inr (3, [.int 0, .int 0, .ref q1, .null, .null, .null, .null, .null, .null, .null, .null, .null, .null, .long 0, .null, .long 0, .null, .long 0])), (q1, zI ca 28)]) H := hP
  have hD : va_D (va_A [(h0, (.inr (3, [.int 0, .int 0, .null, .null, .null, .null, .null, .null, .null, .null, .null, .null, .null, .long 0, .null, .long 0, .null, .long 0])))] s.heap.size) ([(h0, .inr (3, [.int 0, .int 0, .ref q1, .null, .null, .null, .null, .null, .null, .null, .null, .null, .null, .long 0, .null, .long 0, .null, .long 0])), (q1, zI ca 28)]) := hD
  refine lv_aload_n hx hb dX3_init_12 rfl (lv_at hl 0 rfl) ?_
  refine lv_bipush (v := 28) hx hb dX3_init_13 (by decide) ?_
  refine nI_new (N := 28) hx hb (ht _ wj_33) hkf.1.1 hP hD hS hA (by decide) rfl (by decide) (Nat.le_of_ble_eq_true rfl) (Nat.le_of_ble_eq_true rfl) dX3_init_15 (fun q2 H hP hD hS => ?_)
  have hP : va_P D mCls ([(h0, .inr (3, [.int 0, .int 0, .ref q1, .null, .null, .null, .null, .null, .null, .null, .null, .null, .null, .long 0, .null, .long 0, .null, .long 0])), (q1, zI ca 28), (q2, zI ca 28)]) H := hP
  have hD : va_D (va_A [(h0, (.inr (3, [.int 0, .int 0, .null, .null, .null, .null, .null, .null, .null, .null, .null, .null, .null, .long 0, .null, .long 0, .null, .long 0])))] s.heap.size) ([(h0, .inr (3, [.int 0, .int 0, .ref q1, .null, .null, .null, .null, .null, .null, .null, .null, .null, .null, .long 0, .null, .long 0, .null, .long 0])), (q1, zI ca 28), (q2, zI ca 28)]) := hD
  refine va_putF (D := D) (ci := 3) (v := .ref q2) (ty := (.array .int)) (C := RX3) (T := TX3) (N := 18) hx hb ht mX3 tyX3 tyX3_ok nmX3 hown hkf.1.1 hP hD hS 0 rfl rfl 3 (by decide) (ht _ wj_21) (fun _ h9 => h9) rfl hin rfl (by decide +kernel) rfl rfl (Nat.le_of_ble_eq_true rfl) dX3_init_17 (fun H locs hP hD hS => ?_)
  have hP : va_P D mCls ([(h0, .inr (3, [.int 0, .int 0, .ref q1, .ref q2, .null, .null, .null, .null, .null, .null, .null, .null, .null, .long 0, .null, .long 0, .null, .long 0])), (q1, zI ca 28), (q2, zI ca 28)]) H := hP
  have hD : va_D (va_A [(h0, (.inr (3, [.int 0, .int 0, .null, .null, .null, .null, .null, .null, .null, .null, .null, .null, .null, .long 0, .null, .long 0, .null, .long 0])))] s.heap.size) ([(h0, .inr (3, [.int 0, .int 0, .ref q1, .ref q2, .null, .null, .null, .null, .null, .null, .null, .null, .null, .long 0, .null, .long 0, .null, .long 0])), (q1, zI ca 28), (q2, zI ca 28)]) := hD
  refine lv_aload_n hx hb dX3_init_20 rfl (lv_at hl 0 rfl) ?_
  refine lv_bipush (v := 28) hx hb dX3_init_21 (by decide) ?_
  refine nI_new (N := 28) hx hb (ht _ wj_33) hkf.1.1 hP hD hS hA (by decide) rfl (by decide) (Nat.le_of_ble_eq_true rfl) (Nat.le_of_ble_eq_true rfl) dX3_init_23 (fun q3 H hP hD hS => ?_)
  have hP : va_P D mCls ([(h0, .inr (3, [.int 0, .int 0, .ref q1, .ref q2, .null, .null, .null, .null, .null, .null, .null, .null, .null, .long 0, .null, .long 0, .null, .long 0])), (q1, zI ca 28), (q2, zI ca 28), (q3, zI ca 28)]) H := hP
  have hD : va_D (va_A [(h0, (.inr (3, [.int 0, .int 0, .null, .null, .null, .null, .null, .null, .null, .null, .null, .null, .null, .long 0, .null, .long 0, .null, .long 0])))] s.heap.size) ([(h0, .inr (3, [.int 0, .int 0, .ref q1, .ref q2, .null, .null, .null, .null, .null, .null, .null, .null, .null, .long 0, .null, .long 0, .null, .long 0])), (q1, zI ca 28), (q2, zI ca 28), (q3, zI ca 28)]) := hD
  refine va_putF (D := D) (ci := 3) (v := .ref q3) (ty := (.array .int)) (C := RX3) (T := TX3) (N := 18) hx hb ht mX3 tyX3 tyX3_ok nmX3 hown hkf.1.1 hP hD hS 0 rfl rfl 4 (by decide) (ht _ wj_22) (fun _ h9 => h9) rfl hin rfl (by decide +kernel) rfl rfl (Nat.le_of_ble_eq_true rfl) dX3_init_25 (fun H locs hP hD hS => ?_)
  have hP : va_P D mCls ([(h0, .inr (3, [.int 0, .int 0, .ref q1, .ref q2, .ref q3, .null, .null, .null, .null, .null, .null, .null, .null, .long 0, .null, .long 0, .null, .long 0])), (q1, zI ca 28), (q2, zI ca 28), (q3, zI ca 28)]) H := hP
  have hD : va_D (va_A [(h0, (.inr (3, [.int 0, .int 0, .null, .null, .null, .null, .null, .null, .null, .null, .null, .null, .null, .long 0, .null, .long 0, .null, .long 0])))] s.heap.size) ([(h0, .inr (3, [.int 0, .int 0, .ref q1, .ref q2, .ref q3, .null, .null, .null, .null, .null, .null, .null, .null, .long 0, .null, .long 0, .null, .long 0])), (q1, zI ca 28), (q2, zI ca 28), (q3, zI ca 28)]) := hD
  refine lv_aload_n hx hb dX3_init_28 rfl (lv_at hl 0 rfl) ?_
  refine lv_bipush (v := 28) hx hb dX3_init_29 (by decide) ?_
  refine nI_new (N := 28) hx hb (ht _ wj_33) hkf.1.1 hP hD hS hA (by decide) rfl (by decide) (Nat.le_of_ble_eq_true rfl) (Nat.le_of_ble_eq_true rfl) dX3_init_31 (fun q4 H hP hD hS => ?_)
  have hP : va_P D mCls ([(h0, .inr (3, [.int 0, .int 0, .ref q1, .ref q2, .ref q3, .null, .null, .null, .null, .null, .null, .null, .null, .long 0, .null, .long 0, .null, .long 0])), (q1, zI ca 28), (q2, zI ca 28), (q3, zI ca 28), (q4, zI ca 28)]) H := hP
  have hD : va_D (va_A [(h0, (.inr (3, [.int 0, .int 0, .null, .null, .null, .null, .null, .null, .null, .null, .null, .null, .null, .long 0, .null, .long 0, .null, .long 0])))] s.heap.size) ([(h0, .inr (3, [.int 0, .int 0, .ref q1, .ref q2, .ref q3, .null, .null, .null, .null, .null, .null, .null, .null, .long 0, .null, .long 0, .null, .long 0])), (q1, zI ca 28), (q2, zI ca 28), (q3, zI ca 28), (q4, zI ca 28)]) := hD
  refine va_putF (D := D) (ci := 3) (v := .ref q4) (ty := (.array .int)) (C := RX3) (T := TX3) (N := 18) hx hb ht mX3 tyX3 tyX3_ok nmX3 hown hkf.1.1 hP hD hS 0 rfl rfl 5 (by decide) (ht _ wj_23) (fun _ h9 => h9) rfl hin rfl (by decide +kernel) rfl rfl (Nat.le_of_ble_eq_true rfl) dX3_init_33 (fun H locs hP hD hS => ?_)
  have hP : va_P D mCls ([(h0, .inr (3, [.int 0, .int 0, .ref q1, .ref q2, .ref q3, .ref q4, .null, .null, .null, .null, .null, .null, .null, .long 0, .null, .long 0, .null, .long 0])), (q1, zI ca 28), (q2, zI ca 28), (q3, zI ca 28), (q4, zI ca 28)]) H := hP
  have hD : va_D (va_A [(h0, (.inr (3, [.int 0, .int 0, .null, .null, .null, .null, .null, .null, .null, .null, .null, .null, .null, .long 0, .null, .long 0, .null, .long 0])))] s.heap.size) ([(h0, .inr (3, [.int 0, .int 0, .ref q1, .ref q2, .ref q3, .ref q4, .null, .null, .null, .null, .null, .null, .null, .long 0, .null, .long 0, .null, .long 0])), (q1, zI ca 28), (q2, zI ca 28), (q3, zI ca 28), (q4, zI ca 28)]) := hD
  refine lv_aload_n hx hb dX3_init_36 rfl (lv_at hl 0 rfl) ?_
  refine lv_bipush (v := 112) hx hb dX3_init_37 (by decide) ?_
  refine nI_new (N := 112) hx hb (ht _ wj_33) hkf.1.1 hP hD hS hA (by decide) rfl (by decide) (Nat.le_of_ble_eq_true rfl) (Nat.le_of_ble_eq_true rfl) dX3_init_39 (fun q5 H hP hD hS => ?_)
  have hP : va_P D mCls ([(h0, .inr (3, [.int 0, .int 0, .ref q1, .ref q2, .ref q3, .ref q4, .null, .null, .null, .null, .null, .null, .null, .long 0, .null, .long 0, .null, .long 0])), (q1, zI ca 28), (q2, zI ca 28), (q3, zI ca 28), (q4, zI ca 28), (q5, zI ca 112)]) H := hP
  have hD : va_D (va_A [(h0, (.inr (3, [.int 0, .int 0, .null, .null, .null, .null, .null, .null, .null, .null, .null, .null, .null, .long 0, .null, .long 0, .null, .long 0])))] s.heap.size) ([(h0, .inr (3, [.int 0, .int 0, .ref q1, .ref q2, .ref q3, .ref q4, .null, .null, .null, .null, .null, .null, .null, .long 0, .null, .long 0, .null, .long 0])), (q1, zI ca 28), (q2, zI ca 28), (q3, zI ca 28), (q4, zI ca 28), (q5, zI ca 112)]) := hD
  refine va_putF (D := D) (ci := 3) (v := .ref q5) (ty := (.array .int)) (C := RX3) (T := TX3) (N := 18) hx hb ht mX3 tyX3 tyX3_ok nmX3 hown hkf.1.1 hP hD hS 0 rfl rfl 6 (by decide) (ht _ wj_24) (fun _ h9 => h9) rfl hin rfl (by decide +kernel) rfl rfl (Nat.le_of_ble_eq_true rfl) dX3_init_41 (fun H locs hP hD hS => ?_)
  have hP : va_P D mCls ([(h0, .inr (3, [.int 0, .int 0, .ref q1, .ref q2, .ref q3, .ref q4, .ref q5, .null, .null, .null, .null, .null, .null, .long 0, .null, .long 0, .null, .long 0])), (q1, zI ca 28), (q2, zI ca 28), (q3, zI ca 28), (q4, zI ca 28), (q5, zI ca 112)]) H := hP
  have hD : va_D (va_A [(h0, (.inr (3, [.int 0, .int 0, .null, .null, .null, .null, .null, .null, .null, .null, .null, .null, .null, .long 0, .null, .long 0, .null, .long 0])))] s.heap.size) ([(h0, .inr (3, [.int 0, .int 0, .ref q1, .ref q2, .ref q3, .ref q4, .ref q5, .null, .null, .null, .null, .null, .null, .long 0, .null, .long 0, .null, .long 0])), (q1, zI ca 28), (q2, zI ca 28), (q3, zI ca 28), (q4, zI ca 28), (q5, zI ca 112)]) := hD
  refine lv_aload_n hx hb dX3_init_44 rfl (lv_at hl 0 rfl) ?_
  refine lv_bipush (v := 112) hx hb dX3_init_45 (by decide) ?_
  refine nI_new (N := 112) hx hb (ht _ wj_33) hkf.1.1 hP hD hS hA (by decide) rfl (by decide) (Nat.le_of_ble_eq_true rfl) (Nat.le_of_ble_eq_true rfl) dX3_init_47 (fun q6 H hP hD hS => ?_)
  have hP : va_P D mCls ([(h0, .inr (3, [.int 0, .int 0, .ref q1, .ref q2, .ref q3, .ref q4, .ref q5, .null, .null, .null, .null, .null, .null, .long 0, .null, .long 0, .null, .long 0])), (q1, zI ca 28), (q2, zI ca 28), (q3, zI ca 28), (q4, zI ca 28), (q5, zI ca 112), (q6, zI ca 112)]) H := hP
  have hD : va_D (va_A [(h0, (.inr (3, [.int 0, .int 0, .null, .null, .null, .null, .null, .null, .null, .null, .null, .null, .null, .long 0, .null, .long 0, .null, .long 0])))] s.heap.size) ([(h0, .inr (3, [.int 0, .int 0, .ref q1, .ref q2, .ref q3, .ref q4, .ref q5, .null, .null, .null, .null, .null, .null, .long 0, .null, .long 0, .null, .long 0])), (q1, zI ca 28), (q2, zI ca 28), (q3, zI ca 28), (q4, zI ca 28), (q5, zI ca 112), (q6, zI ca 112)]) := hD
  refine va_putF (D := D) (ci := 3) (v := .ref q6) (ty := (.array .int)) (C := RX3) (T := TX3) (N := 18) hx hb ht mX3 tyX3 tyX3_ok nmX3 hown hkf.1.1 hP hD hS 0 rfl rfl 7 (by decide) (ht _ wj_25) (fun _ h9 => h9) rfl hin rfl (by decide +kernel) rfl rfl (Nat.le_of_ble_eq_true rfl) dX3_init_49 (fun H locs hP hD hS => ?_)
  have hP : va_P D mCls ([(h0, .inr (3, [.int 0, .int 0, .ref q1, .ref q2, .ref q3, .ref q4, .ref q5, .ref q6, .null, .null, .null, .null, .null, .long 0, .null, .long 0, .null, .long 0])), (q1, zI ca 28), (q2, zI ca 28), (q3, zI ca 28), (q4, zI ca 28), (q5, zI ca 112), (q6, zI ca 112)]) H := hP
  have hD : va_D (va_A [(h0, (.inr (3, [.int 0, .int 0, .null, .null, .null, .null, .null, .null, .null, .null, .null, .null, .null, .long 0, .null, .long 0, .null, .long 0])))] s.heap.size) ([(h0, .inr (3, [.int 0, .int 0, .ref q1, .ref q2, .ref q3, .ref q4, .ref q5, .ref q6, .null, .null, .null, .null, .null, .long 0, .null, .long 0, .null, .long 0])), (q1, zI ca 28), (q2, zI ca 28), (q3, zI ca 28), (q4, zI ca 28), (q5, zI ca 112), (q6, zI ca 112)]) := hD
  refine lv_aload_n hx hb dX3_init_52 rfl (lv_at hl 0 rfl) ?_
  refine lv_sipush (v := 252) hx hb dX3_init_53 (by decide) ?_
  refine nI_new (N := 252) hx hb (ht _ wj_33) hkf.1.1 hP hD hS hA (by decide) rfl (by decide) (Nat.le_of_ble_eq_true rfl) (Nat.le_of_ble_eq_true rfl) dX3_init_56 (fun q7 H hP hD hS => ?_)
  have hP : va_P D mCls ([(h0, .inr (3, [.int 0, .int 0, .ref q1, .ref q2, .ref q3, .ref q4, .ref q5, .ref q6, .null, .null, .null, .null, .null, .long 0, .null, .long 0, .null, .long 0])), (q1, zI ca 28), (q2, zI ca 28), (q3, zI ca 28), (q4, zI ca 28), (q5, zI ca 112), (q6, zI ca 112), (q7, zI ca 252)]) H := hP
  have hD : va_D (va_A [(h0, (.inr (3, [.int 0, .int 0, .null, .null, .null, .null, .null, .null, .null, .null, .null, .null, .null, .long 0, .null, .long 0, .null, .long 0])))] s.heap.size) ([(h0, .inr (3, [.int 0, .int 0, .ref q1, .ref q2, .ref q3, .ref q4, .ref q5, .ref q6, .null, .null, .null, .null, .null, .long 0, .null, .long 0, .null, .long 0])), (q1, zI ca 28), (q2, zI ca 28), (q3, zI ca 28), (q4, zI ca 28), (q5, zI ca 112), (q6, zI ca 112), (q7, zI ca 252)]) := hD
  refine va_putF (D := D) (ci := 3) (v := .ref q7) (ty := (.array .int)) (C := RX3) (T := TX3) (N := 18) hx hb ht mX3 tyX3 tyX3_ok nmX3 hown hkf.1.1 hP hD hS 0 rfl rfl 8 (by decide) (ht _ wj_26) (fun _ h9 => h9) rfl hin rfl (by decide +kernel) rfl rfl (Nat.le_of_ble_eq_true rfl) dX3_init_58 (fun H locs hP hD hS => ?_)
  have hP : va_P D mCls ([(h0, .inr (3, [.int 0, .int 0, .ref q1, .ref q2, .ref q3, .ref q4, .ref q5, .ref q6, .ref q7, .null, .null, .null, .null, .long 0, .null, .long 0, .null, .long 0])), (q1, zI ca 28), (q2, zI ca 28), (q3, zI ca 28), (q4, zI ca 28), (q5, zI ca 112), (q6, zI ca 112), (q7, zI ca 252)]) H := hP
  have hD : va_D (va_A [(h0, (.inr (3, [.int 0, .int 0, .null, .null, .null, .null, .null, .null, .null, .null, .null, .null, .null, .long 0, .null, .long 0, .null, .long 0])))] s.heap.size) ([(h0, .inr (3, [.int 0, .int 0, .ref q1, .ref q2, .ref q3, .ref q4, .ref q5, .ref q6, .ref q7, .null, .null, .null, .null, .long 0, .null, .long 0, .null, .long 0])), (q1, zI ca 28), (q2, zI ca 28), (q3, zI ca 28), (q4, zI ca 28), (q5, zI ca 112), (q6, zI ca 112), (q7, zI ca 252)]) := hD
  refine lv_aload_n hx hb dX3_init_61 rfl (lv_at hl 0 rfl) ?_
  refine lv_bipush (v := 16) hx hb dX3_init_62 (by decide) ?_
  refine nI_new (N := 16) hx hb (ht _ wj_33) hkf.1.1 hP hD hS hA (by decide) rfl (by decide) (Nat.le_of_ble_eq_true rfl) (Nat.le_of_ble_eq_true rfl) dX3_init_64 (fun q8 H hP hD hS => ?_)
  have hP : va_P D mCls ([(h0, .inr (3, [.int 0, .int 0, .ref q1, .ref q2, .ref q3, .ref q4, .ref q5, .ref q6, .ref q7, .null, .null, .null, .null, .long 0, .null, .long 0, .null, .long 0])), (q1, zI ca 28), (q2, zI ca 28), (q3, zI ca 28), (q4, zI ca 28), (q5, zI ca 112), (q6, zI ca 112), (q7, zI ca 252), (q8, zI ca 16)]) H := hP
  have hD : va_D (va_A [(h0, (.inr (3, [.int 0, .int 0, .null, .null, .null, .null, .null, .null, .null, .null, .null, .null, .null, .long 0, .null, .long 0, .null, .long 0])))] s.heap.size) ([(h0, .inr (3, [.int 0, .int 0, .ref q1, .ref q2, .ref q3, .ref q4, .ref q5, .ref q6, .ref q7, .null, .null, .null, .null, .long 0, .null, .long 0, .null, .long 0])), (q1, zI ca 28), (q2, zI ca 28), (q3, zI ca 28), (q4, zI ca 28), (q5, zI ca 112), (q6, zI ca 112), (q7, zI ca 252), (q8, zI ca 16)]) := hD
  refine va_putF (D := D) (ci := 3) (v := .ref q8) (ty := (.array .int)) (C := RX3) (T := TX3) (N := 18) hx hb ht mX3 tyX3 tyX3_ok nmX3 hown hkf.1.1 hP hD hS 0 rfl rfl 9 (by decide) (ht _ wj_27) (fun _ h9 => h9) rfl hin rfl (by decide +kernel) rfl rfl (Nat.le_of_ble_eq_true rfl) dX3_init_66 (fun H locs hP hD hS => ?_)
  have hP : va_P D mCls ([(h0, .inr (3, [.int 0, .int 0, .ref q1, .ref q2, .ref q3, .ref q4, .ref q5, .ref q6, .ref q7, .ref q8, .null, .null, .null, .long 0, .null, .long 0, .null, .long 0])), (q1, zI ca 28), (q2, zI ca 28), (q3, zI ca 28), (q4, zI ca 28), (q5, zI ca 112), (q6, zI ca 112), (q7, zI ca 252), (q8, zI ca 16)]) H := hP
  have hD : va_D (va_A [(h0, (.inr (3, [.int 0, .int 0, .null, .null, .null, .null, .null, .null, .null, .null, .null, .null, .null, .long 0, .null, .long 0, .null, .long 0])))] s.heap.size) ([(h0, .inr (3, [.int 0, .int 0, .ref q1, .ref q2, .ref q3, .ref q4, .ref q5, .ref q6, .ref q7, .ref q8, .null, .null, .null, .long 0, .null, .long 0, .null, .long 0])), (q1, zI ca 28), (q2, zI ca 28), (q3, zI ca 28), (q4, zI ca 28), (q5, zI ca 112), (q6, zI ca 112), (q7, zI ca 252), (q8, zI ca 16)]) := hD
  refine lv_aload_n hx hb dX3_init_69 rfl (lv_at hl 0 rfl) ?_
  refine lv_iconst (v := 4) hx hb dX3_init_70 (by decide) ?_
  refine nI_new (N := 4) hx hb (ht _ wj_33) hkf.1.1 hP hD hS hA (by decide) rfl (by decide) (Nat.le_of_ble_eq_true rfl) (Nat.le_of_ble_eq_true rfl) dX3_init_71 (fun q9 H hP hD hS => ?_)
  have hP : va_P D mCls ([(h0, .inr (3, [.int 0, .int 0, .ref q1, .ref q2, .ref q3, .ref q4, .ref q5, .ref q6, .ref q7, .ref q8, .null, .null, .null, .long 0, .null, .long 0, .null, .long 0])), (q1, zI ca 28), (q2, zI ca 28), (q3, zI ca 28), (q4, zI ca 28), (q5, zI ca 112), (q6, zI ca 112), (q7, zI ca 252), (q8, zI ca 16), (q9, zI ca 4)]) H := hP
  have hD : va_D (va_A [(h0, (.inr (3, [.int 0, .int 0, .null, .null, .null, .null, .null, .null, .null, .null, .null, .null, .null, .long 0, .null, .long 0, .null, .long 0])))] s.heap.size) ([(h0, .inr (3, [.int 0, .int 0, .ref q1, .ref q2, .ref q3, .ref q4, .ref q5, .ref q6, .ref q7, .ref q8, .null, .null, .null, .long 0, .null, .long 0, .null, .long 0])), (q1, zI ca 28), (q2, zI ca 28), (q3, zI ca 28), (q4, zI ca 28), (q5, zI ca 112), (q6, zI ca 112), (q7, zI ca 252), (q8, zI ca 16), (q9, zI ca 4)]) := hD
  refine va_putF (D := D) (ci := 3) (v := .ref q9) (ty := (.array .int)) (C := RX3) (T := TX3) (N := 18) hx hb ht mX3 tyX3 tyX3_ok nmX3 hown hkf.1.1 hP hD hS 0 rfl rfl 10 (by decide) (ht _ wj_28) (fun _ h9 => h9) rfl hin rfl (by decide +kernel) rfl rfl (Nat.le_of_ble_eq_true rfl) dX3_init_73 (fun H locs hP hD hS => ?_)
  have hP : va_P D mCls ([(h0, .inr (3, [.int 0, .int 0, .ref q1, .ref q2, .ref q3, .ref q4, .ref q5, .ref q6, .ref q7, .ref q8, .ref q9, .null, .null, .long 0, .null, .long 0, .null, .long 0])), (q1, zI ca 28), (q2, zI ca 28), (q3, zI ca 28), (q4, zI ca 28), (q5, zI ca 112), (q6, zI ca 112), (q7, zI ca 252), (q8, zI ca 16), (q9, zI ca 4)]) H := hP
  have hD : va_D (va_A [(h0, (.inr (3, [.int 0, .int 0, .null, .null, .null, .null, .null, .null, .null, .null, .null, .null, .null, .long 0, .null, .long 0, .null, .long 0])))] s.heap.size) ([(h0, .inr (3, [.int 0, .int 0, .ref q1, .ref q2, .ref q3, .ref q4, .ref q5, .ref q6, .ref q7, .ref q8, .ref q9, .null, .null, .long 0, .null, .long 0, .null, .long 0])), (q1, zI ca 28), (q2, zI ca 28), (q3, zI ca 28), (q4, zI ca 28), (q5, zI ca 112), (q6, zI ca 112), (q7, zI ca 252), (q8, zI ca 16), (q9, zI ca 4)]) := hD
  refine lv_aload_n hx hb dX3_init_76 rfl (lv_at hl 0 rfl) ?_
  refine lv_bipush (v := 16) hx hb dX3_init_77 (by decide) ?_
  refine nL_new (N := 16) hx hb (ht _ wj_34) hkf.1.1 hP hD hS hA (by decide) rfl (by decide) (Nat.le_of_ble_eq_true rfl) (Nat.le_of_ble_eq_true rfl) dX3_init_79 (fun q10 H hP hD hS => ?_)
  have hP : va_P D mCls ([(h0, .inr (3, [.int 0, .int 0, .ref q1, .ref q2, .ref q3, .ref q4, .ref q5, .ref q6, .ref q7, .ref q8, .ref q9, .null, .null, .long 0, .null, .long 0, .null, .long 0])), (q1, zI ca 28), (q2, zI ca 28), (q3, zI ca 28), (q4, zI ca 28), (q5, zI ca 112), (q6, zI ca 112), (q7, zI ca 252), (q8, zI ca 16), (q9, zI ca 4), (q10, zL ca 16)]) H := hP
  have hD : va_D (va_A [(h0, (.inr (3, [.int 0, .int 0, .null, .null, .null, .null, .null, .null, .null, .null, .null, .null, .null, .long 0, .null, .long 0, .null, .long 0])))] s.heap.size) ([(h0, .inr (3, [.int 0, .int 0, .ref q1, .ref q2, .ref q3, .ref q4, .ref q5, .ref q6, .ref q7, .ref q8, .ref q9, .null, .null, .long 0, .null, .long 0, .null, .long 0])), (q1, zI ca 28), (q2, zI ca 28), (q3, zI ca 28), (q4, zI ca 28), (q5, zI ca 112), (q6, zI ca 112), (q7, zI ca 252), (q8, zI ca 16), (q9, zI ca 4), (q10, zL ca 16)]) := hD
  refine va_putF (D := D) (ci := 3) (v := .ref q10) (ty := (.array .long)) (C := RX3) (T := TX3) (N := 18) hx hb ht mX3 tyX3 tyX3_ok nmX3 hown hkf.1.1 hP hD hS 0 rfl rfl 11 (by decide) (ht _ wj_29) (fun _ h9 => h9) rfl hin rfl (by decide +kernel) rfl rfl (Nat.le_of_ble_eq_true rfl) dX3_init_81 (fun H locs hP hD hS => ?_)
  have hP : va_P D mCls ([(h0, .inr (3, [.int 0, .int 0, .ref q1, .ref q2, .ref q3, .ref q4, .ref q5, .ref q6, .ref q7, .ref q8, .ref q9, .ref q10, .null, .long 0, .null, .long 0, .null, .long 0])), (q1, zI ca 28), (q2, zI ca 28), (q3, zI ca 28), (q4, zI ca 28), (q5, zI ca 112), (q6, zI ca 112), (q7, zI ca 252), (q8, zI ca 16), (q9, zI ca 4), (q10, zL ca 16)]) H := hP
  have hD : va_D (va_A [(h0, (.inr (3, [.int 0, .int 0, .null, .null, .null, .null, .null, .null, .null, .null, .null, .null, .null, .long 0, .null, .long 0, .null, .long 0])))] s.heap.size) ([(h0, .inr (3, [.int 0, .int 0, .ref q1, .ref q2, .ref q3, .ref q4, .ref q5, .ref q6, .ref q7, .ref q8, .ref q9, .ref q10, .null, .long 0, .null, .long 0, .null, .long 0])), (q1, zI ca 28), (q2, zI ca 28), (q3, zI ca 28), (q4, zI ca 28), (q5, zI ca 112), (q6, zI ca 112), (q7, zI ca 252), (q8, zI ca 16), (q9, zI ca 4), (q10, zL ca 16)]) := hD
  refine lv_aload_n hx hb dX3_init_84 rfl (lv_at hl 0 rfl) ?_
  refine lv_bipush (v := 16) hx hb dX3_init_85 (by decide) ?_
  refine nL_new (N := 16) hx hb (ht _ wj_34) hkf.1.1 hP hD hS hA (by decide) rfl (by decide) (Nat.le_of_ble_eq_true rfl) (Nat.le_of_ble_eq_true rfl) dX3_init_87 (fun q11 H hP hD hS => ?_)
  have hP : va_P D mCls ([(h0, .inr (3, [.int 0, .int 0, .ref q1, .ref q2, .ref q3, .ref q4, .ref q5, .ref q6, .ref q7, .ref q8, .ref q9, .ref q10, .null, .long 0, .null, .long 0, .null, .long 0])), (q1, zI ca 28), (q2, zI ca 28), (q3, zI ca 28), (q4, zI ca 28), (q5, zI ca 112), (q6, zI ca 112), (q7, zI ca 252), (q8, zI ca 16), (q9, zI ca 4), (q10, zL ca 16), (q11, zL ca 16)]) H := hP
  have hD : va_D (va_A [(h0, (.inr (3, [.int 0, .int 0, .null, .null, .null, .null, .null, .null, .null, .null, .null, .null, .null, .long 0, .null, .long 0, .null, .long 0])))] s.heap.size) ([(h0, .inr (3, [.int 0, .int 0, .ref q1, .ref q2, .ref q3, .ref q4, .ref q5, .ref q6, .ref q7, .ref q8, .ref q9, .ref q10, .null, .long 0, .null, .long 0, .null, .long 0])), (q1, zI ca 28), (q2, zI ca 28), (q3, zI ca 28), (q4, zI ca 28), (q5, zI ca 112), (q6, zI ca 112), (q7, zI ca 252), (q8, zI ca 16), (q9, zI ca 4), (q10, zL ca 16), (q11, zL ca 16)]) := hD
  refine va_putF (D := D) (ci := 3) (v := .ref q11) (ty := (.array .long)) (C := RX3) (T := TX3) (N := 18) hx hb ht mX3 tyX3 tyX3_ok nmX3 hown hkf.1.1 hP hD hS 0 rfl rfl 12 (by decide) (ht _ wj_30) (fun _ h9 => h9) rfl hin rfl (by decide +kernel) rfl rfl (Nat.le_of_ble_eq_true rfl) dX3_init_89 (fun H locs hP hD hS => ?_)
  have hP : va_P D mCls ([(h0, .inr (3, [.int 0, .int 0, .ref q1, .ref q2, .ref q3, .ref q4, .ref q5, .ref q6, .ref q7, .ref q8, .ref q9, .ref q10, .ref q11, .long 0, .null, .long 0, .null, .long 0])), (q1, zI ca 28), (q2, zI ca 28), (q3, zI ca 28), (q4, zI ca 28), (q5, zI ca 112), (q6, zI ca 112), (q7, zI ca 252), (q8, zI ca 16), (q9, zI ca 4), (q10, zL ca 16), (q11, zL ca 16)]) H := hP
  have hD : va_D (va_A [(h0, (.inr (3, [.int 0, .int 0, .null, .null, .null, .null, .null, .null, .null, .null, .null, .null, .null, .long 0, .null, .long 0, .null, .long 0])))] s.heap.size) ([(h0, .inr (3, [.int 0, .int 0, .ref q1, .ref q2, .ref q3, .ref q4, .ref q5, .ref q6, .ref q7, .ref q8, .ref q9, .ref q10, .ref q11, .long 0, .null, .long 0, .null, .long 0])), (q1, zI ca 28), (q2, zI ca 28), (q3, zI ca 28), (q4, zI ca 28), (q5, zI ca 112), (q6, zI ca 112), (q7, zI ca 252), (q8, zI ca 16), (q9, zI ca 4), (q10, zL ca 16), (q11, zL ca 16)]) := hD
  refine lv_aload_n hx hb dX3_init_92 rfl (lv_at hl 0 rfl) ?_
  refine lv_iconst (v := 4) hx hb dX3_init_93 (by decide) ?_
  refine nL_new (N := 4) hx hb (ht _ wj_34) hkf.1.1 hP hD hS hA (by decide) rfl (by decide) (Nat.le_of_ble_eq_true rfl) (Nat.le_of_ble_eq_true rfl) dX3_init_94 (fun q12 H hP hD hS => ?_)
  have hP : va_P D mCls ([(h0, .inr (3, [.int 0, .int 0, .ref q1, .ref q2, .ref q3, .ref q4, .ref q5, .ref q6, .ref q7, .ref q8, .ref q9, .ref q10, .ref q11, .long 0, .null, .long 0, .null, .long 0])), (q1, zI ca 28), (q2, zI ca 28), (q3, zI ca 28), (q4, zI ca 28), (q5, zI ca 112), (q6, zI ca 112), (q7, zI ca 252), (q8, zI ca 16), (q9, zI ca 4), (q10, zL ca 16), (q11, zL ca 16), (q12, zL ca 4)]) H := hP
  have hD : va_D (va_A [(h0, (.inr (3, [.int 0, .int 0, .null, .null, .null, .null, .null, .null, .null, .null, .null, .null, .null, .long 0, .null, .long 0, .null, .long 0])))] s.heap.size) ([(h0, .inr (3, [.int 0, .int 0, .ref q1, .ref q2, .ref q3, .ref q4, .ref q5, .ref q6, .ref q7, .ref q8, .ref q9, .ref q10, .ref q11, .long 0, .null, .long 0, .null, .long 0])), (q1, zI ca 28), (q2, zI ca 28), (q3, zI ca 28), (q4, zI ca 28), (q5, zI ca 112), (q6, zI ca 112), (q7, zI ca 252), (q8, zI ca 16), (q9, zI ca 4), (q10, zL ca 16), (q11, zL ca 16), (q12, zL ca 4)]) := hD
  refine va_putF (D := D) (ci := 3) (v := .ref q12) (ty := (.array .long)) (C := RX3) (T := TX3) (N := 18) hx hb ht mX3 tyX3 tyX3_ok nmX3 hown hkf.1.1 hP hD hS 0 rfl rfl 14 (by decide) (ht _ wj_31) (fun _ h9 => h9) rfl hin rfl (by decide +kernel) rfl rfl (Nat.le_of_ble_eq_true rfl) dX3_init_96 (fun H locs hP hD hS => ?_)
  have hP : va_P D mCls ([(h0, .inr (3, [.int 0, .int 0, .ref q1, .ref q2, .ref q3, .ref q4, .ref q5, .ref q6, .ref q7, .ref q8, .ref q9, .ref q10, .ref q11, .long 0, .ref q12, .long 0, .null, .long 0])), (q1, zI ca 28), (q2, zI ca 28), (q3, zI ca 28), (q4, zI ca 28), (q5, zI ca 112), (q6, zI ca 112), (q7, zI ca 252), (q8, zI ca 16), (q9, zI ca 4), (q10, zL ca 16), (q11, zL ca 16), (q12, zL ca 4)]) H := hP
  have hD : va_D (va_A [(h0, (.inr (3, [.int 0, .int 0, .null, .null, .null, .null, .null, .null, .null, .null, .null, .null, .null, .long 0, .null, .long 0, .null, .long 0])))] s.heap.size) ([(h0, .inr (3, [.int 0, .int 0, .ref q1, .ref q2, .ref q3, .ref q4, .ref q5, .ref q6, .ref q7, .ref q8, .ref q9, .ref q10, .ref q11, .long 0, .ref q12, .long 0, .null, .long 0])), (q1, zI ca 28), (q2, zI ca 28), (q3, zI ca 28), (q4, zI ca 28), (q5, zI ca 112), (q6, zI ca 112), (q7, zI ca 252), (q8, zI ca 16), (q9, zI ca 4), (q10, zL ca 16), (q11, zL ca 16), (q12, zL ca 4)]) := hD
  refine lv_aload_n hx hb dX3_init_99 rfl (lv_at hl 0 rfl) ?_
  refine lv_iconst (v := 4) hx hb dX3_init_100 (by decide) ?_
  refine nL_new (N := 4) hx hb (ht _ wj_34) hkf.1.1 hP hD hS hA (by decide) rfl (by decide) (Nat.le_of_ble_eq_true rfl) (Nat.le_of_ble_eq_true rfl) dX3_init_101 (fun q13 H hP hD hS => ?_)
  have hP : va_P D mCls ([(h0, .inr (3, [.int 0, .int 0, .ref q1, .ref q2, .ref q3, .ref q4, .ref q5, .ref q6, .ref q7, .ref q8, .ref q9, .ref q10, .ref q11, .long 0, .ref q12, .long 0, .null, .long 0])), (q1, zI ca 28), (q2, zI ca 28), (q3, zI ca 28), (q4, zI ca 28), (q5, zI ca 112), (q6, zI ca 112), (q7, zI ca 252), (q8, zI ca 16), (q9, zI ca 4), (q10, zL ca 16), (q11, zL ca 16), (q12, zL ca 4), (q13, zL ca 4)]) H := hP
  have hD : va_D (va_A [(h0, (.inr (3, [.int 0, .int 0, .null, .null, .null, .null, .null, .null, .null, .null, .null, .null, .null, .long 0, .null, .long 0, .null, .long 0])))] s.heap.size) ([(h0, .inr (3, [.int 0, .int 0, .ref q1, .ref q2, .ref q3, .ref q4, .ref q5, .ref q6, .ref q7, .ref q8, .ref q9, .ref q10, .ref q11, .long 0, .ref q12, .long 0, .null, .long 0])), (q1, zI ca 28), (q2, zI ca 28), (q3, zI ca 28), (q4, zI ca 28), (q5, zI ca 112), (q6, zI ca 112), (q7, zI ca 252), (q8, zI ca 16), (q9, zI ca 4), (q10, zL ca 16), (q11, zL ca 16), (q12, zL ca 4), (q13, zL ca 4)]) := hD
  refine va_putF (D := D) (ci := 3) (v := .ref q13) (ty := (.array .long)) (C := RX3) (T := TX3) (N := 18) hx hb ht mX3 tyX3 tyX3_ok nmX3 hown hkf.1.1 hP hD hS 0 rfl rfl 16 (by decide) (ht _ wj_32) (fun _ h9 => h9) rfl hin rfl (by decide +kernel) rfl rfl (Nat.le_of_ble_eq_true rfl) dX3_init_103 (fun H locs hP hD hS => ?_)
  have hP : va_P D mCls ([(h0, .inr (3, [.int 0, .int 0, .ref q1, .ref q2, .ref q3, .ref q4, .ref q5, .ref q6, .ref q7, .ref q8, .ref q9, .ref q10, .ref q11, .long 0, .ref q12, .long 0, .ref q13, .long 0])), (q1, zI ca 28), (q2, zI ca 28), (q3, zI ca 28), (q4, zI ca 28), (q5, zI ca 112), (q6, zI ca 112), (q7, zI ca 252), (q8, zI ca 16), (q9, zI ca 4), (q10, zL ca 16), (q11, zL ca 16), (q12, zL ca 4), (q13, zL ca 4)]) H := hP
  have hD : va_D (va_A [(h0, (.inr (3, [.int 0, .int 0, .null, .null, .null, .null, .null, .null, .null, .null, .null, .null, .null, .long 0, .null, .long 0, .null, .long 0])))] s.heap.size) ([(h0, .inr (3, [.int 0, .int 0, .ref q1, .ref q2, .ref q3, .ref q4, .ref q5, .ref q6, .ref q7, .ref q8, .ref q9, .ref q10, .ref q11, .long 0, .ref q12, .long 0, .ref q13, .long 0])), (q1, zI ca 28), (q2, zI ca 28), (q3, zI ca 28), (q4, zI ca 28), (q5, zI ca 112), (q6, zI ca 112), (q7, zI ca 252), (q8, zI ca 16), (q9, zI ca 4), (q10, zL ca 16), (q11, zL ca 16), (q12, zL ca 4), (q13, zL ca 4)]) := hD
  exact W.vret hx hb hr (fun t hh hW => ⟨⟨rfl, fun k => [h0, q1, q2, q3, q4, q5, q6, q7, q8, q9, q10, q11, q12, q13].getD k 0, by rw [hh]; exact hP, hD⟩, hS.F hh⟩) hS.2.2 dX3_init_106 hlocks
