set_option maxHeartbeats 4000000 in
set_option maxRecDepth 100000 in
theorem ci_X2 (l : Launch) (D : va_G) (ca : Nat → ClassId) : mI l yX2_init cX2_init 2 2 D ca (.inr (2, [.null, .null, .null, .null, .null, .null, .int 0, .int 0])) (xnW ca) 64 857 := by
  intro h0 sz
  refine va_MetF (cc := cX2_init) (maxL := 2) (ret := none) (by decide +kernel) rfl ?_
  intro p e s m args below meth c s₁ B hml hv
  obtain ⟨rfl, hsz, hP, hkf, hD0⟩ := hv
  subst hsz
  have hx := B.exec
  have hb := B.bytes
  have hr := B.returns
  have ht : ∀ w ∈ mTbl, w.before ([Value.ref h0] : List Value).toArray s = true := fun w hw => atoms_spec (ws := Cond.code yX2_init cX2_init 2 none :: mTbl) B.pre w (List.mem_cons_of_mem _ hw)
  have hown : s.vm.findClass RX2 = some m.cls := findClass_of_methodNamed B.named
  have hin : meth.name = "<init>" := (name_of_methodNamed B.named B.method).1
  have hlocks := B.notSynchronized
  have hD := hD0.self (sz := s.heap.size)
  have hA : ∀ q : Nat, s.heap.size ≤ q → va_A [(h0, (.inr (2, [.null, .null, .null, .null, .null, .null, .int 0, .int 0])))] s.heap.size q := fun q h => Or.inr h
  have hS : va_S (va_A [(h0, (.inr (2, [.null, .null, .null, .null, .null, .null, .int 0, .int 0])))] s.heap.size) s.heap s.heap [] := va_S.rf
  have hl := lv_entry ([.ref h0]) (n := 2) (Nat.le_of_ble_eq_true rfl)
  rw [lg_entry_eq]
  generalize (lg_sl ([.ref h0]) ++ List.replicate (2 - (lg_sl ([.ref h0])).length) Slot.unset).toArray = ls at hl ⊢
  have hl : lv_has ls 2 [(0, .ref h0)] := hl
  refine lv_aload_n hx hb dX2_init_0 rfl (lv_at hl 0 rfl) ?_
  refine objI hx hb hown hml ht wj_2 hl.1 dX2_init_1 (Nat.le_of_ble_eq_true rfl) (Nat.le_of_ble_eq_true rfl) ?_
  refine lv_aload_n hx hb dX2_init_4 rfl (lv_at hl 0 rfl) ?_
  refine va_new (ci := 0) (fs := [.null]) (C := RX0) (T := TX0) (N := 1) hx hb ht mX0 tyX0 tyX0_ok hown (ht _ wj_38) (ht _ wj_40) (ht _ wj_42) hkf.1.1 hP hD hS hA rfl (fun j hj => by rcases (show j = 0 by omega) with rfl; rfl) (Nat.le_of_ble_eq_true rfl) (Nat.le_of_ble_eq_true rfl) dX2_init_5 (fun b0 H hP hD hS => ?_)
  refine lv_dup hx hb dX2_init_8 rfl ?_
  refine mInit (ws := (h0, .inr (2, [.null, .null, .null, .null, .null, .null, .int 0, .int 0])) :: []) (own := RX2) ⟨hx, hb, hml, hown, ht⟩ hkf (ci_X0 l D ca) ⟨wj_44, wj_42, wj_45, by decide +kernel, by decide +kernel, by decide +kernel⟩ rfl wj_46 ⟨(Nat.le_of_ble_eq_true rfl), (Nat.le_of_ble_eq_true rfl)⟩ hP hD hS hA hl.1 (Nat.le_of_ble_eq_true rfl) dX2_init_9 ⟨(Nat.le_of_ble_eq_true rfl), (Nat.le_of_ble_eq_true rfl)⟩ (fun a0 H locs hP hD hS => ?_)
  obtain ⟨R1, eR1⟩ : ∃ z : va_W, z = [] ++ bkW ca b0 a0 := ⟨_, rfl⟩
  have hP : va_P D mCls ((h0, .inr (2, [.null, .null, .null, .null, .null, .null, .int 0, .int 0])) :: R1) H := by rw [eR1]; exact hP
  have hD : va_D (va_A [(h0, (.inr (2, [.null, .null, .null, .null, .null, .null, .int 0, .int 0])))] s.heap.size) ((h0, .inr (2, [.null, .null, .null, .null, .null, .null, .int 0, .int 0])) :: R1) := by rw [eR1]; exact hD
  refine va_putF (D := D) (ci := 2) (v := .ref b0) (ty := (.object "CradleNets$Book")) (C := RX2) (T := TX2) (N := 8) hx hb ht mX2 tyX2 tyX2_ok nmX2 hown hkf.1.1 hP hD hS 0 rfl rfl 0 (by decide) (ht _ wj_12) (fun _ h9 => h9) rfl hin rfl (by decide +kernel) rfl rfl (Nat.le_of_ble_eq_true rfl) dX2_init_12 (fun H locs hP hD hS => ?_)
  have hP : va_P D mCls ((h0, .inr (2, [.ref b0, .null, .null, .null, .null, .null, .int 0, .int 0])) :: R1) H := hP
  have hD : va_D (va_A [(h0, (.inr (2, [.null, .null, .null, .null, .null, .null, .int 0, .int 0])))] s.heap.size) ((h0, .inr (2, [.ref b0, .null, .null, .null, .null, .null, .int 0, .int 0])) :: R1) := hD
  refine lv_aload_n hx hb dX2_init_15 rfl (lv_at hl 0 rfl) ?_
  refine va_new (ci := 0) (fs := [.null]) (C := RX0) (T := TX0) (N := 1) hx hb ht mX0 tyX0 tyX0_ok hown (ht _ wj_38) (ht _ wj_40) (ht _ wj_42) hkf.1.1 hP hD hS hA rfl (fun j hj => by rcases (show j = 0 by omega) with rfl; rfl) (Nat.le_of_ble_eq_true rfl) (Nat.le_of_ble_eq_true rfl) dX2_init_16 (fun b1 H hP hD hS => ?_)
  refine lv_dup hx hb dX2_init_19 rfl ?_
  refine mInit (ws := (h0, .inr (2, [.ref b0, .null, .null, .null, .null, .null, .int 0, .int 0])) :: R1) (own := RX2) ⟨hx, hb, hml, hown, ht⟩ hkf (ci_X0 l D ca) ⟨wj_44, wj_42, wj_45, by decide +kernel, by decide +kernel, by decide +kernel⟩ rfl wj_46 ⟨(Nat.le_of_ble_eq_true rfl), (Nat.le_of_ble_eq_true rfl)⟩ hP hD hS hA hl.1 (Nat.le_of_ble_eq_true rfl) dX2_init_20 ⟨(Nat.le_of_ble_eq_true rfl), (Nat.le_of_ble_eq_true rfl)⟩ (fun a1 H locs hP hD hS => ?_)
  obtain ⟨R2, eR2⟩ : ∃ z : va_W, z = R1 ++ bkW ca b1 a1 := ⟨_, rfl⟩
  have hP : va_P D mCls ((h0, .inr (2, [.ref b0, .null, .null, .null, .null, .null, .int 0, .int 0])) :: R2) H := by rw [eR2]; exact hP
  have hD : va_D (va_A [(h0, (.inr (2, [.null, .null, .null, .null, .null, .null, .int 0, .int 0])))] s.heap.size) ((h0, .inr (2, [.ref b0, .null, .null, .null, .null, .null, .int 0, .int 0])) :: R2) := by rw [eR2]; exact hD
  refine va_putF (D := D) (ci := 2) (v := .ref b1) (ty := (.object "CradleNets$Book")) (C := RX2) (T := TX2) (N := 8) hx hb ht mX2 tyX2 tyX2_ok nmX2 hown hkf.1.1 hP hD hS 0 rfl rfl 1 (by decide) (ht _ wj_13) (fun _ h9 => h9) rfl hin rfl (by decide +kernel) rfl rfl (Nat.le_of_ble_eq_true rfl) dX2_init_23 (fun H locs hP hD hS => ?_)
  have hP : va_P D mCls ((h0, .inr (2, [.ref b0, .ref b1, .null, .null, .null, .null, .int 0, .int 0])) :: R2) H := hP
  have hD : va_D (va_A [(h0, (.inr (2, [.null, .null, .null, .null, .null, .null, .int 0, .int 0])))] s.heap.size) ((h0, .inr (2, [.ref b0, .ref b1, .null, .null, .null, .null, .int 0, .int 0])) :: R2) := hD
  refine lv_aload_n hx hb dX2_init_26 rfl (lv_at hl 0 rfl) ?_
  refine lv_bipush (v := 6) hx hb dX2_init_27 (by decide) ?_
  refine va_newq (own := RX2) (C := "CradleNets$Book") (N' := 6) hx hb hown (ht _ wj_38) hkf.2.2.2.1 hkf.1.1 hP hD hS hA (by decide) rfl (by decide) (Nat.le_of_ble_eq_true rfl) (Nat.le_of_ble_eq_true rfl) dX2_init_29 (fun qk cA H hK1 hP hD hS => ?_)
  have ec := kk_4 (tys := []) hkf.1.1 hK1
  subst ec
  obtain ⟨f0, ef0⟩ : ∃ z : Nat → Option Nat, z = fun _ => none := ⟨_, rfl⟩
  rw [← ef0] at hP hD
  have hP : va_P D mCls ((h0, .inr (2, [.ref b0, .ref b1, .null, .null, .null, .null, .int 0, .int 0])) :: (qk, .inl (ca 4, 6, .inr (.inr (.inr (.inr f0))))) :: R2) H := P_cons hP
  have hD : va_D (va_A [(h0, (.inr (2, [.null, .null, .null, .null, .null, .null, .int 0, .int 0])))] s.heap.size) ((h0, .inr (2, [.ref b0, .ref b1, .null, .null, .null, .null, .int 0, .int 0])) :: (qk, .inl (ca 4, 6, .inr (.inr (.inr (.inr f0))))) :: R2) := D_cons hD
  refine va_putF (D := D) (ci := 2) (v := .ref qk) (ty := (.array (.object "CradleNets$Book"))) (C := RX2) (T := TX2) (N := 8) hx hb ht mX2 tyX2 tyX2_ok nmX2 hown hkf.1.1 hP hD hS 0 rfl rfl 2 (by decide) (ht _ wj_14) (fun _ h9 => h9) rfl hin rfl (by decide +kernel) rfl rfl (Nat.le_of_ble_eq_true rfl) dX2_init_32 (fun H locs hP hD hS => ?_)
  have hP : va_P D mCls ((h0, .inr (2, [.ref b0, .ref b1, .ref qk, .null, .null, .null, .int 0, .int 0])) :: (qk, .inl (ca 4, 6, .inr (.inr (.inr (.inr f0))))) :: R2) H := hP
  have hD : va_D (va_A [(h0, (.inr (2, [.null, .null, .null, .null, .null, .null, .int 0, .int 0])))] s.heap.size) ((h0, .inr (2, [.ref b0, .ref b1, .ref qk, .null, .null, .null, .int 0, .int 0])) :: (qk, .inl (ca 4, 6, .inr (.inr (.inr (.inr f0))))) :: R2) := hD
  refine lv_aload_n hx hb dX2_init_35 rfl (lv_at hl 0 rfl) ?_
  refine va_new (ci := 1) (fs := [.null, .long 0, .long 0, .null, .null, .null, .int 0]) (C := RX1) (T := TX1) (N := 7) hx hb ht mX1 tyX1 tyX1_ok hown (ht _ wj_39) (ht _ wj_41) (ht _ wj_43) hkf.1.1 hP hD hS hA rfl (fun j hj => by rcases (show j = 0 ∨ j = 1 ∨ j = 2 ∨ j = 3 ∨ j = 4 ∨ j = 5 ∨ j = 6 by omega) with rfl | rfl | rfl | rfl | rfl | rfl | rfl <;> rfl) (Nat.le_of_ble_eq_true rfl) (Nat.le_of_ble_eq_true rfl) dX2_init_36 (fun n0 H hP hD hS => ?_)
  refine lv_dup hx hb dX2_init_39 rfl ?_
  refine mInitN (ws := (h0, .inr (2, [.ref b0, .ref b1, .ref qk, .null, .null, .null, .int 0, .int 0])) :: (qk, .inl (ca 4, 6, .inr (.inr (.inr (.inr f0))))) :: R2) ⟨hx, hb, hml, hown, ht⟩ hkf (ci_X1 l D ca) wj_47 wj_43 wj_48 ⟨(Nat.le_of_ble_eq_true rfl), (Nat.le_of_ble_eq_true rfl)⟩ hP hD hS hA hl.1 (Nat.le_of_ble_eq_true rfl) dX2_init_40 ⟨(Nat.le_of_ble_eq_true rfl), (Nat.le_of_ble_eq_true rfl)⟩ (fun an H locs hP hD hS => ?_)
  obtain ⟨R3, eR3⟩ : ∃ z : va_W, z = R2 ++ ntW ca n0 an := ⟨_, rfl⟩
  have hP : va_P D mCls ((h0, .inr (2, [.ref b0, .ref b1, .ref qk, .null, .null, .null, .int 0, .int 0])) :: (qk, .inl (ca 4, 6, .inr (.inr (.inr (.inr f0))))) :: R3) H := by rw [eR3]; exact hP
  have hD : va_D (va_A [(h0, (.inr (2, [.null, .null, .null, .null, .null, .null, .int 0, .int 0])))] s.heap.size) ((h0, .inr (2, [.ref b0, .ref b1, .ref qk, .null, .null, .null, .int 0, .int 0])) :: (qk, .inl (ca 4, 6, .inr (.inr (.inr (.inr f0))))) :: R3) := by rw [eR3]; exact hD
  refine va_putF (D := D) (ci := 2) (v := .ref n0) (ty := (.object "CradleNets$Net")) (C := RX2) (T := TX2) (N := 8) hx hb ht mX2 tyX2 tyX2_ok nmX2 hown hkf.1.1 hP hD hS 0 rfl rfl 3 (by decide) (ht _ wj_15) (fun _ h9 => h9) rfl hin rfl (by decide +kernel) rfl rfl (Nat.le_of_ble_eq_true rfl) dX2_init_43 (fun H locs hP hD hS => ?_)
  have hP : va_P D mCls ((h0, .inr (2, [.ref b0, .ref b1, .ref qk, .ref n0, .null, .null, .int 0, .int 0])) :: (qk, .inl (ca 4, 6, .inr (.inr (.inr (.inr f0))))) :: R3) H := hP
  have hD : va_D (va_A [(h0, (.inr (2, [.null, .null, .null, .null, .null, .null, .int 0, .int 0])))] s.heap.size) ((h0, .inr (2, [.ref b0, .ref b1, .ref qk, .ref n0, .null, .null, .int 0, .int 0])) :: (qk, .inl (ca 4, 6, .inr (.inr (.inr (.inr f0))))) :: R3) := hD
  refine lv_aload_n hx hb dX2_init_46 rfl (lv_at hl 0 rfl) ?_
  refine lv_iconst (v := 4) hx hb dX2_init_47 (by decide) ?_
  refine lv_iconst (v := 4) hx hb dX2_init_48 (by decide) ?_
  refine mI_new (ws := (h0, .inr (2, [.ref b0, .ref b1, .ref qk, .ref n0, .null, .null, .int 0, .int 0])) :: (qk, .inl (ca 4, 6, .inr (.inr (.inr (.inr f0))))) :: R3) (K := 4) hx hb hown (ht _ wj_37) hkf (ht _ wj_33) hP hD hS hA (by decide) rfl (by decide) (by decide) (Nat.le_of_ble_eq_true rfl) (Nat.le_of_ble_eq_true rfl) dX2_init_49 (fun g0 g1 g2 g3 g4 H hP hD hS => ?_)
  obtain ⟨R4, eR4⟩ : ∃ z : va_W, z = R3 ++ [(g0, oR ca 2 [g1, g2, g3, g4]), (g1, zI ca 4), (g2, zI ca 4), (g3, zI ca 4), (g4, zI ca 4)] := ⟨_, rfl⟩
  have hP : va_P D mCls ((h0, .inr (2, [.ref b0, .ref b1, .ref qk, .ref n0, .null, .null, .int 0, .int 0])) :: (qk, .inl (ca 4, 6, .inr (.inr (.inr (.inr f0))))) :: R4) H := by rw [eR4]; exact hP
  have hD : va_D (va_A [(h0, (.inr (2, [.null, .null, .null, .null, .null, .null, .int 0, .int 0])))] s.heap.size) ((h0, .inr (2, [.ref b0, .ref b1, .ref qk, .ref n0, .null, .null, .int 0, .int 0])) :: (qk, .inl (ca 4, 6, .inr (.inr (.inr (.inr f0))))) :: R4) := by rw [eR4]; exact hD
  refine va_putF (D := D) (ci := 2) (v := .ref g0) (ty := (.array (.array .int))) (C := RX2) (T := TX2) (N := 8) hx hb ht mX2 tyX2 tyX2_ok nmX2 hown hkf.1.1 hP hD hS 0 rfl rfl 4 (by decide) (ht _ wj_16) (fun _ h9 => h9) rfl hin rfl (by decide +kernel) rfl rfl (Nat.le_of_ble_eq_true rfl) dX2_init_53 (fun H locs hP hD hS => ?_)
  have hP : va_P D mCls ((h0, .inr (2, [.ref b0, .ref b1, .ref qk, .ref n0, .ref g0, .null, .int 0, .int 0])) :: (qk, .inl (ca 4, 6, .inr (.inr (.inr (.inr f0))))) :: R4) H := hP
  have hD : va_D (va_A [(h0, (.inr (2, [.null, .null, .null, .null, .null, .null, .int 0, .int 0])))] s.heap.size) ((h0, .inr (2, [.ref b0, .ref b1, .ref qk, .ref n0, .ref g0, .null, .int 0, .int 0])) :: (qk, .inl (ca 4, 6, .inr (.inr (.inr (.inr f0))))) :: R4) := hD
  refine lv_aload_n hx hb dX2_init_56 rfl (lv_at hl 0 rfl) ?_
  refine lv_iconst (v := 4) hx hb dX2_init_57 (by decide) ?_
  refine nI_new (ws := (h0, .inr (2, [.ref b0, .ref b1, .ref qk, .ref n0, .ref g0, .null, .int 0, .int 0])) :: (qk, .inl (ca 4, 6, .inr (.inr (.inr (.inr f0))))) :: R4) (N := 4) hx hb (ht _ wj_33) hkf.1.1 hP hD hS hA (by decide) rfl (by decide) (Nat.le_of_ble_eq_true rfl) (Nat.le_of_ble_eq_true rfl) dX2_init_58 (fun d0 H hP hD hS => ?_)
  obtain ⟨R5, eR5⟩ : ∃ z : va_W, z = R4 ++ [(d0, zI ca 4)] := ⟨_, rfl⟩
  have hP : va_P D mCls ((h0, .inr (2, [.ref b0, .ref b1, .ref qk, .ref n0, .ref g0, .null, .int 0, .int 0])) :: (qk, .inl (ca 4, 6, .inr (.inr (.inr (.inr f0))))) :: R5) H := by rw [eR5]; exact hP
  have hD : va_D (va_A [(h0, (.inr (2, [.null, .null, .null, .null, .null, .null, .int 0, .int 0])))] s.heap.size) ((h0, .inr (2, [.ref b0, .ref b1, .ref qk, .ref n0, .ref g0, .null, .int 0, .int 0])) :: (qk, .inl (ca 4, 6, .inr (.inr (.inr (.inr f0))))) :: R5) := by rw [eR5]; exact hD
  refine va_putF (D := D) (ci := 2) (v := .ref d0) (ty := (.array .int)) (C := RX2) (T := TX2) (N := 8) hx hb ht mX2 tyX2 tyX2_ok nmX2 hown hkf.1.1 hP hD hS 0 rfl rfl 5 (by decide) (ht _ wj_17) (fun _ h9 => h9) rfl hin rfl (by decide +kernel) rfl rfl (Nat.le_of_ble_eq_true rfl) dX2_init_60 (fun H locs hP hD hS => ?_)
  have hP : va_P D mCls ((h0, .inr (2, [.ref b0, .ref b1, .ref qk, .ref n0, .ref g0, .ref d0, .int 0, .int 0])) :: (qk, .inl (ca 4, 6, .inr (.inr (.inr (.inr f0))))) :: R5) H := hP
  have hD : va_D (va_A [(h0, (.inr (2, [.null, .null, .null, .null, .null, .null, .int 0, .int 0])))] s.heap.size) ((h0, .inr (2, [.ref b0, .ref b1, .ref qk, .ref n0, .ref g0, .ref d0, .int 0, .int 0])) :: (qk, .inl (ca 4, 6, .inr (.inr (.inr (.inr f0))))) :: R5) := hD
  refine lv_aload_n hx hb dX2_init_63 rfl (lv_at hl 0 rfl) ?_
  refine lv_iconst (v := 0) hx hb dX2_init_64 (by decide) ?_
  refine va_put (D := D) (ci := 2) (v := .int 0) (ty := .int) (C := RX2) (T := TX2) (N := 8) hx hb ht mX2 tyX2 tyX2_ok nmX2 hown hkf.1.1 hP hD hS 0 rfl rfl 6 (by decide) (ht _ wj_18) (fun _ h9 => h9) rfl (by decide +kernel) rfl rfl (Nat.le_of_ble_eq_true rfl) dX2_init_65 (fun H locs hP hD hS => ?_)
  have hP : va_P D mCls ((h0, .inr (2, [.ref b0, .ref b1, .ref qk, .ref n0, .ref g0, .ref d0, .int 0, .int 0])) :: (qk, .inl (ca 4, 6, .inr (.inr (.inr (.inr f0))))) :: R5) H := hP
  have hD : va_D (va_A [(h0, (.inr (2, [.null, .null, .null, .null, .null, .null, .int 0, .int 0])))] s.heap.size) ((h0, .inr (2, [.ref b0, .ref b1, .ref qk, .ref n0, .ref g0, .ref d0, .int 0, .int 0])) :: (qk, .inl (ca 4, 6, .inr (.inr (.inr (.inr f0))))) :: R5) := hD
  refine lv_aload_n hx hb dX2_init_68 rfl (lv_at hl 0 rfl) ?_
  refine lv_iconst (v := 0) hx hb dX2_init_69 (by decide) ?_
  refine va_put (D := D) (ci := 2) (v := .int 0) (ty := .int) (C := RX2) (T := TX2) (N := 8) hx hb ht mX2 tyX2 tyX2_ok nmX2 hown hkf.1.1 hP hD hS 0 rfl rfl 7 (by decide) (ht _ wj_19) (fun _ h9 => h9) rfl (by decide +kernel) rfl rfl (Nat.le_of_ble_eq_true rfl) dX2_init_70 (fun H locs hP hD hS => ?_)
  have hP : va_P D mCls ((h0, .inr (2, [.ref b0, .ref b1, .ref qk, .ref n0, .ref g0, .ref d0, .int 0, .int 0])) :: (qk, .inl (ca 4, 6, .inr (.inr (.inr (.inr f0))))) :: R5) H := hP
  have hD : va_D (va_A [(h0, (.inr (2, [.null, .null, .null, .null, .null, .null, .int 0, .int 0])))] s.heap.size) ((h0, .inr (2, [.ref b0, .ref b1, .ref qk, .ref n0, .ref g0, .ref d0, .int 0, .int 0])) :: (qk, .inl (ca 4, 6, .inr (.inr (.inr (.inr f0))))) :: R5) := hD
  refine lv_iconst (v := 0) hx hb dX2_init_73 (by decide) ?_
  refine lv_istore_n (lv' := [(1, .int 0), (0, .ref h0)]) hx hb dX2_init_74 rfl hl (by decide) rfl (fun ls hl => ?_)
  refine lv_iload_n hx hb dX2_init_75 rfl (lv_at hl 0 rfl) ?_
  refine lv_bipush (v := 6) hx hb dX2_init_76 (by decide) ?_
  refine lv_icmp_ge (tgt := 100) hx hb dX2_init_78 (by decide) (fun z => absurd z (by decide)) (fun _ => ?_)
  refine lv_aload_n hx hb dX2_init_81 rfl (lv_at hl 1 rfl) ?_
  refine va_get (D := D) (ci := 2) (v := .ref qk) (C := RX2) (T := TX2) (N := 8) hx hb ht mX2 hown hkf.1.1 hP 0 rfl rfl 2 (by decide) (ht _ wj_14) (fun _ h9 => h9) rfl dX2_init_82 ?_
  refine lv_iload_n hx hb dX2_init_85 rfl (lv_at hl 0 rfl) ?_
  refine va_new (ci := 0) (fs := [.null]) (C := RX0) (T := TX0) (N := 1) hx hb ht mX0 tyX0 tyX0_ok hown (ht _ wj_38) (ht _ wj_40) (ht _ wj_42) hkf.1.1 hP hD hS hA rfl (fun j hj => by rcases (show j = 0 by omega) with rfl; rfl) (Nat.le_of_ble_eq_true rfl) (Nat.le_of_ble_eq_true rfl) dX2_init_86 (fun b2 H hP hD hS => ?_)
  refine lv_dup hx hb dX2_init_89 rfl ?_
  refine mInit (ws := (h0, .inr (2, [.ref b0, .ref b1, .ref qk, .ref n0, .ref g0, .ref d0, .int 0, .int 0])) :: (qk, .inl (ca 4, 6, .inr (.inr (.inr (.inr f0))))) :: R5) (own := RX2) ⟨hx, hb, hml, hown, ht⟩ hkf (ci_X0 l D ca) ⟨wj_44, wj_42, wj_45, by decide +kernel, by decide +kernel, by decide +kernel⟩ rfl wj_46 ⟨(Nat.le_of_ble_eq_true rfl), (Nat.le_of_ble_eq_true rfl)⟩ hP hD hS hA hl.1 (Nat.le_of_ble_eq_true rfl) dX2_init_90 ⟨(Nat.le_of_ble_eq_true rfl), (Nat.le_of_ble_eq_true rfl)⟩ (fun a2 H locs hP hD hS => ?_)
  refine va_astq hx hb hkf.1.1 hP hD hS 1 4 (R5.length + 2) 0 (cA := ca 4) (r := (RX0, TX0, 1)) (n := 6) (v := b2) (vs := [.ref (a2 1)]) (f := f0) (i := 0) rfl rfl get_app rfl (by unfold vp_in; decide) dX2_init_93 (fun H locs hP hD hS => ?_)
  obtain ⟨f1, ef1⟩ : ∃ z : Nat → Option Nat, z = va_up f0 (0 : Int32).toNatClampNeg (some b2) := ⟨_, rfl⟩
  have hP : va_P D mCls ((h0, .inr (2, [.ref b0, .ref b1, .ref qk, .ref n0, .ref g0, .ref d0, .int 0, .int 0])) :: (qk, .inl (ca 4, 6, .inr (.inr (.inr (.inr f1))))) :: (R5 ++ bkW ca b2 a2)) H := by rw [ef1]; exact hP
  have hD : va_D (va_A [(h0, (.inr (2, [.null, .null, .null, .null, .null, .null, .int 0, .int 0])))] s.heap.size) ((h0, .inr (2, [.ref b0, .ref b1, .ref qk, .ref n0, .ref g0, .ref d0, .int 0, .int 0])) :: (qk, .inl (ca 4, 6, .inr (.inr (.inr (.inr f1))))) :: (R5 ++ bkW ca b2 a2)) := by rw [ef1]; exact hD
  obtain ⟨R6, eR6⟩ : ∃ z : va_W, z = R5 ++ bkW ca b2 a2 := ⟨_, rfl⟩
  have hP : va_P D mCls ((h0, .inr (2, [.ref b0, .ref b1, .ref qk, .ref n0, .ref g0, .ref d0, .int 0, .int 0])) :: (qk, .inl (ca 4, 6, .inr (.inr (.inr (.inr f1))))) :: R6) H := by rw [eR6]; exact hP
  have hD : va_D (va_A [(h0, (.inr (2, [.null, .null, .null, .null, .null, .null, .int 0, .int 0])))] s.heap.size) ((h0, .inr (2, [.ref b0, .ref b1, .ref qk, .ref n0, .ref g0, .ref d0, .int 0, .int 0])) :: (qk, .inl (ca 4, 6, .inr (.inr (.inr (.inr f1))))) :: R6) := by rw [eR6]; exact hD
  refine lv_iinc (v := 1) (lv' := [(1, .int 1), (0, .ref h0)]) hx hb dX2_init_94 hl (k := 0) rfl (by decide) (by decide) rfl (fun ls hl => ?_)
  refine lv_goto (tgt := 75) hx hb dX2_init_97 (by decide) ?_
  refine lv_iload_n hx hb dX2_init_75 rfl (lv_at hl 0 rfl) ?_
  refine lv_bipush (v := 6) hx hb dX2_init_76 (by decide) ?_
  refine lv_icmp_ge (tgt := 100) hx hb dX2_init_78 (by decide) (fun z => absurd z (by decide)) (fun _ => ?_)
  refine lv_aload_n hx hb dX2_init_81 rfl (lv_at hl 1 rfl) ?_
  refine va_get (D := D) (ci := 2) (v := .ref qk) (C := RX2) (T := TX2) (N := 8) hx hb ht mX2 hown hkf.1.1 hP 0 rfl rfl 2 (by decide) (ht _ wj_14) (fun _ h9 => h9) rfl dX2_init_82 ?_
  refine lv_iload_n hx hb dX2_init_85 rfl (lv_at hl 0 rfl) ?_
  refine va_new (ci := 0) (fs := [.null]) (C := RX0) (T := TX0) (N := 1) hx hb ht mX0 tyX0 tyX0_ok hown (ht _ wj_38) (ht _ wj_40) (ht _ wj_42) hkf.1.1 hP hD hS hA rfl (fun j hj => by rcases (show j = 0 by omega) with rfl; rfl) (Nat.le_of_ble_eq_true rfl) (Nat.le_of_ble_eq_true rfl) dX2_init_86 (fun b3 H hP hD hS => ?_)
  refine lv_dup hx hb dX2_init_89 rfl ?_
  refine mInit (ws := (h0, .inr (2, [.ref b0, .ref b1, .ref qk, .ref n0, .ref g0, .ref d0, .int 0, .int 0])) :: (qk, .inl (ca 4, 6, .inr (.inr (.inr (.inr f1))))) :: R6) (own := RX2) ⟨hx, hb, hml, hown, ht⟩ hkf (ci_X0 l D ca) ⟨wj_44, wj_42, wj_45, by decide +kernel, by decide +kernel, by decide +kernel⟩ rfl wj_46 ⟨(Nat.le_of_ble_eq_true rfl), (Nat.le_of_ble_eq_true rfl)⟩ hP hD hS hA hl.1 (Nat.le_of_ble_eq_true rfl) dX2_init_90 ⟨(Nat.le_of_ble_eq_true rfl), (Nat.le_of_ble_eq_true rfl)⟩ (fun a3 H locs hP hD hS => ?_)
  refine va_astq hx hb hkf.1.1 hP hD hS 1 4 (R6.length + 2) 0 (cA := ca 4) (r := (RX0, TX0, 1)) (n := 6) (v := b3) (vs := [.ref (a3 1)]) (f := f1) (i := 1) rfl rfl get_app rfl (by unfold vp_in; decide) dX2_init_93 (fun H locs hP hD hS => ?_)
  obtain ⟨f2, ef2⟩ : ∃ z : Nat → Option Nat, z = va_up f1 (1 : Int32).toNatClampNeg (some b3) := ⟨_, rfl⟩
  have hP : va_P D mCls ((h0, .inr (2, [.ref b0, .ref b1, .ref qk, .ref n0, .ref g0, .ref d0, .int 0, .int 0])) :: (qk, .inl (ca 4, 6, .inr (.inr (.inr (.inr f2))))) :: (R6 ++ bkW ca b3 a3)) H := by rw [ef2]; exact hP
  have hD : va_D (va_A [(h0, (.inr (2, [.null, .null, .null, .null, .null, .null, .int 0, .int 0])))] s.heap.size) ((h0, .inr (2, [.ref b0, .ref b1, .ref qk, .ref n0, .ref g0, .ref d0, .int 0, .int 0])) :: (qk, .inl (ca 4, 6, .inr (.inr (.inr (.inr f2))))) :: (R6 ++ bkW ca b3 a3)) := by rw [ef2]; exact hD
  obtain ⟨R7, eR7⟩ : ∃ z : va_W, z = R6 ++ bkW ca b3 a3 := ⟨_, rfl⟩
  have hP : va_P D mCls ((h0, .inr (2, [.ref b0, .ref b1, .ref qk, .ref n0, .ref g0, .ref d0, .int 0, .int 0])) :: (qk, .inl (ca 4, 6, .inr (.inr (.inr (.inr f2))))) :: R7) H := by rw [eR7]; exact hP
  have hD : va_D (va_A [(h0, (.inr (2, [.null, .null, .null, .null, .null, .null, .int 0, .int 0])))] s.heap.size) ((h0, .inr (2, [.ref b0, .ref b1, .ref qk, .ref n0, .ref g0, .ref d0, .int 0, .int 0])) :: (qk, .inl (ca 4, 6, .inr (.inr (.inr (.inr f2))))) :: R7) := by rw [eR7]; exact hD
  refine lv_iinc (v := 2) (lv' := [(1, .int 2), (0, .ref h0)]) hx hb dX2_init_94 hl (k := 0) rfl (by decide) (by decide) rfl (fun ls hl => ?_)
  refine lv_goto (tgt := 75) hx hb dX2_init_97 (by decide) ?_
  refine lv_iload_n hx hb dX2_init_75 rfl (lv_at hl 0 rfl) ?_
  refine lv_bipush (v := 6) hx hb dX2_init_76 (by decide) ?_
  refine lv_icmp_ge (tgt := 100) hx hb dX2_init_78 (by decide) (fun z => absurd z (by decide)) (fun _ => ?_)
  refine lv_aload_n hx hb dX2_init_81 rfl (lv_at hl 1 rfl) ?_
  refine va_get (D := D) (ci := 2) (v := .ref qk) (C := RX2) (T := TX2) (N := 8) hx hb ht mX2 hown hkf.1.1 hP 0 rfl rfl 2 (by decide) (ht _ wj_14) (fun _ h9 => h9) rfl dX2_init_82 ?_
  refine lv_iload_n hx hb dX2_init_85 rfl (lv_at hl 0 rfl) ?_
  refine va_new (ci := 0) (fs := [.null]) (C := RX0) (T := TX0) (N := 1) hx hb ht mX0 tyX0 tyX0_ok hown (ht _ wj_38) (ht _ wj_40) (ht _ wj_42) hkf.1.1 hP hD hS hA rfl (fun j hj => by rcases (show j = 0 by omega) with rfl; rfl) (Nat.le_of_ble_eq_true rfl) (Nat.le_of_ble_eq_true rfl) dX2_init_86 (fun b4 H hP hD hS => ?_)
  refine lv_dup hx hb dX2_init_89 rfl ?_
  refine mInit (ws := (h0, .inr (2, [.ref b0, .ref b1, .ref qk, .ref n0, .ref g0, .ref d0, .int 0, .int 0])) :: (qk, .inl (ca 4, 6, .inr (.inr (.inr (.inr f2))))) :: R7) (own := RX2) ⟨hx, hb, hml, hown, ht⟩ hkf (ci_X0 l D ca) ⟨wj_44, wj_42, wj_45, by decide +kernel, by decide +kernel, by decide +kernel⟩ rfl wj_46 ⟨(Nat.le_of_ble_eq_true rfl), (Nat.le_of_ble_eq_true rfl)⟩ hP hD hS hA hl.1 (Nat.le_of_ble_eq_true rfl) dX2_init_90 ⟨(Nat.le_of_ble_eq_true rfl), (Nat.le_of_ble_eq_true rfl)⟩ (fun a4 H locs hP hD hS => ?_)
  refine va_astq hx hb hkf.1.1 hP hD hS 1 4 (R7.length + 2) 0 (cA := ca 4) (r := (RX0, TX0, 1)) (n := 6) (v := b4) (vs := [.ref (a4 1)]) (f := f2) (i := 2) rfl rfl get_app rfl (by unfold vp_in; decide) dX2_init_93 (fun H locs hP hD hS => ?_)
  obtain ⟨f3, ef3⟩ : ∃ z : Nat → Option Nat, z = va_up f2 (2 : Int32).toNatClampNeg (some b4) := ⟨_, rfl⟩
  have hP : va_P D mCls ((h0, .inr (2, [.ref b0, .ref b1, .ref qk, .ref n0, .ref g0, .ref d0, .int 0, .int 0])) :: (qk, .inl (ca 4, 6, .inr (.inr (.inr (.inr f3))))) :: (R7 ++ bkW ca b4 a4)) H := by rw [ef3]; exact hP
  have hD : va_D (va_A [(h0, (.inr (2, [.null, .null, .null, .null, .null, .null, .int 0, .int 0])))] s.heap.size) ((h0, .inr (2, [.ref b0, .ref b1, .ref qk, .ref n0, .ref g0, .ref d0, .int 0, .int 0])) :: (qk, .inl (ca 4, 6, .inr (.inr (.inr (.inr f3))))) :: (R7 ++ bkW ca b4 a4)) := by rw [ef3]; exact hD
  obtain ⟨R8, eR8⟩ : ∃ z : va_W, z = R7 ++ bkW ca b4 a4 := ⟨_, rfl⟩
  have hP : va_P D mCls ((h0, .inr (2, [.ref b0, .ref b1, .ref qk, .ref n0, .ref g0, .ref d0, .int 0, .int 0])) :: (qk, .inl (ca 4, 6, .inr (.inr (.inr (.inr f3))))) :: R8) H := by rw [eR8]; exact hP
  have hD : va_D (va_A [(h0, (.inr (2, [.null, .null, .null, .null, .null, .null, .int 0, .int 0])))] s.heap.size) ((h0, .inr (2, [.ref b0, .ref b1, .ref qk, .ref n0, .ref g0, .ref d0, .int 0, .int 0])) :: (qk, .inl (ca 4, 6, .inr (.inr (.inr (.inr f3))))) :: R8) := by rw [eR8]; exact hD
  refine lv_iinc (v := 3) (lv' := [(1, .int 3), (0, .ref h0)]) hx hb dX2_init_94 hl (k := 0) rfl (by decide) (by decide) rfl (fun ls hl => ?_)
  refine lv_goto (tgt := 75) hx hb dX2_init_97 (by decide) ?_
  refine lv_iload_n hx hb dX2_init_75 rfl (lv_at hl 0 rfl) ?_
  refine lv_bipush (v := 6) hx hb dX2_init_76 (by decide) ?_
  refine lv_icmp_ge (tgt := 100) hx hb dX2_init_78 (by decide) (fun z => absurd z (by decide)) (fun _ => ?_)
  refine lv_aload_n hx hb dX2_init_81 rfl (lv_at hl 1 rfl) ?_
  refine va_get (D := D) (ci := 2) (v := .ref qk) (C := RX2) (T := TX2) (N := 8) hx hb ht mX2 hown hkf.1.1 hP 0 rfl rfl 2 (by decide) (ht _ wj_14) (fun _ h9 => h9) rfl dX2_init_82 ?_
  refine lv_iload_n hx hb dX2_init_85 rfl (lv_at hl 0 rfl) ?_
  refine va_new (ci := 0) (fs := [.null]) (C := RX0) (T := TX0) (N := 1) hx hb ht mX0 tyX0 tyX0_ok hown (ht _ wj_38) (ht _ wj_40) (ht _ wj_42) hkf.1.1 hP hD hS hA rfl (fun j hj => by rcases (show j = 0 by omega) with rfl; rfl) (Nat.le_of_ble_eq_true rfl) (Nat.le_of_ble_eq_true rfl) dX2_init_86 (fun b5 H hP hD hS => ?_)
  refine lv_dup hx hb dX2_init_89 rfl ?_
  refine mInit (ws := (h0, .inr (2, [.ref b0, .ref b1, .ref qk, .ref n0, .ref g0, .ref d0, .int 0, .int 0])) :: (qk, .inl (ca 4, 6, .inr (.inr (.inr (.inr f3))))) :: R8) (own := RX2) ⟨hx, hb, hml, hown, ht⟩ hkf (ci_X0 l D ca) ⟨wj_44, wj_42, wj_45, by decide +kernel, by decide +kernel, by decide +kernel⟩ rfl wj_46 ⟨(Nat.le_of_ble_eq_true rfl), (Nat.le_of_ble_eq_true rfl)⟩ hP hD hS hA hl.1 (Nat.le_of_ble_eq_true rfl) dX2_init_90 ⟨(Nat.le_of_ble_eq_true rfl), (Nat.le_of_ble_eq_true rfl)⟩ (fun a5 H locs hP hD hS => ?_)
  refine va_astq hx hb hkf.1.1 hP hD hS 1 4 (R8.length + 2) 0 (cA := ca 4) (r := (RX0, TX0, 1)) (n := 6) (v := b5) (vs := [.ref (a5 1)]) (f := f3) (i := 3) rfl rfl get_app rfl (by unfold vp_in; decide) dX2_init_93 (fun H locs hP hD hS => ?_)
  obtain ⟨f4, ef4⟩ : ∃ z : Nat → Option Nat, z = va_up f3 (3 : Int32).toNatClampNeg (some b5) := ⟨_, rfl⟩
  have hP : va_P D mCls ((h0, .inr (2, [.ref b0, .ref b1, .ref qk, .ref n0, .ref g0, .ref d0, .int 0, .int 0])) :: (qk, .inl (ca 4, 6, .inr (.inr (.inr (.inr f4))))) :: (R8 ++ bkW ca b5 a5)) H := by rw [ef4]; exact hP
  have hD : va_D (va_A [(h0, (.inr (2, [.null, .null, .null, .null, .null, .null, .int 0, .int 0])))] s.heap.size) ((h0, .inr (2, [.ref b0, .ref b1, .ref qk, .ref n0, .ref g0, .ref d0, .int 0, .int 0])) :: (qk, .inl (ca 4, 6, .inr (.inr (.inr (.inr f4))))) :: (R8 ++ bkW ca b5 a5)) := by rw [ef4]; exact hD
  obtain ⟨R9, eR9⟩ : ∃ z : va_W, z = R8 ++ bkW ca b5 a5 := ⟨_, rfl⟩
  have hP : va_P D mCls ((h0, .inr (2, [.ref b0, .ref b1, .ref qk, .ref n0, .ref g0, .ref d0, .int 0, .int 0])) :: (qk, .inl (ca 4, 6, .inr (.inr (.inr (.inr f4))))) :: R9) H := by rw [eR9]; exact hP
  have hD : va_D (va_A [(h0, (.inr (2, [.null, .null, .null, .null, .null, .null, .int 0, .int 0])))] s.heap.size) ((h0, .inr (2, [.ref b0, .ref b1, .ref qk, .ref n0, .ref g0, .ref d0, .int 0, .int 0])) :: (qk, .inl (ca 4, 6, .inr (.inr (.inr (.inr f4))))) :: R9) := by rw [eR9]; exact hD
  refine lv_iinc (v := 4) (lv' := [(1, .int 4), (0, .ref h0)]) hx hb dX2_init_94 hl (k := 0) rfl (by decide) (by decide) rfl (fun ls hl => ?_)
  refine lv_goto (tgt := 75) hx hb dX2_init_97 (by decide) ?_
  refine lv_iload_n hx hb dX2_init_75 rfl (lv_at hl 0 rfl) ?_
  refine lv_bipush (v := 6) hx hb dX2_init_76 (by decide) ?_
  refine lv_icmp_ge (tgt := 100) hx hb dX2_init_78 (by decide) (fun z => absurd z (by decide)) (fun _ => ?_)
  refine lv_aload_n hx hb dX2_init_81 rfl (lv_at hl 1 rfl) ?_
  refine va_get (D := D) (ci := 2) (v := .ref qk) (C := RX2) (T := TX2) (N := 8) hx hb ht mX2 hown hkf.1.1 hP 0 rfl rfl 2 (by decide) (ht _ wj_14) (fun _ h9 => h9) rfl dX2_init_82 ?_
  refine lv_iload_n hx hb dX2_init_85 rfl (lv_at hl 0 rfl) ?_
  refine va_new (ci := 0) (fs := [.null]) (C := RX0) (T := TX0) (N := 1) hx hb ht mX0 tyX0 tyX0_ok hown (ht _ wj_38) (ht _ wj_40) (ht _ wj_42) hkf.1.1 hP hD hS hA rfl (fun j hj => by rcases (show j = 0 by omega) with rfl; rfl) (Nat.le_of_ble_eq_true rfl) (Nat.le_of_ble_eq_true rfl) dX2_init_86 (fun b6 H hP hD hS => ?_)
  refine lv_dup hx hb dX2_init_89 rfl ?_
  refine mInit (ws := (h0, .inr (2, [.ref b0, .ref b1, .ref qk, .ref n0, .ref g0, .ref d0, .int 0, .int 0])) :: (qk, .inl (ca 4, 6, .inr (.inr (.inr (.inr f4))))) :: R9) (own := RX2) ⟨hx, hb, hml, hown, ht⟩ hkf (ci_X0 l D ca) ⟨wj_44, wj_42, wj_45, by decide +kernel, by decide +kernel, by decide +kernel⟩ rfl wj_46 ⟨(Nat.le_of_ble_eq_true rfl), (Nat.le_of_ble_eq_true rfl)⟩ hP hD hS hA hl.1 (Nat.le_of_ble_eq_true rfl) dX2_init_90 ⟨(Nat.le_of_ble_eq_true rfl), (Nat.le_of_ble_eq_true rfl)⟩ (fun a6 H locs hP hD hS => ?_)
  refine va_astq hx hb hkf.1.1 hP hD hS 1 4 (R9.length + 2) 0 (cA := ca 4) (r := (RX0, TX0, 1)) (n := 6) (v := b6) (vs := [.ref (a6 1)]) (f := f4) (i := 4) rfl rfl get_app rfl (by unfold vp_in; decide) dX2_init_93 (fun H locs hP hD hS => ?_)
  obtain ⟨f5, ef5⟩ : ∃ z : Nat → Option Nat, z = va_up f4 (4 : Int32).toNatClampNeg (some b6) := ⟨_, rfl⟩
  have hP : va_P D mCls ((h0, .inr (2, [.ref b0, .ref b1, .ref qk, .ref n0, .ref g0, .ref d0, .int 0, .int 0])) :: (qk, .inl (ca 4, 6, .inr (.inr (.inr (.inr f5))))) :: (R9 ++ bkW ca b6 a6)) H := by rw [ef5]; exact hP
  have hD : va_D (va_A [(h0, (.inr (2, [.null, .null, .null, .null, .null, .null, .int 0, .int 0])))] s.heap.size) ((h0, .inr (2, [.ref b0, .ref b1, .ref qk, .ref n0, .ref g0, .ref d0, .int 0, .int 0])) :: (qk, .inl (ca 4, 6, .inr (.inr (.inr (.inr f5))))) :: (R9 ++ bkW ca b6 a6)) := by rw [ef5]; exact hD
  obtain ⟨R10, eR10⟩ : ∃ z : va_W, z = R9 ++ bkW ca b6 a6 := ⟨_, rfl⟩
  have hP : va_P D mCls ((h0, .inr (2, [.ref b0, .ref b1, .ref qk, .ref n0, .ref g0, .ref d0, .int 0, .int 0])) :: (qk, .inl (ca 4, 6, .inr (.inr (.inr (.inr f5))))) :: R10) H := by rw [eR10]; exact hP
  have hD : va_D (va_A [(h0, (.inr (2, [.null, .null, .null, .null, .null, .null, .int 0, .int 0])))] s.heap.size) ((h0, .inr (2, [.ref b0, .ref b1, .ref qk, .ref n0, .ref g0, .ref d0, .int 0, .int 0])) :: (qk, .inl (ca 4, 6, .inr (.inr (.inr (.inr f5))))) :: R10) := by rw [eR10]; exact hD
  refine lv_iinc (v := 5) (lv' := [(1, .int 5), (0, .ref h0)]) hx hb dX2_init_94 hl (k := 0) rfl (by decide) (by decide) rfl (fun ls hl => ?_)
  refine lv_goto (tgt := 75) hx hb dX2_init_97 (by decide) ?_
  refine lv_iload_n hx hb dX2_init_75 rfl (lv_at hl 0 rfl) ?_
  refine lv_bipush (v := 6) hx hb dX2_init_76 (by decide) ?_
  refine lv_icmp_ge (tgt := 100) hx hb dX2_init_78 (by decide) (fun z => absurd z (by decide)) (fun _ => ?_)
  refine lv_aload_n hx hb dX2_init_81 rfl (lv_at hl 1 rfl) ?_
  refine va_get (D := D) (ci := 2) (v := .ref qk) (C := RX2) (T := TX2) (N := 8) hx hb ht mX2 hown hkf.1.1 hP 0 rfl rfl 2 (by decide) (ht _ wj_14) (fun _ h9 => h9) rfl dX2_init_82 ?_
  refine lv_iload_n hx hb dX2_init_85 rfl (lv_at hl 0 rfl) ?_
  refine va_new (ci := 0) (fs := [.null]) (C := RX0) (T := TX0) (N := 1) hx hb ht mX0 tyX0 tyX0_ok hown (ht _ wj_38) (ht _ wj_40) (ht _ wj_42) hkf.1.1 hP hD hS hA rfl (fun j hj => by rcases (show j = 0 by omega) with rfl; rfl) (Nat.le_of_ble_eq_true rfl) (Nat.le_of_ble_eq_true rfl) dX2_init_86 (fun b7 H hP hD hS => ?_)
  refine lv_dup hx hb dX2_init_89 rfl ?_
  refine mInit (ws := (h0, .inr (2, [.ref b0, .ref b1, .ref qk, .ref n0, .ref g0, .ref d0, .int 0, .int 0])) :: (qk, .inl (ca 4, 6, .inr (.inr (.inr (.inr f5))))) :: R10) (own := RX2) ⟨hx, hb, hml, hown, ht⟩ hkf (ci_X0 l D ca) ⟨wj_44, wj_42, wj_45, by decide +kernel, by decide +kernel, by decide +kernel⟩ rfl wj_46 ⟨(Nat.le_of_ble_eq_true rfl), (Nat.le_of_ble_eq_true rfl)⟩ hP hD hS hA hl.1 (Nat.le_of_ble_eq_true rfl) dX2_init_90 ⟨(Nat.le_of_ble_eq_true rfl), (Nat.le_of_ble_eq_true rfl)⟩ (fun a7 H locs hP hD hS => ?_)
  refine va_astq hx hb hkf.1.1 hP hD hS 1 4 (R10.length + 2) 0 (cA := ca 4) (r := (RX0, TX0, 1)) (n := 6) (v := b7) (vs := [.ref (a7 1)]) (f := f5) (i := 5) rfl rfl get_app rfl (by unfold vp_in; decide) dX2_init_93 (fun H locs hP hD hS => ?_)
  obtain ⟨f6, ef6⟩ : ∃ z : Nat → Option Nat, z = va_up f5 (5 : Int32).toNatClampNeg (some b7) := ⟨_, rfl⟩
  have hP : va_P D mCls ((h0, .inr (2, [.ref b0, .ref b1, .ref qk, .ref n0, .ref g0, .ref d0, .int 0, .int 0])) :: (qk, .inl (ca 4, 6, .inr (.inr (.inr (.inr f6))))) :: (R10 ++ bkW ca b7 a7)) H := by rw [ef6]; exact hP
  have hD : va_D (va_A [(h0, (.inr (2, [.null, .null, .null, .null, .null, .null, .int 0, .int 0])))] s.heap.size) ((h0, .inr (2, [.ref b0, .ref b1, .ref qk, .ref n0, .ref g0, .ref d0, .int 0, .int 0])) :: (qk, .inl (ca 4, 6, .inr (.inr (.inr (.inr f6))))) :: (R10 ++ bkW ca b7 a7)) := by rw [ef6]; exact hD
  obtain ⟨R11, eR11⟩ : ∃ z : va_W, z = R10 ++ bkW ca b7 a7 := ⟨_, rfl⟩
  have hP : va_P D mCls ((h0, .inr (2, [.ref b0, .ref b1, .ref qk, .ref n0, .ref g0, .ref d0, .int 0, .int 0])) :: (qk, .inl (ca 4, 6, .inr (.inr (.inr (.inr f6))))) :: R11) H := by rw [eR11]; exact hP
  have hD : va_D (va_A [(h0, (.inr (2, [.null, .null, .null, .null, .null, .null, .int 0, .int 0])))] s.heap.size) ((h0, .inr (2, [.ref b0, .ref b1, .ref qk, .ref n0, .ref g0, .ref d0, .int 0, .int 0])) :: (qk, .inl (ca 4, 6, .inr (.inr (.inr (.inr f6))))) :: R11) := by rw [eR11]; exact hD
  refine lv_iinc (v := 6) (lv' := [(1, .int 6), (0, .ref h0)]) hx hb dX2_init_94 hl (k := 0) rfl (by decide) (by decide) rfl (fun ls hl => ?_)
  refine lv_goto (tgt := 75) hx hb dX2_init_97 (by decide) ?_
  refine lv_iload_n hx hb dX2_init_75 rfl (lv_at hl 0 rfl) ?_
  refine lv_bipush (v := 6) hx hb dX2_init_76 (by decide) ?_
  refine lv_icmp_ge (tgt := 100) hx hb dX2_init_78 (by decide) (fun _ => ?_) (fun z => absurd (by decide) z)
  subst eR1; subst eR2; subst eR3; subst eR4; subst eR5; subst eR6; subst eR7; subst eR8; subst eR9; subst eR10; subst eR11
  have e6 : f6 = fun j => ([b2, b3, b4, b5, b6, b7] : List Nat)[j]? := by rw [ef6, ef5, ef4, ef3, ef2, ef1, ef0]; exact kf6 b2 b3 b4 b5 b6 b7
  rw [e6] at hP hD
  obtain ⟨ax, hP, hD⟩ := xn_end (A := (va_A [(h0, (.inr (2, [.null, .null, .null, .null, .null, .null, .int 0, .int 0])))] s.heap.size)) (D := D) (ca := ca) (H := H) (h0 := h0) (qk := qk) (n0 := n0) (an := an) (b0 := b0) (a0 := a0) (b1 := b1) (a1 := a1) (b2 := b2) (a2 := a2) (b3 := b3) (a3 := a3) (b4 := b4) (a4 := a4) (b5 := b5) (a5 := a5) (b6 := b6) (a6 := a6) (b7 := b7) (a7 := a7) (g0 := g0) (g1 := g1) (g2 := g2) (g3 := g3) (g4 := g4) (d0 := d0) hP hD
  exact W.vret hx hb hr (fun t hh hW => ⟨⟨rfl, ax, by rw [hh]; exact hP, hD⟩, hS.F hh⟩) hS.2.2 dX2_init_100 hlocks
