def XW0 : mW := XW 0 0 1 1 0 (fun _ => 0) (fun _ => 0) (fun _ => 0) (fun _ _ => 0) (fun _ _ => frB) (fun _ _ => 0) (fun _ => 0)
def xnW (ca : Nat → ClassId) (h0 : Nat) (a : Nat → Nat) : va_W := cW (up a 0 h0) ca XW0
theorem P_cons {D : va_G} {cl : List vw_C} {w : va_W} {x y : Nat × va_E} {H : Heap} (h : va_P D cl (x :: (w ++ [y])) H) : va_P D cl (x :: y :: w) H := P_mem h (fun u hu => by
  rcases List.mem_cons.mp hu with e | hu
  · rw [e]; exact List.mem_cons_self
  · rcases List.mem_cons.mp hu with e | hu
    · rw [e]; exact List.mem_cons_of_mem _ (List.mem_append_right w (List.mem_cons_self))
    · exact List.mem_cons_of_mem _ (List.mem_append_left _ hu))
theorem get_app {x y z : Nat × va_E} {R t : va_W} : (x :: y :: (R ++ (z :: t)))[R.length + 2]? = some z := by
  show (R ++ (z :: t))[R.length]? = some z
  rw [List.getElem?_append_right (Nat.le_refl _), Nat.sub_self]
  rfl
theorem kf6 (b0 b1 b2 b3 b4 b5 : Nat) : va_up (va_up (va_up (va_up (va_up (va_up (fun _ => none) (0 : Int32).toNatClampNeg (some b0)) (1 : Int32).toNatClampNeg (some b1)) (2 : Int32).toNatClampNeg (some b2)) (3 : Int32).toNatClampNeg (some b3)) (4 : Int32).toNatClampNeg (some b4)) (5 : Int32).toNatClampNeg (some b5) = fun j => ([b0, b1, b2, b3, b4, b5] : List Nat)[j]? := by
  funext j
  rcases (show j = 0 ∨ j = 1 ∨ j = 2 ∨ j = 3 ∨ j = 4 ∨ j = 5 ∨ 6 ≤ j by omega) with e | e | e | e | e | e | e
  · subst e; rfl
  · subst e; rfl
  · subst e; rfl
  · subst e; rfl
  · subst e; rfl
  · subst e; rfl
  · have h : ∀ k : Nat, k < 6 → ¬ j = k := fun k hk => by omega
    show (if j = 5 then some b5 else if j = 4 then some b4 else if j = 3 then some b3 else if j = 2 then some b2 else if j = 1 then some b1 else if j = 0 then some b0 else none) = _
    rw [if_neg (h 5 (by decide)), if_neg (h 4 (by decide)), if_neg (h 3 (by decide)), if_neg (h 2 (by decide)), if_neg (h 1 (by decide)), if_neg (h 0 (by decide))]
    exact (List.getElem?_eq_none (by simpa using e)).symm
set_option maxHeartbeats 4000000 in
set_option maxRecDepth 100000 in
theorem ci_X2 (l : Launch) (D : va_G) (ca : Nat → ClassId) : mI l yX2_init cX2_init 2 2 D ca (.inr (2, [.null, .null, .null, .null, .null, .null, .int 0, .int 0])) (xnW ca) 64 857 := by
  intro h0 sz
  refine va_MetF (cc := cX2_init) (maxL := 2) (ret := none) (by decide +kernel) rfl ?_
  intro p e s m args below meth c s₁ B hml hv
  obtain ⟨rfl, hsz, hP, hkf, hD0⟩ := hv
  subst hsz
  have hx := B.exec
  have hb := B.bytes
  have hr := B.returns
  have ht : ∀ w ∈ mTbl, w.before ([Value.ref h0] : List Value).toArray s = true := fun w hw => atoms_spec (ws := Cond.code yX2_init cX2_init 2 none :: mTbl) B.pre w (List.mem_cons_of_mem _ hw)
  have hown : s.vm.findClass RX2 = some m.cls := findClass_of_methodNamed B.named
  have hin : meth.name = "<init>" := (name_of_methodNamed B.named B.method).1
  have hlocks := B.notSynchronized
  have hD := hD0.self (sz := s.heap.size)
  have hA : ∀ q : Nat, s.heap.size ≤ q → va_A [(h0, (.inr (2, [.null, .null, .null, .null, .null, .null, .int 0, .int 0])))] s.heap.size q := fun q h => Or.inr h
  have hS : va_S (va_A [(h0, (.inr (2, [.null, .null, .null, .null, .null, .null, .int 0, .int 0])))] s.heap.size) s.heap s.heap [] := va_S.rf
  have hl := lv_entry ([.ref h0]) (n := 2) (Nat.le_of_ble_eq_true rfl)
  rw [lg_entry_eq]
  generalize (lg_sl ([.ref h0]) ++ List.replicate (2 - (lg_sl ([.ref h0])).length) Slot.unset).toArray = ls at hl ⊢
  have hl : lv_has ls 2 [(0, .ref h0)] := hl
  refine lv_aload_n hx hb dX2_init_0 rfl (lv_at hl 0 rfl) ?_
  refine objI hx hb hown hml ht wj_2 hl.1 dX2_init_1 (Nat.le_of_ble_eq_true rfl) (Nat.le_of_ble_eq_true rfl) ?_
  refine lv_aload_n hx hb dX2_init_4 rfl (lv_at hl 0 rfl) ?_
  refine va_new (ci := 0) (fs := [.null]) (C := RX0) (T := TX0) (N := 1) hx hb ht mX0 tyX0 tyX0_ok hown (ht _ wj_38) (ht _ wj_40) (ht _ wj_42) hkf.1.1 hP hD hS hA rfl (fun j hj => by rcases (show j = 0 by omega) with rfl; rfl) (Nat.le_of_ble_eq_true rfl) (Nat.le_of_ble_eq_true rfl) dX2_init_5 (fun b0 H hP hD hS => ?_)
  refine lv_dup hx hb dX2_init_8 rfl ?_
  refine mInit (ws := (h0, .inr (2, [.null, .null, .null, .null, .null, .null, .int 0, .int 0])) :: []) (own := RX2) ⟨hx, hb, hml, hown, ht⟩ hkf (ci_X0 l D ca) ⟨wj_44, wj_42, wj_45, by decide +kernel, by decide +kernel, by decide +kernel⟩ rfl wj_46 ⟨(Nat.le_of_ble_eq_true rfl), (Nat.le_of_ble_eq_true rfl)⟩ hP hD hS hA hl.1 (Nat.le_of_ble_eq_true rfl) dX2_init_9 ⟨(Nat.le_of_ble_eq_true rfl), (Nat.le_of_ble_eq_true rfl)⟩ (fun a0 H locs hP hD hS => ?_)
  obtain ⟨R1, eR1⟩ : ∃ z : va_W, z = [] ++ bkW ca b0 a0 := ⟨_, rfl⟩
  have hP : va_P D mCls ((h0, .inr (2, [.null, .null, .null, .null, .null, .null, .int 0, .int 0])) :: R1) H := by rw [eR1]; exact hP
  have hD : va_D (va_A [(h0, (.inr (2, [.null, .null, .null, .null, .null, .null, .int 0, .int 0])))] s.heap.size) ((h0, .inr (2, [.null, .null, .null, .null, .null, .null, .int 0, .int 0])) :: R1) := by rw [eR1]; exact hD
  refine va_putF (D := D) (ci := 2) (v := .ref b0) (ty := (.object "CradleNets$Book")) (C := RX2) (T := TX2) (N := 8) hx hb ht mX2 tyX2 tyX2_ok nmX2 hown hkf.1.1 hP hD hS 0 rfl rfl 0 (by decide) (ht _ wj_12) (fun _ h9 => h9) rfl hin rfl (by decide +kernel) rfl rfl (Nat.le_of_ble_eq_true rfl) dX2_init_12 (fun H locs hP hD hS => ?_)
  have hP : va_P D mCls ((h0, .inr (2, [.ref b0, .null, .null, .null, .null, .null, .int 0, .int 0])) :: R1) H := hP
  have hD : va_D (va_A [(h0, (.inr (2, [.null, .null, .null, .null, .null, .null, .int 0, .int 0])))] s.heap.size) ((h0, .inr (2, [.ref b0, .null, .null, .null, .null, .null, .int 0, .int 0])) :: R1) := hD
  refine lv_aload_n hx hb dX2_init_15 rfl (lv_at hl 0 rfl) ?_
  refine va_new (ci := 0) (fs := [.null]) (C := RX0) (T := TX0) (N := 1) hx hb ht mX0 tyX0 tyX0_ok hown (ht _ wj_38) (ht _ wj_40) (ht _ wj_42) hkf.1.1 hP hD hS hA rfl (fun j hj => by rcases (show j = 0 by omega) with rfl; rfl) (Nat.le_of_ble_eq_true rfl) (Nat.le_of_ble_eq_true rfl) dX2_init_16 (fun b1 H hP hD hS => ?_)
  refine lv_dup hx hb dX2_init_19 rfl ?_
  refine mInit (ws := (h0, .inr (2, [.ref b0, .null, .null, .null, .null, .null, .int 0, .int 0])) :: R1) (own := RX2) ⟨hx, hb, hml, hown, ht⟩ hkf (ci_X0 l D ca) ⟨wj_44, wj_42, wj_45, by decide +kernel, by decide +kernel, by decide +kernel⟩ rfl wj_46 ⟨(Nat.le_of_ble_eq_true rfl), (Nat.le_of_ble_eq_true rfl)⟩ hP hD hS hA hl.1 (Nat.le_of_ble_eq_true rfl) dX2_init_20 ⟨(Nat.le_of_ble_eq_true rfl), (Nat.le_of_ble_eq_true rfl)⟩ (fun a1 H locs hP hD hS => ?_)
  obtain ⟨R2, eR2⟩ : ∃ z : va_W, z = R1 ++ bkW ca b1 a1 := ⟨_, rfl⟩
  have hP : va_P D mCls ((h0, .inr (2, [.ref b0, .null, .null, .null, .null, .null, .int 0, .int 0])) :: R2) H := by rw [eR2]; exact hP
  have hD : va_D (va_A [(h0, (.inr (2, [.null, .null, .null, .null, .null, .null, .int 0, .int 0])))] s.heap.size) ((h0, .inr (2, [.ref b0, .null, .null, .null, .null, .null, .int 0, .int 0])) :: R2) := by rw [eR2]; exact hD
  refine va_putF (D := D) (ci := 2) (v := .ref b1) (ty := (.object "CradleNets$Book")) (C := RX2) (T := TX2) (N := 8) hx hb ht mX2 tyX2 tyX2_ok nmX2 hown hkf.1.1 hP hD hS 0 rfl rfl 1 (by decide) (ht _ wj_13) (fun _ h9 => h9) rfl hin rfl (by decide +kernel) rfl rfl (Nat.le_of_ble_eq_true rfl) dX2_init_23 (fun H locs hP hD hS => ?_)
  have hP : va_P D mCls ((h0, .inr (2, [.ref b0, .ref b1, .null, .null, .null, .null, .int 0, .int 0])) :: R2) H := hP
  have hD : va_D (va_A [(h0, (.inr (2, [.null, .null, .null, .null, .null, .null, .int 0, .int 0])))] s.heap.size) ((h0, .inr (2, [.ref b0, .ref b1, .null, .null, .null, .null, .int 0, .int 0])) :: R2) := hD
  refine lv_aload_n hx hb dX2_init_26 rfl (lv_at hl 0 rfl) ?_
  refine lv_bipush (v := 6) hx hb dX2_init_27 (by decide) ?_
  refine va_newq (own := RX2) (C := "CradleNets$Book") (N' := 6) hx hb hown (ht _ wj_38) hkf.2.2.2.1 hkf.1.1 hP hD hS hA (by decide) rfl (by decide) (Nat.le_of_ble_eq_true rfl) (Nat.le_of_ble_eq_true rfl) dX2_init_29 (fun qk cA H hK1 hP hD hS => ?_)
  have ec := kk_4 (tys := []) hkf.1.1 hK1
  subst ec
  obtain ⟨f0, ef0⟩ : ∃ z : Nat → Option Nat, z = fun _ => none := ⟨_, rfl⟩
  rw [← ef0] at hP hD
  have hP : va_P D mCls ((h0, .inr (2, [.ref b0, .ref b1, .null, .null, .null, .null, .int 0, .int 0])) :: (qk, .inl (ca 4, 6, .inr (.inr (.inr (.inr f0))))) :: R2) H := P_cons hP
  have hD : va_D (va_A [(h0, (.inr (2, [.null, .null, .null, .null, .null, .null, .int 0, .int 0])))] s.heap.size) ((h0, .inr (2, [.ref b0, .ref b1, .null, .null, .null, .null, .int 0, .int 0])) :: (qk, .inl (ca 4, 6, .inr (.inr (.inr (.inr f0))))) :: R2) := D_cons hD
  refine va_putF (D := D) (ci := 2) (v := .ref qk) (ty := (.array (.object "CradleNets$Book"))) (C := RX2) (T := TX2) (N := 8) hx hb ht mX2 tyX2 tyX2_ok nmX2 hown hkf.1.1 hP hD hS 0 rfl rfl 2 (by decide) (ht _ wj_14) (fun _ h9 => h9) rfl hin rfl (by decide +kernel) rfl rfl (Nat.le_of_ble_eq_true rfl) dX2_init_32 (fun H locs hP hD hS => ?_)
  have hP : va_P D mCls ((h0, .inr (2, [.ref b0, .ref b1, .ref qk, .null, .null, .null, .int 0, .int 0])) :: (qk, .inl (ca 4, 6, .inr (.inr (.inr (.inr f0))))) :: R2) H := hP
  have hD : va_D (va_A [(h0, (.inr (2, [.null, .null, .null, .null, .null, .null, .int 0, .int 0])))] s.heap.size) ((h0, .inr (2, [.ref b0, .ref b1, .ref qk, .null, .null, .null, .int 0, .int 0])) :: (qk, .inl (ca 4, 6, .inr (.inr (.inr (.inr f0))))) :: R2) := hD
  refine lv_aload_n hx hb dX2_init_35 rfl (lv_at hl 0 rfl) ?_
  refine va_new (ci := 1) (fs := [.null, .long 0, .long 0, .null, .null, .null, .int 0]) (C := RX1) (T := TX1) (N := 7) hx hb ht mX1 tyX1 tyX1_ok hown (ht _ wj_39) (ht _ wj_41) (ht _ wj_43) hkf.1.1 hP hD hS hA rfl (fun j hj => by rcases (show j = 0 ∨ j = 1 ∨ j = 2 ∨ j = 3 ∨ j = 4 ∨ j = 5 ∨ j = 6 by omega) with rfl | rfl | rfl | rfl | rfl | rfl | rfl <;> rfl) (Nat.le_of_ble_eq_true rfl) (Nat.le_of_ble_eq_true rfl) dX2_init_36 (fun n0 H hP hD hS => ?_)
  refine lv_dup hx hb dX2_init_39 rfl ?_
  refine mInitN (ws := (h0, .inr (2, [.ref b0, .ref b1, .ref qk, .null, .null, .null, .int 0, .int 0])) :: (qk, .inl (ca 4, 6, .inr (.inr (.inr (.inr f0))))) :: R2) ⟨hx, hb, hml, hown, ht⟩ hkf (ci_X1 l D ca) wj_47 wj_43 wj_48 ⟨(Nat.le_of_ble_eq_true rfl), (Nat.le_of_ble_eq_true rfl)⟩ hP hD hS hA hl.1 (Nat.le_of_ble_eq_true rfl) dX2_init_40 ⟨(Nat.le_of_ble_eq_true rfl), (Nat.le_of_ble_eq_true rfl)⟩ (fun an H locs hP hD hS => ?_)
  obtain ⟨R3, eR3⟩ : ∃ z : va_W, z = R2 ++ ntW ca n0 an := ⟨_, rfl⟩
  have hP : va_P D mCls ((h0, .inr (2, [.ref b0, .ref b1, .ref qk, .null, .null, .null, .int 0, .int 0])) :: (qk, .inl (ca 4, 6, .inr (.inr (.inr (.inr f0))))) :: R3) H := by rw [eR3]; exact hP
  have hD : va_D (va_A [(h0, (.inr (2, [.null, .null, .null, .null, .null, .null, .int 0, .int 0])))] s.heap.size) ((h0, .inr (2, [.ref b0, .ref b1, .ref qk, .null, .null, .null, .int 0, .int 0])) :: (qk, .inl (ca 4, 6, .inr (.inr (.inr (.inr f0))))) :: R3) := by rw [eR3]; exact hD
  refine va_putF (D := D) (ci := 2) (v := .ref n0) (ty := (.object "CradleNets$Net")) (C := RX2) (T := TX2) (N := 8) hx hb ht mX2 tyX2 tyX2_ok nmX2 hown hkf.1.1 hP hD hS 0 rfl rfl 3 (by decide) (ht _ wj_15) (fun _ h9 => h9) rfl hin rfl (by decide +kernel) rfl rfl (Nat.le_of_ble_eq_true rfl) dX2_init_43 (fun H locs hP hD hS => ?_)
  have hP : va_P D mCls ((h0, .inr (2, [.ref b0, .ref b1, .ref qk, .ref n0, .null, .null, .int 0, .int 0])) :: (qk, .inl (ca 4, 6, .inr (.inr (.inr (.inr f0))))) :: R3) H := hP
  have hD : va_D (va_A [(h0, (.inr (2, [.null, .null, .null, .null, .null, .null, .int 0, .int 0])))] s.heap.size) ((h0, .inr (2, [.ref b0, .ref b1, .ref qk, .ref n0, .null, .null, .int 0, .int 0])) :: (qk, .inl (ca 4, 6, .inr (.inr (.inr (.inr f0))))) :: R3) := hD
  refine lv_aload_n hx hb dX2_init_46 rfl (lv_at hl 0 rfl) ?_
  refine lv_iconst (v := 4) hx hb dX2_init_47 (by decide) ?_
  refine lv_iconst (v := 4) hx hb dX2_init_48 (by decide) ?_
  refine mI_new (ws := (h0, .inr (2, [.ref b0, .ref b1, .ref qk, .ref n0, .null, .null, .int 0, .int 0])) :: (qk, .inl (ca 4, 6, .inr (.inr (.inr (.inr f0))))) :: R3) (K := 4) hx hb hown (ht _ wj_37) hkf (ht _ wj_33) hP hD hS hA (by decide) rfl (by decide) (by decide) (Nat.le_of_ble_eq_true rfl) (Nat.le_of_ble_eq_true rfl) dX2_init_49 (fun g0 g1 g2 g3 g4 H hP hD hS => ?_)
  obtain ⟨R4, eR4⟩ : ∃ z : va_W, z = R3 ++ [(g0, oR ca 2 [g1, g2, g3, g4]), (g1, zI ca 4), (g2, zI ca 4), (g3, zI ca 4), (g4, zI ca 4)] := ⟨_, rfl⟩
  have hP : va_P D mCls ((h0, .inr (2, [.ref b0, .ref b1, .ref qk, .ref n0, .null, .null, .int 0, .int 0])) :: (qk, .inl (ca 4, 6, .inr (.inr (.inr (.inr f0))))) :: R4) H := by rw [eR4]; exact hP
  have hD : va_D (va_A [(h0, (.inr (2, [.null, .null, .null, .null, .null, .null, .int 0, .int 0])))] s.heap.size) ((h0, .inr (2, [.ref b0, .ref b1, .ref qk, .ref n0, .null, .null, .int 0, .int 0])) :: (qk, .inl (ca 4, 6, .inr (.inr (.inr (.inr f0))))) :: R4) := by rw [eR4]; exact hD
  refine va_putF (D := D) (ci := 2) (v := .ref g0) (ty := (.array (.array .int))) (C := RX2) (T := TX2) (N := 8) hx hb ht mX2 tyX2 tyX2_ok nmX2 hown hkf.1.1 hP hD hS 0 rfl rfl 4 (by decide) (ht _ wj_16) (fun _ h9 => h9) rfl hin rfl (by decide +kernel) rfl rfl (Nat.le_of_ble_eq_true rfl) dX2_init_53 (fun H locs hP hD hS => ?_)
  have hP : va_P D mCls ((h0, .inr (2, [.ref b0, .ref b1, .ref qk, .ref n0, .ref g0, .null, .int 0, .int 0])) :: (qk, .inl (ca 4, 6, .inr (.inr (.inr (.inr f0))))) :: R4) H := hP
  have hD : va_D (va_A [(h0, (.inr (2, [.null, .null, .null, .null, .null, .null, .int 0, .int 0])))] s.heap.size) ((h0, .inr (2, [.ref b0, .ref b1, .ref qk, .ref n0, .ref g0, .null, .int 0, .int 0])) :: (qk, .inl (ca 4, 6, .inr (.inr (.inr (.inr f0))))) :: R4) := hD
  refine lv_aload_n hx hb dX2_init_56 rfl (lv_at hl 0 rfl) ?_
  refine lv_iconst (v := 4) hx hb dX2_init_57 (by decide) ?_
  refine nI_new (ws := (h0, .inr (2, [.ref b0, .ref b1, .ref qk, .ref n0, .ref g0, .null, .int 0, .int 0])) :: (qk, .inl (ca 4, 6, .inr (.inr (.inr (.inr f0))))) :: R4) (N := 4) hx hb (ht _ wj_33) hkf.1.1 hP hD hS hA (by decide) rfl (by decide) (Nat.le_of_ble_eq_true rfl) (Nat.le_of_ble_eq_true rfl) dX2_init_58 (fun d0 H hP hD hS => ?_)
  obtain ⟨R5, eR5⟩ : ∃ z : va_W, z = R4 ++ [(d0, zI ca 4)] := ⟨_, rfl⟩
  have hP : va_P D mCls ((h0, .inr (2, [.ref b0, .ref b1, .ref qk, .ref n0, .ref g0, .null, .int 0, .int 0])) :: (qk, .inl (ca 4, 6, .inr (.inr (.inr (.inr f0))))) :: R5) H := by rw [eR5]; exact hP
  have hD : va_D (va_A [(h0, (.inr (2, [.null, .null, .null, .null, .null, .null, .int 0, .int 0])))] s.heap.size) ((h0, .inr (2, [.ref b0, .ref b1, .ref qk, .ref n0, .ref g0, .null, .int 0, .int 0])) :: (qk, .inl (ca 4, 6, .inr (.inr (.inr (.inr f0))))) :: R5) := by rw [eR5]; exact hD
  refine va_putF (D := D) (ci := 2) (v := .ref d0) (ty := (.array .int)) (C := RX2) (T := TX2) (N := 8) hx hb ht mX2 tyX2 tyX2_ok nmX2 hown hkf.1.1 hP hD hS 0 rfl rfl 5 (by decide) (ht _ wj_17) (fun _ h9 => h9) rfl hin rfl (by decide +kernel) rfl rfl (Nat.le_of_ble_eq_true rfl) dX2_init_60 (fun H locs hP hD hS => ?_)
  have hP : va_P D mCls ((h0, .inr (2, [.ref b0, .ref b1, .ref qk, .ref n0, .ref g0, .ref d0, .int 0, .int 0])) :: (qk, .inl (ca 4, 6, .inr (.inr (.inr (.inr f0))))) :: R5) H := hP
  have hD : va_D (va_A [(h0, (.inr (2, [.null, .null, .null, .null, .null, .null, .int 0, .int 0])))] s.heap.size) ((h0, .inr (2, [.ref b0, .ref b1, .ref qk, .ref n0, .ref g0, .ref d0, .int 0, .int 0])) :: (qk, .inl (ca 4, 6, .inr (.inr (.inr (.inr f0))))) :: R5) := hD
  refine lv_aload_n hx hb dX2_init_63 rfl (lv_at hl 0 rfl) ?_
  refine lv_iconst (v := 0) hx hb dX2_init_64 (by decide) ?_
  refine va_put (D := D) (ci := 2) (v := .int 0) (ty := .int) (C := RX2) (T := TX2) (N := 8) hx hb ht mX2 tyX2 tyX2_ok nmX2 hown hkf.1.1 hP hD hS 0 rfl rfl 6 (by decide) (ht _ wj_18) (fun _ h9 => h9) rfl (by decide +kernel) rfl rfl (Nat.le_of_ble_eq_true rfl) dX2_init_65 (fun H locs hP hD hS => ?_)
  have hP : va_P D mCls ((h0, .inr (2, [.ref b0, .ref b1, .ref qk, .ref n0, .ref g0, .ref d0, .int 0, .int 0])) :: (qk, .inl (ca 4, 6, .inr (.inr (.inr (.inr f0))))) :: R5) H := hP
  have hD : va_D (va_A [(h0, (.inr (2, [.null, .null, .null, .null, .null, .null, .int 0, .int 0])))] s.heap.size) ((h0, .inr (2, [.ref b0, .ref b1, .ref qk, .ref n0, .ref g0, .ref d0, .int 0, .int 0])) :: (qk, .inl (ca 4, 6, .inr (.inr (.inr (.inr f0))))) :: R5) := hD
  refine lv_aload_n hx hb dX2_init_68 rfl (lv_at hl 0 rfl) ?_
  refine lv_iconst (v := 0) hx hb dX2_init_69 (by decide) ?_
  refine va_put (D := D) (ci := 2) (v := .int 0) (ty := .int) (C := RX2) (T := TX2) (N := 8) hx hb ht mX2 tyX2 tyX2_ok nmX2 hown hkf.1.1 hP hD hS 0 rfl rfl 7 (by decide) (ht _ wj_19) (fun _ h9 => h9) rfl (by decide +kernel) rfl rfl (Nat.le_of_ble_eq_true rfl) dX2_init_70 (fun H locs hP hD hS => ?_)
  have hP : va_P D mCls ((h0, .inr (2, [.ref b0, .ref b1, .ref qk, .ref n0, .ref g0, .ref d0, .int 0, .int 0])) :: (qk, .inl (ca 4, 6, .inr (.inr (.inr (.inr f0))))) :: R5) H := hP
  have hD : va_D (va_A [(h0, (.inr (2, [.null, .null, .null, .null, .null, .null, .int 0, .int 0])))] s.heap.size) ((h0, .inr (2, [.ref b0, .ref b1, .ref qk, .ref n0, .ref g0, .ref d0, .int 0, .int 0])) :: (qk, .inl (ca 4, 6, .inr (.inr (.inr (.inr f0))))) :: R5) := hD
  refine lv_iconst (v := 0) hx hb dX2_init_73 (by decide) ?_
  refine lv_istore_n (lv' := [(1, .int 0), (0, .ref h0)]) hx hb dX2_init_74 rfl hl (by decide) rfl (fun ls hl => ?_)
  refine lv_iload_n hx hb dX2_init_75 rfl (lv_at hl 0 rfl) ?_
  refine lv_bipush (v := 6) hx hb dX2_init_76 (by decide) ?_
  refine lv_icmp_ge (tgt := 100) hx hb dX2_init_78 (by decide) (fun z => absurd z (by decide)) (fun _ => ?_)
  refine lv_aload_n hx hb dX2_init_81 rfl (lv_at hl 1 rfl) ?_
  refine va_get (D := D) (ci := 2) (v := .ref qk) (C := RX2) (T := TX2) (N := 8) hx hb ht mX2 hown hkf.1.1 hP 0 rfl rfl 2 (by decide) (ht _ wj_14) (fun _ h9 => h9) rfl dX2_init_82 ?_
  refine lv_iload_n hx hb dX2_init_85 rfl (lv_at hl 0 rfl) ?_
  refine va_new (ci := 0) (fs := [.null]) (C := RX0) (T := TX0) (N := 1) hx hb ht mX0 tyX0 tyX0_ok hown (ht _ wj_38) (ht _ wj_40) (ht _ wj_42) hkf.1.1 hP hD hS hA rfl (fun j hj => by rcases (show j = 0 by omega) with rfl; rfl) (Nat.le_of_ble_eq_true rfl) (Nat.le_of_ble_eq_true rfl) dX2_init_86 (fun b2 H hP hD hS => ?_)
  refine lv_dup hx hb dX2_init_89 rfl ?_
  refine mInit (ws := (h0, .inr (2, [.ref b0, .ref b1, .ref qk, .ref n0, .ref g0, .ref d0, .int 0, .int 0])) :: (qk, .inl (ca 4, 6, .inr (.inr (.inr (.inr f0))))) :: R5) (own := RX2) ⟨hx, hb, hml, hown, ht⟩ hkf (ci_X0 l D ca) ⟨wj_44, wj_42, wj_45, by decide +kernel, by decide +kernel, by decide +kernel⟩ rfl wj_46 ⟨(Nat.le_of_ble_eq_true rfl), (Nat.le_of_ble_eq_true rfl)⟩ hP hD hS hA hl.1 (Nat.le_of_ble_eq_true rfl) dX2_init_90 ⟨(Nat.le_of_ble_eq_true rfl), (Nat.le_of_ble_eq_true rfl)⟩ (fun a2 H locs hP hD hS => ?_)
  refine va_astq hx hb hkf.1.1 hP hD hS 1 4 (R5.length + 2) 0 (cA := ca 4) (r := (RX0, TX0, 1)) (n := 6) (v := b2) (vs := [.ref (a2 1)]) (f := f0) (i := 0) rfl rfl get_app rfl (by decide) dX2_init_93 (fun H locs hP hD hS => ?_)
  obtain ⟨f1, ef1⟩ : ∃ z : Nat → Option Nat, z = va_up f0 (0 : Int32).toNatClampNeg (some b2) := ⟨_, rfl⟩
  have hP : va_P D mCls ((h0, .inr (2, [.ref b0, .ref b1, .ref qk, .ref n0, .ref g0, .ref d0, .int 0, .int 0])) :: (qk, .inl (ca 4, 6, .inr (.inr (.inr (.inr f1))))) :: (R5 ++ bkW ca b2 a2)) H := by rw [ef1]; exact hP
  have hD : va_D (va_A [(h0, (.inr (2, [.null, .null, .null, .null, .null, .null, .int 0, .int 0])))] s.heap.size) ((h0, .inr (2, [.ref b0, .ref b1, .ref qk, .ref n0, .ref g0, .ref d0, .int 0, .int 0])) :: (qk, .inl (ca 4, 6, .inr (.inr (.inr (.inr f1))))) :: (R5 ++ bkW ca b2 a2)) := by rw [ef1]; exact hD
  obtain ⟨R6, eR6⟩ : ∃ z : va_W, z = R5 ++ bkW ca b2 a2 := ⟨_, rfl⟩
  have hP : va_P D mCls ((h0, .inr (2, [.ref b0, .ref b1, .ref qk, .ref n0, .ref g0, .ref d0, .int 0, .int 0])) :: (qk, .inl (ca 4, 6, .inr (.inr (.inr (.inr f1))))) :: R6) H := by rw [eR6]; exact hP
  have hD : va_D (va_A [(h0, (.inr (2, [.null, .null, .null, .null, .null, .null, .int 0, .int 0])))] s.heap.size) ((h0, .inr (2, [.ref b0, .ref b1, .ref qk, .ref n0, .ref g0, .ref d0, .int 0, .int 0])) :: (qk, .inl (ca 4, 6, .inr (.inr (.inr (.inr f1))))) :: R6) := by rw [eR6]; exact hD
  refine lv_iinc (v := 1) (lv' := [(1, .int 1), (0, .ref h0)]) hx hb dX2_init_94 hl (k := 0) rfl (by decide) (by decide) rfl (fun ls hl => ?_)
  refine lv_goto (tgt := 75) hx hb dX2_init_97 (by decide) ?_
  refine lv_iload_n hx hb dX2_init_75 rfl (lv_at hl 0 rfl) ?_
  refine lv_bipush (v := 6) hx hb dX2_init_76 (by decide) ?_
  refine lv_icmp_ge (tgt := 100) hx hb dX2_init_78 (by decide) (fun z => absurd z (by decide)) (fun _ => ?_)
  refine lv_aload_n hx hb dX2_init_81 rfl (lv_at hl 1 rfl) ?_
  refine va_get (D := D) (ci := 2) (v := .ref qk) (C := RX2) (T := TX2) (N := 8) hx hb ht mX2 hown hkf.1.1 hP 0 rfl rfl 2 (by decide) (ht _ wj_14) (fun _ h9 => h9) rfl dX2_init_82 ?_
  refine lv_iload_n hx hb dX2_init_85 rfl (lv_at hl 0 rfl) ?_
  refine va_new (ci := 0) (fs := [.null]) (C := RX0) (T := TX0) (N := 1) hx hb ht mX0 tyX0 tyX0_ok hown (ht _ wj_38) (ht _ wj_40) (ht _ wj_42) hkf.1.1 hP hD hS hA rfl (fun j hj => by rcases (show j = 0 by omega) with rfl; rfl) (Nat.le_of_ble_eq_true rfl) (Nat.le_of_ble_eq_true rfl) dX2_init_86 (fun b3 H hP hD hS => ?_)
  refine lv_dup hx hb dX2_init_89 rfl ?_
  refine mInit (ws := (h0, .inr (2, [.ref b0, .ref b1, .ref qk, .ref n0, .ref g0, .ref d0, .int 0, .int 0])) :: (qk, .inl (ca 4, 6, .inr (.inr (.inr (.inr f1))))) :: R6) (own := RX2) ⟨hx, hb, hml, hown, ht⟩ hkf (ci_X0 l D ca) ⟨wj_44, wj_42, wj_45, by decide +kernel, by decide +kernel, by decide +kernel⟩ rfl wj_46 ⟨(Nat.le_of_ble_eq_true rfl), (Nat.le_of_ble_eq_true rfl)⟩ hP hD hS hA hl.1 (Nat.le_of_ble_eq_true rfl) dX2_init_90 ⟨(Nat.le_of_ble_eq_true rfl), (Nat.le_of_ble_eq_true rfl)⟩ (fun a3 H locs hP hD hS => ?_)
  refine va_astq hx hb hkf.1.1 hP hD hS 1 4 (R6.length + 2) 0 (cA := ca 4) (r := (RX0, TX0, 1)) (n := 6) (v := b3) (vs := [.ref (a3 1)]) (f := f1) (i := 1) rfl rfl get_app rfl (by decide) dX2_init_93 (fun H locs hP hD hS => ?_)
  obtain ⟨f2, ef2⟩ : ∃ z : Nat → Option Nat, z = va_up f1 (1 : Int32).toNatClampNeg (some b3) := ⟨_, rfl⟩
  have hP : va_P D mCls ((h0, .inr (2, [.ref b0, .ref b1, .ref qk, .ref n0, .ref g0, .ref d0, .int 0, .int 0])) :: (qk, .inl (ca 4, 6, .inr (.inr (.inr (.inr f2))))) :: (R6 ++ bkW ca b3 a3)) H := by rw [ef2]; exact hP
  have hD : va_D (va_A [(h0, (.inr (2, [.null, .null, .null, .null, .null, .null, .int 0, .int 0])))] s.heap.size) ((h0, .inr (2, [.ref b0, .ref b1, .ref qk, .ref n0, .ref g0, .ref d0, .int 0, .int 0])) :: (qk, .inl (ca 4, 6, .inr (.inr (.inr (.inr f2))))) :: (R6 ++ bkW ca b3 a3)) := by rw [ef2]; exact hD
  obtain ⟨R7, eR7⟩ : ∃ z : va_W, z = R6 ++ bkW ca b3 a3 := ⟨_, rfl⟩
  have hP : va_P D mCls ((h0, .inr (2, [.ref b0, .ref b1, .ref qk, .ref n0, .ref g0, .ref d0, .int 0, .int 0])) :: (qk, .inl (ca 4, 6, .inr (.inr (.inr (.inr f2))))) :: R7) H := by rw [eR7]; exact hP
  have hD : va_D (va_A [(h0, (.inr (2, [.null, .null, .null, .null, .null, .null, .int 0, .int 0])))] s.heap.size) ((h0, .inr (2, [.ref b0, .ref b1, .ref qk, .ref n0, .ref g0, .ref d0, .int 0, .int 0])) :: (qk, .inl (ca 4, 6, .inr (.inr (.inr (.inr f2))))) :: R7) := by rw [eR7]; exact hD
  refine lv_iinc (v := 2) (lv' := [(1, .int 2), (0, .ref h0)]) hx hb dX2_init_94 hl (k := 0) rfl (by decide) (by decide) rfl (fun ls hl => ?_)
  refine lv_goto (tgt := 75) hx hb dX2_init_97 (by decide) ?_
  refine lv_iload_n hx hb dX2_init_75 rfl (lv_at hl 0 rfl) ?_
  refine lv_bipush (v := 6) hx hb dX2_init_76 (by decide) ?_
  refine lv_icmp_ge (tgt := 100) hx hb dX2_init_78 (by decide) (fun z => absurd z (by decide)) (fun _ => ?_)
  refine lv_aload_n hx hb dX2_init_81 rfl (lv_at hl 1 rfl) ?_
  refine va_get (D := D) (ci := 2) (v := .ref qk) (C := RX2) (T := TX2) (N := 8) hx hb ht mX2 hown hkf.1.1 hP 0 rfl rfl 2 (by decide) (ht _ wj_14) (fun _ h9 => h9) rfl dX2_init_82 ?_
  refine lv_iload_n hx hb dX2_init_85 rfl (lv_at hl 0 rfl) ?_
  refine va_new (ci := 0) (fs := [.null]) (C := RX0) (T := TX0) (N := 1) hx hb ht mX0 tyX0 tyX0_ok hown (ht _ wj_38) (ht _ wj_40) (ht _ wj_42) hkf.1.1 hP hD hS hA rfl (fun j hj => by rcases (show j = 0 by omega) with rfl; rfl) (Nat.le_of_ble_eq_true rfl) (Nat.le_of_ble_eq_true rfl) dX2_init_86 (fun b4 H hP hD hS => ?_)
  refine lv_dup hx hb dX2_init_89 rfl ?_
  refine mInit (ws := (h0, .inr (2, [.ref b0, .ref b1, .ref qk, .ref n0, .ref g0, .ref d0, .int 0, .int 0])) :: (qk, .inl (ca 4, 6, .inr (.inr (.inr (.inr f2))))) :: R7) (own := RX2) ⟨hx, hb, hml, hown, ht⟩ hkf (ci_X0 l D ca) ⟨wj_44, wj_42, wj_45, by decide +kernel, by decide +kernel, by decide +kernel⟩ rfl wj_46 ⟨(Nat.le_of_ble_eq_true rfl), (Nat.le_of_ble_eq_true rfl)⟩ hP hD hS hA hl.1 (Nat.le_of_ble_eq_true rfl) dX2_init_90 ⟨(Nat.le_of_ble_eq_true rfl), (Nat.le_of_ble_eq_true rfl)⟩ (fun a4 H locs hP hD hS => ?_)
  refine va_astq hx hb hkf.1.1 hP hD hS 1 4 (R7.length + 2) 0 (cA := ca 4) (r := (RX0, TX0, 1)) (n := 6) (v := b4) (vs := [.ref (a4 1)]) (f := f2) (i := 2) rfl rfl get_app rfl (by decide) dX2_init_93 (fun H locs hP hD hS => ?_)
  obtain ⟨f3, ef3⟩ : ∃ z : Nat → Option Nat, z = va_up f2 (2 : Int32).toNatClampNeg (some b4) := ⟨_, rfl⟩
  have hP : va_P D mCls ((h0, .inr (2, [.ref b0, .ref b1, .ref qk, .ref n0, .ref g0, .ref d0, .int 0, .int 0])) :: (qk, .inl (ca 4, 6, .inr (.inr (.inr (.inr f3))))) :: (R7 ++ bkW ca b4 a4)) H := by rw [ef3]; exact hP
  have hD : va_D (va_A [(h0, (.inr (2, [.null, .null, .null, .null, .null, .null, .int 0, .int 0])))] s.heap.size) ((h0, .inr (2, [.ref b0, .ref b1, .ref qk, .ref n0, .ref g0, .ref d0, .int 0, .int 0])) :: (qk, .inl (ca 4, 6, .inr (.inr (.inr (.inr f3))))) :: (R7 ++ bkW ca b4 a4)) := by rw [ef3]; exact hD
  obtain ⟨R8, eR8⟩ : ∃ z : va_W, z = R7 ++ bkW ca b4 a4 := ⟨_, rfl⟩
  have hP : va_P D mCls ((h0, .inr (2, [.ref b0, .ref b1, .ref qk, .ref n0, .ref g0, .ref d0, .int 0, .int 0])) :: (qk, .inl (ca 4, 6, .inr (.inr (.inr (.inr f3))))) :: R8) H := by rw [eR8]; exact hP
  have hD : va_D (va_A [(h0, (.inr (2, [.null, .null, .null, .null, .null, .null, .int 0, .int 0])))] s.heap.size) ((h0, .inr (2, [.ref b0, .ref b1, .ref qk, .ref n0, .ref g0, .ref d0, .int 0, .int 0])) :: (qk, .inl (ca 4, 6, .inr (.inr (.inr (.inr f3))))) :: R8) := by rw [eR8]; exact hD
  refine lv_iinc (v := 3) (lv' := [(1, .int 3), (0, .ref h0)]) hx hb dX2_init_94 hl (k := 0) rfl (by decide) (by decide) rfl (fun ls hl => ?_)
  refine lv_goto (tgt := 75) hx hb dX2_init_97 (by decide) ?_
  refine lv_iload_n hx hb dX2_init_75 rfl (lv_at hl 0 rfl) ?_
  refine lv_bipush (v := 6) hx hb dX2_init_76 (by decide) ?_
  refine lv_icmp_ge (tgt := 100) hx hb dX2_init_78 (by decide) (fun z => absurd z (by decide)) (fun _ => ?_)
  refine lv_aload_n hx hb dX2_init_81 rfl (lv_at hl 1 rfl) ?_
  refine va_get (D := D) (ci := 2) (v := .ref qk) (C := RX2) (T := TX2) (N := 8) hx hb ht mX2 hown hkf.1.1 hP 0 rfl rfl 2 (by decide) (ht _ wj_14) (fun _ h9 => h9) rfl dX2_init_82 ?_
  refine lv_iload_n hx hb dX2_init_85 rfl (lv_at hl 0 rfl) ?_
  refine va_new (ci := 0) (fs := [.null]) (C := RX0) (T := TX0) (N := 1) hx hb ht mX0 tyX0 tyX0_ok hown (ht _ wj_38) (ht _ wj_40) (ht _ wj_42) hkf.1.1 hP hD hS hA rfl (fun j hj => by rcases (show j = 0 by omega) with rfl; rfl) (Nat.le_of_ble_eq_true rfl) (Nat.le_of_ble_eq_true rfl) dX2_init_86 (fun b5 H hP hD hS => ?_)
  refine lv_dup hx hb dX2_init_89 rfl ?_
  refine mInit (ws := (h0, .inr (2, [.ref b0, .ref b1, .ref qk, .ref n0, .ref g0, .ref d0, .int 0, .int 0])) :: (qk, .inl (ca 4, 6, .inr (.inr (.inr (.inr f3))))) :: R8) (own := RX2) ⟨hx, hb, hml, hown, ht⟩ hkf (ci_X0 l D ca) ⟨wj_44, wj_42, wj_45, by decide +kernel, by decide +kernel, by decide +kernel⟩ rfl wj_46 ⟨(Nat.le_of_ble_eq_true rfl), (Nat.le_of_ble_eq_true rfl)⟩ hP hD hS hA hl.1 (Nat.le_of_ble_eq_true rfl) dX2_init_90 ⟨(Nat.le_of_ble_eq_true rfl), (Nat.le_of_ble_eq_true rfl)⟩ (fun a5 H locs hP hD hS => ?_)
  refine va_astq hx hb hkf.1.1 hP hD hS 1 4 (R8.length + 2) 0 (cA := ca 4) (r := (RX0, TX0, 1)) (n := 6) (v := b5) (vs := [.ref (a5 1)]) (f := f3) (i := 3) rfl rfl get_app rfl (by decide) dX2_init_93 (fun H locs hP hD hS => ?_)
  obtain ⟨f4, ef4⟩ : ∃ z : Nat → Option Nat, z = va_up f3 (3 : Int32).toNatClampNeg (some b5) := ⟨_, rfl⟩
  have hP : va_P D mCls ((h0, .inr (2, [.ref b0, .ref b1, .ref qk, .ref n0, .ref g0, .ref d0, .int 0, .int 0])) :: (qk, .inl (ca 4, 6, .inr (.inr (.inr (.inr f4))))) :: (R8 ++ bkW ca b5 a5)) H := by rw [ef4]; exact hP
  have hD : va_D (va_A [(h0, (.inr (2, [.null, .null, .null, .null, .null, .null, .int 0, .int 0])))] s.heap.size) ((h0, .inr (2, [.ref b0, .ref b1, .ref qk, .ref n0, .ref g0, .ref d0, .int 0, .int 0])) :: (qk, .inl (ca 4, 6, .inr (.inr (.inr (.inr f4))))) :: (R8 ++ bkW ca b5 a5)) := by rw [ef4]; exact hD
  obtain ⟨R9, eR9⟩ : ∃ z : va_W, z = R8 ++ bkW ca b5 a5 := ⟨_, rfl⟩
  have hP : va_P D mCls ((h0, .inr (2, [.ref b0, .ref b1, .ref qk, .ref n0, .ref g0, .ref d0, .int 0, .int 0])) :: (qk, .inl (ca 4, 6, .inr (.inr (.inr (.inr f4))))) :: R9) H := by rw [eR9]; exact hP
  have hD : va_D (va_A [(h0, (.inr (2, [.null, .null, .null, .null, .null, .null, .int 0, .int 0])))] s.heap.size) ((h0, .inr (2, [.ref b0, .ref b1, .ref qk, .ref n0, .ref g0, .ref d0, .int 0, .int 0])) :: (qk, .inl (ca 4, 6, .inr (.inr (.inr (.inr f4))))) :: R9) := by rw [eR9]; exact hD
  refine lv_iinc (v := 4) (lv' := [(1, .int 4), (0, .ref h0)]) hx hb dX2_init_94 hl (k := 0) rfl (by decide) (by decide) rfl (fun ls hl => ?_)
  refine lv_goto (tgt := 75) hx hb dX2_init_97 (by decide) ?_
  refine lv_iload_n hx hb dX2_init_75 rfl (lv_at hl 0 rfl) ?_
  refine lv_bipush (v := 6) hx hb dX2_init_76 (by decide) ?_
  refine lv_icmp_ge (tgt := 100) hx hb dX2_init_78 (by decide) (fun z => absurd z (by decide)) (fun _ => ?_)
  refine lv_aload_n hx hb dX2_init_81 rfl (lv_at hl 1 rfl) ?_
  refine va_get (D := D) (ci := 2) (v := .ref qk) (C := RX2) (T := TX2) (N := 8) hx hb ht mX2 hown hkf.1.1 hP 0 rfl rfl 2 (by decide) (ht _ wj_14) (fun _ h9 => h9) rfl dX2_init_82 ?_
  refine lv_iload_n hx hb dX2_init_85 rfl (lv_at hl 0 rfl) ?_
  refine va_new (ci := 0) (fs := [.null]) (C := RX0) (T := TX0) (N := 1) hx hb ht mX0 tyX0 tyX0_ok hown (ht _ wj_38) (ht _ wj_40) (ht _ wj_42) hkf.1.1 hP hD hS hA rfl (fun j hj => by rcases (show j = 0 by omega) with rfl; rfl) (Nat.le_of_ble_eq_true rfl) (Nat.le_of_ble_eq_true rfl) dX2_init_86 (fun b6 H hP hD hS => ?_)
  refine lv_dup hx hb dX2_init_89 rfl ?_
  refine mInit (ws := (h0, .inr (2, [.ref b0, .ref b1, .ref qk, .ref n0, .ref g0, .ref d0, .int 0, .int 0])) :: (qk, .inl (ca 4, 6, .inr (.inr (.inr (.inr f4))))) :: R9) (own := RX2) ⟨hx, hb, hml, hown, ht⟩ hkf (ci_X0 l D ca) ⟨wj_44, wj_42, wj_45, by decide +kernel, by decide +kernel, by decide +kernel⟩ rfl wj_46 ⟨(Nat.le_of_ble_eq_true rfl), (Nat.le_of_ble_eq_true rfl)⟩ hP hD hS hA hl.1 (Nat.le_of_ble_eq_true rfl) dX2_init_90 ⟨(Nat.le_of_ble_eq_true rfl), (Nat.le_of_ble_eq_true rfl)⟩ (fun a6 H locs hP hD hS => ?_)
  refine va_astq hx hb hkf.1.1 hP hD hS 1 4 (R9.length + 2) 0 (cA := ca 4) (r := (RX0, TX0, 1)) (n := 6) (v := b6) (vs := [.ref (a6 1)]) (f := f4) (i := 4) rfl rfl get_app rfl (by decide) dX2_init_93 (fun H locs hP hD hS => ?_)
  obtain ⟨f5, ef5⟩ : ∃ z : Nat → Option Nat, z = va_up f4 (4 : Int32).toNatClampNeg (some b6) := ⟨_, rfl⟩
  have hP : va_P D mCls ((h0, .inr (2, [.ref b0, .ref b1, .ref qk, .ref n0, .ref g0, .ref d0, .int 0, .int 0])) :: (qk, .inl (ca 4, 6, .inr (.inr (.inr (.inr f5))))) :: (R9 ++ bkW ca b6 a6)) H := by rw [ef5]; exact hP
  have hD : va_D (va_A [(h0, (.inr (2, [.null, .null, .null, .null, .null, .null, .int 0, .int 0])))] s.heap.size) ((h0, .inr (2, [.ref b0, .ref b1, .ref qk, .ref n0, .ref g0, .ref d0, .int 0, .int 0])) :: (qk, .inl (ca 4, 6, .inr (.inr (.inr (.inr f5))))) :: (R9 ++ bkW ca b6 a6)) := by rw [ef5]; exact hD
  obtain ⟨R10, eR10⟩ : ∃ z : va_W, z = R9 ++ bkW ca b6 a6 := ⟨_, rfl⟩
  have hP : va_P D mCls ((h0, .inr (2, [.ref b0, .ref b1, .ref qk, .ref n0, .ref g0, .ref d0, .int 0, .int 0])) :: (qk, .inl (ca 4, 6, .inr (.inr (.inr (.inr f5))))) :: R10) H := by rw [eR10]; exact hP
  have hD : va_D (va_A [(h0, (.inr (2, [.null, .null, .null, .null, .null, .null, .int 0, .int 0])))] s.heap.size) ((h0, .inr (2, [.ref b0, .ref b1, .ref qk, .ref n0, .ref g0, .ref d0, .int 0, .int 0])) :: (qk, .inl (ca 4, 6, .inr (.inr (.inr (.inr f5))))) :: R10) := by rw [eR10]; exact hD
  refine lv_iinc (v := 5) (lv' := [(1, .int 5), (0, .ref h0)]) hx hb dX2_init_94 hl (k := 0) rfl (by decide) (by decide) rfl (fun ls hl => ?_)
  refine lv_goto (tgt := 75) hx hb dX2_init_97 (by decide) ?_
  refine lv_iload_n hx hb dX2_init_75 rfl (lv_at hl 0 rfl) ?_
  refine lv_bipush (v := 6) hx hb dX2_init_76 (by decide) ?_
  refine lv_icmp_ge (tgt := 100) hx hb dX2_init_78 (by decide) (fun z => absurd z (by decide)) (fun _ => ?_)
  refine lv_aload_n hx hb dX2_init_81 rfl (lv_at hl 1 rfl) ?_
  refine va_get (D := D) (ci := 2) (v := .ref qk) (C := RX2) (T := TX2) (N := 8) hx hb ht mX2 hown hkf.1.1 hP 0 rfl rfl 2 (by decide) (ht _ wj_14) (fun _ h9 => h9) rfl dX2_init_82 ?_
  refine lv_iload_n hx hb dX2_init_85 rfl (lv_at hl 0 rfl) ?_
  refine va_new (ci := 0) (fs := [.null]) (C := RX0) (T := TX0) (N := 1) hx hb ht mX0 tyX0 tyX0_ok hown (ht _ wj_38) (ht _ wj_40) (ht _ wj_42) hkf.1.1 hP hD hS hA rfl (fun j hj => by rcases (show j = 0 by omega) with rfl; rfl) (Nat.le_of_ble_eq_true rfl) (Nat.le_of_ble_eq_true rfl) dX2_init_86 (fun b7 H hP hD hS => ?_)
  refine lv_dup hx hb dX2_init_89 rfl ?_
  refine mInit (ws := (h0, .inr (2, [.ref b0, .ref b1, .ref qk, .ref n0, .ref g0, .ref d0, .int 0, .int 0])) :: (qk, .inl (ca 4, 6, .inr (.inr (.inr (.inr f5))))) :: R10) (own := RX2) ⟨hx, hb, hml, hown, ht⟩ hkf (ci_X0 l D ca) ⟨wj_44, wj_42, wj_45, by decide +kernel, by decide +kernel, by decide +kernel⟩ rfl wj_46 ⟨(Nat.le_of_ble_eq_true rfl), (Nat.le_of_ble_eq_true rfl)⟩ hP hD hS hA hl.1 (Nat.le_of_ble_eq_true rfl) dX2_init_90 ⟨(Nat.le_of_ble_eq_true rfl), (Nat.le_of_ble_eq_true rfl)⟩ (fun a7 H locs hP hD hS => ?_)
  refine va_astq hx hb hkf.1.1 hP hD hS 1 4 (R10.length + 2) 0 (cA := ca 4) (r := (RX0, TX0, 1)) (n := 6) (v := b7) (vs := [.ref (a7 1)]) (f := f5) (i := 5) rfl rfl get_app rfl (by decide) dX2_init_93 (fun H locs hP hD hS => ?_)
  obtain ⟨f6, ef6⟩ : ∃ z : Nat → Option Nat, z = va_up f5 (5 : Int32).toNatClampNeg (some b7) := ⟨_, rfl⟩
  have hP : va_P D mCls ((h0, .inr (2, [.ref b0, .ref b1, .ref qk, .ref n0, .ref g0, .ref d0, .int 0, .int 0])) :: (qk, .inl (ca 4, 6, .inr (.inr (.inr (.inr f6))))) :: (R10 ++ bkW ca b7 a7)) H := by rw [ef6]; exact hP
  have hD : va_D (va_A [(h0, (.inr (2, [.null, .null, .null, .null, .null, .null, .int 0, .int 0])))] s.heap.size) ((h0, .inr (2, [.ref b0, .ref b1, .ref qk, .ref n0, .ref g0, .ref d0, .int 0, .int 0])) :: (qk, .inl (ca 4, 6, .inr (.inr (.inr (.inr f6))))) :: (R10 ++ bkW ca b7 a7)) := by rw [ef6]; exact hD
  obtain ⟨R11, eR11⟩ : ∃ z : va_W, z = R10 ++ bkW ca b7 a7 := ⟨_, rfl⟩
  have hP : va_P D mCls ((h0, .inr (2, [.ref b0, .ref b1, .ref qk, .ref n0, .ref g0, .ref d0, .int 0, .int 0])) :: (qk, .inl (ca 4, 6, .inr (.inr (.inr (.inr f6))))) :: R11) H := by rw [eR11]; exact hP
  have hD : va_D (va_A [(h0, (.inr (2, [.null, .null, .null, .null, .null, .null, .int 0, .int 0])))] s.heap.size) ((h0, .inr (2, [.ref b0, .ref b1, .ref qk, .ref n0, .ref g0, .ref d0, .int 0, .int 0])) :: (qk, .inl (ca 4, 6, .inr (.inr (.inr (.inr f6))))) :: R11) := by rw [eR11]; exact hD
  refine lv_iinc (v := 6) (lv' := [(1, .int 6), (0, .ref h0)]) hx hb dX2_init_94 hl (k := 0) rfl (by decide) (by decide) rfl (fun ls hl => ?_)
  refine lv_goto (tgt := 75) hx hb dX2_init_97 (by decide) ?_
  refine lv_iload_n hx hb dX2_init_75 rfl (lv_at hl 0 rfl) ?_
  refine lv_bipush (v := 6) hx hb dX2_init_76 (by decide) ?_
  refine lv_icmp_ge (tgt := 100) hx hb dX2_init_78 (by decide) (fun _ => ?_) (fun z => absurd (by decide) z)
  subst eR1; subst eR2; subst eR3; subst eR4; subst eR5; subst eR6; subst eR7; subst eR8; subst eR9; subst eR10; subst eR11
  have e6 : f6 = fun j => ([b2, b3, b4, b5, b6, b7] : List Nat)[j]? := by rw [ef6, ef5, ef4, ef3, ef2, ef1, ef0]; exact kf6 b2 b3 b4 b5 b6 b7
  rw [e6] at hP hD
  have hP : va_P D mCls [(h0, .inr (2, [.ref b0, .ref b1, .ref qk, .ref n0, .ref g0, .ref d0, .int 0, .int 0])),
    (qk, oR ca 4 [b2, b3, b4, b5, b6, b7]),
    (b0, .inr (0, [.ref (a0 1)])),
    (a0 1, oR ca 2 [a0 2, a0 3, a0 4, a0 5]),
    (a0 2, cE id ca (eI23 frB)),
    (a0 3, cE id ca (eI23 frB)),
    (a0 4, cE id ca (eI23 frB)),
    (a0 5, cE id ca (eI23 frB)),
    (b1, .inr (0, [.ref (a1 1)])),
    (a1 1, oR ca 2 [a1 2, a1 3, a1 4, a1 5]),
    (a1 2, cE id ca (eI23 frB)),
    (a1 3, cE id ca (eI23 frB)),
    (a1 4, cE id ca (eI23 frB)),
    (a1 5, cE id ca (eI23 frB)),
    (n0, .inr (1, [.ref (an 1), .long 1, .long 1, .ref (an 2), .ref (an 7), .ref (an 8), .int 0])),
    (an 1, zL ca 4),
    (an 2, oR ca 3 [an 3, an 4, an 5, an 6]),
    (an 3, zL ca 4),
    (an 4, zL ca 4),
    (an 5, zL ca 4),
    (an 6, zL ca 4),
    (an 7, zL ca 4),
    (an 8, zL ca 16),
    (g0, oR ca 2 [g1, g2, g3, g4]),
    (g1, zI ca 4),
    (g2, zI ca 4),
    (g3, zI ca 4),
    (g4, zI ca 4),
    (d0, zI ca 4),
    (b2, .inr (0, [.ref (a2 1)])),
    (a2 1, oR ca 2 [a2 2, a2 3, a2 4, a2 5]),
    (a2 2, cE id ca (eI23 frB)),
    (a2 3, cE id ca (eI23 frB)),
    (a2 4, cE id ca (eI23 frB)),
    (a2 5, cE id ca (eI23 frB)),
    (b3, .inr (0, [.ref (a3 1)])),
    (a3 1, oR ca 2 [a3 2, a3 3, a3 4, a3 5]),
    (a3 2, cE id ca (eI23 frB)),
    (a3 3, cE id ca (eI23 frB)),
    (a3 4, cE id ca (eI23 frB)),
    (a3 5, cE id ca (eI23 frB)),
    (b4, .inr (0, [.ref (a4 1)])),
    (a4 1, oR ca 2 [a4 2, a4 3, a4 4, a4 5]),
    (a4 2, cE id ca (eI23 frB)),
    (a4 3, cE id ca (eI23 frB)),
    (a4 4, cE id ca (eI23 frB)),
    (a4 5, cE id ca (eI23 frB)),
    (b5, .inr (0, [.ref (a5 1)])),
    (a5 1, oR ca 2 [a5 2, a5 3, a5 4, a5 5]),
    (a5 2, cE id ca (eI23 frB)),
    (a5 3, cE id ca (eI23 frB)),
    (a5 4, cE id ca (eI23 frB)),
    (a5 5, cE id ca (eI23 frB)),
    (b6, .inr (0, [.ref (a6 1)])),
    (a6 1, oR ca 2 [a6 2, a6 3, a6 4, a6 5]),
    (a6 2, cE id ca (eI23 frB)),
    (a6 3, cE id ca (eI23 frB)),
    (a6 4, cE id ca (eI23 frB)),
    (a6 5, cE id ca (eI23 frB)),
    (b7, .inr (0, [.ref (a7 1)])),
    (a7 1, oR ca 2 [a7 2, a7 3, a7 4, a7 5]),
    (a7 2, cE id ca (eI23 frB)),
    (a7 3, cE id ca (eI23 frB)),
    (a7 4, cE id ca (eI23 frB)),
    (a7 5, cE id ca (eI23 frB))] H := hP
  have hD : va_D (va_A [(h0, (.inr (2, [.null, .null, .null, .null, .null, .null, .int 0, .int 0])))] s.heap.size) [(h0, .inr (2, [.ref b0, .ref b1, .ref qk, .ref n0, .ref g0, .ref d0, .int 0, .int 0])),
    (qk, oR ca 4 [b2, b3, b4, b5, b6, b7]),
    (b0, .inr (0, [.ref (a0 1)])),
    (a0 1, oR ca 2 [a0 2, a0 3, a0 4, a0 5]),
    (a0 2, cE id ca (eI23 frB)),
    (a0 3, cE id ca (eI23 frB)),
    (a0 4, cE id ca (eI23 frB)),
    (a0 5, cE id ca (eI23 frB)),
    (b1, .inr (0, [.ref (a1 1)])),
    (a1 1, oR ca 2 [a1 2, a1 3, a1 4, a1 5]),
    (a1 2, cE id ca (eI23 frB)),
    (a1 3, cE id ca (eI23 frB)),
    (a1 4, cE id ca (eI23 frB)),
    (a1 5, cE id ca (eI23 frB)),
    (n0, .inr (1, [.ref (an 1), .long 1, .long 1, .ref (an 2), .ref (an 7), .ref (an 8), .int 0])),
    (an 1, zL ca 4),
    (an 2, oR ca 3 [an 3, an 4, an 5, an 6]),
    (an 3, zL ca 4),
    (an 4, zL ca 4),
    (an 5, zL ca 4),
    (an 6, zL ca 4),
    (an 7, zL ca 4),
    (an 8, zL ca 16),
    (g0, oR ca 2 [g1, g2, g3, g4]),
    (g1, zI ca 4),
    (g2, zI ca 4),
    (g3, zI ca 4),
    (g4, zI ca 4),
    (d0, zI ca 4),
    (b2, .inr (0, [.ref (a2 1)])),
    (a2 1, oR ca 2 [a2 2, a2 3, a2 4, a2 5]),
    (a2 2, cE id ca (eI23 frB)),
    (a2 3, cE id ca (eI23 frB)),
    (a2 4, cE id ca (eI23 frB)),
    (a2 5, cE id ca (eI23 frB)),
    (b3, .inr (0, [.ref (a3 1)])),
    (a3 1, oR ca 2 [a3 2, a3 3, a3 4, a3 5]),
    (a3 2, cE id ca (eI23 frB)),
    (a3 3, cE id ca (eI23 frB)),
    (a3 4, cE id ca (eI23 frB)),
    (a3 5, cE id ca (eI23 frB)),
    (b4, .inr (0, [.ref (a4 1)])),
    (a4 1, oR ca 2 [a4 2, a4 3, a4 4, a4 5]),
    (a4 2, cE id ca (eI23 frB)),
    (a4 3, cE id ca (eI23 frB)),
    (a4 4, cE id ca (eI23 frB)),
    (a4 5, cE id ca (eI23 frB)),
    (b5, .inr (0, [.ref (a5 1)])),
    (a5 1, oR ca 2 [a5 2, a5 3, a5 4, a5 5]),
    (a5 2, cE id ca (eI23 frB)),
    (a5 3, cE id ca (eI23 frB)),
    (a5 4, cE id ca (eI23 frB)),
    (a5 5, cE id ca (eI23 frB)),
    (b6, .inr (0, [.ref (a6 1)])),
    (a6 1, oR ca 2 [a6 2, a6 3, a6 4, a6 5]),
    (a6 2, cE id ca (eI23 frB)),
    (a6 3, cE id ca (eI23 frB)),
    (a6 4, cE id ca (eI23 frB)),
    (a6 5, cE id ca (eI23 frB)),
    (b7, .inr (0, [.ref (a7 1)])),
    (a7 1, oR ca 2 [a7 2, a7 3, a7 4, a7 5]),
    (a7 2, cE id ca (eI23 frB)),
    (a7 3, cE id ca (eI23 frB)),
    (a7 4, cE id ca (eI23 frB)),
    (a7 5, cE id ca (eI23 frB))] := hD
  have hP := hP.sub (ws' := [(h0, .inr (2, [.ref b0, .ref b1, .ref qk, .ref n0, .ref g0, .ref d0, .int 0, .int 0])),
    (n0, .inr (1, [.ref (an 1), .long 1, .long 1, .ref (an 2), .ref (an 7), .ref (an 8), .int 0])),
    (an 1, zL ca 4),
    (an 2, oR ca 3 [an 3, an 4, an 5, an 6]),
    (an 3, zL ca 4),
    (an 4, zL ca 4),
    (an 5, zL ca 4),
    (an 6, zL ca 4),
    (an 7, zL ca 4),
    (an 8, zL ca 16),
    (b0, .inr (0, [.ref (a0 1)])),
    (a0 1, oR ca 2 [a0 2, a0 3, a0 4, a0 5]),
    (a0 2, cE id ca (eI23 frB)),
    (a0 3, cE id ca (eI23 frB)),
    (a0 4, cE id ca (eI23 frB)),
    (a0 5, cE id ca (eI23 frB)),
    (b1, .inr (0, [.ref (a1 1)])),
    (a1 1, oR ca 2 [a1 2, a1 3, a1 4, a1 5]),
    (a1 2, cE id ca (eI23 frB)),
    (a1 3, cE id ca (eI23 frB)),
    (a1 4, cE id ca (eI23 frB)),
    (a1 5, cE id ca (eI23 frB)),
    (g0, oR ca 2 [g1, g2, g3, g4]),
    (g1, zI ca 4),
    (g2, zI ca 4),
    (g3, zI ca 4),
    (g4, zI ca 4),
    (d0, zI ca 4),
    (qk, oR ca 4 [b2, b3, b4, b5, b6, b7]),
    (b2, .inr (0, [.ref (a2 1)])),
    (a2 1, oR ca 2 [a2 2, a2 3, a2 4, a2 5]),
    (a2 2, cE id ca (eI23 frB)),
    (a2 3, cE id ca (eI23 frB)),
    (a2 4, cE id ca (eI23 frB)),
    (a2 5, cE id ca (eI23 frB)),
    (b3, .inr (0, [.ref (a3 1)])),
    (a3 1, oR ca 2 [a3 2, a3 3, a3 4, a3 5]),
    (a3 2, cE id ca (eI23 frB)),
    (a3 3, cE id ca (eI23 frB)),
    (a3 4, cE id ca (eI23 frB)),
    (a3 5, cE id ca (eI23 frB)),
    (b4, .inr (0, [.ref (a4 1)])),
    (a4 1, oR ca 2 [a4 2, a4 3, a4 4, a4 5]),
    (a4 2, cE id ca (eI23 frB)),
    (a4 3, cE id ca (eI23 frB)),
    (a4 4, cE id ca (eI23 frB)),
    (a4 5, cE id ca (eI23 frB)),
    (b5, .inr (0, [.ref (a5 1)])),
    (a5 1, oR ca 2 [a5 2, a5 3, a5 4, a5 5]),
    (a5 2, cE id ca (eI23 frB)),
    (a5 3, cE id ca (eI23 frB)),
    (a5 4, cE id ca (eI23 frB)),
    (a5 5, cE id ca (eI23 frB)),
    (b6, .inr (0, [.ref (a6 1)])),
    (a6 1, oR ca 2 [a6 2, a6 3, a6 4, a6 5]),
    (a6 2, cE id ca (eI23 frB)),
    (a6 3, cE id ca (eI23 frB)),
    (a6 4, cE id ca (eI23 frB)),
    (a6 5, cE id ca (eI23 frB)),
    (b7, .inr (0, [.ref (a7 1)])),
    (a7 1, oR ca 2 [a7 2, a7 3, a7 4, a7 5]),
    (a7 2, cE id ca (eI23 frB)),
    (a7 3, cE id ca (eI23 frB)),
    (a7 4, cE id ca (eI23 frB)),
    (a7 5, cE id ca (eI23 frB))]) [0, 14, 15, 16, 17, 18, 19, 20, 21, 22, 2, 3, 4, 5, 6, 7, 8, 9, 10, 11, 12, 13, 23, 24, 25, 26, 27, 28, 1, 29, 30, 31, 32, 33, 34, 35, 36, 37, 38, 39, 40, 41, 42, 43, 44, 45, 46, 47, 48, 49, 50, 51, 52, 53, 54, 55, 56, 57, 58, 59, 60, 61, 62, 63, 64] rfl
  have hD := hD.sub (ws' := [(h0, .inr (2, [.ref b0, .ref b1, .ref qk, .ref n0, .ref g0, .ref d0, .int 0, .int 0])),
    (n0, .inr (1, [.ref (an 1), .long 1, .long 1, .ref (an 2), .ref (an 7), .ref (an 8), .int 0])),
    (an 1, zL ca 4),
    (an 2, oR ca 3 [an 3, an 4, an 5, an 6]),
    (an 3, zL ca 4),
    (an 4, zL ca 4),
    (an 5, zL ca 4),
    (an 6, zL ca 4),
    (an 7, zL ca 4),
    (an 8, zL ca 16),
    (b0, .inr (0, [.ref (a0 1)])),
    (a0 1, oR ca 2 [a0 2, a0 3, a0 4, a0 5]),
    (a0 2, cE id ca (eI23 frB)),
    (a0 3, cE id ca (eI23 frB)),
    (a0 4, cE id ca (eI23 frB)),
    (a0 5, cE id ca (eI23 frB)),
    (b1, .inr (0, [.ref (a1 1)])),
    (a1 1, oR ca 2 [a1 2, a1 3, a1 4, a1 5]),
    (a1 2, cE id ca (eI23 frB)),
    (a1 3, cE id ca (eI23 frB)),
    (a1 4, cE id ca (eI23 frB)),
    (a1 5, cE id ca (eI23 frB)),
    (g0, oR ca 2 [g1, g2, g3, g4]),
    (g1, zI ca 4),
    (g2, zI ca 4),
    (g3, zI ca 4),
    (g4, zI ca 4),
    (d0, zI ca 4),
    (qk, oR ca 4 [b2, b3, b4, b5, b6, b7]),
    (b2, .inr (0, [.ref (a2 1)])),
    (a2 1, oR ca 2 [a2 2, a2 3, a2 4, a2 5]),
    (a2 2, cE id ca (eI23 frB)),
    (a2 3, cE id ca (eI23 frB)),
    (a2 4, cE id ca (eI23 frB)),
    (a2 5, cE id ca (eI23 frB)),
    (b3, .inr (0, [.ref (a3 1)])),
    (a3 1, oR ca 2 [a3 2, a3 3, a3 4, a3 5]),
    (a3 2, cE id ca (eI23 frB)),
    (a3 3, cE id ca (eI23 frB)),
    (a3 4, cE id ca (eI23 frB)),
    (a3 5, cE id ca (eI23 frB)),
    (b4, .inr (0, [.ref (a4 1)])),
    (a4 1, oR ca 2 [a4 2, a4 3, a4 4, a4 5]),
    (a4 2, cE id ca (eI23 frB)),
    (a4 3, cE id ca (eI23 frB)),
    (a4 4, cE id ca (eI23 frB)),
    (a4 5, cE id ca (eI23 frB)),
    (b5, .inr (0, [.ref (a5 1)])),
    (a5 1, oR ca 2 [a5 2, a5 3, a5 4, a5 5]),
    (a5 2, cE id ca (eI23 frB)),
    (a5 3, cE id ca (eI23 frB)),
    (a5 4, cE id ca (eI23 frB)),
    (a5 5, cE id ca (eI23 frB)),
    (b6, .inr (0, [.ref (a6 1)])),
    (a6 1, oR ca 2 [a6 2, a6 3, a6 4, a6 5]),
    (a6 2, cE id ca (eI23 frB)),
    (a6 3, cE id ca (eI23 frB)),
    (a6 4, cE id ca (eI23 frB)),
    (a6 5, cE id ca (eI23 frB)),
    (b7, .inr (0, [.ref (a7 1)])),
    (a7 1, oR ca 2 [a7 2, a7 3, a7 4, a7 5]),
    (a7 2, cE id ca (eI23 frB)),
    (a7 3, cE id ca (eI23 frB)),
    (a7 4, cE id ca (eI23 frB)),
    (a7 5, cE id ca (eI23 frB))]) [0, 14, 15, 16, 17, 18, 19, 20, 21, 22, 2, 3, 4, 5, 6, 7, 8, 9, 10, 11, 12, 13, 23, 24, 25, 26, 27, 28, 1, 29, 30, 31, 32, 33, 34, 35, 36, 37, 38, 39, 40, 41, 42, 43, 44, 45, 46, 47, 48, 49, 50, 51, 52, 53, 54, 55, 56, 57, 58, 59, 60, 61, 62, 63, 64] (by decide) rfl
  obtain ⟨ax, eax⟩ : ∃ z : Nat → Nat, z = up (fun k => [h0, n0, an 1, an 2, an 3, an 4, an 5, an 6, an 7, an 8, b0, a0 1, a0 2, a0 3, a0 4, a0 5, b1, a1 1, a1 2, a1 3, a1 4, a1 5, g0, g1, g2, g3, g4, d0, qk, b2, a2 1, a2 2, a2 3, a2 4, a2 5, b3, a3 1, a3 2, a3 3, a3 4, a3 5, b4, a4 1, a4 2, a4 3, a4 4, a4 5, b5, a5 1, a5 2, a5 3, a5 4, a5 5, b6, a6 1, a6 2, a6 3, a6 4, a6 5, b7, a7 1, a7 2, a7 3, a7 4, a7 5].getD k 0) 0 h0 := ⟨_, rfl⟩
  have eW : cW ax ca XW0 = [(h0, .inr (2, [.ref b0, .ref b1, .ref qk, .ref n0, .ref g0, .ref d0, .int 0, .int 0])),
    (n0, .inr (1, [.ref (an 1), .long 1, .long 1, .ref (an 2), .ref (an 7), .ref (an 8), .int 0])),
    (an 1, zL ca 4),
    (an 2, oR ca 3 [an 3, an 4, an 5, an 6]),
    (an 3, zL ca 4),
    (an 4, zL ca 4),
    (an 5, zL ca 4),
    (an 6, zL ca 4),
    (an 7, zL ca 4),
    (an 8, zL ca 16),
    (b0, .inr (0, [.ref (a0 1)])),
    (a0 1, oR ca 2 [a0 2, a0 3, a0 4, a0 5]),
    (a0 2, cE id ca (eI23 frB)),
    (a0 3, cE id ca (eI23 frB)),
    (a0 4, cE id ca (eI23 frB)),
    (a0 5, cE id ca (eI23 frB)),
    (b1, .inr (0, [.ref (a1 1)])),
    (a1 1, oR ca 2 [a1 2, a1 3, a1 4, a1 5]),
    (a1 2, cE id ca (eI23 frB)),
    (a1 3, cE id ca (eI23 frB)),
    (a1 4, cE id ca (eI23 frB)),
    (a1 5, cE id ca (eI23 frB)),
    (g0, oR ca 2 [g1, g2, g3, g4]),
    (g1, zI ca 4),
    (g2, zI ca 4),
    (g3, zI ca 4),
    (g4, zI ca 4),
    (d0, zI ca 4),
    (qk, oR ca 4 [b2, b3, b4, b5, b6, b7]),
    (b2, .inr (0, [.ref (a2 1)])),
    (a2 1, oR ca 2 [a2 2, a2 3, a2 4, a2 5]),
    (a2 2, cE id ca (eI23 frB)),
    (a2 3, cE id ca (eI23 frB)),
    (a2 4, cE id ca (eI23 frB)),
    (a2 5, cE id ca (eI23 frB)),
    (b3, .inr (0, [.ref (a3 1)])),
    (a3 1, oR ca 2 [a3 2, a3 3, a3 4, a3 5]),
    (a3 2, cE id ca (eI23 frB)),
    (a3 3, cE id ca (eI23 frB)),
    (a3 4, cE id ca (eI23 frB)),
    (a3 5, cE id ca (eI23 frB)),
    (b4, .inr (0, [.ref (a4 1)])),
    (a4 1, oR ca 2 [a4 2, a4 3, a4 4, a4 5]),
    (a4 2, cE id ca (eI23 frB)),
    (a4 3, cE id ca (eI23 frB)),
    (a4 4, cE id ca (eI23 frB)),
    (a4 5, cE id ca (eI23 frB)),
    (b5, .inr (0, [.ref (a5 1)])),
    (a5 1, oR ca 2 [a5 2, a5 3, a5 4, a5 5]),
    (a5 2, cE id ca (eI23 frB)),
    (a5 3, cE id ca (eI23 frB)),
    (a5 4, cE id ca (eI23 frB)),
    (a5 5, cE id ca (eI23 frB)),
    (b6, .inr (0, [.ref (a6 1)])),
    (a6 1, oR ca 2 [a6 2, a6 3, a6 4, a6 5]),
    (a6 2, cE id ca (eI23 frB)),
    (a6 3, cE id ca (eI23 frB)),
    (a6 4, cE id ca (eI23 frB)),
    (a6 5, cE id ca (eI23 frB)),
    (b7, .inr (0, [.ref (a7 1)])),
    (a7 1, oR ca 2 [a7 2, a7 3, a7 4, a7 5]),
    (a7 2, cE id ca (eI23 frB)),
    (a7 3, cE id ca (eI23 frB)),
    (a7 4, cE id ca (eI23 frB)),
    (a7 5, cE id ca (eI23 frB))] := by
    have e3 : cE ax ca (eR 3 [4, 5, 6, 7]) = oR ca 3 [an 3, an 4, an 5, an 6] := by rw [cE_R, eax]; rfl
    have e11 : cE ax ca (eR 2 [12, 13, 14, 15]) = oR ca 2 [a0 2, a0 3, a0 4, a0 5] := by rw [cE_R, eax]; rfl
    have e17 : cE ax ca (eR 2 [18, 19, 20, 21]) = oR ca 2 [a1 2, a1 3, a1 4, a1 5] := by rw [cE_R, eax]; rfl
    have e22 : cE ax ca (eR 2 [23, 24, 25, 26]) = oR ca 2 [g1, g2, g3, g4] := by rw [cE_R, eax]; rfl
    have e28 : cE ax ca (eR 4 [29, 35, 41, 47, 53, 59]) = oR ca 4 [b2, b3, b4, b5, b6, b7] := by rw [cE_R, eax]; rfl
    have e30 : cE ax ca (eR 2 [31, 32, 33, 34]) = oR ca 2 [a2 2, a2 3, a2 4, a2 5] := by rw [cE_R, eax]; rfl
    have e36 : cE ax ca (eR 2 [37, 38, 39, 40]) = oR ca 2 [a3 2, a3 3, a3 4, a3 5] := by rw [cE_R, eax]; rfl
    have e42 : cE ax ca (eR 2 [43, 44, 45, 46]) = oR ca 2 [a4 2, a4 3, a4 4, a4 5] := by rw [cE_R, eax]; rfl
    have e48 : cE ax ca (eR 2 [49, 50, 51, 52]) = oR ca 2 [a5 2, a5 3, a5 4, a5 5] := by rw [cE_R, eax]; rfl
    have e54 : cE ax ca (eR 2 [55, 56, 57, 58]) = oR ca 2 [a6 2, a6 3, a6 4, a6 5] := by rw [cE_R, eax]; rfl
    have e60 : cE ax ca (eR 2 [61, 62, 63, 64]) = oR ca 2 [a7 2, a7 3, a7 4, a7 5] := by rw [cE_R, eax]; rfl
    rw [← e3, ← e11, ← e17, ← e22, ← e28, ← e30, ← e36, ← e42, ← e48, ← e54, ← e60, eax]
    rfl
  exact W.vret hx hb hr (fun t hh hW => ⟨⟨rfl, (fun k => [h0, n0, an 1, an 2, an 3, an 4, an 5, an 6, an 7, an 8, b0, a0 1, a0 2, a0 3, a0 4, a0 5, b1, a1 1, a1 2, a1 3, a1 4, a1 5, g0, g1, g2, g3, g4, d0, qk, b2, a2 1, a2 2, a2 3, a2 4, a2 5, b3, a3 1, a3 2, a3 3, a3 4, a3 5, b4, a4 1, a4 2, a4 3, a4 4, a4 5, b5, a5 1, a5 2, a5 3, a5 4, a5 5, b6, a6 1, a6 2, a6 3, a6 4, a6 5, b7, a7 1, a7 2, a7 3, a7 4, a7 5].getD k 0), by rw [hh]; show va_P D mCls (cW (up (fun k => [h0, n0, an 1, an 2, an 3, an 4, an 5, an 6, an 7, an 8, b0, a0 1, a0 2, a0 3, a0 4, a0 5, b1, a1 1, a1 2, a1 3, a1 4, a1 5, g0, g1, g2, g3, g4, d0, qk, b2, a2 1, a2 2, a2 3, a2 4, a2 5, b3, a3 1, a3 2, a3 3, a3 4, a3 5, b4, a4 1, a4 2, a4 3, a4 4, a4 5, b5, a5 1, a5 2, a5 3, a5 4, a5 5, b6, a6 1, a6 2, a6 3, a6 4, a6 5, b7, a7 1, a7 2, a7 3, a7 4, a7 5].getD k 0) 0 h0) ca XW0) H; rw [← eax, eW]; exact hP, by show va_D _ (cW (up (fun k => [h0, n0, an 1, an 2, an 3, an 4, an 5, an 6, an 7, an 8, b0, a0 1, a0 2, a0 3, a0 4, a0 5, b1, a1 1, a1 2, a1 3, a1 4, a1 5, g0, g1, g2, g3, g4, d0, qk, b2, a2 1, a2 2, a2 3, a2 4, a2 5, b3, a3 1, a3 2, a3 3, a3 4, a3 5, b4, a4 1, a4 2, a4 3, a4 4, a4 5, b5, a5 1, a5 2, a5 3, a5 4, a5 5, b6, a6 1, a6 2, a6 3, a6 4, a6 5, b7, a7 1, a7 2, a7 3, a7 4, a7 5].getD k 0) 0 h0) ca XW0); rw [← eax, eW]; exact hD⟩, hS.F hh⟩) hS.2.2 dX2_init_100 hlocks
def MW0 : mW := MW 0 0 0 0 0 (fun _ => 0) (fun _ => 0) (fun _ => 0) (fun _ => 0) (fun _ => 0) (fun _ _ _ => 0) (fun _ _ => 0)
set_option maxRecDepth 100000 in
theorem mdW_eq (ca : Nat → ClassId) (h0 : Nat) (a : Nat → Nat) : mdW ca h0 a = cW (up a 0 h0) ca MW0 := rfl
