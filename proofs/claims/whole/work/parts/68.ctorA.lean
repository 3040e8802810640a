theorem dX0_init_0 : decode cX0_init 0 = .ok (.aload_n 0, 1) := by decide +kernel
theorem dX0_init_1 : decode cX0_init 1 = .ok (.invokespecial 3, 3) := by decide +kernel
theorem dX0_init_4 : decode cX0_init 4 = .ok (.aload_n 0, 1) := by decide +kernel
theorem dX0_init_5 : decode cX0_init 5 = .ok (.iconst 4, 1) := by decide +kernel
theorem dX0_init_6 : decode cX0_init 6 = .ok (.bipush 23, 2) := by decide +kernel
theorem dX0_init_8 : decode cX0_init 8 = .ok (.multianewarray 9 2, 4) := by decide +kernel
theorem dX0_init_12 : decode cX0_init 12 = .ok (.putfield 11, 3) := by decide +kernel
theorem dX0_init_15 : decode cX0_init 15 = .ok (.iconst 0, 1) := by decide +kernel
theorem dX0_init_16 : decode cX0_init 16 = .ok (.istore_n 1, 1) := by decide +kernel
theorem dX0_init_17 : decode cX0_init 17 = .ok (.iload_n 1, 1) := by decide +kernel
theorem dX0_init_18 : decode cX0_init 18 = .ok (.iconst 4, 1) := by decide +kernel
theorem dX0_init_19 : decode cX0_init 19 = .ok (.if_icmp .ge 56, 3) := by decide +kernel
theorem dX0_init_22 : decode cX0_init 22 = .ok (.aload_n 0, 1) := by decide +kernel
theorem dX0_init_23 : decode cX0_init 23 = .ok (.getfield 11, 3) := by decide +kernel
theorem dX0_init_26 : decode cX0_init 26 = .ok (.iload_n 1, 1) := by decide +kernel
theorem dX0_init_27 : decode cX0_init 27 = .ok (.aaload, 1) := by decide +kernel
theorem dX0_init_28 : decode cX0_init 28 = .ok (.iconst 0, 1) := by decide +kernel
theorem dX0_init_29 : decode cX0_init 29 = .ok (.iconst 1, 1) := by decide +kernel
theorem dX0_init_30 : decode cX0_init 30 = .ok (.iastore, 1) := by decide +kernel
theorem dX0_init_31 : decode cX0_init 31 = .ok (.aload_n 0, 1) := by decide +kernel
theorem dX0_init_32 : decode cX0_init 32 = .ok (.getfield 11, 3) := by decide +kernel
theorem dX0_init_35 : decode cX0_init 35 = .ok (.iload_n 1, 1) := by decide +kernel
theorem dX0_init_36 : decode cX0_init 36 = .ok (.aaload, 1) := by decide +kernel
theorem dX0_init_37 : decode cX0_init 37 = .ok (.iconst 2, 1) := by decide +kernel
theorem dX0_init_38 : decode cX0_init 38 = .ok (.iconst 1, 1) := by decide +kernel
theorem dX0_init_39 : decode cX0_init 39 = .ok (.iastore, 1) := by decide +kernel
theorem dX0_init_40 : decode cX0_init 40 = .ok (.aload_n 0, 1) := by decide +kernel
theorem dX0_init_41 : decode cX0_init 41 = .ok (.getfield 11, 3) := by decide +kernel
theorem dX0_init_44 : decode cX0_init 44 = .ok (.iload_n 1, 1) := by decide +kernel
theorem dX0_init_45 : decode cX0_init 45 = .ok (.aaload, 1) := by decide +kernel
theorem dX0_init_46 : decode cX0_init 46 = .ok (.iconst 3, 1) := by decide +kernel
theorem dX0_init_47 : decode cX0_init 47 = .ok (.iconst 1, 1) := by decide +kernel
theorem dX0_init_48 : decode cX0_init 48 = .ok (.iastore, 1) := by decide +kernel
theorem dX0_init_49 : decode cX0_init 49 = .ok (.aload_n 0, 1) := by decide +kernel
theorem dX0_init_50 : decode cX0_init 50 = .ok (.getfield 11, 3) := by decide +kernel
theorem dX0_init_53 : decode cX0_init 53 = .ok (.iload_n 1, 1) := by decide +kernel
theorem dX0_init_54 : decode cX0_init 54 = .ok (.aaload, 1) := by decide +kernel
theorem dX0_init_55 : decode cX0_init 55 = .ok (.bipush 21, 2) := by decide +kernel
theorem dX0_init_57 : decode cX0_init 57 = .ok (.iconst 1, 1) := by decide +kernel
theorem dX0_init_58 : decode cX0_init 58 = .ok (.iastore, 1) := by decide +kernel
theorem dX0_init_59 : decode cX0_init 59 = .ok (.aload_n 0, 1) := by decide +kernel
theorem dX0_init_60 : decode cX0_init 60 = .ok (.getfield 11, 3) := by decide +kernel
theorem dX0_init_63 : decode cX0_init 63 = .ok (.iload_n 1, 1) := by decide +kernel
theorem dX0_init_64 : decode cX0_init 64 = .ok (.aaload, 1) := by decide +kernel
theorem dX0_init_65 : decode cX0_init 65 = .ok (.bipush 22, 2) := by decide +kernel
theorem dX0_init_67 : decode cX0_init 67 = .ok (.iconst 1, 1) := by decide +kernel
theorem dX0_init_68 : decode cX0_init 68 = .ok (.iastore, 1) := by decide +kernel
theorem dX0_init_69 : decode cX0_init 69 = .ok (.iinc 1 1, 3) := by decide +kernel
theorem dX0_init_72 : decode cX0_init 72 = .ok (.goto (-55), 3) := by decide +kernel
theorem dX0_init_75 : decode cX0_init 75 = .ok (.return_, 1) := by decide +kernel
theorem dX1_init_0 : decode cX1_init 0 = .ok (.aload_n 0, 1) := by decide +kernel
theorem dX1_init_1 : decode cX1_init 1 = .ok (.invokespecial 3, 3) := by decide +kernel
theorem dX1_init_4 : decode cX1_init 4 = .ok (.aload_n 0, 1) := by decide +kernel
theorem dX1_init_5 : decode cX1_init 5 = .ok (.iconst 4, 1) := by decide +kernel
theorem dX1_init_6 : decode cX1_init 6 = .ok (.newarray .long, 2) := by decide +kernel
theorem dX1_init_8 : decode cX1_init 8 = .ok (.putfield 9, 3) := by decide +kernel
theorem dX1_init_11 : decode cX1_init 11 = .ok (.aload_n 0, 1) := by decide +kernel
theorem dX1_init_12 : decode cX1_init 12 = .ok (.lconst 1, 1) := by decide +kernel
theorem dX1_init_13 : decode cX1_init 13 = .ok (.putfield 15, 3) := by decide +kernel
theorem dX1_init_16 : decode cX1_init 16 = .ok (.aload_n 0, 1) := by decide +kernel
theorem dX1_init_17 : decode cX1_init 17 = .ok (.lconst 1, 1) := by decide +kernel
theorem dX1_init_18 : decode cX1_init 18 = .ok (.putfield 19, 3) := by decide +kernel
theorem dX1_init_21 : decode cX1_init 21 = .ok (.aload_n 0, 1) := by decide +kernel
theorem dX1_init_22 : decode cX1_init 22 = .ok (.iconst 4, 1) := by decide +kernel
theorem dX1_init_23 : decode cX1_init 23 = .ok (.iconst 4, 1) := by decide +kernel
theorem dX1_init_24 : decode cX1_init 24 = .ok (.multianewarray 22 2, 4) := by decide +kernel
theorem dX1_init_28 : decode cX1_init 28 = .ok (.putfield 24, 3) := by decide +kernel
theorem dX1_init_31 : decode cX1_init 31 = .ok (.aload_n 0, 1) := by decide +kernel
theorem dX1_init_32 : decode cX1_init 32 = .ok (.iconst 4, 1) := by decide +kernel
theorem dX1_init_33 : decode cX1_init 33 = .ok (.newarray .long, 2) := by decide +kernel
theorem dX1_init_35 : decode cX1_init 35 = .ok (.putfield 27, 3) := by decide +kernel
theorem dX1_init_38 : decode cX1_init 38 = .ok (.aload_n 0, 1) := by decide +kernel
theorem dX1_init_39 : decode cX1_init 39 = .ok (.bipush 16, 2) := by decide +kernel
theorem dX1_init_41 : decode cX1_init 41 = .ok (.newarray .long, 2) := by decide +kernel
theorem dX1_init_43 : decode cX1_init 43 = .ok (.putfield 30, 3) := by decide +kernel
theorem dX1_init_46 : decode cX1_init 46 = .ok (.aload_n 0, 1) := by decide +kernel
theorem dX1_init_47 : decode cX1_init 47 = .ok (.iconst 0, 1) := by decide +kernel
theorem dX1_init_48 : decode cX1_init 48 = .ok (.putfield 33, 3) := by decide +kernel
theorem dX1_init_51 : decode cX1_init 51 = .ok (.return_, 1) := by decide +kernel
theorem dX2_init_0 : decode cX2_init 0 = .ok (.aload_n 0, 1) := by decide +kernel
theorem dX2_init_1 : decode cX2_init 1 = .ok (.invokespecial 1, 3) := by decide +kernel
theorem dX2_init_4 : decode cX2_init 4 = .ok (.aload_n 0, 1) := by decide +kernel
theorem dX2_init_5 : decode cX2_init 5 = .ok (.new 7, 3) := by decide +kernel
theorem dX2_init_8 : decode cX2_init 8 = .ok (.dup, 1) := by decide +kernel
theorem dX2_init_9 : decode cX2_init 9 = .ok (.invokespecial 9, 3) := by decide +kernel
theorem dX2_init_12 : decode cX2_init 12 = .ok (.putfield 10, 3) := by decide +kernel
theorem dX2_init_15 : decode cX2_init 15 = .ok (.aload_n 0, 1) := by decide +kernel
theorem dX2_init_16 : decode cX2_init 16 = .ok (.new 7, 3) := by decide +kernel
theorem dX2_init_19 : decode cX2_init 19 = .ok (.dup, 1) := by decide +kernel
theorem dX2_init_20 : decode cX2_init 20 = .ok (.invokespecial 9, 3) := by decide +kernel
theorem dX2_init_23 : decode cX2_init 23 = .ok (.putfield 16, 3) := by decide +kernel
theorem dX2_init_26 : decode cX2_init 26 = .ok (.aload_n 0, 1) := by decide +kernel
theorem dX2_init_27 : decode cX2_init 27 = .ok (.bipush 6, 2) := by decide +kernel
theorem dX2_init_29 : decode cX2_init 29 = .ok (.anewarray 7, 3) := by decide +kernel
theorem dX2_init_32 : decode cX2_init 32 = .ok (.putfield 19, 3) := by decide +kernel
theorem dX2_init_35 : decode cX2_init 35 = .ok (.aload_n 0, 1) := by decide +kernel
theorem dX2_init_36 : decode cX2_init 36 = .ok (.new 23, 3) := by decide +kernel
theorem dX2_init_39 : decode cX2_init 39 = .ok (.dup, 1) := by decide +kernel
theorem dX2_init_40 : decode cX2_init 40 = .ok (.invokespecial 25, 3) := by decide +kernel
theorem dX2_init_43 : decode cX2_init 43 = .ok (.putfield 26, 3) := by decide +kernel
theorem dX2_init_46 : decode cX2_init 46 = .ok (.aload_n 0, 1) := by decide +kernel
theorem dX2_init_47 : decode cX2_init 47 = .ok (.iconst 4, 1) := by decide +kernel
theorem dX2_init_48 : decode cX2_init 48 = .ok (.iconst 4, 1) := by decide +kernel
theorem dX2_init_49 : decode cX2_init 49 = .ok (.multianewarray 30 2, 4) := by decide +kernel
theorem dX2_init_53 : decode cX2_init 53 = .ok (.putfield 32, 3) := by decide +kernel
theorem dX2_init_56 : decode cX2_init 56 = .ok (.aload_n 0, 1) := by decide +kernel
theorem dX2_init_57 : decode cX2_init 57 = .ok (.iconst 4, 1) := by decide +kernel
theorem dX2_init_58 : decode cX2_init 58 = .ok (.newarray .int, 2) := by decide +kernel
theorem dX2_init_60 : decode cX2_init 60 = .ok (.putfield 35, 3) := by decide +kernel
theorem dX2_init_63 : decode cX2_init 63 = .ok (.aload_n 0, 1) := by decide +kernel
theorem dX2_init_64 : decode cX2_init 64 = .ok (.iconst 0, 1) := by decide +kernel
theorem dX2_init_65 : decode cX2_init 65 = .ok (.putfield 39, 3) := by decide +kernel
theorem dX2_init_68 : decode cX2_init 68 = .ok (.aload_n 0, 1) := by decide +kernel
theorem dX2_init_69 : decode cX2_init 69 = .ok (.iconst 0, 1) := by decide +kernel
theorem dX2_init_70 : decode cX2_init 70 = .ok (.putfield 43, 3) := by decide +kernel
theorem dX2_init_73 : decode cX2_init 73 = .ok (.iconst 0, 1) := by decide +kernel
theorem dX2_init_74 : decode cX2_init 74 = .ok (.istore_n 1, 1) := by decide +kernel
theorem dX2_init_75 : decode cX2_init 75 = .ok (.iload_n 1, 1) := by decide +kernel
theorem dX2_init_76 : decode cX2_init 76 = .ok (.bipush 6, 2) := by decide +kernel
theorem dX2_init_78 : decode cX2_init 78 = .ok (.if_icmp .ge 22, 3) := by decide +kernel
theorem dX2_init_81 : decode cX2_init 81 = .ok (.aload_n 0, 1) := by decide +kernel
theorem dX2_init_82 : decode cX2_init 82 = .ok (.getfield 19, 3) := by decide +kernel
theorem dX2_init_85 : decode cX2_init 85 = .ok (.iload_n 1, 1) := by decide +kernel
theorem dX2_init_86 : decode cX2_init 86 = .ok (.new 7, 3) := by decide +kernel
theorem dX2_init_89 : decode cX2_init 89 = .ok (.dup, 1) := by decide +kernel
theorem dX2_init_90 : decode cX2_init 90 = .ok (.invokespecial 9, 3) := by decide +kernel
theorem dX2_init_93 : decode cX2_init 93 = .ok (.aastore, 1) := by decide +kernel
theorem dX2_init_94 : decode cX2_init 94 = .ok (.iinc 1 1, 3) := by decide +kernel
theorem dX2_init_97 : decode cX2_init 97 = .ok (.goto (-22), 3) := by decide +kernel
theorem dX2_init_100 : decode cX2_init 100 = .ok (.return_, 1) := by decide +kernel
theorem dX3_init_0 : decode cX3_init 0 = .ok (.aload_n 0, 1) := by decide +kernel
theorem dX3_init_1 : decode cX3_init 1 = .ok (.invokespecial 1, 3) := by decide +kernel
theorem dX3_init_4 : decode cX3_init 4 = .ok (.aload_n 0, 1) := by decide +kernel
theorem dX3_init_5 : decode cX3_init 5 = .ok (.bipush 28, 2) := by decide +kernel
theorem dX3_init_7 : decode cX3_init 7 = .ok (.newarray .int, 2) := by decide +kernel
theorem dX3_init_9 : decode cX3_init 9 = .ok (.putfield 7, 3) := by decide +kernel
theorem dX3_init_12 : decode cX3_init 12 = .ok (.aload_n 0, 1) := by decide +kernel
theorem dX3_init_13 : decode cX3_init 13 = .ok (.bipush 28, 2) := by decide +kernel
theorem dX3_init_15 : decode cX3_init 15 = .ok (.newarray .int, 2) := by decide +kernel
theorem dX3_init_17 : decode cX3_init 17 = .ok (.putfield 13, 3) := by decide +kernel
theorem dX3_init_20 : decode cX3_init 20 = .ok (.aload_n 0, 1) := by decide +kernel
theorem dX3_init_21 : decode cX3_init 21 = .ok (.bipush 28, 2) := by decide +kernel
theorem dX3_init_23 : decode cX3_init 23 = .ok (.newarray .int, 2) := by decide +kernel
theorem dX3_init_25 : decode cX3_init 25 = .ok (.putfield 16, 3) := by decide +kernel
theorem dX3_init_28 : decode cX3_init 28 = .ok (.aload_n 0, 1) := by decide +kernel
theorem dX3_init_29 : decode cX3_init 29 = .ok (.bipush 28, 2) := by decide +kernel
theorem dX3_init_31 : decode cX3_init 31 = .ok (.newarray .int, 2) := by decide +kernel
theorem dX3_init_33 : decode cX3_init 33 = .ok (.putfield 19, 3) := by decide +kernel
theorem dX3_init_36 : decode cX3_init 36 = .ok (.aload_n 0, 1) := by decide +kernel
theorem dX3_init_37 : decode cX3_init 37 = .ok (.bipush 112, 2) := by decide +kernel
theorem dX3_init_39 : decode cX3_init 39 = .ok (.newarray .int, 2) := by decide +kernel
theorem dX3_init_41 : decode cX3_init 41 = .ok (.putfield 22, 3) := by decide +kernel
theorem dX3_init_44 : decode cX3_init 44 = .ok (.aload_n 0, 1) := by decide +kernel
theorem dX3_init_45 : decode cX3_init 45 = .ok (.bipush 112, 2) := by decide +kernel
theorem dX3_init_47 : decode cX3_init 47 = .ok (.newarray .int, 2) := by decide +kernel
theorem dX3_init_49 : decode cX3_init 49 = .ok (.putfield 25, 3) := by decide +kernel
theorem dX3_init_52 : decode cX3_init 52 = .ok (.aload_n 0, 1) := by decide +kernel
theorem dX3_init_53 : decode cX3_init 53 = .ok (.sipush 252, 3) := by decide +kernel
theorem dX3_init_56 : decode cX3_init 56 = .ok (.newarray .int, 2) := by decide +kernel
theorem dX3_init_58 : decode cX3_init 58 = .ok (.putfield 28, 3) := by decide +kernel
theorem dX3_init_61 : decode cX3_init 61 = .ok (.aload_n 0, 1) := by decide +kernel
theorem dX3_init_62 : decode cX3_init 62 = .ok (.bipush 16, 2) := by decide +kernel
theorem dX3_init_64 : decode cX3_init 64 = .ok (.newarray .int, 2) := by decide +kernel
theorem dX3_init_66 : decode cX3_init 66 = .ok (.putfield 31, 3) := by decide +kernel
theorem dX3_init_69 : decode cX3_init 69 = .ok (.aload_n 0, 1) := by decide +kernel
theorem dX3_init_70 : decode cX3_init 70 = .ok (.iconst 4, 1) := by decide +kernel
theorem dX3_init_71 : decode cX3_init 71 = .ok (.newarray .int, 2) := by decide +kernel
theorem dX3_init_73 : decode cX3_init 73 = .ok (.putfield 34, 3) := by decide +kernel
theorem dX3_init_76 : decode cX3_init 76 = .ok (.aload_n 0, 1) := by decide +kernel
theorem dX3_init_77 : decode cX3_init 77 = .ok (.bipush 16, 2) := by decide +kernel
theorem dX3_init_79 : decode cX3_init 79 = .ok (.newarray .long, 2) := by decide +kernel
theorem dX3_init_81 : decode cX3_init 81 = .ok (.putfield 37, 3) := by decide +kernel
theorem dX3_init_84 : decode cX3_init 84 = .ok (.aload_n 0, 1) := by decide +kernel
theorem dX3_init_85 : decode cX3_init 85 = .ok (.bipush 16, 2) := by decide +kernel
theorem dX3_init_87 : decode cX3_init 87 = .ok (.newarray .long, 2) := by decide +kernel
theorem dX3_init_89 : decode cX3_init 89 = .ok (.putfield 41, 3) := by decide +kernel
theorem dX3_init_92 : decode cX3_init 92 = .ok (.aload_n 0, 1) := by decide +kernel
theorem dX3_init_93 : decode cX3_init 93 = .ok (.iconst 4, 1) := by decide +kernel
theorem dX3_init_94 : decode cX3_init 94 = .ok (.newarray .long, 2) := by decide +kernel
theorem dX3_init_96 : decode cX3_init 96 = .ok (.putfield 44, 3) := by decide +kernel
theorem dX3_init_99 : decode cX3_init 99 = .ok (.aload_n 0, 1) := by decide +kernel
theorem dX3_init_100 : decode cX3_init 100 = .ok (.iconst 4, 1) := by decide +kernel
theorem dX3_init_101 : decode cX3_init 101 = .ok (.newarray .long, 2) := by decide +kernel
theorem dX3_init_103 : decode cX3_init 103 = .ok (.putfield 47, 3) := by decide +kernel
theorem dX3_init_106 : decode cX3_init 106 = .ok (.return_, 1) := by decide +kernel
theorem wi_0 : Cond.instanceMethod Lib.objectInit ∈ mTbl := by decide +kernel
theorem wi_1 : Cond.code Lib.objectInit ⟨#[0xb1]⟩ 1 none ∈ mTbl := by decide +kernel
theorem wi_2 : Cond.methodLink RX0 3 Lib.objectInit ∈ mTbl := by decide +kernel
theorem wi_3 : Cond.methodLink RX1 3 Lib.objectInit ∈ mTbl := by decide +kernel
theorem wi_4 : Cond.methodLink RX2 1 Lib.objectInit ∈ mTbl := by decide +kernel
theorem wi_5 : Cond.methodLink RX3 1 Lib.objectInit ∈ mTbl := by decide +kernel
theorem wi_6 : Cond.arrayClass .int ∈ mTbl := by decide +kernel
theorem wi_7 : Cond.arrayClass .long ∈ mTbl := by decide +kernel
theorem wi_8 : Cond.code yX0_init cX0_init 2 none ∈ mTbl := by decide +kernel
theorem wi_9 : Cond.code yX1_init cX1_init 1 none ∈ mTbl := by decide +kernel
theorem wi_10 : Cond.code yX2_init cX2_init 2 none ∈ mTbl := by decide +kernel
theorem wi_11 : Cond.code yX3_init cX3_init 1 none ∈ mTbl := by decide +kernel
theorem wi_12 : Cond.initialized RX0 ∈ mTbl := by decide +kernel
theorem wi_13 : Cond.initialized RX1 ∈ mTbl := by decide +kernel
theorem wi_14 : Cond.initialized RX2 ∈ mTbl := by decide +kernel
theorem wi_15 : Cond.initialized RX3 ∈ mTbl := by decide +kernel
/-! MAKING OBJECTS: what the constructors know, and lists of cells -/
def mNest2 : Cond := .methodLinkNest "CradleNets" 25 yX1_init "CradleNets"
def kF (D : va_G) (ca : Nat → ClassId) (U : State) : Prop := mK D ca U ∧ va_AOA .int U ∧ va_AOA .long U ∧ va_AO "CradleNets$Book" U ∧ va_Nw mNest2 U
theorem kF.warm {D : va_G} {ca : Nat → ClassId} {s U : State} (hW : s.WarmedH U.vm) (h : kF D ca s) : kF D ca U := ⟨h.1.warm hW, h.2.1.moved hW.alike, h.2.2.1.moved hW.alike, h.2.2.2.1.moved hW.alike, va_Nw.warmM hW h.2.2.2.2⟩
def iPc (D : va_G) (ca : Nat → ClassId) (h0 : Nat) (x : va_E) (sz : Nat) : Array Value → State → Prop := va_Pc [.ref h0] (fun U => U.heap.size = sz ∧ va_P D mCls [(h0, x)] U.heap ∧ kF D ca U ∧ va_D (fun _ => True) [(h0, x)])
theorem iPc_blind (D : va_G) (ca : Nat → ClassId) (h0 : Nat) (x : va_E) (sz : Nat) : FrameBlind (iPc D ca h0 x sz) := fun a U f mk q => by
  obtain ⟨q0, q1, qP, qK, qD⟩ := q
  have al : U.vm.Alike (U.calling f mk a).vm := Vm.Alike.refl U.vm
  exact ⟨q0, q1, qP, ⟨⟨va_K.moved (u := U) (U := U.calling f mk a) al qK.1.1, va_Nw.same (u := U) (U := U.calling f mk a) rfl rfl qK.1.2⟩, va_AOA.moved (u := U) (U := U.calling f mk a) al qK.2.1, va_AOA.moved (u := U) (U := U.calling f mk a) al qK.2.2.1, va_AO.moved (u := U) (U := U.calling f mk a) al qK.2.2.2.1, va_Nw.same (u := U) (U := U.calling f mk a) rfl rfl qK.2.2.2.2⟩, qD⟩
def iQ (D : va_G) (h0 : Nat) (x : va_E) (sz : Nat) (Wf : (Nat → Nat) → va_W) : Array Value → State → Outcome → State → Prop := fun _ st oc t =>
  (oc = .returned none ∧ ∃ a : Nat → Nat, va_P D mCls (Wf a) t.heap ∧ va_D (va_A [(h0, x)] sz) (Wf a)) ∧ va_F (va_A [(h0, x)] sz) st t
/-- a constructor: from one new cell to the cells Wf -/
def mI (l : Launch) (y : MethodName) (bs : ByteArray) (nL fr : Nat) (D : va_G) (ca : Nat → ClassId) (x : va_E) (Wf : Nat → (Nat → Nat) → va_W) (mc ms : Nat) : Prop :=
  ∀ h0 sz : Nat, Met l y (.code y bs nL none :: mTbl) { frames := fr, cells := mc, slots := ms, locals := 32 * fr } (iPc D ca h0 x sz) (iQ D h0 x sz (Wf h0)) mc ms (va_A [(h0, x)] sz)
theorem D_app {A : Nat → Prop} {w1 w2 : va_W} (h1 : va_D A w1) (h2 : va_D A w2) (h : ∀ (i j : Nat) (p q : Nat × va_E), w1[i]? = some p → w2[j]? = some q → p.1 ≠ q.1) : va_D A (w1 ++ w2) := by
  have key : ∀ (k : Nat) (q : Nat × va_E), (w1 ++ w2)[k]? = some q → (k < w1.length ∧ w1[k]? = some q) ∨ (w1.length ≤ k ∧ w2[k - w1.length]? = some q) := fun k q hk => by
    by_cases z : k < w1.length
    · rw [List.getElem?_append_left z] at hk; exact Or.inl ⟨z, hk⟩
    · rw [List.getElem?_append_right (by omega)] at hk; exact Or.inr ⟨by omega, hk⟩
  refine ⟨fun i j p q hi hj e => ?_, fun k q hk => ?_⟩
  · rcases key i p hi with ⟨a1, a2⟩ | ⟨a1, a2⟩ <;> rcases key j q hj with ⟨b1, b2⟩ | ⟨b1, b2⟩
    · exact h1.1 i j p q a2 b2 e
    · exact absurd e (h _ _ p q a2 b2)
    · exact absurd e.symm (h _ _ q p b2 a2)
    · have := h2.1 _ _ p q a2 b2 e
      omega
  · rcases key k q hk with ⟨_, a2⟩ | ⟨_, a2⟩
    · exact h1.2 _ q a2
    · exact h2.2 _ q a2
theorem P_mem {D : va_G} {cl : List vw_C} {w1 w2 : va_W} {H : Heap} (h : va_P D cl w1 H) (hm : ∀ x ∈ w2, x ∈ w1) : va_P D cl w2 H := fun k q hk => by
  obtain ⟨i, hi⟩ := List.mem_iff_getElem?.mp (hm q (List.mem_of_getElem? hk))
  exact h i q hi
theorem P_left {D : va_G} {cl : List vw_C} {w1 w2 : va_W} {H : Heap} (h : va_P D cl (w1 ++ w2) H) : va_P D cl w1 H := P_mem h (fun x hx => List.mem_append_left w2 hx)
theorem D_left {A : Nat → Prop} {w1 w2 : va_W} (h : va_D A (w1 ++ w2)) : va_D A w1 := by
  have key : ∀ (k : Nat) (q : Nat × va_E), w1[k]? = some q → (w1 ++ w2)[k]? = some q := fun k q hk => by
    rw [List.getElem?_append_left (List.getElem?_eq_some_iff.mp hk).1]; exact hk
  exact ⟨fun i j p q hi hj e => h.1 i j p q (key i p hi) (key j q hj) e, fun k q hk => h.2 k q (key k q hk)⟩
/-- the last cell of a list brought to its front -/
theorem D_rot {A : Nat → Prop} {w : va_W} {x : Nat × va_E} (h : va_D A (w ++ [x])) : va_D A (x :: w) := by
  have h1 : va_D A [x] := ⟨fun i j p q hi hj _ => by
    have a := (List.getElem?_eq_some_iff.mp hi).1
    have b := (List.getElem?_eq_some_iff.mp hj).1
    simp only [List.length_cons, List.length_nil] at a b
    omega, fun k q hk => by
    have a := (List.getElem?_eq_some_iff.mp hk).1
    simp only [List.length_cons, List.length_nil] at a
    have e : k = 0 := by omega
    subst e
    cases hk
    exact h.2 w.length _ (by rw [List.getElem?_append_right (Nat.le_refl _), Nat.sub_self]; rfl)⟩
  refine D_app (w1 := [x]) h1 (D_left h) (fun i j p q hi hj e => ?_)
  have a := (List.getElem?_eq_some_iff.mp hi).1
  simp only [List.length_cons, List.length_nil] at a
  have e0 : i = 0 := by omega
  subst e0
  cases hi
  have g := h.1 w.length j _ q (by rw [List.getElem?_append_right (Nat.le_refl _), Nat.sub_self]; rfl) (by rw [List.getElem?_append_left (List.getElem?_eq_some_iff.mp hj).1]; exact hj) e
  have := (List.getElem?_eq_some_iff.mp hj).1
  omega
theorem D_cons {A : Nat → Prop} {w : va_W} {x y : Nat × va_E} (h : va_D A (x :: (w ++ [y]))) : va_D A (x :: y :: w) := by
  have h2 : va_D A (y :: x :: w) := D_rot (w := x :: w) h
  refine ⟨fun i j p q hi hj e => ?_, fun k q hk => ?_⟩
  · have sw : ∀ k : Nat, (x :: y :: w)[k]? = (y :: x :: w)[if k = 0 then 1 else if k = 1 then 0 else k]? := fun k => by
      rcases (show k = 0 ∨ k = 1 ∨ 2 ≤ k by omega) with z | z | z
      · subst z; rfl
      · subst z; rfl
      · rw [if_neg (by omega), if_neg (by omega)]
        obtain ⟨t, rfl⟩ : ∃ t, k = t + 2 := ⟨k - 2, by omega⟩
        rfl
    rw [sw] at hi hj
    have g := h2.1 _ _ p q hi hj e
    split at g <;> split at g <;> (try split at g) <;> (try split at g) <;> omega
  · rcases (show k = 0 ∨ k = 1 ∨ 2 ≤ k by omega) with z | z | z
    · subst z; exact h2.2 1 q hk
    · subst z; exact h2.2 0 q hk
    · obtain ⟨t, rfl⟩ : ∃ t, k = t + 2 := ⟨k - 2, by omega⟩
      exact h2.2 (t + 2) q hk
theorem D_addr {A : Nat → Prop} {w1 w2 : va_W} (h : va_D A w1) (e : w2.map Prod.fst = w1.map Prod.fst) : va_D A w2 := by
  have key : ∀ (k : Nat) (q : Nat × va_E), w2[k]? = some q → ∃ q2, w1[k]? = some q2 ∧ q2.1 = q.1 := fun k q hk => by
    have h1 : (w2.map Prod.fst)[k]? = some q.1 := by rw [List.getElem?_map, hk]; rfl
    rw [e, List.getElem?_map] at h1
    cases hw : w1[k]? with
    | none => rw [hw] at h1; cases h1
    | some q2 => rw [hw] at h1; exact ⟨q2, rfl, Option.some.inj h1⟩
  refine ⟨fun i j p q hi hj z => ?_, fun k q hk => ?_⟩
  · obtain ⟨p2, a1, a2⟩ := key i p hi
    obtain ⟨q2, b1, b2⟩ := key j q hj
    exact h.1 i j p2 q2 a1 b1 (by rw [a2, b2]; exact z)
  · obtain ⟨q2, b1, b2⟩ := key k q hk
    rw [← b2]
    exact h.2 k q2 b1
def oR (ca : Nat → ClassId) (t : Nat) (A : List Nat) : va_E := .inl (ca t, A.length, .inr (.inr (.inr (.inr (fun j => A[j]?)))))
theorem cE_R (ad : Nat → Nat) (ca : Nat → ClassId) (t : Nat) (A : List Nat) : cE ad ca (eR t A) = oR ca t (A.map ad) := by
  show (Sum.inl (ca t, A.length, Sum.inr (Sum.inr (Sum.inr (Sum.inr (fun j => (A[j]?).map ad))))) : va_E) = Sum.inl (ca t, (A.map ad).length, Sum.inr (Sum.inr (Sum.inr (Sum.inr (fun j => (A.map ad)[j]?)))))
  rw [List.length_map]
  refine congrArg (fun f => (Sum.inl (ca t, A.length, Sum.inr (Sum.inr (Sum.inr (Sum.inr f)))) : va_E)) (funext fun j => ?_)
  rw [List.getElem?_map]
theorem rf4 (r : Nat → Nat) : (fun i => if i < 4 then some (r i) else none) = (fun j => ([r 0, r 1, r 2, r 3] : List Nat)[j]?) := by
  funext j
  rcases (show j = 0 ∨ j = 1 ∨ j = 2 ∨ j = 3 ∨ 4 ≤ j by omega) with e | e | e | e | e
  · subst e; rfl
  · subst e; rfl
  · subst e; rfl
  · subst e; rfl
  · rw [if_neg (by omega)]
    exact (List.getElem?_eq_none (by simpa using e)).symm
theorem pl4 {f : Nat → va_E} {r : Nat → Nat} {e : va_E} : va_pl ([] ++ (List.range 4).map r) (vr_up f ((List.range 4).map r) e) = [(r 0, e), (r 1, e), (r 2, e), (r 3, e)] := by
  have h : ∀ i : Nat, i < 4 → vr_up f ((List.range 4).map r) e (r i) = e := fun i hi => vr_up_in (List.mem_map.mpr ⟨i, List.mem_range.mpr hi, rfl⟩)
  show [(r 0, vr_up f ((List.range 4).map r) e (r 0)), (r 1, vr_up f ((List.range 4).map r) e (r 1)), (r 2, vr_up f ((List.range 4).map r) e (r 2)), (r 3, vr_up f ((List.range 4).map r) e (r 3))] = _
  rw [h 0 (by decide), h 1 (by decide), h 2 (by decide), h 3 (by decide)]
def zI (ca : Nat → ClassId) (N : Nat) : va_E := .inl (ca 0, (List.replicate N (0 : Int32)).length, .inl (fun j => (List.replicate N (0 : Int32)).getD j 0))
def zL (ca : Nat → ClassId) (N : Nat) : va_E := .inl (ca 1, (List.replicate N (0 : Int64)).length, .inr (.inl (fun j => (List.replicate N (0 : Int64)).getD j 0)))
theorem repI (N j : Nat) : (List.replicate N (0 : Int32)).getD j 0 = 0 := by
  rw [List.getD_eq_getElem?_getD, List.getElem?_replicate]
  split <;> rfl
theorem repL (N j : Nat) : (List.replicate N (0 : Int64)).getD j 0 = 0 := by
  rw [List.getD_eq_getElem?_getD, List.getElem?_replicate]
  split <;> rfl
theorem zI_ha (N : Nat) (cA : ClassId) : vp_cell cA ((List.replicate N (0 : Int32)).length, .inl (fun j => (List.replicate N (0 : Int32)).getD j 0)) = arrV cA N (fun _ => defaultValue .int) := by
  show arrV cA (List.replicate N (0 : Int32)).length (fun j => .int ((List.replicate N (0 : Int32)).getD j 0)) = arrV cA N (fun _ => .int 0)
  rw [List.length_replicate]
  exact congrArg (arrV cA N) (funext fun j => by rw [repI])
theorem zL_ha (N : Nat) (cA : ClassId) : vp_cell cA ((List.replicate N (0 : Int64)).length, .inr (.inl (fun j => (List.replicate N (0 : Int64)).getD j 0))) = arrV cA N (fun _ => defaultValue .long) := by
  show arrV cA (List.replicate N (0 : Int64)).length (fun j => .long ((List.replicate N (0 : Int64)).getD j 0)) = arrV cA N (fun _ => .long 0)
  rw [List.length_replicate]
  exact congrArg (arrV cA N) (funext fun j => by rw [repL])
theorem zI_hz (N : Nat) (c : ClassId) : Jvm.Free.Multi.innerC c N (defaultValue .int) = vp_cell c ((List.replicate N (0 : Int32)).length, .inl (fun j => (List.replicate N (0 : Int32)).getD j 0)) := by
  rw [zI_ha, ← arrV_new]
  rfl
theorem zL_hz (N : Nat) (c : ClassId) : Jvm.Free.Multi.innerC c N (defaultValue .long) = vp_cell c ((List.replicate N (0 : Int64)).length, .inr (.inl (fun j => (List.replicate N (0 : Int64)).getD j 0))) := by
  rw [zL_ha, ← arrV_new]
  rfl
section KK
variable {p : Program} {l : Launch} {e : Env} {R : Room} {s : State} {m : MethodId} {args : Array Value} {below : List Frame} {meth : Method} {c : Code} {H : Heap} {locs : List Loc} {cells slots : Nat} {Q : State → Prop} {D : va_G} {ca : Nat → ClassId} {A : Nat → Prop} {bs : ByteArray} {ls : Array Slot} {rest : List Value} {pc : Nat} {ws : va_W}
theorem kk_0 {tys : List (ClassId × FieldType)} {cA : ClassId} (hK : va_K D mCls (mTys ca) s) (h : va_K D mCls (mTys ca ++ [(cA, .int)]) s) : cA = ca 0 := Option.some.inj ((h.2 5 _ rfl).2.symm.trans (hK.2 0 _ rfl).2)
theorem kk_1 {tys : List (ClassId × FieldType)} {cA : ClassId} (hK : va_K D mCls (mTys ca) s) (h : va_K D mCls (mTys ca ++ [(cA, .long)]) s) : cA = ca 1 := Option.some.inj ((h.2 5 _ rfl).2.symm.trans (hK.2 1 _ rfl).2)
theorem kk_2 {tys : List (ClassId × FieldType)} {cA : ClassId} (hK : va_K D mCls (mTys ca) s) (h : va_K D mCls (mTys ca ++ [(cA, .array .int)]) s) : cA = ca 2 := Option.some.inj ((h.2 5 _ rfl).2.symm.trans (hK.2 2 _ rfl).2)
theorem kk_3 {tys : List (ClassId × FieldType)} {cA : ClassId} (hK : va_K D mCls (mTys ca) s) (h : va_K D mCls (mTys ca ++ [(cA, .array .long)]) s) : cA = ca 3 := Option.some.inj ((h.2 5 _ rfl).2.symm.trans (hK.2 3 _ rfl).2)
theorem kk_4 {tys : List (ClassId × FieldType)} {cA : ClassId} (hK : va_K D mCls (mTys ca) s) (h : va_K D mCls (mTys ca ++ [(cA, .object "CradleNets$Book")]) s) : cA = ca 4 := by
  obtain ⟨k1, c1, -, -, -, h1⟩ := (h.2 5 _ rfl).2
  obtain ⟨k2, c2, -, -, -, h2⟩ := (hK.2 4 _ rfl).2
  exact Option.some.inj (h1.symm.trans h2)
theorem nI_new (hx : p.tables.exec = Jvm.exec) (hb : c.code = bs) (harr : (Cond.arrayClass .int).before args s = true) (hK : va_K D mCls (mTys ca) s) (hP : va_P D mCls ws H) (hD : va_D A ws) (hS : va_S A s.heap H locs) (hA : ∀ q, s.heap.size ≤ q → A q) {n : Int32} {N : Nat} (hn : ¬ n < 0) (hN : n.toNatClampNeg = N) (hby : N * 4 ≤ 536870912) (hc : cells + 1 ≤ R.cells) (hs : slots + N ≤ R.slots) (hd : decode bs pc = .ok (.newarray .int, 2))
    (kk : ∀ (q : Nat) (H1 : Heap), va_P D mCls (ws ++ [(q, zI ca N)]) H1 → va_D A (ws ++ [(q, zI ca N)]) → va_S A s.heap H1 locs → W p l e R s m args below meth c H1 locs (cells + 1) (slots + N) Q (F0 m (pc + 2) ls (.ref q :: rest))) : W p l e R s m args below meth c H locs cells slots Q (F0 m pc ls (.int n :: rest)) := by
  refine va_newa (atype := .int) (ty := .int) (N' := N) hx hb harr rfl hK hP hD hS hA (zI_ha N) hn hN hby hc hs hd (fun q cA H1 hK1 hP1 hD1 hS1 => ?_)
  have ec := kk_0 (tys := []) hK hK1
  subst ec
  exact kk q H1 hP1 hD1 hS1
theorem nL_new (hx : p.tables.exec = Jvm.exec) (hb : c.code = bs) (harr : (Cond.arrayClass .long).before args s = true) (hK : va_K D mCls (mTys ca) s) (hP : va_P D mCls ws H) (hD : va_D A ws) (hS : va_S A s.heap H locs) (hA : ∀ q, s.heap.size ≤ q → A q) {n : Int32} {N : Nat} (hn : ¬ n < 0) (hN : n.toNatClampNeg = N) (hby : N * 8 ≤ 536870912) (hc : cells + 1 ≤ R.cells) (hs : slots + N ≤ R.slots) (hd : decode bs pc = .ok (.newarray .long, 2))
    (kk : ∀ (q : Nat) (H1 : Heap), va_P D mCls (ws ++ [(q, zL ca N)]) H1 → va_D A (ws ++ [(q, zL ca N)]) → va_S A s.heap H1 locs → W p l e R s m args below meth c H1 locs (cells + 1) (slots + N) Q (F0 m (pc + 2) ls (.ref q :: rest))) : W p l e R s m args below meth c H locs cells slots Q (F0 m pc ls (.int n :: rest)) := by
  refine va_newa (atype := .long) (ty := .long) (N' := N) hx hb harr rfl hK hP hD hS hA (zL_ha N) hn hN hby hc hs hd (fun q cA H1 hK1 hP1 hD1 hS1 => ?_)
  have ec := kk_1 (tys := []) hK hK1
  subst ec
  exact kk q H1 hP1 hD1 hS1
theorem mI_new (hx : p.tables.exec = Jvm.exec) (hb : c.code = bs) {own : String} {index : Nat} (hown : s.vm.findClass own = some m.cls) (hcl : (Cond.classLink own index ("[" ++ (FieldType.array .int).toString)).before args s = true) (hkf : kF D ca s) (harr : (Cond.arrayClass .int).before args s = true) (hP : va_P D mCls ws H) (hD : va_D A ws) (hS : va_S A s.heap H locs) (hA : ∀ q, s.heap.size ≤ q → A q) {k : Int32} {K : Nat} (hk : ¬ k < 0) (hM : k.toNatClampNeg = K) (hby : K * 4 ≤ 536870912) (hb3 : K ≤ 536870912) (hc : cells + (1 + 4) ≤ R.cells) (hs : slots + (4 + 4 * K) ≤ R.slots) (hd : decode bs pc = .ok (.multianewarray index 2, 4))
    (kk : ∀ (q r0 r1 r2 r3 : Nat) (H1 : Heap), va_P D mCls (ws ++ [(q, oR ca 2 [r0, r1, r2, r3]), (r0, zI ca K), (r1, zI ca K), (r2, zI ca K), (r3, zI ca K)]) H1 → va_D A (ws ++ [(q, oR ca 2 [r0, r1, r2, r3]), (r0, zI ca K), (r1, zI ca K), (r2, zI ca K), (r3, zI ca K)]) → va_S A s.heap H1 locs → W p l e R s m args below meth c H1 locs (cells + 1 + 4) (slots + 4 + 4 * K) Q (F0 m (pc + 4) ls (.ref q :: rest))) : W p l e R s m args below meth c H locs cells slots Q (F0 m pc ls (.int k :: .int 4 :: rest)) := by
  have hPe : va_P D mCls (ws ++ va_pl [] (fun _ => (.inr (0, []) : va_E))) H := by
    show va_P D mCls (ws ++ []) H
    rw [List.append_nil]; exact hP
  have hDe : va_D A (ws ++ va_pl [] (fun _ => (.inr (0, []) : va_E))) := by
    show va_D A (ws ++ [])
    rw [List.append_nil]; exact hD
  refine va_mna (X := ws) (L := []) (f := fun _ => (.inr (0, []) : va_E)) (cy := ca 0) (N' := 4) (K' := K) hx hb hown hcl hkf.2.1 harr (hkf.1.1.2 0 _ rfl).2 hkf.1.1 hPe hDe hS hA (by decide) hk rfl hM (by decide) hby hb3 rfl rfl hc hs (zI_hz K) hd (fun q r cA H1 hi hL hK1 hP1 hD1 hS1 => ?_)
  have ec := kk_2 (tys := []) hkf.1.1 hK1
  subst ec
  rw [rf4 r, pl4, List.append_assoc] at hP1 hD1
  exact kk q (r 0) (r 1) (r 2) (r 3) H1 hP1 hD1 hS1
theorem mL_new (hx : p.tables.exec = Jvm.exec) (hb : c.code = bs) {own : String} {index : Nat} (hown : s.vm.findClass own = some m.cls) (hcl : (Cond.classLink own index ("[" ++ (FieldType.array .long).toString)).before args s = true) (hkf : kF D ca s) (harr : (Cond.arrayClass .long).before args s = true) (hP : va_P D mCls ws H) (hD : va_D A ws) (hS : va_S A s.heap H locs) (hA : ∀ q, s.heap.size ≤ q → A q) {k : Int32} {K : Nat} (hk : ¬ k < 0) (hM : k.toNatClampNeg = K) (hby : K * 8 ≤ 536870912) (hb3 : K ≤ 536870912) (hc : cells + (1 + 4) ≤ R.cells) (hs : slots + (4 + 4 * K) ≤ R.slots) (hd : decode bs pc = .ok (.multianewarray index 2, 4))
    (kk : ∀ (q r0 r1 r2 r3 : Nat) (H1 : Heap), va_P D mCls (ws ++ [(q, oR ca 3 [r0, r1, r2, r3]), (r0, zL ca K), (r1, zL ca K), (r2, zL ca K), (r3, zL ca K)]) H1 → va_D A (ws ++ [(q, oR ca 3 [r0, r1, r2, r3]), (r0, zL ca K), (r1, zL ca K), (r2, zL ca K), (r3, zL ca K)]) → va_S A s.heap H1 locs → W p l e R s m args below meth c H1 locs (cells + 1 + 4) (slots + 4 + 4 * K) Q (F0 m (pc + 4) ls (.ref q :: rest))) : W p l e R s m args below meth c H locs cells slots Q (F0 m pc ls (.int k :: .int 4 :: rest)) := by
  have hPe : va_P D mCls (ws ++ va_pl [] (fun _ => (.inr (0, []) : va_E))) H := by
    show va_P D mCls (ws ++ []) H
    rw [List.append_nil]; exact hP
  have hDe : va_D A (ws ++ va_pl [] (fun _ => (.inr (0, []) : va_E))) := by
    show va_D A (ws ++ [])
    rw [List.append_nil]; exact hD
  refine va_mna (X := ws) (L := []) (f := fun _ => (.inr (0, []) : va_E)) (cy := ca 1) (N' := 4) (K' := K) hx hb hown hcl hkf.2.2.1 harr (hkf.1.1.2 1 _ rfl).2 hkf.1.1 hPe hDe hS hA (by decide) hk rfl hM (by decide) hby hb3 rfl rfl hc hs (zL_hz K) hd (fun q r cA H1 hi hL hK1 hP1 hD1 hS1 => ?_)
  have ec := kk_3 (tys := []) hkf.1.1 hK1
  subst ec
  rw [rf4 r, pl4, List.append_assoc] at hP1 hD1
  exact kk q (r 0) (r 1) (r 2) (r 3) H1 hP1 hD1 hS1
theorem objI (hx : p.tables.exec = Jvm.exec) (hb : c.code = bs) {own : String} {idx nL : Nat} (hown : s.vm.findClass own = some m.cls) (hml : c.maxLocals = nL) (ht : ∀ w ∈ mTbl, w.before args s = true) (hw : Cond.methodLink own idx Lib.objectInit ∈ mTbl) (hsz : ls.size = nL) {a : Nat} (hd : decode bs pc = .ok (.invokespecial idx, 3)) (hf : 1 ≤ R.frames) (hlo : 12 ≤ R.locals)
    (kk : W p l e R s m args below meth c H locs cells slots Q (F0 m (pc + 3) ls [])) : W p l e R s m args below meth c H locs cells slots Q (F0 m pc ls [.ref a]) :=
  W.objInit hx hb hown (ht _ hw) (ht _ wi_0) (ht _ wi_1) rfl (by rw [hml]; exact hsz) rfl hd hf hlo kk
/-- a constructor's call: the new cell, the last of the list, becomes what the constructor makes of it -/
theorem mInit_on {cc : ByteArray} {st0 : List Value} {x : va_E} {Wf : (Nat → Nat) → va_W} {mc ms q : Nat} {av : Array Value} (hP : va_P D mCls (ws ++ [(q, x)]) H) (hD : va_D A (ws ++ [(q, x)])) (hS : va_S A s.heap H locs) (hA : ∀ q, s.heap.size ≤ q → A q)
    (hr : va_Run p l e R s m args below meth c H locs cells slots mc ms (F0 m pc ls st0) rest (iQ D q x H.size Wf av) (va_A [(q, x)] H.size))
    (kk : ∀ (a : Nat → Nat) (H1 : Heap) (locs1 : List Loc), va_P D mCls (ws ++ Wf a) H1 → va_D A (ws ++ Wf a) → va_S A s.heap H1 locs1 → W p l e R s m args below meth c H1 locs1 (cells + mc) (slots + ms) Q (F0 m (pc + 3) ls rest)) : W p l e R s m args below meth c H locs cells slots Q (F0 m pc ls st0) := by
  have hq : (ws ++ [(q, x)])[ws.length]? = some (q, x) := by rw [List.getElem?_append_right (Nat.le_refl _), Nat.sub_self]; rfl
  have hF : ∀ z, va_A [(q, x)] H.size z → A z := fun z h => by
    rcases h with ⟨k, y, h⟩ | h
    · have := List.mem_of_getElem? h
      simp only [List.mem_cons, List.not_mem_nil, or_false] at this
      cases this
      exact hD.2 _ _ hq
    · exact hA z (Nat.le_trans hS.1 h)
  have hPw := P_left hP
  have hDw := D_left hD
  have hne : ∀ (k : Nat) (y : Nat × va_E), ws[k]? = some y → ¬ va_A [(q, x)] H.size y.1 := fun k y hk z => by
    have hk2 : (ws ++ [(q, x)])[k]? = some y := by rw [List.getElem?_append_left (List.getElem?_eq_some_iff.mp hk).1]; exact hk
    rcases z with ⟨j, u, h⟩ | h
    · have := List.mem_of_getElem? h
      simp only [List.mem_cons, List.not_mem_nil, or_false] at this
      have e1 : y.1 = q := congrArg Prod.fst this
      have := hD.1 k ws.length y (q, x) hk2 hq e1
      have := (List.getElem?_eq_some_iff.mp hk).1
      omega
    · exact absurd (hPw k y hk).lt (Nat.not_lt.mpr h)
  intro T hT X
  obtain ⟨v, st₀, t, T', L, h0, X', hL, e1, e2, ⟨⟨hv, a, hP1, hD1⟩, hz, hk⟩, st⟩ := hr T hT X
  cases hv
  rw [h0] at hz hk
  have hPn : va_P D mCls ws T'.heap := hPw.kept (fun k y hy => by rw [e1]; exact hk y.1 (hPw k y hy).lt (hne k y hy))
  obtain ⟨t2, a1, b1⟩ := kk a T'.heap (locs ++ L) (hPn.app (by rw [e1]; exact hP1)) (D_app hDw ⟨hD1.1, fun k y hy => hF _ (hD1.2 k y hy)⟩ (fun i j y u hy hu ez => hne i y hy (by rw [ez]; exact hD1.2 j u hu)))
    ⟨Nat.le_trans hS.1 (by rw [e1]; exact hz), fun z h1 h2 => by rw [e1, hk z (Nat.lt_of_lt_of_le h1 hS.1) (fun y => h2 (hF z y))]; exact hS.2.1 z h1 h2, fun z hz2 => by
      rcases List.mem_append.mp hz2 with h | h
      · exact hS.2.2 z h
      · exact hF _ (hL z h)⟩ T' rfl X'
  exact ⟨t2, st t2 a1, b1⟩
theorem mInit {own : String} {nL index nL2 fr mc ms q : Nat} {y : MethodName} {bs2 : ByteArray} {x : va_E} {Wf : Nat → (Nat → Nat) → va_W} (S : CallFix p m c bs nL s args mTbl own) (hkf : kF D ca s) (hM : mI l y bs2 nL2 fr D ca x Wf mc ms) (hk : mLk own index y bs2 nL2 none 0) (hnm : y.name = "<init>") (hi : Cond.instanceMethod y ∈ mTbl) (hR : fr + 1 ≤ R.frames ∧ 8 + (nL2 + 11) + 32 * fr ≤ R.locals) (hP : va_P D mCls (ws ++ [(q, x)]) H) (hD : va_D A (ws ++ [(q, x)])) (hS : va_S A s.heap H locs) (hA : ∀ q, s.heap.size ≤ q → A q) (hsz : ls.size = nL) (hsum : (rest.map fun v => v.category).sum ≤ 8) (hd : decode bs pc = .ok (.invokespecial index, 3)) (hcl : cells + mc ≤ R.cells ∧ slots + ms ≤ R.slots)
    (kk : ∀ (a : Nat → Nat) (H1 : Heap) (locs1 : List Loc), va_P D mCls (ws ++ Wf q a) H1 → va_D A (ws ++ Wf q a) → va_S A s.heap H1 locs1 → W p l e R s m args below meth c H1 locs1 (cells + mc) (slots + ms) Q (F0 m (pc + 3) ls rest)) : W p l e R s m args below meth c H locs cells slots Q (F0 m pc ls (.ref q :: rest)) := by
  have ht := S.2.2.2.2
  have hq : (ws ++ [(q, x)])[ws.length]? = some (q, x) := by rw [List.getElem?_append_right (Nat.le_refl _), Nat.sub_self]; rfl
  have hPc : va_P D mCls [(q, x)] H := P_mem hP (fun y hy => List.mem_append_right ws hy)
  have hDc : va_D (fun _ => True) [(q, x)] := ⟨fun i j a b h1 h2 _ => by
    have u1 := (List.getElem?_eq_some_iff.mp h1).1
    have u2 := (List.getElem?_eq_some_iff.mp h2).1
    simp only [List.length_cons, List.length_nil] at u1 u2
    omega, fun _ _ _ => trivial⟩
  exact mInit_on (cc := bs) hP hD hS hA (va_runI (index := index) (b := q) (As := []) (g := F0 m pc ls (.ref q :: rest)) (rest := rest) S (hM q H.size) ⟨callB_of 0 ht (mGood hk.2.2.1) rfl rfl rfl (ht _ hk.2.1) (ht _ hk.1) hk.2.2.2 hR, hnm, ht _ hi⟩ ⟨iPc_blind _ _ _ _ _, fun U hU hW => ⟨rfl, by rw [hU], by rw [hU]; exact hPc, hkf.warm hW, hDc⟩⟩ rfl rfl hsz rfl (lv_room hsum) hd hcl) kk
theorem mInitN {nL nL2 fr mc ms q : Nat} {bs2 : ByteArray} {x : va_E} {Wf : Nat → (Nat → Nat) → va_W} (S : CallFix p m c bs nL s args mTbl "CradleNets") (hkf : kF D ca s) (hM : mI l yX1_init bs2 nL2 fr D ca x Wf mc ms) (hcode : Cond.code yX1_init bs2 nL2 none ∈ mTbl) (hini : Cond.initialized yX1_init.cls ∈ mTbl) (hi : Cond.instanceMethod yX1_init ∈ mTbl) (hR : fr + 1 ≤ R.frames ∧ 8 + (nL2 + 11) + 32 * fr ≤ R.locals) (hP : va_P D mCls (ws ++ [(q, x)]) H) (hD : va_D A (ws ++ [(q, x)])) (hS : va_S A s.heap H locs) (hA : ∀ q, s.heap.size ≤ q → A q) (hsz : ls.size = nL) (hsum : (rest.map fun v => v.category).sum ≤ 8) (hd : decode bs pc = .ok (.invokespecial 25, 3)) (hcl : cells + mc ≤ R.cells ∧ slots + ms ≤ R.slots)
    (kk : ∀ (a : Nat → Nat) (H1 : Heap) (locs1 : List Loc), va_P D mCls (ws ++ Wf q a) H1 → va_D A (ws ++ Wf q a) → va_S A s.heap H1 locs1 → W p l e R s m args below meth c H1 locs1 (cells + mc) (slots + ms) Q (F0 m (pc + 3) ls rest)) : W p l e R s m args below meth c H locs cells slots Q (F0 m pc ls (.ref q :: rest)) := by
  have ht := S.2.2.2.2
  have hPc : va_P D mCls [(q, x)] H := P_mem hP (fun y hy => List.mem_append_right ws hy)
  have hDc : va_D (fun _ => True) [(q, x)] := ⟨fun i j a b h1 h2 _ => by
    have u1 := (List.getElem?_eq_some_iff.mp h1).1
    have u2 := (List.getElem?_eq_some_iff.mp h2).1
    simp only [List.length_cons, List.length_nil] at u1 u2
    omega, fun _ _ _ => trivial⟩
  exact mInit_on (cc := bs) hP hD hS hA (va_runIN (index := 25) (host := "CradleNets") (b := q) (As := []) (g := F0 m pc ls (.ref q :: rest)) (rest := rest) S (hM q H.size) ⟨va_cnB 0 ht (mGood hcode) rfl rfl rfl hkf.2.2.2.2 (ht _ hini) ⟨by decide +kernel, by decide +kernel, by decide +kernel⟩ hR, rfl, ht _ hi⟩ ⟨iPc_blind _ _ _ _ _, fun U hU hW => ⟨rfl, by rw [hU], by rw [hU]; exact hPc, hkf.warm hW, hDc⟩⟩ rfl rfl hsz rfl (lv_room hsum) hd hcl) kk
end KK
