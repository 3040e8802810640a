theorem arr_of {s : State} {cA comp : ClassId} {k : Class} {ty : FieldType} (h1 : s.vm.classes[cA]? = some k) (h2 : k.kind = .array comp ty) : ArrOfT s cA ty := fun n z => ⟨(fun k h => by cases h), k, h1, comp, h2⟩
theorem va_AOA.of {ty : FieldType} {A : Array Value} {U : State} (h : (Cond.arrayOver (.array ty)).before A U = true) : va_AOA ty U := h
theorem frB_eq : ∀ p : Nat, p < 23 → frB p = frR p := by decide
theorem RI_0 : RI 0 0 (fun _ _ => frB) (fun _ _ _ => 0) (fun _ _ => 0) :=
  ⟨by decide, by decide, ⟨fun i h => absurd h (Nat.not_lt_zero i), fun i _ _ => ⟨fun p hp => frB_eq p hp, fun _ _ _ => rfl⟩⟩, fun v h => absurd h (Nat.not_lt_zero v), fun _ _ _ _ => ⟨(by show (0 : Int) ≤ 0; decide), (by show (0 : Int) ≤ 20; decide)⟩⟩
theorem IX_0 : IX XW0 MW0 := ix_mk RI_0
theorem D_right {A : Nat → Prop} {w1 w2 : va_W} (h : va_D A (w1 ++ w2)) : va_D A w2 := by
  have key : ∀ (k : Nat) (q : Nat × va_E), w2[k]? = some q → (w1 ++ w2)[w1.length + k]? = some q := fun k q hk => by
    rw [List.getElem?_append_right (by omega), show w1.length + k - w1.length = k by omega]; exact hk
  refine ⟨fun i j p q hi hj e => ?_, fun k q hk => h.2 _ q (key k q hk)⟩
  have := h.1 _ _ p q (key i p hi) (key j q hj) e
  omega
theorem lw_ap {A : Nat → Prop} {ax am : Nat → Nat} {ca : Nat → ClassId} {X M : mW} (h : va_D A (cW ax ca X ++ cW am ca M)) : ∀ j k : Nat, j < X.length → k < M.length → ax j ≠ am k := by
  intro j k hj hk e
  have h1 : (cW ax ca X ++ cW am ca M)[j]? = some (ax j, cE ax ca X[j]) := by
    rw [List.getElem?_append_left (by rw [cW_len]; exact hj)]
    exact cW_at (List.getElem?_eq_getElem hj)
  have h2 : (cW ax ca X ++ cW am ca M)[X.length + k]? = some (am k, cE am ca M[k]) := by
    rw [List.getElem?_append_right (by rw [cW_len]; omega), cW_len, show X.length + k - X.length = k by omega]
    exact cW_at (List.getElem?_eq_getElem hk)
  have := h.1 _ _ _ _ h1 h2 e
  omega
theorem lw_kF {p : Program} {s : State} {m : MethodId} {meth : Method} {c : Code} {b L : Nat} {xs : Nat → Int32} (C0 : lw_At p s m meth c b L xs) : ∃ (D : va_G) (ca : Nat → ClassId), kF D ca s := by
  have hts := C0.2.2.2.2.2.1
  have ht : ∀ w ∈ mTbl, w.before #[Value.ref b] s = true := fun w hw => hts w (List.mem_filter.mp hw).1
  obtain ⟨c0, i0, hK0⟩ := u_known (C := RX0) (T := TX0) (N := 1) (n := 1) ht mX0 (ht (.instantiable RX0 1) (by decide +kernel))
  obtain ⟨c1, i1, hK1⟩ := u_known (C := RX1) (T := TX1) (N := 7) (n := 7) ht mX1 (ht (.instantiable RX1 7) (by decide +kernel))
  obtain ⟨c2, i2, hK2⟩ := u_known (C := RX2) (T := TX2) (N := 8) (n := 8) ht mX2 (ht (.instantiable RX2 8) (by decide +kernel))
  obtain ⟨c3, i3, hK3⟩ := u_known (C := RX3) (T := TX3) (N := 18) (n := 18) ht mX3 (ht (.instantiable RX3 18) (by decide +kernel))
  have o2 := hts (.arrayOver (.array .int)) (by decide +kernel)
  have o3 := hts (.arrayOver (.array .long)) (by decide +kernel)
  have o4 := hts (.arrayOver (.object "CradleNets$Book")) (by decide +kernel)
  obtain ⟨y0, k0, m0, f0, g0, j0⟩ := Cond.arrayClass_spec (hts (.arrayClass .int) (by decide +kernel))
  obtain ⟨y1, k1, m1, f1, g1, j1⟩ := Cond.arrayClass_spec (hts (.arrayClass .long) (by decide +kernel))
  obtain ⟨m2, y2, k2, f2, u2, g2, j2, n2⟩ := Jvm.Stand.arrayOver_specB o2
  obtain ⟨m3, y3, k3, f3, u3, g3, j3, n3⟩ := Jvm.Stand.arrayOver_specB o3
  obtain ⟨m4, y4, k4, f4, u4, g4, j4, n4⟩ := Cond.arrayOver_spec o4
  refine ⟨(fun k => match k with | 0 => c0 | 1 => c1 | 2 => c2 | _ => c3, fun k => match k with | 0 => i0 | 1 => i1 | 2 => i2 | _ => i3), fun k => match k with | 0 => y0 | 1 => y1 | 2 => y2 | 3 => y3 | _ => y4, ⟨⟨fun k q hq => ?_, fun k q hq => ?_⟩, va_Nw.of rfl (hts mNest (by decide +kernel))⟩, va_AOA.of o2, va_AOA.of o3, va_AO.of o4, va_Nw.of rfl (hts mNest2 (by decide +kernel))⟩
  · match k, hq with
    | 0, hq => cases hq; exact hK0
    | 1, hq => cases hq; exact hK1
    | 2, hq => cases hq; exact hK2
    | 3, hq => cases hq; exact hK3
    | k + 4, hq => simp [mCls] at hq
  · match k, hq with
    | 0, hq => cases hq; exact ⟨arr_of g0 j0, f0⟩
    | 1, hq => cases hq; exact ⟨arr_of g1 j1, f1⟩
    | 2, hq => cases hq; exact ⟨arr_of g2 j2, n2⟩
    | 3, hq => cases hq; exact ⟨arr_of g3 j3, n3⟩
    | 4, hq => cases hq; exact ⟨arr_of g4 j4, k4, m4, g4, j4, f4, n4⟩
    | k + 5, hq => simp [mTys] at hq
