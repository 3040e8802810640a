theorem and31 (x : Int32) : 0 ≤ (x &&& 31).toInt ∧ (x &&& 31).toInt < 32 := by
  have h : (x &&& 31).toBitVec = x.toBitVec &&& 31#32 := rfl
  have h2 : (x.toBitVec &&& 31#32).toNat < 32 := by
    rw [BitVec.toNat_and]
    exact Nat.lt_of_le_of_lt Nat.and_le_right (by decide)
  have h3 : (x &&& 31).toInt = ((x.toBitVec &&& 31#32).toNat : Int) := by
    show (x &&& 31).toBitVec.toInt = _
    rw [h]
    exact BitVec.toInt_eq_toNat_of_lt (by omega)
  rw [h3]
  omega
section LW
variable {p : Program} {l : Launch} {e : Env} {s : State} {m : MethodId} {below : List Frame} {meth : Method} {c : Code} {b L : Nat} {xs : Nat → Int32} {D : va_G} {ca : Nat → ClassId} {ax am : Nat → Nat}
theorem cmp6 {L i : Nat} (hL : L ≤ 3072) (hi : i < 4000) : Int32.ofNat L - 6 < Int32.ofNat i ↔ L < i + 6 := by
  have h1 : (Int32.ofNat L).toInt = L := nI_toInt (by omega)
  have h2 : (Int32.ofNat i).toInt = i := nI_toInt (by omega)
  have h6 : (6 : Int32).toInt = 6 := rfl
  rw [Int32.lt_iff_toInt_lt, Int32.toInt_sub, h1, h2, h6, bmodI (by omega) (by omega)]
  omega
theorem lw_tail (C : lw_At p s m meth c b L xs) {i : Nat} {X M : mW} (k : LG p l e s m below meth c b D ca ax am 18 [(0, .ref b), (1, .ref (ax 0)), (2, .ref (am 0)), (3, .int (Int32.ofNat (i + 6)))] [] X M) : LG p l e s m below meth c b D ca ax am 956 [(0, .ref b), (1, .ref (ax 0)), (2, .ref (am 0)), (3, .int (Int32.ofNat i))] [] X M := by
  have hx := C.1
  have hb := C.2.1
  intro H locs ls hP hQ hD hE hN h65 h14 hS hl
  have ev : Int32.ofNat i + Int32.ofInt 6 = Int32.ofNat (i + 6) := nI_add i 6
  refine lv_iinc (v := Int32.ofNat (i + 6)) (lv' := [(3, .int (Int32.ofNat (i + 6))), (0, .ref b), (1, .ref (ax 0)), (2, .ref (am 0))]) hx hb dL_956 hl (k := 3) rfl ev (by decide) rfl (fun ls hl => ?_)
  refine lv_goto (tgt := 18) hx hb dL_959 (by decide) ?_
  exact k H locs ls hP hQ hD hE hN h65 h14 hS (lv_sub hl [1, 2, 3, 0] rfl)
theorem lw_sw (C : lw_At p s m meth c b L xs) (hK : mK D ca s) (hL : L ≤ 3072) {i : Nat} (hi : i + 6 ≤ L) {X M : mW} (hI : IX X M) (kk : ∀ X2 M2 : mW, IX X2 M2 → LG p l e s m below meth c b D ca ax am 956 [(0, .ref b), (1, .ref (ax 0)), (2, .ref (am 0)), (3, .int (Int32.ofNat i))] [] X2 M2) (x : Int32) (h0 : 0 ≤ x.toInt) : LG p l e s m below meth c b D ca ax am 33 [(0, .ref b), (1, .ref (ax 0)), (2, .ref (am 0)), (3, .int (Int32.ofNat i))] [.int x] X M := by
  have hx := C.1
  have hb := C.2.1
  intro H locs ls hP hQ hD hE hN h65 h14 hS hl
  by_cases q0 : x.toInt = 0
  · refine lv_tableIn (tgt := 140) (off := 107) hx hb dL_33 (by omega) (by omega) (by rw [q0]; rfl) (by decide) ?_
    exact lc_making C hK hL hi hI kk H locs ls hP hQ hD hE hN h65 h14 hS hl
  by_cases q1 : x.toInt = 1
  · refine lv_tableIn (tgt := 153) (off := 120) hx hb dL_33 (by omega) (by omega) (by rw [q1]; rfl) (by decide) ?_
    exact lc_out C hK hL hi hI kk H locs ls hP hQ hD hE hN h65 h14 hS hl
  by_cases q2 : x.toInt = 2
  · refine lv_tableIn (tgt := 186) (off := 153) hx hb dL_33 (by omega) (by omega) (by rw [q2]; rfl) (by decide) ?_
    exact lc_needs C hK hL hi hI kk H locs ls hP hQ hD hE hN h65 h14 hS hl
  by_cases q3 : x.toInt = 3
  · refine lv_tableIn (tgt := 229) (off := 196) hx hb dL_33 (by omega) (by omega) (by rw [q3]; rfl) (by decide) ?_
    exact lc_by C hK hL hi hI kk H locs ls hP hQ hD hE hN h65 h14 hS hl
  by_cases q4 : x.toInt = 4
  · refine lv_tableIn (tgt := 272) (off := 239) hx hb dL_33 (by omega) (by omega) (by rw [q4]; rfl) (by decide) ?_
    exact lc_emits C hK hL hi hI kk H locs ls hP hQ hD hE hN h65 h14 hS hl
  by_cases q5 : x.toInt = 5
  · refine lv_tableIn (tgt := 335) (off := 302) hx hb dL_33 (by omega) (by omega) (by rw [q5]; rfl) (by decide) ?_
    exact lc_good C hK hL hi hI kk H locs ls hP hQ hD hE hN h65 h14 hS hl
  by_cases q6 : x.toInt = 6
  · refine lv_tableIn (tgt := 378) (off := 345) hx hb dL_33 (by omega) (by omega) (by rw [q6]; rfl) (by decide) ?_
    exact lc_rule C hK hL hi hI kk H locs ls hP hQ hD hE hN h65 h14 hS hl
  by_cases q7 : x.toInt = 7
  · refine lv_tableIn (tgt := 411) (off := 378) hx hb dL_33 (by omega) (by omega) (by rw [q7]; rfl) (by decide) ?_
    exact lc_told C hK hL hi hI kk H locs ls hP hQ hD hE hN h65 h14 hS hl
  by_cases q8 : x.toInt = 8
  · refine lv_tableIn (tgt := 444) (off := 411) hx hb dL_33 (by omega) (by omega) (by rw [q8]; rfl) (by decide) ?_
    exact lc_entry C hK hL hi hI kk H locs ls hP hQ hD hE hN h65 h14 hS hl
  by_cases q9 : x.toInt = 9
  · refine lv_tableIn (tgt := 477) (off := 444) hx hb dL_33 (by omega) (by omega) (by rw [q9]; rfl) (by decide) ?_
    exact lc_worth C hK hL hi hI kk H locs ls hP hQ hD hE hN h65 h14 hS hl
  by_cases q10 : x.toInt = 10
  · refine lv_tableIn (tgt := 491) (off := 458) hx hb dL_33 (by omega) (by omega) (by rw [q10]; rfl) (by decide) ?_
    exact lc_put C hK hL hi hI kk H locs ls hP hQ hD hE hN h65 h14 hS hl
  by_cases q11 : x.toInt = 11
  · refine lv_tableIn (tgt := 534) (off := 501) hx hb dL_33 (by omega) (by omega) (by rw [q11]; rfl) (by decide) ?_
    exact lc_runs C hK hL hi hI kk H locs ls hP hQ hD hE hN h65 h14 hS hl
  by_cases q12 : x.toInt = 12
  · refine lv_tableIn (tgt := 568) (off := 535) hx hb dL_33 (by omega) (by omega) (by rw [q12]; rfl) (by decide) ?_
    exact lc_total C hK hL hi hI kk H locs ls hP hQ hD hE hN h65 h14 hS hl
  by_cases q13 : x.toInt = 13
  · refine lv_tableIn (tgt := 622) (off := 589) hx hb dL_33 (by omega) (by omega) (by rw [q13]; rfl) (by decide) ?_
    exact lc_share C hK hL hi hI kk H locs ls hP hQ hD hE hN h65 h14 hS hl
  by_cases q14 : x.toInt = 14
  · refine lv_tableIn (tgt := 666) (off := 633) hx hb dL_33 (by omega) (by omega) (by rw [q14]; rfl) (by decide) ?_
    exact lc_way C hK hL hi hI kk H locs ls hP hQ hD hE hN h65 h14 hS hl
  by_cases q15 : x.toInt = 15
  · refine lv_tableIn (tgt := 730) (off := 697) hx hb dL_33 (by omega) (by omega) (by rw [q15]; rfl) (by decide) ?_
    exact lc_sure C hK hL hi hI kk H locs ls hP hQ hD hE hN h65 h14 hS hl
  by_cases q16 : x.toInt = 16
  · refine lv_tableIn (tgt := 773) (off := 740) hx hb dL_33 (by omega) (by omega) (by rw [q16]; rfl) (by decide) ?_
    exact lc_most C hK hL hi hI kk H locs ls hP hQ hD hE hN h65 h14 hS hl
  by_cases q17 : x.toInt = 17
  · refine lv_tableIn (tgt := 806) (off := 773) hx hb dL_33 (by omega) (by omega) (by rw [q17]; rfl) (by decide) ?_
    exact lc_turned C hK hL hi hI kk H locs ls hP hQ hD hE hN h65 h14 hS hl
  by_cases q18 : x.toInt = 18
  · refine lv_tableIn (tgt := 829) (off := 796) hx hb dL_33 (by omega) (by omega) (by rw [q18]; rfl) (by decide) ?_
    exact lc_keep C hK hL hi hI kk H locs ls hP hQ hD hE hN h65 h14 hS hl
  by_cases q19 : x.toInt = 19
  · refine lv_tableIn (tgt := 842) (off := 809) hx hb dL_33 (by omega) (by omega) (by rw [q19]; rfl) (by decide) ?_
    exact lc_recall C hK hL hi hI kk H locs ls hP hQ hD hE hN h65 h14 hS hl
  by_cases q20 : x.toInt = 20
  · refine lv_tableIn (tgt := 865) (off := 832) hx hb dL_33 (by omega) (by omega) (by rw [q20]; rfl) (by decide) ?_
    exact lc_blame C hK hL hi hI kk H locs ls hP hQ hD hE hN h65 h14 hS hl
  by_cases q21 : x.toInt = 21
  · refine lv_tableIn (tgt := 919) (off := 886) hx hb dL_33 (by omega) (by omega) (by rw [q21]; rfl) (by decide) ?_
    exact lc_count C hK hL hi hI kk H locs ls hP hQ hD hE hN h65 h14 hS hl
  by_cases q22 : x.toInt = 22
  · refine lv_tableIn (tgt := 942) (off := 909) hx hb dL_33 (by omega) (by omega) (by rw [q22]; rfl) (by decide) ?_
    exact lc_digest C hK hL hi hI kk H locs ls hP hQ hD hE hN h65 h14 hS hl
  refine lv_tableOut (tgt := 956) hx hb dL_33 (Or.inr (by omega)) (by decide) ?_
  exact kk X M hI H locs ls hP hQ hD hE hN h65 h14 hS hl
theorem law_loop (C : lw_At p s m meth c b L xs) (hK : mK D ca s) (hL : L ≤ 3072) : ∀ (k i : Nat), L < i + k → i < 4000 → ∀ (X M : mW), IX X M → LG p l e s m below meth c b D ca ax am 18 [(0, .ref b), (1, .ref (ax 0)), (2, .ref (am 0)), (3, .int (Int32.ofNat i))] [] X M := by
  have hx := C.1
  have hb := C.2.1
  have hX := C.2.2.2.2.2.2.1
  have hbl := C.2.2.2.2.2.2.2.1
  have hend : ∀ (i : Nat) (X M : mW), LG p l e s m below meth c b D ca ax am 962 [(0, .ref b), (1, .ref (ax 0)), (2, .ref (am 0)), (3, .int (Int32.ofNat i))] [] X M := by
    intro i X M H locs ls hP hQ hD hE hN h65 h14 hS hl
    refine lv_iconst (v := 1) hx hb dL_962 (by decide) ?_
    refine va_forget hS.2.2 ?_
    exact lw_ret hx hb C.2.2.1 C.2.2.2.2.2.2.2.2.1 dL_963
  intro k
  induction k with
  | zero =>
    intro i h1 h2 X M hI H locs ls hP hQ hD hE hN h65 h14 hS hl
    refine lv_iload_n hx hb dL_18 rfl (lv_at hl 3 rfl) ?_
    refine lv_aload_n hx hb dL_19 rfl (lv_at hl 0 rfl) ?_
    refine va_slen hx hb hX hbl (A := fun q : Nat => s.heap.size ≤ q) (Nat.not_le.mpr hbl) hS dL_20 ?_
    refine lv_bipush (v := 6) hx hb dL_21 (by decide) ?_
    refine lv_isub hx hb dL_23 ?_
    refine lv_icmp_gt (tgt := 962) hx hb dL_24 (by decide) (fun _ => ?_) (fun z => absurd ((cmp6 hL h2).mpr (by omega)) z)
    exact hend i X M H locs ls hP hQ hD hE hN h65 h14 hS hl
  | succ k ih =>
    intro i h1 h2 X M hI H locs ls hP hQ hD hE hN h65 h14 hS hl
    refine lv_iload_n hx hb dL_18 rfl (lv_at hl 3 rfl) ?_
    refine lv_aload_n hx hb dL_19 rfl (lv_at hl 0 rfl) ?_
    refine va_slen hx hb hX hbl (A := fun q : Nat => s.heap.size ≤ q) (Nat.not_le.mpr hbl) hS dL_20 ?_
    refine lv_bipush (v := 6) hx hb dL_21 (by decide) ?_
    refine lv_isub hx hb dL_23 ?_
    refine lv_icmp_gt (tgt := 962) hx hb dL_24 (by decide) (fun _ => ?_) (fun z => ?_)
    · exact hend i X M H locs ls hP hQ hD hE hN h65 h14 hS hl
    · have hi : i + 6 ≤ L := by
        rcases Nat.lt_or_ge L (i + 6) with q | q
        · exact absurd ((cmp6 hL h2).mpr q) z
        · exact q
      refine lv_aload_n hx hb dL_27 rfl (lv_at hl 0 rfl) ?_
      refine lv_iload_n hx hb dL_28 rfl (lv_at hl 3 rfl) ?_
      refine va_sld hx hb hX hbl (A := fun q : Nat => s.heap.size ≤ q) (Nat.not_le.mpr hbl) hS (vp_in_nI (show i < L by omega) (by omega)) dL_29 ?_
      refine lv_bipush (v := 31) hx hb dL_30 (by decide) ?_
      refine lv_iand hx hb dL_32 ?_
      exact lw_sw C hK hL hi hI (fun X2 M2 hI2 => lw_tail C (ih (i + 6) (by omega) (by omega) X2 M2 hI2)) _ (and31 _).1 H locs ls hP hQ hD hE hN h65 h14 hS hl
end LW
