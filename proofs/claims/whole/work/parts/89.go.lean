theorem lw_go {p : Program} {e : Env} {s : State} {m : MethodId} {below : List Frame} {meth : Method} {c : Code} {l : Launch} {b L : Nat} {xs : Nat → Int32} (hL : L ≤ 3072) (C0 : lw_At p s m meth c b L xs) {D : va_G} {ca : Nat → ClassId} (hkf : kF D ca s) {h0 r0 : Nat} {ax am : Nat → Nat} {H : Heap} {locs : List Loc} {ls : Array Slot} {cells slots : Nat} (hP : va_P D mCls (xnW ca h0 ax ++ mdW ca r0 am) H) (hD : va_D (fun q : Nat => s.heap.size ≤ q) (xnW ca h0 ax ++ mdW ca r0 am)) (hS : va_S (fun q : Nat => s.heap.size ≤ q) s.heap H locs) (hc : cells ≤ 600000) (hs : slots ≤ 7302250) (hl : lv_has ls 4 [(1, .ref h0), (0, .ref b)]) : W p l e room_1 s m #[Value.ref b] below meth c H locs cells slots (lw_Z below #[Value.ref b] s) (F0 m 15 ls [.ref r0]) := by
  have hx := C0.1
  have hb := C0.2.1
  rw [mdW_eq] at hP hD
  refine lv_astore_n (lv' := [(2, .ref r0), (1, .ref h0), (0, .ref b)]) hx hb dL_15 rfl hl (by decide) rfl (fun ls hl => ?_)
  refine lv_iconst (v := 0) hx hb dL_16 (by decide) ?_
  refine lv_istore_n (lv' := [(3, .int 0), (2, .ref r0), (1, .ref h0), (0, .ref b)]) hx hb dL_17 rfl hl (by decide) rfl (fun ls hl => ?_)
  refine W.widen (k := 600000) (n := 7302250) hc hs ?_
  have hD2 : va_D (fun q : Nat => s.heap.size ≤ q) (cW (up ax 0 h0) ca XW0 ++ cW (up am 0 r0) ca MW0) := hD
  exact law_loop (ax := up ax 0 h0) (am := up am 0 r0) C0 hkf.1 hL (L + 1) 0 (by omega) (by decide) XW0 MW0 IX_0 H locs ls (P_left hP) (P_mem hP (fun x hx => List.mem_append_right _ hx)) (D_left hD2) (D_right hD2) (fun j k hj hk => lw_ap hD2 j k hj hk) rfl rfl hS (lv_sub hl [3, 2, 1, 0] rfl)
