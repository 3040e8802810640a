def XW0 : mW := XW 0 0 1 1 0 (fun _ => 0) (fun _ => 0) (fun _ => 0) (fun _ _ => 0) (fun _ _ => frB) (fun _ _ => 0) (fun _ => 0)
def xnW (ca : Nat → ClassId) (h0 : Nat) (a : Nat → Nat) : va_W := cW (up a 0 h0) ca XW0
theorem P_cons {D : va_G} {cl : List vw_C} {w : va_W} {x y : Nat × va_E} {H : Heap} (h : va_P D cl (x :: (w ++ [y])) H) : va_P D cl (x :: y :: w) H := P_mem h (fun u hu => by
  rcases List.mem_cons.mp hu with e | hu
  · rw [e]; exact List.mem_cons_self
  · rcases List.mem_cons.mp hu with e | hu
    · rw [e]; exact List.mem_cons_of_mem _ (List.mem_append_right w (List.mem_cons_self))
    · exact List.mem_cons_of_mem _ (List.mem_append_left _ hu))
theorem get_app {x y z : Nat × va_E} {R t : va_W} : (x :: y :: (R ++ (z :: t)))[R.length + 2]? = some z := by
  show (R ++ (z :: t))[R.length]? = some z
  rw [List.getElem?_append_right (Nat.le_refl _), Nat.sub_self]
  rfl
theorem kf6 (b0 b1 b2 b3 b4 b5 : Nat) : va_up (va_up (va_up (va_up (va_up (va_up (fun _ => none) (0 : Int32).toNatClampNeg (some b0)) (1 : Int32).toNatClampNeg (some b1)) (2 : Int32).toNatClampNeg (some b2)) (3 : Int32).toNatClampNeg (some b3)) (4 : Int32).toNatClampNeg (some b4)) (5 : Int32).toNatClampNeg (some b5) = fun j => ([b0, b1, b2, b3, b4, b5] : List Nat)[j]? := by
  funext j
  rcases (show j = 0 ∨ j = 1 ∨ j = 2 ∨ j = 3 ∨ j = 4 ∨ j = 5 ∨ 6 ≤ j by omega) with e | e | e | e | e | e | e
  · subst e; rfl
  · subst e; rfl
  · subst e; rfl
  · subst e; rfl
  · subst e; rfl
  · subst e; rfl
  · have h : ∀ k : Nat, k < 6 → ¬ j = k := fun k hk => by omega
    show (if j = 5 then some b5 else if j = 4 then some b4 else if j = 3 then some b3 else if j = 2 then some b2 else if j = 1 then some b1 else if j = 0 then some b0 else none) = _
    rw [if_neg (h 5 (by decide)), if_neg (h 4 (by decide)), if_neg (h 3 (by decide)), if_neg (h 2 (by decide)), if_neg (h 1 (by decide)), if_neg (h 0 (by decide))]
    exact (List.getElem?_eq_none (by simpa using e)).symm
def cWo (ad : Nat → Nat) (ca : Nat → ClassId) : Nat → mW → va_W
  | _, [] => []
  | i, x :: t => (ad i, cE ad ca x) :: cWo ad ca (i + 1) t
theorem cW_oi (ad : Nat → Nat) (ca : Nat → ClassId) : ∀ (w : mW) (i : Nat), w.mapIdx (fun k x => (ad (k + i), cE ad ca x)) = cWo ad ca i w
  | [], _ => rfl
  | x :: t, i => by
    rw [List.mapIdx_cons]
    show (ad (0 + i), cE ad ca x) :: t.mapIdx (fun k x => (ad (k + 1 + i), cE ad ca x)) = (ad i, cE ad ca x) :: cWo ad ca (i + 1) t
    rw [Nat.zero_add, ← cW_oi ad ca t (i + 1)]
    refine congrArg (fun f => (ad i, cE ad ca x) :: t.mapIdx f) (funext fun k => funext fun y => ?_)
    rw [Nat.add_assoc, Nat.add_comm 1 i]
theorem cW_o (ad : Nat → Nat) (ca : Nat → ClassId) (w : mW) : cW ad ca w = cWo ad ca 0 w := cW_oi ad ca w 0
theorem up_eta (a : Nat → Nat) : up a 0 (a 0) = a := by
  funext k
  by_cases h : k = 0
  · subst h; exact up_at a 0 _
  · exact up_ne h
set_option maxRecDepth 100000 in
theorem xw_raw (ax : Nat → Nat) (ca : Nat → ClassId) : cW ax ca XW0 = ((ax 0, .inr (2, [.ref (ax 10), .ref (ax 16), .ref (ax 28), .ref (ax 1), .ref (ax 22), .ref (ax 27), .int 0, .int 0])) ::
    (ax 1, .inr (1, [.ref (ax 2), .long 1, .long 1, .ref (ax 3), .ref (ax 8), .ref (ax 9), .int 0])) ::
    (ax 2, zL ca 4) ::
    (ax 3, cE ax ca (eR 3 [4, 5, 6, 7])) ::
    (ax 4, zL ca 4) ::
    (ax 5, zL ca 4) ::
    (ax 6, zL ca 4) ::
    (ax 7, zL ca 4) ::
    (ax 8, zL ca 4) ::
    (ax 9, zL ca 16) ::
    (ax 10, .inr (0, [.ref (ax 11)])) ::
    (ax 11, cE ax ca (eR 2 [12, 13, 14, 15])) ::
    (ax 12, cE id ca (eI23 frB)) ::
    (ax 13, cE id ca (eI23 frB)) ::
    (ax 14, cE id ca (eI23 frB)) ::
    (ax 15, cE id ca (eI23 frB)) ::
    (ax 16, .inr (0, [.ref (ax 17)])) ::
    (ax 17, cE ax ca (eR 2 [18, 19, 20, 21])) ::
    (ax 18, cE id ca (eI23 frB)) ::
    (ax 19, cE id ca (eI23 frB)) ::
    (ax 20, cE id ca (eI23 frB)) ::
    (ax 21, cE id ca (eI23 frB)) ::
    (ax 22, cE ax ca (eR 2 [23, 24, 25, 26])) ::
    (ax 23, zI ca 4) ::
    (ax 24, zI ca 4) ::
    (ax 25, zI ca 4) ::
    (ax 26, zI ca 4) ::
    (ax 27, zI ca 4) ::
    (ax 28, cE ax ca (eR 4 [29, 35, 41, 47, 53, 59])) ::
    (ax 29, .inr (0, [.ref (ax 30)])) ::
    (ax 30, cE ax ca (eR 2 [31, 32, 33, 34])) ::
    (ax 31, cE id ca (eI23 frB)) ::
    (ax 32, cE id ca (eI23 frB)) ::
    (ax 33, cE id ca (eI23 frB)) ::
    (ax 34, cE id ca (eI23 frB)) ::
    (ax 35, .inr (0, [.ref (ax 36)])) ::
    (ax 36, cE ax ca (eR 2 [37, 38, 39, 40])) ::
    (ax 37, cE id ca (eI23 frB)) ::
    (ax 38, cE id ca (eI23 frB)) ::
    (ax 39, cE id ca (eI23 frB)) ::
    (ax 40, cE id ca (eI23 frB)) ::
    (ax 41, .inr (0, [.ref (ax 42)])) ::
    (ax 42, cE ax ca (eR 2 [43, 44, 45, 46])) ::
    (ax 43, cE id ca (eI23 frB)) ::
    (ax 44, cE id ca (eI23 frB)) ::
    (ax 45, cE id ca (eI23 frB)) ::
    (ax 46, cE id ca (eI23 frB)) ::
    (ax 47, .inr (0, [.ref (ax 48)])) ::
    (ax 48, cE ax ca (eR 2 [49, 50, 51, 52])) ::
    (ax 49, cE id ca (eI23 frB)) ::
    (ax 50, cE id ca (eI23 frB)) ::
    (ax 51, cE id ca (eI23 frB)) ::
    (ax 52, cE id ca (eI23 frB)) ::
    (ax 53, .inr (0, [.ref (ax 54)])) ::
    (ax 54, cE ax ca (eR 2 [55, 56, 57, 58])) ::
    (ax 55, cE id ca (eI23 frB)) ::
    (ax 56, cE id ca (eI23 frB)) ::
    (ax 57, cE id ca (eI23 frB)) ::
    (ax 58, cE id ca (eI23 frB)) ::
    (ax 59, .inr (0, [.ref (ax 60)])) ::
    (ax 60, cE ax ca (eR 2 [61, 62, 63, 64])) ::
    (ax 61, cE id ca (eI23 frB)) ::
    (ax 62, cE id ca (eI23 frB)) ::
    (ax 63, cE id ca (eI23 frB)) ::
    (ax 64, cE id ca (eI23 frB)) :: []) := by
  rw [cW_o]
  rfl
theorem xw_cells (ax : Nat → Nat) (ca : Nat → ClassId) : cW ax ca XW0 = ((ax 0, .inr (2, [.ref (ax 10), .ref (ax 16), .ref (ax 28), .ref (ax 1), .ref (ax 22), .ref (ax 27), .int 0, .int 0])) ::
    (ax 1, .inr (1, [.ref (ax 2), .long 1, .long 1, .ref (ax 3), .ref (ax 8), .ref (ax 9), .int 0])) ::
    (ax 2, zL ca 4) ::
    (ax 3, oR ca 3 [ax 4, ax 5, ax 6, ax 7]) ::
    (ax 4, zL ca 4) ::
    (ax 5, zL ca 4) ::
    (ax 6, zL ca 4) ::
    (ax 7, zL ca 4) ::
    (ax 8, zL ca 4) ::
    (ax 9, zL ca 16) ::
    (ax 10, .inr (0, [.ref (ax 11)])) ::
    (ax 11, oR ca 2 [ax 12, ax 13, ax 14, ax 15]) ::
    (ax 12, cE id ca (eI23 frB)) ::
    (ax 13, cE id ca (eI23 frB)) ::
    (ax 14, cE id ca (eI23 frB)) ::
    (ax 15, cE id ca (eI23 frB)) ::
    (ax 16, .inr (0, [.ref (ax 17)])) ::
    (ax 17, oR ca 2 [ax 18, ax 19, ax 20, ax 21]) ::
    (ax 18, cE id ca (eI23 frB)) ::
    (ax 19, cE id ca (eI23 frB)) ::
    (ax 20, cE id ca (eI23 frB)) ::
    (ax 21, cE id ca (eI23 frB)) ::
    (ax 22, oR ca 2 [ax 23, ax 24, ax 25, ax 26]) ::
    (ax 23, zI ca 4) ::
    (ax 24, zI ca 4) ::
    (ax 25, zI ca 4) ::
    (ax 26, zI ca 4) ::
    (ax 27, zI ca 4) ::
    (ax 28, oR ca 4 [ax 29, ax 35, ax 41, ax 47, ax 53, ax 59]) ::
    (ax 29, .inr (0, [.ref (ax 30)])) ::
    (ax 30, oR ca 2 [ax 31, ax 32, ax 33, ax 34]) ::
    (ax 31, cE id ca (eI23 frB)) ::
    (ax 32, cE id ca (eI23 frB)) ::
    (ax 33, cE id ca (eI23 frB)) ::
    (ax 34, cE id ca (eI23 frB)) ::
    (ax 35, .inr (0, [.ref (ax 36)])) ::
    (ax 36, oR ca 2 [ax 37, ax 38, ax 39, ax 40]) ::
    (ax 37, cE id ca (eI23 frB)) ::
    (ax 38, cE id ca (eI23 frB)) ::
    (ax 39, cE id ca (eI23 frB)) ::
    (ax 40, cE id ca (eI23 frB)) ::
    (ax 41, .inr (0, [.ref (ax 42)])) ::
    (ax 42, oR ca 2 [ax 43, ax 44, ax 45, ax 46]) ::
    (ax 43, cE id ca (eI23 frB)) ::
    (ax 44, cE id ca (eI23 frB)) ::
    (ax 45, cE id ca (eI23 frB)) ::
    (ax 46, cE id ca (eI23 frB)) ::
    (ax 47, .inr (0, [.ref (ax 48)])) ::
    (ax 48, oR ca 2 [ax 49, ax 50, ax 51, ax 52]) ::
    (ax 49, cE id ca (eI23 frB)) ::
    (ax 50, cE id ca (eI23 frB)) ::
    (ax 51, cE id ca (eI23 frB)) ::
    (ax 52, cE id ca (eI23 frB)) ::
    (ax 53, .inr (0, [.ref (ax 54)])) ::
    (ax 54, oR ca 2 [ax 55, ax 56, ax 57, ax 58]) ::
    (ax 55, cE id ca (eI23 frB)) ::
    (ax 56, cE id ca (eI23 frB)) ::
    (ax 57, cE id ca (eI23 frB)) ::
    (ax 58, cE id ca (eI23 frB)) ::
    (ax 59, .inr (0, [.ref (ax 60)])) ::
    (ax 60, oR ca 2 [ax 61, ax 62, ax 63, ax 64]) ::
    (ax 61, cE id ca (eI23 frB)) ::
    (ax 62, cE id ca (eI23 frB)) ::
    (ax 63, cE id ca (eI23 frB)) ::
    (ax 64, cE id ca (eI23 frB)) :: []) := by
  rw [xw_raw]
  rw [cE_R ax ca 3 [4, 5, 6, 7], cE_R ax ca 2 [12, 13, 14, 15], cE_R ax ca 2 [18, 19, 20, 21], cE_R ax ca 2 [23, 24, 25, 26], cE_R ax ca 4 [29, 35, 41, 47, 53, 59], cE_R ax ca 2 [31, 32, 33, 34], cE_R ax ca 2 [37, 38, 39, 40], cE_R ax ca 2 [43, 44, 45, 46], cE_R ax ca 2 [49, 50, 51, 52], cE_R ax ca 2 [55, 56, 57, 58], cE_R ax ca 2 [61, 62, 63, 64]]
  rfl
set_option maxHeartbeats 4000000 in
set_option maxRecDepth 100000 in
theorem xn_end {D : va_G} {ca : Nat → ClassId} {H : Heap} {A : Nat → Prop} {h0 qk n0 b0 b1 b2 b3 b4 b5 b6 b7 g0 g1 g2 g3 g4 d0 : Nat} {an a0 a1 a2 a3 a4 a5 a6 a7 : Nat → Nat} (hP : va_P D mCls ((h0, .inr (2, [.ref b0, .ref b1, .ref qk, .ref n0, .ref g0, .ref d0, .int 0, .int 0])) ::
    (qk, oR ca 4 [b2, b3, b4, b5, b6, b7]) ::
    (b0, .inr (0, [.ref (a0 1)])) ::
    (a0 1, oR ca 2 [a0 2, a0 3, a0 4, a0 5]) ::
    (a0 2, cE id ca (eI23 frB)) ::
    (a0 3, cE id ca (eI23 frB)) ::
    (a0 4, cE id ca (eI23 frB)) ::
    (a0 5, cE id ca (eI23 frB)) ::
    (b1, .inr (0, [.ref (a1 1)])) ::
    (a1 1, oR ca 2 [a1 2, a1 3, a1 4, a1 5]) ::
    (a1 2, cE id ca (eI23 frB)) ::
    (a1 3, cE id ca (eI23 frB)) ::
    (a1 4, cE id ca (eI23 frB)) ::
    (a1 5, cE id ca (eI23 frB)) ::
    (n0, .inr (1, [.ref (an 1), .long 1, .long 1, .ref (an 2), .ref (an 7), .ref (an 8), .int 0])) ::
    (an 1, zL ca 4) ::
    (an 2, oR ca 3 [an 3, an 4, an 5, an 6]) ::
    (an 3, zL ca 4) ::
    (an 4, zL ca 4) ::
    (an 5, zL ca 4) ::
    (an 6, zL ca 4) ::
    (an 7, zL ca 4) ::
    (an 8, zL ca 16) ::
    (g0, oR ca 2 [g1, g2, g3, g4]) ::
    (g1, zI ca 4) ::
    (g2, zI ca 4) ::
    (g3, zI ca 4) ::
    (g4, zI ca 4) ::
    (d0, zI ca 4) ::
    (b2, .inr (0, [.ref (a2 1)])) ::
    (a2 1, oR ca 2 [a2 2, a2 3, a2 4, a2 5]) ::
    (a2 2, cE id ca (eI23 frB)) ::
    (a2 3, cE id ca (eI23 frB)) ::
    (a2 4, cE id ca (eI23 frB)) ::
    (a2 5, cE id ca (eI23 frB)) ::
    (b3, .inr (0, [.ref (a3 1)])) ::
    (a3 1, oR ca 2 [a3 2, a3 3, a3 4, a3 5]) ::
    (a3 2, cE id ca (eI23 frB)) ::
    (a3 3, cE id ca (eI23 frB)) ::
    (a3 4, cE id ca (eI23 frB)) ::
    (a3 5, cE id ca (eI23 frB)) ::
    (b4, .inr (0, [.ref (a4 1)])) ::
    (a4 1, oR ca 2 [a4 2, a4 3, a4 4, a4 5]) ::
    (a4 2, cE id ca (eI23 frB)) ::
    (a4 3, cE id ca (eI23 frB)) ::
    (a4 4, cE id ca (eI23 frB)) ::
    (a4 5, cE id ca (eI23 frB)) ::
    (b5, .inr (0, [.ref (a5 1)])) ::
    (a5 1, oR ca 2 [a5 2, a5 3, a5 4, a5 5]) ::
    (a5 2, cE id ca (eI23 frB)) ::
    (a5 3, cE id ca (eI23 frB)) ::
    (a5 4, cE id ca (eI23 frB)) ::
    (a5 5, cE id ca (eI23 frB)) ::
    (b6, .inr (0, [.ref (a6 1)])) ::
    (a6 1, oR ca 2 [a6 2, a6 3, a6 4, a6 5]) ::
    (a6 2, cE id ca (eI23 frB)) ::
    (a6 3, cE id ca (eI23 frB)) ::
    (a6 4, cE id ca (eI23 frB)) ::
    (a6 5, cE id ca (eI23 frB)) ::
    (b7, .inr (0, [.ref (a7 1)])) ::
    (a7 1, oR ca 2 [a7 2, a7 3, a7 4, a7 5]) ::
    (a7 2, cE id ca (eI23 frB)) ::
    (a7 3, cE id ca (eI23 frB)) ::
    (a7 4, cE id ca (eI23 frB)) ::
    (a7 5, cE id ca (eI23 frB)) :: []) H) (hD : va_D A ((h0, .inr (2, [.ref b0, .ref b1, .ref qk, .ref n0, .ref g0, .ref d0, .int 0, .int 0])) ::
    (qk, oR ca 4 [b2, b3, b4, b5, b6, b7]) ::
    (b0, .inr (0, [.ref (a0 1)])) ::
    (a0 1, oR ca 2 [a0 2, a0 3, a0 4, a0 5]) ::
    (a0 2, cE id ca (eI23 frB)) ::
    (a0 3, cE id ca (eI23 frB)) ::
    (a0 4, cE id ca (eI23 frB)) ::
    (a0 5, cE id ca (eI23 frB)) ::
    (b1, .inr (0, [.ref (a1 1)])) ::
    (a1 1, oR ca 2 [a1 2, a1 3, a1 4, a1 5]) ::
    (a1 2, cE id ca (eI23 frB)) ::
    (a1 3, cE id ca (eI23 frB)) ::
    (a1 4, cE id ca (eI23 frB)) ::
    (a1 5, cE id ca (eI23 frB)) ::
    (n0, .inr (1, [.ref (an 1), .long 1, .long 1, .ref (an 2), .ref (an 7), .ref (an 8), .int 0])) ::
    (an 1, zL ca 4) ::
    (an 2, oR ca 3 [an 3, an 4, an 5, an 6]) ::
    (an 3, zL ca 4) ::
    (an 4, zL ca 4) ::
    (an 5, zL ca 4) ::
    (an 6, zL ca 4) ::
    (an 7, zL ca 4) ::
    (an 8, zL ca 16) ::
    (g0, oR ca 2 [g1, g2, g3, g4]) ::
    (g1, zI ca 4) ::
    (g2, zI ca 4) ::
    (g3, zI ca 4) ::
    (g4, zI ca 4) ::
    (d0, zI ca 4) ::
    (b2, .inr (0, [.ref (a2 1)])) ::
    (a2 1, oR ca 2 [a2 2, a2 3, a2 4, a2 5]) ::
    (a2 2, cE id ca (eI23 frB)) ::
    (a2 3, cE id ca (eI23 frB)) ::
    (a2 4, cE id ca (eI23 frB)) ::
    (a2 5, cE id ca (eI23 frB)) ::
    (b3, .inr (0, [.ref (a3 1)])) ::
    (a3 1, oR ca 2 [a3 2, a3 3, a3 4, a3 5]) ::
    (a3 2, cE id ca (eI23 frB)) ::
    (a3 3, cE id ca (eI23 frB)) ::
    (a3 4, cE id ca (eI23 frB)) ::
    (a3 5, cE id ca (eI23 frB)) ::
    (b4, .inr (0, [.ref (a4 1)])) ::
    (a4 1, oR ca 2 [a4 2, a4 3, a4 4, a4 5]) ::
    (a4 2, cE id ca (eI23 frB)) ::
    (a4 3, cE id ca (eI23 frB)) ::
    (a4 4, cE id ca (eI23 frB)) ::
    (a4 5, cE id ca (eI23 frB)) ::
    (b5, .inr (0, [.ref (a5 1)])) ::
    (a5 1, oR ca 2 [a5 2, a5 3, a5 4, a5 5]) ::
    (a5 2, cE id ca (eI23 frB)) ::
    (a5 3, cE id ca (eI23 frB)) ::
    (a5 4, cE id ca (eI23 frB)) ::
    (a5 5, cE id ca (eI23 frB)) ::
    (b6, .inr (0, [.ref (a6 1)])) ::
    (a6 1, oR ca 2 [a6 2, a6 3, a6 4, a6 5]) ::
    (a6 2, cE id ca (eI23 frB)) ::
    (a6 3, cE id ca (eI23 frB)) ::
    (a6 4, cE id ca (eI23 frB)) ::
    (a6 5, cE id ca (eI23 frB)) ::
    (b7, .inr (0, [.ref (a7 1)])) ::
    (a7 1, oR ca 2 [a7 2, a7 3, a7 4, a7 5]) ::
    (a7 2, cE id ca (eI23 frB)) ::
    (a7 3, cE id ca (eI23 frB)) ::
    (a7 4, cE id ca (eI23 frB)) ::
    (a7 5, cE id ca (eI23 frB)) :: [])) : ∃ ax : Nat → Nat, va_P D mCls (xnW ca h0 ax) H ∧ va_D A (xnW ca h0 ax) := by
  have hP := hP.sub (ws' := ((h0, .inr (2, [.ref b0, .ref b1, .ref qk, .ref n0, .ref g0, .ref d0, .int 0, .int 0])) ::
    (n0, .inr (1, [.ref (an 1), .long 1, .long 1, .ref (an 2), .ref (an 7), .ref (an 8), .int 0])) ::
    (an 1, zL ca 4) ::
    (an 2, oR ca 3 [an 3, an 4, an 5, an 6]) ::
    (an 3, zL ca 4) ::
    (an 4, zL ca 4) ::
    (an 5, zL ca 4) ::
    (an 6, zL ca 4) ::
    (an 7, zL ca 4) ::
    (an 8, zL ca 16) ::
    (b0, .inr (0, [.ref (a0 1)])) ::
    (a0 1, oR ca 2 [a0 2, a0 3, a0 4, a0 5]) ::
    (a0 2, cE id ca (eI23 frB)) ::
    (a0 3, cE id ca (eI23 frB)) ::
    (a0 4, cE id ca (eI23 frB)) ::
    (a0 5, cE id ca (eI23 frB)) ::
    (b1, .inr (0, [.ref (a1 1)])) ::
    (a1 1, oR ca 2 [a1 2, a1 3, a1 4, a1 5]) ::
    (a1 2, cE id ca (eI23 frB)) ::
    (a1 3, cE id ca (eI23 frB)) ::
    (a1 4, cE id ca (eI23 frB)) ::
    (a1 5, cE id ca (eI23 frB)) ::
    (g0, oR ca 2 [g1, g2, g3, g4]) ::
    (g1, zI ca 4) ::
    (g2, zI ca 4) ::
    (g3, zI ca 4) ::
    (g4, zI ca 4) ::
    (d0, zI ca 4) ::
    (qk, oR ca 4 [b2, b3, b4, b5, b6, b7]) ::
    (b2, .inr (0, [.ref (a2 1)])) ::
    (a2 1, oR ca 2 [a2 2, a2 3, a2 4, a2 5]) ::
    (a2 2, cE id ca (eI23 frB)) ::
    (a2 3, cE id ca (eI23 frB)) ::
    (a2 4, cE id ca (eI23 frB)) ::
    (a2 5, cE id ca (eI23 frB)) ::
    (b3, .inr (0, [.ref (a3 1)])) ::
    (a3 1, oR ca 2 [a3 2, a3 3, a3 4, a3 5]) ::
    (a3 2, cE id ca (eI23 frB)) ::
    (a3 3, cE id ca (eI23 frB)) ::
    (a3 4, cE id ca (eI23 frB)) ::
    (a3 5, cE id ca (eI23 frB)) ::
    (b4, .inr (0, [.ref (a4 1)])) ::
    (a4 1, oR ca 2 [a4 2, a4 3, a4 4, a4 5]) ::
    (a4 2, cE id ca (eI23 frB)) ::
    (a4 3, cE id ca (eI23 frB)) ::
    (a4 4, cE id ca (eI23 frB)) ::
    (a4 5, cE id ca (eI23 frB)) ::
    (b5, .inr (0, [.ref (a5 1)])) ::
    (a5 1, oR ca 2 [a5 2, a5 3, a5 4, a5 5]) ::
    (a5 2, cE id ca (eI23 frB)) ::
    (a5 3, cE id ca (eI23 frB)) ::
    (a5 4, cE id ca (eI23 frB)) ::
    (a5 5, cE id ca (eI23 frB)) ::
    (b6, .inr (0, [.ref (a6 1)])) ::
    (a6 1, oR ca 2 [a6 2, a6 3, a6 4, a6 5]) ::
    (a6 2, cE id ca (eI23 frB)) ::
    (a6 3, cE id ca (eI23 frB)) ::
    (a6 4, cE id ca (eI23 frB)) ::
    (a6 5, cE id ca (eI23 frB)) ::
    (b7, .inr (0, [.ref (a7 1)])) ::
    (a7 1, oR ca 2 [a7 2, a7 3, a7 4, a7 5]) ::
    (a7 2, cE id ca (eI23 frB)) ::
    (a7 3, cE id ca (eI23 frB)) ::
    (a7 4, cE id ca (eI23 frB)) ::
    (a7 5, cE id ca (eI23 frB)) :: [])) [0, 14, 15, 16, 17, 18, 19, 20, 21, 22, 2, 3, 4, 5, 6, 7, 8, 9, 10, 11, 12, 13, 23, 24, 25, 26, 27, 28, 1, 29, 30, 31, 32, 33, 34, 35, 36, 37, 38, 39, 40, 41, 42, 43, 44, 45, 46, 47, 48, 49, 50, 51, 52, 53, 54, 55, 56, 57, 58, 59, 60, 61, 62, 63, 64] rfl
  have hD := hD.sub (ws' := ((h0, .inr (2, [.ref b0, .ref b1, .ref qk, .ref n0, .ref g0, .ref d0, .int 0, .int 0])) ::
    (n0, .inr (1, [.ref (an 1), .long 1, .long 1, .ref (an 2), .ref (an 7), .ref (an 8), .int 0])) ::
    (an 1, zL ca 4) ::
    (an 2, oR ca 3 [an 3, an 4, an 5, an 6]) ::
    (an 3, zL ca 4) ::
    (an 4, zL ca 4) ::
    (an 5, zL ca 4) ::
    (an 6, zL ca 4) ::
    (an 7, zL ca 4) ::
    (an 8, zL ca 16) ::
    (b0, .inr (0, [.ref (a0 1)])) ::
    (a0 1, oR ca 2 [a0 2, a0 3, a0 4, a0 5]) ::
    (a0 2, cE id ca (eI23 frB)) ::
    (a0 3, cE id ca (eI23 frB)) ::
    (a0 4, cE id ca (eI23 frB)) ::
    (a0 5, cE id ca (eI23 frB)) ::
    (b1, .inr (0, [.ref (a1 1)])) ::
    (a1 1, oR ca 2 [a1 2, a1 3, a1 4, a1 5]) ::
    (a1 2, cE id ca (eI23 frB)) ::
    (a1 3, cE id ca (eI23 frB)) ::
    (a1 4, cE id ca (eI23 frB)) ::
    (a1 5, cE id ca (eI23 frB)) ::
    (g0, oR ca 2 [g1, g2, g3, g4]) ::
    (g1, zI ca 4) ::
    (g2, zI ca 4) ::
    (g3, zI ca 4) ::
    (g4, zI ca 4) ::
    (d0, zI ca 4) ::
    (qk, oR ca 4 [b2, b3, b4, b5, b6, b7]) ::
    (b2, .inr (0, [.ref (a2 1)])) ::
    (a2 1, oR ca 2 [a2 2, a2 3, a2 4, a2 5]) ::
    (a2 2, cE id ca (eI23 frB)) ::
    (a2 3, cE id ca (eI23 frB)) ::
    (a2 4, cE id ca (eI23 frB)) ::
    (a2 5, cE id ca (eI23 frB)) ::
    (b3, .inr (0, [.ref (a3 1)])) ::
    (a3 1, oR ca 2 [a3 2, a3 3, a3 4, a3 5]) ::
    (a3 2, cE id ca (eI23 frB)) ::
    (a3 3, cE id ca (eI23 frB)) ::
    (a3 4, cE id ca (eI23 frB)) ::
    (a3 5, cE id ca (eI23 frB)) ::
    (b4, .inr (0, [.ref (a4 1)])) ::
    (a4 1, oR ca 2 [a4 2, a4 3, a4 4, a4 5]) ::
    (a4 2, cE id ca (eI23 frB)) ::
    (a4 3, cE id ca (eI23 frB)) ::
    (a4 4, cE id ca (eI23 frB)) ::
    (a4 5, cE id ca (eI23 frB)) ::
    (b5, .inr (0, [.ref (a5 1)])) ::
    (a5 1, oR ca 2 [a5 2, a5 3, a5 4, a5 5]) ::
    (a5 2, cE id ca (eI23 frB)) ::
    (a5 3, cE id ca (eI23 frB)) ::
    (a5 4, cE id ca (eI23 frB)) ::
    (a5 5, cE id ca (eI23 frB)) ::
    (b6, .inr (0, [.ref (a6 1)])) ::
    (a6 1, oR ca 2 [a6 2, a6 3, a6 4, a6 5]) ::
    (a6 2, cE id ca (eI23 frB)) ::
    (a6 3, cE id ca (eI23 frB)) ::
    (a6 4, cE id ca (eI23 frB)) ::
    (a6 5, cE id ca (eI23 frB)) ::
    (b7, .inr (0, [.ref (a7 1)])) ::
    (a7 1, oR ca 2 [a7 2, a7 3, a7 4, a7 5]) ::
    (a7 2, cE id ca (eI23 frB)) ::
    (a7 3, cE id ca (eI23 frB)) ::
    (a7 4, cE id ca (eI23 frB)) ::
    (a7 5, cE id ca (eI23 frB)) :: [])) [0, 14, 15, 16, 17, 18, 19, 20, 21, 22, 2, 3, 4, 5, 6, 7, 8, 9, 10, 11, 12, 13, 23, 24, 25, 26, 27, 28, 1, 29, 30, 31, 32, 33, 34, 35, 36, 37, 38, 39, 40, 41, 42, 43, 44, 45, 46, 47, 48, 49, 50, 51, 52, 53, 54, 55, 56, 57, 58, 59, 60, 61, 62, 63, 64] (by decide) rfl
  obtain ⟨ax, h0x, h1x, h2x, h3x, h4x, h5x, h6x, h7x, h8x, h9x, h10x, h11x, h12x, h13x, h14x, h15x, h16x, h17x, h18x, h19x, h20x, h21x, h22x, h23x, h24x, h25x, h26x, h27x, h28x, h29x, h30x, h31x, h32x, h33x, h34x, h35x, h36x, h37x, h38x, h39x, h40x, h41x, h42x, h43x, h44x, h45x, h46x, h47x, h48x, h49x, h50x, h51x, h52x, h53x, h54x, h55x, h56x, h57x, h58x, h59x, h60x, h61x, h62x, h63x, h64x⟩ : ∃ ax : Nat → Nat, ax 0 = h0 ∧ ax 1 = n0 ∧ ax 2 = an 1 ∧ ax 3 = an 2 ∧ ax 4 = an 3 ∧ ax 5 = an 4 ∧ ax 6 = an 5 ∧ ax 7 = an 6 ∧ ax 8 = an 7 ∧ ax 9 = an 8 ∧ ax 10 = b0 ∧ ax 11 = a0 1 ∧ ax 12 = a0 2 ∧ ax 13 = a0 3 ∧ ax 14 = a0 4 ∧ ax 15 = a0 5 ∧ ax 16 = b1 ∧ ax 17 = a1 1 ∧ ax 18 = a1 2 ∧ ax 19 = a1 3 ∧ ax 20 = a1 4 ∧ ax 21 = a1 5 ∧ ax 22 = g0 ∧ ax 23 = g1 ∧ ax 24 = g2 ∧ ax 25 = g3 ∧ ax 26 = g4 ∧ ax 27 = d0 ∧ ax 28 = qk ∧ ax 29 = b2 ∧ ax 30 = a2 1 ∧ ax 31 = a2 2 ∧ ax 32 = a2 3 ∧ ax 33 = a2 4 ∧ ax 34 = a2 5 ∧ ax 35 = b3 ∧ ax 36 = a3 1 ∧ ax 37 = a3 2 ∧ ax 38 = a3 3 ∧ ax 39 = a3 4 ∧ ax 40 = a3 5 ∧ ax 41 = b4 ∧ ax 42 = a4 1 ∧ ax 43 = a4 2 ∧ ax 44 = a4 3 ∧ ax 45 = a4 4 ∧ ax 46 = a4 5 ∧ ax 47 = b5 ∧ ax 48 = a5 1 ∧ ax 49 = a5 2 ∧ ax 50 = a5 3 ∧ ax 51 = a5 4 ∧ ax 52 = a5 5 ∧ ax 53 = b6 ∧ ax 54 = a6 1 ∧ ax 55 = a6 2 ∧ ax 56 = a6 3 ∧ ax 57 = a6 4 ∧ ax 58 = a6 5 ∧ ax 59 = b7 ∧ ax 60 = a7 1 ∧ ax 61 = a7 2 ∧ ax 62 = a7 3 ∧ ax 63 = a7 4 ∧ ax 64 = a7 5 := ⟨fun k => [h0, n0, an 1, an 2, an 3, an 4, an 5, an 6, an 7, an 8, b0, a0 1, a0 2, a0 3, a0 4, a0 5, b1, a1 1, a1 2, a1 3, a1 4, a1 5, g0, g1, g2, g3, g4, d0, qk, b2, a2 1, a2 2, a2 3, a2 4, a2 5, b3, a3 1, a3 2, a3 3, a3 4, a3 5, b4, a4 1, a4 2, a4 3, a4 4, a4 5, b5, a5 1, a5 2, a5 3, a5 4, a5 5, b6, a6 1, a6 2, a6 3, a6 4, a6 5, b7, a7 1, a7 2, a7 3, a7 4, a7 5].getD k 0, rfl, rfl, rfl, rfl, rfl, rfl, rfl, rfl, rfl, rfl, rfl, rfl, rfl, rfl, rfl, rfl, rfl, rfl, rfl, rfl, rfl, rfl, rfl, rfl, rfl, rfl, rfl, rfl, rfl, rfl, rfl, rfl, rfl, rfl, rfl, rfl, rfl, rfl, rfl, rfl, rfl, rfl, rfl, rfl, rfl, rfl, rfl, rfl, rfl, rfl, rfl, rfl, rfl, rfl, rfl, rfl, rfl, rfl, rfl, rfl, rfl, rfl, rfl, rfl, rfl⟩
  have eW : xnW ca h0 ax = ((h0, .inr (2, [.ref b0, .ref b1, .ref qk, .ref n0, .ref g0, .ref d0, .int 0, .int 0])) ::
    (n0, .inr (1, [.ref (an 1), .long 1, .long 1, .ref (an 2), .ref (an 7), .ref (an 8), .int 0])) ::
    (an 1, zL ca 4) ::
    (an 2, oR ca 3 [an 3, an 4, an 5, an 6]) ::
    (an 3, zL ca 4) ::
    (an 4, zL ca 4) ::
    (an 5, zL ca 4) ::
    (an 6, zL ca 4) ::
    (an 7, zL ca 4) ::
    (an 8, zL ca 16) ::
    (b0, .inr (0, [.ref (a0 1)])) ::
    (a0 1, oR ca 2 [a0 2, a0 3, a0 4, a0 5]) ::
    (a0 2, cE id ca (eI23 frB)) ::
    (a0 3, cE id ca (eI23 frB)) ::
    (a0 4, cE id ca (eI23 frB)) ::
    (a0 5, cE id ca (eI23 frB)) ::
    (b1, .inr (0, [.ref (a1 1)])) ::
    (a1 1, oR ca 2 [a1 2, a1 3, a1 4, a1 5]) ::
    (a1 2, cE id ca (eI23 frB)) ::
    (a1 3, cE id ca (eI23 frB)) ::
    (a1 4, cE id ca (eI23 frB)) ::
    (a1 5, cE id ca (eI23 frB)) ::
    (g0, oR ca 2 [g1, g2, g3, g4]) ::
    (g1, zI ca 4) ::
    (g2, zI ca 4) ::
    (g3, zI ca 4) ::
    (g4, zI ca 4) ::
    (d0, zI ca 4) ::
    (qk, oR ca 4 [b2, b3, b4, b5, b6, b7]) ::
    (b2, .inr (0, [.ref (a2 1)])) ::
    (a2 1, oR ca 2 [a2 2, a2 3, a2 4, a2 5]) ::
    (a2 2, cE id ca (eI23 frB)) ::
    (a2 3, cE id ca (eI23 frB)) ::
    (a2 4, cE id ca (eI23 frB)) ::
    (a2 5, cE id ca (eI23 frB)) ::
    (b3, .inr (0, [.ref (a3 1)])) ::
    (a3 1, oR ca 2 [a3 2, a3 3, a3 4, a3 5]) ::
    (a3 2, cE id ca (eI23 frB)) ::
    (a3 3, cE id ca (eI23 frB)) ::
    (a3 4, cE id ca (eI23 frB)) ::
    (a3 5, cE id ca (eI23 frB)) ::
    (b4, .inr (0, [.ref (a4 1)])) ::
    (a4 1, oR ca 2 [a4 2, a4 3, a4 4, a4 5]) ::
    (a4 2, cE id ca (eI23 frB)) ::
    (a4 3, cE id ca (eI23 frB)) ::
    (a4 4, cE id ca (eI23 frB)) ::
    (a4 5, cE id ca (eI23 frB)) ::
    (b5, .inr (0, [.ref (a5 1)])) ::
    (a5 1, oR ca 2 [a5 2, a5 3, a5 4, a5 5]) ::
    (a5 2, cE id ca (eI23 frB)) ::
    (a5 3, cE id ca (eI23 frB)) ::
    (a5 4, cE id ca (eI23 frB)) ::
    (a5 5, cE id ca (eI23 frB)) ::
    (b6, .inr (0, [.ref (a6 1)])) ::
    (a6 1, oR ca 2 [a6 2, a6 3, a6 4, a6 5]) ::
    (a6 2, cE id ca (eI23 frB)) ::
    (a6 3, cE id ca (eI23 frB)) ::
    (a6 4, cE id ca (eI23 frB)) ::
    (a6 5, cE id ca (eI23 frB)) ::
    (b7, .inr (0, [.ref (a7 1)])) ::
    (a7 1, oR ca 2 [a7 2, a7 3, a7 4, a7 5]) ::
    (a7 2, cE id ca (eI23 frB)) ::
    (a7 3, cE id ca (eI23 frB)) ::
    (a7 4, cE id ca (eI23 frB)) ::
    (a7 5, cE id ca (eI23 frB)) :: []) := by
    show cW (up ax 0 h0) ca XW0 = _
    rw [← h0x, up_eta, xw_cells, h0x, h1x, h2x, h3x, h4x, h5x, h6x, h7x, h8x, h9x, h10x, h11x, h12x, h13x, h14x, h15x, h16x, h17x, h18x, h19x, h20x, h21x, h22x, h23x, h24x, h25x, h26x, h27x, h28x, h29x, h30x, h31x, h32x, h33x, h34x, h35x, h36x, h37x, h38x, h39x, h40x, h41x, h42x, h43x, h44x, h45x, h46x, h47x, h48x, h49x, h50x, h51x, h52x, h53x, h54x, h55x, h56x, h57x, h58x, h59x, h60x, h61x, h62x, h63x, h64x]
  exact ⟨ax, by rw [eW]; exact hP, by rw [eW]; exact hD⟩
def MW0 : mW := MW 0 0 0 0 0 (fun _ => 0) (fun _ => 0) (fun _ => 0) (fun _ => 0) (fun _ => 0) (fun _ _ _ => 0) (fun _ _ => 0)
set_option maxRecDepth 100000 in
theorem mdW_eq (ca : Nat → ClassId) (h0 : Nat) (a : Nat → Nat) : mdW ca h0 a = cW (up a 0 h0) ca MW0 := by
  rw [cW_o]
  rfl
