section
variable {l : Launch} {D : va_G} {ca : Nat → ClassId} {ad : Nat → Nat}

set_option maxRecDepth 20000 in
theorem m_solve_0_0p {vs : Int32} {wo un h : Int64} {bo : Nat → Int32} {ta tr ro ot : Nat → Int64} {Bm : Nat → Nat → Nat → Int32} {bk : Nat → Nat → Int32} {u : Int64} {hh rr : Nat → Int64} (hs : ¬ wo < 0) (hu : u = wo) (hq : ∀ j : Nat, hh j = (bk 0 j).toInt64) (hrr : ∀ i : Nat, rr i = dtM (tsM 0 ta i hh)) : KX3_solve l D ca ad [.ref 0, .int 0] (MW 0 vs wo un h bo ta tr ro ot Bm bk) none (MW 0 vs wo u h bo ta (tsM 0 ta 3 hh) rr ot Bm bk) := by
  refine PX3_solve (Nat.le_of_ble_eq_true rfl) ?_
  intro G hT hC hR
  refine mB hT 6 rfl ?_
  refine mIf (fun _ => ?_) (fun hn => absurd (lc_ge.mpr (Int64.not_lt.mp hs)) hn)
  refine mB hT 2 rfl ?_
  refine mNf (lv2 := [(0, .ref 0), (1, .int 0)]) (st2 := [.long u, .ref 0]) rfl (by rw [hu] <;> rfl) ?_
  refine mB hT 26 rfl ?_
  refine mNf (lv2 := [(3, .int 0), (2, .int 0), (0, .ref 0), (1, .int 0)]) (st2 := [.long 0, .int 0, .ref 11]) rfl rfl ?_
  refine mB hT 19 rfl ?_
  refine mB hT 1 rfl ?_
  refine mWd (w2 := (MW 0 vs wo u h bo ta (up (up tr 0 0) 1 (ta 1)) ro ot Bm bk)) rfl ?_
  refine mB hT 18 rfl ?_
  refine mNf (lv2 := [(3, .int 2), (2, .int 0), (0, .ref 0), (1, .int 0)]) (st2 := [.long (ta 2), .int 2, .ref 11]) rfl rfl ?_
  refine mB hT 19 rfl ?_
  refine mB hT 21 rfl ?_
  refine mNf (lv2 := [(3, .int 4), (2, .int 0), (0, .ref 0), (1, .int 0)]) (st2 := [.long 0, .int 4, .ref 11]) rfl rfl ?_
  refine mB hT 1 rfl ?_
  refine mWd (w2 := (MW 0 vs wo u h bo ta (up (up (up (up (up tr 0 0) 1 (ta 1)) 2 (ta 2)) 3 (ta 3)) 4 0) ro ot Bm bk)) rfl ?_
  refine mB hT 18 rfl ?_
  refine mB hT 19 rfl ?_
  refine mNf (lv2 := [(3, .int 6), (2, .int 0), (0, .ref 0), (1, .int 0)]) (st2 := [.long (ta 6), .int 6, .ref 11]) rfl rfl ?_
  refine mB hT 19 rfl ?_
  refine mB hT 1 rfl ?_
  refine mWd (w2 := (MW 0 vs wo u h bo ta (up (up (up (up (up (up (up (up tr 0 0) 1 (ta 1)) 2 (ta 2)) 3 (ta 3)) 4 0) 5 (ta 5)) 6 (ta 6)) 7 (ta 7)) ro ot Bm bk)) rfl ?_
  refine mB hT 20 rfl ?_
  refine mNf (lv2 := [(3, .int 8), (2, .int 0), (0, .ref 0), (1, .int 0)]) (st2 := [.long 0, .int 8, .ref 11]) rfl rfl ?_
  refine mB hT 19 rfl ?_
  refine mB hT 19 rfl ?_
  refine mNf (lv2 := [(3, .int 10), (2, .int 0), (0, .ref 0), (1, .int 0)]) (st2 := [.long (ta 10), .int 10, .ref 11]) rfl rfl ?_
  refine mB hT 1 rfl ?_
  refine mWd (w2 := (MW 0 vs wo u h bo ta (up (up (up (up (up (up (up (up (up (up (up tr 0 0) 1 (ta 1)) 2 (ta 2)) 3 (ta 3)) 4 0) 5 (ta 5)) 6 (ta 6)) 7 (ta 7)) 8 0) 9 (ta 9)) 10 (ta 10)) ro ot Bm bk)) rfl ?_
  refine mB hT 18 rfl ?_
  refine mB hT 21 rfl ?_
  refine mNf (lv2 := [(3, .int 12), (2, .int 0), (0, .ref 0), (1, .int 0)]) (st2 := [.long 0, .int 12, .ref 11]) rfl rfl ?_
  refine mB hT 19 rfl ?_
  refine mB hT 1 rfl ?_
  refine mWd (w2 := (MW 0 vs wo u h bo ta (up (up (up (up (up (up (up (up (up (up (up (up (up (up tr 0 0) 1 (ta 1)) 2 (ta 2)) 3 (ta 3)) 4 0) 5 (ta 5)) 6 (ta 6)) 7 (ta 7)) 8 0) 9 (ta 9)) 10 (ta 10)) 11 (ta 11)) 12 0) 13 (ta 13)) ro ot Bm bk)) rfl ?_
  refine mB hT 18 rfl ?_
  refine mNf (lv2 := [(3, .int 14), (2, .int 0), (0, .ref 0), (1, .int 0)]) (st2 := [.long (ta 14), .int 14, .ref 11]) rfl rfl ?_
  refine mB hT 19 rfl ?_
  refine mB hT 14 rfl ?_
  refine mIf (fun _ => ?_) (fun hn => absurd (lc_ge.mpr (Int64.not_lt.mp hs)) hn)
  refine mNf (lv2 := [(3, .int 16), (2, .int 0), (0, .ref 0), (1, .int 0)]) (st2 := [.int 0, .ref 12]) rfl rfl ?_
  refine mB hT 1 rfl ?_
  refine mWd (w2 := (MW 0 vs wo u h bo ta (up (up (up (up (up (up (up (up (up (up (up (up (up (up (up (up tr 0 0) 1 (ta 1)) 2 (ta 2)) 3 (ta 3)) 4 0) 5 (ta 5)) 6 (ta 6)) 7 (ta 7)) 8 0) 9 (ta 9)) 10 (ta 10)) 11 (ta 11)) 12 0) 13 (ta 13)) 14 (ta 14)) 15 (ta 15)) ro ot Bm bk)) rfl ?_
  refine mWd (w2 := (MW 0 vs wo u h bo ta (tsM 0 ta 0 hh) ro ot Bm bk)) rfl ?_
  refine hC.2 _ 0 [] _ _ _ _ _ (m_det) rfl rfl (Nat.le_of_ble_eq_true rfl) rfl ?_
  refine mNf (lv2 := [(3, .int 16), (2, .int 0), (0, .ref 0), (1, .int 0)]) (st2 := [.long (rr 0), .int 0, .ref 12]) rfl (by rw [hrr 0] <;> rfl) ?_
  refine mB hT 24 rfl ?_
  refine mNf (lv2 := [(3, .int 0), (2, .int 1), (0, .ref 0), (1, .int 0)]) (st2 := [.long (ta 0), .int 0, .ref 11]) rfl rfl ?_
  refine mB hT 21 rfl ?_
  refine mB hT 1 rfl ?_
  refine mWd (w2 := (MW 0 vs wo u h bo ta (up (up (tsM 0 ta 0 hh) 0 (ta 0)) 1 0) (up ro 0 (rr 0)) ot Bm bk)) rfl ?_
  refine mB hT 18 rfl ?_
  refine mNf (lv2 := [(3, .int 2), (2, .int 1), (0, .ref 0), (1, .int 0)]) (st2 := [.long (ta 2), .int 2, .ref 11]) rfl rfl ?_
  refine mB hT 19 rfl ?_
  refine mB hT 19 rfl ?_
  refine mNf (lv2 := [(3, .int 4), (2, .int 1), (0, .ref 0), (1, .int 0)]) (st2 := [.long (ta 4), .int 4, .ref 11]) rfl rfl ?_
  refine mB hT 1 rfl ?_
  refine mWd (w2 := (MW 0 vs wo u h bo ta (up (up (up (up (up (tsM 0 ta 0 hh) 0 (ta 0)) 1 0) 2 (ta 2)) 3 (ta 3)) 4 (ta 4)) (up ro 0 (rr 0)) ot Bm bk)) rfl ?_
  refine mB hT 20 rfl ?_
  refine mB hT 19 rfl ?_
  refine mNf (lv2 := [(3, .int 6), (2, .int 1), (0, .ref 0), (1, .int 0)]) (st2 := [.long (ta 6), .int 6, .ref 11]) rfl rfl ?_
  refine mB hT 19 rfl ?_
  refine mB hT 1 rfl ?_
  refine mWd (w2 := (MW 0 vs wo u h bo ta (up (up (up (up (up (up (up (up (tsM 0 ta 0 hh) 0 (ta 0)) 1 0) 2 (ta 2)) 3 (ta 3)) 4 (ta 4)) 5 0) 6 (ta 6)) 7 (ta 7)) (up ro 0 (rr 0)) ot Bm bk)) rfl ?_
  refine mB hT 18 rfl ?_
  refine mNf (lv2 := [(3, .int 8), (2, .int 1), (0, .ref 0), (1, .int 0)]) (st2 := [.long (ta 8), .int 8, .ref 11]) rfl rfl ?_
  refine mB hT 21 rfl ?_
  refine mB hT 19 rfl ?_
  refine mNf (lv2 := [(3, .int 10), (2, .int 1), (0, .ref 0), (1, .int 0)]) (st2 := [.long (ta 10), .int 10, .ref 11]) rfl rfl ?_
  refine mB hT 1 rfl ?_
  refine mWd (w2 := (MW 0 vs wo u h bo ta (up (up (up (up (up (up (up (up (up (up (up (tsM 0 ta 0 hh) 0 (ta 0)) 1 0) 2 (ta 2)) 3 (ta 3)) 4 (ta 4)) 5 0) 6 (ta 6)) 7 (ta 7)) 8 (ta 8)) 9 0) 10 (ta 10)) (up ro 0 (rr 0)) ot Bm bk)) rfl ?_
  refine mB hT 18 rfl ?_
  refine mB hT 19 rfl ?_
  refine mNf (lv2 := [(3, .int 12), (2, .int 1), (0, .ref 0), (1, .int 0)]) (st2 := [.long (ta 12), .int 12, .ref 11]) rfl rfl ?_
  refine mB hT 21 rfl ?_
  refine mB hT 1 rfl ?_
  refine mWd (w2 := (MW 0 vs wo u h bo ta (up (up (up (up (up (up (up (up (up (up (up (up (up (up (tsM 0 ta 0 hh) 0 (ta 0)) 1 0) 2 (ta 2)) 3 (ta 3)) 4 (ta 4)) 5 0) 6 (ta 6)) 7 (ta 7)) 8 (ta 8)) 9 0) 10 (ta 10)) 11 (ta 11)) 12 (ta 12)) 13 0) (up ro 0 (rr 0)) ot Bm bk)) rfl ?_
  refine mB hT 18 rfl ?_
  refine mNf (lv2 := [(3, .int 14), (2, .int 1), (0, .ref 0), (1, .int 0)]) (st2 := [.long (ta 14), .int 14, .ref 11]) rfl rfl ?_
  refine mB hT 19 rfl ?_
  refine mB hT 14 rfl ?_
  refine mIf (fun _ => ?_) (fun hn => absurd (lc_ge.mpr (Int64.not_lt.mp hs)) hn)
  refine mNf (lv2 := [(3, .int 16), (2, .int 1), (0, .ref 0), (1, .int 0)]) (st2 := [.int 1, .ref 12]) rfl rfl ?_
  refine mB hT 1 rfl ?_
  refine mWd (w2 := (MW 0 vs wo u h bo ta (up (up (up (up (up (up (up (up (up (up (up (up (up (up (up (up (tsM 0 ta 0 hh) 0 (ta 0)) 1 0) 2 (ta 2)) 3 (ta 3)) 4 (ta 4)) 5 0) 6 (ta 6)) 7 (ta 7)) 8 (ta 8)) 9 0) 10 (ta 10)) 11 (ta 11)) 12 (ta 12)) 13 0) 14 (ta 14)) 15 (ta 15)) (up ro 0 (rr 0)) ot Bm bk)) rfl ?_
  refine mWd (w2 := (MW 0 vs wo u h bo ta (tsM 0 ta 1 hh) (up ro 0 (rr 0)) ot Bm bk)) rfl ?_
  refine hC.2 _ 0 [] _ _ _ _ _ (m_det) rfl rfl (Nat.le_of_ble_eq_true rfl) rfl ?_
  refine mNf (lv2 := [(3, .int 16), (2, .int 1), (0, .ref 0), (1, .int 0)]) (st2 := [.long (rr 1), .int 1, .ref 12]) rfl (by rw [hrr 1] <;> rfl) ?_
  refine mB hT 24 rfl ?_
  refine mNf (lv2 := [(3, .int 0), (2, .int 2), (0, .ref 0), (1, .int 0)]) (st2 := [.long (ta 0), .int 0, .ref 11]) rfl rfl ?_
  refine mB hT 19 rfl ?_
  refine mB hT 1 rfl ?_
  refine mWd (w2 := (MW 0 vs wo u h bo ta (up (up (tsM 0 ta 1 hh) 0 (ta 0)) 1 (ta 1)) (up (up ro 0 (rr 0)) 1 (rr 1)) ot Bm bk)) rfl ?_
  refine mB hT 20 rfl ?_
  refine mNf (lv2 := [(3, .int 2), (2, .int 2), (0, .ref 0), (1, .int 0)]) (st2 := [.long 0, .int 2, .ref 11]) rfl rfl ?_
  refine mB hT 19 rfl ?_
  refine mB hT 19 rfl ?_
  refine mNf (lv2 := [(3, .int 4), (2, .int 2), (0, .ref 0), (1, .int 0)]) (st2 := [.long (ta 4), .int 4, .ref 11]) rfl rfl ?_
  refine mB hT 1 rfl ?_
  refine mWd (w2 := (MW 0 vs wo u h bo ta (up (up (up (up (up (tsM 0 ta 1 hh) 0 (ta 0)) 1 (ta 1)) 2 0) 3 (ta 3)) 4 (ta 4)) (up (up ro 0 (rr 0)) 1 (rr 1)) ot Bm bk)) rfl ?_
  refine mB hT 18 rfl ?_
  refine mB hT 21 rfl ?_
  refine mNf (lv2 := [(3, .int 6), (2, .int 2), (0, .ref 0), (1, .int 0)]) (st2 := [.long 0, .int 6, .ref 11]) rfl rfl ?_
  refine mB hT 19 rfl ?_
  refine mB hT 1 rfl ?_
  refine mWd (w2 := (MW 0 vs wo u h bo ta (up (up (up (up (up (up (up (up (tsM 0 ta 1 hh) 0 (ta 0)) 1 (ta 1)) 2 0) 3 (ta 3)) 4 (ta 4)) 5 (ta 5)) 6 0) 7 (ta 7)) (up (up ro 0 (rr 0)) 1 (rr 1)) ot Bm bk)) rfl ?_
  refine mB hT 18 rfl ?_
  refine mNf (lv2 := [(3, .int 8), (2, .int 2), (0, .ref 0), (1, .int 0)]) (st2 := [.long (ta 8), .int 8, .ref 11]) rfl rfl ?_
  refine mB hT 19 rfl ?_
  refine mB hT 21 rfl ?_
  refine mNf (lv2 := [(3, .int 10), (2, .int 2), (0, .ref 0), (1, .int 0)]) (st2 := [.long 0, .int 10, .ref 11]) rfl rfl ?_
  refine mB hT 1 rfl ?_
  refine mWd (w2 := (MW 0 vs wo u h bo ta (up (up (up (up (up (up (up (up (up (up (up (tsM 0 ta 1 hh) 0 (ta 0)) 1 (ta 1)) 2 0) 3 (ta 3)) 4 (ta 4)) 5 (ta 5)) 6 0) 7 (ta 7)) 8 (ta 8)) 9 (ta 9)) 10 0) (up (up ro 0 (rr 0)) 1 (rr 1)) ot Bm bk)) rfl ?_
  refine mB hT 18 rfl ?_
  refine mB hT 19 rfl ?_
  refine mNf (lv2 := [(3, .int 12), (2, .int 2), (0, .ref 0), (1, .int 0)]) (st2 := [.long (ta 12), .int 12, .ref 11]) rfl rfl ?_
  refine mB hT 19 rfl ?_
  refine mB hT 1 rfl ?_
  refine mWd (w2 := (MW 0 vs wo u h bo ta (up (up (up (up (up (up (up (up (up (up (up (up (up (up (tsM 0 ta 1 hh) 0 (ta 0)) 1 (ta 1)) 2 0) 3 (ta 3)) 4 (ta 4)) 5 (ta 5)) 6 0) 7 (ta 7)) 8 (ta 8)) 9 (ta 9)) 10 0) 11 (ta 11)) 12 (ta 12)) 13 (ta 13)) (up (up ro 0 (rr 0)) 1 (rr 1)) ot Bm bk)) rfl ?_
  refine mB hT 20 rfl ?_
  refine mNf (lv2 := [(3, .int 14), (2, .int 2), (0, .ref 0), (1, .int 0)]) (st2 := [.long 0, .int 14, .ref 11]) rfl rfl ?_
  refine mB hT 19 rfl ?_
  refine mB hT 14 rfl ?_
  refine mIf (fun _ => ?_) (fun hn => absurd (lc_ge.mpr (Int64.not_lt.mp hs)) hn)
  refine mNf (lv2 := [(3, .int 16), (2, .int 2), (0, .ref 0), (1, .int 0)]) (st2 := [.int 2, .ref 12]) rfl rfl ?_
  refine mB hT 1 rfl ?_
  refine mWd (w2 := (MW 0 vs wo u h bo ta (up (up (up (up (up (up (up (up (up (up (up (up (up (up (up (up (tsM 0 ta 1 hh) 0 (ta 0)) 1 (ta 1)) 2 0) 3 (ta 3)) 4 (ta 4)) 5 (ta 5)) 6 0) 7 (ta 7)) 8 (ta 8)) 9 (ta 9)) 10 0) 11 (ta 11)) 12 (ta 12)) 13 (ta 13)) 14 0) 15 (ta 15)) (up (up ro 0 (rr 0)) 1 (rr 1)) ot Bm bk)) rfl ?_
  refine mWd (w2 := (MW 0 vs wo u h bo ta (tsM 0 ta 2 hh) (up (up ro 0 (rr 0)) 1 (rr 1)) ot Bm bk)) rfl ?_
  refine hC.2 _ 0 [] _ _ _ _ _ (m_det) rfl rfl (Nat.le_of_ble_eq_true rfl) rfl ?_
  refine mNf (lv2 := [(3, .int 16), (2, .int 2), (0, .ref 0), (1, .int 0)]) (st2 := [.long (rr 2), .int 2, .ref 12]) rfl (by rw [hrr 2] <;> rfl) ?_
  refine mB hT 24 rfl ?_
  refine mNf (lv2 := [(3, .int 0), (2, .int 3), (0, .ref 0), (1, .int 0)]) (st2 := [.long (ta 0), .int 0, .ref 11]) rfl rfl ?_
  refine mB hT 19 rfl ?_
  refine mB hT 1 rfl ?_
  refine mWd (w2 := (MW 0 vs wo u h bo ta (up (up (tsM 0 ta 2 hh) 0 (ta 0)) 1 (ta 1)) (up (up (up ro 0 (rr 0)) 1 (rr 1)) 2 (rr 2)) ot Bm bk)) rfl ?_
  refine mB hT 18 rfl ?_
  refine mNf (lv2 := [(3, .int 2), (2, .int 3), (0, .ref 0), (1, .int 0)]) (st2 := [.long (ta 2), .int 2, .ref 11]) rfl rfl ?_
  refine mB hT 21 rfl ?_
  refine mB hT 19 rfl ?_
  refine mNf (lv2 := [(3, .int 4), (2, .int 3), (0, .ref 0), (1, .int 0)]) (st2 := [.long (ta 4), .int 4, .ref 11]) rfl rfl ?_
  refine mB hT 1 rfl ?_
  refine mWd (w2 := (MW 0 vs wo u h bo ta (up (up (up (up (up (tsM 0 ta 2 hh) 0 (ta 0)) 1 (ta 1)) 2 (ta 2)) 3 0) 4 (ta 4)) (up (up (up ro 0 (rr 0)) 1 (rr 1)) 2 (rr 2)) ot Bm bk)) rfl ?_
  refine mB hT 18 rfl ?_
  refine mB hT 19 rfl ?_
  refine mNf (lv2 := [(3, .int 6), (2, .int 3), (0, .ref 0), (1, .int 0)]) (st2 := [.long (ta 6), .int 6, .ref 11]) rfl rfl ?_
  refine mB hT 21 rfl ?_
  refine mB hT 1 rfl ?_
  refine mWd (w2 := (MW 0 vs wo u h bo ta (up (up (up (up (up (up (up (up (tsM 0 ta 2 hh) 0 (ta 0)) 1 (ta 1)) 2 (ta 2)) 3 0) 4 (ta 4)) 5 (ta 5)) 6 (ta 6)) 7 0) (up (up (up ro 0 (rr 0)) 1 (rr 1)) 2 (rr 2)) ot Bm bk)) rfl ?_
  refine mB hT 18 rfl ?_
  refine mNf (lv2 := [(3, .int 8), (2, .int 3), (0, .ref 0), (1, .int 0)]) (st2 := [.long (ta 8), .int 8, .ref 11]) rfl rfl ?_
  refine mB hT 19 rfl ?_
  refine mB hT 19 rfl ?_
  refine mNf (lv2 := [(3, .int 10), (2, .int 3), (0, .ref 0), (1, .int 0)]) (st2 := [.long (ta 10), .int 10, .ref 11]) rfl rfl ?_
  refine mB hT 1 rfl ?_
  refine mWd (w2 := (MW 0 vs wo u h bo ta (up (up (up (up (up (up (up (up (up (up (up (tsM 0 ta 2 hh) 0 (ta 0)) 1 (ta 1)) 2 (ta 2)) 3 0) 4 (ta 4)) 5 (ta 5)) 6 (ta 6)) 7 0) 8 (ta 8)) 9 (ta 9)) 10 (ta 10)) (up (up (up ro 0 (rr 0)) 1 (rr 1)) 2 (rr 2)) ot Bm bk)) rfl ?_
  refine mB hT 20 rfl ?_
  refine mB hT 19 rfl ?_
  refine mNf (lv2 := [(3, .int 12), (2, .int 3), (0, .ref 0), (1, .int 0)]) (st2 := [.long (ta 12), .int 12, .ref 11]) rfl rfl ?_
  refine mB hT 19 rfl ?_
  refine mB hT 1 rfl ?_
  refine mWd (w2 := (MW 0 vs wo u h bo ta (up (up (up (up (up (up (up (up (up (up (up (up (up (up (tsM 0 ta 2 hh) 0 (ta 0)) 1 (ta 1)) 2 (ta 2)) 3 0) 4 (ta 4)) 5 (ta 5)) 6 (ta 6)) 7 0) 8 (ta 8)) 9 (ta 9)) 10 (ta 10)) 11 0) 12 (ta 12)) 13 (ta 13)) (up (up (up ro 0 (rr 0)) 1 (rr 1)) 2 (rr 2)) ot Bm bk)) rfl ?_
  refine mB hT 18 rfl ?_
  refine mNf (lv2 := [(3, .int 14), (2, .int 3), (0, .ref 0), (1, .int 0)]) (st2 := [.long (ta 14), .int 14, .ref 11]) rfl rfl ?_
  refine mB hT 21 rfl ?_
  refine mB hT 14 rfl ?_
  refine mIf (fun _ => ?_) (fun hn => absurd (lc_ge.mpr (Int64.not_lt.mp hs)) hn)
  refine mNf (lv2 := [(3, .int 16), (2, .int 3), (0, .ref 0), (1, .int 0)]) (st2 := [.int 3, .ref 12]) rfl rfl ?_
  refine mB hT 1 rfl ?_
  refine mWd (w2 := (MW 0 vs wo u h bo ta (up (up (up (up (up (up (up (up (up (up (up (up (up (up (up (up (tsM 0 ta 2 hh) 0 (ta 0)) 1 (ta 1)) 2 (ta 2)) 3 0) 4 (ta 4)) 5 (ta 5)) 6 (ta 6)) 7 0) 8 (ta 8)) 9 (ta 9)) 10 (ta 10)) 11 0) 12 (ta 12)) 13 (ta 13)) 14 (ta 14)) 15 0) (up (up (up ro 0 (rr 0)) 1 (rr 1)) 2 (rr 2)) ot Bm bk)) rfl ?_
  refine mWd (w2 := (MW 0 vs wo u h bo ta (tsM 0 ta 3 hh) (up (up (up ro 0 (rr 0)) 1 (rr 1)) 2 (rr 2)) ot Bm bk)) rfl ?_
  refine hC.2 _ 0 [] _ _ _ _ _ (m_det) rfl rfl (Nat.le_of_ble_eq_true rfl) rfl ?_
  refine mNf (lv2 := [(3, .int 16), (2, .int 3), (0, .ref 0), (1, .int 0)]) (st2 := [.long (rr 3), .int 3, .ref 12]) rfl (by rw [hrr 3] <;> rfl) ?_
  refine mB hT 6 rfl ?_
  exact hR _ (by decide) _ _ _ rfl rfl
set_option maxRecDepth 20000 in
theorem m_solve_0_0n {vs : Int32} {wo un h : Int64} {bo : Nat → Int32} {ta tr ro ot : Nat → Int64} {Bm : Nat → Nat → Nat → Int32} {bk : Nat → Nat → Int32} {u : Int64} {hh rr : Nat → Int64} (hs : wo < 0) (hu : u = -wo) (hq : ∀ j : Nat, hh j = (bk 0 j).toInt64) (hrr : ∀ i : Nat, rr i = -(dtM (tsM 0 ta i hh))) : KX3_solve l D ca ad [.ref 0, .int 0] (MW 0 vs wo un h bo ta tr ro ot Bm bk) none (MW 0 vs wo u h bo ta (tsM 0 ta 3 hh) rr ot Bm bk) := by
  refine PX3_solve (Nat.le_of_ble_eq_true rfl) ?_
  intro G hT hC hR
  refine mB hT 6 rfl ?_
  refine mIf (fun hp => absurd hp (fun q => Int64.not_lt.mpr (lc_ge.mp q) hs)) (fun _ => ?_)
  refine mB hT 4 rfl ?_
  refine mNf (lv2 := [(0, .ref 0), (1, .int 0)]) (st2 := [.long u, .ref 0]) rfl (by rw [hu] <;> rfl) ?_
  refine mB hT 26 rfl ?_
  refine mNf (lv2 := [(3, .int 0), (2, .int 0), (0, .ref 0), (1, .int 0)]) (st2 := [.long 0, .int 0, .ref 11]) rfl rfl ?_
  refine mB hT 19 rfl ?_
  refine mB hT 1 rfl ?_
  refine mWd (w2 := (MW 0 vs wo u h bo ta (up (up tr 0 0) 1 (ta 1)) ro ot Bm bk)) rfl ?_
  refine mB hT 18 rfl ?_
  refine mNf (lv2 := [(3, .int 2), (2, .int 0), (0, .ref 0), (1, .int 0)]) (st2 := [.long (ta 2), .int 2, .ref 11]) rfl rfl ?_
  refine mB hT 19 rfl ?_
  refine mB hT 21 rfl ?_
  refine mNf (lv2 := [(3, .int 4), (2, .int 0), (0, .ref 0), (1, .int 0)]) (st2 := [.long 0, .int 4, .ref 11]) rfl rfl ?_
  refine mB hT 1 rfl ?_
  refine mWd (w2 := (MW 0 vs wo u h bo ta (up (up (up (up (up tr 0 0) 1 (ta 1)) 2 (ta 2)) 3 (ta 3)) 4 0) ro ot Bm bk)) rfl ?_
  refine mB hT 18 rfl ?_
  refine mB hT 19 rfl ?_
  refine mNf (lv2 := [(3, .int 6), (2, .int 0), (0, .ref 0), (1, .int 0)]) (st2 := [.long (ta 6), .int 6, .ref 11]) rfl rfl ?_
  refine mB hT 19 rfl ?_
  refine mB hT 1 rfl ?_
  refine mWd (w2 := (MW 0 vs wo u h bo ta (up (up (up (up (up (up (up (up tr 0 0) 1 (ta 1)) 2 (ta 2)) 3 (ta 3)) 4 0) 5 (ta 5)) 6 (ta 6)) 7 (ta 7)) ro ot Bm bk)) rfl ?_
  refine mB hT 20 rfl ?_
  refine mNf (lv2 := [(3, .int 8), (2, .int 0), (0, .ref 0), (1, .int 0)]) (st2 := [.long 0, .int 8, .ref 11]) rfl rfl ?_
  refine mB hT 19 rfl ?_
  refine mB hT 19 rfl ?_
  refine mNf (lv2 := [(3, .int 10), (2, .int 0), (0, .ref 0), (1, .int 0)]) (st2 := [.long (ta 10), .int 10, .ref 11]) rfl rfl ?_
  refine mB hT 1 rfl ?_
  refine mWd (w2 := (MW 0 vs wo u h bo ta (up (up (up (up (up (up (up (up (up (up (up tr 0 0) 1 (ta 1)) 2 (ta 2)) 3 (ta 3)) 4 0) 5 (ta 5)) 6 (ta 6)) 7 (ta 7)) 8 0) 9 (ta 9)) 10 (ta 10)) ro ot Bm bk)) rfl ?_
  refine mB hT 18 rfl ?_
  refine mB hT 21 rfl ?_
  refine mNf (lv2 := [(3, .int 12), (2, .int 0), (0, .ref 0), (1, .int 0)]) (st2 := [.long 0, .int 12, .ref 11]) rfl rfl ?_
  refine mB hT 19 rfl ?_
  refine mB hT 1 rfl ?_
  refine mWd (w2 := (MW 0 vs wo u h bo ta (up (up (up (up (up (up (up (up (up (up (up (up (up (up tr 0 0) 1 (ta 1)) 2 (ta 2)) 3 (ta 3)) 4 0) 5 (ta 5)) 6 (ta 6)) 7 (ta 7)) 8 0) 9 (ta 9)) 10 (ta 10)) 11 (ta 11)) 12 0) 13 (ta 13)) ro ot Bm bk)) rfl ?_
  refine mB hT 18 rfl ?_
  refine mNf (lv2 := [(3, .int 14), (2, .int 0), (0, .ref 0), (1, .int 0)]) (st2 := [.long (ta 14), .int 14, .ref 11]) rfl rfl ?_
  refine mB hT 19 rfl ?_
  refine mB hT 14 rfl ?_
  refine mIf (fun hp => absurd hp (fun q => Int64.not_lt.mpr (lc_ge.mp q) hs)) (fun _ => ?_)
  refine mNf (lv2 := [(3, .int 16), (2, .int 0), (0, .ref 0), (1, .int 0)]) (st2 := [.int 0, .ref 12]) rfl rfl ?_
  refine mB hT 1 rfl ?_
  refine mWd (w2 := (MW 0 vs wo u h bo ta (up (up (up (up (up (up (up (up (up (up (up (up (up (up (up (up tr 0 0) 1 (ta 1)) 2 (ta 2)) 3 (ta 3)) 4 0) 5 (ta 5)) 6 (ta 6)) 7 (ta 7)) 8 0) 9 (ta 9)) 10 (ta 10)) 11 (ta 11)) 12 0) 13 (ta 13)) 14 (ta 14)) 15 (ta 15)) ro ot Bm bk)) rfl ?_
  refine mWd (w2 := (MW 0 vs wo u h bo ta (tsM 0 ta 0 hh) ro ot Bm bk)) rfl ?_
  refine hC.1 _ 0 [] _ _ _ _ _ (m_det) rfl rfl (Nat.le_of_ble_eq_true rfl) rfl ?_
  refine mB hT 2 rfl ?_
  refine mNf (lv2 := [(3, .int 16), (2, .int 0), (0, .ref 0), (1, .int 0)]) (st2 := [.long (rr 0), .int 0, .ref 12]) rfl (by rw [hrr 0] <;> rfl) ?_
  refine mB hT 24 rfl ?_
  refine mNf (lv2 := [(3, .int 0), (2, .int 1), (0, .ref 0), (1, .int 0)]) (st2 := [.long (ta 0), .int 0, .ref 11]) rfl rfl ?_
  refine mB hT 21 rfl ?_
  refine mB hT 1 rfl ?_
  refine mWd (w2 := (MW 0 vs wo u h bo ta (up (up (tsM 0 ta 0 hh) 0 (ta 0)) 1 0) (up ro 0 (rr 0)) ot Bm bk)) rfl ?_
  refine mB hT 18 rfl ?_
  refine mNf (lv2 := [(3, .int 2), (2, .int 1), (0, .ref 0), (1, .int 0)]) (st2 := [.long (ta 2), .int 2, .ref 11]) rfl rfl ?_
  refine mB hT 19 rfl ?_
  refine mB hT 19 rfl ?_
  refine mNf (lv2 := [(3, .int 4), (2, .int 1), (0, .ref 0), (1, .int 0)]) (st2 := [.long (ta 4), .int 4, .ref 11]) rfl rfl ?_
  refine mB hT 1 rfl ?_
  refine mWd (w2 := (MW 0 vs wo u h bo ta (up (up (up (up (up (tsM 0 ta 0 hh) 0 (ta 0)) 1 0) 2 (ta 2)) 3 (ta 3)) 4 (ta 4)) (up ro 0 (rr 0)) ot Bm bk)) rfl ?_
  refine mB hT 20 rfl ?_
  refine mB hT 19 rfl ?_
  refine mNf (lv2 := [(3, .int 6), (2, .int 1), (0, .ref 0), (1, .int 0)]) (st2 := [.long (ta 6), .int 6, .ref 11]) rfl rfl ?_
  refine mB hT 19 rfl ?_
  refine mB hT 1 rfl ?_
  refine mWd (w2 := (MW 0 vs wo u h bo ta (up (up (up (up (up (up (up (up (tsM 0 ta 0 hh) 0 (ta 0)) 1 0) 2 (ta 2)) 3 (ta 3)) 4 (ta 4)) 5 0) 6 (ta 6)) 7 (ta 7)) (up ro 0 (rr 0)) ot Bm bk)) rfl ?_
  refine mB hT 18 rfl ?_
  refine mNf (lv2 := [(3, .int 8), (2, .int 1), (0, .ref 0), (1, .int 0)]) (st2 := [.long (ta 8), .int 8, .ref 11]) rfl rfl ?_
  refine mB hT 21 rfl ?_
  refine mB hT 19 rfl ?_
  refine mNf (lv2 := [(3, .int 10), (2, .int 1), (0, .ref 0), (1, .int 0)]) (st2 := [.long (ta 10), .int 10, .ref 11]) rfl rfl ?_
  refine mB hT 1 rfl ?_
  refine mWd (w2 := (MW 0 vs wo u h bo ta (up (up (up (up (up (up (up (up (up (up (up (tsM 0 ta 0 hh) 0 (ta 0)) 1 0) 2 (ta 2)) 3 (ta 3)) 4 (ta 4)) 5 0) 6 (ta 6)) 7 (ta 7)) 8 (ta 8)) 9 0) 10 (ta 10)) (up ro 0 (rr 0)) ot Bm bk)) rfl ?_
  refine mB hT 18 rfl ?_
  refine mB hT 19 rfl ?_
  refine mNf (lv2 := [(3, .int 12), (2, .int 1), (0, .ref 0), (1, .int 0)]) (st2 := [.long (ta 12), .int 12, .ref 11]) rfl rfl ?_
  refine mB hT 21 rfl ?_
  refine mB hT 1 rfl ?_
  refine mWd (w2 := (MW 0 vs wo u h bo ta (up (up (up (up (up (up (up (up (up (up (up (up (up (up (tsM 0 ta 0 hh) 0 (ta 0)) 1 0) 2 (ta 2)) 3 (ta 3)) 4 (ta 4)) 5 0) 6 (ta 6)) 7 (ta 7)) 8 (ta 8)) 9 0) 10 (ta 10)) 11 (ta 11)) 12 (ta 12)) 13 0) (up ro 0 (rr 0)) ot Bm bk)) rfl ?_
  refine mB hT 18 rfl ?_
  refine mNf (lv2 := [(3, .int 14), (2, .int 1), (0, .ref 0), (1, .int 0)]) (st2 := [.long (ta 14), .int 14, .ref 11]) rfl rfl ?_
  refine mB hT 19 rfl ?_
  refine mB hT 14 rfl ?_
  refine mIf (fun hp => absurd hp (fun q => Int64.not_lt.mpr (lc_ge.mp q) hs)) (fun _ => ?_)
  refine mNf (lv2 := [(3, .int 16), (2, .int 1), (0, .ref 0), (1, .int 0)]) (st2 := [.int 1, .ref 12]) rfl rfl ?_
  refine mB hT 1 rfl ?_
  refine mWd (w2 := (MW 0 vs wo u h bo ta (up (up (up (up (up (up (up (up (up (up (up (up (up (up (up (up (tsM 0 ta 0 hh) 0 (ta 0)) 1 0) 2 (ta 2)) 3 (ta 3)) 4 (ta 4)) 5 0) 6 (ta 6)) 7 (ta 7)) 8 (ta 8)) 9 0) 10 (ta 10)) 11 (ta 11)) 12 (ta 12)) 13 0) 14 (ta 14)) 15 (ta 15)) (up ro 0 (rr 0)) ot Bm bk)) rfl ?_
  refine mWd (w2 := (MW 0 vs wo u h bo ta (tsM 0 ta 1 hh) (up ro 0 (rr 0)) ot Bm bk)) rfl ?_
  refine hC.1 _ 0 [] _ _ _ _ _ (m_det) rfl rfl (Nat.le_of_ble_eq_true rfl) rfl ?_
  refine mB hT 2 rfl ?_
  refine mNf (lv2 := [(3, .int 16), (2, .int 1), (0, .ref 0), (1, .int 0)]) (st2 := [.long (rr 1), .int 1, .ref 12]) rfl (by rw [hrr 1] <;> rfl) ?_
  refine mB hT 24 rfl ?_
  refine mNf (lv2 := [(3, .int 0), (2, .int 2), (0, .ref 0), (1, .int 0)]) (st2 := [.long (ta 0), .int 0, .ref 11]) rfl rfl ?_
  refine mB hT 19 rfl ?_
  refine mB hT 1 rfl ?_
  refine mWd (w2 := (MW 0 vs wo u h bo ta (up (up (tsM 0 ta 1 hh) 0 (ta 0)) 1 (ta 1)) (up (up ro 0 (rr 0)) 1 (rr 1)) ot Bm bk)) rfl ?_
  refine mB hT 20 rfl ?_
  refine mNf (lv2 := [(3, .int 2), (2, .int 2), (0, .ref 0), (1, .int 0)]) (st2 := [.long 0, .int 2, .ref 11]) rfl rfl ?_
  refine mB hT 19 rfl ?_
  refine mB hT 19 rfl ?_
  refine mNf (lv2 := [(3, .int 4), (2, .int 2), (0, .ref 0), (1, .int 0)]) (st2 := [.long (ta 4), .int 4, .ref 11]) rfl rfl ?_
  refine mB hT 1 rfl ?_
  refine mWd (w2 := (MW 0 vs wo u h bo ta (up (up (up (up (up (tsM 0 ta 1 hh) 0 (ta 0)) 1 (ta 1)) 2 0) 3 (ta 3)) 4 (ta 4)) (up (up ro 0 (rr 0)) 1 (rr 1)) ot Bm bk)) rfl ?_
  refine mB hT 18 rfl ?_
  refine mB hT 21 rfl ?_
  refine mNf (lv2 := [(3, .int 6), (2, .int 2), (0, .ref 0), (1, .int 0)]) (st2 := [.long 0, .int 6, .ref 11]) rfl rfl ?_
  refine mB hT 19 rfl ?_
  refine mB hT 1 rfl ?_
  refine mWd (w2 := (MW 0 vs wo u h bo ta (up (up (up (up (up (up (up (up (tsM 0 ta 1 hh) 0 (ta 0)) 1 (ta 1)) 2 0) 3 (ta 3)) 4 (ta 4)) 5 (ta 5)) 6 0) 7 (ta 7)) (up (up ro 0 (rr 0)) 1 (rr 1)) ot Bm bk)) rfl ?_
  refine mB hT 18 rfl ?_
  refine mNf (lv2 := [(3, .int 8), (2, .int 2), (0, .ref 0), (1, .int 0)]) (st2 := [.long (ta 8), .int 8, .ref 11]) rfl rfl ?_
  refine mB hT 19 rfl ?_
  refine mB hT 21 rfl ?_
  refine mNf (lv2 := [(3, .int 10), (2, .int 2), (0, .ref 0), (1, .int 0)]) (st2 := [.long 0, .int 10, .ref 11]) rfl rfl ?_
  refine mB hT 1 rfl ?_
  refine mWd (w2 := (MW 0 vs wo u h bo ta (up (up (up (up (up (up (up (up (up (up (up (tsM 0 ta 1 hh) 0 (ta 0)) 1 (ta 1)) 2 0) 3 (ta 3)) 4 (ta 4)) 5 (ta 5)) 6 0) 7 (ta 7)) 8 (ta 8)) 9 (ta 9)) 10 0) (up (up ro 0 (rr 0)) 1 (rr 1)) ot Bm bk)) rfl ?_
  refine mB hT 18 rfl ?_
  refine mB hT 19 rfl ?_
  refine mNf (lv2 := [(3, .int 12), (2, .int 2), (0, .ref 0), (1, .int 0)]) (st2 := [.long (ta 12), .int 12, .ref 11]) rfl rfl ?_
  refine mB hT 19 rfl ?_
  refine mB hT 1 rfl ?_
  refine mWd (w2 := (MW 0 vs wo u h bo ta (up (up (up (up (up (up (up (up (up (up (up (up (up (up (tsM 0 ta 1 hh) 0 (ta 0)) 1 (ta 1)) 2 0) 3 (ta 3)) 4 (ta 4)) 5 (ta 5)) 6 0) 7 (ta 7)) 8 (ta 8)) 9 (ta 9)) 10 0) 11 (ta 11)) 12 (ta 12)) 13 (ta 13)) (up (up ro 0 (rr 0)) 1 (rr 1)) ot Bm bk)) rfl ?_
  refine mB hT 20 rfl ?_
  refine mNf (lv2 := [(3, .int 14), (2, .int 2), (0, .ref 0), (1, .int 0)]) (st2 := [.long 0, .int 14, .ref 11]) rfl rfl ?_
  refine mB hT 19 rfl ?_
  refine mB hT 14 rfl ?_
  refine mIf (fun hp => absurd hp (fun q => Int64.not_lt.mpr (lc_ge.mp q) hs)) (fun _ => ?_)
  refine mNf (lv2 := [(3, .int 16), (2, .int 2), (0, .ref 0), (1, .int 0)]) (st2 := [.int 2, .ref 12]) rfl rfl ?_
  refine mB hT 1 rfl ?_
  refine mWd (w2 := (MW 0 vs wo u h bo ta (up (up (up (up (up (up (up (up (up (up (up (up (up (up (up (up (tsM 0 ta 1 hh) 0 (ta 0)) 1 (ta 1)) 2 0) 3 (ta 3)) 4 (ta 4)) 5 (ta 5)) 6 0) 7 (ta 7)) 8 (ta 8)) 9 (ta 9)) 10 0) 11 (ta 11)) 12 (ta 12)) 13 (ta 13)) 14 0) 15 (ta 15)) (up (up ro 0 (rr 0)) 1 (rr 1)) ot Bm bk)) rfl ?_
  refine mWd (w2 := (MW 0 vs wo u h bo ta (tsM 0 ta 2 hh) (up (up ro 0 (rr 0)) 1 (rr 1)) ot Bm bk)) rfl ?_
  refine hC.1 _ 0 [] _ _ _ _ _ (m_det) rfl rfl (Nat.le_of_ble_eq_true rfl) rfl ?_
  refine mB hT 2 rfl ?_
  refine mNf (lv2 := [(3, .int 16), (2, .int 2), (0, .ref 0), (1, .int 0)]) (st2 := [.long (rr 2), .int 2, .ref 12]) rfl (by rw [hrr 2] <;> rfl) ?_
  refine mB hT 24 rfl ?_
  refine mNf (lv2 := [(3, .int 0), (2, .int 3), (0, .ref 0), (1, .int 0)]) (st2 := [.long (ta 0), .int 0, .ref 11]) rfl rfl ?_
  refine mB hT 19 rfl ?_
  refine mB hT 1 rfl ?_
  refine mWd (w2 := (MW 0 vs wo u h bo ta (up (up (tsM 0 ta 2 hh) 0 (ta 0)) 1 (ta 1)) (up (up (up ro 0 (rr 0)) 1 (rr 1)) 2 (rr 2)) ot Bm bk)) rfl ?_
  refine mB hT 18 rfl ?_
  refine mNf (lv2 := [(3, .int 2), (2, .int 3), (0, .ref 0), (1, .int 0)]) (st2 := [.long (ta 2), .int 2, .ref 11]) rfl rfl ?_
  refine mB hT 21 rfl ?_
  refine mB hT 19 rfl ?_
  refine mNf (lv2 := [(3, .int 4), (2, .int 3), (0, .ref 0), (1, .int 0)]) (st2 := [.long (ta 4), .int 4, .ref 11]) rfl rfl ?_
  refine mB hT 1 rfl ?_
  refine mWd (w2 := (MW 0 vs wo u h bo ta (up (up (up (up (up (tsM 0 ta 2 hh) 0 (ta 0)) 1 (ta 1)) 2 (ta 2)) 3 0) 4 (ta 4)) (up (up (up ro 0 (rr 0)) 1 (rr 1)) 2 (rr 2)) ot Bm bk)) rfl ?_
  refine mB hT 18 rfl ?_
  refine mB hT 19 rfl ?_
  refine mNf (lv2 := [(3, .int 6), (2, .int 3), (0, .ref 0), (1, .int 0)]) (st2 := [.long (ta 6), .int 6, .ref 11]) rfl rfl ?_
  refine mB hT 21 rfl ?_
  refine mB hT 1 rfl ?_
  refine mWd (w2 := (MW 0 vs wo u h bo ta (up (up (up (up (up (up (up (up (tsM 0 ta 2 hh) 0 (ta 0)) 1 (ta 1)) 2 (ta 2)) 3 0) 4 (ta 4)) 5 (ta 5)) 6 (ta 6)) 7 0) (up (up (up ro 0 (rr 0)) 1 (rr 1)) 2 (rr 2)) ot Bm bk)) rfl ?_
  refine mB hT 18 rfl ?_
  refine mNf (lv2 := [(3, .int 8), (2, .int 3), (0, .ref 0), (1, .int 0)]) (st2 := [.long (ta 8), .int 8, .ref 11]) rfl rfl ?_
  refine mB hT 19 rfl ?_
  refine mB hT 19 rfl ?_
  refine mNf (lv2 := [(3, .int 10), (2, .int 3), (0, .ref 0), (1, .int 0)]) (st2 := [.long (ta 10), .int 10, .ref 11]) rfl rfl ?_
  refine mB hT 1 rfl ?_
  refine mWd (w2 := (MW 0 vs wo u h bo ta (up (up (up (up (up (up (up (up (up (up (up (tsM 0 ta 2 hh) 0 (ta 0)) 1 (ta 1)) 2 (ta 2)) 3 0) 4 (ta 4)) 5 (ta 5)) 6 (ta 6)) 7 0) 8 (ta 8)) 9 (ta 9)) 10 (ta 10)) (up (up (up ro 0 (rr 0)) 1 (rr 1)) 2 (rr 2)) ot Bm bk)) rfl ?_
  refine mB hT 20 rfl ?_
  refine mB hT 19 rfl ?_
  refine mNf (lv2 := [(3, .int 12), (2, .int 3), (0, .ref 0), (1, .int 0)]) (st2 := [.long (ta 12), .int 12, .ref 11]) rfl rfl ?_
  refine mB hT 19 rfl ?_
  refine mB hT 1 rfl ?_
  refine mWd (w2 := (MW 0 vs wo u h bo ta (up (up (up (up (up (up (up (up (up (up (up (up (up (up (tsM 0 ta 2 hh) 0 (ta 0)) 1 (ta 1)) 2 (ta 2)) 3 0) 4 (ta 4)) 5 (ta 5)) 6 (ta 6)) 7 0) 8 (ta 8)) 9 (ta 9)) 10 (ta 10)) 11 0) 12 (ta 12)) 13 (ta 13)) (up (up (up ro 0 (rr 0)) 1 (rr 1)) 2 (rr 2)) ot Bm bk)) rfl ?_
  refine mB hT 18 rfl ?_
  refine mNf (lv2 := [(3, .int 14), (2, .int 3), (0, .ref 0), (1, .int 0)]) (st2 := [.long (ta 14), .int 14, .ref 11]) rfl rfl ?_
  refine mB hT 21 rfl ?_
  refine mB hT 14 rfl ?_
  refine mIf (fun hp => absurd hp (fun q => Int64.not_lt.mpr (lc_ge.mp q) hs)) (fun _ => ?_)
  refine mNf (lv2 := [(3, .int 16), (2, .int 3), (0, .ref 0), (1, .int 0)]) (st2 := [.int 3, .ref 12]) rfl rfl ?_
  refine mB hT 1 rfl ?_
  refine mWd (w2 := (MW 0 vs wo u h bo ta (up (up (up (up (up (up (up (up (up (up (up (up (up (up (up (up (tsM 0 ta 2 hh) 0 (ta 0)) 1 (ta 1)) 2 (ta 2)) 3 0) 4 (ta 4)) 5 (ta 5)) 6 (ta 6)) 7 0) 8 (ta 8)) 9 (ta 9)) 10 (ta 10)) 11 0) 12 (ta 12)) 13 (ta 13)) 14 (ta 14)) 15 0) (up (up (up ro 0 (rr 0)) 1 (rr 1)) 2 (rr 2)) ot Bm bk)) rfl ?_
  refine mWd (w2 := (MW 0 vs wo u h bo ta (tsM 0 ta 3 hh) (up (up (up ro 0 (rr 0)) 1 (rr 1)) 2 (rr 2)) ot Bm bk)) rfl ?_
  refine hC.1 _ 0 [] _ _ _ _ _ (m_det) rfl rfl (Nat.le_of_ble_eq_true rfl) rfl ?_
  refine mB hT 2 rfl ?_
  refine mNf (lv2 := [(3, .int 16), (2, .int 3), (0, .ref 0), (1, .int 0)]) (st2 := [.long (rr 3), .int 3, .ref 12]) rfl (by rw [hrr 3] <;> rfl) ?_
  refine mB hT 6 rfl ?_
  exact hR _ (by decide) _ _ _ rfl rfl
set_option maxRecDepth 20000 in
theorem m_solve_0_1p {vs : Int32} {wo un h : Int64} {bo : Nat → Int32} {ta tr ro ot : Nat → Int64} {Bm : Nat → Nat → Nat → Int32} {bk : Nat → Nat → Int32} {u : Int64} {hh rr : Nat → Int64} (hs : ¬ wo < 0) (hu : u = wo) (hq : ∀ j : Nat, hh j = (bk 1 j).toInt64) (hrr : ∀ i : Nat, rr i = dtM (tsM 0 ta i hh)) : KX3_solve l D ca ad [.ref 0, .int 1] (MW 0 vs wo un h bo ta tr ro ot Bm bk) none (MW 0 vs wo u h bo ta (tsM 0 ta 3 hh) rr ot Bm bk) := by
  refine PX3_solve (Nat.le_of_ble_eq_true rfl) ?_
  intro G hT hC hR
  refine mB hT 6 rfl ?_
  refine mIf (fun _ => ?_) (fun hn => absurd (lc_ge.mpr (Int64.not_lt.mp hs)) hn)
  refine mB hT 2 rfl ?_
  refine mNf (lv2 := [(0, .ref 0), (1, .int 1)]) (st2 := [.long u, .ref 0]) rfl (by rw [hu] <;> rfl) ?_
  refine mB hT 26 rfl ?_
  refine mNf (lv2 := [(3, .int 0), (2, .int 0), (0, .ref 0), (1, .int 1)]) (st2 := [.long 0, .int 0, .ref 11]) rfl rfl ?_
  refine mB hT 19 rfl ?_
  refine mB hT 1 rfl ?_
  refine mWd (w2 := (MW 0 vs wo u h bo ta (up (up tr 0 0) 1 (ta 1)) ro ot Bm bk)) rfl ?_
  refine mB hT 18 rfl ?_
  refine mNf (lv2 := [(3, .int 2), (2, .int 0), (0, .ref 0), (1, .int 1)]) (st2 := [.long (ta 2), .int 2, .ref 11]) rfl rfl ?_
  refine mB hT 19 rfl ?_
  refine mB hT 21 rfl ?_
  refine mNf (lv2 := [(3, .int 4), (2, .int 0), (0, .ref 0), (1, .int 1)]) (st2 := [.long 0, .int 4, .ref 11]) rfl rfl ?_
  refine mB hT 1 rfl ?_
  refine mWd (w2 := (MW 0 vs wo u h bo ta (up (up (up (up (up tr 0 0) 1 (ta 1)) 2 (ta 2)) 3 (ta 3)) 4 0) ro ot Bm bk)) rfl ?_
  refine mB hT 18 rfl ?_
  refine mB hT 19 rfl ?_
  refine mNf (lv2 := [(3, .int 6), (2, .int 0), (0, .ref 0), (1, .int 1)]) (st2 := [.long (ta 6), .int 6, .ref 11]) rfl rfl ?_
  refine mB hT 19 rfl ?_
  refine mB hT 1 rfl ?_
  refine mWd (w2 := (MW 0 vs wo u h bo ta (up (up (up (up (up (up (up (up tr 0 0) 1 (ta 1)) 2 (ta 2)) 3 (ta 3)) 4 0) 5 (ta 5)) 6 (ta 6)) 7 (ta 7)) ro ot Bm bk)) rfl ?_
  refine mB hT 20 rfl ?_
  refine mNf (lv2 := [(3, .int 8), (2, .int 0), (0, .ref 0), (1, .int 1)]) (st2 := [.long 0, .int 8, .ref 11]) rfl rfl ?_
  refine mB hT 19 rfl ?_
  refine mB hT 19 rfl ?_
  refine mNf (lv2 := [(3, .int 10), (2, .int 0), (0, .ref 0), (1, .int 1)]) (st2 := [.long (ta 10), .int 10, .ref 11]) rfl rfl ?_
  refine mB hT 1 rfl ?_
  refine mWd (w2 := (MW 0 vs wo u h bo ta (up (up (up (up (up (up (up (up (up (up (up tr 0 0) 1 (ta 1)) 2 (ta 2)) 3 (ta 3)) 4 0) 5 (ta 5)) 6 (ta 6)) 7 (ta 7)) 8 0) 9 (ta 9)) 10 (ta 10)) ro ot Bm bk)) rfl ?_
  refine mB hT 18 rfl ?_
  refine mB hT 21 rfl ?_
  refine mNf (lv2 := [(3, .int 12), (2, .int 0), (0, .ref 0), (1, .int 1)]) (st2 := [.long 0, .int 12, .ref 11]) rfl rfl ?_
  refine mB hT 19 rfl ?_
  refine mB hT 1 rfl ?_
  refine mWd (w2 := (MW 0 vs wo u h bo ta (up (up (up (up (up (up (up (up (up (up (up (up (up (up tr 0 0) 1 (ta 1)) 2 (ta 2)) 3 (ta 3)) 4 0) 5 (ta 5)) 6 (ta 6)) 7 (ta 7)) 8 0) 9 (ta 9)) 10 (ta 10)) 11 (ta 11)) 12 0) 13 (ta 13)) ro ot Bm bk)) rfl ?_
  refine mB hT 18 rfl ?_
  refine mNf (lv2 := [(3, .int 14), (2, .int 0), (0, .ref 0), (1, .int 1)]) (st2 := [.long (ta 14), .int 14, .ref 11]) rfl rfl ?_
  refine mB hT 19 rfl ?_
  refine mB hT 14 rfl ?_
  refine mIf (fun _ => ?_) (fun hn => absurd (lc_ge.mpr (Int64.not_lt.mp hs)) hn)
  refine mNf (lv2 := [(3, .int 16), (2, .int 0), (0, .ref 0), (1, .int 1)]) (st2 := [.int 0, .ref 12]) rfl rfl ?_
  refine mB hT 1 rfl ?_
  refine mWd (w2 := (MW 0 vs wo u h bo ta (up (up (up (up (up (up (up (up (up (up (up (up (up (up (up (up tr 0 0) 1 (ta 1)) 2 (ta 2)) 3 (ta 3)) 4 0) 5 (ta 5)) 6 (ta 6)) 7 (ta 7)) 8 0) 9 (ta 9)) 10 (ta 10)) 11 (ta 11)) 12 0) 13 (ta 13)) 14 (ta 14)) 15 (ta 15)) ro ot Bm bk)) rfl ?_
  refine mWd (w2 := (MW 0 vs wo u h bo ta (tsM 0 ta 0 hh) ro ot Bm bk)) rfl ?_
  refine hC.2 _ 0 [] _ _ _ _ _ (m_det) rfl rfl (Nat.le_of_ble_eq_true rfl) rfl ?_
  refine mNf (lv2 := [(3, .int 16), (2, .int 0), (0, .ref 0), (1, .int 1)]) (st2 := [.long (rr 0), .int 0, .ref 12]) rfl (by rw [hrr 0] <;> rfl) ?_
  refine mB hT 24 rfl ?_
  refine mNf (lv2 := [(3, .int 0), (2, .int 1), (0, .ref 0), (1, .int 1)]) (st2 := [.long (ta 0), .int 0, .ref 11]) rfl rfl ?_
  refine mB hT 21 rfl ?_
  refine mB hT 1 rfl ?_
  refine mWd (w2 := (MW 0 vs wo u h bo ta (up (up (tsM 0 ta 0 hh) 0 (ta 0)) 1 0) (up ro 0 (rr 0)) ot Bm bk)) rfl ?_
  refine mB hT 18 rfl ?_
  refine mNf (lv2 := [(3, .int 2), (2, .int 1), (0, .ref 0), (1, .int 1)]) (st2 := [.long (ta 2), .int 2, .ref 11]) rfl rfl ?_
  refine mB hT 19 rfl ?_
  refine mB hT 19 rfl ?_
  refine mNf (lv2 := [(3, .int 4), (2, .int 1), (0, .ref 0), (1, .int 1)]) (st2 := [.long (ta 4), .int 4, .ref 11]) rfl rfl ?_
  refine mB hT 1 rfl ?_
  refine mWd (w2 := (MW 0 vs wo u h bo ta (up (up (up (up (up (tsM 0 ta 0 hh) 0 (ta 0)) 1 0) 2 (ta 2)) 3 (ta 3)) 4 (ta 4)) (up ro 0 (rr 0)) ot Bm bk)) rfl ?_
  refine mB hT 20 rfl ?_
  refine mB hT 19 rfl ?_
  refine mNf (lv2 := [(3, .int 6), (2, .int 1), (0, .ref 0), (1, .int 1)]) (st2 := [.long (ta 6), .int 6, .ref 11]) rfl rfl ?_
  refine mB hT 19 rfl ?_
  refine mB hT 1 rfl ?_
  refine mWd (w2 := (MW 0 vs wo u h bo ta (up (up (up (up (up (up (up (up (tsM 0 ta 0 hh) 0 (ta 0)) 1 0) 2 (ta 2)) 3 (ta 3)) 4 (ta 4)) 5 0) 6 (ta 6)) 7 (ta 7)) (up ro 0 (rr 0)) ot Bm bk)) rfl ?_
  refine mB hT 18 rfl ?_
  refine mNf (lv2 := [(3, .int 8), (2, .int 1), (0, .ref 0), (1, .int 1)]) (st2 := [.long (ta 8), .int 8, .ref 11]) rfl rfl ?_
  refine mB hT 21 rfl ?_
  refine mB hT 19 rfl ?_
  refine mNf (lv2 := [(3, .int 10), (2, .int 1), (0, .ref 0), (1, .int 1)]) (st2 := [.long (ta 10), .int 10, .ref 11]) rfl rfl ?_
  refine mB hT 1 rfl ?_
  refine mWd (w2 := (MW 0 vs wo u h bo ta (up (up (up (up (up (up (up (up (up (up (up (tsM 0 ta 0 hh) 0 (ta 0)) 1 0) 2 (ta 2)) 3 (ta 3)) 4 (ta 4)) 5 0) 6 (ta 6)) 7 (ta 7)) 8 (ta 8)) 9 0) 10 (ta 10)) (up ro 0 (rr 0)) ot Bm bk)) rfl ?_
  refine mB hT 18 rfl ?_
  refine mB hT 19 rfl ?_
  refine mNf (lv2 := [(3, .int 12), (2, .int 1), (0, .ref 0), (1, .int 1)]) (st2 := [.long (ta 12), .int 12, .ref 11]) rfl rfl ?_
  refine mB hT 21 rfl ?_
  refine mB hT 1 rfl ?_
  refine mWd (w2 := (MW 0 vs wo u h bo ta (up (up (up (up (up (up (up (up (up (up (up (up (up (up (tsM 0 ta 0 hh) 0 (ta 0)) 1 0) 2 (ta 2)) 3 (ta 3)) 4 (ta 4)) 5 0) 6 (ta 6)) 7 (ta 7)) 8 (ta 8)) 9 0) 10 (ta 10)) 11 (ta 11)) 12 (ta 12)) 13 0) (up ro 0 (rr 0)) ot Bm bk)) rfl ?_
  refine mB hT 18 rfl ?_
  refine mNf (lv2 := [(3, .int 14), (2, .int 1), (0, .ref 0), (1, .int 1)]) (st2 := [.long (ta 14), .int 14, .ref 11]) rfl rfl ?_
  refine mB hT 19 rfl ?_
  refine mB hT 14 rfl ?_
  refine mIf (fun _ => ?_) (fun hn => absurd (lc_ge.mpr (Int64.not_lt.mp hs)) hn)
  refine mNf (lv2 := [(3, .int 16), (2, .int 1), (0, .ref 0), (1, .int 1)]) (st2 := [.int 1, .ref 12]) rfl rfl ?_
  refine mB hT 1 rfl ?_
  refine mWd (w2 := (MW 0 vs wo u h bo ta (up (up (up (up (up (up (up (up (up (up (up (up (up (up (up (up (tsM 0 ta 0 hh) 0 (ta 0)) 1 0) 2 (ta 2)) 3 (ta 3)) 4 (ta 4)) 5 0) 6 (ta 6)) 7 (ta 7)) 8 (ta 8)) 9 0) 10 (ta 10)) 11 (ta 11)) 12 (ta 12)) 13 0) 14 (ta 14)) 15 (ta 15)) (up ro 0 (rr 0)) ot Bm bk)) rfl ?_
  refine mWd (w2 := (MW 0 vs wo u h bo ta (tsM 0 ta 1 hh) (up ro 0 (rr 0)) ot Bm bk)) rfl ?_
  refine hC.2 _ 0 [] _ _ _ _ _ (m_det) rfl rfl (Nat.le_of_ble_eq_true rfl) rfl ?_
  refine mNf (lv2 := [(3, .int 16), (2, .int 1), (0, .ref 0), (1, .int 1)]) (st2 := [.long (rr 1), .int 1, .ref 12]) rfl (by rw [hrr 1] <;> rfl) ?_
  refine mB hT 24 rfl ?_
  refine mNf (lv2 := [(3, .int 0), (2, .int 2), (0, .ref 0), (1, .int 1)]) (st2 := [.long (ta 0), .int 0, .ref 11]) rfl rfl ?_
  refine mB hT 19 rfl ?_
  refine mB hT 1 rfl ?_
  refine mWd (w2 := (MW 0 vs wo u h bo ta (up (up (tsM 0 ta 1 hh) 0 (ta 0)) 1 (ta 1)) (up (up ro 0 (rr 0)) 1 (rr 1)) ot Bm bk)) rfl ?_
  refine mB hT 20 rfl ?_
  refine mNf (lv2 := [(3, .int 2), (2, .int 2), (0, .ref 0), (1, .int 1)]) (st2 := [.long 0, .int 2, .ref 11]) rfl rfl ?_
  refine mB hT 19 rfl ?_
  refine mB hT 19 rfl ?_
  refine mNf (lv2 := [(3, .int 4), (2, .int 2), (0, .ref 0), (1, .int 1)]) (st2 := [.long (ta 4), .int 4, .ref 11]) rfl rfl ?_
  refine mB hT 1 rfl ?_
  refine mWd (w2 := (MW 0 vs wo u h bo ta (up (up (up (up (up (tsM 0 ta 1 hh) 0 (ta 0)) 1 (ta 1)) 2 0) 3 (ta 3)) 4 (ta 4)) (up (up ro 0 (rr 0)) 1 (rr 1)) ot Bm bk)) rfl ?_
  refine mB hT 18 rfl ?_
  refine mB hT 21 rfl ?_
  refine mNf (lv2 := [(3, .int 6), (2, .int 2), (0, .ref 0), (1, .int 1)]) (st2 := [.long 0, .int 6, .ref 11]) rfl rfl ?_
  refine mB hT 19 rfl ?_
  refine mB hT 1 rfl ?_
  refine mWd (w2 := (MW 0 vs wo u h bo ta (up (up (up (up (up (up (up (up (tsM 0 ta 1 hh) 0 (ta 0)) 1 (ta 1)) 2 0) 3 (ta 3)) 4 (ta 4)) 5 (ta 5)) 6 0) 7 (ta 7)) (up (up ro 0 (rr 0)) 1 (rr 1)) ot Bm bk)) rfl ?_
  refine mB hT 18 rfl ?_
  refine mNf (lv2 := [(3, .int 8), (2, .int 2), (0, .ref 0), (1, .int 1)]) (st2 := [.long (ta 8), .int 8, .ref 11]) rfl rfl ?_
  refine mB hT 19 rfl ?_
  refine mB hT 21 rfl ?_
  refine mNf (lv2 := [(3, .int 10), (2, .int 2), (0, .ref 0), (1, .int 1)]) (st2 := [.long 0, .int 10, .ref 11]) rfl rfl ?_
  refine mB hT 1 rfl ?_
  refine mWd (w2 := (MW 0 vs wo u h bo ta (up (up (up (up (up (up (up (up (up (up (up (tsM 0 ta 1 hh) 0 (ta 0)) 1 (ta 1)) 2 0) 3 (ta 3)) 4 (ta 4)) 5 (ta 5)) 6 0) 7 (ta 7)) 8 (ta 8)) 9 (ta 9)) 10 0) (up (up ro 0 (rr 0)) 1 (rr 1)) ot Bm bk)) rfl ?_
  refine mB hT 18 rfl ?_
  refine mB hT 19 rfl ?_
  refine mNf (lv2 := [(3, .int 12), (2, .int 2), (0, .ref 0), (1, .int 1)]) (st2 := [.long (ta 12), .int 12, .ref 11]) rfl rfl ?_
  refine mB hT 19 rfl ?_
  refine mB hT 1 rfl ?_
  refine mWd (w2 := (MW 0 vs wo u h bo ta (up (up (up (up (up (up (up (up (up (up (up (up (up (up (tsM 0 ta 1 hh) 0 (ta 0)) 1 (ta 1)) 2 0) 3 (ta 3)) 4 (ta 4)) 5 (ta 5)) 6 0) 7 (ta 7)) 8 (ta 8)) 9 (ta 9)) 10 0) 11 (ta 11)) 12 (ta 12)) 13 (ta 13)) (up (up ro 0 (rr 0)) 1 (rr 1)) ot Bm bk)) rfl ?_
  refine mB hT 20 rfl ?_
  refine mNf (lv2 := [(3, .int 14), (2, .int 2), (0, .ref 0), (1, .int 1)]) (st2 := [.long 0, .int 14, .ref 11]) rfl rfl ?_
  refine mB hT 19 rfl ?_
  refine mB hT 14 rfl ?_
  refine mIf (fun _ => ?_) (fun hn => absurd (lc_ge.mpr (Int64.not_lt.mp hs)) hn)
  refine mNf (lv2 := [(3, .int 16), (2, .int 2), (0, .ref 0), (1, .int 1)]) (st2 := [.int 2, .ref 12]) rfl rfl ?_
  refine mB hT 1 rfl ?_
  refine mWd (w2 := (MW 0 vs wo u h bo ta (up (up (up (up (up (up (up (up (up (up (up (up (up (up (up (up (tsM 0 ta 1 hh) 0 (ta 0)) 1 (ta 1)) 2 0) 3 (ta 3)) 4 (ta 4)) 5 (ta 5)) 6 0) 7 (ta 7)) 8 (ta 8)) 9 (ta 9)) 10 0) 11 (ta 11)) 12 (ta 12)) 13 (ta 13)) 14 0) 15 (ta 15)) (up (up ro 0 (rr 0)) 1 (rr 1)) ot Bm bk)) rfl ?_
  refine mWd (w2 := (MW 0 vs wo u h bo ta (tsM 0 ta 2 hh) (up (up ro 0 (rr 0)) 1 (rr 1)) ot Bm bk)) rfl ?_
  refine hC.2 _ 0 [] _ _ _ _ _ (m_det) rfl rfl (Nat.le_of_ble_eq_true rfl) rfl ?_
  refine mNf (lv2 := [(3, .int 16), (2, .int 2), (0, .ref 0), (1, .int 1)]) (st2 := [.long (rr 2), .int 2, .ref 12]) rfl (by rw [hrr 2] <;> rfl) ?_
  refine mB hT 24 rfl ?_
  refine mNf (lv2 := [(3, .int 0), (2, .int 3), (0, .ref 0), (1, .int 1)]) (st2 := [.long (ta 0), .int 0, .ref 11]) rfl rfl ?_
  refine mB hT 19 rfl ?_
  refine mB hT 1 rfl ?_
  refine mWd (w2 := (MW 0 vs wo u h bo ta (up (up (tsM 0 ta 2 hh) 0 (ta 0)) 1 (ta 1)) (up (up (up ro 0 (rr 0)) 1 (rr 1)) 2 (rr 2)) ot Bm bk)) rfl ?_
  refine mB hT 18 rfl ?_
  refine mNf (lv2 := [(3, .int 2), (2, .int 3), (0, .ref 0), (1, .int 1)]) (st2 := [.long (ta 2), .int 2, .ref 11]) rfl rfl ?_
  refine mB hT 21 rfl ?_
  refine mB hT 19 rfl ?_
  refine mNf (lv2 := [(3, .int 4), (2, .int 3), (0, .ref 0), (1, .int 1)]) (st2 := [.long (ta 4), .int 4, .ref 11]) rfl rfl ?_
  refine mB hT 1 rfl ?_
  refine mWd (w2 := (MW 0 vs wo u h bo ta (up (up (up (up (up (tsM 0 ta 2 hh) 0 (ta 0)) 1 (ta 1)) 2 (ta 2)) 3 0) 4 (ta 4)) (up (up (up ro 0 (rr 0)) 1 (rr 1)) 2 (rr 2)) ot Bm bk)) rfl ?_
  refine mB hT 18 rfl ?_
  refine mB hT 19 rfl ?_
  refine mNf (lv2 := [(3, .int 6), (2, .int 3), (0, .ref 0), (1, .int 1)]) (st2 := [.long (ta 6), .int 6, .ref 11]) rfl rfl ?_
  refine mB hT 21 rfl ?_
  refine mB hT 1 rfl ?_
  refine mWd (w2 := (MW 0 vs wo u h bo ta (up (up (up (up (up (up (up (up (tsM 0 ta 2 hh) 0 (ta 0)) 1 (ta 1)) 2 (ta 2)) 3 0) 4 (ta 4)) 5 (ta 5)) 6 (ta 6)) 7 0) (up (up (up ro 0 (rr 0)) 1 (rr 1)) 2 (rr 2)) ot Bm bk)) rfl ?_
  refine mB hT 18 rfl ?_
  refine mNf (lv2 := [(3, .int 8), (2, .int 3), (0, .ref 0), (1, .int 1)]) (st2 := [.long (ta 8), .int 8, .ref 11]) rfl rfl ?_
  refine mB hT 19 rfl ?_
  refine mB hT 19 rfl ?_
  refine mNf (lv2 := [(3, .int 10), (2, .int 3), (0, .ref 0), (1, .int 1)]) (st2 := [.long (ta 10), .int 10, .ref 11]) rfl rfl ?_
  refine mB hT 1 rfl ?_
  refine mWd (w2 := (MW 0 vs wo u h bo ta (up (up (up (up (up (up (up (up (up (up (up (tsM 0 ta 2 hh) 0 (ta 0)) 1 (ta 1)) 2 (ta 2)) 3 0) 4 (ta 4)) 5 (ta 5)) 6 (ta 6)) 7 0) 8 (ta 8)) 9 (ta 9)) 10 (ta 10)) (up (up (up ro 0 (rr 0)) 1 (rr 1)) 2 (rr 2)) ot Bm bk)) rfl ?_
  refine mB hT 20 rfl ?_
  refine mB hT 19 rfl ?_
  refine mNf (lv2 := [(3, .int 12), (2, .int 3), (0, .ref 0), (1, .int 1)]) (st2 := [.long (ta 12), .int 12, .ref 11]) rfl rfl ?_
  refine mB hT 19 rfl ?_
  refine mB hT 1 rfl ?_
  refine mWd (w2 := (MW 0 vs wo u h bo ta (up (up (up (up (up (up (up (up (up (up (up (up (up (up (tsM 0 ta 2 hh) 0 (ta 0)) 1 (ta 1)) 2 (ta 2)) 3 0) 4 (ta 4)) 5 (ta 5)) 6 (ta 6)) 7 0) 8 (ta 8)) 9 (ta 9)) 10 (ta 10)) 11 0) 12 (ta 12)) 13 (ta 13)) (up (up (up ro 0 (rr 0)) 1 (rr 1)) 2 (rr 2)) ot Bm bk)) rfl ?_
  refine mB hT 18 rfl ?_
  refine mNf (lv2 := [(3, .int 14), (2, .int 3), (0, .ref 0), (1, .int 1)]) (st2 := [.long (ta 14), .int 14, .ref 11]) rfl rfl ?_
  refine mB hT 21 rfl ?_
  refine mB hT 14 rfl ?_
  refine mIf (fun _ => ?_) (fun hn => absurd (lc_ge.mpr (Int64.not_lt.mp hs)) hn)
  refine mNf (lv2 := [(3, .int 16), (2, .int 3), (0, .ref 0), (1, .int 1)]) (st2 := [.int 3, .ref 12]) rfl rfl ?_
  refine mB hT 1 rfl ?_
  refine mWd (w2 := (MW 0 vs wo u h bo ta (up (up (up (up (up (up (up (up (up (up (up (up (up (up (up (up (tsM 0 ta 2 hh) 0 (ta 0)) 1 (ta 1)) 2 (ta 2)) 3 0) 4 (ta 4)) 5 (ta 5)) 6 (ta 6)) 7 0) 8 (ta 8)) 9 (ta 9)) 10 (ta 10)) 11 0) 12 (ta 12)) 13 (ta 13)) 14 (ta 14)) 15 0) (up (up (up ro 0 (rr 0)) 1 (rr 1)) 2 (rr 2)) ot Bm bk)) rfl ?_
  refine mWd (w2 := (MW 0 vs wo u h bo ta (tsM 0 ta 3 hh) (up (up (up ro 0 (rr 0)) 1 (rr 1)) 2 (rr 2)) ot Bm bk)) rfl ?_
  refine hC.2 _ 0 [] _ _ _ _ _ (m_det) rfl rfl (Nat.le_of_ble_eq_true rfl) rfl ?_
  refine mNf (lv2 := [(3, .int 16), (2, .int 3), (0, .ref 0), (1, .int 1)]) (st2 := [.long (rr 3), .int 3, .ref 12]) rfl (by rw [hrr 3] <;> rfl) ?_
  refine mB hT 6 rfl ?_
  exact hR _ (by decide) _ _ _ rfl rfl
set_option maxRecDepth 20000 in
theorem m_solve_0_1n {vs : Int32} {wo un h : Int64} {bo : Nat → Int32} {ta tr ro ot : Nat → Int64} {Bm : Nat → Nat → Nat → Int32} {bk : Nat → Nat → Int32} {u : Int64} {hh rr : Nat → Int64} (hs : wo < 0) (hu : u = -wo) (hq : ∀ j : Nat, hh j = (bk 1 j).toInt64) (hrr : ∀ i : Nat, rr i = -(dtM (tsM 0 ta i hh))) : KX3_solve l D ca ad [.ref 0, .int 1] (MW 0 vs wo un h bo ta tr ro ot Bm bk) none (MW 0 vs wo u h bo ta (tsM 0 ta 3 hh) rr ot Bm bk) := by
  refine PX3_solve (Nat.le_of_ble_eq_true rfl) ?_
  intro G hT hC hR
  refine mB hT 6 rfl ?_
  refine mIf (fun hp => absurd hp (fun q => Int64.not_lt.mpr (lc_ge.mp q) hs)) (fun _ => ?_)
  refine mB hT 4 rfl ?_
  refine mNf (lv2 := [(0, .ref 0), (1, .int 1)]) (st2 := [.long u, .ref 0]) rfl (by rw [hu] <;> rfl) ?_
  refine mB hT 26 rfl ?_
  refine mNf (lv2 := [(3, .int 0), (2, .int 0), (0, .ref 0), (1, .int 1)]) (st2 := [.long 0, .int 0, .ref 11]) rfl rfl ?_
  refine mB hT 19 rfl ?_
  refine mB hT 1 rfl ?_
  refine mWd (w2 := (MW 0 vs wo u h bo ta (up (up tr 0 0) 1 (ta 1)) ro ot Bm bk)) rfl ?_
  refine mB hT 18 rfl ?_
  refine mNf (lv2 := [(3, .int 2), (2, .int 0), (0, .ref 0), (1, .int 1)]) (st2 := [.long (ta 2), .int 2, .ref 11]) rfl rfl ?_
  refine mB hT 19 rfl ?_
  refine mB hT 21 rfl ?_
  refine mNf (lv2 := [(3, .int 4), (2, .int 0), (0, .ref 0), (1, .int 1)]) (st2 := [.long 0, .int 4, .ref 11]) rfl rfl ?_
  refine mB hT 1 rfl ?_
  refine mWd (w2 := (MW 0 vs wo u h bo ta (up (up (up (up (up tr 0 0) 1 (ta 1)) 2 (ta 2)) 3 (ta 3)) 4 0) ro ot Bm bk)) rfl ?_
  refine mB hT 18 rfl ?_
  refine mB hT 19 rfl ?_
  refine mNf (lv2 := [(3, .int 6), (2, .int 0), (0, .ref 0), (1, .int 1)]) (st2 := [.long (ta 6), .int 6, .ref 11]) rfl rfl ?_
  refine mB hT 19 rfl ?_
  refine mB hT 1 rfl ?_
  refine mWd (w2 := (MW 0 vs wo u h bo ta (up (up (up (up (up (up (up (up tr 0 0) 1 (ta 1)) 2 (ta 2)) 3 (ta 3)) 4 0) 5 (ta 5)) 6 (ta 6)) 7 (ta 7)) ro ot Bm bk)) rfl ?_
  refine mB hT 20 rfl ?_
  refine mNf (lv2 := [(3, .int 8), (2, .int 0), (0, .ref 0), (1, .int 1)]) (st2 := [.long 0, .int 8, .ref 11]) rfl rfl ?_
  refine mB hT 19 rfl ?_
  refine mB hT 19 rfl ?_
  refine mNf (lv2 := [(3, .int 10), (2, .int 0), (0, .ref 0), (1, .int 1)]) (st2 := [.long (ta 10), .int 10, .ref 11]) rfl rfl ?_
  refine mB hT 1 rfl ?_
  refine mWd (w2 := (MW 0 vs wo u h bo ta (up (up (up (up (up (up (up (up (up (up (up tr 0 0) 1 (ta 1)) 2 (ta 2)) 3 (ta 3)) 4 0) 5 (ta 5)) 6 (ta 6)) 7 (ta 7)) 8 0) 9 (ta 9)) 10 (ta 10)) ro ot Bm bk)) rfl ?_
  refine mB hT 18 rfl ?_
  refine mB hT 21 rfl ?_
  refine mNf (lv2 := [(3, .int 12), (2, .int 0), (0, .ref 0), (1, .int 1)]) (st2 := [.long 0, .int 12, .ref 11]) rfl rfl ?_
  refine mB hT 19 rfl ?_
  refine mB hT 1 rfl ?_
  refine mWd (w2 := (MW 0 vs wo u h bo ta (up (up (up (up (up (up (up (up (up (up (up (up (up (up tr 0 0) 1 (ta 1)) 2 (ta 2)) 3 (ta 3)) 4 0) 5 (ta 5)) 6 (ta 6)) 7 (ta 7)) 8 0) 9 (ta 9)) 10 (ta 10)) 11 (ta 11)) 12 0) 13 (ta 13)) ro ot Bm bk)) rfl ?_
  refine mB hT 18 rfl ?_
  refine mNf (lv2 := [(3, .int 14), (2, .int 0), (0, .ref 0), (1, .int 1)]) (st2 := [.long (ta 14), .int 14, .ref 11]) rfl rfl ?_
  refine mB hT 19 rfl ?_
  refine mB hT 14 rfl ?_
  refine mIf (fun hp => absurd hp (fun q => Int64.not_lt.mpr (lc_ge.mp q) hs)) (fun _ => ?_)
  refine mNf (lv2 := [(3, .int 16), (2, .int 0), (0, .ref 0), (1, .int 1)]) (st2 := [.int 0, .ref 12]) rfl rfl ?_
  refine mB hT 1 rfl ?_
  refine mWd (w2 := (MW 0 vs wo u h bo ta (up (up (up (up (up (up (up (up (up (up (up (up (up (up (up (up tr 0 0) 1 (ta 1)) 2 (ta 2)) 3 (ta 3)) 4 0) 5 (ta 5)) 6 (ta 6)) 7 (ta 7)) 8 0) 9 (ta 9)) 10 (ta 10)) 11 (ta 11)) 12 0) 13 (ta 13)) 14 (ta 14)) 15 (ta 15)) ro ot Bm bk)) rfl ?_
  refine mWd (w2 := (MW 0 vs wo u h bo ta (tsM 0 ta 0 hh) ro ot Bm bk)) rfl ?_
  refine hC.1 _ 0 [] _ _ _ _ _ (m_det) rfl rfl (Nat.le_of_ble_eq_true rfl) rfl ?_
  refine mB hT 2 rfl ?_
  refine mNf (lv2 := [(3, .int 16), (2, .int 0), (0, .ref 0), (1, .int 1)]) (st2 := [.long (rr 0), .int 0, .ref 12]) rfl (by rw [hrr 0] <;> rfl) ?_
  refine mB hT 24 rfl ?_
  refine mNf (lv2 := [(3, .int 0), (2, .int 1), (0, .ref 0), (1, .int 1)]) (st2 := [.long (ta 0), .int 0, .ref 11]) rfl rfl ?_
  refine mB hT 21 rfl ?_
  refine mB hT 1 rfl ?_
  refine mWd (w2 := (MW 0 vs wo u h bo ta (up (up (tsM 0 ta 0 hh) 0 (ta 0)) 1 0) (up ro 0 (rr 0)) ot Bm bk)) rfl ?_
  refine mB hT 18 rfl ?_
  refine mNf (lv2 := [(3, .int 2), (2, .int 1), (0, .ref 0), (1, .int 1)]) (st2 := [.long (ta 2), .int 2, .ref 11]) rfl rfl ?_
  refine mB hT 19 rfl ?_
  refine mB hT 19 rfl ?_
  refine mNf (lv2 := [(3, .int 4), (2, .int 1), (0, .ref 0), (1, .int 1)]) (st2 := [.long (ta 4), .int 4, .ref 11]) rfl rfl ?_
  refine mB hT 1 rfl ?_
  refine mWd (w2 := (MW 0 vs wo u h bo ta (up (up (up (up (up (tsM 0 ta 0 hh) 0 (ta 0)) 1 0) 2 (ta 2)) 3 (ta 3)) 4 (ta 4)) (up ro 0 (rr 0)) ot Bm bk)) rfl ?_
  refine mB hT 20 rfl ?_
  refine mB hT 19 rfl ?_
  refine mNf (lv2 := [(3, .int 6), (2, .int 1), (0, .ref 0), (1, .int 1)]) (st2 := [.long (ta 6), .int 6, .ref 11]) rfl rfl ?_
  refine mB hT 19 rfl ?_
  refine mB hT 1 rfl ?_
  refine mWd (w2 := (MW 0 vs wo u h bo ta (up (up (up (up (up (up (up (up (tsM 0 ta 0 hh) 0 (ta 0)) 1 0) 2 (ta 2)) 3 (ta 3)) 4 (ta 4)) 5 0) 6 (ta 6)) 7 (ta 7)) (up ro 0 (rr 0)) ot Bm bk)) rfl ?_
  refine mB hT 18 rfl ?_
  refine mNf (lv2 := [(3, .int 8), (2, .int 1), (0, .ref 0), (1, .int 1)]) (st2 := [.long (ta 8), .int 8, .ref 11]) rfl rfl ?_
  refine mB hT 21 rfl ?_
  refine mB hT 19 rfl ?_
  refine mNf (lv2 := [(3, .int 10), (2, .int 1), (0, .ref 0), (1, .int 1)]) (st2 := [.long (ta 10), .int 10, .ref 11]) rfl rfl ?_
  refine mB hT 1 rfl ?_
  refine mWd (w2 := (MW 0 vs wo u h bo ta (up (up (up (up (up (up (up (up (up (up (up (tsM 0 ta 0 hh) 0 (ta 0)) 1 0) 2 (ta 2)) 3 (ta 3)) 4 (ta 4)) 5 0) 6 (ta 6)) 7 (ta 7)) 8 (ta 8)) 9 0) 10 (ta 10)) (up ro 0 (rr 0)) ot Bm bk)) rfl ?_
  refine mB hT 18 rfl ?_
  refine mB hT 19 rfl ?_
  refine mNf (lv2 := [(3, .int 12), (2, .int 1), (0, .ref 0), (1, .int 1)]) (st2 := [.long (ta 12), .int 12, .ref 11]) rfl rfl ?_
  refine mB hT 21 rfl ?_
  refine mB hT 1 rfl ?_
  refine mWd (w2 := (MW 0 vs wo u h bo ta (up (up (up (up (up (up (up (up (up (up (up (up (up (up (tsM 0 ta 0 hh) 0 (ta 0)) 1 0) 2 (ta 2)) 3 (ta 3)) 4 (ta 4)) 5 0) 6 (ta 6)) 7 (ta 7)) 8 (ta 8)) 9 0) 10 (ta 10)) 11 (ta 11)) 12 (ta 12)) 13 0) (up ro 0 (rr 0)) ot Bm bk)) rfl ?_
  refine mB hT 18 rfl ?_
  refine mNf (lv2 := [(3, .int 14), (2, .int 1), (0, .ref 0), (1, .int 1)]) (st2 := [.long (ta 14), .int 14, .ref 11]) rfl rfl ?_
  refine mB hT 19 rfl ?_
  refine mB hT 14 rfl ?_
  refine mIf (fun hp => absurd hp (fun q => Int64.not_lt.mpr (lc_ge.mp q) hs)) (fun _ => ?_)
  refine mNf (lv2 := [(3, .int 16), (2, .int 1), (0, .ref 0), (1, .int 1)]) (st2 := [.int 1, .ref 12]) rfl rfl ?_
  refine mB hT 1 rfl ?_
  refine mWd (w2 := (MW 0 vs wo u h bo ta (up (up (up (up (up (up (up (up (up (up (up (up (up (up (up (up (tsM 0 ta 0 hh) 0 (ta 0)) 1 0) 2 (ta 2)) 3 (ta 3)) 4 (ta 4)) 5 0) 6 (ta 6)) 7 (ta 7)) 8 (ta 8)) 9 0) 10 (ta 10)) 11 (ta 11)) 12 (ta 12)) 13 0) 14 (ta 14)) 15 (ta 15)) (up ro 0 (rr 0)) ot Bm bk)) rfl ?_
  refine mWd (w2 := (MW 0 vs wo u h bo ta (tsM 0 ta 1 hh) (up ro 0 (rr 0)) ot Bm bk)) rfl ?_
  refine hC.1 _ 0 [] _ _ _ _ _ (m_det) rfl rfl (Nat.le_of_ble_eq_true rfl) rfl ?_
  refine mB hT 2 rfl ?_
  refine mNf (lv2 := [(3, .int 16), (2, .int 1), (0, .ref 0), (1, .int 1)]) (st2 := [.long (rr 1), .int 1, .ref 12]) rfl (by rw [hrr 1] <;> rfl) ?_
  refine mB hT 24 rfl ?_
  refine mNf (lv2 := [(3, .int 0), (2, .int 2), (0, .ref 0), (1, .int 1)]) (st2 := [.long (ta 0), .int 0, .ref 11]) rfl rfl ?_
  refine mB hT 19 rfl ?_
  refine mB hT 1 rfl ?_
  refine mWd (w2 := (MW 0 vs wo u h bo ta (up (up (tsM 0 ta 1 hh) 0 (ta 0)) 1 (ta 1)) (up (up ro 0 (rr 0)) 1 (rr 1)) ot Bm bk)) rfl ?_
  refine mB hT 20 rfl ?_
  refine mNf (lv2 := [(3, .int 2), (2, .int 2), (0, .ref 0), (1, .int 1)]) (st2 := [.long 0, .int 2, .ref 11]) rfl rfl ?_
  refine mB hT 19 rfl ?_
  refine mB hT 19 rfl ?_
  refine mNf (lv2 := [(3, .int 4), (2, .int 2), (0, .ref 0), (1, .int 1)]) (st2 := [.long (ta 4), .int 4, .ref 11]) rfl rfl ?_
  refine mB hT 1 rfl ?_
  refine mWd (w2 := (MW 0 vs wo u h bo ta (up (up (up (up (up (tsM 0 ta 1 hh) 0 (ta 0)) 1 (ta 1)) 2 0) 3 (ta 3)) 4 (ta 4)) (up (up ro 0 (rr 0)) 1 (rr 1)) ot Bm bk)) rfl ?_
  refine mB hT 18 rfl ?_
  refine mB hT 21 rfl ?_
  refine mNf (lv2 := [(3, .int 6), (2, .int 2), (0, .ref 0), (1, .int 1)]) (st2 := [.long 0, .int 6, .ref 11]) rfl rfl ?_
  refine mB hT 19 rfl ?_
  refine mB hT 1 rfl ?_
  refine mWd (w2 := (MW 0 vs wo u h bo ta (up (up (up (up (up (up (up (up (tsM 0 ta 1 hh) 0 (ta 0)) 1 (ta 1)) 2 0) 3 (ta 3)) 4 (ta 4)) 5 (ta 5)) 6 0) 7 (ta 7)) (up (up ro 0 (rr 0)) 1 (rr 1)) ot Bm bk)) rfl ?_
  refine mB hT 18 rfl ?_
  refine mNf (lv2 := [(3, .int 8), (2, .int 2), (0, .ref 0), (1, .int 1)]) (st2 := [.long (ta 8), .int 8, .ref 11]) rfl rfl ?_
  refine mB hT 19 rfl ?_
  refine mB hT 21 rfl ?_
  refine mNf (lv2 := [(3, .int 10), (2, .int 2), (0, .ref 0), (1, .int 1)]) (st2 := [.long 0, .int 10, .ref 11]) rfl rfl ?_
  refine mB hT 1 rfl ?_
  refine mWd (w2 := (MW 0 vs wo u h bo ta (up (up (up (up (up (up (up (up (up (up (up (tsM 0 ta 1 hh) 0 (ta 0)) 1 (ta 1)) 2 0) 3 (ta 3)) 4 (ta 4)) 5 (ta 5)) 6 0) 7 (ta 7)) 8 (ta 8)) 9 (ta 9)) 10 0) (up (up ro 0 (rr 0)) 1 (rr 1)) ot Bm bk)) rfl ?_
  refine mB hT 18 rfl ?_
  refine mB hT 19 rfl ?_
  refine mNf (lv2 := [(3, .int 12), (2, .int 2), (0, .ref 0), (1, .int 1)]) (st2 := [.long (ta 12), .int 12, .ref 11]) rfl rfl ?_
  refine mB hT 19 rfl ?_
  refine mB hT 1 rfl ?_
  refine mWd (w2 := (MW 0 vs wo u h bo ta (up (up (up (up (up (up (up (up (up (up (up (up (up (up (tsM 0 ta 1 hh) 0 (ta 0)) 1 (ta 1)) 2 0) 3 (ta 3)) 4 (ta 4)) 5 (ta 5)) 6 0) 7 (ta 7)) 8 (ta 8)) 9 (ta 9)) 10 0) 11 (ta 11)) 12 (ta 12)) 13 (ta 13)) (up (up ro 0 (rr 0)) 1 (rr 1)) ot Bm bk)) rfl ?_
  refine mB hT 20 rfl ?_
  refine mNf (lv2 := [(3, .int 14), (2, .int 2), (0, .ref 0), (1, .int 1)]) (st2 := [.long 0, .int 14, .ref 11]) rfl rfl ?_
  refine mB hT 19 rfl ?_
  refine mB hT 14 rfl ?_
  refine mIf (fun hp => absurd hp (fun q => Int64.not_lt.mpr (lc_ge.mp q) hs)) (fun _ => ?_)
  refine mNf (lv2 := [(3, .int 16), (2, .int 2), (0, .ref 0), (1, .int 1)]) (st2 := [.int 2, .ref 12]) rfl rfl ?_
  refine mB hT 1 rfl ?_
  refine mWd (w2 := (MW 0 vs wo u h bo ta (up (up (up (up (up (up (up (up (up (up (up (up (up (up (up (up (tsM 0 ta 1 hh) 0 (ta 0)) 1 (ta 1)) 2 0) 3 (ta 3)) 4 (ta 4)) 5 (ta 5)) 6 0) 7 (ta 7)) 8 (ta 8)) 9 (ta 9)) 10 0) 11 (ta 11)) 12 (ta 12)) 13 (ta 13)) 14 0) 15 (ta 15)) (up (up ro 0 (rr 0)) 1 (rr 1)) ot Bm bk)) rfl ?_
  refine mWd (w2 := (MW 0 vs wo u h bo ta (tsM 0 ta 2 hh) (up (up ro 0 (rr 0)) 1 (rr 1)) ot Bm bk)) rfl ?_
  refine hC.1 _ 0 [] _ _ _ _ _ (m_det) rfl rfl (Nat.le_of_ble_eq_true rfl) rfl ?_
  refine mB hT 2 rfl ?_
  refine mNf (lv2 := [(3, .int 16), (2, .int 2), (0, .ref 0), (1, .int 1)]) (st2 := [.long (rr 2), .int 2, .ref 12]) rfl (by rw [hrr 2] <;> rfl) ?_
  refine mB hT 24 rfl ?_
  refine mNf (lv2 := [(3, .int 0), (2, .int 3), (0, .ref 0), (1, .int 1)]) (st2 := [.long (ta 0), .int 0, .ref 11]) rfl rfl ?_
  refine mB hT 19 rfl ?_
  refine mB hT 1 rfl ?_
  refine mWd (w2 := (MW 0 vs wo u h bo ta (up (up (tsM 0 ta 2 hh) 0 (ta 0)) 1 (ta 1)) (up (up (up ro 0 (rr 0)) 1 (rr 1)) 2 (rr 2)) ot Bm bk)) rfl ?_
  refine mB hT 18 rfl ?_
  refine mNf (lv2 := [(3, .int 2), (2, .int 3), (0, .ref 0), (1, .int 1)]) (st2 := [.long (ta 2), .int 2, .ref 11]) rfl rfl ?_
  refine mB hT 21 rfl ?_
  refine mB hT 19 rfl ?_
  refine mNf (lv2 := [(3, .int 4), (2, .int 3), (0, .ref 0), (1, .int 1)]) (st2 := [.long (ta 4), .int 4, .ref 11]) rfl rfl ?_
  refine mB hT 1 rfl ?_
  refine mWd (w2 := (MW 0 vs wo u h bo ta (up (up (up (up (up (tsM 0 ta 2 hh) 0 (ta 0)) 1 (ta 1)) 2 (ta 2)) 3 0) 4 (ta 4)) (up (up (up ro 0 (rr 0)) 1 (rr 1)) 2 (rr 2)) ot Bm bk)) rfl ?_
  refine mB hT 18 rfl ?_
  refine mB hT 19 rfl ?_
  refine mNf (lv2 := [(3, .int 6), (2, .int 3), (0, .ref 0), (1, .int 1)]) (st2 := [.long (ta 6), .int 6, .ref 11]) rfl rfl ?_
  refine mB hT 21 rfl ?_
  refine mB hT 1 rfl ?_
  refine mWd (w2 := (MW 0 vs wo u h bo ta (up (up (up (up (up (up (up (up (tsM 0 ta 2 hh) 0 (ta 0)) 1 (ta 1)) 2 (ta 2)) 3 0) 4 (ta 4)) 5 (ta 5)) 6 (ta 6)) 7 0) (up (up (up ro 0 (rr 0)) 1 (rr 1)) 2 (rr 2)) ot Bm bk)) rfl ?_
  refine mB hT 18 rfl ?_
  refine mNf (lv2 := [(3, .int 8), (2, .int 3), (0, .ref 0), (1, .int 1)]) (st2 := [.long (ta 8), .int 8, .ref 11]) rfl rfl ?_
  refine mB hT 19 rfl ?_
  refine mB hT 19 rfl ?_
  refine mNf (lv2 := [(3, .int 10), (2, .int 3), (0, .ref 0), (1, .int 1)]) (st2 := [.long (ta 10), .int 10, .ref 11]) rfl rfl ?_
  refine mB hT 1 rfl ?_
  refine mWd (w2 := (MW 0 vs wo u h bo ta (up (up (up (up (up (up (up (up (up (up (up (tsM 0 ta 2 hh) 0 (ta 0)) 1 (ta 1)) 2 (ta 2)) 3 0) 4 (ta 4)) 5 (ta 5)) 6 (ta 6)) 7 0) 8 (ta 8)) 9 (ta 9)) 10 (ta 10)) (up (up (up ro 0 (rr 0)) 1 (rr 1)) 2 (rr 2)) ot Bm bk)) rfl ?_
  refine mB hT 20 rfl ?_
  refine mB hT 19 rfl ?_
  refine mNf (lv2 := [(3, .int 12), (2, .int 3), (0, .ref 0), (1, .int 1)]) (st2 := [.long (ta 12), .int 12, .ref 11]) rfl rfl ?_
  refine mB hT 19 rfl ?_
  refine mB hT 1 rfl ?_
  refine mWd (w2 := (MW 0 vs wo u h bo ta (up (up (up (up (up (up (up (up (up (up (up (up (up (up (tsM 0 ta 2 hh) 0 (ta 0)) 1 (ta 1)) 2 (ta 2)) 3 0) 4 (ta 4)) 5 (ta 5)) 6 (ta 6)) 7 0) 8 (ta 8)) 9 (ta 9)) 10 (ta 10)) 11 0) 12 (ta 12)) 13 (ta 13)) (up (up (up ro 0 (rr 0)) 1 (rr 1)) 2 (rr 2)) ot Bm bk)) rfl ?_
  refine mB hT 18 rfl ?_
  refine mNf (lv2 := [(3, .int 14), (2, .int 3), (0, .ref 0), (1, .int 1)]) (st2 := [.long (ta 14), .int 14, .ref 11]) rfl rfl ?_
  refine mB hT 21 rfl ?_
  refine mB hT 14 rfl ?_
  refine mIf (fun hp => absurd hp (fun q => Int64.not_lt.mpr (lc_ge.mp q) hs)) (fun _ => ?_)
  refine mNf (lv2 := [(3, .int 16), (2, .int 3), (0, .ref 0), (1, .int 1)]) (st2 := [.int 3, .ref 12]) rfl rfl ?_
  refine mB hT 1 rfl ?_
  refine mWd (w2 := (MW 0 vs wo u h bo ta (up (up (up (up (up (up (up (up (up (up (up (up (up (up (up (up (tsM 0 ta 2 hh) 0 (ta 0)) 1 (ta 1)) 2 (ta 2)) 3 0) 4 (ta 4)) 5 (ta 5)) 6 (ta 6)) 7 0) 8 (ta 8)) 9 (ta 9)) 10 (ta 10)) 11 0) 12 (ta 12)) 13 (ta 13)) 14 (ta 14)) 15 0) (up (up (up ro 0 (rr 0)) 1 (rr 1)) 2 (rr 2)) ot Bm bk)) rfl ?_
  refine mWd (w2 := (MW 0 vs wo u h bo ta (tsM 0 ta 3 hh) (up (up (up ro 0 (rr 0)) 1 (rr 1)) 2 (rr 2)) ot Bm bk)) rfl ?_
  refine hC.1 _ 0 [] _ _ _ _ _ (m_det) rfl rfl (Nat.le_of_ble_eq_true rfl) rfl ?_
  refine mB hT 2 rfl ?_
  refine mNf (lv2 := [(3, .int 16), (2, .int 3), (0, .ref 0), (1, .int 1)]) (st2 := [.long (rr 3), .int 3, .ref 12]) rfl (by rw [hrr 3] <;> rfl) ?_
  refine mB hT 6 rfl ?_
  exact hR _ (by decide) _ _ _ rfl rfl
set_option maxRecDepth 20000 in
theorem m_solve_0_2p {vs : Int32} {wo un h : Int64} {bo : Nat → Int32} {ta tr ro ot : Nat → Int64} {Bm : Nat → Nat → Nat → Int32} {bk : Nat → Nat → Int32} {u : Int64} {hh rr : Nat → Int64} (hs : ¬ wo < 0) (hu : u = wo) (hq : ∀ j : Nat, hh j = (bk 2 j).toInt64) (hrr : ∀ i : Nat, rr i = dtM (tsM 0 ta i hh)) : KX3_solve l D ca ad [.ref 0, .int 2] (MW 0 vs wo un h bo ta tr ro ot Bm bk) none (MW 0 vs wo u h bo ta (tsM 0 ta 3 hh) rr ot Bm bk) := by
  refine PX3_solve (Nat.le_of_ble_eq_true rfl) ?_
  intro G hT hC hR
  refine mB hT 6 rfl ?_
  refine mIf (fun _ => ?_) (fun hn => absurd (lc_ge.mpr (Int64.not_lt.mp hs)) hn)
  refine mB hT 2 rfl ?_
  refine mNf (lv2 := [(0, .ref 0), (1, .int 2)]) (st2 := [.long u, .ref 0]) rfl (by rw [hu] <;> rfl) ?_
  refine mB hT 26 rfl ?_
  refine mNf (lv2 := [(3, .int 0), (2, .int 0), (0, .ref 0), (1, .int 2)]) (st2 := [.long 0, .int 0, .ref 11]) rfl rfl ?_
  refine mB hT 19 rfl ?_
  refine mB hT 1 rfl ?_
  refine mWd (w2 := (MW 0 vs wo u h bo ta (up (up tr 0 0) 1 (ta 1)) ro ot Bm bk)) rfl ?_
  refine mB hT 18 rfl ?_
  refine mNf (lv2 := [(3, .int 2), (2, .int 0), (0, .ref 0), (1, .int 2)]) (st2 := [.long (ta 2), .int 2, .ref 11]) rfl rfl ?_
  refine mB hT 19 rfl ?_
  refine mB hT 21 rfl ?_
  refine mNf (lv2 := [(3, .int 4), (2, .int 0), (0, .ref 0), (1, .int 2)]) (st2 := [.long 0, .int 4, .ref 11]) rfl rfl ?_
  refine mB hT 1 rfl ?_
  refine mWd (w2 := (MW 0 vs wo u h bo ta (up (up (up (up (up tr 0 0) 1 (ta 1)) 2 (ta 2)) 3 (ta 3)) 4 0) ro ot Bm bk)) rfl ?_
  refine mB hT 18 rfl ?_
  refine mB hT 19 rfl ?_
  refine mNf (lv2 := [(3, .int 6), (2, .int 0), (0, .ref 0), (1, .int 2)]) (st2 := [.long (ta 6), .int 6, .ref 11]) rfl rfl ?_
  refine mB hT 19 rfl ?_
  refine mB hT 1 rfl ?_
  refine mWd (w2 := (MW 0 vs wo u h bo ta (up (up (up (up (up (up (up (up tr 0 0) 1 (ta 1)) 2 (ta 2)) 3 (ta 3)) 4 0) 5 (ta 5)) 6 (ta 6)) 7 (ta 7)) ro ot Bm bk)) rfl ?_
  refine mB hT 20 rfl ?_
  refine mNf (lv2 := [(3, .int 8), (2, .int 0), (0, .ref 0), (1, .int 2)]) (st2 := [.long 0, .int 8, .ref 11]) rfl rfl ?_
  refine mB hT 19 rfl ?_
  refine mB hT 19 rfl ?_
  refine mNf (lv2 := [(3, .int 10), (2, .int 0), (0, .ref 0), (1, .int 2)]) (st2 := [.long (ta 10), .int 10, .ref 11]) rfl rfl ?_
  refine mB hT 1 rfl ?_
  refine mWd (w2 := (MW 0 vs wo u h bo ta (up (up (up (up (up (up (up (up (up (up (up tr 0 0) 1 (ta 1)) 2 (ta 2)) 3 (ta 3)) 4 0) 5 (ta 5)) 6 (ta 6)) 7 (ta 7)) 8 0) 9 (ta 9)) 10 (ta 10)) ro ot Bm bk)) rfl ?_
  refine mB hT 18 rfl ?_
  refine mB hT 21 rfl ?_
  refine mNf (lv2 := [(3, .int 12), (2, .int 0), (0, .ref 0), (1, .int 2)]) (st2 := [.long 0, .int 12, .ref 11]) rfl rfl ?_
  refine mB hT 19 rfl ?_
  refine mB hT 1 rfl ?_
  refine mWd (w2 := (MW 0 vs wo u h bo ta (up (up (up (up (up (up (up (up (up (up (up (up (up (up tr 0 0) 1 (ta 1)) 2 (ta 2)) 3 (ta 3)) 4 0) 5 (ta 5)) 6 (ta 6)) 7 (ta 7)) 8 0) 9 (ta 9)) 10 (ta 10)) 11 (ta 11)) 12 0) 13 (ta 13)) ro ot Bm bk)) rfl ?_
  refine mB hT 18 rfl ?_
  refine mNf (lv2 := [(3, .int 14), (2, .int 0), (0, .ref 0), (1, .int 2)]) (st2 := [.long (ta 14), .int 14, .ref 11]) rfl rfl ?_
  refine mB hT 19 rfl ?_
  refine mB hT 14 rfl ?_
  refine mIf (fun _ => ?_) (fun hn => absurd (lc_ge.mpr (Int64.not_lt.mp hs)) hn)
  refine mNf (lv2 := [(3, .int 16), (2, .int 0), (0, .ref 0), (1, .int 2)]) (st2 := [.int 0, .ref 12]) rfl rfl ?_
  refine mB hT 1 rfl ?_
  refine mWd (w2 := (MW 0 vs wo u h bo ta (up (up (up (up (up (up (up (up (up (up (up (up (up (up (up (up tr 0 0) 1 (ta 1)) 2 (ta 2)) 3 (ta 3)) 4 0) 5 (ta 5)) 6 (ta 6)) 7 (ta 7)) 8 0) 9 (ta 9)) 10 (ta 10)) 11 (ta 11)) 12 0) 13 (ta 13)) 14 (ta 14)) 15 (ta 15)) ro ot Bm bk)) rfl ?_
  refine mWd (w2 := (MW 0 vs wo u h bo ta (tsM 0 ta 0 hh) ro ot Bm bk)) rfl ?_
  refine hC.2 _ 0 [] _ _ _ _ _ (m_det) rfl rfl (Nat.le_of_ble_eq_true rfl) rfl ?_
  refine mNf (lv2 := [(3, .int 16), (2, .int 0), (0, .ref 0), (1, .int 2)]) (st2 := [.long (rr 0), .int 0, .ref 12]) rfl (by rw [hrr 0] <;> rfl) ?_
  refine mB hT 24 rfl ?_
  refine mNf (lv2 := [(3, .int 0), (2, .int 1), (0, .ref 0), (1, .int 2)]) (st2 := [.long (ta 0), .int 0, .ref 11]) rfl rfl ?_
  refine mB hT 21 rfl ?_
  refine mB hT 1 rfl ?_
  refine mWd (w2 := (MW 0 vs wo u h bo ta (up (up (tsM 0 ta 0 hh) 0 (ta 0)) 1 0) (up ro 0 (rr 0)) ot Bm bk)) rfl ?_
  refine mB hT 18 rfl ?_
  refine mNf (lv2 := [(3, .int 2), (2, .int 1), (0, .ref 0), (1, .int 2)]) (st2 := [.long (ta 2), .int 2, .ref 11]) rfl rfl ?_
  refine mB hT 19 rfl ?_
  refine mB hT 19 rfl ?_
  refine mNf (lv2 := [(3, .int 4), (2, .int 1), (0, .ref 0), (1, .int 2)]) (st2 := [.long (ta 4), .int 4, .ref 11]) rfl rfl ?_
  refine mB hT 1 rfl ?_
  refine mWd (w2 := (MW 0 vs wo u h bo ta (up (up (up (up (up (tsM 0 ta 0 hh) 0 (ta 0)) 1 0) 2 (ta 2)) 3 (ta 3)) 4 (ta 4)) (up ro 0 (rr 0)) ot Bm bk)) rfl ?_
  refine mB hT 20 rfl ?_
  refine mB hT 19 rfl ?_
  refine mNf (lv2 := [(3, .int 6), (2, .int 1), (0, .ref 0), (1, .int 2)]) (st2 := [.long (ta 6), .int 6, .ref 11]) rfl rfl ?_
  refine mB hT 19 rfl ?_
  refine mB hT 1 rfl ?_
  refine mWd (w2 := (MW 0 vs wo u h bo ta (up (up (up (up (up (up (up (up (tsM 0 ta 0 hh) 0 (ta 0)) 1 0) 2 (ta 2)) 3 (ta 3)) 4 (ta 4)) 5 0) 6 (ta 6)) 7 (ta 7)) (up ro 0 (rr 0)) ot Bm bk)) rfl ?_
  refine mB hT 18 rfl ?_
  refine mNf (lv2 := [(3, .int 8), (2, .int 1), (0, .ref 0), (1, .int 2)]) (st2 := [.long (ta 8), .int 8, .ref 11]) rfl rfl ?_
  refine mB hT 21 rfl ?_
  refine mB hT 19 rfl ?_
  refine mNf (lv2 := [(3, .int 10), (2, .int 1), (0, .ref 0), (1, .int 2)]) (st2 := [.long (ta 10), .int 10, .ref 11]) rfl rfl ?_
  refine mB hT 1 rfl ?_
  refine mWd (w2 := (MW 0 vs wo u h bo ta (up (up (up (up (up (up (up (up (up (up (up (tsM 0 ta 0 hh) 0 (ta 0)) 1 0) 2 (ta 2)) 3 (ta 3)) 4 (ta 4)) 5 0) 6 (ta 6)) 7 (ta 7)) 8 (ta 8)) 9 0) 10 (ta 10)) (up ro 0 (rr 0)) ot Bm bk)) rfl ?_
  refine mB hT 18 rfl ?_
  refine mB hT 19 rfl ?_
  refine mNf (lv2 := [(3, .int 12), (2, .int 1), (0, .ref 0), (1, .int 2)]) (st2 := [.long (ta 12), .int 12, .ref 11]) rfl rfl ?_
  refine mB hT 21 rfl ?_
  refine mB hT 1 rfl ?_
  refine mWd (w2 := (MW 0 vs wo u h bo ta (up (up (up (up (up (up (up (up (up (up (up (up (up (up (tsM 0 ta 0 hh) 0 (ta 0)) 1 0) 2 (ta 2)) 3 (ta 3)) 4 (ta 4)) 5 0) 6 (ta 6)) 7 (ta 7)) 8 (ta 8)) 9 0) 10 (ta 10)) 11 (ta 11)) 12 (ta 12)) 13 0) (up ro 0 (rr 0)) ot Bm bk)) rfl ?_
  refine mB hT 18 rfl ?_
  refine mNf (lv2 := [(3, .int 14), (2, .int 1), (0, .ref 0), (1, .int 2)]) (st2 := [.long (ta 14), .int 14, .ref 11]) rfl rfl ?_
  refine mB hT 19 rfl ?_
  refine mB hT 14 rfl ?_
  refine mIf (fun _ => ?_) (fun hn => absurd (lc_ge.mpr (Int64.not_lt.mp hs)) hn)
  refine mNf (lv2 := [(3, .int 16), (2, .int 1), (0, .ref 0), (1, .int 2)]) (st2 := [.int 1, .ref 12]) rfl rfl ?_
  refine mB hT 1 rfl ?_
  refine mWd (w2 := (MW 0 vs wo u h bo ta (up (up (up (up (up (up (up (up (up (up (up (up (up (up (up (up (tsM 0 ta 0 hh) 0 (ta 0)) 1 0) 2 (ta 2)) 3 (ta 3)) 4 (ta 4)) 5 0) 6 (ta 6)) 7 (ta 7)) 8 (ta 8)) 9 0) 10 (ta 10)) 11 (ta 11)) 12 (ta 12)) 13 0) 14 (ta 14)) 15 (ta 15)) (up ro 0 (rr 0)) ot Bm bk)) rfl ?_
  refine mWd (w2 := (MW 0 vs wo u h bo ta (tsM 0 ta 1 hh) (up ro 0 (rr 0)) ot Bm bk)) rfl ?_
  refine hC.2 _ 0 [] _ _ _ _ _ (m_det) rfl rfl (Nat.le_of_ble_eq_true rfl) rfl ?_
  refine mNf (lv2 := [(3, .int 16), (2, .int 1), (0, .ref 0), (1, .int 2)]) (st2 := [.long (rr 1), .int 1, .ref 12]) rfl (by rw [hrr 1] <;> rfl) ?_
  refine mB hT 24 rfl ?_
  refine mNf (lv2 := [(3, .int 0), (2, .int 2), (0, .ref 0), (1, .int 2)]) (st2 := [.long (ta 0), .int 0, .ref 11]) rfl rfl ?_
  refine mB hT 19 rfl ?_
  refine mB hT 1 rfl ?_
  refine mWd (w2 := (MW 0 vs wo u h bo ta (up (up (tsM 0 ta 1 hh) 0 (ta 0)) 1 (ta 1)) (up (up ro 0 (rr 0)) 1 (rr 1)) ot Bm bk)) rfl ?_
  refine mB hT 20 rfl ?_
  refine mNf (lv2 := [(3, .int 2), (2, .int 2), (0, .ref 0), (1, .int 2)]) (st2 := [.long 0, .int 2, .ref 11]) rfl rfl ?_
  refine mB hT 19 rfl ?_
  refine mB hT 19 rfl ?_
  refine mNf (lv2 := [(3, .int 4), (2, .int 2), (0, .ref 0), (1, .int 2)]) (st2 := [.long (ta 4), .int 4, .ref 11]) rfl rfl ?_
  refine mB hT 1 rfl ?_
  refine mWd (w2 := (MW 0 vs wo u h bo ta (up (up (up (up (up (tsM 0 ta 1 hh) 0 (ta 0)) 1 (ta 1)) 2 0) 3 (ta 3)) 4 (ta 4)) (up (up ro 0 (rr 0)) 1 (rr 1)) ot Bm bk)) rfl ?_
  refine mB hT 18 rfl ?_
  refine mB hT 21 rfl ?_
  refine mNf (lv2 := [(3, .int 6), (2, .int 2), (0, .ref 0), (1, .int 2)]) (st2 := [.long 0, .int 6, .ref 11]) rfl rfl ?_
  refine mB hT 19 rfl ?_
  refine mB hT 1 rfl ?_
  refine mWd (w2 := (MW 0 vs wo u h bo ta (up (up (up (up (up (up (up (up (tsM 0 ta 1 hh) 0 (ta 0)) 1 (ta 1)) 2 0) 3 (ta 3)) 4 (ta 4)) 5 (ta 5)) 6 0) 7 (ta 7)) (up (up ro 0 (rr 0)) 1 (rr 1)) ot Bm bk)) rfl ?_
  refine mB hT 18 rfl ?_
  refine mNf (lv2 := [(3, .int 8), (2, .int 2), (0, .ref 0), (1, .int 2)]) (st2 := [.long (ta 8), .int 8, .ref 11]) rfl rfl ?_
  refine mB hT 19 rfl ?_
  refine mB hT 21 rfl ?_
  refine mNf (lv2 := [(3, .int 10), (2, .int 2), (0, .ref 0), (1, .int 2)]) (st2 := [.long 0, .int 10, .ref 11]) rfl rfl ?_
  refine mB hT 1 rfl ?_
  refine mWd (w2 := (MW 0 vs wo u h bo ta (up (up (up (up (up (up (up (up (up (up (up (tsM 0 ta 1 hh) 0 (ta 0)) 1 (ta 1)) 2 0) 3 (ta 3)) 4 (ta 4)) 5 (ta 5)) 6 0) 7 (ta 7)) 8 (ta 8)) 9 (ta 9)) 10 0) (up (up ro 0 (rr 0)) 1 (rr 1)) ot Bm bk)) rfl ?_
  refine mB hT 18 rfl ?_
  refine mB hT 19 rfl ?_
  refine mNf (lv2 := [(3, .int 12), (2, .int 2), (0, .ref 0), (1, .int 2)]) (st2 := [.long (ta 12), .int 12, .ref 11]) rfl rfl ?_
  refine mB hT 19 rfl ?_
  refine mB hT 1 rfl ?_
  refine mWd (w2 := (MW 0 vs wo u h bo ta (up (up (up (up (up (up (up (up (up (up (up (up (up (up (tsM 0 ta 1 hh) 0 (ta 0)) 1 (ta 1)) 2 0) 3 (ta 3)) 4 (ta 4)) 5 (ta 5)) 6 0) 7 (ta 7)) 8 (ta 8)) 9 (ta 9)) 10 0) 11 (ta 11)) 12 (ta 12)) 13 (ta 13)) (up (up ro 0 (rr 0)) 1 (rr 1)) ot Bm bk)) rfl ?_
  refine mB hT 20 rfl ?_
  refine mNf (lv2 := [(3, .int 14), (2, .int 2), (0, .ref 0), (1, .int 2)]) (st2 := [.long 0, .int 14, .ref 11]) rfl rfl ?_
  refine mB hT 19 rfl ?_
  refine mB hT 14 rfl ?_
  refine mIf (fun _ => ?_) (fun hn => absurd (lc_ge.mpr (Int64.not_lt.mp hs)) hn)
  refine mNf (lv2 := [(3, .int 16), (2, .int 2), (0, .ref 0), (1, .int 2)]) (st2 := [.int 2, .ref 12]) rfl rfl ?_
  refine mB hT 1 rfl ?_
  refine mWd (w2 := (MW 0 vs wo u h bo ta (up (up (up (up (up (up (up (up (up (up (up (up (up (up (up (up (tsM 0 ta 1 hh) 0 (ta 0)) 1 (ta 1)) 2 0) 3 (ta 3)) 4 (ta 4)) 5 (ta 5)) 6 0) 7 (ta 7)) 8 (ta 8)) 9 (ta 9)) 10 0) 11 (ta 11)) 12 (ta 12)) 13 (ta 13)) 14 0) 15 (ta 15)) (up (up ro 0 (rr 0)) 1 (rr 1)) ot Bm bk)) rfl ?_
  refine mWd (w2 := (MW 0 vs wo u h bo ta (tsM 0 ta 2 hh) (up (up ro 0 (rr 0)) 1 (rr 1)) ot Bm bk)) rfl ?_
  refine hC.2 _ 0 [] _ _ _ _ _ (m_det) rfl rfl (Nat.le_of_ble_eq_true rfl) rfl ?_
  refine mNf (lv2 := [(3, .int 16), (2, .int 2), (0, .ref 0), (1, .int 2)]) (st2 := [.long (rr 2), .int 2, .ref 12]) rfl (by rw [hrr 2] <;> rfl) ?_
  refine mB hT 24 rfl ?_
  refine mNf (lv2 := [(3, .int 0), (2, .int 3), (0, .ref 0), (1, .int 2)]) (st2 := [.long (ta 0), .int 0, .ref 11]) rfl rfl ?_
  refine mB hT 19 rfl ?_
  refine mB hT 1 rfl ?_
  refine mWd (w2 := (MW 0 vs wo u h bo ta (up (up (tsM 0 ta 2 hh) 0 (ta 0)) 1 (ta 1)) (up (up (up ro 0 (rr 0)) 1 (rr 1)) 2 (rr 2)) ot Bm bk)) rfl ?_
  refine mB hT 18 rfl ?_
  refine mNf (lv2 := [(3, .int 2), (2, .int 3), (0, .ref 0), (1, .int 2)]) (st2 := [.long (ta 2), .int 2, .ref 11]) rfl rfl ?_
  refine mB hT 21 rfl ?_
  refine mB hT 19 rfl ?_
  refine mNf (lv2 := [(3, .int 4), (2, .int 3), (0, .ref 0), (1, .int 2)]) (st2 := [.long (ta 4), .int 4, .ref 11]) rfl rfl ?_
  refine mB hT 1 rfl ?_
  refine mWd (w2 := (MW 0 vs wo u h bo ta (up (up (up (up (up (tsM 0 ta 2 hh) 0 (ta 0)) 1 (ta 1)) 2 (ta 2)) 3 0) 4 (ta 4)) (up (up (up ro 0 (rr 0)) 1 (rr 1)) 2 (rr 2)) ot Bm bk)) rfl ?_
  refine mB hT 18 rfl ?_
  refine mB hT 19 rfl ?_
  refine mNf (lv2 := [(3, .int 6), (2, .int 3), (0, .ref 0), (1, .int 2)]) (st2 := [.long (ta 6), .int 6, .ref 11]) rfl rfl ?_
  refine mB hT 21 rfl ?_
  refine mB hT 1 rfl ?_
  refine mWd (w2 := (MW 0 vs wo u h bo ta (up (up (up (up (up (up (up (up (tsM 0 ta 2 hh) 0 (ta 0)) 1 (ta 1)) 2 (ta 2)) 3 0) 4 (ta 4)) 5 (ta 5)) 6 (ta 6)) 7 0) (up (up (up ro 0 (rr 0)) 1 (rr 1)) 2 (rr 2)) ot Bm bk)) rfl ?_
  refine mB hT 18 rfl ?_
  refine mNf (lv2 := [(3, .int 8), (2, .int 3), (0, .ref 0), (1, .int 2)]) (st2 := [.long (ta 8), .int 8, .ref 11]) rfl rfl ?_
  refine mB hT 19 rfl ?_
  refine mB hT 19 rfl ?_
  refine mNf (lv2 := [(3, .int 10), (2, .int 3), (0, .ref 0), (1, .int 2)]) (st2 := [.long (ta 10), .int 10, .ref 11]) rfl rfl ?_
  refine mB hT 1 rfl ?_
  refine mWd (w2 := (MW 0 vs wo u h bo ta (up (up (up (up (up (up (up (up (up (up (up (tsM 0 ta 2 hh) 0 (ta 0)) 1 (ta 1)) 2 (ta 2)) 3 0) 4 (ta 4)) 5 (ta 5)) 6 (ta 6)) 7 0) 8 (ta 8)) 9 (ta 9)) 10 (ta 10)) (up (up (up ro 0 (rr 0)) 1 (rr 1)) 2 (rr 2)) ot Bm bk)) rfl ?_
  refine mB hT 20 rfl ?_
  refine mB hT 19 rfl ?_
  refine mNf (lv2 := [(3, .int 12), (2, .int 3), (0, .ref 0), (1, .int 2)]) (st2 := [.long (ta 12), .int 12, .ref 11]) rfl rfl ?_
  refine mB hT 19 rfl ?_
  refine mB hT 1 rfl ?_
  refine mWd (w2 := (MW 0 vs wo u h bo ta (up (up (up (up (up (up (up (up (up (up (up (up (up (up (tsM 0 ta 2 hh) 0 (ta 0)) 1 (ta 1)) 2 (ta 2)) 3 0) 4 (ta 4)) 5 (ta 5)) 6 (ta 6)) 7 0) 8 (ta 8)) 9 (ta 9)) 10 (ta 10)) 11 0) 12 (ta 12)) 13 (ta 13)) (up (up (up ro 0 (rr 0)) 1 (rr 1)) 2 (rr 2)) ot Bm bk)) rfl ?_
  refine mB hT 18 rfl ?_
  refine mNf (lv2 := [(3, .int 14), (2, .int 3), (0, .ref 0), (1, .int 2)]) (st2 := [.long (ta 14), .int 14, .ref 11]) rfl rfl ?_
  refine mB hT 21 rfl ?_
  refine mB hT 14 rfl ?_
  refine mIf (fun _ => ?_) (fun hn => absurd (lc_ge.mpr (Int64.not_lt.mp hs)) hn)
  refine mNf (lv2 := [(3, .int 16), (2, .int 3), (0, .ref 0), (1, .int 2)]) (st2 := [.int 3, .ref 12]) rfl rfl ?_
  refine mB hT 1 rfl ?_
  refine mWd (w2 := (MW 0 vs wo u h bo ta (up (up (up (up (up (up (up (up (up (up (up (up (up (up (up (up (tsM 0 ta 2 hh) 0 (ta 0)) 1 (ta 1)) 2 (ta 2)) 3 0) 4 (ta 4)) 5 (ta 5)) 6 (ta 6)) 7 0) 8 (ta 8)) 9 (ta 9)) 10 (ta 10)) 11 0) 12 (ta 12)) 13 (ta 13)) 14 (ta 14)) 15 0) (up (up (up ro 0 (rr 0)) 1 (rr 1)) 2 (rr 2)) ot Bm bk)) rfl ?_
  refine mWd (w2 := (MW 0 vs wo u h bo ta (tsM 0 ta 3 hh) (up (up (up ro 0 (rr 0)) 1 (rr 1)) 2 (rr 2)) ot Bm bk)) rfl ?_
  refine hC.2 _ 0 [] _ _ _ _ _ (m_det) rfl rfl (Nat.le_of_ble_eq_true rfl) rfl ?_
  refine mNf (lv2 := [(3, .int 16), (2, .int 3), (0, .ref 0), (1, .int 2)]) (st2 := [.long (rr 3), .int 3, .ref 12]) rfl (by rw [hrr 3] <;> rfl) ?_
  refine mB hT 6 rfl ?_
  exact hR _ (by decide) _ _ _ rfl rfl
set_option maxRecDepth 20000 in
theorem m_solve_0_2n {vs : Int32} {wo un h : Int64} {bo : Nat → Int32} {ta tr ro ot : Nat → Int64} {Bm : Nat → Nat → Nat → Int32} {bk : Nat → Nat → Int32} {u : Int64} {hh rr : Nat → Int64} (hs : wo < 0) (hu : u = -wo) (hq : ∀ j : Nat, hh j = (bk 2 j).toInt64) (hrr : ∀ i : Nat, rr i = -(dtM (tsM 0 ta i hh))) : KX3_solve l D ca ad [.ref 0, .int 2] (MW 0 vs wo un h bo ta tr ro ot Bm bk) none (MW 0 vs wo u h bo ta (tsM 0 ta 3 hh) rr ot Bm bk) := by
  refine PX3_solve (Nat.le_of_ble_eq_true rfl) ?_
  intro G hT hC hR
  refine mB hT 6 rfl ?_
  refine mIf (fun hp => absurd hp (fun q => Int64.not_lt.mpr (lc_ge.mp q) hs)) (fun _ => ?_)
  refine mB hT 4 rfl ?_
  refine mNf (lv2 := [(0, .ref 0), (1, .int 2)]) (st2 := [.long u, .ref 0]) rfl (by rw [hu] <;> rfl) ?_
  refine mB hT 26 rfl ?_
  refine mNf (lv2 := [(3, .int 0), (2, .int 0), (0, .ref 0), (1, .int 2)]) (st2 := [.long 0, .int 0, .ref 11]) rfl rfl ?_
  refine mB hT 19 rfl ?_
  refine mB hT 1 rfl ?_
  refine mWd (w2 := (MW 0 vs wo u h bo ta (up (up tr 0 0) 1 (ta 1)) ro ot Bm bk)) rfl ?_
  refine mB hT 18 rfl ?_
  refine mNf (lv2 := [(3, .int 2), (2, .int 0), (0, .ref 0), (1, .int 2)]) (st2 := [.long (ta 2), .int 2, .ref 11]) rfl rfl ?_
  refine mB hT 19 rfl ?_
  refine mB hT 21 rfl ?_
  refine mNf (lv2 := [(3, .int 4), (2, .int 0), (0, .ref 0), (1, .int 2)]) (st2 := [.long 0, .int 4, .ref 11]) rfl rfl ?_
  refine mB hT 1 rfl ?_
  refine mWd (w2 := (MW 0 vs wo u h bo ta (up (up (up (up (up tr 0 0) 1 (ta 1)) 2 (ta 2)) 3 (ta 3)) 4 0) ro ot Bm bk)) rfl ?_
  refine mB hT 18 rfl ?_
  refine mB hT 19 rfl ?_
  refine mNf (lv2 := [(3, .int 6), (2, .int 0), (0, .ref 0), (1, .int 2)]) (st2 := [.long (ta 6), .int 6, .ref 11]) rfl rfl ?_
  refine mB hT 19 rfl ?_
  refine mB hT 1 rfl ?_
  refine mWd (w2 := (MW 0 vs wo u h bo ta (up (up (up (up (up (up (up (up tr 0 0) 1 (ta 1)) 2 (ta 2)) 3 (ta 3)) 4 0) 5 (ta 5)) 6 (ta 6)) 7 (ta 7)) ro ot Bm bk)) rfl ?_
  refine mB hT 20 rfl ?_
  refine mNf (lv2 := [(3, .int 8), (2, .int 0), (0, .ref 0), (1, .int 2)]) (st2 := [.long 0, .int 8, .ref 11]) rfl rfl ?_
  refine mB hT 19 rfl ?_
  refine mB hT 19 rfl ?_
  refine mNf (lv2 := [(3, .int 10), (2, .int 0), (0, .ref 0), (1, .int 2)]) (st2 := [.long (ta 10), .int 10, .ref 11]) rfl rfl ?_
  refine mB hT 1 rfl ?_
  refine mWd (w2 := (MW 0 vs wo u h bo ta (up (up (up (up (up (up (up (up (up (up (up tr 0 0) 1 (ta 1)) 2 (ta 2)) 3 (ta 3)) 4 0) 5 (ta 5)) 6 (ta 6)) 7 (ta 7)) 8 0) 9 (ta 9)) 10 (ta 10)) ro ot Bm bk)) rfl ?_
  refine mB hT 18 rfl ?_
  refine mB hT 21 rfl ?_
  refine mNf (lv2 := [(3, .int 12), (2, .int 0), (0, .ref 0), (1, .int 2)]) (st2 := [.long 0, .int 12, .ref 11]) rfl rfl ?_
  refine mB hT 19 rfl ?_
  refine mB hT 1 rfl ?_
  refine mWd (w2 := (MW 0 vs wo u h bo ta (up (up (up (up (up (up (up (up (up (up (up (up (up (up tr 0 0) 1 (ta 1)) 2 (ta 2)) 3 (ta 3)) 4 0) 5 (ta 5)) 6 (ta 6)) 7 (ta 7)) 8 0) 9 (ta 9)) 10 (ta 10)) 11 (ta 11)) 12 0) 13 (ta 13)) ro ot Bm bk)) rfl ?_
  refine mB hT 18 rfl ?_
  refine mNf (lv2 := [(3, .int 14), (2, .int 0), (0, .ref 0), (1, .int 2)]) (st2 := [.long (ta 14), .int 14, .ref 11]) rfl rfl ?_
  refine mB hT 19 rfl ?_
  refine mB hT 14 rfl ?_
  refine mIf (fun hp => absurd hp (fun q => Int64.not_lt.mpr (lc_ge.mp q) hs)) (fun _ => ?_)
  refine mNf (lv2 := [(3, .int 16), (2, .int 0), (0, .ref 0), (1, .int 2)]) (st2 := [.int 0, .ref 12]) rfl rfl ?_
  refine mB hT 1 rfl ?_
  refine mWd (w2 := (MW 0 vs wo u h bo ta (up (up (up (up (up (up (up (up (up (up (up (up (up (up (up (up tr 0 0) 1 (ta 1)) 2 (ta 2)) 3 (ta 3)) 4 0) 5 (ta 5)) 6 (ta 6)) 7 (ta 7)) 8 0) 9 (ta 9)) 10 (ta 10)) 11 (ta 11)) 12 0) 13 (ta 13)) 14 (ta 14)) 15 (ta 15)) ro ot Bm bk)) rfl ?_
  refine mWd (w2 := (MW 0 vs wo u h bo ta (tsM 0 ta 0 hh) ro ot Bm bk)) rfl ?_
  refine hC.1 _ 0 [] _ _ _ _ _ (m_det) rfl rfl (Nat.le_of_ble_eq_true rfl) rfl ?_
  refine mB hT 2 rfl ?_
  refine mNf (lv2 := [(3, .int 16), (2, .int 0), (0, .ref 0), (1, .int 2)]) (st2 := [.long (rr 0), .int 0, .ref 12]) rfl (by rw [hrr 0] <;> rfl) ?_
  refine mB hT 24 rfl ?_
  refine mNf (lv2 := [(3, .int 0), (2, .int 1), (0, .ref 0), (1, .int 2)]) (st2 := [.long (ta 0), .int 0, .ref 11]) rfl rfl ?_
  refine mB hT 21 rfl ?_
  refine mB hT 1 rfl ?_
  refine mWd (w2 := (MW 0 vs wo u h bo ta (up (up (tsM 0 ta 0 hh) 0 (ta 0)) 1 0) (up ro 0 (rr 0)) ot Bm bk)) rfl ?_
  refine mB hT 18 rfl ?_
  refine mNf (lv2 := [(3, .int 2), (2, .int 1), (0, .ref 0), (1, .int 2)]) (st2 := [.long (ta 2), .int 2, .ref 11]) rfl rfl ?_
  refine mB hT 19 rfl ?_
  refine mB hT 19 rfl ?_
  refine mNf (lv2 := [(3, .int 4), (2, .int 1), (0, .ref 0), (1, .int 2)]) (st2 := [.long (ta 4), .int 4, .ref 11]) rfl rfl ?_
  refine mB hT 1 rfl ?_
  refine mWd (w2 := (MW 0 vs wo u h bo ta (up (up (up (up (up (tsM 0 ta 0 hh) 0 (ta 0)) 1 0) 2 (ta 2)) 3 (ta 3)) 4 (ta 4)) (up ro 0 (rr 0)) ot Bm bk)) rfl ?_
  refine mB hT 20 rfl ?_
  refine mB hT 19 rfl ?_
  refine mNf (lv2 := [(3, .int 6), (2, .int 1), (0, .ref 0), (1, .int 2)]) (st2 := [.long (ta 6), .int 6, .ref 11]) rfl rfl ?_
  refine mB hT 19 rfl ?_
  refine mB hT 1 rfl ?_
  refine mWd (w2 := (MW 0 vs wo u h bo ta (up (up (up (up (up (up (up (up (tsM 0 ta 0 hh) 0 (ta 0)) 1 0) 2 (ta 2)) 3 (ta 3)) 4 (ta 4)) 5 0) 6 (ta 6)) 7 (ta 7)) (up ro 0 (rr 0)) ot Bm bk)) rfl ?_
  refine mB hT 18 rfl ?_
  refine mNf (lv2 := [(3, .int 8), (2, .int 1), (0, .ref 0), (1, .int 2)]) (st2 := [.long (ta 8), .int 8, .ref 11]) rfl rfl ?_
  refine mB hT 21 rfl ?_
  refine mB hT 19 rfl ?_
  refine mNf (lv2 := [(3, .int 10), (2, .int 1), (0, .ref 0), (1, .int 2)]) (st2 := [.long (ta 10), .int 10, .ref 11]) rfl rfl ?_
  refine mB hT 1 rfl ?_
  refine mWd (w2 := (MW 0 vs wo u h bo ta (up (up (up (up (up (up (up (up (up (up (up (tsM 0 ta 0 hh) 0 (ta 0)) 1 0) 2 (ta 2)) 3 (ta 3)) 4 (ta 4)) 5 0) 6 (ta 6)) 7 (ta 7)) 8 (ta 8)) 9 0) 10 (ta 10)) (up ro 0 (rr 0)) ot Bm bk)) rfl ?_
  refine mB hT 18 rfl ?_
  refine mB hT 19 rfl ?_
  refine mNf (lv2 := [(3, .int 12), (2, .int 1), (0, .ref 0), (1, .int 2)]) (st2 := [.long (ta 12), .int 12, .ref 11]) rfl rfl ?_
  refine mB hT 21 rfl ?_
  refine mB hT 1 rfl ?_
  refine mWd (w2 := (MW 0 vs wo u h bo ta (up (up (up (up (up (up (up (up (up (up (up (up (up (up (tsM 0 ta 0 hh) 0 (ta 0)) 1 0) 2 (ta 2)) 3 (ta 3)) 4 (ta 4)) 5 0) 6 (ta 6)) 7 (ta 7)) 8 (ta 8)) 9 0) 10 (ta 10)) 11 (ta 11)) 12 (ta 12)) 13 0) (up ro 0 (rr 0)) ot Bm bk)) rfl ?_
  refine mB hT 18 rfl ?_
  refine mNf (lv2 := [(3, .int 14), (2, .int 1), (0, .ref 0), (1, .int 2)]) (st2 := [.long (ta 14), .int 14, .ref 11]) rfl rfl ?_
  refine mB hT 19 rfl ?_
  refine mB hT 14 rfl ?_
  refine mIf (fun hp => absurd hp (fun q => Int64.not_lt.mpr (lc_ge.mp q) hs)) (fun _ => ?_)
  refine mNf (lv2 := [(3, .int 16), (2, .int 1), (0, .ref 0), (1, .int 2)]) (st2 := [.int 1, .ref 12]) rfl rfl ?_
  refine mB hT 1 rfl ?_
  refine mWd (w2 := (MW 0 vs wo u h bo ta (up (up (up (up (up (up (up (up (up (up (up (up (up (up (up (up (tsM 0 ta 0 hh) 0 (ta 0)) 1 0) 2 (ta 2)) 3 (ta 3)) 4 (ta 4)) 5 0) 6 (ta 6)) 7 (ta 7)) 8 (ta 8)) 9 0) 10 (ta 10)) 11 (ta 11)) 12 (ta 12)) 13 0) 14 (ta 14)) 15 (ta 15)) (up ro 0 (rr 0)) ot Bm bk)) rfl ?_
  refine mWd (w2 := (MW 0 vs wo u h bo ta (tsM 0 ta 1 hh) (up ro 0 (rr 0)) ot Bm bk)) rfl ?_
  refine hC.1 _ 0 [] _ _ _ _ _ (m_det) rfl rfl (Nat.le_of_ble_eq_true rfl) rfl ?_
  refine mB hT 2 rfl ?_
  refine mNf (lv2 := [(3, .int 16), (2, .int 1), (0, .ref 0), (1, .int 2)]) (st2 := [.long (rr 1), .int 1, .ref 12]) rfl (by rw [hrr 1] <;> rfl) ?_
  refine mB hT 24 rfl ?_
  refine mNf (lv2 := [(3, .int 0), (2, .int 2), (0, .ref 0), (1, .int 2)]) (st2 := [.long (ta 0), .int 0, .ref 11]) rfl rfl ?_
  refine mB hT 19 rfl ?_
  refine mB hT 1 rfl ?_
  refine mWd (w2 := (MW 0 vs wo u h bo ta (up (up (tsM 0 ta 1 hh) 0 (ta 0)) 1 (ta 1)) (up (up ro 0 (rr 0)) 1 (rr 1)) ot Bm bk)) rfl ?_
  refine mB hT 20 rfl ?_
  refine mNf (lv2 := [(3, .int 2), (2, .int 2), (0, .ref 0), (1, .int 2)]) (st2 := [.long 0, .int 2, .ref 11]) rfl rfl ?_
  refine mB hT 19 rfl ?_
  refine mB hT 19 rfl ?_
  refine mNf (lv2 := [(3, .int 4), (2, .int 2), (0, .ref 0), (1, .int 2)]) (st2 := [.long (ta 4), .int 4, .ref 11]) rfl rfl ?_
  refine mB hT 1 rfl ?_
  refine mWd (w2 := (MW 0 vs wo u h bo ta (up (up (up (up (up (tsM 0 ta 1 hh) 0 (ta 0)) 1 (ta 1)) 2 0) 3 (ta 3)) 4 (ta 4)) (up (up ro 0 (rr 0)) 1 (rr 1)) ot Bm bk)) rfl ?_
  refine mB hT 18 rfl ?_
  refine mB hT 21 rfl ?_
  refine mNf (lv2 := [(3, .int 6), (2, .int 2), (0, .ref 0), (1, .int 2)]) (st2 := [.long 0, .int 6, .ref 11]) rfl rfl ?_
  refine mB hT 19 rfl ?_
  refine mB hT 1 rfl ?_
  refine mWd (w2 := (MW 0 vs wo u h bo ta (up (up (up (up (up (up (up (up (tsM 0 ta 1 hh) 0 (ta 0)) 1 (ta 1)) 2 0) 3 (ta 3)) 4 (ta 4)) 5 (ta 5)) 6 0) 7 (ta 7)) (up (up ro 0 (rr 0)) 1 (rr 1)) ot Bm bk)) rfl ?_
  refine mB hT 18 rfl ?_
  refine mNf (lv2 := [(3, .int 8), (2, .int 2), (0, .ref 0), (1, .int 2)]) (st2 := [.long (ta 8), .int 8, .ref 11]) rfl rfl ?_
  refine mB hT 19 rfl ?_
  refine mB hT 21 rfl ?_
  refine mNf (lv2 := [(3, .int 10), (2, .int 2), (0, .ref 0), (1, .int 2)]) (st2 := [.long 0, .int 10, .ref 11]) rfl rfl ?_
  refine mB hT 1 rfl ?_
  refine mWd (w2 := (MW 0 vs wo u h bo ta (up (up (up (up (up (up (up (up (up (up (up (tsM 0 ta 1 hh) 0 (ta 0)) 1 (ta 1)) 2 0) 3 (ta 3)) 4 (ta 4)) 5 (ta 5)) 6 0) 7 (ta 7)) 8 (ta 8)) 9 (ta 9)) 10 0) (up (up ro 0 (rr 0)) 1 (rr 1)) ot Bm bk)) rfl ?_
  refine mB hT 18 rfl ?_
  refine mB hT 19 rfl ?_
  refine mNf (lv2 := [(3, .int 12), (2, .int 2), (0, .ref 0), (1, .int 2)]) (st2 := [.long (ta 12), .int 12, .ref 11]) rfl rfl ?_
  refine mB hT 19 rfl ?_
  refine mB hT 1 rfl ?_
  refine mWd (w2 := (MW 0 vs wo u h bo ta (up (up (up (up (up (up (up (up (up (up (up (up (up (up (tsM 0 ta 1 hh) 0 (ta 0)) 1 (ta 1)) 2 0) 3 (ta 3)) 4 (ta 4)) 5 (ta 5)) 6 0) 7 (ta 7)) 8 (ta 8)) 9 (ta 9)) 10 0) 11 (ta 11)) 12 (ta 12)) 13 (ta 13)) (up (up ro 0 (rr 0)) 1 (rr 1)) ot Bm bk)) rfl ?_
  refine mB hT 20 rfl ?_
  refine mNf (lv2 := [(3, .int 14), (2, .int 2), (0, .ref 0), (1, .int 2)]) (st2 := [.long 0, .int 14, .ref 11]) rfl rfl ?_
  refine mB hT 19 rfl ?_
  refine mB hT 14 rfl ?_
  refine mIf (fun hp => absurd hp (fun q => Int64.not_lt.mpr (lc_ge.mp q) hs)) (fun _ => ?_)
  refine mNf (lv2 := [(3, .int 16), (2, .int 2), (0, .ref 0), (1, .int 2)]) (st2 := [.int 2, .ref 12]) rfl rfl ?_
  refine mB hT 1 rfl ?_
  refine mWd (w2 := (MW 0 vs wo u h bo ta (up (up (up (up (up (up (up (up (up (up (up (up (up (up (up (up (tsM 0 ta 1 hh) 0 (ta 0)) 1 (ta 1)) 2 0) 3 (ta 3)) 4 (ta 4)) 5 (ta 5)) 6 0) 7 (ta 7)) 8 (ta 8)) 9 (ta 9)) 10 0) 11 (ta 11)) 12 (ta 12)) 13 (ta 13)) 14 0) 15 (ta 15)) (up (up ro 0 (rr 0)) 1 (rr 1)) ot Bm bk)) rfl ?_
  refine mWd (w2 := (MW 0 vs wo u h bo ta (tsM 0 ta 2 hh) (up (up ro 0 (rr 0)) 1 (rr 1)) ot Bm bk)) rfl ?_
  refine hC.1 _ 0 [] _ _ _ _ _ (m_det) rfl rfl (Nat.le_of_ble_eq_true rfl) rfl ?_
  refine mB hT 2 rfl ?_
  refine mNf (lv2 := [(3, .int 16), (2, .int 2), (0, .ref 0), (1, .int 2)]) (st2 := [.long (rr 2), .int 2, .ref 12]) rfl (by rw [hrr 2] <;> rfl) ?_
  refine mB hT 24 rfl ?_
  refine mNf (lv2 := [(3, .int 0), (2, .int 3), (0, .ref 0), (1, .int 2)]) (st2 := [.long (ta 0), .int 0, .ref 11]) rfl rfl ?_
  refine mB hT 19 rfl ?_
  refine mB hT 1 rfl ?_
  refine mWd (w2 := (MW 0 vs wo u h bo ta (up (up (tsM 0 ta 2 hh) 0 (ta 0)) 1 (ta 1)) (up (up (up ro 0 (rr 0)) 1 (rr 1)) 2 (rr 2)) ot Bm bk)) rfl ?_
  refine mB hT 18 rfl ?_
  refine mNf (lv2 := [(3, .int 2), (2, .int 3), (0, .ref 0), (1, .int 2)]) (st2 := [.long (ta 2), .int 2, .ref 11]) rfl rfl ?_
  refine mB hT 21 rfl ?_
  refine mB hT 19 rfl ?_
  refine mNf (lv2 := [(3, .int 4), (2, .int 3), (0, .ref 0), (1, .int 2)]) (st2 := [.long (ta 4), .int 4, .ref 11]) rfl rfl ?_
  refine mB hT 1 rfl ?_
  refine mWd (w2 := (MW 0 vs wo u h bo ta (up (up (up (up (up (tsM 0 ta 2 hh) 0 (ta 0)) 1 (ta 1)) 2 (ta 2)) 3 0) 4 (ta 4)) (up (up (up ro 0 (rr 0)) 1 (rr 1)) 2 (rr 2)) ot Bm bk)) rfl ?_
  refine mB hT 18 rfl ?_
  refine mB hT 19 rfl ?_
  refine mNf (lv2 := [(3, .int 6), (2, .int 3), (0, .ref 0), (1, .int 2)]) (st2 := [.long (ta 6), .int 6, .ref 11]) rfl rfl ?_
  refine mB hT 21 rfl ?_
  refine mB hT 1 rfl ?_
  refine mWd (w2 := (MW 0 vs wo u h bo ta (up (up (up (up (up (up (up (up (tsM 0 ta 2 hh) 0 (ta 0)) 1 (ta 1)) 2 (ta 2)) 3 0) 4 (ta 4)) 5 (ta 5)) 6 (ta 6)) 7 0) (up (up (up ro 0 (rr 0)) 1 (rr 1)) 2 (rr 2)) ot Bm bk)) rfl ?_
  refine mB hT 18 rfl ?_
  refine mNf (lv2 := [(3, .int 8), (2, .int 3), (0, .ref 0), (1, .int 2)]) (st2 := [.long (ta 8), .int 8, .ref 11]) rfl rfl ?_
  refine mB hT 19 rfl ?_
  refine mB hT 19 rfl ?_
  refine mNf (lv2 := [(3, .int 10), (2, .int 3), (0, .ref 0), (1, .int 2)]) (st2 := [.long (ta 10), .int 10, .ref 11]) rfl rfl ?_
  refine mB hT 1 rfl ?_
  refine mWd (w2 := (MW 0 vs wo u h bo ta (up (up (up (up (up (up (up (up (up (up (up (tsM 0 ta 2 hh) 0 (ta 0)) 1 (ta 1)) 2 (ta 2)) 3 0) 4 (ta 4)) 5 (ta 5)) 6 (ta 6)) 7 0) 8 (ta 8)) 9 (ta 9)) 10 (ta 10)) (up (up (up ro 0 (rr 0)) 1 (rr 1)) 2 (rr 2)) ot Bm bk)) rfl ?_
  refine mB hT 20 rfl ?_
  refine mB hT 19 rfl ?_
  refine mNf (lv2 := [(3, .int 12), (2, .int 3), (0, .ref 0), (1, .int 2)]) (st2 := [.long (ta 12), .int 12, .ref 11]) rfl rfl ?_
  refine mB hT 19 rfl ?_
  refine mB hT 1 rfl ?_
  refine mWd (w2 := (MW 0 vs wo u h bo ta (up (up (up (up (up (up (up (up (up (up (up (up (up (up (tsM 0 ta 2 hh) 0 (ta 0)) 1 (ta 1)) 2 (ta 2)) 3 0) 4 (ta 4)) 5 (ta 5)) 6 (ta 6)) 7 0) 8 (ta 8)) 9 (ta 9)) 10 (ta 10)) 11 0) 12 (ta 12)) 13 (ta 13)) (up (up (up ro 0 (rr 0)) 1 (rr 1)) 2 (rr 2)) ot Bm bk)) rfl ?_
  refine mB hT 18 rfl ?_
  refine mNf (lv2 := [(3, .int 14), (2, .int 3), (0, .ref 0), (1, .int 2)]) (st2 := [.long (ta 14), .int 14, .ref 11]) rfl rfl ?_
  refine mB hT 21 rfl ?_
  refine mB hT 14 rfl ?_
  refine mIf (fun hp => absurd hp (fun q => Int64.not_lt.mpr (lc_ge.mp q) hs)) (fun _ => ?_)
  refine mNf (lv2 := [(3, .int 16), (2, .int 3), (0, .ref 0), (1, .int 2)]) (st2 := [.int 3, .ref 12]) rfl rfl ?_
  refine mB hT 1 rfl ?_
  refine mWd (w2 := (MW 0 vs wo u h bo ta (up (up (up (up (up (up (up (up (up (up (up (up (up (up (up (up (tsM 0 ta 2 hh) 0 (ta 0)) 1 (ta 1)) 2 (ta 2)) 3 0) 4 (ta 4)) 5 (ta 5)) 6 (ta 6)) 7 0) 8 (ta 8)) 9 (ta 9)) 10 (ta 10)) 11 0) 12 (ta 12)) 13 (ta 13)) 14 (ta 14)) 15 0) (up (up (up ro 0 (rr 0)) 1 (rr 1)) 2 (rr 2)) ot Bm bk)) rfl ?_
  refine mWd (w2 := (MW 0 vs wo u h bo ta (tsM 0 ta 3 hh) (up (up (up ro 0 (rr 0)) 1 (rr 1)) 2 (rr 2)) ot Bm bk)) rfl ?_
  refine hC.1 _ 0 [] _ _ _ _ _ (m_det) rfl rfl (Nat.le_of_ble_eq_true rfl) rfl ?_
  refine mB hT 2 rfl ?_
  refine mNf (lv2 := [(3, .int 16), (2, .int 3), (0, .ref 0), (1, .int 2)]) (st2 := [.long (rr 3), .int 3, .ref 12]) rfl (by rw [hrr 3] <;> rfl) ?_
  refine mB hT 6 rfl ?_
  exact hR _ (by decide) _ _ _ rfl rfl
set_option maxRecDepth 20000 in
theorem m_solve_0_3p {vs : Int32} {wo un h : Int64} {bo : Nat → Int32} {ta tr ro ot : Nat → Int64} {Bm : Nat → Nat → Nat → Int32} {bk : Nat → Nat → Int32} {u : Int64} {hh rr : Nat → Int64} (hs : ¬ wo < 0) (hu : u = wo) (hq : ∀ j : Nat, hh j = (bk 3 j).toInt64) (hrr : ∀ i : Nat, rr i = dtM (tsM 0 ta i hh)) : KX3_solve l D ca ad [.ref 0, .int 3] (MW 0 vs wo un h bo ta tr ro ot Bm bk) none (MW 0 vs wo u h bo ta (tsM 0 ta 3 hh) rr ot Bm bk) := by
  refine PX3_solve (Nat.le_of_ble_eq_true rfl) ?_
  intro G hT hC hR
  refine mB hT 6 rfl ?_
  refine mIf (fun _ => ?_) (fun hn => absurd (lc_ge.mpr (Int64.not_lt.mp hs)) hn)
  refine mB hT 2 rfl ?_
  refine mNf (lv2 := [(0, .ref 0), (1, .int 3)]) (st2 := [.long u, .ref 0]) rfl (by rw [hu] <;> rfl) ?_
  refine mB hT 26 rfl ?_
  refine mNf (lv2 := [(3, .int 0), (2, .int 0), (0, .ref 0), (1, .int 3)]) (st2 := [.long 0, .int 0, .ref 11]) rfl rfl ?_
  refine mB hT 19 rfl ?_
  refine mB hT 1 rfl ?_
  refine mWd (w2 := (MW 0 vs wo u h bo ta (up (up tr 0 0) 1 (ta 1)) ro ot Bm bk)) rfl ?_
  refine mB hT 18 rfl ?_
  refine mNf (lv2 := [(3, .int 2), (2, .int 0), (0, .ref 0), (1, .int 3)]) (st2 := [.long (ta 2), .int 2, .ref 11]) rfl rfl ?_
  refine mB hT 19 rfl ?_
  refine mB hT 21 rfl ?_
  refine mNf (lv2 := [(3, .int 4), (2, .int 0), (0, .ref 0), (1, .int 3)]) (st2 := [.long 0, .int 4, .ref 11]) rfl rfl ?_
  refine mB hT 1 rfl ?_
  refine mWd (w2 := (MW 0 vs wo u h bo ta (up (up (up (up (up tr 0 0) 1 (ta 1)) 2 (ta 2)) 3 (ta 3)) 4 0) ro ot Bm bk)) rfl ?_
  refine mB hT 18 rfl ?_
  refine mB hT 19 rfl ?_
  refine mNf (lv2 := [(3, .int 6), (2, .int 0), (0, .ref 0), (1, .int 3)]) (st2 := [.long (ta 6), .int 6, .ref 11]) rfl rfl ?_
  refine mB hT 19 rfl ?_
  refine mB hT 1 rfl ?_
  refine mWd (w2 := (MW 0 vs wo u h bo ta (up (up (up (up (up (up (up (up tr 0 0) 1 (ta 1)) 2 (ta 2)) 3 (ta 3)) 4 0) 5 (ta 5)) 6 (ta 6)) 7 (ta 7)) ro ot Bm bk)) rfl ?_
  refine mB hT 20 rfl ?_
  refine mNf (lv2 := [(3, .int 8), (2, .int 0), (0, .ref 0), (1, .int 3)]) (st2 := [.long 0, .int 8, .ref 11]) rfl rfl ?_
  refine mB hT 19 rfl ?_
  refine mB hT 19 rfl ?_
  refine mNf (lv2 := [(3, .int 10), (2, .int 0), (0, .ref 0), (1, .int 3)]) (st2 := [.long (ta 10), .int 10, .ref 11]) rfl rfl ?_
  refine mB hT 1 rfl ?_
  refine mWd (w2 := (MW 0 vs wo u h bo ta (up (up (up (up (up (up (up (up (up (up (up tr 0 0) 1 (ta 1)) 2 (ta 2)) 3 (ta 3)) 4 0) 5 (ta 5)) 6 (ta 6)) 7 (ta 7)) 8 0) 9 (ta 9)) 10 (ta 10)) ro ot Bm bk)) rfl ?_
  refine mB hT 18 rfl ?_
  refine mB hT 21 rfl ?_
  refine mNf (lv2 := [(3, .int 12), (2, .int 0), (0, .ref 0), (1, .int 3)]) (st2 := [.long 0, .int 12, .ref 11]) rfl rfl ?_
  refine mB hT 19 rfl ?_
  refine mB hT 1 rfl ?_
  refine mWd (w2 := (MW 0 vs wo u h bo ta (up (up (up (up (up (up (up (up (up (up (up (up (up (up tr 0 0) 1 (ta 1)) 2 (ta 2)) 3 (ta 3)) 4 0) 5 (ta 5)) 6 (ta 6)) 7 (ta 7)) 8 0) 9 (ta 9)) 10 (ta 10)) 11 (ta 11)) 12 0) 13 (ta 13)) ro ot Bm bk)) rfl ?_
  refine mB hT 18 rfl ?_
  refine mNf (lv2 := [(3, .int 14), (2, .int 0), (0, .ref 0), (1, .int 3)]) (st2 := [.long (ta 14), .int 14, .ref 11]) rfl rfl ?_
  refine mB hT 19 rfl ?_
  refine mB hT 14 rfl ?_
  refine mIf (fun _ => ?_) (fun hn => absurd (lc_ge.mpr (Int64.not_lt.mp hs)) hn)
  refine mNf (lv2 := [(3, .int 16), (2, .int 0), (0, .ref 0), (1, .int 3)]) (st2 := [.int 0, .ref 12]) rfl rfl ?_
  refine mB hT 1 rfl ?_
  refine mWd (w2 := (MW 0 vs wo u h bo ta (up (up (up (up (up (up (up (up (up (up (up (up (up (up (up (up tr 0 0) 1 (ta 1)) 2 (ta 2)) 3 (ta 3)) 4 0) 5 (ta 5)) 6 (ta 6)) 7 (ta 7)) 8 0) 9 (ta 9)) 10 (ta 10)) 11 (ta 11)) 12 0) 13 (ta 13)) 14 (ta 14)) 15 (ta 15)) ro ot Bm bk)) rfl ?_
  refine mWd (w2 := (MW 0 vs wo u h bo ta (tsM 0 ta 0 hh) ro ot Bm bk)) rfl ?_
  refine hC.2 _ 0 [] _ _ _ _ _ (m_det) rfl rfl (Nat.le_of_ble_eq_true rfl) rfl ?_
  refine mNf (lv2 := [(3, .int 16), (2, .int 0), (0, .ref 0), (1, .int 3)]) (st2 := [.long (rr 0), .int 0, .ref 12]) rfl (by rw [hrr 0] <;> rfl) ?_
  refine mB hT 24 rfl ?_
  refine mNf (lv2 := [(3, .int 0), (2, .int 1), (0, .ref 0), (1, .int 3)]) (st2 := [.long (ta 0), .int 0, .ref 11]) rfl rfl ?_
  refine mB hT 21 rfl ?_
  refine mB hT 1 rfl ?_
  refine mWd (w2 := (MW 0 vs wo u h bo ta (up (up (tsM 0 ta 0 hh) 0 (ta 0)) 1 0) (up ro 0 (rr 0)) ot Bm bk)) rfl ?_
  refine mB hT 18 rfl ?_
  refine mNf (lv2 := [(3, .int 2), (2, .int 1), (0, .ref 0), (1, .int 3)]) (st2 := [.long (ta 2), .int 2, .ref 11]) rfl rfl ?_
  refine mB hT 19 rfl ?_
  refine mB hT 19 rfl ?_
  refine mNf (lv2 := [(3, .int 4), (2, .int 1), (0, .ref 0), (1, .int 3)]) (st2 := [.long (ta 4), .int 4, .ref 11]) rfl rfl ?_
  refine mB hT 1 rfl ?_
  refine mWd (w2 := (MW 0 vs wo u h bo ta (up (up (up (up (up (tsM 0 ta 0 hh) 0 (ta 0)) 1 0) 2 (ta 2)) 3 (ta 3)) 4 (ta 4)) (up ro 0 (rr 0)) ot Bm bk)) rfl ?_
  refine mB hT 20 rfl ?_
  refine mB hT 19 rfl ?_
  refine mNf (lv2 := [(3, .int 6), (2, .int 1), (0, .ref 0), (1, .int 3)]) (st2 := [.long (ta 6), .int 6, .ref 11]) rfl rfl ?_
  refine mB hT 19 rfl ?_
  refine mB hT 1 rfl ?_
  refine mWd (w2 := (MW 0 vs wo u h bo ta (up (up (up (up (up (up (up (up (tsM 0 ta 0 hh) 0 (ta 0)) 1 0) 2 (ta 2)) 3 (ta 3)) 4 (ta 4)) 5 0) 6 (ta 6)) 7 (ta 7)) (up ro 0 (rr 0)) ot Bm bk)) rfl ?_
  refine mB hT 18 rfl ?_
  refine mNf (lv2 := [(3, .int 8), (2, .int 1), (0, .ref 0), (1, .int 3)]) (st2 := [.long (ta 8), .int 8, .ref 11]) rfl rfl ?_
  refine mB hT 21 rfl ?_
  refine mB hT 19 rfl ?_
  refine mNf (lv2 := [(3, .int 10), (2, .int 1), (0, .ref 0), (1, .int 3)]) (st2 := [.long (ta 10), .int 10, .ref 11]) rfl rfl ?_
  refine mB hT 1 rfl ?_
  refine mWd (w2 := (MW 0 vs wo u h bo ta (up (up (up (up (up (up (up (up (up (up (up (tsM 0 ta 0 hh) 0 (ta 0)) 1 0) 2 (ta 2)) 3 (ta 3)) 4 (ta 4)) 5 0) 6 (ta 6)) 7 (ta 7)) 8 (ta 8)) 9 0) 10 (ta 10)) (up ro 0 (rr 0)) ot Bm bk)) rfl ?_
  refine mB hT 18 rfl ?_
  refine mB hT 19 rfl ?_
  refine mNf (lv2 := [(3, .int 12), (2, .int 1), (0, .ref 0), (1, .int 3)]) (st2 := [.long (ta 12), .int 12, .ref 11]) rfl rfl ?_
  refine mB hT 21 rfl ?_
  refine mB hT 1 rfl ?_
  refine mWd (w2 := (MW 0 vs wo u h bo ta (up (up (up (up (up (up (up (up (up (up (up (up (up (up (tsM 0 ta 0 hh) 0 (ta 0)) 1 0) 2 (ta 2)) 3 (ta 3)) 4 (ta 4)) 5 0) 6 (ta 6)) 7 (ta 7)) 8 (ta 8)) 9 0) 10 (ta 10)) 11 (ta 11)) 12 (ta 12)) 13 0) (up ro 0 (rr 0)) ot Bm bk)) rfl ?_
  refine mB hT 18 rfl ?_
  refine mNf (lv2 := [(3, .int 14), (2, .int 1), (0, .ref 0), (1, .int 3)]) (st2 := [.long (ta 14), .int 14, .ref 11]) rfl rfl ?_
  refine mB hT 19 rfl ?_
  refine mB hT 14 rfl ?_
  refine mIf (fun _ => ?_) (fun hn => absurd (lc_ge.mpr (Int64.not_lt.mp hs)) hn)
  refine mNf (lv2 := [(3, .int 16), (2, .int 1), (0, .ref 0), (1, .int 3)]) (st2 := [.int 1, .ref 12]) rfl rfl ?_
  refine mB hT 1 rfl ?_
  refine mWd (w2 := (MW 0 vs wo u h bo ta (up (up (up (up (up (up (up (up (up (up (up (up (up (up (up (up (tsM 0 ta 0 hh) 0 (ta 0)) 1 0) 2 (ta 2)) 3 (ta 3)) 4 (ta 4)) 5 0) 6 (ta 6)) 7 (ta 7)) 8 (ta 8)) 9 0) 10 (ta 10)) 11 (ta 11)) 12 (ta 12)) 13 0) 14 (ta 14)) 15 (ta 15)) (up ro 0 (rr 0)) ot Bm bk)) rfl ?_
  refine mWd (w2 := (MW 0 vs wo u h bo ta (tsM 0 ta 1 hh) (up ro 0 (rr 0)) ot Bm bk)) rfl ?_
  refine hC.2 _ 0 [] _ _ _ _ _ (m_det) rfl rfl (Nat.le_of_ble_eq_true rfl) rfl ?_
  refine mNf (lv2 := [(3, .int 16), (2, .int 1), (0, .ref 0), (1, .int 3)]) (st2 := [.long (rr 1), .int 1, .ref 12]) rfl (by rw [hrr 1] <;> rfl) ?_
  refine mB hT 24 rfl ?_
  refine mNf (lv2 := [(3, .int 0), (2, .int 2), (0, .ref 0), (1, .int 3)]) (st2 := [.long (ta 0), .int 0, .ref 11]) rfl rfl ?_
  refine mB hT 19 rfl ?_
  refine mB hT 1 rfl ?_
  refine mWd (w2 := (MW 0 vs wo u h bo ta (up (up (tsM 0 ta 1 hh) 0 (ta 0)) 1 (ta 1)) (up (up ro 0 (rr 0)) 1 (rr 1)) ot Bm bk)) rfl ?_
  refine mB hT 20 rfl ?_
  refine mNf (lv2 := [(3, .int 2), (2, .int 2), (0, .ref 0), (1, .int 3)]) (st2 := [.long 0, .int 2, .ref 11]) rfl rfl ?_
  refine mB hT 19 rfl ?_
  refine mB hT 19 rfl ?_
  refine mNf (lv2 := [(3, .int 4), (2, .int 2), (0, .ref 0), (1, .int 3)]) (st2 := [.long (ta 4), .int 4, .ref 11]) rfl rfl ?_
  refine mB hT 1 rfl ?_
  refine mWd (w2 := (MW 0 vs wo u h bo ta (up (up (up (up (up (tsM 0 ta 1 hh) 0 (ta 0)) 1 (ta 1)) 2 0) 3 (ta 3)) 4 (ta 4)) (up (up ro 0 (rr 0)) 1 (rr 1)) ot Bm bk)) rfl ?_
  refine mB hT 18 rfl ?_
  refine mB hT 21 rfl ?_
  refine mNf (lv2 := [(3, .int 6), (2, .int 2), (0, .ref 0), (1, .int 3)]) (st2 := [.long 0, .int 6, .ref 11]) rfl rfl ?_
  refine mB hT 19 rfl ?_
  refine mB hT 1 rfl ?_
  refine mWd (w2 := (MW 0 vs wo u h bo ta (up (up (up (up (up (up (up (up (tsM 0 ta 1 hh) 0 (ta 0)) 1 (ta 1)) 2 0) 3 (ta 3)) 4 (ta 4)) 5 (ta 5)) 6 0) 7 (ta 7)) (up (up ro 0 (rr 0)) 1 (rr 1)) ot Bm bk)) rfl ?_
  refine mB hT 18 rfl ?_
  refine mNf (lv2 := [(3, .int 8), (2, .int 2), (0, .ref 0), (1, .int 3)]) (st2 := [.long (ta 8), .int 8, .ref 11]) rfl rfl ?_
  refine mB hT 19 rfl ?_
  refine mB hT 21 rfl ?_
  refine mNf (lv2 := [(3, .int 10), (2, .int 2), (0, .ref 0), (1, .int 3)]) (st2 := [.long 0, .int 10, .ref 11]) rfl rfl ?_
  refine mB hT 1 rfl ?_
  refine mWd (w2 := (MW 0 vs wo u h bo ta (up (up (up (up (up (up (up (up (up (up (up (tsM 0 ta 1 hh) 0 (ta 0)) 1 (ta 1)) 2 0) 3 (ta 3)) 4 (ta 4)) 5 (ta 5)) 6 0) 7 (ta 7)) 8 (ta 8)) 9 (ta 9)) 10 0) (up (up ro 0 (rr 0)) 1 (rr 1)) ot Bm bk)) rfl ?_
  refine mB hT 18 rfl ?_
  refine mB hT 19 rfl ?_
  refine mNf (lv2 := [(3, .int 12), (2, .int 2), (0, .ref 0), (1, .int 3)]) (st2 := [.long (ta 12), .int 12, .ref 11]) rfl rfl ?_
  refine mB hT 19 rfl ?_
  refine mB hT 1 rfl ?_
  refine mWd (w2 := (MW 0 vs wo u h bo ta (up (up (up (up (up (up (up (up (up (up (up (up (up (up (tsM 0 ta 1 hh) 0 (ta 0)) 1 (ta 1)) 2 0) 3 (ta 3)) 4 (ta 4)) 5 (ta 5)) 6 0) 7 (ta 7)) 8 (ta 8)) 9 (ta 9)) 10 0) 11 (ta 11)) 12 (ta 12)) 13 (ta 13)) (up (up ro 0 (rr 0)) 1 (rr 1)) ot Bm bk)) rfl ?_
  refine mB hT 20 rfl ?_
  refine mNf (lv2 := [(3, .int 14), (2, .int 2), (0, .ref 0), (1, .int 3)]) (st2 := [.long 0, .int 14, .ref 11]) rfl rfl ?_
  refine mB hT 19 rfl ?_
  refine mB hT 14 rfl ?_
  refine mIf (fun _ => ?_) (fun hn => absurd (lc_ge.mpr (Int64.not_lt.mp hs)) hn)
  refine mNf (lv2 := [(3, .int 16), (2, .int 2), (0, .ref 0), (1, .int 3)]) (st2 := [.int 2, .ref 12]) rfl rfl ?_
  refine mB hT 1 rfl ?_
  refine mWd (w2 := (MW 0 vs wo u h bo ta (up (up (up (up (up (up (up (up (up (up (up (up (up (up (up (up (tsM 0 ta 1 hh) 0 (ta 0)) 1 (ta 1)) 2 0) 3 (ta 3)) 4 (ta 4)) 5 (ta 5)) 6 0) 7 (ta 7)) 8 (ta 8)) 9 (ta 9)) 10 0) 11 (ta 11)) 12 (ta 12)) 13 (ta 13)) 14 0) 15 (ta 15)) (up (up ro 0 (rr 0)) 1 (rr 1)) ot Bm bk)) rfl ?_
  refine mWd (w2 := (MW 0 vs wo u h bo ta (tsM 0 ta 2 hh) (up (up ro 0 (rr 0)) 1 (rr 1)) ot Bm bk)) rfl ?_
  refine hC.2 _ 0 [] _ _ _ _ _ (m_det) rfl rfl (Nat.le_of_ble_eq_true rfl) rfl ?_
  refine mNf (lv2 := [(3, .int 16), (2, .int 2), (0, .ref 0), (1, .int 3)]) (st2 := [.long (rr 2), .int 2, .ref 12]) rfl (by rw [hrr 2] <;> rfl) ?_
  refine mB hT 24 rfl ?_
  refine mNf (lv2 := [(3, .int 0), (2, .int 3), (0, .ref 0), (1, .int 3)]) (st2 := [.long (ta 0), .int 0, .ref 11]) rfl rfl ?_
  refine mB hT 19 rfl ?_
  refine mB hT 1 rfl ?_
  refine mWd (w2 := (MW 0 vs wo u h bo ta (up (up (tsM 0 ta 2 hh) 0 (ta 0)) 1 (ta 1)) (up (up (up ro 0 (rr 0)) 1 (rr 1)) 2 (rr 2)) ot Bm bk)) rfl ?_
  refine mB hT 18 rfl ?_
  refine mNf (lv2 := [(3, .int 2), (2, .int 3), (0, .ref 0), (1, .int 3)]) (st2 := [.long (ta 2), .int 2, .ref 11]) rfl rfl ?_
  refine mB hT 21 rfl ?_
  refine mB hT 19 rfl ?_
  refine mNf (lv2 := [(3, .int 4), (2, .int 3), (0, .ref 0), (1, .int 3)]) (st2 := [.long (ta 4), .int 4, .ref 11]) rfl rfl ?_
  refine mB hT 1 rfl ?_
  refine mWd (w2 := (MW 0 vs wo u h bo ta (up (up (up (up (up (tsM 0 ta 2 hh) 0 (ta 0)) 1 (ta 1)) 2 (ta 2)) 3 0) 4 (ta 4)) (up (up (up ro 0 (rr 0)) 1 (rr 1)) 2 (rr 2)) ot Bm bk)) rfl ?_
  refine mB hT 18 rfl ?_
  refine mB hT 19 rfl ?_
  refine mNf (lv2 := [(3, .int 6), (2, .int 3), (0, .ref 0), (1, .int 3)]) (st2 := [.long (ta 6), .int 6, .ref 11]) rfl rfl ?_
  refine mB hT 21 rfl ?_
  refine mB hT 1 rfl ?_
  refine mWd (w2 := (MW 0 vs wo u h bo ta (up (up (up (up (up (up (up (up (tsM 0 ta 2 hh) 0 (ta 0)) 1 (ta 1)) 2 (ta 2)) 3 0) 4 (ta 4)) 5 (ta 5)) 6 (ta 6)) 7 0) (up (up (up ro 0 (rr 0)) 1 (rr 1)) 2 (rr 2)) ot Bm bk)) rfl ?_
  refine mB hT 18 rfl ?_
  refine mNf (lv2 := [(3, .int 8), (2, .int 3), (0, .ref 0), (1, .int 3)]) (st2 := [.long (ta 8), .int 8, .ref 11]) rfl rfl ?_
  refine mB hT 19 rfl ?_
  refine mB hT 19 rfl ?_
  refine mNf (lv2 := [(3, .int 10), (2, .int 3), (0, .ref 0), (1, .int 3)]) (st2 := [.long (ta 10), .int 10, .ref 11]) rfl rfl ?_
  refine mB hT 1 rfl ?_
  refine mWd (w2 := (MW 0 vs wo u h bo ta (up (up (up (up (up (up (up (up (up (up (up (tsM 0 ta 2 hh) 0 (ta 0)) 1 (ta 1)) 2 (ta 2)) 3 0) 4 (ta 4)) 5 (ta 5)) 6 (ta 6)) 7 0) 8 (ta 8)) 9 (ta 9)) 10 (ta 10)) (up (up (up ro 0 (rr 0)) 1 (rr 1)) 2 (rr 2)) ot Bm bk)) rfl ?_
  refine mB hT 20 rfl ?_
  refine mB hT 19 rfl ?_
  refine mNf (lv2 := [(3, .int 12), (2, .int 3), (0, .ref 0), (1, .int 3)]) (st2 := [.long (ta 12), .int 12, .ref 11]) rfl rfl ?_
  refine mB hT 19 rfl ?_
  refine mB hT 1 rfl ?_
  refine mWd (w2 := (MW 0 vs wo u h bo ta (up (up (up (up (up (up (up (up (up (up (up (up (up (up (tsM 0 ta 2 hh) 0 (ta 0)) 1 (ta 1)) 2 (ta 2)) 3 0) 4 (ta 4)) 5 (ta 5)) 6 (ta 6)) 7 0) 8 (ta 8)) 9 (ta 9)) 10 (ta 10)) 11 0) 12 (ta 12)) 13 (ta 13)) (up (up (up ro 0 (rr 0)) 1 (rr 1)) 2 (rr 2)) ot Bm bk)) rfl ?_
  refine mB hT 18 rfl ?_
  refine mNf (lv2 := [(3, .int 14), (2, .int 3), (0, .ref 0), (1, .int 3)]) (st2 := [.long (ta 14), .int 14, .ref 11]) rfl rfl ?_
  refine mB hT 21 rfl ?_
  refine mB hT 14 rfl ?_
  refine mIf (fun _ => ?_) (fun hn => absurd (lc_ge.mpr (Int64.not_lt.mp hs)) hn)
  refine mNf (lv2 := [(3, .int 16), (2, .int 3), (0, .ref 0), (1, .int 3)]) (st2 := [.int 3, .ref 12]) rfl rfl ?_
  refine mB hT 1 rfl ?_
  refine mWd (w2 := (MW 0 vs wo u h bo ta (up (up (up (up (up (up (up (up (up (up (up (up (up (up (up (up (tsM 0 ta 2 hh) 0 (ta 0)) 1 (ta 1)) 2 (ta 2)) 3 0) 4 (ta 4)) 5 (ta 5)) 6 (ta 6)) 7 0) 8 (ta 8)) 9 (ta 9)) 10 (ta 10)) 11 0) 12 (ta 12)) 13 (ta 13)) 14 (ta 14)) 15 0) (up (up (up ro 0 (rr 0)) 1 (rr 1)) 2 (rr 2)) ot Bm bk)) rfl ?_
  refine mWd (w2 := (MW 0 vs wo u h bo ta (tsM 0 ta 3 hh) (up (up (up ro 0 (rr 0)) 1 (rr 1)) 2 (rr 2)) ot Bm bk)) rfl ?_
  refine hC.2 _ 0 [] _ _ _ _ _ (m_det) rfl rfl (Nat.le_of_ble_eq_true rfl) rfl ?_
  refine mNf (lv2 := [(3, .int 16), (2, .int 3), (0, .ref 0), (1, .int 3)]) (st2 := [.long (rr 3), .int 3, .ref 12]) rfl (by rw [hrr 3] <;> rfl) ?_
  refine mB hT 6 rfl ?_
  exact hR _ (by decide) _ _ _ rfl rfl
set_option maxRecDepth 20000 in
theorem m_solve_0_3n {vs : Int32} {wo un h : Int64} {bo : Nat → Int32} {ta tr ro ot : Nat → Int64} {Bm : Nat → Nat → Nat → Int32} {bk : Nat → Nat → Int32} {u : Int64} {hh rr : Nat → Int64} (hs : wo < 0) (hu : u = -wo) (hq : ∀ j : Nat, hh j = (bk 3 j).toInt64) (hrr : ∀ i : Nat, rr i = -(dtM (tsM 0 ta i hh))) : KX3_solve l D ca ad [.ref 0, .int 3] (MW 0 vs wo un h bo ta tr ro ot Bm bk) none (MW 0 vs wo u h bo ta (tsM 0 ta 3 hh) rr ot Bm bk) := by
  refine PX3_solve (Nat.le_of_ble_eq_true rfl) ?_
  intro G hT hC hR
  refine mB hT 6 rfl ?_
  refine mIf (fun hp => absurd hp (fun q => Int64.not_lt.mpr (lc_ge.mp q) hs)) (fun _ => ?_)
  refine mB hT 4 rfl ?_
  refine mNf (lv2 := [(0, .ref 0), (1, .int 3)]) (st2 := [.long u, .ref 0]) rfl (by rw [hu] <;> rfl) ?_
  refine mB hT 26 rfl ?_
  refine mNf (lv2 := [(3, .int 0), (2, .int 0), (0, .ref 0), (1, .int 3)]) (st2 := [.long 0, .int 0, .ref 11]) rfl rfl ?_
  refine mB hT 19 rfl ?_
  refine mB hT 1 rfl ?_
  refine mWd (w2 := (MW 0 vs wo u h bo ta (up (up tr 0 0) 1 (ta 1)) ro ot Bm bk)) rfl ?_
  refine mB hT 18 rfl ?_
  refine mNf (lv2 := [(3, .int 2), (2, .int 0), (0, .ref 0), (1, .int 3)]) (st2 := [.long (ta 2), .int 2, .ref 11]) rfl rfl ?_
  refine mB hT 19 rfl ?_
  refine mB hT 21 rfl ?_
  refine mNf (lv2 := [(3, .int 4), (2, .int 0), (0, .ref 0), (1, .int 3)]) (st2 := [.long 0, .int 4, .ref 11]) rfl rfl ?_
  refine mB hT 1 rfl ?_
  refine mWd (w2 := (MW 0 vs wo u h bo ta (up (up (up (up (up tr 0 0) 1 (ta 1)) 2 (ta 2)) 3 (ta 3)) 4 0) ro ot Bm bk)) rfl ?_
  refine mB hT 18 rfl ?_
  refine mB hT 19 rfl ?_
  refine mNf (lv2 := [(3, .int 6), (2, .int 0), (0, .ref 0), (1, .int 3)]) (st2 := [.long (ta 6), .int 6, .ref 11]) rfl rfl ?_
  refine mB hT 19 rfl ?_
  refine mB hT 1 rfl ?_
  refine mWd (w2 := (MW 0 vs wo u h bo ta (up (up (up (up (up (up (up (up tr 0 0) 1 (ta 1)) 2 (ta 2)) 3 (ta 3)) 4 0) 5 (ta 5)) 6 (ta 6)) 7 (ta 7)) ro ot Bm bk)) rfl ?_
  refine mB hT 20 rfl ?_
  refine mNf (lv2 := [(3, .int 8), (2, .int 0), (0, .ref 0), (1, .int 3)]) (st2 := [.long 0, .int 8, .ref 11]) rfl rfl ?_
  refine mB hT 19 rfl ?_
  refine mB hT 19 rfl ?_
  refine mNf (lv2 := [(3, .int 10), (2, .int 0), (0, .ref 0), (1, .int 3)]) (st2 := [.long (ta 10), .int 10, .ref 11]) rfl rfl ?_
  refine mB hT 1 rfl ?_
  refine mWd (w2 := (MW 0 vs wo u h bo ta (up (up (up (up (up (up (up (up (up (up (up tr 0 0) 1 (ta 1)) 2 (ta 2)) 3 (ta 3)) 4 0) 5 (ta 5)) 6 (ta 6)) 7 (ta 7)) 8 0) 9 (ta 9)) 10 (ta 10)) ro ot Bm bk)) rfl ?_
  refine mB hT 18 rfl ?_
  refine mB hT 21 rfl ?_
  refine mNf (lv2 := [(3, .int 12), (2, .int 0), (0, .ref 0), (1, .int 3)]) (st2 := [.long 0, .int 12, .ref 11]) rfl rfl ?_
  refine mB hT 19 rfl ?_
  refine mB hT 1 rfl ?_
  refine mWd (w2 := (MW 0 vs wo u h bo ta (up (up (up (up (up (up (up (up (up (up (up (up (up (up tr 0 0) 1 (ta 1)) 2 (ta 2)) 3 (ta 3)) 4 0) 5 (ta 5)) 6 (ta 6)) 7 (ta 7)) 8 0) 9 (ta 9)) 10 (ta 10)) 11 (ta 11)) 12 0) 13 (ta 13)) ro ot Bm bk)) rfl ?_
  refine mB hT 18 rfl ?_
  refine mNf (lv2 := [(3, .int 14), (2, .int 0), (0, .ref 0), (1, .int 3)]) (st2 := [.long (ta 14), .int 14, .ref 11]) rfl rfl ?_
  refine mB hT 19 rfl ?_
  refine mB hT 14 rfl ?_
  refine mIf (fun hp => absurd hp (fun q => Int64.not_lt.mpr (lc_ge.mp q) hs)) (fun _ => ?_)
  refine mNf (lv2 := [(3, .int 16), (2, .int 0), (0, .ref 0), (1, .int 3)]) (st2 := [.int 0, .ref 12]) rfl rfl ?_
  refine mB hT 1 rfl ?_
  refine mWd (w2 := (MW 0 vs wo u h bo ta (up (up (up (up (up (up (up (up (up (up (up (up (up (up (up (up tr 0 0) 1 (ta 1)) 2 (ta 2)) 3 (ta 3)) 4 0) 5 (ta 5)) 6 (ta 6)) 7 (ta 7)) 8 0) 9 (ta 9)) 10 (ta 10)) 11 (ta 11)) 12 0) 13 (ta 13)) 14 (ta 14)) 15 (ta 15)) ro ot Bm bk)) rfl ?_
  refine mWd (w2 := (MW 0 vs wo u h bo ta (tsM 0 ta 0 hh) ro ot Bm bk)) rfl ?_
  refine hC.1 _ 0 [] _ _ _ _ _ (m_det) rfl rfl (Nat.le_of_ble_eq_true rfl) rfl ?_
  refine mB hT 2 rfl ?_
  refine mNf (lv2 := [(3, .int 16), (2, .int 0), (0, .ref 0), (1, .int 3)]) (st2 := [.long (rr 0), .int 0, .ref 12]) rfl (by rw [hrr 0] <;> rfl) ?_
  refine mB hT 24 rfl ?_
  refine mNf (lv2 := [(3, .int 0), (2, .int 1), (0, .ref 0), (1, .int 3)]) (st2 := [.long (ta 0), .int 0, .ref 11]) rfl rfl ?_
  refine mB hT 21 rfl ?_
  refine mB hT 1 rfl ?_
  refine mWd (w2 := (MW 0 vs wo u h bo ta (up (up (tsM 0 ta 0 hh) 0 (ta 0)) 1 0) (up ro 0 (rr 0)) ot Bm bk)) rfl ?_
  refine mB hT 18 rfl ?_
  refine mNf (lv2 := [(3, .int 2), (2, .int 1), (0, .ref 0), (1, .int 3)]) (st2 := [.long (ta 2), .int 2, .ref 11]) rfl rfl ?_
  refine mB hT 19 rfl ?_
  refine mB hT 19 rfl ?_
  refine mNf (lv2 := [(3, .int 4), (2, .int 1), (0, .ref 0), (1, .int 3)]) (st2 := [.long (ta 4), .int 4, .ref 11]) rfl rfl ?_
  refine mB hT 1 rfl ?_
  refine mWd (w2 := (MW 0 vs wo u h bo ta (up (up (up (up (up (tsM 0 ta 0 hh) 0 (ta 0)) 1 0) 2 (ta 2)) 3 (ta 3)) 4 (ta 4)) (up ro 0 (rr 0)) ot Bm bk)) rfl ?_
  refine mB hT 20 rfl ?_
  refine mB hT 19 rfl ?_
  refine mNf (lv2 := [(3, .int 6), (2, .int 1), (0, .ref 0), (1, .int 3)]) (st2 := [.long (ta 6), .int 6, .ref 11]) rfl rfl ?_
  refine mB hT 19 rfl ?_
  refine mB hT 1 rfl ?_
  refine mWd (w2 := (MW 0 vs wo u h bo ta (up (up (up (up (up (up (up (up (tsM 0 ta 0 hh) 0 (ta 0)) 1 0) 2 (ta 2)) 3 (ta 3)) 4 (ta 4)) 5 0) 6 (ta 6)) 7 (ta 7)) (up ro 0 (rr 0)) ot Bm bk)) rfl ?_
  refine mB hT 18 rfl ?_
  refine mNf (lv2 := [(3, .int 8), (2, .int 1), (0, .ref 0), (1, .int 3)]) (st2 := [.long (ta 8), .int 8, .ref 11]) rfl rfl ?_
  refine mB hT 21 rfl ?_
  refine mB hT 19 rfl ?_
  refine mNf (lv2 := [(3, .int 10), (2, .int 1), (0, .ref 0), (1, .int 3)]) (st2 := [.long (ta 10), .int 10, .ref 11]) rfl rfl ?_
  refine mB hT 1 rfl ?_
  refine mWd (w2 := (MW 0 vs wo u h bo ta (up (up (up (up (up (up (up (up (up (up (up (tsM 0 ta 0 hh) 0 (ta 0)) 1 0) 2 (ta 2)) 3 (ta 3)) 4 (ta 4)) 5 0) 6 (ta 6)) 7 (ta 7)) 8 (ta 8)) 9 0) 10 (ta 10)) (up ro 0 (rr 0)) ot Bm bk)) rfl ?_
  refine mB hT 18 rfl ?_
  refine mB hT 19 rfl ?_
  refine mNf (lv2 := [(3, .int 12), (2, .int 1), (0, .ref 0), (1, .int 3)]) (st2 := [.long (ta 12), .int 12, .ref 11]) rfl rfl ?_
  refine mB hT 21 rfl ?_
  refine mB hT 1 rfl ?_
  refine mWd (w2 := (MW 0 vs wo u h bo ta (up (up (up (up (up (up (up (up (up (up (up (up (up (up (tsM 0 ta 0 hh) 0 (ta 0)) 1 0) 2 (ta 2)) 3 (ta 3)) 4 (ta 4)) 5 0) 6 (ta 6)) 7 (ta 7)) 8 (ta 8)) 9 0) 10 (ta 10)) 11 (ta 11)) 12 (ta 12)) 13 0) (up ro 0 (rr 0)) ot Bm bk)) rfl ?_
  refine mB hT 18 rfl ?_
  refine mNf (lv2 := [(3, .int 14), (2, .int 1), (0, .ref 0), (1, .int 3)]) (st2 := [.long (ta 14), .int 14, .ref 11]) rfl rfl ?_
  refine mB hT 19 rfl ?_
  refine mB hT 14 rfl ?_
  refine mIf (fun hp => absurd hp (fun q => Int64.not_lt.mpr (lc_ge.mp q) hs)) (fun _ => ?_)
  refine mNf (lv2 := [(3, .int 16), (2, .int 1), (0, .ref 0), (1, .int 3)]) (st2 := [.int 1, .ref 12]) rfl rfl ?_
  refine mB hT 1 rfl ?_
  refine mWd (w2 := (MW 0 vs wo u h bo ta (up (up (up (up (up (up (up (up (up (up (up (up (up (up (up (up (tsM 0 ta 0 hh) 0 (ta 0)) 1 0) 2 (ta 2)) 3 (ta 3)) 4 (ta 4)) 5 0) 6 (ta 6)) 7 (ta 7)) 8 (ta 8)) 9 0) 10 (ta 10)) 11 (ta 11)) 12 (ta 12)) 13 0) 14 (ta 14)) 15 (ta 15)) (up ro 0 (rr 0)) ot Bm bk)) rfl ?_
  refine mWd (w2 := (MW 0 vs wo u h bo ta (tsM 0 ta 1 hh) (up ro 0 (rr 0)) ot Bm bk)) rfl ?_
  refine hC.1 _ 0 [] _ _ _ _ _ (m_det) rfl rfl (Nat.le_of_ble_eq_true rfl) rfl ?_
  refine mB hT 2 rfl ?_
  refine mNf (lv2 := [(3, .int 16), (2, .int 1), (0, .ref 0), (1, .int 3)]) (st2 := [.long (rr 1), .int 1, .ref 12]) rfl (by rw [hrr 1] <;> rfl) ?_
  refine mB hT 24 rfl ?_
  refine mNf (lv2 := [(3, .int 0), (2, .int 2), (0, .ref 0), (1, .int 3)]) (st2 := [.long (ta 0), .int 0, .ref 11]) rfl rfl ?_
  refine mB hT 19 rfl ?_
  refine mB hT 1 rfl ?_
  refine mWd (w2 := (MW 0 vs wo u h bo ta (up (up (tsM 0 ta 1 hh) 0 (ta 0)) 1 (ta 1)) (up (up ro 0 (rr 0)) 1 (rr 1)) ot Bm bk)) rfl ?_
  refine mB hT 20 rfl ?_
  refine mNf (lv2 := [(3, .int 2), (2, .int 2), (0, .ref 0), (1, .int 3)]) (st2 := [.long 0, .int 2, .ref 11]) rfl rfl ?_
  refine mB hT 19 rfl ?_
  refine mB hT 19 rfl ?_
  refine mNf (lv2 := [(3, .int 4), (2, .int 2), (0, .ref 0), (1, .int 3)]) (st2 := [.long (ta 4), .int 4, .ref 11]) rfl rfl ?_
  refine mB hT 1 rfl ?_
  refine mWd (w2 := (MW 0 vs wo u h bo ta (up (up (up (up (up (tsM 0 ta 1 hh) 0 (ta 0)) 1 (ta 1)) 2 0) 3 (ta 3)) 4 (ta 4)) (up (up ro 0 (rr 0)) 1 (rr 1)) ot Bm bk)) rfl ?_
  refine mB hT 18 rfl ?_
  refine mB hT 21 rfl ?_
  refine mNf (lv2 := [(3, .int 6), (2, .int 2), (0, .ref 0), (1, .int 3)]) (st2 := [.long 0, .int 6, .ref 11]) rfl rfl ?_
  refine mB hT 19 rfl ?_
  refine mB hT 1 rfl ?_
  refine mWd (w2 := (MW 0 vs wo u h bo ta (up (up (up (up (up (up (up (up (tsM 0 ta 1 hh) 0 (ta 0)) 1 (ta 1)) 2 0) 3 (ta 3)) 4 (ta 4)) 5 (ta 5)) 6 0) 7 (ta 7)) (up (up ro 0 (rr 0)) 1 (rr 1)) ot Bm bk)) rfl ?_
  refine mB hT 18 rfl ?_
  refine mNf (lv2 := [(3, .int 8), (2, .int 2), (0, .ref 0), (1, .int 3)]) (st2 := [.long (ta 8), .int 8, .ref 11]) rfl rfl ?_
  refine mB hT 19 rfl ?_
  refine mB hT 21 rfl ?_
  refine mNf (lv2 := [(3, .int 10), (2, .int 2), (0, .ref 0), (1, .int 3)]) (st2 := [.long 0, .int 10, .ref 11]) rfl rfl ?_
  refine mB hT 1 rfl ?_
  refine mWd (w2 := (MW 0 vs wo u h bo ta (up (up (up (up (up (up (up (up (up (up (up (tsM 0 ta 1 hh) 0 (ta 0)) 1 (ta 1)) 2 0) 3 (ta 3)) 4 (ta 4)) 5 (ta 5)) 6 0) 7 (ta 7)) 8 (ta 8)) 9 (ta 9)) 10 0) (up (up ro 0 (rr 0)) 1 (rr 1)) ot Bm bk)) rfl ?_
  refine mB hT 18 rfl ?_
  refine mB hT 19 rfl ?_
  refine mNf (lv2 := [(3, .int 12), (2, .int 2), (0, .ref 0), (1, .int 3)]) (st2 := [.long (ta 12), .int 12, .ref 11]) rfl rfl ?_
  refine mB hT 19 rfl ?_
  refine mB hT 1 rfl ?_
  refine mWd (w2 := (MW 0 vs wo u h bo ta (up (up (up (up (up (up (up (up (up (up (up (up (up (up (tsM 0 ta 1 hh) 0 (ta 0)) 1 (ta 1)) 2 0) 3 (ta 3)) 4 (ta 4)) 5 (ta 5)) 6 0) 7 (ta 7)) 8 (ta 8)) 9 (ta 9)) 10 0) 11 (ta 11)) 12 (ta 12)) 13 (ta 13)) (up (up ro 0 (rr 0)) 1 (rr 1)) ot Bm bk)) rfl ?_
  refine mB hT 20 rfl ?_
  refine mNf (lv2 := [(3, .int 14), (2, .int 2), (0, .ref 0), (1, .int 3)]) (st2 := [.long 0, .int 14, .ref 11]) rfl rfl ?_
  refine mB hT 19 rfl ?_
  refine mB hT 14 rfl ?_
  refine mIf (fun hp => absurd hp (fun q => Int64.not_lt.mpr (lc_ge.mp q) hs)) (fun _ => ?_)
  refine mNf (lv2 := [(3, .int 16), (2, .int 2), (0, .ref 0), (1, .int 3)]) (st2 := [.int 2, .ref 12]) rfl rfl ?_
  refine mB hT 1 rfl ?_
  refine mWd (w2 := (MW 0 vs wo u h bo ta (up (up (up (up (up (up (up (up (up (up (up (up (up (up (up (up (tsM 0 ta 1 hh) 0 (ta 0)) 1 (ta 1)) 2 0) 3 (ta 3)) 4 (ta 4)) 5 (ta 5)) 6 0) 7 (ta 7)) 8 (ta 8)) 9 (ta 9)) 10 0) 11 (ta 11)) 12 (ta 12)) 13 (ta 13)) 14 0) 15 (ta 15)) (up (up ro 0 (rr 0)) 1 (rr 1)) ot Bm bk)) rfl ?_
  refine mWd (w2 := (MW 0 vs wo u h bo ta (tsM 0 ta 2 hh) (up (up ro 0 (rr 0)) 1 (rr 1)) ot Bm bk)) rfl ?_
  refine hC.1 _ 0 [] _ _ _ _ _ (m_det) rfl rfl (Nat.le_of_ble_eq_true rfl) rfl ?_
  refine mB hT 2 rfl ?_
  refine mNf (lv2 := [(3, .int 16), (2, .int 2), (0, .ref 0), (1, .int 3)]) (st2 := [.long (rr 2), .int 2, .ref 12]) rfl (by rw [hrr 2] <;> rfl) ?_
  refine mB hT 24 rfl ?_
  refine mNf (lv2 := [(3, .int 0), (2, .int 3), (0, .ref 0), (1, .int 3)]) (st2 := [.long (ta 0), .int 0, .ref 11]) rfl rfl ?_
  refine mB hT 19 rfl ?_
  refine mB hT 1 rfl ?_
  refine mWd (w2 := (MW 0 vs wo u h bo ta (up (up (tsM 0 ta 2 hh) 0 (ta 0)) 1 (ta 1)) (up (up (up ro 0 (rr 0)) 1 (rr 1)) 2 (rr 2)) ot Bm bk)) rfl ?_
  refine mB hT 18 rfl ?_
  refine mNf (lv2 := [(3, .int 2), (2, .int 3), (0, .ref 0), (1, .int 3)]) (st2 := [.long (ta 2), .int 2, .ref 11]) rfl rfl ?_
  refine mB hT 21 rfl ?_
  refine mB hT 19 rfl ?_
  refine mNf (lv2 := [(3, .int 4), (2, .int 3), (0, .ref 0), (1, .int 3)]) (st2 := [.long (ta 4), .int 4, .ref 11]) rfl rfl ?_
  refine mB hT 1 rfl ?_
  refine mWd (w2 := (MW 0 vs wo u h bo ta (up (up (up (up (up (tsM 0 ta 2 hh) 0 (ta 0)) 1 (ta 1)) 2 (ta 2)) 3 0) 4 (ta 4)) (up (up (up ro 0 (rr 0)) 1 (rr 1)) 2 (rr 2)) ot Bm bk)) rfl ?_
  refine mB hT 18 rfl ?_
  refine mB hT 19 rfl ?_
  refine mNf (lv2 := [(3, .int 6), (2, .int 3), (0, .ref 0), (1, .int 3)]) (st2 := [.long (ta 6), .int 6, .ref 11]) rfl rfl ?_
  refine mB hT 21 rfl ?_
  refine mB hT 1 rfl ?_
  refine mWd (w2 := (MW 0 vs wo u h bo ta (up (up (up (up (up (up (up (up (tsM 0 ta 2 hh) 0 (ta 0)) 1 (ta 1)) 2 (ta 2)) 3 0) 4 (ta 4)) 5 (ta 5)) 6 (ta 6)) 7 0) (up (up (up ro 0 (rr 0)) 1 (rr 1)) 2 (rr 2)) ot Bm bk)) rfl ?_
  refine mB hT 18 rfl ?_
  refine mNf (lv2 := [(3, .int 8), (2, .int 3), (0, .ref 0), (1, .int 3)]) (st2 := [.long (ta 8), .int 8, .ref 11]) rfl rfl ?_
  refine mB hT 19 rfl ?_
  refine mB hT 19 rfl ?_
  refine mNf (lv2 := [(3, .int 10), (2, .int 3), (0, .ref 0), (1, .int 3)]) (st2 := [.long (ta 10), .int 10, .ref 11]) rfl rfl ?_
  refine mB hT 1 rfl ?_
  refine mWd (w2 := (MW 0 vs wo u h bo ta (up (up (up (up (up (up (up (up (up (up (up (tsM 0 ta 2 hh) 0 (ta 0)) 1 (ta 1)) 2 (ta 2)) 3 0) 4 (ta 4)) 5 (ta 5)) 6 (ta 6)) 7 0) 8 (ta 8)) 9 (ta 9)) 10 (ta 10)) (up (up (up ro 0 (rr 0)) 1 (rr 1)) 2 (rr 2)) ot Bm bk)) rfl ?_
  refine mB hT 20 rfl ?_
  refine mB hT 19 rfl ?_
  refine mNf (lv2 := [(3, .int 12), (2, .int 3), (0, .ref 0), (1, .int 3)]) (st2 := [.long (ta 12), .int 12, .ref 11]) rfl rfl ?_
  refine mB hT 19 rfl ?_
  refine mB hT 1 rfl ?_
  refine mWd (w2 := (MW 0 vs wo u h bo ta (up (up (up (up (up (up (up (up (up (up (up (up (up (up (tsM 0 ta 2 hh) 0 (ta 0)) 1 (ta 1)) 2 (ta 2)) 3 0) 4 (ta 4)) 5 (ta 5)) 6 (ta 6)) 7 0) 8 (ta 8)) 9 (ta 9)) 10 (ta 10)) 11 0) 12 (ta 12)) 13 (ta 13)) (up (up (up ro 0 (rr 0)) 1 (rr 1)) 2 (rr 2)) ot Bm bk)) rfl ?_
  refine mB hT 18 rfl ?_
  refine mNf (lv2 := [(3, .int 14), (2, .int 3), (0, .ref 0), (1, .int 3)]) (st2 := [.long (ta 14), .int 14, .ref 11]) rfl rfl ?_
  refine mB hT 21 rfl ?_
  refine mB hT 14 rfl ?_
  refine mIf (fun hp => absurd hp (fun q => Int64.not_lt.mpr (lc_ge.mp q) hs)) (fun _ => ?_)
  refine mNf (lv2 := [(3, .int 16), (2, .int 3), (0, .ref 0), (1, .int 3)]) (st2 := [.int 3, .ref 12]) rfl rfl ?_
  refine mB hT 1 rfl ?_
  refine mWd (w2 := (MW 0 vs wo u h bo ta (up (up (up (up (up (up (up (up (up (up (up (up (up (up (up (up (tsM 0 ta 2 hh) 0 (ta 0)) 1 (ta 1)) 2 (ta 2)) 3 0) 4 (ta 4)) 5 (ta 5)) 6 (ta 6)) 7 0) 8 (ta 8)) 9 (ta 9)) 10 (ta 10)) 11 0) 12 (ta 12)) 13 (ta 13)) 14 (ta 14)) 15 0) (up (up (up ro 0 (rr 0)) 1 (rr 1)) 2 (rr 2)) ot Bm bk)) rfl ?_
  refine mWd (w2 := (MW 0 vs wo u h bo ta (tsM 0 ta 3 hh) (up (up (up ro 0 (rr 0)) 1 (rr 1)) 2 (rr 2)) ot Bm bk)) rfl ?_
  refine hC.1 _ 0 [] _ _ _ _ _ (m_det) rfl rfl (Nat.le_of_ble_eq_true rfl) rfl ?_
  refine mB hT 2 rfl ?_
  refine mNf (lv2 := [(3, .int 16), (2, .int 3), (0, .ref 0), (1, .int 3)]) (st2 := [.long (rr 3), .int 3, .ref 12]) rfl (by rw [hrr 3] <;> rfl) ?_
  refine mB hT 6 rfl ?_
  exact hR _ (by decide) _ _ _ rfl rfl
set_option maxRecDepth 20000 in
theorem m_solve_1_0p {vs : Int32} {wo un h : Int64} {bo : Nat → Int32} {ta tr ro ot : Nat → Int64} {Bm : Nat → Nat → Nat → Int32} {bk : Nat → Nat → Int32} {u : Int64} {hh rr : Nat → Int64} (hs : ¬ wo < 0) (hu : u = wo) (hq : ∀ j : Nat, hh j = (bk 0 j).toInt64) (hrr : ∀ i : Nat, rr i = dtM (tsM 1 ta i hh)) : KX3_solve l D ca ad [.ref 0, .int 0] (MW 1 vs wo un h bo ta tr ro ot Bm bk) none (MW 1 vs wo u h bo ta (tsM 1 ta 3 hh) rr ot Bm bk) := by
  refine PX3_solve (Nat.le_of_ble_eq_true rfl) ?_
  intro G hT hC hR
  refine mB hT 6 rfl ?_
  refine mIf (fun _ => ?_) (fun hn => absurd (lc_ge.mpr (Int64.not_lt.mp hs)) hn)
  refine mB hT 2 rfl ?_
  refine mNf (lv2 := [(0, .ref 0), (1, .int 0)]) (st2 := [.long u, .ref 0]) rfl (by rw [hu] <;> rfl) ?_
  refine mB hT 37 rfl ?_
  refine mNf (lv2 := [(3, .int 0), (2, .int 0), (0, .ref 0), (1, .int 0)]) (st2 := [.long (hh 0), .int 0, .ref 11]) rfl (by rw [hq 0] <;> rfl) ?_
  refine mB hT 19 rfl ?_
  refine mB hT 1 rfl ?_
  refine mWd (w2 := (MW 1 vs wo u h bo ta (up (up tr 0 (hh 0)) 1 (ta 1)) ro ot Bm bk)) rfl ?_
  refine mB hT 18 rfl ?_
  refine mNf (lv2 := [(3, .int 2), (2, .int 0), (0, .ref 0), (1, .int 0)]) (st2 := [.long (ta 2), .int 2, .ref 11]) rfl rfl ?_
  refine mB hT 19 rfl ?_
  refine mB hT 21 rfl ?_
  refine mNf (lv2 := [(3, .int 4), (2, .int 0), (0, .ref 0), (1, .int 0)]) (st2 := [.long 0, .int 4, .ref 11]) rfl rfl ?_
  refine mB hT 1 rfl ?_
  refine mWd (w2 := (MW 1 vs wo u h bo ta (up (up (up (up (up tr 0 (hh 0)) 1 (ta 1)) 2 (ta 2)) 3 (ta 3)) 4 0) ro ot Bm bk)) rfl ?_
  refine mB hT 18 rfl ?_
  refine mB hT 19 rfl ?_
  refine mNf (lv2 := [(3, .int 6), (2, .int 0), (0, .ref 0), (1, .int 0)]) (st2 := [.long (ta 6), .int 6, .ref 11]) rfl rfl ?_
  refine mB hT 19 rfl ?_
  refine mB hT 1 rfl ?_
  refine mWd (w2 := (MW 1 vs wo u h bo ta (up (up (up (up (up (up (up (up tr 0 (hh 0)) 1 (ta 1)) 2 (ta 2)) 3 (ta 3)) 4 0) 5 (ta 5)) 6 (ta 6)) 7 (ta 7)) ro ot Bm bk)) rfl ?_
  refine mB hT 20 rfl ?_
  refine mNf (lv2 := [(3, .int 8), (2, .int 0), (0, .ref 0), (1, .int 0)]) (st2 := [.long 0, .int 8, .ref 11]) rfl rfl ?_
  refine mB hT 19 rfl ?_
  refine mB hT 19 rfl ?_
  refine mNf (lv2 := [(3, .int 10), (2, .int 0), (0, .ref 0), (1, .int 0)]) (st2 := [.long (ta 10), .int 10, .ref 11]) rfl rfl ?_
  refine mB hT 1 rfl ?_
  refine mWd (w2 := (MW 1 vs wo u h bo ta (up (up (up (up (up (up (up (up (up (up (up tr 0 (hh 0)) 1 (ta 1)) 2 (ta 2)) 3 (ta 3)) 4 0) 5 (ta 5)) 6 (ta 6)) 7 (ta 7)) 8 0) 9 (ta 9)) 10 (ta 10)) ro ot Bm bk)) rfl ?_
  refine mB hT 18 rfl ?_
  refine mB hT 21 rfl ?_
  refine mNf (lv2 := [(3, .int 12), (2, .int 0), (0, .ref 0), (1, .int 0)]) (st2 := [.long 0, .int 12, .ref 11]) rfl rfl ?_
  refine mB hT 19 rfl ?_
  refine mB hT 1 rfl ?_
  refine mWd (w2 := (MW 1 vs wo u h bo ta (up (up (up (up (up (up (up (up (up (up (up (up (up (up tr 0 (hh 0)) 1 (ta 1)) 2 (ta 2)) 3 (ta 3)) 4 0) 5 (ta 5)) 6 (ta 6)) 7 (ta 7)) 8 0) 9 (ta 9)) 10 (ta 10)) 11 (ta 11)) 12 0) 13 (ta 13)) ro ot Bm bk)) rfl ?_
  refine mB hT 18 rfl ?_
  refine mNf (lv2 := [(3, .int 14), (2, .int 0), (0, .ref 0), (1, .int 0)]) (st2 := [.long (ta 14), .int 14, .ref 11]) rfl rfl ?_
  refine mB hT 19 rfl ?_
  refine mB hT 14 rfl ?_
  refine mIf (fun _ => ?_) (fun hn => absurd (lc_ge.mpr (Int64.not_lt.mp hs)) hn)
  refine mNf (lv2 := [(3, .int 16), (2, .int 0), (0, .ref 0), (1, .int 0)]) (st2 := [.int 0, .ref 12]) rfl rfl ?_
  refine mB hT 1 rfl ?_
  refine mWd (w2 := (MW 1 vs wo u h bo ta (up (up (up (up (up (up (up (up (up (up (up (up (up (up (up (up tr 0 (hh 0)) 1 (ta 1)) 2 (ta 2)) 3 (ta 3)) 4 0) 5 (ta 5)) 6 (ta 6)) 7 (ta 7)) 8 0) 9 (ta 9)) 10 (ta 10)) 11 (ta 11)) 12 0) 13 (ta 13)) 14 (ta 14)) 15 (ta 15)) ro ot Bm bk)) rfl ?_
  refine mWd (w2 := (MW 1 vs wo u h bo ta (tsM 1 ta 0 hh) ro ot Bm bk)) rfl ?_
  refine hC.2 _ 0 [] _ _ _ _ _ (m_det) rfl rfl (Nat.le_of_ble_eq_true rfl) rfl ?_
  refine mNf (lv2 := [(3, .int 16), (2, .int 0), (0, .ref 0), (1, .int 0)]) (st2 := [.long (rr 0), .int 0, .ref 12]) rfl (by rw [hrr 0] <;> rfl) ?_
  refine mB hT 24 rfl ?_
  refine mNf (lv2 := [(3, .int 0), (2, .int 1), (0, .ref 0), (1, .int 0)]) (st2 := [.long (ta 0), .int 0, .ref 11]) rfl rfl ?_
  refine mB hT 32 rfl ?_
  refine mNf (lv2 := [(3, .int 1), (2, .int 1), (0, .ref 0), (1, .int 0)]) (st2 := [.long (hh 0), .int 1, .ref 11]) rfl (by rw [hq 0] <;> rfl) ?_
  refine mB hT 1 rfl ?_
  refine mWd (w2 := (MW 1 vs wo u h bo ta (up (up (tsM 1 ta 0 hh) 0 (ta 0)) 1 (hh 0)) (up ro 0 (rr 0)) ot Bm bk)) rfl ?_
  refine mB hT 18 rfl ?_
  refine mB hT 19 rfl ?_
  refine mNf (lv2 := [(3, .int 3), (2, .int 1), (0, .ref 0), (1, .int 0)]) (st2 := [.long (ta 3), .int 3, .ref 11]) rfl rfl ?_
  refine mB hT 19 rfl ?_
  refine mB hT 1 rfl ?_
  refine mWd (w2 := (MW 1 vs wo u h bo ta (up (up (up (up (up (tsM 1 ta 0 hh) 0 (ta 0)) 1 (hh 0)) 2 (ta 2)) 3 (ta 3)) 4 (ta 4)) (up ro 0 (rr 0)) ot Bm bk)) rfl ?_
  refine mB hT 20 rfl ?_
  refine mNf (lv2 := [(3, .int 5), (2, .int 1), (0, .ref 0), (1, .int 0)]) (st2 := [.long 0, .int 5, .ref 11]) rfl rfl ?_
  refine mB hT 19 rfl ?_
  refine mB hT 19 rfl ?_
  refine mNf (lv2 := [(3, .int 7), (2, .int 1), (0, .ref 0), (1, .int 0)]) (st2 := [.long (ta 7), .int 7, .ref 11]) rfl rfl ?_
  refine mB hT 1 rfl ?_
  refine mWd (w2 := (MW 1 vs wo u h bo ta (up (up (up (up (up (up (up (up (tsM 1 ta 0 hh) 0 (ta 0)) 1 (hh 0)) 2 (ta 2)) 3 (ta 3)) 4 (ta 4)) 5 0) 6 (ta 6)) 7 (ta 7)) (up ro 0 (rr 0)) ot Bm bk)) rfl ?_
  refine mB hT 18 rfl ?_
  refine mB hT 21 rfl ?_
  refine mNf (lv2 := [(3, .int 9), (2, .int 1), (0, .ref 0), (1, .int 0)]) (st2 := [.long 0, .int 9, .ref 11]) rfl rfl ?_
  refine mB hT 19 rfl ?_
  refine mB hT 1 rfl ?_
  refine mWd (w2 := (MW 1 vs wo u h bo ta (up (up (up (up (up (up (up (up (up (up (up (tsM 1 ta 0 hh) 0 (ta 0)) 1 (hh 0)) 2 (ta 2)) 3 (ta 3)) 4 (ta 4)) 5 0) 6 (ta 6)) 7 (ta 7)) 8 (ta 8)) 9 0) 10 (ta 10)) (up ro 0 (rr 0)) ot Bm bk)) rfl ?_
  refine mB hT 18 rfl ?_
  refine mNf (lv2 := [(3, .int 11), (2, .int 1), (0, .ref 0), (1, .int 0)]) (st2 := [.long (ta 11), .int 11, .ref 11]) rfl rfl ?_
  refine mB hT 19 rfl ?_
  refine mB hT 21 rfl ?_
  refine mNf (lv2 := [(3, .int 13), (2, .int 1), (0, .ref 0), (1, .int 0)]) (st2 := [.long 0, .int 13, .ref 11]) rfl rfl ?_
  refine mB hT 1 rfl ?_
  refine mWd (w2 := (MW 1 vs wo u h bo ta (up (up (up (up (up (up (up (up (up (up (up (up (up (up (tsM 1 ta 0 hh) 0 (ta 0)) 1 (hh 0)) 2 (ta 2)) 3 (ta 3)) 4 (ta 4)) 5 0) 6 (ta 6)) 7 (ta 7)) 8 (ta 8)) 9 0) 10 (ta 10)) 11 (ta 11)) 12 (ta 12)) 13 0) (up ro 0 (rr 0)) ot Bm bk)) rfl ?_
  refine mB hT 18 rfl ?_
  refine mB hT 19 rfl ?_
  refine mNf (lv2 := [(3, .int 15), (2, .int 1), (0, .ref 0), (1, .int 0)]) (st2 := [.long (ta 15), .int 15, .ref 11]) rfl rfl ?_
  refine mB hT 14 rfl ?_
  refine mIf (fun _ => ?_) (fun hn => absurd (lc_ge.mpr (Int64.not_lt.mp hs)) hn)
  refine mB hT 1 rfl ?_
  refine mWd (w2 := (MW 1 vs wo u h bo ta (up (up (up (up (up (up (up (up (up (up (up (up (up (up (up (up (tsM 1 ta 0 hh) 0 (ta 0)) 1 (hh 0)) 2 (ta 2)) 3 (ta 3)) 4 (ta 4)) 5 0) 6 (ta 6)) 7 (ta 7)) 8 (ta 8)) 9 0) 10 (ta 10)) 11 (ta 11)) 12 (ta 12)) 13 0) 14 (ta 14)) 15 (ta 15)) (up ro 0 (rr 0)) ot Bm bk)) rfl ?_
  refine mWd (w2 := (MW 1 vs wo u h bo ta (tsM 1 ta 1 hh) (up ro 0 (rr 0)) ot Bm bk)) rfl ?_
  refine hC.2 _ 0 [] _ _ _ _ _ (m_det) rfl rfl (Nat.le_of_ble_eq_true rfl) rfl ?_
  refine mNf (lv2 := [(3, .int 16), (2, .int 1), (0, .ref 0), (1, .int 0)]) (st2 := [.long (rr 1), .int 1, .ref 12]) rfl (by rw [hrr 1] <;> rfl) ?_
  refine mB hT 24 rfl ?_
  refine mNf (lv2 := [(3, .int 0), (2, .int 2), (0, .ref 0), (1, .int 0)]) (st2 := [.long (ta 0), .int 0, .ref 11]) rfl rfl ?_
  refine mB hT 19 rfl ?_
  refine mB hT 1 rfl ?_
  refine mWd (w2 := (MW 1 vs wo u h bo ta (up (up (tsM 1 ta 1 hh) 0 (ta 0)) 1 (ta 1)) (up (up ro 0 (rr 0)) 1 (rr 1)) ot Bm bk)) rfl ?_
  refine mB hT 31 rfl ?_
  refine mNf (lv2 := [(3, .int 2), (2, .int 2), (0, .ref 0), (1, .int 0)]) (st2 := [.long (hh 0), .int 2, .ref 11]) rfl (by rw [hq 0] <;> rfl) ?_
  refine mB hT 19 rfl ?_
  refine mB hT 19 rfl ?_
  refine mNf (lv2 := [(3, .int 4), (2, .int 2), (0, .ref 0), (1, .int 0)]) (st2 := [.long (ta 4), .int 4, .ref 11]) rfl rfl ?_
  refine mB hT 1 rfl ?_
  refine mWd (w2 := (MW 1 vs wo u h bo ta (up (up (up (up (up (tsM 1 ta 1 hh) 0 (ta 0)) 1 (ta 1)) 2 (hh 0)) 3 (ta 3)) 4 (ta 4)) (up (up ro 0 (rr 0)) 1 (rr 1)) ot Bm bk)) rfl ?_
  refine mB hT 18 rfl ?_
  refine mB hT 21 rfl ?_
  refine mNf (lv2 := [(3, .int 6), (2, .int 2), (0, .ref 0), (1, .int 0)]) (st2 := [.long 0, .int 6, .ref 11]) rfl rfl ?_
  refine mB hT 19 rfl ?_
  refine mB hT 1 rfl ?_
  refine mWd (w2 := (MW 1 vs wo u h bo ta (up (up (up (up (up (up (up (up (tsM 1 ta 1 hh) 0 (ta 0)) 1 (ta 1)) 2 (hh 0)) 3 (ta 3)) 4 (ta 4)) 5 (ta 5)) 6 0) 7 (ta 7)) (up (up ro 0 (rr 0)) 1 (rr 1)) ot Bm bk)) rfl ?_
  refine mB hT 18 rfl ?_
  refine mNf (lv2 := [(3, .int 8), (2, .int 2), (0, .ref 0), (1, .int 0)]) (st2 := [.long (ta 8), .int 8, .ref 11]) rfl rfl ?_
  refine mB hT 19 rfl ?_
  refine mB hT 21 rfl ?_
  refine mNf (lv2 := [(3, .int 10), (2, .int 2), (0, .ref 0), (1, .int 0)]) (st2 := [.long 0, .int 10, .ref 11]) rfl rfl ?_
  refine mB hT 1 rfl ?_
  refine mWd (w2 := (MW 1 vs wo u h bo ta (up (up (up (up (up (up (up (up (up (up (up (tsM 1 ta 1 hh) 0 (ta 0)) 1 (ta 1)) 2 (hh 0)) 3 (ta 3)) 4 (ta 4)) 5 (ta 5)) 6 0) 7 (ta 7)) 8 (ta 8)) 9 (ta 9)) 10 0) (up (up ro 0 (rr 0)) 1 (rr 1)) ot Bm bk)) rfl ?_
  refine mB hT 18 rfl ?_
  refine mB hT 19 rfl ?_
  refine mNf (lv2 := [(3, .int 12), (2, .int 2), (0, .ref 0), (1, .int 0)]) (st2 := [.long (ta 12), .int 12, .ref 11]) rfl rfl ?_
  refine mB hT 19 rfl ?_
  refine mB hT 1 rfl ?_
  refine mWd (w2 := (MW 1 vs wo u h bo ta (up (up (up (up (up (up (up (up (up (up (up (up (up (up (tsM 1 ta 1 hh) 0 (ta 0)) 1 (ta 1)) 2 (hh 0)) 3 (ta 3)) 4 (ta 4)) 5 (ta 5)) 6 0) 7 (ta 7)) 8 (ta 8)) 9 (ta 9)) 10 0) 11 (ta 11)) 12 (ta 12)) 13 (ta 13)) (up (up ro 0 (rr 0)) 1 (rr 1)) ot Bm bk)) rfl ?_
  refine mB hT 20 rfl ?_
  refine mNf (lv2 := [(3, .int 14), (2, .int 2), (0, .ref 0), (1, .int 0)]) (st2 := [.long 0, .int 14, .ref 11]) rfl rfl ?_
  refine mB hT 19 rfl ?_
  refine mB hT 14 rfl ?_
  refine mIf (fun _ => ?_) (fun hn => absurd (lc_ge.mpr (Int64.not_lt.mp hs)) hn)
  refine mNf (lv2 := [(3, .int 16), (2, .int 2), (0, .ref 0), (1, .int 0)]) (st2 := [.int 2, .ref 12]) rfl rfl ?_
  refine mB hT 1 rfl ?_
  refine mWd (w2 := (MW 1 vs wo u h bo ta (up (up (up (up (up (up (up (up (up (up (up (up (up (up (up (up (tsM 1 ta 1 hh) 0 (ta 0)) 1 (ta 1)) 2 (hh 0)) 3 (ta 3)) 4 (ta 4)) 5 (ta 5)) 6 0) 7 (ta 7)) 8 (ta 8)) 9 (ta 9)) 10 0) 11 (ta 11)) 12 (ta 12)) 13 (ta 13)) 14 0) 15 (ta 15)) (up (up ro 0 (rr 0)) 1 (rr 1)) ot Bm bk)) rfl ?_
  refine mWd (w2 := (MW 1 vs wo u h bo ta (tsM 1 ta 2 hh) (up (up ro 0 (rr 0)) 1 (rr 1)) ot Bm bk)) rfl ?_
  refine hC.2 _ 0 [] _ _ _ _ _ (m_det) rfl rfl (Nat.le_of_ble_eq_true rfl) rfl ?_
  refine mNf (lv2 := [(3, .int 16), (2, .int 2), (0, .ref 0), (1, .int 0)]) (st2 := [.long (rr 2), .int 2, .ref 12]) rfl (by rw [hrr 2] <;> rfl) ?_
  refine mB hT 24 rfl ?_
  refine mNf (lv2 := [(3, .int 0), (2, .int 3), (0, .ref 0), (1, .int 0)]) (st2 := [.long (ta 0), .int 0, .ref 11]) rfl rfl ?_
  refine mB hT 19 rfl ?_
  refine mB hT 1 rfl ?_
  refine mWd (w2 := (MW 1 vs wo u h bo ta (up (up (tsM 1 ta 2 hh) 0 (ta 0)) 1 (ta 1)) (up (up (up ro 0 (rr 0)) 1 (rr 1)) 2 (rr 2)) ot Bm bk)) rfl ?_
  refine mB hT 18 rfl ?_
  refine mNf (lv2 := [(3, .int 2), (2, .int 3), (0, .ref 0), (1, .int 0)]) (st2 := [.long (ta 2), .int 2, .ref 11]) rfl rfl ?_
  refine mB hT 32 rfl ?_
  refine mNf (lv2 := [(3, .int 3), (2, .int 3), (0, .ref 0), (1, .int 0)]) (st2 := [.long (hh 0), .int 3, .ref 11]) rfl (by rw [hq 0] <;> rfl) ?_
  refine mB hT 19 rfl ?_
  refine mB hT 1 rfl ?_
  refine mWd (w2 := (MW 1 vs wo u h bo ta (up (up (up (up (up (tsM 1 ta 2 hh) 0 (ta 0)) 1 (ta 1)) 2 (ta 2)) 3 (hh 0)) 4 (ta 4)) (up (up (up ro 0 (rr 0)) 1 (rr 1)) 2 (rr 2)) ot Bm bk)) rfl ?_
  refine mB hT 18 rfl ?_
  refine mNf (lv2 := [(3, .int 5), (2, .int 3), (0, .ref 0), (1, .int 0)]) (st2 := [.long (ta 5), .int 5, .ref 11]) rfl rfl ?_
  refine mB hT 19 rfl ?_
  refine mB hT 21 rfl ?_
  refine mNf (lv2 := [(3, .int 7), (2, .int 3), (0, .ref 0), (1, .int 0)]) (st2 := [.long 0, .int 7, .ref 11]) rfl rfl ?_
  refine mB hT 1 rfl ?_
  refine mWd (w2 := (MW 1 vs wo u h bo ta (up (up (up (up (up (up (up (up (tsM 1 ta 2 hh) 0 (ta 0)) 1 (ta 1)) 2 (ta 2)) 3 (hh 0)) 4 (ta 4)) 5 (ta 5)) 6 (ta 6)) 7 0) (up (up (up ro 0 (rr 0)) 1 (rr 1)) 2 (rr 2)) ot Bm bk)) rfl ?_
  refine mB hT 18 rfl ?_
  refine mB hT 19 rfl ?_
  refine mNf (lv2 := [(3, .int 9), (2, .int 3), (0, .ref 0), (1, .int 0)]) (st2 := [.long (ta 9), .int 9, .ref 11]) rfl rfl ?_
  refine mB hT 19 rfl ?_
  refine mB hT 1 rfl ?_
  refine mWd (w2 := (MW 1 vs wo u h bo ta (up (up (up (up (up (up (up (up (up (up (up (tsM 1 ta 2 hh) 0 (ta 0)) 1 (ta 1)) 2 (ta 2)) 3 (hh 0)) 4 (ta 4)) 5 (ta 5)) 6 (ta 6)) 7 0) 8 (ta 8)) 9 (ta 9)) 10 (ta 10)) (up (up (up ro 0 (rr 0)) 1 (rr 1)) 2 (rr 2)) ot Bm bk)) rfl ?_
  refine mB hT 20 rfl ?_
  refine mNf (lv2 := [(3, .int 11), (2, .int 3), (0, .ref 0), (1, .int 0)]) (st2 := [.long 0, .int 11, .ref 11]) rfl rfl ?_
  refine mB hT 19 rfl ?_
  refine mB hT 19 rfl ?_
  refine mNf (lv2 := [(3, .int 13), (2, .int 3), (0, .ref 0), (1, .int 0)]) (st2 := [.long (ta 13), .int 13, .ref 11]) rfl rfl ?_
  refine mB hT 1 rfl ?_
  refine mWd (w2 := (MW 1 vs wo u h bo ta (up (up (up (up (up (up (up (up (up (up (up (up (up (up (tsM 1 ta 2 hh) 0 (ta 0)) 1 (ta 1)) 2 (ta 2)) 3 (hh 0)) 4 (ta 4)) 5 (ta 5)) 6 (ta 6)) 7 0) 8 (ta 8)) 9 (ta 9)) 10 (ta 10)) 11 0) 12 (ta 12)) 13 (ta 13)) (up (up (up ro 0 (rr 0)) 1 (rr 1)) 2 (rr 2)) ot Bm bk)) rfl ?_
  refine mB hT 18 rfl ?_
  refine mB hT 21 rfl ?_
  refine mNf (lv2 := [(3, .int 15), (2, .int 3), (0, .ref 0), (1, .int 0)]) (st2 := [.long 0, .int 15, .ref 11]) rfl rfl ?_
  refine mB hT 14 rfl ?_
  refine mIf (fun _ => ?_) (fun hn => absurd (lc_ge.mpr (Int64.not_lt.mp hs)) hn)
  refine mB hT 1 rfl ?_
  refine mWd (w2 := (MW 1 vs wo u h bo ta (up (up (up (up (up (up (up (up (up (up (up (up (up (up (up (up (tsM 1 ta 2 hh) 0 (ta 0)) 1 (ta 1)) 2 (ta 2)) 3 (hh 0)) 4 (ta 4)) 5 (ta 5)) 6 (ta 6)) 7 0) 8 (ta 8)) 9 (ta 9)) 10 (ta 10)) 11 0) 12 (ta 12)) 13 (ta 13)) 14 (ta 14)) 15 0) (up (up (up ro 0 (rr 0)) 1 (rr 1)) 2 (rr 2)) ot Bm bk)) rfl ?_
  refine mWd (w2 := (MW 1 vs wo u h bo ta (tsM 1 ta 3 hh) (up (up (up ro 0 (rr 0)) 1 (rr 1)) 2 (rr 2)) ot Bm bk)) rfl ?_
  refine hC.2 _ 0 [] _ _ _ _ _ (m_det) rfl rfl (Nat.le_of_ble_eq_true rfl) rfl ?_
  refine mNf (lv2 := [(3, .int 16), (2, .int 3), (0, .ref 0), (1, .int 0)]) (st2 := [.long (rr 3), .int 3, .ref 12]) rfl (by rw [hrr 3] <;> rfl) ?_
  refine mB hT 6 rfl ?_
  exact hR _ (by decide) _ _ _ rfl rfl
set_option maxRecDepth 20000 in
theorem m_solve_1_0n {vs : Int32} {wo un h : Int64} {bo : Nat → Int32} {ta tr ro ot : Nat → Int64} {Bm : Nat → Nat → Nat → Int32} {bk : Nat → Nat → Int32} {u : Int64} {hh rr : Nat → Int64} (hs : wo < 0) (hu : u = -wo) (hq : ∀ j : Nat, hh j = (bk 0 j).toInt64) (hrr : ∀ i : Nat, rr i = -(dtM (tsM 1 ta i hh))) : KX3_solve l D ca ad [.ref 0, .int 0] (MW 1 vs wo un h bo ta tr ro ot Bm bk) none (MW 1 vs wo u h bo ta (tsM 1 ta 3 hh) rr ot Bm bk) := by
  refine PX3_solve (Nat.le_of_ble_eq_true rfl) ?_
  intro G hT hC hR
  refine mB hT 6 rfl ?_
  refine mIf (fun hp => absurd hp (fun q => Int64.not_lt.mpr (lc_ge.mp q) hs)) (fun _ => ?_)
  refine mB hT 4 rfl ?_
  refine mNf (lv2 := [(0, .ref 0), (1, .int 0)]) (st2 := [.long u, .ref 0]) rfl (by rw [hu] <;> rfl) ?_
  refine mB hT 37 rfl ?_
  refine mNf (lv2 := [(3, .int 0), (2, .int 0), (0, .ref 0), (1, .int 0)]) (st2 := [.long (hh 0), .int 0, .ref 11]) rfl (by rw [hq 0] <;> rfl) ?_
  refine mB hT 19 rfl ?_
  refine mB hT 1 rfl ?_
  refine mWd (w2 := (MW 1 vs wo u h bo ta (up (up tr 0 (hh 0)) 1 (ta 1)) ro ot Bm bk)) rfl ?_
  refine mB hT 18 rfl ?_
  refine mNf (lv2 := [(3, .int 2), (2, .int 0), (0, .ref 0), (1, .int 0)]) (st2 := [.long (ta 2), .int 2, .ref 11]) rfl rfl ?_
  refine mB hT 19 rfl ?_
  refine mB hT 21 rfl ?_
  refine mNf (lv2 := [(3, .int 4), (2, .int 0), (0, .ref 0), (1, .int 0)]) (st2 := [.long 0, .int 4, .ref 11]) rfl rfl ?_
  refine mB hT 1 rfl ?_
  refine mWd (w2 := (MW 1 vs wo u h bo ta (up (up (up (up (up tr 0 (hh 0)) 1 (ta 1)) 2 (ta 2)) 3 (ta 3)) 4 0) ro ot Bm bk)) rfl ?_
  refine mB hT 18 rfl ?_
  refine mB hT 19 rfl ?_
  refine mNf (lv2 := [(3, .int 6), (2, .int 0), (0, .ref 0), (1, .int 0)]) (st2 := [.long (ta 6), .int 6, .ref 11]) rfl rfl ?_
  refine mB hT 19 rfl ?_
  refine mB hT 1 rfl ?_
  refine mWd (w2 := (MW 1 vs wo u h bo ta (up (up (up (up (up (up (up (up tr 0 (hh 0)) 1 (ta 1)) 2 (ta 2)) 3 (ta 3)) 4 0) 5 (ta 5)) 6 (ta 6)) 7 (ta 7)) ro ot Bm bk)) rfl ?_
  refine mB hT 20 rfl ?_
  refine mNf (lv2 := [(3, .int 8), (2, .int 0), (0, .ref 0), (1, .int 0)]) (st2 := [.long 0, .int 8, .ref 11]) rfl rfl ?_
  refine mB hT 19 rfl ?_
  refine mB hT 19 rfl ?_
  refine mNf (lv2 := [(3, .int 10), (2, .int 0), (0, .ref 0), (1, .int 0)]) (st2 := [.long (ta 10), .int 10, .ref 11]) rfl rfl ?_
  refine mB hT 1 rfl ?_
  refine mWd (w2 := (MW 1 vs wo u h bo ta (up (up (up (up (up (up (up (up (up (up (up tr 0 (hh 0)) 1 (ta 1)) 2 (ta 2)) 3 (ta 3)) 4 0) 5 (ta 5)) 6 (ta 6)) 7 (ta 7)) 8 0) 9 (ta 9)) 10 (ta 10)) ro ot Bm bk)) rfl ?_
  refine mB hT 18 rfl ?_
  refine mB hT 21 rfl ?_
  refine mNf (lv2 := [(3, .int 12), (2, .int 0), (0, .ref 0), (1, .int 0)]) (st2 := [.long 0, .int 12, .ref 11]) rfl rfl ?_
  refine mB hT 19 rfl ?_
  refine mB hT 1 rfl ?_
  refine mWd (w2 := (MW 1 vs wo u h bo ta (up (up (up (up (up (up (up (up (up (up (up (up (up (up tr 0 (hh 0)) 1 (ta 1)) 2 (ta 2)) 3 (ta 3)) 4 0) 5 (ta 5)) 6 (ta 6)) 7 (ta 7)) 8 0) 9 (ta 9)) 10 (ta 10)) 11 (ta 11)) 12 0) 13 (ta 13)) ro ot Bm bk)) rfl ?_
  refine mB hT 18 rfl ?_
  refine mNf (lv2 := [(3, .int 14), (2, .int 0), (0, .ref 0), (1, .int 0)]) (st2 := [.long (ta 14), .int 14, .ref 11]) rfl rfl ?_
  refine mB hT 19 rfl ?_
  refine mB hT 14 rfl ?_
  refine mIf (fun hp => absurd hp (fun q => Int64.not_lt.mpr (lc_ge.mp q) hs)) (fun _ => ?_)
  refine mNf (lv2 := [(3, .int 16), (2, .int 0), (0, .ref 0), (1, .int 0)]) (st2 := [.int 0, .ref 12]) rfl rfl ?_
  refine mB hT 1 rfl ?_
  refine mWd (w2 := (MW 1 vs wo u h bo ta (up (up (up (up (up (up (up (up (up (up (up (up (up (up (up (up tr 0 (hh 0)) 1 (ta 1)) 2 (ta 2)) 3 (ta 3)) 4 0) 5 (ta 5)) 6 (ta 6)) 7 (ta 7)) 8 0) 9 (ta 9)) 10 (ta 10)) 11 (ta 11)) 12 0) 13 (ta 13)) 14 (ta 14)) 15 (ta 15)) ro ot Bm bk)) rfl ?_
  refine mWd (w2 := (MW 1 vs wo u h bo ta (tsM 1 ta 0 hh) ro ot Bm bk)) rfl ?_
  refine hC.1 _ 0 [] _ _ _ _ _ (m_det) rfl rfl (Nat.le_of_ble_eq_true rfl) rfl ?_
  refine mB hT 2 rfl ?_
  refine mNf (lv2 := [(3, .int 16), (2, .int 0), (0, .ref 0), (1, .int 0)]) (st2 := [.long (rr 0), .int 0, .ref 12]) rfl (by rw [hrr 0] <;> rfl) ?_
  refine mB hT 24 rfl ?_
  refine mNf (lv2 := [(3, .int 0), (2, .int 1), (0, .ref 0), (1, .int 0)]) (st2 := [.long (ta 0), .int 0, .ref 11]) rfl rfl ?_
  refine mB hT 32 rfl ?_
  refine mNf (lv2 := [(3, .int 1), (2, .int 1), (0, .ref 0), (1, .int 0)]) (st2 := [.long (hh 0), .int 1, .ref 11]) rfl (by rw [hq 0] <;> rfl) ?_
  refine mB hT 1 rfl ?_
  refine mWd (w2 := (MW 1 vs wo u h bo ta (up (up (tsM 1 ta 0 hh) 0 (ta 0)) 1 (hh 0)) (up ro 0 (rr 0)) ot Bm bk)) rfl ?_
  refine mB hT 18 rfl ?_
  refine mB hT 19 rfl ?_
  refine mNf (lv2 := [(3, .int 3), (2, .int 1), (0, .ref 0), (1, .int 0)]) (st2 := [.long (ta 3), .int 3, .ref 11]) rfl rfl ?_
  refine mB hT 19 rfl ?_
  refine mB hT 1 rfl ?_
  refine mWd (w2 := (MW 1 vs wo u h bo ta (up (up (up (up (up (tsM 1 ta 0 hh) 0 (ta 0)) 1 (hh 0)) 2 (ta 2)) 3 (ta 3)) 4 (ta 4)) (up ro 0 (rr 0)) ot Bm bk)) rfl ?_
  refine mB hT 20 rfl ?_
  refine mNf (lv2 := [(3, .int 5), (2, .int 1), (0, .ref 0), (1, .int 0)]) (st2 := [.long 0, .int 5, .ref 11]) rfl rfl ?_
  refine mB hT 19 rfl ?_
  refine mB hT 19 rfl ?_
  refine mNf (lv2 := [(3, .int 7), (2, .int 1), (0, .ref 0), (1, .int 0)]) (st2 := [.long (ta 7), .int 7, .ref 11]) rfl rfl ?_
  refine mB hT 1 rfl ?_
  refine mWd (w2 := (MW 1 vs wo u h bo ta (up (up (up (up (up (up (up (up (tsM 1 ta 0 hh) 0 (ta 0)) 1 (hh 0)) 2 (ta 2)) 3 (ta 3)) 4 (ta 4)) 5 0) 6 (ta 6)) 7 (ta 7)) (up ro 0 (rr 0)) ot Bm bk)) rfl ?_
  refine mB hT 18 rfl ?_
  refine mB hT 21 rfl ?_
  refine mNf (lv2 := [(3, .int 9), (2, .int 1), (0, .ref 0), (1, .int 0)]) (st2 := [.long 0, .int 9, .ref 11]) rfl rfl ?_
  refine mB hT 19 rfl ?_
  refine mB hT 1 rfl ?_
  refine mWd (w2 := (MW 1 vs wo u h bo ta (up (up (up (up (up (up (up (up (up (up (up (tsM 1 ta 0 hh) 0 (ta 0)) 1 (hh 0)) 2 (ta 2)) 3 (ta 3)) 4 (ta 4)) 5 0) 6 (ta 6)) 7 (ta 7)) 8 (ta 8)) 9 0) 10 (ta 10)) (up ro 0 (rr 0)) ot Bm bk)) rfl ?_
  refine mB hT 18 rfl ?_
  refine mNf (lv2 := [(3, .int 11), (2, .int 1), (0, .ref 0), (1, .int 0)]) (st2 := [.long (ta 11), .int 11, .ref 11]) rfl rfl ?_
  refine mB hT 19 rfl ?_
  refine mB hT 21 rfl ?_
  refine mNf (lv2 := [(3, .int 13), (2, .int 1), (0, .ref 0), (1, .int 0)]) (st2 := [.long 0, .int 13, .ref 11]) rfl rfl ?_
  refine mB hT 1 rfl ?_
  refine mWd (w2 := (MW 1 vs wo u h bo ta (up (up (up (up (up (up (up (up (up (up (up (up (up (up (tsM 1 ta 0 hh) 0 (ta 0)) 1 (hh 0)) 2 (ta 2)) 3 (ta 3)) 4 (ta 4)) 5 0) 6 (ta 6)) 7 (ta 7)) 8 (ta 8)) 9 0) 10 (ta 10)) 11 (ta 11)) 12 (ta 12)) 13 0) (up ro 0 (rr 0)) ot Bm bk)) rfl ?_
  refine mB hT 18 rfl ?_
  refine mB hT 19 rfl ?_
  refine mNf (lv2 := [(3, .int 15), (2, .int 1), (0, .ref 0), (1, .int 0)]) (st2 := [.long (ta 15), .int 15, .ref 11]) rfl rfl ?_
  refine mB hT 14 rfl ?_
  refine mIf (fun hp => absurd hp (fun q => Int64.not_lt.mpr (lc_ge.mp q) hs)) (fun _ => ?_)
  refine mB hT 1 rfl ?_
  refine mWd (w2 := (MW 1 vs wo u h bo ta (up (up (up (up (up (up (up (up (up (up (up (up (up (up (up (up (tsM 1 ta 0 hh) 0 (ta 0)) 1 (hh 0)) 2 (ta 2)) 3 (ta 3)) 4 (ta 4)) 5 0) 6 (ta 6)) 7 (ta 7)) 8 (ta 8)) 9 0) 10 (ta 10)) 11 (ta 11)) 12 (ta 12)) 13 0) 14 (ta 14)) 15 (ta 15)) (up ro 0 (rr 0)) ot Bm bk)) rfl ?_
  refine mWd (w2 := (MW 1 vs wo u h bo ta (tsM 1 ta 1 hh) (up ro 0 (rr 0)) ot Bm bk)) rfl ?_
  refine hC.1 _ 0 [] _ _ _ _ _ (m_det) rfl rfl (Nat.le_of_ble_eq_true rfl) rfl ?_
  refine mB hT 2 rfl ?_
  refine mNf (lv2 := [(3, .int 16), (2, .int 1), (0, .ref 0), (1, .int 0)]) (st2 := [.long (rr 1), .int 1, .ref 12]) rfl (by rw [hrr 1] <;> rfl) ?_
  refine mB hT 24 rfl ?_
  refine mNf (lv2 := [(3, .int 0), (2, .int 2), (0, .ref 0), (1, .int 0)]) (st2 := [.long (ta 0), .int 0, .ref 11]) rfl rfl ?_
  refine mB hT 19 rfl ?_
  refine mB hT 1 rfl ?_
  refine mWd (w2 := (MW 1 vs wo u h bo ta (up (up (tsM 1 ta 1 hh) 0 (ta 0)) 1 (ta 1)) (up (up ro 0 (rr 0)) 1 (rr 1)) ot Bm bk)) rfl ?_
  refine mB hT 31 rfl ?_
  refine mNf (lv2 := [(3, .int 2), (2, .int 2), (0, .ref 0), (1, .int 0)]) (st2 := [.long (hh 0), .int 2, .ref 11]) rfl (by rw [hq 0] <;> rfl) ?_
  refine mB hT 19 rfl ?_
  refine mB hT 19 rfl ?_
  refine mNf (lv2 := [(3, .int 4), (2, .int 2), (0, .ref 0), (1, .int 0)]) (st2 := [.long (ta 4), .int 4, .ref 11]) rfl rfl ?_
  refine mB hT 1 rfl ?_
  refine mWd (w2 := (MW 1 vs wo u h bo ta (up (up (up (up (up (tsM 1 ta 1 hh) 0 (ta 0)) 1 (ta 1)) 2 (hh 0)) 3 (ta 3)) 4 (ta 4)) (up (up ro 0 (rr 0)) 1 (rr 1)) ot Bm bk)) rfl ?_
  refine mB hT 18 rfl ?_
  refine mB hT 21 rfl ?_
  refine mNf (lv2 := [(3, .int 6), (2, .int 2), (0, .ref 0), (1, .int 0)]) (st2 := [.long 0, .int 6, .ref 11]) rfl rfl ?_
  refine mB hT 19 rfl ?_
  refine mB hT 1 rfl ?_
  refine mWd (w2 := (MW 1 vs wo u h bo ta (up (up (up (up (up (up (up (up (tsM 1 ta 1 hh) 0 (ta 0)) 1 (ta 1)) 2 (hh 0)) 3 (ta 3)) 4 (ta 4)) 5 (ta 5)) 6 0) 7 (ta 7)) (up (up ro 0 (rr 0)) 1 (rr 1)) ot Bm bk)) rfl ?_
  refine mB hT 18 rfl ?_
  refine mNf (lv2 := [(3, .int 8), (2, .int 2), (0, .ref 0), (1, .int 0)]) (st2 := [.long (ta 8), .int 8, .ref 11]) rfl rfl ?_
  refine mB hT 19 rfl ?_
  refine mB hT 21 rfl ?_
  refine mNf (lv2 := [(3, .int 10), (2, .int 2), (0, .ref 0), (1, .int 0)]) (st2 := [.long 0, .int 10, .ref 11]) rfl rfl ?_
  refine mB hT 1 rfl ?_
  refine mWd (w2 := (MW 1 vs wo u h bo ta (up (up (up (up (up (up (up (up (up (up (up (tsM 1 ta 1 hh) 0 (ta 0)) 1 (ta 1)) 2 (hh 0)) 3 (ta 3)) 4 (ta 4)) 5 (ta 5)) 6 0) 7 (ta 7)) 8 (ta 8)) 9 (ta 9)) 10 0) (up (up ro 0 (rr 0)) 1 (rr 1)) ot Bm bk)) rfl ?_
  refine mB hT 18 rfl ?_
  refine mB hT 19 rfl ?_
  refine mNf (lv2 := [(3, .int 12), (2, .int 2), (0, .ref 0), (1, .int 0)]) (st2 := [.long (ta 12), .int 12, .ref 11]) rfl rfl ?_
  refine mB hT 19 rfl ?_
  refine mB hT 1 rfl ?_
  refine mWd (w2 := (MW 1 vs wo u h bo ta (up (up (up (up (up (up (up (up (up (up (up (up (up (up (tsM 1 ta 1 hh) 0 (ta 0)) 1 (ta 1)) 2 (hh 0)) 3 (ta 3)) 4 (ta 4)) 5 (ta 5)) 6 0) 7 (ta 7)) 8 (ta 8)) 9 (ta 9)) 10 0) 11 (ta 11)) 12 (ta 12)) 13 (ta 13)) (up (up ro 0 (rr 0)) 1 (rr 1)) ot Bm bk)) rfl ?_
  refine mB hT 20 rfl ?_
  refine mNf (lv2 := [(3, .int 14), (2, .int 2), (0, .ref 0), (1, .int 0)]) (st2 := [.long 0, .int 14, .ref 11]) rfl rfl ?_
  refine mB hT 19 rfl ?_
  refine mB hT 14 rfl ?_
  refine mIf (fun hp => absurd hp (fun q => Int64.not_lt.mpr (lc_ge.mp q) hs)) (fun _ => ?_)
  refine mNf (lv2 := [(3, .int 16), (2, .int 2), (0, .ref 0), (1, .int 0)]) (st2 := [.int 2, .ref 12]) rfl rfl ?_
  refine mB hT 1 rfl ?_
  refine mWd (w2 := (MW 1 vs wo u h bo ta (up (up (up (up (up (up (up (up (up (up (up (up (up (up (up (up (tsM 1 ta 1 hh) 0 (ta 0)) 1 (ta 1)) 2 (hh 0)) 3 (ta 3)) 4 (ta 4)) 5 (ta 5)) 6 0) 7 (ta 7)) 8 (ta 8)) 9 (ta 9)) 10 0) 11 (ta 11)) 12 (ta 12)) 13 (ta 13)) 14 0) 15 (ta 15)) (up (up ro 0 (rr 0)) 1 (rr 1)) ot Bm bk)) rfl ?_
  refine mWd (w2 := (MW 1 vs wo u h bo ta (tsM 1 ta 2 hh) (up (up ro 0 (rr 0)) 1 (rr 1)) ot Bm bk)) rfl ?_
  refine hC.1 _ 0 [] _ _ _ _ _ (m_det) rfl rfl (Nat.le_of_ble_eq_true rfl) rfl ?_
  refine mB hT 2 rfl ?_
  refine mNf (lv2 := [(3, .int 16), (2, .int 2), (0, .ref 0), (1, .int 0)]) (st2 := [.long (rr 2), .int 2, .ref 12]) rfl (by rw [hrr 2] <;> rfl) ?_
  refine mB hT 24 rfl ?_
  refine mNf (lv2 := [(3, .int 0), (2, .int 3), (0, .ref 0), (1, .int 0)]) (st2 := [.long (ta 0), .int 0, .ref 11]) rfl rfl ?_
  refine mB hT 19 rfl ?_
  refine mB hT 1 rfl ?_
  refine mWd (w2 := (MW 1 vs wo u h bo ta (up (up (tsM 1 ta 2 hh) 0 (ta 0)) 1 (ta 1)) (up (up (up ro 0 (rr 0)) 1 (rr 1)) 2 (rr 2)) ot Bm bk)) rfl ?_
  refine mB hT 18 rfl ?_
  refine mNf (lv2 := [(3, .int 2), (2, .int 3), (0, .ref 0), (1, .int 0)]) (st2 := [.long (ta 2), .int 2, .ref 11]) rfl rfl ?_
  refine mB hT 32 rfl ?_
  refine mNf (lv2 := [(3, .int 3), (2, .int 3), (0, .ref 0), (1, .int 0)]) (st2 := [.long (hh 0), .int 3, .ref 11]) rfl (by rw [hq 0] <;> rfl) ?_
  refine mB hT 19 rfl ?_
  refine mB hT 1 rfl ?_
  refine mWd (w2 := (MW 1 vs wo u h bo ta (up (up (up (up (up (tsM 1 ta 2 hh) 0 (ta 0)) 1 (ta 1)) 2 (ta 2)) 3 (hh 0)) 4 (ta 4)) (up (up (up ro 0 (rr 0)) 1 (rr 1)) 2 (rr 2)) ot Bm bk)) rfl ?_
  refine mB hT 18 rfl ?_
  refine mNf (lv2 := [(3, .int 5), (2, .int 3), (0, .ref 0), (1, .int 0)]) (st2 := [.long (ta 5), .int 5, .ref 11]) rfl rfl ?_
  refine mB hT 19 rfl ?_
  refine mB hT 21 rfl ?_
  refine mNf (lv2 := [(3, .int 7), (2, .int 3), (0, .ref 0), (1, .int 0)]) (st2 := [.long 0, .int 7, .ref 11]) rfl rfl ?_
  refine mB hT 1 rfl ?_
  refine mWd (w2 := (MW 1 vs wo u h bo ta (up (up (up (up (up (up (up (up (tsM 1 ta 2 hh) 0 (ta 0)) 1 (ta 1)) 2 (ta 2)) 3 (hh 0)) 4 (ta 4)) 5 (ta 5)) 6 (ta 6)) 7 0) (up (up (up ro 0 (rr 0)) 1 (rr 1)) 2 (rr 2)) ot Bm bk)) rfl ?_
  refine mB hT 18 rfl ?_
  refine mB hT 19 rfl ?_
  refine mNf (lv2 := [(3, .int 9), (2, .int 3), (0, .ref 0), (1, .int 0)]) (st2 := [.long (ta 9), .int 9, .ref 11]) rfl rfl ?_
  refine mB hT 19 rfl ?_
  refine mB hT 1 rfl ?_
  refine mWd (w2 := (MW 1 vs wo u h bo ta (up (up (up (up (up (up (up (up (up (up (up (tsM 1 ta 2 hh) 0 (ta 0)) 1 (ta 1)) 2 (ta 2)) 3 (hh 0)) 4 (ta 4)) 5 (ta 5)) 6 (ta 6)) 7 0) 8 (ta 8)) 9 (ta 9)) 10 (ta 10)) (up (up (up ro 0 (rr 0)) 1 (rr 1)) 2 (rr 2)) ot Bm bk)) rfl ?_
  refine mB hT 20 rfl ?_
  refine mNf (lv2 := [(3, .int 11), (2, .int 3), (0, .ref 0), (1, .int 0)]) (st2 := [.long 0, .int 11, .ref 11]) rfl rfl ?_
  refine mB hT 19 rfl ?_
  refine mB hT 19 rfl ?_
  refine mNf (lv2 := [(3, .int 13), (2, .int 3), (0, .ref 0), (1, .int 0)]) (st2 := [.long (ta 13), .int 13, .ref 11]) rfl rfl ?_
  refine mB hT 1 rfl ?_
  refine mWd (w2 := (MW 1 vs wo u h bo ta (up (up (up (up (up (up (up (up (up (up (up (up (up (up (tsM 1 ta 2 hh) 0 (ta 0)) 1 (ta 1)) 2 (ta 2)) 3 (hh 0)) 4 (ta 4)) 5 (ta 5)) 6 (ta 6)) 7 0) 8 (ta 8)) 9 (ta 9)) 10 (ta 10)) 11 0) 12 (ta 12)) 13 (ta 13)) (up (up (up ro 0 (rr 0)) 1 (rr 1)) 2 (rr 2)) ot Bm bk)) rfl ?_
  refine mB hT 18 rfl ?_
  refine mB hT 21 rfl ?_
  refine mNf (lv2 := [(3, .int 15), (2, .int 3), (0, .ref 0), (1, .int 0)]) (st2 := [.long 0, .int 15, .ref 11]) rfl rfl ?_
  refine mB hT 14 rfl ?_
  refine mIf (fun hp => absurd hp (fun q => Int64.not_lt.mpr (lc_ge.mp q) hs)) (fun _ => ?_)
  refine mB hT 1 rfl ?_
  refine mWd (w2 := (MW 1 vs wo u h bo ta (up (up (up (up (up (up (up (up (up (up (up (up (up (up (up (up (tsM 1 ta 2 hh) 0 (ta 0)) 1 (ta 1)) 2 (ta 2)) 3 (hh 0)) 4 (ta 4)) 5 (ta 5)) 6 (ta 6)) 7 0) 8 (ta 8)) 9 (ta 9)) 10 (ta 10)) 11 0) 12 (ta 12)) 13 (ta 13)) 14 (ta 14)) 15 0) (up (up (up ro 0 (rr 0)) 1 (rr 1)) 2 (rr 2)) ot Bm bk)) rfl ?_
  refine mWd (w2 := (MW 1 vs wo u h bo ta (tsM 1 ta 3 hh) (up (up (up ro 0 (rr 0)) 1 (rr 1)) 2 (rr 2)) ot Bm bk)) rfl ?_
  refine hC.1 _ 0 [] _ _ _ _ _ (m_det) rfl rfl (Nat.le_of_ble_eq_true rfl) rfl ?_
  refine mB hT 2 rfl ?_
  refine mNf (lv2 := [(3, .int 16), (2, .int 3), (0, .ref 0), (1, .int 0)]) (st2 := [.long (rr 3), .int 3, .ref 12]) rfl (by rw [hrr 3] <;> rfl) ?_
  refine mB hT 6 rfl ?_
  exact hR _ (by decide) _ _ _ rfl rfl
set_option maxRecDepth 20000 in
theorem m_solve_1_1p {vs : Int32} {wo un h : Int64} {bo : Nat → Int32} {ta tr ro ot : Nat → Int64} {Bm : Nat → Nat → Nat → Int32} {bk : Nat → Nat → Int32} {u : Int64} {hh rr : Nat → Int64} (hs : ¬ wo < 0) (hu : u = wo) (hq : ∀ j : Nat, hh j = (bk 1 j).toInt64) (hrr : ∀ i : Nat, rr i = dtM (tsM 1 ta i hh)) : KX3_solve l D ca ad [.ref 0, .int 1] (MW 1 vs wo un h bo ta tr ro ot Bm bk) none (MW 1 vs wo u h bo ta (tsM 1 ta 3 hh) rr ot Bm bk) := by
  refine PX3_solve (Nat.le_of_ble_eq_true rfl) ?_
  intro G hT hC hR
  refine mB hT 6 rfl ?_
  refine mIf (fun _ => ?_) (fun hn => absurd (lc_ge.mpr (Int64.not_lt.mp hs)) hn)
  refine mB hT 2 rfl ?_
  refine mNf (lv2 := [(0, .ref 0), (1, .int 1)]) (st2 := [.long u, .ref 0]) rfl (by rw [hu] <;> rfl) ?_
  refine mB hT 37 rfl ?_
  refine mNf (lv2 := [(3, .int 0), (2, .int 0), (0, .ref 0), (1, .int 1)]) (st2 := [.long (hh 0), .int 0, .ref 11]) rfl (by rw [hq 0] <;> rfl) ?_
  refine mB hT 19 rfl ?_
  refine mB hT 1 rfl ?_
  refine mWd (w2 := (MW 1 vs wo u h bo ta (up (up tr 0 (hh 0)) 1 (ta 1)) ro ot Bm bk)) rfl ?_
  refine mB hT 18 rfl ?_
  refine mNf (lv2 := [(3, .int 2), (2, .int 0), (0, .ref 0), (1, .int 1)]) (st2 := [.long (ta 2), .int 2, .ref 11]) rfl rfl ?_
  refine mB hT 19 rfl ?_
  refine mB hT 21 rfl ?_
  refine mNf (lv2 := [(3, .int 4), (2, .int 0), (0, .ref 0), (1, .int 1)]) (st2 := [.long 0, .int 4, .ref 11]) rfl rfl ?_
  refine mB hT 1 rfl ?_
  refine mWd (w2 := (MW 1 vs wo u h bo ta (up (up (up (up (up tr 0 (hh 0)) 1 (ta 1)) 2 (ta 2)) 3 (ta 3)) 4 0) ro ot Bm bk)) rfl ?_
  refine mB hT 18 rfl ?_
  refine mB hT 19 rfl ?_
  refine mNf (lv2 := [(3, .int 6), (2, .int 0), (0, .ref 0), (1, .int 1)]) (st2 := [.long (ta 6), .int 6, .ref 11]) rfl rfl ?_
  refine mB hT 19 rfl ?_
  refine mB hT 1 rfl ?_
  refine mWd (w2 := (MW 1 vs wo u h bo ta (up (up (up (up (up (up (up (up tr 0 (hh 0)) 1 (ta 1)) 2 (ta 2)) 3 (ta 3)) 4 0) 5 (ta 5)) 6 (ta 6)) 7 (ta 7)) ro ot Bm bk)) rfl ?_
  refine mB hT 20 rfl ?_
  refine mNf (lv2 := [(3, .int 8), (2, .int 0), (0, .ref 0), (1, .int 1)]) (st2 := [.long 0, .int 8, .ref 11]) rfl rfl ?_
  refine mB hT 19 rfl ?_
  refine mB hT 19 rfl ?_
  refine mNf (lv2 := [(3, .int 10), (2, .int 0), (0, .ref 0), (1, .int 1)]) (st2 := [.long (ta 10), .int 10, .ref 11]) rfl rfl ?_
  refine mB hT 1 rfl ?_
  refine mWd (w2 := (MW 1 vs wo u h bo ta (up (up (up (up (up (up (up (up (up (up (up tr 0 (hh 0)) 1 (ta 1)) 2 (ta 2)) 3 (ta 3)) 4 0) 5 (ta 5)) 6 (ta 6)) 7 (ta 7)) 8 0) 9 (ta 9)) 10 (ta 10)) ro ot Bm bk)) rfl ?_
  refine mB hT 18 rfl ?_
  refine mB hT 21 rfl ?_
  refine mNf (lv2 := [(3, .int 12), (2, .int 0), (0, .ref 0), (1, .int 1)]) (st2 := [.long 0, .int 12, .ref 11]) rfl rfl ?_
  refine mB hT 19 rfl ?_
  refine mB hT 1 rfl ?_
  refine mWd (w2 := (MW 1 vs wo u h bo ta (up (up (up (up (up (up (up (up (up (up (up (up (up (up tr 0 (hh 0)) 1 (ta 1)) 2 (ta 2)) 3 (ta 3)) 4 0) 5 (ta 5)) 6 (ta 6)) 7 (ta 7)) 8 0) 9 (ta 9)) 10 (ta 10)) 11 (ta 11)) 12 0) 13 (ta 13)) ro ot Bm bk)) rfl ?_
  refine mB hT 18 rfl ?_
  refine mNf (lv2 := [(3, .int 14), (2, .int 0), (0, .ref 0), (1, .int 1)]) (st2 := [.long (ta 14), .int 14, .ref 11]) rfl rfl ?_
  refine mB hT 19 rfl ?_
  refine mB hT 14 rfl ?_
  refine mIf (fun _ => ?_) (fun hn => absurd (lc_ge.mpr (Int64.not_lt.mp hs)) hn)
  refine mNf (lv2 := [(3, .int 16), (2, .int 0), (0, .ref 0), (1, .int 1)]) (st2 := [.int 0, .ref 12]) rfl rfl ?_
  refine mB hT 1 rfl ?_
  refine mWd (w2 := (MW 1 vs wo u h bo ta (up (up (up (up (up (up (up (up (up (up (up (up (up (up (up (up tr 0 (hh 0)) 1 (ta 1)) 2 (ta 2)) 3 (ta 3)) 4 0) 5 (ta 5)) 6 (ta 6)) 7 (ta 7)) 8 0) 9 (ta 9)) 10 (ta 10)) 11 (ta 11)) 12 0) 13 (ta 13)) 14 (ta 14)) 15 (ta 15)) ro ot Bm bk)) rfl ?_
  refine mWd (w2 := (MW 1 vs wo u h bo ta (tsM 1 ta 0 hh) ro ot Bm bk)) rfl ?_
  refine hC.2 _ 0 [] _ _ _ _ _ (m_det) rfl rfl (Nat.le_of_ble_eq_true rfl) rfl ?_
  refine mNf (lv2 := [(3, .int 16), (2, .int 0), (0, .ref 0), (1, .int 1)]) (st2 := [.long (rr 0), .int 0, .ref 12]) rfl (by rw [hrr 0] <;> rfl) ?_
  refine mB hT 24 rfl ?_
  refine mNf (lv2 := [(3, .int 0), (2, .int 1), (0, .ref 0), (1, .int 1)]) (st2 := [.long (ta 0), .int 0, .ref 11]) rfl rfl ?_
  refine mB hT 32 rfl ?_
  refine mNf (lv2 := [(3, .int 1), (2, .int 1), (0, .ref 0), (1, .int 1)]) (st2 := [.long (hh 0), .int 1, .ref 11]) rfl (by rw [hq 0] <;> rfl) ?_
  refine mB hT 1 rfl ?_
  refine mWd (w2 := (MW 1 vs wo u h bo ta (up (up (tsM 1 ta 0 hh) 0 (ta 0)) 1 (hh 0)) (up ro 0 (rr 0)) ot Bm bk)) rfl ?_
  refine mB hT 18 rfl ?_
  refine mB hT 19 rfl ?_
  refine mNf (lv2 := [(3, .int 3), (2, .int 1), (0, .ref 0), (1, .int 1)]) (st2 := [.long (ta 3), .int 3, .ref 11]) rfl rfl ?_
  refine mB hT 19 rfl ?_
  refine mB hT 1 rfl ?_
  refine mWd (w2 := (MW 1 vs wo u h bo ta (up (up (up (up (up (tsM 1 ta 0 hh) 0 (ta 0)) 1 (hh 0)) 2 (ta 2)) 3 (ta 3)) 4 (ta 4)) (up ro 0 (rr 0)) ot Bm bk)) rfl ?_
  refine mB hT 20 rfl ?_
  refine mNf (lv2 := [(3, .int 5), (2, .int 1), (0, .ref 0), (1, .int 1)]) (st2 := [.long 0, .int 5, .ref 11]) rfl rfl ?_
  refine mB hT 19 rfl ?_
  refine mB hT 19 rfl ?_
  refine mNf (lv2 := [(3, .int 7), (2, .int 1), (0, .ref 0), (1, .int 1)]) (st2 := [.long (ta 7), .int 7, .ref 11]) rfl rfl ?_
  refine mB hT 1 rfl ?_
  refine mWd (w2 := (MW 1 vs wo u h bo ta (up (up (up (up (up (up (up (up (tsM 1 ta 0 hh) 0 (ta 0)) 1 (hh 0)) 2 (ta 2)) 3 (ta 3)) 4 (ta 4)) 5 0) 6 (ta 6)) 7 (ta 7)) (up ro 0 (rr 0)) ot Bm bk)) rfl ?_
  refine mB hT 18 rfl ?_
  refine mB hT 21 rfl ?_
  refine mNf (lv2 := [(3, .int 9), (2, .int 1), (0, .ref 0), (1, .int 1)]) (st2 := [.long 0, .int 9, .ref 11]) rfl rfl ?_
  refine mB hT 19 rfl ?_
  refine mB hT 1 rfl ?_
  refine mWd (w2 := (MW 1 vs wo u h bo ta (up (up (up (up (up (up (up (up (up (up (up (tsM 1 ta 0 hh) 0 (ta 0)) 1 (hh 0)) 2 (ta 2)) 3 (ta 3)) 4 (ta 4)) 5 0) 6 (ta 6)) 7 (ta 7)) 8 (ta 8)) 9 0) 10 (ta 10)) (up ro 0 (rr 0)) ot Bm bk)) rfl ?_
  refine mB hT 18 rfl ?_
  refine mNf (lv2 := [(3, .int 11), (2, .int 1), (0, .ref 0), (1, .int 1)]) (st2 := [.long (ta 11), .int 11, .ref 11]) rfl rfl ?_
  refine mB hT 19 rfl ?_
  refine mB hT 21 rfl ?_
  refine mNf (lv2 := [(3, .int 13), (2, .int 1), (0, .ref 0), (1, .int 1)]) (st2 := [.long 0, .int 13, .ref 11]) rfl rfl ?_
  refine mB hT 1 rfl ?_
  refine mWd (w2 := (MW 1 vs wo u h bo ta (up (up (up (up (up (up (up (up (up (up (up (up (up (up (tsM 1 ta 0 hh) 0 (ta 0)) 1 (hh 0)) 2 (ta 2)) 3 (ta 3)) 4 (ta 4)) 5 0) 6 (ta 6)) 7 (ta 7)) 8 (ta 8)) 9 0) 10 (ta 10)) 11 (ta 11)) 12 (ta 12)) 13 0) (up ro 0 (rr 0)) ot Bm bk)) rfl ?_
  refine mB hT 18 rfl ?_
  refine mB hT 19 rfl ?_
  refine mNf (lv2 := [(3, .int 15), (2, .int 1), (0, .ref 0), (1, .int 1)]) (st2 := [.long (ta 15), .int 15, .ref 11]) rfl rfl ?_
  refine mB hT 14 rfl ?_
  refine mIf (fun _ => ?_) (fun hn => absurd (lc_ge.mpr (Int64.not_lt.mp hs)) hn)
  refine mB hT 1 rfl ?_
  refine mWd (w2 := (MW 1 vs wo u h bo ta (up (up (up (up (up (up (up (up (up (up (up (up (up (up (up (up (tsM 1 ta 0 hh) 0 (ta 0)) 1 (hh 0)) 2 (ta 2)) 3 (ta 3)) 4 (ta 4)) 5 0) 6 (ta 6)) 7 (ta 7)) 8 (ta 8)) 9 0) 10 (ta 10)) 11 (ta 11)) 12 (ta 12)) 13 0) 14 (ta 14)) 15 (ta 15)) (up ro 0 (rr 0)) ot Bm bk)) rfl ?_
  refine mWd (w2 := (MW 1 vs wo u h bo ta (tsM 1 ta 1 hh) (up ro 0 (rr 0)) ot Bm bk)) rfl ?_
  refine hC.2 _ 0 [] _ _ _ _ _ (m_det) rfl rfl (Nat.le_of_ble_eq_true rfl) rfl ?_
  refine mNf (lv2 := [(3, .int 16), (2, .int 1), (0, .ref 0), (1, .int 1)]) (st2 := [.long (rr 1), .int 1, .ref 12]) rfl (by rw [hrr 1] <;> rfl) ?_
  refine mB hT 24 rfl ?_
  refine mNf (lv2 := [(3, .int 0), (2, .int 2), (0, .ref 0), (1, .int 1)]) (st2 := [.long (ta 0), .int 0, .ref 11]) rfl rfl ?_
  refine mB hT 19 rfl ?_
  refine mB hT 1 rfl ?_
  refine mWd (w2 := (MW 1 vs wo u h bo ta (up (up (tsM 1 ta 1 hh) 0 (ta 0)) 1 (ta 1)) (up (up ro 0 (rr 0)) 1 (rr 1)) ot Bm bk)) rfl ?_
  refine mB hT 31 rfl ?_
  refine mNf (lv2 := [(3, .int 2), (2, .int 2), (0, .ref 0), (1, .int 1)]) (st2 := [.long (hh 0), .int 2, .ref 11]) rfl (by rw [hq 0] <;> rfl) ?_
  refine mB hT 19 rfl ?_
  refine mB hT 19 rfl ?_
  refine mNf (lv2 := [(3, .int 4), (2, .int 2), (0, .ref 0), (1, .int 1)]) (st2 := [.long (ta 4), .int 4, .ref 11]) rfl rfl ?_
  refine mB hT 1 rfl ?_
  refine mWd (w2 := (MW 1 vs wo u h bo ta (up (up (up (up (up (tsM 1 ta 1 hh) 0 (ta 0)) 1 (ta 1)) 2 (hh 0)) 3 (ta 3)) 4 (ta 4)) (up (up ro 0 (rr 0)) 1 (rr 1)) ot Bm bk)) rfl ?_
  refine mB hT 18 rfl ?_
  refine mB hT 21 rfl ?_
  refine mNf (lv2 := [(3, .int 6), (2, .int 2), (0, .ref 0), (1, .int 1)]) (st2 := [.long 0, .int 6, .ref 11]) rfl rfl ?_
  refine mB hT 19 rfl ?_
  refine mB hT 1 rfl ?_
  refine mWd (w2 := (MW 1 vs wo u h bo ta (up (up (up (up (up (up (up (up (tsM 1 ta 1 hh) 0 (ta 0)) 1 (ta 1)) 2 (hh 0)) 3 (ta 3)) 4 (ta 4)) 5 (ta 5)) 6 0) 7 (ta 7)) (up (up ro 0 (rr 0)) 1 (rr 1)) ot Bm bk)) rfl ?_
  refine mB hT 18 rfl ?_
  refine mNf (lv2 := [(3, .int 8), (2, .int 2), (0, .ref 0), (1, .int 1)]) (st2 := [.long (ta 8), .int 8, .ref 11]) rfl rfl ?_
  refine mB hT 19 rfl ?_
  refine mB hT 21 rfl ?_
  refine mNf (lv2 := [(3, .int 10), (2, .int 2), (0, .ref 0), (1, .int 1)]) (st2 := [.long 0, .int 10, .ref 11]) rfl rfl ?_
  refine mB hT 1 rfl ?_
  refine mWd (w2 := (MW 1 vs wo u h bo ta (up (up (up (up (up (up (up (up (up (up (up (tsM 1 ta 1 hh) 0 (ta 0)) 1 (ta 1)) 2 (hh 0)) 3 (ta 3)) 4 (ta 4)) 5 (ta 5)) 6 0) 7 (ta 7)) 8 (ta 8)) 9 (ta 9)) 10 0) (up (up ro 0 (rr 0)) 1 (rr 1)) ot Bm bk)) rfl ?_
  refine mB hT 18 rfl ?_
  refine mB hT 19 rfl ?_
  refine mNf (lv2 := [(3, .int 12), (2, .int 2), (0, .ref 0), (1, .int 1)]) (st2 := [.long (ta 12), .int 12, .ref 11]) rfl rfl ?_
  refine mB hT 19 rfl ?_
  refine mB hT 1 rfl ?_
  refine mWd (w2 := (MW 1 vs wo u h bo ta (up (up (up (up (up (up (up (up (up (up (up (up (up (up (tsM 1 ta 1 hh) 0 (ta 0)) 1 (ta 1)) 2 (hh 0)) 3 (ta 3)) 4 (ta 4)) 5 (ta 5)) 6 0) 7 (ta 7)) 8 (ta 8)) 9 (ta 9)) 10 0) 11 (ta 11)) 12 (ta 12)) 13 (ta 13)) (up (up ro 0 (rr 0)) 1 (rr 1)) ot Bm bk)) rfl ?_
  refine mB hT 20 rfl ?_
  refine mNf (lv2 := [(3, .int 14), (2, .int 2), (0, .ref 0), (1, .int 1)]) (st2 := [.long 0, .int 14, .ref 11]) rfl rfl ?_
  refine mB hT 19 rfl ?_
  refine mB hT 14 rfl ?_
  refine mIf (fun _ => ?_) (fun hn => absurd (lc_ge.mpr (Int64.not_lt.mp hs)) hn)
  refine mNf (lv2 := [(3, .int 16), (2, .int 2), (0, .ref 0), (1, .int 1)]) (st2 := [.int 2, .ref 12]) rfl rfl ?_
  refine mB hT 1 rfl ?_
  refine mWd (w2 := (MW 1 vs wo u h bo ta (up (up (up (up (up (up (up (up (up (up (up (up (up (up (up (up (tsM 1 ta 1 hh) 0 (ta 0)) 1 (ta 1)) 2 (hh 0)) 3 (ta 3)) 4 (ta 4)) 5 (ta 5)) 6 0) 7 (ta 7)) 8 (ta 8)) 9 (ta 9)) 10 0) 11 (ta 11)) 12 (ta 12)) 13 (ta 13)) 14 0) 15 (ta 15)) (up (up ro 0 (rr 0)) 1 (rr 1)) ot Bm bk)) rfl ?_
  refine mWd (w2 := (MW 1 vs wo u h bo ta (tsM 1 ta 2 hh) (up (up ro 0 (rr 0)) 1 (rr 1)) ot Bm bk)) rfl ?_
  refine hC.2 _ 0 [] _ _ _ _ _ (m_det) rfl rfl (Nat.le_of_ble_eq_true rfl) rfl ?_
  refine mNf (lv2 := [(3, .int 16), (2, .int 2), (0, .ref 0), (1, .int 1)]) (st2 := [.long (rr 2), .int 2, .ref 12]) rfl (by rw [hrr 2] <;> rfl) ?_
  refine mB hT 24 rfl ?_
  refine mNf (lv2 := [(3, .int 0), (2, .int 3), (0, .ref 0), (1, .int 1)]) (st2 := [.long (ta 0), .int 0, .ref 11]) rfl rfl ?_
  refine mB hT 19 rfl ?_
  refine mB hT 1 rfl ?_
  refine mWd (w2 := (MW 1 vs wo u h bo ta (up (up (tsM 1 ta 2 hh) 0 (ta 0)) 1 (ta 1)) (up (up (up ro 0 (rr 0)) 1 (rr 1)) 2 (rr 2)) ot Bm bk)) rfl ?_
  refine mB hT 18 rfl ?_
  refine mNf (lv2 := [(3, .int 2), (2, .int 3), (0, .ref 0), (1, .int 1)]) (st2 := [.long (ta 2), .int 2, .ref 11]) rfl rfl ?_
  refine mB hT 32 rfl ?_
  refine mNf (lv2 := [(3, .int 3), (2, .int 3), (0, .ref 0), (1, .int 1)]) (st2 := [.long (hh 0), .int 3, .ref 11]) rfl (by rw [hq 0] <;> rfl) ?_
  refine mB hT 19 rfl ?_
  refine mB hT 1 rfl ?_
  refine mWd (w2 := (MW 1 vs wo u h bo ta (up (up (up (up (up (tsM 1 ta 2 hh) 0 (ta 0)) 1 (ta 1)) 2 (ta 2)) 3 (hh 0)) 4 (ta 4)) (up (up (up ro 0 (rr 0)) 1 (rr 1)) 2 (rr 2)) ot Bm bk)) rfl ?_
  refine mB hT 18 rfl ?_
  refine mNf (lv2 := [(3, .int 5), (2, .int 3), (0, .ref 0), (1, .int 1)]) (st2 := [.long (ta 5), .int 5, .ref 11]) rfl rfl ?_
  refine mB hT 19 rfl ?_
  refine mB hT 21 rfl ?_
  refine mNf (lv2 := [(3, .int 7), (2, .int 3), (0, .ref 0), (1, .int 1)]) (st2 := [.long 0, .int 7, .ref 11]) rfl rfl ?_
  refine mB hT 1 rfl ?_
  refine mWd (w2 := (MW 1 vs wo u h bo ta (up (up (up (up (up (up (up (up (tsM 1 ta 2 hh) 0 (ta 0)) 1 (ta 1)) 2 (ta 2)) 3 (hh 0)) 4 (ta 4)) 5 (ta 5)) 6 (ta 6)) 7 0) (up (up (up ro 0 (rr 0)) 1 (rr 1)) 2 (rr 2)) ot Bm bk)) rfl ?_
  refine mB hT 18 rfl ?_
  refine mB hT 19 rfl ?_
  refine mNf (lv2 := [(3, .int 9), (2, .int 3), (0, .ref 0), (1, .int 1)]) (st2 := [.long (ta 9), .int 9, .ref 11]) rfl rfl ?_
  refine mB hT 19 rfl ?_
  refine mB hT 1 rfl ?_
  refine mWd (w2 := (MW 1 vs wo u h bo ta (up (up (up (up (up (up (up (up (up (up (up (tsM 1 ta 2 hh) 0 (ta 0)) 1 (ta 1)) 2 (ta 2)) 3 (hh 0)) 4 (ta 4)) 5 (ta 5)) 6 (ta 6)) 7 0) 8 (ta 8)) 9 (ta 9)) 10 (ta 10)) (up (up (up ro 0 (rr 0)) 1 (rr 1)) 2 (rr 2)) ot Bm bk)) rfl ?_
  refine mB hT 20 rfl ?_
  refine mNf (lv2 := [(3, .int 11), (2, .int 3), (0, .ref 0), (1, .int 1)]) (st2 := [.long 0, .int 11, .ref 11]) rfl rfl ?_
  refine mB hT 19 rfl ?_
  refine mB hT 19 rfl ?_
  refine mNf (lv2 := [(3, .int 13), (2, .int 3), (0, .ref 0), (1, .int 1)]) (st2 := [.long (ta 13), .int 13, .ref 11]) rfl rfl ?_
  refine mB hT 1 rfl ?_
  refine mWd (w2 := (MW 1 vs wo u h bo ta (up (up (up (up (up (up (up (up (up (up (up (up (up (up (tsM 1 ta 2 hh) 0 (ta 0)) 1 (ta 1)) 2 (ta 2)) 3 (hh 0)) 4 (ta 4)) 5 (ta 5)) 6 (ta 6)) 7 0) 8 (ta 8)) 9 (ta 9)) 10 (ta 10)) 11 0) 12 (ta 12)) 13 (ta 13)) (up (up (up ro 0 (rr 0)) 1 (rr 1)) 2 (rr 2)) ot Bm bk)) rfl ?_
  refine mB hT 18 rfl ?_
  refine mB hT 21 rfl ?_
  refine mNf (lv2 := [(3, .int 15), (2, .int 3), (0, .ref 0), (1, .int 1)]) (st2 := [.long 0, .int 15, .ref 11]) rfl rfl ?_
  refine mB hT 14 rfl ?_
  refine mIf (fun _ => ?_) (fun hn => absurd (lc_ge.mpr (Int64.not_lt.mp hs)) hn)
  refine mB hT 1 rfl ?_
  refine mWd (w2 := (MW 1 vs wo u h bo ta (up (up (up (up (up (up (up (up (up (up (up (up (up (up (up (up (tsM 1 ta 2 hh) 0 (ta 0)) 1 (ta 1)) 2 (ta 2)) 3 (hh 0)) 4 (ta 4)) 5 (ta 5)) 6 (ta 6)) 7 0) 8 (ta 8)) 9 (ta 9)) 10 (ta 10)) 11 0) 12 (ta 12)) 13 (ta 13)) 14 (ta 14)) 15 0) (up (up (up ro 0 (rr 0)) 1 (rr 1)) 2 (rr 2)) ot Bm bk)) rfl ?_
  refine mWd (w2 := (MW 1 vs wo u h bo ta (tsM 1 ta 3 hh) (up (up (up ro 0 (rr 0)) 1 (rr 1)) 2 (rr 2)) ot Bm bk)) rfl ?_
  refine hC.2 _ 0 [] _ _ _ _ _ (m_det) rfl rfl (Nat.le_of_ble_eq_true rfl) rfl ?_
  refine mNf (lv2 := [(3, .int 16), (2, .int 3), (0, .ref 0), (1, .int 1)]) (st2 := [.long (rr 3), .int 3, .ref 12]) rfl (by rw [hrr 3] <;> rfl) ?_
  refine mB hT 6 rfl ?_
  exact hR _ (by decide) _ _ _ rfl rfl
set_option maxRecDepth 20000 in
theorem m_solve_1_1n {vs : Int32} {wo un h : Int64} {bo : Nat → Int32} {ta tr ro ot : Nat → Int64} {Bm : Nat → Nat → Nat → Int32} {bk : Nat → Nat → Int32} {u : Int64} {hh rr : Nat → Int64} (hs : wo < 0) (hu : u = -wo) (hq : ∀ j : Nat, hh j = (bk 1 j).toInt64) (hrr : ∀ i : Nat, rr i = -(dtM (tsM 1 ta i hh))) : KX3_solve l D ca ad [.ref 0, .int 1] (MW 1 vs wo un h bo ta tr ro ot Bm bk) none (MW 1 vs wo u h bo ta (tsM 1 ta 3 hh) rr ot Bm bk) := by
  refine PX3_solve (Nat.le_of_ble_eq_true rfl) ?_
  intro G hT hC hR
  refine mB hT 6 rfl ?_
  refine mIf (fun hp => absurd hp (fun q => Int64.not_lt.mpr (lc_ge.mp q) hs)) (fun _ => ?_)
  refine mB hT 4 rfl ?_
  refine mNf (lv2 := [(0, .ref 0), (1, .int 1)]) (st2 := [.long u, .ref 0]) rfl (by rw [hu] <;> rfl) ?_
  refine mB hT 37 rfl ?_
  refine mNf (lv2 := [(3, .int 0), (2, .int 0), (0, .ref 0), (1, .int 1)]) (st2 := [.long (hh 0), .int 0, .ref 11]) rfl (by rw [hq 0] <;> rfl) ?_
  refine mB hT 19 rfl ?_
  refine mB hT 1 rfl ?_
  refine mWd (w2 := (MW 1 vs wo u h bo ta (up (up tr 0 (hh 0)) 1 (ta 1)) ro ot Bm bk)) rfl ?_
  refine mB hT 18 rfl ?_
  refine mNf (lv2 := [(3, .int 2), (2, .int 0), (0, .ref 0), (1, .int 1)]) (st2 := [.long (ta 2), .int 2, .ref 11]) rfl rfl ?_
  refine mB hT 19 rfl ?_
  refine mB hT 21 rfl ?_
  refine mNf (lv2 := [(3, .int 4), (2, .int 0), (0, .ref 0), (1, .int 1)]) (st2 := [.long 0, .int 4, .ref 11]) rfl rfl ?_
  refine mB hT 1 rfl ?_
  refine mWd (w2 := (MW 1 vs wo u h bo ta (up (up (up (up (up tr 0 (hh 0)) 1 (ta 1)) 2 (ta 2)) 3 (ta 3)) 4 0) ro ot Bm bk)) rfl ?_
  refine mB hT 18 rfl ?_
  refine mB hT 19 rfl ?_
  refine mNf (lv2 := [(3, .int 6), (2, .int 0), (0, .ref 0), (1, .int 1)]) (st2 := [.long (ta 6), .int 6, .ref 11]) rfl rfl ?_
  refine mB hT 19 rfl ?_
  refine mB hT 1 rfl ?_
  refine mWd (w2 := (MW 1 vs wo u h bo ta (up (up (up (up (up (up (up (up tr 0 (hh 0)) 1 (ta 1)) 2 (ta 2)) 3 (ta 3)) 4 0) 5 (ta 5)) 6 (ta 6)) 7 (ta 7)) ro ot Bm bk)) rfl ?_
  refine mB hT 20 rfl ?_
  refine mNf (lv2 := [(3, .int 8), (2, .int 0), (0, .ref 0), (1, .int 1)]) (st2 := [.long 0, .int 8, .ref 11]) rfl rfl ?_
  refine mB hT 19 rfl ?_
  refine mB hT 19 rfl ?_
  refine mNf (lv2 := [(3, .int 10), (2, .int 0), (0, .ref 0), (1, .int 1)]) (st2 := [.long (ta 10), .int 10, .ref 11]) rfl rfl ?_
  refine mB hT 1 rfl ?_
  refine mWd (w2 := (MW 1 vs wo u h bo ta (up (up (up (up (up (up (up (up (up (up (up tr 0 (hh 0)) 1 (ta 1)) 2 (ta 2)) 3 (ta 3)) 4 0) 5 (ta 5)) 6 (ta 6)) 7 (ta 7)) 8 0) 9 (ta 9)) 10 (ta 10)) ro ot Bm bk)) rfl ?_
  refine mB hT 18 rfl ?_
  refine mB hT 21 rfl ?_
  refine mNf (lv2 := [(3, .int 12), (2, .int 0), (0, .ref 0), (1, .int 1)]) (st2 := [.long 0, .int 12, .ref 11]) rfl rfl ?_
  refine mB hT 19 rfl ?_
  refine mB hT 1 rfl ?_
  refine mWd (w2 := (MW 1 vs wo u h bo ta (up (up (up (up (up (up (up (up (up (up (up (up (up (up tr 0 (hh 0)) 1 (ta 1)) 2 (ta 2)) 3 (ta 3)) 4 0) 5 (ta 5)) 6 (ta 6)) 7 (ta 7)) 8 0) 9 (ta 9)) 10 (ta 10)) 11 (ta 11)) 12 0) 13 (ta 13)) ro ot Bm bk)) rfl ?_
  refine mB hT 18 rfl ?_
  refine mNf (lv2 := [(3, .int 14), (2, .int 0), (0, .ref 0), (1, .int 1)]) (st2 := [.long (ta 14), .int 14, .ref 11]) rfl rfl ?_
  refine mB hT 19 rfl ?_
  refine mB hT 14 rfl ?_
  refine mIf (fun hp => absurd hp (fun q => Int64.not_lt.mpr (lc_ge.mp q) hs)) (fun _ => ?_)
  refine mNf (lv2 := [(3, .int 16), (2, .int 0), (0, .ref 0), (1, .int 1)]) (st2 := [.int 0, .ref 12]) rfl rfl ?_
  refine mB hT 1 rfl ?_
  refine mWd (w2 := (MW 1 vs wo u h bo ta (up (up (up (up (up (up (up (up (up (up (up (up (up (up (up (up tr 0 (hh 0)) 1 (ta 1)) 2 (ta 2)) 3 (ta 3)) 4 0) 5 (ta 5)) 6 (ta 6)) 7 (ta 7)) 8 0) 9 (ta 9)) 10 (ta 10)) 11 (ta 11)) 12 0) 13 (ta 13)) 14 (ta 14)) 15 (ta 15)) ro ot Bm bk)) rfl ?_
  refine mWd (w2 := (MW 1 vs wo u h bo ta (tsM 1 ta 0 hh) ro ot Bm bk)) rfl ?_
  refine hC.1 _ 0 [] _ _ _ _ _ (m_det) rfl rfl (Nat.le_of_ble_eq_true rfl) rfl ?_
  refine mB hT 2 rfl ?_
  refine mNf (lv2 := [(3, .int 16), (2, .int 0), (0, .ref 0), (1, .int 1)]) (st2 := [.long (rr 0), .int 0, .ref 12]) rfl (by rw [hrr 0] <;> rfl) ?_
  refine mB hT 24 rfl ?_
  refine mNf (lv2 := [(3, .int 0), (2, .int 1), (0, .ref 0), (1, .int 1)]) (st2 := [.long (ta 0), .int 0, .ref 11]) rfl rfl ?_
  refine mB hT 32 rfl ?_
  refine mNf (lv2 := [(3, .int 1), (2, .int 1), (0, .ref 0), (1, .int 1)]) (st2 := [.long (hh 0), .int 1, .ref 11]) rfl (by rw [hq 0] <;> rfl) ?_
  refine mB hT 1 rfl ?_
  refine mWd (w2 := (MW 1 vs wo u h bo ta (up (up (tsM 1 ta 0 hh) 0 (ta 0)) 1 (hh 0)) (up ro 0 (rr 0)) ot Bm bk)) rfl ?_
  refine mB hT 18 rfl ?_
  refine mB hT 19 rfl ?_
  refine mNf (lv2 := [(3, .int 3), (2, .int 1), (0, .ref 0), (1, .int 1)]) (st2 := [.long (ta 3), .int 3, .ref 11]) rfl rfl ?_
  refine mB hT 19 rfl ?_
  refine mB hT 1 rfl ?_
  refine mWd (w2 := (MW 1 vs wo u h bo ta (up (up (up (up (up (tsM 1 ta 0 hh) 0 (ta 0)) 1 (hh 0)) 2 (ta 2)) 3 (ta 3)) 4 (ta 4)) (up ro 0 (rr 0)) ot Bm bk)) rfl ?_
  refine mB hT 20 rfl ?_
  refine mNf (lv2 := [(3, .int 5), (2, .int 1), (0, .ref 0), (1, .int 1)]) (st2 := [.long 0, .int 5, .ref 11]) rfl rfl ?_
  refine mB hT 19 rfl ?_
  refine mB hT 19 rfl ?_
  refine mNf (lv2 := [(3, .int 7), (2, .int 1), (0, .ref 0), (1, .int 1)]) (st2 := [.long (ta 7), .int 7, .ref 11]) rfl rfl ?_
  refine mB hT 1 rfl ?_
  refine mWd (w2 := (MW 1 vs wo u h bo ta (up (up (up (up (up (up (up (up (tsM 1 ta 0 hh) 0 (ta 0)) 1 (hh 0)) 2 (ta 2)) 3 (ta 3)) 4 (ta 4)) 5 0) 6 (ta 6)) 7 (ta 7)) (up ro 0 (rr 0)) ot Bm bk)) rfl ?_
  refine mB hT 18 rfl ?_
  refine mB hT 21 rfl ?_
  refine mNf (lv2 := [(3, .int 9), (2, .int 1), (0, .ref 0), (1, .int 1)]) (st2 := [.long 0, .int 9, .ref 11]) rfl rfl ?_
  refine mB hT 19 rfl ?_
  refine mB hT 1 rfl ?_
  refine mWd (w2 := (MW 1 vs wo u h bo ta (up (up (up (up (up (up (up (up (up (up (up (tsM 1 ta 0 hh) 0 (ta 0)) 1 (hh 0)) 2 (ta 2)) 3 (ta 3)) 4 (ta 4)) 5 0) 6 (ta 6)) 7 (ta 7)) 8 (ta 8)) 9 0) 10 (ta 10)) (up ro 0 (rr 0)) ot Bm bk)) rfl ?_
  refine mB hT 18 rfl ?_
  refine mNf (lv2 := [(3, .int 11), (2, .int 1), (0, .ref 0), (1, .int 1)]) (st2 := [.long (ta 11), .int 11, .ref 11]) rfl rfl ?_
  refine mB hT 19 rfl ?_
  refine mB hT 21 rfl ?_
  refine mNf (lv2 := [(3, .int 13), (2, .int 1), (0, .ref 0), (1, .int 1)]) (st2 := [.long 0, .int 13, .ref 11]) rfl rfl ?_
  refine mB hT 1 rfl ?_
  refine mWd (w2 := (MW 1 vs wo u h bo ta (up (up (up (up (up (up (up (up (up (up (up (up (up (up (tsM 1 ta 0 hh) 0 (ta 0)) 1 (hh 0)) 2 (ta 2)) 3 (ta 3)) 4 (ta 4)) 5 0) 6 (ta 6)) 7 (ta 7)) 8 (ta 8)) 9 0) 10 (ta 10)) 11 (ta 11)) 12 (ta 12)) 13 0) (up ro 0 (rr 0)) ot Bm bk)) rfl ?_
  refine mB hT 18 rfl ?_
  refine mB hT 19 rfl ?_
  refine mNf (lv2 := [(3, .int 15), (2, .int 1), (0, .ref 0), (1, .int 1)]) (st2 := [.long (ta 15), .int 15, .ref 11]) rfl rfl ?_
  refine mB hT 14 rfl ?_
  refine mIf (fun hp => absurd hp (fun q => Int64.not_lt.mpr (lc_ge.mp q) hs)) (fun _ => ?_)
  refine mB hT 1 rfl ?_
  refine mWd (w2 := (MW 1 vs wo u h bo ta (up (up (up (up (up (up (up (up (up (up (up (up (up (up (up (up (tsM 1 ta 0 hh) 0 (ta 0)) 1 (hh 0)) 2 (ta 2)) 3 (ta 3)) 4 (ta 4)) 5 0) 6 (ta 6)) 7 (ta 7)) 8 (ta 8)) 9 0) 10 (ta 10)) 11 (ta 11)) 12 (ta 12)) 13 0) 14 (ta 14)) 15 (ta 15)) (up ro 0 (rr 0)) ot Bm bk)) rfl ?_
  refine mWd (w2 := (MW 1 vs wo u h bo ta (tsM 1 ta 1 hh) (up ro 0 (rr 0)) ot Bm bk)) rfl ?_
  refine hC.1 _ 0 [] _ _ _ _ _ (m_det) rfl rfl (Nat.le_of_ble_eq_true rfl) rfl ?_
  refine mB hT 2 rfl ?_
  refine mNf (lv2 := [(3, .int 16), (2, .int 1), (0, .ref 0), (1, .int 1)]) (st2 := [.long (rr 1), .int 1, .ref 12]) rfl (by rw [hrr 1] <;> rfl) ?_
  refine mB hT 24 rfl ?_
  refine mNf (lv2 := [(3, .int 0), (2, .int 2), (0, .ref 0), (1, .int 1)]) (st2 := [.long (ta 0), .int 0, .ref 11]) rfl rfl ?_
  refine mB hT 19 rfl ?_
  refine mB hT 1 rfl ?_
  refine mWd (w2 := (MW 1 vs wo u h bo ta (up (up (tsM 1 ta 1 hh) 0 (ta 0)) 1 (ta 1)) (up (up ro 0 (rr 0)) 1 (rr 1)) ot Bm bk)) rfl ?_
  refine mB hT 31 rfl ?_
  refine mNf (lv2 := [(3, .int 2), (2, .int 2), (0, .ref 0), (1, .int 1)]) (st2 := [.long (hh 0), .int 2, .ref 11]) rfl (by rw [hq 0] <;> rfl) ?_
  refine mB hT 19 rfl ?_
  refine mB hT 19 rfl ?_
  refine mNf (lv2 := [(3, .int 4), (2, .int 2), (0, .ref 0), (1, .int 1)]) (st2 := [.long (ta 4), .int 4, .ref 11]) rfl rfl ?_
  refine mB hT 1 rfl ?_
  refine mWd (w2 := (MW 1 vs wo u h bo ta (up (up (up (up (up (tsM 1 ta 1 hh) 0 (ta 0)) 1 (ta 1)) 2 (hh 0)) 3 (ta 3)) 4 (ta 4)) (up (up ro 0 (rr 0)) 1 (rr 1)) ot Bm bk)) rfl ?_
  refine mB hT 18 rfl ?_
  refine mB hT 21 rfl ?_
  refine mNf (lv2 := [(3, .int 6), (2, .int 2), (0, .ref 0), (1, .int 1)]) (st2 := [.long 0, .int 6, .ref 11]) rfl rfl ?_
  refine mB hT 19 rfl ?_
  refine mB hT 1 rfl ?_
  refine mWd (w2 := (MW 1 vs wo u h bo ta (up (up (up (up (up (up (up (up (tsM 1 ta 1 hh) 0 (ta 0)) 1 (ta 1)) 2 (hh 0)) 3 (ta 3)) 4 (ta 4)) 5 (ta 5)) 6 0) 7 (ta 7)) (up (up ro 0 (rr 0)) 1 (rr 1)) ot Bm bk)) rfl ?_
  refine mB hT 18 rfl ?_
  refine mNf (lv2 := [(3, .int 8), (2, .int 2), (0, .ref 0), (1, .int 1)]) (st2 := [.long (ta 8), .int 8, .ref 11]) rfl rfl ?_
  refine mB hT 19 rfl ?_
  refine mB hT 21 rfl ?_
  refine mNf (lv2 := [(3, .int 10), (2, .int 2), (0, .ref 0), (1, .int 1)]) (st2 := [.long 0, .int 10, .ref 11]) rfl rfl ?_
  refine mB hT 1 rfl ?_
  refine mWd (w2 := (MW 1 vs wo u h bo ta (up (up (up (up (up (up (up (up (up (up (up (tsM 1 ta 1 hh) 0 (ta 0)) 1 (ta 1)) 2 (hh 0)) 3 (ta 3)) 4 (ta 4)) 5 (ta 5)) 6 0) 7 (ta 7)) 8 (ta 8)) 9 (ta 9)) 10 0) (up (up ro 0 (rr 0)) 1 (rr 1)) ot Bm bk)) rfl ?_
  refine mB hT 18 rfl ?_
  refine mB hT 19 rfl ?_
  refine mNf (lv2 := [(3, .int 12), (2, .int 2), (0, .ref 0), (1, .int 1)]) (st2 := [.long (ta 12), .int 12, .ref 11]) rfl rfl ?_
  refine mB hT 19 rfl ?_
  refine mB hT 1 rfl ?_
  refine mWd (w2 := (MW 1 vs wo u h bo ta (up (up (up (up (up (up (up (up (up (up (up (up (up (up (tsM 1 ta 1 hh) 0 (ta 0)) 1 (ta 1)) 2 (hh 0)) 3 (ta 3)) 4 (ta 4)) 5 (ta 5)) 6 0) 7 (ta 7)) 8 (ta 8)) 9 (ta 9)) 10 0) 11 (ta 11)) 12 (ta 12)) 13 (ta 13)) (up (up ro 0 (rr 0)) 1 (rr 1)) ot Bm bk)) rfl ?_
  refine mB hT 20 rfl ?_
  refine mNf (lv2 := [(3, .int 14), (2, .int 2), (0, .ref 0), (1, .int 1)]) (st2 := [.long 0, .int 14, .ref 11]) rfl rfl ?_
  refine mB hT 19 rfl ?_
  refine mB hT 14 rfl ?_
  refine mIf (fun hp => absurd hp (fun q => Int64.not_lt.mpr (lc_ge.mp q) hs)) (fun _ => ?_)
  refine mNf (lv2 := [(3, .int 16), (2, .int 2), (0, .ref 0), (1, .int 1)]) (st2 := [.int 2, .ref 12]) rfl rfl ?_
  refine mB hT 1 rfl ?_
  refine mWd (w2 := (MW 1 vs wo u h bo ta (up (up (up (up (up (up (up (up (up (up (up (up (up (up (up (up (tsM 1 ta 1 hh) 0 (ta 0)) 1 (ta 1)) 2 (hh 0)) 3 (ta 3)) 4 (ta 4)) 5 (ta 5)) 6 0) 7 (ta 7)) 8 (ta 8)) 9 (ta 9)) 10 0) 11 (ta 11)) 12 (ta 12)) 13 (ta 13)) 14 0) 15 (ta 15)) (up (up ro 0 (rr 0)) 1 (rr 1)) ot Bm bk)) rfl ?_
  refine mWd (w2 := (MW 1 vs wo u h bo ta (tsM 1 ta 2 hh) (up (up ro 0 (rr 0)) 1 (rr 1)) ot Bm bk)) rfl ?_
  refine hC.1 _ 0 [] _ _ _ _ _ (m_det) rfl rfl (Nat.le_of_ble_eq_true rfl) rfl ?_
  refine mB hT 2 rfl ?_
  refine mNf (lv2 := [(3, .int 16), (2, .int 2), (0, .ref 0), (1, .int 1)]) (st2 := [.long (rr 2), .int 2, .ref 12]) rfl (by rw [hrr 2] <;> rfl) ?_
  refine mB hT 24 rfl ?_
  refine mNf (lv2 := [(3, .int 0), (2, .int 3), (0, .ref 0), (1, .int 1)]) (st2 := [.long (ta 0), .int 0, .ref 11]) rfl rfl ?_
  refine mB hT 19 rfl ?_
  refine mB hT 1 rfl ?_
  refine mWd (w2 := (MW 1 vs wo u h bo ta (up (up (tsM 1 ta 2 hh) 0 (ta 0)) 1 (ta 1)) (up (up (up ro 0 (rr 0)) 1 (rr 1)) 2 (rr 2)) ot Bm bk)) rfl ?_
  refine mB hT 18 rfl ?_
  refine mNf (lv2 := [(3, .int 2), (2, .int 3), (0, .ref 0), (1, .int 1)]) (st2 := [.long (ta 2), .int 2, .ref 11]) rfl rfl ?_
  refine mB hT 32 rfl ?_
  refine mNf (lv2 := [(3, .int 3), (2, .int 3), (0, .ref 0), (1, .int 1)]) (st2 := [.long (hh 0), .int 3, .ref 11]) rfl (by rw [hq 0] <;> rfl) ?_
  refine mB hT 19 rfl ?_
  refine mB hT 1 rfl ?_
  refine mWd (w2 := (MW 1 vs wo u h bo ta (up (up (up (up (up (tsM 1 ta 2 hh) 0 (ta 0)) 1 (ta 1)) 2 (ta 2)) 3 (hh 0)) 4 (ta 4)) (up (up (up ro 0 (rr 0)) 1 (rr 1)) 2 (rr 2)) ot Bm bk)) rfl ?_
  refine mB hT 18 rfl ?_
  refine mNf (lv2 := [(3, .int 5), (2, .int 3), (0, .ref 0), (1, .int 1)]) (st2 := [.long (ta 5), .int 5, .ref 11]) rfl rfl ?_
  refine mB hT 19 rfl ?_
  refine mB hT 21 rfl ?_
  refine mNf (lv2 := [(3, .int 7), (2, .int 3), (0, .ref 0), (1, .int 1)]) (st2 := [.long 0, .int 7, .ref 11]) rfl rfl ?_
  refine mB hT 1 rfl ?_
  refine mWd (w2 := (MW 1 vs wo u h bo ta (up (up (up (up (up (up (up (up (tsM 1 ta 2 hh) 0 (ta 0)) 1 (ta 1)) 2 (ta 2)) 3 (hh 0)) 4 (ta 4)) 5 (ta 5)) 6 (ta 6)) 7 0) (up (up (up ro 0 (rr 0)) 1 (rr 1)) 2 (rr 2)) ot Bm bk)) rfl ?_
  refine mB hT 18 rfl ?_
  refine mB hT 19 rfl ?_
  refine mNf (lv2 := [(3, .int 9), (2, .int 3), (0, .ref 0), (1, .int 1)]) (st2 := [.long (ta 9), .int 9, .ref 11]) rfl rfl ?_
  refine mB hT 19 rfl ?_
  refine mB hT 1 rfl ?_
  refine mWd (w2 := (MW 1 vs wo u h bo ta (up (up (up (up (up (up (up (up (up (up (up (tsM 1 ta 2 hh) 0 (ta 0)) 1 (ta 1)) 2 (ta 2)) 3 (hh 0)) 4 (ta 4)) 5 (ta 5)) 6 (ta 6)) 7 0) 8 (ta 8)) 9 (ta 9)) 10 (ta 10)) (up (up (up ro 0 (rr 0)) 1 (rr 1)) 2 (rr 2)) ot Bm bk)) rfl ?_
  refine mB hT 20 rfl ?_
  refine mNf (lv2 := [(3, .int 11), (2, .int 3), (0, .ref 0), (1, .int 1)]) (st2 := [.long 0, .int 11, .ref 11]) rfl rfl ?_
  refine mB hT 19 rfl ?_
  refine mB hT 19 rfl ?_
  refine mNf (lv2 := [(3, .int 13), (2, .int 3), (0, .ref 0), (1, .int 1)]) (st2 := [.long (ta 13), .int 13, .ref 11]) rfl rfl ?_
  refine mB hT 1 rfl ?_
  refine mWd (w2 := (MW 1 vs wo u h bo ta (up (up (up (up (up (up (up (up (up (up (up (up (up (up (tsM 1 ta 2 hh) 0 (ta 0)) 1 (ta 1)) 2 (ta 2)) 3 (hh 0)) 4 (ta 4)) 5 (ta 5)) 6 (ta 6)) 7 0) 8 (ta 8)) 9 (ta 9)) 10 (ta 10)) 11 0) 12 (ta 12)) 13 (ta 13)) (up (up (up ro 0 (rr 0)) 1 (rr 1)) 2 (rr 2)) ot Bm bk)) rfl ?_
  refine mB hT 18 rfl ?_
  refine mB hT 21 rfl ?_
  refine mNf (lv2 := [(3, .int 15), (2, .int 3), (0, .ref 0), (1, .int 1)]) (st2 := [.long 0, .int 15, .ref 11]) rfl rfl ?_
  refine mB hT 14 rfl ?_
  refine mIf (fun hp => absurd hp (fun q => Int64.not_lt.mpr (lc_ge.mp q) hs)) (fun _ => ?_)
  refine mB hT 1 rfl ?_
  refine mWd (w2 := (MW 1 vs wo u h bo ta (up (up (up (up (up (up (up (up (up (up (up (up (up (up (up (up (tsM 1 ta 2 hh) 0 (ta 0)) 1 (ta 1)) 2 (ta 2)) 3 (hh 0)) 4 (ta 4)) 5 (ta 5)) 6 (ta 6)) 7 0) 8 (ta 8)) 9 (ta 9)) 10 (ta 10)) 11 0) 12 (ta 12)) 13 (ta 13)) 14 (ta 14)) 15 0) (up (up (up ro 0 (rr 0)) 1 (rr 1)) 2 (rr 2)) ot Bm bk)) rfl ?_
  refine mWd (w2 := (MW 1 vs wo u h bo ta (tsM 1 ta 3 hh) (up (up (up ro 0 (rr 0)) 1 (rr 1)) 2 (rr 2)) ot Bm bk)) rfl ?_
  refine hC.1 _ 0 [] _ _ _ _ _ (m_det) rfl rfl (Nat.le_of_ble_eq_true rfl) rfl ?_
  refine mB hT 2 rfl ?_
  refine mNf (lv2 := [(3, .int 16), (2, .int 3), (0, .ref 0), (1, .int 1)]) (st2 := [.long (rr 3), .int 3, .ref 12]) rfl (by rw [hrr 3] <;> rfl) ?_
  refine mB hT 6 rfl ?_
  exact hR _ (by decide) _ _ _ rfl rfl
set_option maxRecDepth 20000 in
theorem m_solve_1_2p {vs : Int32} {wo un h : Int64} {bo : Nat → Int32} {ta tr ro ot : Nat → Int64} {Bm : Nat → Nat → Nat → Int32} {bk : Nat → Nat → Int32} {u : Int64} {hh rr : Nat → Int64} (hs : ¬ wo < 0) (hu : u = wo) (hq : ∀ j : Nat, hh j = (bk 2 j).toInt64) (hrr : ∀ i : Nat, rr i = dtM (tsM 1 ta i hh)) : KX3_solve l D ca ad [.ref 0, .int 2] (MW 1 vs wo un h bo ta tr ro ot Bm bk) none (MW 1 vs wo u h bo ta (tsM 1 ta 3 hh) rr ot Bm bk) := by
  refine PX3_solve (Nat.le_of_ble_eq_true rfl) ?_
  intro G hT hC hR
  refine mB hT 6 rfl ?_
  refine mIf (fun _ => ?_) (fun hn => absurd (lc_ge.mpr (Int64.not_lt.mp hs)) hn)
  refine mB hT 2 rfl ?_
  refine mNf (lv2 := [(0, .ref 0), (1, .int 2)]) (st2 := [.long u, .ref 0]) rfl (by rw [hu] <;> rfl) ?_
  refine mB hT 37 rfl ?_
  refine mNf (lv2 := [(3, .int 0), (2, .int 0), (0, .ref 0), (1, .int 2)]) (st2 := [.long (hh 0), .int 0, .ref 11]) rfl (by rw [hq 0] <;> rfl) ?_
  refine mB hT 19 rfl ?_
  refine mB hT 1 rfl ?_
  refine mWd (w2 := (MW 1 vs wo u h bo ta (up (up tr 0 (hh 0)) 1 (ta 1)) ro ot Bm bk)) rfl ?_
  refine mB hT 18 rfl ?_
  refine mNf (lv2 := [(3, .int 2), (2, .int 0), (0, .ref 0), (1, .int 2)]) (st2 := [.long (ta 2), .int 2, .ref 11]) rfl rfl ?_
  refine mB hT 19 rfl ?_
  refine mB hT 21 rfl ?_
  refine mNf (lv2 := [(3, .int 4), (2, .int 0), (0, .ref 0), (1, .int 2)]) (st2 := [.long 0, .int 4, .ref 11]) rfl rfl ?_
  refine mB hT 1 rfl ?_
  refine mWd (w2 := (MW 1 vs wo u h bo ta (up (up (up (up (up tr 0 (hh 0)) 1 (ta 1)) 2 (ta 2)) 3 (ta 3)) 4 0) ro ot Bm bk)) rfl ?_
  refine mB hT 18 rfl ?_
  refine mB hT 19 rfl ?_
  refine mNf (lv2 := [(3, .int 6), (2, .int 0), (0, .ref 0), (1, .int 2)]) (st2 := [.long (ta 6), .int 6, .ref 11]) rfl rfl ?_
  refine mB hT 19 rfl ?_
  refine mB hT 1 rfl ?_
  refine mWd (w2 := (MW 1 vs wo u h bo ta (up (up (up (up (up (up (up (up tr 0 (hh 0)) 1 (ta 1)) 2 (ta 2)) 3 (ta 3)) 4 0) 5 (ta 5)) 6 (ta 6)) 7 (ta 7)) ro ot Bm bk)) rfl ?_
  refine mB hT 20 rfl ?_
  refine mNf (lv2 := [(3, .int 8), (2, .int 0), (0, .ref 0), (1, .int 2)]) (st2 := [.long 0, .int 8, .ref 11]) rfl rfl ?_
  refine mB hT 19 rfl ?_
  refine mB hT 19 rfl ?_
  refine mNf (lv2 := [(3, .int 10), (2, .int 0), (0, .ref 0), (1, .int 2)]) (st2 := [.long (ta 10), .int 10, .ref 11]) rfl rfl ?_
  refine mB hT 1 rfl ?_
  refine mWd (w2 := (MW 1 vs wo u h bo ta (up (up (up (up (up (up (up (up (up (up (up tr 0 (hh 0)) 1 (ta 1)) 2 (ta 2)) 3 (ta 3)) 4 0) 5 (ta 5)) 6 (ta 6)) 7 (ta 7)) 8 0) 9 (ta 9)) 10 (ta 10)) ro ot Bm bk)) rfl ?_
  refine mB hT 18 rfl ?_
  refine mB hT 21 rfl ?_
  refine mNf (lv2 := [(3, .int 12), (2, .int 0), (0, .ref 0), (1, .int 2)]) (st2 := [.long 0, .int 12, .ref 11]) rfl rfl ?_
  refine mB hT 19 rfl ?_
  refine mB hT 1 rfl ?_
  refine mWd (w2 := (MW 1 vs wo u h bo ta (up (up (up (up (up (up (up (up (up (up (up (up (up (up tr 0 (hh 0)) 1 (ta 1)) 2 (ta 2)) 3 (ta 3)) 4 0) 5 (ta 5)) 6 (ta 6)) 7 (ta 7)) 8 0) 9 (ta 9)) 10 (ta 10)) 11 (ta 11)) 12 0) 13 (ta 13)) ro ot Bm bk)) rfl ?_
  refine mB hT 18 rfl ?_
  refine mNf (lv2 := [(3, .int 14), (2, .int 0), (0, .ref 0), (1, .int 2)]) (st2 := [.long (ta 14), .int 14, .ref 11]) rfl rfl ?_
  refine mB hT 19 rfl ?_
  refine mB hT 14 rfl ?_
  refine mIf (fun _ => ?_) (fun hn => absurd (lc_ge.mpr (Int64.not_lt.mp hs)) hn)
  refine mNf (lv2 := [(3, .int 16), (2, .int 0), (0, .ref 0), (1, .int 2)]) (st2 := [.int 0, .ref 12]) rfl rfl ?_
  refine mB hT 1 rfl ?_
  refine mWd (w2 := (MW 1 vs wo u h bo ta (up (up (up (up (up (up (up (up (up (up (up (up (up (up (up (up tr 0 (hh 0)) 1 (ta 1)) 2 (ta 2)) 3 (ta 3)) 4 0) 5 (ta 5)) 6 (ta 6)) 7 (ta 7)) 8 0) 9 (ta 9)) 10 (ta 10)) 11 (ta 11)) 12 0) 13 (ta 13)) 14 (ta 14)) 15 (ta 15)) ro ot Bm bk)) rfl ?_
  refine mWd (w2 := (MW 1 vs wo u h bo ta (tsM 1 ta 0 hh) ro ot Bm bk)) rfl ?_
  refine hC.2 _ 0 [] _ _ _ _ _ (m_det) rfl rfl (Nat.le_of_ble_eq_true rfl) rfl ?_
  refine mNf (lv2 := [(3, .int 16), (2, .int 0), (0, .ref 0), (1, .int 2)]) (st2 := [.long (rr 0), .int 0, .ref 12]) rfl (by rw [hrr 0] <;> rfl) ?_
  refine mB hT 24 rfl ?_
  refine mNf (lv2 := [(3, .int 0), (2, .int 1), (0, .ref 0), (1, .int 2)]) (st2 := [.long (ta 0), .int 0, .ref 11]) rfl rfl ?_
  refine mB hT 32 rfl ?_
  refine mNf (lv2 := [(3, .int 1), (2, .int 1), (0, .ref 0), (1, .int 2)]) (st2 := [.long (hh 0), .int 1, .ref 11]) rfl (by rw [hq 0] <;> rfl) ?_
  refine mB hT 1 rfl ?_
  refine mWd (w2 := (MW 1 vs wo u h bo ta (up (up (tsM 1 ta 0 hh) 0 (ta 0)) 1 (hh 0)) (up ro 0 (rr 0)) ot Bm bk)) rfl ?_
  refine mB hT 18 rfl ?_
  refine mB hT 19 rfl ?_
  refine mNf (lv2 := [(3, .int 3), (2, .int 1), (0, .ref 0), (1, .int 2)]) (st2 := [.long (ta 3), .int 3, .ref 11]) rfl rfl ?_
  refine mB hT 19 rfl ?_
  refine mB hT 1 rfl ?_
  refine mWd (w2 := (MW 1 vs wo u h bo ta (up (up (up (up (up (tsM 1 ta 0 hh) 0 (ta 0)) 1 (hh 0)) 2 (ta 2)) 3 (ta 3)) 4 (ta 4)) (up ro 0 (rr 0)) ot Bm bk)) rfl ?_
  refine mB hT 20 rfl ?_
  refine mNf (lv2 := [(3, .int 5), (2, .int 1), (0, .ref 0), (1, .int 2)]) (st2 := [.long 0, .int 5, .ref 11]) rfl rfl ?_
  refine mB hT 19 rfl ?_
  refine mB hT 19 rfl ?_
  refine mNf (lv2 := [(3, .int 7), (2, .int 1), (0, .ref 0), (1, .int 2)]) (st2 := [.long (ta 7), .int 7, .ref 11]) rfl rfl ?_
  refine mB hT 1 rfl ?_
  refine mWd (w2 := (MW 1 vs wo u h bo ta (up (up (up (up (up (up (up (up (tsM 1 ta 0 hh) 0 (ta 0)) 1 (hh 0)) 2 (ta 2)) 3 (ta 3)) 4 (ta 4)) 5 0) 6 (ta 6)) 7 (ta 7)) (up ro 0 (rr 0)) ot Bm bk)) rfl ?_
  refine mB hT 18 rfl ?_
  refine mB hT 21 rfl ?_
  refine mNf (lv2 := [(3, .int 9), (2, .int 1), (0, .ref 0), (1, .int 2)]) (st2 := [.long 0, .int 9, .ref 11]) rfl rfl ?_
  refine mB hT 19 rfl ?_
  refine mB hT 1 rfl ?_
  refine mWd (w2 := (MW 1 vs wo u h bo ta (up (up (up (up (up (up (up (up (up (up (up (tsM 1 ta 0 hh) 0 (ta 0)) 1 (hh 0)) 2 (ta 2)) 3 (ta 3)) 4 (ta 4)) 5 0) 6 (ta 6)) 7 (ta 7)) 8 (ta 8)) 9 0) 10 (ta 10)) (up ro 0 (rr 0)) ot Bm bk)) rfl ?_
  refine mB hT 18 rfl ?_
  refine mNf (lv2 := [(3, .int 11), (2, .int 1), (0, .ref 0), (1, .int 2)]) (st2 := [.long (ta 11), .int 11, .ref 11]) rfl rfl ?_
  refine mB hT 19 rfl ?_
  refine mB hT 21 rfl ?_
  refine mNf (lv2 := [(3, .int 13), (2, .int 1), (0, .ref 0), (1, .int 2)]) (st2 := [.long 0, .int 13, .ref 11]) rfl rfl ?_
  refine mB hT 1 rfl ?_
  refine mWd (w2 := (MW 1 vs wo u h bo ta (up (up (up (up (up (up (up (up (up (up (up (up (up (up (tsM 1 ta 0 hh) 0 (ta 0)) 1 (hh 0)) 2 (ta 2)) 3 (ta 3)) 4 (ta 4)) 5 0) 6 (ta 6)) 7 (ta 7)) 8 (ta 8)) 9 0) 10 (ta 10)) 11 (ta 11)) 12 (ta 12)) 13 0) (up ro 0 (rr 0)) ot Bm bk)) rfl ?_
  refine mB hT 18 rfl ?_
  refine mB hT 19 rfl ?_
  refine mNf (lv2 := [(3, .int 15), (2, .int 1), (0, .ref 0), (1, .int 2)]) (st2 := [.long (ta 15), .int 15, .ref 11]) rfl rfl ?_
  refine mB hT 14 rfl ?_
  refine mIf (fun _ => ?_) (fun hn => absurd (lc_ge.mpr (Int64.not_lt.mp hs)) hn)
  refine mB hT 1 rfl ?_
  refine mWd (w2 := (MW 1 vs wo u h bo ta (up (up (up (up (up (up (up (up (up (up (up (up (up (up (up (up (tsM 1 ta 0 hh) 0 (ta 0)) 1 (hh 0)) 2 (ta 2)) 3 (ta 3)) 4 (ta 4)) 5 0) 6 (ta 6)) 7 (ta 7)) 8 (ta 8)) 9 0) 10 (ta 10)) 11 (ta 11)) 12 (ta 12)) 13 0) 14 (ta 14)) 15 (ta 15)) (up ro 0 (rr 0)) ot Bm bk)) rfl ?_
  refine mWd (w2 := (MW 1 vs wo u h bo ta (tsM 1 ta 1 hh) (up ro 0 (rr 0)) ot Bm bk)) rfl ?_
  refine hC.2 _ 0 [] _ _ _ _ _ (m_det) rfl rfl (Nat.le_of_ble_eq_true rfl) rfl ?_
  refine mNf (lv2 := [(3, .int 16), (2, .int 1), (0, .ref 0), (1, .int 2)]) (st2 := [.long (rr 1), .int 1, .ref 12]) rfl (by rw [hrr 1] <;> rfl) ?_
  refine mB hT 24 rfl ?_
  refine mNf (lv2 := [(3, .int 0), (2, .int 2), (0, .ref 0), (1, .int 2)]) (st2 := [.long (ta 0), .int 0, .ref 11]) rfl rfl ?_
  refine mB hT 19 rfl ?_
  refine mB hT 1 rfl ?_
  refine mWd (w2 := (MW 1 vs wo u h bo ta (up (up (tsM 1 ta 1 hh) 0 (ta 0)) 1 (ta 1)) (up (up ro 0 (rr 0)) 1 (rr 1)) ot Bm bk)) rfl ?_
  refine mB hT 31 rfl ?_
  refine mNf (lv2 := [(3, .int 2), (2, .int 2), (0, .ref 0), (1, .int 2)]) (st2 := [.long (hh 0), .int 2, .ref 11]) rfl (by rw [hq 0] <;> rfl) ?_
  refine mB hT 19 rfl ?_
  refine mB hT 19 rfl ?_
  refine mNf (lv2 := [(3, .int 4), (2, .int 2), (0, .ref 0), (1, .int 2)]) (st2 := [.long (ta 4), .int 4, .ref 11]) rfl rfl ?_
  refine mB hT 1 rfl ?_
  refine mWd (w2 := (MW 1 vs wo u h bo ta (up (up (up (up (up (tsM 1 ta 1 hh) 0 (ta 0)) 1 (ta 1)) 2 (hh 0)) 3 (ta 3)) 4 (ta 4)) (up (up ro 0 (rr 0)) 1 (rr 1)) ot Bm bk)) rfl ?_
  refine mB hT 18 rfl ?_
  refine mB hT 21 rfl ?_
  refine mNf (lv2 := [(3, .int 6), (2, .int 2), (0, .ref 0), (1, .int 2)]) (st2 := [.long 0, .int 6, .ref 11]) rfl rfl ?_
  refine mB hT 19 rfl ?_
  refine mB hT 1 rfl ?_
  refine mWd (w2 := (MW 1 vs wo u h bo ta (up (up (up (up (up (up (up (up (tsM 1 ta 1 hh) 0 (ta 0)) 1 (ta 1)) 2 (hh 0)) 3 (ta 3)) 4 (ta 4)) 5 (ta 5)) 6 0) 7 (ta 7)) (up (up ro 0 (rr 0)) 1 (rr 1)) ot Bm bk)) rfl ?_
  refine mB hT 18 rfl ?_
  refine mNf (lv2 := [(3, .int 8), (2, .int 2), (0, .ref 0), (1, .int 2)]) (st2 := [.long (ta 8), .int 8, .ref 11]) rfl rfl ?_
  refine mB hT 19 rfl ?_
  refine mB hT 21 rfl ?_
  refine mNf (lv2 := [(3, .int 10), (2, .int 2), (0, .ref 0), (1, .int 2)]) (st2 := [.long 0, .int 10, .ref 11]) rfl rfl ?_
  refine mB hT 1 rfl ?_
  refine mWd (w2 := (MW 1 vs wo u h bo ta (up (up (up (up (up (up (up (up (up (up (up (tsM 1 ta 1 hh) 0 (ta 0)) 1 (ta 1)) 2 (hh 0)) 3 (ta 3)) 4 (ta 4)) 5 (ta 5)) 6 0) 7 (ta 7)) 8 (ta 8)) 9 (ta 9)) 10 0) (up (up ro 0 (rr 0)) 1 (rr 1)) ot Bm bk)) rfl ?_
  refine mB hT 18 rfl ?_
  refine mB hT 19 rfl ?_
  refine mNf (lv2 := [(3, .int 12), (2, .int 2), (0, .ref 0), (1, .int 2)]) (st2 := [.long (ta 12), .int 12, .ref 11]) rfl rfl ?_
  refine mB hT 19 rfl ?_
  refine mB hT 1 rfl ?_
  refine mWd (w2 := (MW 1 vs wo u h bo ta (up (up (up (up (up (up (up (up (up (up (up (up (up (up (tsM 1 ta 1 hh) 0 (ta 0)) 1 (ta 1)) 2 (hh 0)) 3 (ta 3)) 4 (ta 4)) 5 (ta 5)) 6 0) 7 (ta 7)) 8 (ta 8)) 9 (ta 9)) 10 0) 11 (ta 11)) 12 (ta 12)) 13 (ta 13)) (up (up ro 0 (rr 0)) 1 (rr 1)) ot Bm bk)) rfl ?_
  refine mB hT 20 rfl ?_
  refine mNf (lv2 := [(3, .int 14), (2, .int 2), (0, .ref 0), (1, .int 2)]) (st2 := [.long 0, .int 14, .ref 11]) rfl rfl ?_
  refine mB hT 19 rfl ?_
  refine mB hT 14 rfl ?_
  refine mIf (fun _ => ?_) (fun hn => absurd (lc_ge.mpr (Int64.not_lt.mp hs)) hn)
  refine mNf (lv2 := [(3, .int 16), (2, .int 2), (0, .ref 0), (1, .int 2)]) (st2 := [.int 2, .ref 12]) rfl rfl ?_
  refine mB hT 1 rfl ?_
  refine mWd (w2 := (MW 1 vs wo u h bo ta (up (up (up (up (up (up (up (up (up (up (up (up (up (up (up (up (tsM 1 ta 1 hh) 0 (ta 0)) 1 (ta 1)) 2 (hh 0)) 3 (ta 3)) 4 (ta 4)) 5 (ta 5)) 6 0) 7 (ta 7)) 8 (ta 8)) 9 (ta 9)) 10 0) 11 (ta 11)) 12 (ta 12)) 13 (ta 13)) 14 0) 15 (ta 15)) (up (up ro 0 (rr 0)) 1 (rr 1)) ot Bm bk)) rfl ?_
  refine mWd (w2 := (MW 1 vs wo u h bo ta (tsM 1 ta 2 hh) (up (up ro 0 (rr 0)) 1 (rr 1)) ot Bm bk)) rfl ?_
  refine hC.2 _ 0 [] _ _ _ _ _ (m_det) rfl rfl (Nat.le_of_ble_eq_true rfl) rfl ?_
  refine mNf (lv2 := [(3, .int 16), (2, .int 2), (0, .ref 0), (1, .int 2)]) (st2 := [.long (rr 2), .int 2, .ref 12]) rfl (by rw [hrr 2] <;> rfl) ?_
  refine mB hT 24 rfl ?_
  refine mNf (lv2 := [(3, .int 0), (2, .int 3), (0, .ref 0), (1, .int 2)]) (st2 := [.long (ta 0), .int 0, .ref 11]) rfl rfl ?_
  refine mB hT 19 rfl ?_
  refine mB hT 1 rfl ?_
  refine mWd (w2 := (MW 1 vs wo u h bo ta (up (up (tsM 1 ta 2 hh) 0 (ta 0)) 1 (ta 1)) (up (up (up ro 0 (rr 0)) 1 (rr 1)) 2 (rr 2)) ot Bm bk)) rfl ?_
  refine mB hT 18 rfl ?_
  refine mNf (lv2 := [(3, .int 2), (2, .int 3), (0, .ref 0), (1, .int 2)]) (st2 := [.long (ta 2), .int 2, .ref 11]) rfl rfl ?_
  refine mB hT 32 rfl ?_
  refine mNf (lv2 := [(3, .int 3), (2, .int 3), (0, .ref 0), (1, .int 2)]) (st2 := [.long (hh 0), .int 3, .ref 11]) rfl (by rw [hq 0] <;> rfl) ?_
  refine mB hT 19 rfl ?_
  refine mB hT 1 rfl ?_
  refine mWd (w2 := (MW 1 vs wo u h bo ta (up (up (up (up (up (tsM 1 ta 2 hh) 0 (ta 0)) 1 (ta 1)) 2 (ta 2)) 3 (hh 0)) 4 (ta 4)) (up (up (up ro 0 (rr 0)) 1 (rr 1)) 2 (rr 2)) ot Bm bk)) rfl ?_
  refine mB hT 18 rfl ?_
  refine mNf (lv2 := [(3, .int 5), (2, .int 3), (0, .ref 0), (1, .int 2)]) (st2 := [.long (ta 5), .int 5, .ref 11]) rfl rfl ?_
  refine mB hT 19 rfl ?_
  refine mB hT 21 rfl ?_
  refine mNf (lv2 := [(3, .int 7), (2, .int 3), (0, .ref 0), (1, .int 2)]) (st2 := [.long 0, .int 7, .ref 11]) rfl rfl ?_
  refine mB hT 1 rfl ?_
  refine mWd (w2 := (MW 1 vs wo u h bo ta (up (up (up (up (up (up (up (up (tsM 1 ta 2 hh) 0 (ta 0)) 1 (ta 1)) 2 (ta 2)) 3 (hh 0)) 4 (ta 4)) 5 (ta 5)) 6 (ta 6)) 7 0) (up (up (up ro 0 (rr 0)) 1 (rr 1)) 2 (rr 2)) ot Bm bk)) rfl ?_
  refine mB hT 18 rfl ?_
  refine mB hT 19 rfl ?_
  refine mNf (lv2 := [(3, .int 9), (2, .int 3), (0, .ref 0), (1, .int 2)]) (st2 := [.long (ta 9), .int 9, .ref 11]) rfl rfl ?_
  refine mB hT 19 rfl ?_
  refine mB hT 1 rfl ?_
  refine mWd (w2 := (MW 1 vs wo u h bo ta (up (up (up (up (up (up (up (up (up (up (up (tsM 1 ta 2 hh) 0 (ta 0)) 1 (ta 1)) 2 (ta 2)) 3 (hh 0)) 4 (ta 4)) 5 (ta 5)) 6 (ta 6)) 7 0) 8 (ta 8)) 9 (ta 9)) 10 (ta 10)) (up (up (up ro 0 (rr 0)) 1 (rr 1)) 2 (rr 2)) ot Bm bk)) rfl ?_
  refine mB hT 20 rfl ?_
  refine mNf (lv2 := [(3, .int 11), (2, .int 3), (0, .ref 0), (1, .int 2)]) (st2 := [.long 0, .int 11, .ref 11]) rfl rfl ?_
  refine mB hT 19 rfl ?_
  refine mB hT 19 rfl ?_
  refine mNf (lv2 := [(3, .int 13), (2, .int 3), (0, .ref 0), (1, .int 2)]) (st2 := [.long (ta 13), .int 13, .ref 11]) rfl rfl ?_
  refine mB hT 1 rfl ?_
  refine mWd (w2 := (MW 1 vs wo u h bo ta (up (up (up (up (up (up (up (up (up (up (up (up (up (up (tsM 1 ta 2 hh) 0 (ta 0)) 1 (ta 1)) 2 (ta 2)) 3 (hh 0)) 4 (ta 4)) 5 (ta 5)) 6 (ta 6)) 7 0) 8 (ta 8)) 9 (ta 9)) 10 (ta 10)) 11 0) 12 (ta 12)) 13 (ta 13)) (up (up (up ro 0 (rr 0)) 1 (rr 1)) 2 (rr 2)) ot Bm bk)) rfl ?_
  refine mB hT 18 rfl ?_
  refine mB hT 21 rfl ?_
  refine mNf (lv2 := [(3, .int 15), (2, .int 3), (0, .ref 0), (1, .int 2)]) (st2 := [.long 0, .int 15, .ref 11]) rfl rfl ?_
  refine mB hT 14 rfl ?_
  refine mIf (fun _ => ?_) (fun hn => absurd (lc_ge.mpr (Int64.not_lt.mp hs)) hn)
  refine mB hT 1 rfl ?_
  refine mWd (w2 := (MW 1 vs wo u h bo ta (up (up (up (up (up (up (up (up (up (up (up (up (up (up (up (up (tsM 1 ta 2 hh) 0 (ta 0)) 1 (ta 1)) 2 (ta 2)) 3 (hh 0)) 4 (ta 4)) 5 (ta 5)) 6 (ta 6)) 7 0) 8 (ta 8)) 9 (ta 9)) 10 (ta 10)) 11 0) 12 (ta 12)) 13 (ta 13)) 14 (ta 14)) 15 0) (up (up (up ro 0 (rr 0)) 1 (rr 1)) 2 (rr 2)) ot Bm bk)) rfl ?_
  refine mWd (w2 := (MW 1 vs wo u h bo ta (tsM 1 ta 3 hh) (up (up (up ro 0 (rr 0)) 1 (rr 1)) 2 (rr 2)) ot Bm bk)) rfl ?_
  refine hC.2 _ 0 [] _ _ _ _ _ (m_det) rfl rfl (Nat.le_of_ble_eq_true rfl) rfl ?_
  refine mNf (lv2 := [(3, .int 16), (2, .int 3), (0, .ref 0), (1, .int 2)]) (st2 := [.long (rr 3), .int 3, .ref 12]) rfl (by rw [hrr 3] <;> rfl) ?_
  refine mB hT 6 rfl ?_
  exact hR _ (by decide) _ _ _ rfl rfl
set_option maxRecDepth 20000 in
theorem m_solve_1_2n {vs : Int32} {wo un h : Int64} {bo : Nat → Int32} {ta tr ro ot : Nat → Int64} {Bm : Nat → Nat → Nat → Int32} {bk : Nat → Nat → Int32} {u : Int64} {hh rr : Nat → Int64} (hs : wo < 0) (hu : u = -wo) (hq : ∀ j : Nat, hh j = (bk 2 j).toInt64) (hrr : ∀ i : Nat, rr i = -(dtM (tsM 1 ta i hh))) : KX3_solve l D ca ad [.ref 0, .int 2] (MW 1 vs wo un h bo ta tr ro ot Bm bk) none (MW 1 vs wo u h bo ta (tsM 1 ta 3 hh) rr ot Bm bk) := by
  refine PX3_solve (Nat.le_of_ble_eq_true rfl) ?_
  intro G hT hC hR
  refine mB hT 6 rfl ?_
  refine mIf (fun hp => absurd hp (fun q => Int64.not_lt.mpr (lc_ge.mp q) hs)) (fun _ => ?_)
  refine mB hT 4 rfl ?_
  refine mNf (lv2 := [(0, .ref 0), (1, .int 2)]) (st2 := [.long u, .ref 0]) rfl (by rw [hu] <;> rfl) ?_
  refine mB hT 37 rfl ?_
  refine mNf (lv2 := [(3, .int 0), (2, .int 0), (0, .ref 0), (1, .int 2)]) (st2 := [.long (hh 0), .int 0, .ref 11]) rfl (by rw [hq 0] <;> rfl) ?_
  refine mB hT 19 rfl ?_
  refine mB hT 1 rfl ?_
  refine mWd (w2 := (MW 1 vs wo u h bo ta (up (up tr 0 (hh 0)) 1 (ta 1)) ro ot Bm bk)) rfl ?_
  refine mB hT 18 rfl ?_
  refine mNf (lv2 := [(3, .int 2), (2, .int 0), (0, .ref 0), (1, .int 2)]) (st2 := [.long (ta 2), .int 2, .ref 11]) rfl rfl ?_
  refine mB hT 19 rfl ?_
  refine mB hT 21 rfl ?_
  refine mNf (lv2 := [(3, .int 4), (2, .int 0), (0, .ref 0), (1, .int 2)]) (st2 := [.long 0, .int 4, .ref 11]) rfl rfl ?_
  refine mB hT 1 rfl ?_
  refine mWd (w2 := (MW 1 vs wo u h bo ta (up (up (up (up (up tr 0 (hh 0)) 1 (ta 1)) 2 (ta 2)) 3 (ta 3)) 4 0) ro ot Bm bk)) rfl ?_
  refine mB hT 18 rfl ?_
  refine mB hT 19 rfl ?_
  refine mNf (lv2 := [(3, .int 6), (2, .int 0), (0, .ref 0), (1, .int 2)]) (st2 := [.long (ta 6), .int 6, .ref 11]) rfl rfl ?_
  refine mB hT 19 rfl ?_
  refine mB hT 1 rfl ?_
  refine mWd (w2 := (MW 1 vs wo u h bo ta (up (up (up (up (up (up (up (up tr 0 (hh 0)) 1 (ta 1)) 2 (ta 2)) 3 (ta 3)) 4 0) 5 (ta 5)) 6 (ta 6)) 7 (ta 7)) ro ot Bm bk)) rfl ?_
  refine mB hT 20 rfl ?_
  refine mNf (lv2 := [(3, .int 8), (2, .int 0), (0, .ref 0), (1, .int 2)]) (st2 := [.long 0, .int 8, .ref 11]) rfl rfl ?_
  refine mB hT 19 rfl ?_
  refine mB hT 19 rfl ?_
  refine mNf (lv2 := [(3, .int 10), (2, .int 0), (0, .ref 0), (1, .int 2)]) (st2 := [.long (ta 10), .int 10, .ref 11]) rfl rfl ?_
  refine mB hT 1 rfl ?_
  refine mWd (w2 := (MW 1 vs wo u h bo ta (up (up (up (up (up (up (up (up (up (up (up tr 0 (hh 0)) 1 (ta 1)) 2 (ta 2)) 3 (ta 3)) 4 0) 5 (ta 5)) 6 (ta 6)) 7 (ta 7)) 8 0) 9 (ta 9)) 10 (ta 10)) ro ot Bm bk)) rfl ?_
  refine mB hT 18 rfl ?_
  refine mB hT 21 rfl ?_
  refine mNf (lv2 := [(3, .int 12), (2, .int 0), (0, .ref 0), (1, .int 2)]) (st2 := [.long 0, .int 12, .ref 11]) rfl rfl ?_
  refine mB hT 19 rfl ?_
  refine mB hT 1 rfl ?_
  refine mWd (w2 := (MW 1 vs wo u h bo ta (up (up (up (up (up (up (up (up (up (up (up (up (up (up tr 0 (hh 0)) 1 (ta 1)) 2 (ta 2)) 3 (ta 3)) 4 0) 5 (ta 5)) 6 (ta 6)) 7 (ta 7)) 8 0) 9 (ta 9)) 10 (ta 10)) 11 (ta 11)) 12 0) 13 (ta 13)) ro ot Bm bk)) rfl ?_
  refine mB hT 18 rfl ?_
  refine mNf (lv2 := [(3, .int 14), (2, .int 0), (0, .ref 0), (1, .int 2)]) (st2 := [.long (ta 14), .int 14, .ref 11]) rfl rfl ?_
  refine mB hT 19 rfl ?_
  refine mB hT 14 rfl ?_
  refine mIf (fun hp => absurd hp (fun q => Int64.not_lt.mpr (lc_ge.mp q) hs)) (fun _ => ?_)
  refine mNf (lv2 := [(3, .int 16), (2, .int 0), (0, .ref 0), (1, .int 2)]) (st2 := [.int 0, .ref 12]) rfl rfl ?_
  refine mB hT 1 rfl ?_
  refine mWd (w2 := (MW 1 vs wo u h bo ta (up (up (up (up (up (up (up (up (up (up (up (up (up (up (up (up tr 0 (hh 0)) 1 (ta 1)) 2 (ta 2)) 3 (ta 3)) 4 0) 5 (ta 5)) 6 (ta 6)) 7 (ta 7)) 8 0) 9 (ta 9)) 10 (ta 10)) 11 (ta 11)) 12 0) 13 (ta 13)) 14 (ta 14)) 15 (ta 15)) ro ot Bm bk)) rfl ?_
  refine mWd (w2 := (MW 1 vs wo u h bo ta (tsM 1 ta 0 hh) ro ot Bm bk)) rfl ?_
  refine hC.1 _ 0 [] _ _ _ _ _ (m_det) rfl rfl (Nat.le_of_ble_eq_true rfl) rfl ?_
  refine mB hT 2 rfl ?_
  refine mNf (lv2 := [(3, .int 16), (2, .int 0), (0, .ref 0), (1, .int 2)]) (st2 := [.long (rr 0), .int 0, .ref 12]) rfl (by rw [hrr 0] <;> rfl) ?_
  refine mB hT 24 rfl ?_
  refine mNf (lv2 := [(3, .int 0), (2, .int 1), (0, .ref 0), (1, .int 2)]) (st2 := [.long (ta 0), .int 0, .ref 11]) rfl rfl ?_
  refine mB hT 32 rfl ?_
  refine mNf (lv2 := [(3, .int 1), (2, .int 1), (0, .ref 0), (1, .int 2)]) (st2 := [.long (hh 0), .int 1, .ref 11]) rfl (by rw [hq 0] <;> rfl) ?_
  refine mB hT 1 rfl ?_
  refine mWd (w2 := (MW 1 vs wo u h bo ta (up (up (tsM 1 ta 0 hh) 0 (ta 0)) 1 (hh 0)) (up ro 0 (rr 0)) ot Bm bk)) rfl ?_
  refine mB hT 18 rfl ?_
  refine mB hT 19 rfl ?_
  refine mNf (lv2 := [(3, .int 3), (2, .int 1), (0, .ref 0), (1, .int 2)]) (st2 := [.long (ta 3), .int 3, .ref 11]) rfl rfl ?_
  refine mB hT 19 rfl ?_
  refine mB hT 1 rfl ?_
  refine mWd (w2 := (MW 1 vs wo u h bo ta (up (up (up (up (up (tsM 1 ta 0 hh) 0 (ta 0)) 1 (hh 0)) 2 (ta 2)) 3 (ta 3)) 4 (ta 4)) (up ro 0 (rr 0)) ot Bm bk)) rfl ?_
  refine mB hT 20 rfl ?_
  refine mNf (lv2 := [(3, .int 5), (2, .int 1), (0, .ref 0), (1, .int 2)]) (st2 := [.long 0, .int 5, .ref 11]) rfl rfl ?_
  refine mB hT 19 rfl ?_
  refine mB hT 19 rfl ?_
  refine mNf (lv2 := [(3, .int 7), (2, .int 1), (0, .ref 0), (1, .int 2)]) (st2 := [.long (ta 7), .int 7, .ref 11]) rfl rfl ?_
  refine mB hT 1 rfl ?_
  refine mWd (w2 := (MW 1 vs wo u h bo ta (up (up (up (up (up (up (up (up (tsM 1 ta 0 hh) 0 (ta 0)) 1 (hh 0)) 2 (ta 2)) 3 (ta 3)) 4 (ta 4)) 5 0) 6 (ta 6)) 7 (ta 7)) (up ro 0 (rr 0)) ot Bm bk)) rfl ?_
  refine mB hT 18 rfl ?_
  refine mB hT 21 rfl ?_
  refine mNf (lv2 := [(3, .int 9), (2, .int 1), (0, .ref 0), (1, .int 2)]) (st2 := [.long 0, .int 9, .ref 11]) rfl rfl ?_
  refine mB hT 19 rfl ?_
  refine mB hT 1 rfl ?_
  refine mWd (w2 := (MW 1 vs wo u h bo ta (up (up (up (up (up (up (up (up (up (up (up (tsM 1 ta 0 hh) 0 (ta 0)) 1 (hh 0)) 2 (ta 2)) 3 (ta 3)) 4 (ta 4)) 5 0) 6 (ta 6)) 7 (ta 7)) 8 (ta 8)) 9 0) 10 (ta 10)) (up ro 0 (rr 0)) ot Bm bk)) rfl ?_
  refine mB hT 18 rfl ?_
  refine mNf (lv2 := [(3, .int 11), (2, .int 1), (0, .ref 0), (1, .int 2)]) (st2 := [.long (ta 11), .int 11, .ref 11]) rfl rfl ?_
  refine mB hT 19 rfl ?_
  refine mB hT 21 rfl ?_
  refine mNf (lv2 := [(3, .int 13), (2, .int 1), (0, .ref 0), (1, .int 2)]) (st2 := [.long 0, .int 13, .ref 11]) rfl rfl ?_
  refine mB hT 1 rfl ?_
  refine mWd (w2 := (MW 1 vs wo u h bo ta (up (up (up (up (up (up (up (up (up (up (up (up (up (up (tsM 1 ta 0 hh) 0 (ta 0)) 1 (hh 0)) 2 (ta 2)) 3 (ta 3)) 4 (ta 4)) 5 0) 6 (ta 6)) 7 (ta 7)) 8 (ta 8)) 9 0) 10 (ta 10)) 11 (ta 11)) 12 (ta 12)) 13 0) (up ro 0 (rr 0)) ot Bm bk)) rfl ?_
  refine mB hT 18 rfl ?_
  refine mB hT 19 rfl ?_
  refine mNf (lv2 := [(3, .int 15), (2, .int 1), (0, .ref 0), (1, .int 2)]) (st2 := [.long (ta 15), .int 15, .ref 11]) rfl rfl ?_
  refine mB hT 14 rfl ?_
  refine mIf (fun hp => absurd hp (fun q => Int64.not_lt.mpr (lc_ge.mp q) hs)) (fun _ => ?_)
  refine mB hT 1 rfl ?_
  refine mWd (w2 := (MW 1 vs wo u h bo ta (up (up (up (up (up (up (up (up (up (up (up (up (up (up (up (up (tsM 1 ta 0 hh) 0 (ta 0)) 1 (hh 0)) 2 (ta 2)) 3 (ta 3)) 4 (ta 4)) 5 0) 6 (ta 6)) 7 (ta 7)) 8 (ta 8)) 9 0) 10 (ta 10)) 11 (ta 11)) 12 (ta 12)) 13 0) 14 (ta 14)) 15 (ta 15)) (up ro 0 (rr 0)) ot Bm bk)) rfl ?_
  refine mWd (w2 := (MW 1 vs wo u h bo ta (tsM 1 ta 1 hh) (up ro 0 (rr 0)) ot Bm bk)) rfl ?_
  refine hC.1 _ 0 [] _ _ _ _ _ (m_det) rfl rfl (Nat.le_of_ble_eq_true rfl) rfl ?_
  refine mB hT 2 rfl ?_
  refine mNf (lv2 := [(3, .int 16), (2, .int 1), (0, .ref 0), (1, .int 2)]) (st2 := [.long (rr 1), .int 1, .ref 12]) rfl (by rw [hrr 1] <;> rfl) ?_
  refine mB hT 24 rfl ?_
  refine mNf (lv2 := [(3, .int 0), (2, .int 2), (0, .ref 0), (1, .int 2)]) (st2 := [.long (ta 0), .int 0, .ref 11]) rfl rfl ?_
  refine mB hT 19 rfl ?_
  refine mB hT 1 rfl ?_
  refine mWd (w2 := (MW 1 vs wo u h bo ta (up (up (tsM 1 ta 1 hh) 0 (ta 0)) 1 (ta 1)) (up (up ro 0 (rr 0)) 1 (rr 1)) ot Bm bk)) rfl ?_
  refine mB hT 31 rfl ?_
  refine mNf (lv2 := [(3, .int 2), (2, .int 2), (0, .ref 0), (1, .int 2)]) (st2 := [.long (hh 0), .int 2, .ref 11]) rfl (by rw [hq 0] <;> rfl) ?_
  refine mB hT 19 rfl ?_
  refine mB hT 19 rfl ?_
  refine mNf (lv2 := [(3, .int 4), (2, .int 2), (0, .ref 0), (1, .int 2)]) (st2 := [.long (ta 4), .int 4, .ref 11]) rfl rfl ?_
  refine mB hT 1 rfl ?_
  refine mWd (w2 := (MW 1 vs wo u h bo ta (up (up (up (up (up (tsM 1 ta 1 hh) 0 (ta 0)) 1 (ta 1)) 2 (hh 0)) 3 (ta 3)) 4 (ta 4)) (up (up ro 0 (rr 0)) 1 (rr 1)) ot Bm bk)) rfl ?_
  refine mB hT 18 rfl ?_
  refine mB hT 21 rfl ?_
  refine mNf (lv2 := [(3, .int 6), (2, .int 2), (0, .ref 0), (1, .int 2)]) (st2 := [.long 0, .int 6, .ref 11]) rfl rfl ?_
  refine mB hT 19 rfl ?_
  refine mB hT 1 rfl ?_
  refine mWd (w2 := (MW 1 vs wo u h bo ta (up (up (up (up (up (up (up (up (tsM 1 ta 1 hh) 0 (ta 0)) 1 (ta 1)) 2 (hh 0)) 3 (ta 3)) 4 (ta 4)) 5 (ta 5)) 6 0) 7 (ta 7)) (up (up ro 0 (rr 0)) 1 (rr 1)) ot Bm bk)) rfl ?_
  refine mB hT 18 rfl ?_
  refine mNf (lv2 := [(3, .int 8), (2, .int 2), (0, .ref 0), (1, .int 2)]) (st2 := [.long (ta 8), .int 8, .ref 11]) rfl rfl ?_
  refine mB hT 19 rfl ?_
  refine mB hT 21 rfl ?_
  refine mNf (lv2 := [(3, .int 10), (2, .int 2), (0, .ref 0), (1, .int 2)]) (st2 := [.long 0, .int 10, .ref 11]) rfl rfl ?_
  refine mB hT 1 rfl ?_
  refine mWd (w2 := (MW 1 vs wo u h bo ta (up (up (up (up (up (up (up (up (up (up (up (tsM 1 ta 1 hh) 0 (ta 0)) 1 (ta 1)) 2 (hh 0)) 3 (ta 3)) 4 (ta 4)) 5 (ta 5)) 6 0) 7 (ta 7)) 8 (ta 8)) 9 (ta 9)) 10 0) (up (up ro 0 (rr 0)) 1 (rr 1)) ot Bm bk)) rfl ?_
  refine mB hT 18 rfl ?_
  refine mB hT 19 rfl ?_
  refine mNf (lv2 := [(3, .int 12), (2, .int 2), (0, .ref 0), (1, .int 2)]) (st2 := [.long (ta 12), .int 12, .ref 11]) rfl rfl ?_
  refine mB hT 19 rfl ?_
  refine mB hT 1 rfl ?_
  refine mWd (w2 := (MW 1 vs wo u h bo ta (up (up (up (up (up (up (up (up (up (up (up (up (up (up (tsM 1 ta 1 hh) 0 (ta 0)) 1 (ta 1)) 2 (hh 0)) 3 (ta 3)) 4 (ta 4)) 5 (ta 5)) 6 0) 7 (ta 7)) 8 (ta 8)) 9 (ta 9)) 10 0) 11 (ta 11)) 12 (ta 12)) 13 (ta 13)) (up (up ro 0 (rr 0)) 1 (rr 1)) ot Bm bk)) rfl ?_
  refine mB hT 20 rfl ?_
  refine mNf (lv2 := [(3, .int 14), (2, .int 2), (0, .ref 0), (1, .int 2)]) (st2 := [.long 0, .int 14, .ref 11]) rfl rfl ?_
  refine mB hT 19 rfl ?_
  refine mB hT 14 rfl ?_
  refine mIf (fun hp => absurd hp (fun q => Int64.not_lt.mpr (lc_ge.mp q) hs)) (fun _ => ?_)
  refine mNf (lv2 := [(3, .int 16), (2, .int 2), (0, .ref 0), (1, .int 2)]) (st2 := [.int 2, .ref 12]) rfl rfl ?_
  refine mB hT 1 rfl ?_
  refine mWd (w2 := (MW 1 vs wo u h bo ta (up (up (up (up (up (up (up (up (up (up (up (up (up (up (up (up (tsM 1 ta 1 hh) 0 (ta 0)) 1 (ta 1)) 2 (hh 0)) 3 (ta 3)) 4 (ta 4)) 5 (ta 5)) 6 0) 7 (ta 7)) 8 (ta 8)) 9 (ta 9)) 10 0) 11 (ta 11)) 12 (ta 12)) 13 (ta 13)) 14 0) 15 (ta 15)) (up (up ro 0 (rr 0)) 1 (rr 1)) ot Bm bk)) rfl ?_
  refine mWd (w2 := (MW 1 vs wo u h bo ta (tsM 1 ta 2 hh) (up (up ro 0 (rr 0)) 1 (rr 1)) ot Bm bk)) rfl ?_
  refine hC.1 _ 0 [] _ _ _ _ _ (m_det) rfl rfl (Nat.le_of_ble_eq_true rfl) rfl ?_
  refine mB hT 2 rfl ?_
  refine mNf (lv2 := [(3, .int 16), (2, .int 2), (0, .ref 0), (1, .int 2)]) (st2 := [.long (rr 2), .int 2, .ref 12]) rfl (by rw [hrr 2] <;> rfl) ?_
  refine mB hT 24 rfl ?_
  refine mNf (lv2 := [(3, .int 0), (2, .int 3), (0, .ref 0), (1, .int 2)]) (st2 := [.long (ta 0), .int 0, .ref 11]) rfl rfl ?_
  refine mB hT 19 rfl ?_
  refine mB hT 1 rfl ?_
  refine mWd (w2 := (MW 1 vs wo u h bo ta (up (up (tsM 1 ta 2 hh) 0 (ta 0)) 1 (ta 1)) (up (up (up ro 0 (rr 0)) 1 (rr 1)) 2 (rr 2)) ot Bm bk)) rfl ?_
  refine mB hT 18 rfl ?_
  refine mNf (lv2 := [(3, .int 2), (2, .int 3), (0, .ref 0), (1, .int 2)]) (st2 := [.long (ta 2), .int 2, .ref 11]) rfl rfl ?_
  refine mB hT 32 rfl ?_
  refine mNf (lv2 := [(3, .int 3), (2, .int 3), (0, .ref 0), (1, .int 2)]) (st2 := [.long (hh 0), .int 3, .ref 11]) rfl (by rw [hq 0] <;> rfl) ?_
  refine mB hT 19 rfl ?_
  refine mB hT 1 rfl ?_
  refine mWd (w2 := (MW 1 vs wo u h bo ta (up (up (up (up (up (tsM 1 ta 2 hh) 0 (ta 0)) 1 (ta 1)) 2 (ta 2)) 3 (hh 0)) 4 (ta 4)) (up (up (up ro 0 (rr 0)) 1 (rr 1)) 2 (rr 2)) ot Bm bk)) rfl ?_
  refine mB hT 18 rfl ?_
  refine mNf (lv2 := [(3, .int 5), (2, .int 3), (0, .ref 0), (1, .int 2)]) (st2 := [.long (ta 5), .int 5, .ref 11]) rfl rfl ?_
  refine mB hT 19 rfl ?_
  refine mB hT 21 rfl ?_
  refine mNf (lv2 := [(3, .int 7), (2, .int 3), (0, .ref 0), (1, .int 2)]) (st2 := [.long 0, .int 7, .ref 11]) rfl rfl ?_
  refine mB hT 1 rfl ?_
  refine mWd (w2 := (MW 1 vs wo u h bo ta (up (up (up (up (up (up (up (up (tsM 1 ta 2 hh) 0 (ta 0)) 1 (ta 1)) 2 (ta 2)) 3 (hh 0)) 4 (ta 4)) 5 (ta 5)) 6 (ta 6)) 7 0) (up (up (up ro 0 (rr 0)) 1 (rr 1)) 2 (rr 2)) ot Bm bk)) rfl ?_
  refine mB hT 18 rfl ?_
  refine mB hT 19 rfl ?_
  refine mNf (lv2 := [(3, .int 9), (2, .int 3), (0, .ref 0), (1, .int 2)]) (st2 := [.long (ta 9), .int 9, .ref 11]) rfl rfl ?_
  refine mB hT 19 rfl ?_
  refine mB hT 1 rfl ?_
  refine mWd (w2 := (MW 1 vs wo u h bo ta (up (up (up (up (up (up (up (up (up (up (up (tsM 1 ta 2 hh) 0 (ta 0)) 1 (ta 1)) 2 (ta 2)) 3 (hh 0)) 4 (ta 4)) 5 (ta 5)) 6 (ta 6)) 7 0) 8 (ta 8)) 9 (ta 9)) 10 (ta 10)) (up (up (up ro 0 (rr 0)) 1 (rr 1)) 2 (rr 2)) ot Bm bk)) rfl ?_
  refine mB hT 20 rfl ?_
  refine mNf (lv2 := [(3, .int 11), (2, .int 3), (0, .ref 0), (1, .int 2)]) (st2 := [.long 0, .int 11, .ref 11]) rfl rfl ?_
  refine mB hT 19 rfl ?_
  refine mB hT 19 rfl ?_
  refine mNf (lv2 := [(3, .int 13), (2, .int 3), (0, .ref 0), (1, .int 2)]) (st2 := [.long (ta 13), .int 13, .ref 11]) rfl rfl ?_
  refine mB hT 1 rfl ?_
  refine mWd (w2 := (MW 1 vs wo u h bo ta (up (up (up (up (up (up (up (up (up (up (up (up (up (up (tsM 1 ta 2 hh) 0 (ta 0)) 1 (ta 1)) 2 (ta 2)) 3 (hh 0)) 4 (ta 4)) 5 (ta 5)) 6 (ta 6)) 7 0) 8 (ta 8)) 9 (ta 9)) 10 (ta 10)) 11 0) 12 (ta 12)) 13 (ta 13)) (up (up (up ro 0 (rr 0)) 1 (rr 1)) 2 (rr 2)) ot Bm bk)) rfl ?_
  refine mB hT 18 rfl ?_
  refine mB hT 21 rfl ?_
  refine mNf (lv2 := [(3, .int 15), (2, .int 3), (0, .ref 0), (1, .int 2)]) (st2 := [.long 0, .int 15, .ref 11]) rfl rfl ?_
  refine mB hT 14 rfl ?_
  refine mIf (fun hp => absurd hp (fun q => Int64.not_lt.mpr (lc_ge.mp q) hs)) (fun _ => ?_)
  refine mB hT 1 rfl ?_
  refine mWd (w2 := (MW 1 vs wo u h bo ta (up (up (up (up (up (up (up (up (up (up (up (up (up (up (up (up (tsM 1 ta 2 hh) 0 (ta 0)) 1 (ta 1)) 2 (ta 2)) 3 (hh 0)) 4 (ta 4)) 5 (ta 5)) 6 (ta 6)) 7 0) 8 (ta 8)) 9 (ta 9)) 10 (ta 10)) 11 0) 12 (ta 12)) 13 (ta 13)) 14 (ta 14)) 15 0) (up (up (up ro 0 (rr 0)) 1 (rr 1)) 2 (rr 2)) ot Bm bk)) rfl ?_
  refine mWd (w2 := (MW 1 vs wo u h bo ta (tsM 1 ta 3 hh) (up (up (up ro 0 (rr 0)) 1 (rr 1)) 2 (rr 2)) ot Bm bk)) rfl ?_
  refine hC.1 _ 0 [] _ _ _ _ _ (m_det) rfl rfl (Nat.le_of_ble_eq_true rfl) rfl ?_
  refine mB hT 2 rfl ?_
  refine mNf (lv2 := [(3, .int 16), (2, .int 3), (0, .ref 0), (1, .int 2)]) (st2 := [.long (rr 3), .int 3, .ref 12]) rfl (by rw [hrr 3] <;> rfl) ?_
  refine mB hT 6 rfl ?_
  exact hR _ (by decide) _ _ _ rfl rfl
set_option maxRecDepth 20000 in
theorem m_solve_1_3p {vs : Int32} {wo un h : Int64} {bo : Nat → Int32} {ta tr ro ot : Nat → Int64} {Bm : Nat → Nat → Nat → Int32} {bk : Nat → Nat → Int32} {u : Int64} {hh rr : Nat → Int64} (hs : ¬ wo < 0) (hu : u = wo) (hq : ∀ j : Nat, hh j = (bk 3 j).toInt64) (hrr : ∀ i : Nat, rr i = dtM (tsM 1 ta i hh)) : KX3_solve l D ca ad [.ref 0, .int 3] (MW 1 vs wo un h bo ta tr ro ot Bm bk) none (MW 1 vs wo u h bo ta (tsM 1 ta 3 hh) rr ot Bm bk) := by
  refine PX3_solve (Nat.le_of_ble_eq_true rfl) ?_
  intro G hT hC hR
  refine mB hT 6 rfl ?_
  refine mIf (fun _ => ?_) (fun hn => absurd (lc_ge.mpr (Int64.not_lt.mp hs)) hn)
  refine mB hT 2 rfl ?_
  refine mNf (lv2 := [(0, .ref 0), (1, .int 3)]) (st2 := [.long u, .ref 0]) rfl (by rw [hu] <;> rfl) ?_
  refine mB hT 37 rfl ?_
  refine mNf (lv2 := [(3, .int 0), (2, .int 0), (0, .ref 0), (1, .int 3)]) (st2 := [.long (hh 0), .int 0, .ref 11]) rfl (by rw [hq 0] <;> rfl) ?_
  refine mB hT 19 rfl ?_
  refine mB hT 1 rfl ?_
  refine mWd (w2 := (MW 1 vs wo u h bo ta (up (up tr 0 (hh 0)) 1 (ta 1)) ro ot Bm bk)) rfl ?_
  refine mB hT 18 rfl ?_
  refine mNf (lv2 := [(3, .int 2), (2, .int 0), (0, .ref 0), (1, .int 3)]) (st2 := [.long (ta 2), .int 2, .ref 11]) rfl rfl ?_
  refine mB hT 19 rfl ?_
  refine mB hT 21 rfl ?_
  refine mNf (lv2 := [(3, .int 4), (2, .int 0), (0, .ref 0), (1, .int 3)]) (st2 := [.long 0, .int 4, .ref 11]) rfl rfl ?_
  refine mB hT 1 rfl ?_
  refine mWd (w2 := (MW 1 vs wo u h bo ta (up (up (up (up (up tr 0 (hh 0)) 1 (ta 1)) 2 (ta 2)) 3 (ta 3)) 4 0) ro ot Bm bk)) rfl ?_
  refine mB hT 18 rfl ?_
  refine mB hT 19 rfl ?_
  refine mNf (lv2 := [(3, .int 6), (2, .int 0), (0, .ref 0), (1, .int 3)]) (st2 := [.long (ta 6), .int 6, .ref 11]) rfl rfl ?_
  refine mB hT 19 rfl ?_
  refine mB hT 1 rfl ?_
  refine mWd (w2 := (MW 1 vs wo u h bo ta (up (up (up (up (up (up (up (up tr 0 (hh 0)) 1 (ta 1)) 2 (ta 2)) 3 (ta 3)) 4 0) 5 (ta 5)) 6 (ta 6)) 7 (ta 7)) ro ot Bm bk)) rfl ?_
  refine mB hT 20 rfl ?_
  refine mNf (lv2 := [(3, .int 8), (2, .int 0), (0, .ref 0), (1, .int 3)]) (st2 := [.long 0, .int 8, .ref 11]) rfl rfl ?_
  refine mB hT 19 rfl ?_
  refine mB hT 19 rfl ?_
  refine mNf (lv2 := [(3, .int 10), (2, .int 0), (0, .ref 0), (1, .int 3)]) (st2 := [.long (ta 10), .int 10, .ref 11]) rfl rfl ?_
  refine mB hT 1 rfl ?_
  refine mWd (w2 := (MW 1 vs wo u h bo ta (up (up (up (up (up (up (up (up (up (up (up tr 0 (hh 0)) 1 (ta 1)) 2 (ta 2)) 3 (ta 3)) 4 0) 5 (ta 5)) 6 (ta 6)) 7 (ta 7)) 8 0) 9 (ta 9)) 10 (ta 10)) ro ot Bm bk)) rfl ?_
  refine mB hT 18 rfl ?_
  refine mB hT 21 rfl ?_
  refine mNf (lv2 := [(3, .int 12), (2, .int 0), (0, .ref 0), (1, .int 3)]) (st2 := [.long 0, .int 12, .ref 11]) rfl rfl ?_
  refine mB hT 19 rfl ?_
  refine mB hT 1 rfl ?_
  refine mWd (w2 := (MW 1 vs wo u h bo ta (up (up (up (up (up (up (up (up (up (up (up (up (up (up tr 0 (hh 0)) 1 (ta 1)) 2 (ta 2)) 3 (ta 3)) 4 0) 5 (ta 5)) 6 (ta 6)) 7 (ta 7)) 8 0) 9 (ta 9)) 10 (ta 10)) 11 (ta 11)) 12 0) 13 (ta 13)) ro ot Bm bk)) rfl ?_
  refine mB hT 18 rfl ?_
  refine mNf (lv2 := [(3, .int 14), (2, .int 0), (0, .ref 0), (1, .int 3)]) (st2 := [.long (ta 14), .int 14, .ref 11]) rfl rfl ?_
  refine mB hT 19 rfl ?_
  refine mB hT 14 rfl ?_
  refine mIf (fun _ => ?_) (fun hn => absurd (lc_ge.mpr (Int64.not_lt.mp hs)) hn)
  refine mNf (lv2 := [(3, .int 16), (2, .int 0), (0, .ref 0), (1, .int 3)]) (st2 := [.int 0, .ref 12]) rfl rfl ?_
  refine mB hT 1 rfl ?_
  refine mWd (w2 := (MW 1 vs wo u h bo ta (up (up (up (up (up (up (up (up (up (up (up (up (up (up (up (up tr 0 (hh 0)) 1 (ta 1)) 2 (ta 2)) 3 (ta 3)) 4 0) 5 (ta 5)) 6 (ta 6)) 7 (ta 7)) 8 0) 9 (ta 9)) 10 (ta 10)) 11 (ta 11)) 12 0) 13 (ta 13)) 14 (ta 14)) 15 (ta 15)) ro ot Bm bk)) rfl ?_
  refine mWd (w2 := (MW 1 vs wo u h bo ta (tsM 1 ta 0 hh) ro ot Bm bk)) rfl ?_
  refine hC.2 _ 0 [] _ _ _ _ _ (m_det) rfl rfl (Nat.le_of_ble_eq_true rfl) rfl ?_
  refine mNf (lv2 := [(3, .int 16), (2, .int 0), (0, .ref 0), (1, .int 3)]) (st2 := [.long (rr 0), .int 0, .ref 12]) rfl (by rw [hrr 0] <;> rfl) ?_
  refine mB hT 24 rfl ?_
  refine mNf (lv2 := [(3, .int 0), (2, .int 1), (0, .ref 0), (1, .int 3)]) (st2 := [.long (ta 0), .int 0, .ref 11]) rfl rfl ?_
  refine mB hT 32 rfl ?_
  refine mNf (lv2 := [(3, .int 1), (2, .int 1), (0, .ref 0), (1, .int 3)]) (st2 := [.long (hh 0), .int 1, .ref 11]) rfl (by rw [hq 0] <;> rfl) ?_
  refine mB hT 1 rfl ?_
  refine mWd (w2 := (MW 1 vs wo u h bo ta (up (up (tsM 1 ta 0 hh) 0 (ta 0)) 1 (hh 0)) (up ro 0 (rr 0)) ot Bm bk)) rfl ?_
  refine mB hT 18 rfl ?_
  refine mB hT 19 rfl ?_
  refine mNf (lv2 := [(3, .int 3), (2, .int 1), (0, .ref 0), (1, .int 3)]) (st2 := [.long (ta 3), .int 3, .ref 11]) rfl rfl ?_
  refine mB hT 19 rfl ?_
  refine mB hT 1 rfl ?_
  refine mWd (w2 := (MW 1 vs wo u h bo ta (up (up (up (up (up (tsM 1 ta 0 hh) 0 (ta 0)) 1 (hh 0)) 2 (ta 2)) 3 (ta 3)) 4 (ta 4)) (up ro 0 (rr 0)) ot Bm bk)) rfl ?_
  refine mB hT 20 rfl ?_
  refine mNf (lv2 := [(3, .int 5), (2, .int 1), (0, .ref 0), (1, .int 3)]) (st2 := [.long 0, .int 5, .ref 11]) rfl rfl ?_
  refine mB hT 19 rfl ?_
  refine mB hT 19 rfl ?_
  refine mNf (lv2 := [(3, .int 7), (2, .int 1), (0, .ref 0), (1, .int 3)]) (st2 := [.long (ta 7), .int 7, .ref 11]) rfl rfl ?_
  refine mB hT 1 rfl ?_
  refine mWd (w2 := (MW 1 vs wo u h bo ta (up (up (up (up (up (up (up (up (tsM 1 ta 0 hh) 0 (ta 0)) 1 (hh 0)) 2 (ta 2)) 3 (ta 3)) 4 (ta 4)) 5 0) 6 (ta 6)) 7 (ta 7)) (up ro 0 (rr 0)) ot Bm bk)) rfl ?_
  refine mB hT 18 rfl ?_
  refine mB hT 21 rfl ?_
  refine mNf (lv2 := [(3, .int 9), (2, .int 1), (0, .ref 0), (1, .int 3)]) (st2 := [.long 0, .int 9, .ref 11]) rfl rfl ?_
  refine mB hT 19 rfl ?_
  refine mB hT 1 rfl ?_
  refine mWd (w2 := (MW 1 vs wo u h bo ta (up (up (up (up (up (up (up (up (up (up (up (tsM 1 ta 0 hh) 0 (ta 0)) 1 (hh 0)) 2 (ta 2)) 3 (ta 3)) 4 (ta 4)) 5 0) 6 (ta 6)) 7 (ta 7)) 8 (ta 8)) 9 0) 10 (ta 10)) (up ro 0 (rr 0)) ot Bm bk)) rfl ?_
  refine mB hT 18 rfl ?_
  refine mNf (lv2 := [(3, .int 11), (2, .int 1), (0, .ref 0), (1, .int 3)]) (st2 := [.long (ta 11), .int 11, .ref 11]) rfl rfl ?_
  refine mB hT 19 rfl ?_
  refine mB hT 21 rfl ?_
  refine mNf (lv2 := [(3, .int 13), (2, .int 1), (0, .ref 0), (1, .int 3)]) (st2 := [.long 0, .int 13, .ref 11]) rfl rfl ?_
  refine mB hT 1 rfl ?_
  refine mWd (w2 := (MW 1 vs wo u h bo ta (up (up (up (up (up (up (up (up (up (up (up (up (up (up (tsM 1 ta 0 hh) 0 (ta 0)) 1 (hh 0)) 2 (ta 2)) 3 (ta 3)) 4 (ta 4)) 5 0) 6 (ta 6)) 7 (ta 7)) 8 (ta 8)) 9 0) 10 (ta 10)) 11 (ta 11)) 12 (ta 12)) 13 0) (up ro 0 (rr 0)) ot Bm bk)) rfl ?_
  refine mB hT 18 rfl ?_
  refine mB hT 19 rfl ?_
  refine mNf (lv2 := [(3, .int 15), (2, .int 1), (0, .ref 0), (1, .int 3)]) (st2 := [.long (ta 15), .int 15, .ref 11]) rfl rfl ?_
  refine mB hT 14 rfl ?_
  refine mIf (fun _ => ?_) (fun hn => absurd (lc_ge.mpr (Int64.not_lt.mp hs)) hn)
  refine mB hT 1 rfl ?_
  refine mWd (w2 := (MW 1 vs wo u h bo ta (up (up (up (up (up (up (up (up (up (up (up (up (up (up (up (up (tsM 1 ta 0 hh) 0 (ta 0)) 1 (hh 0)) 2 (ta 2)) 3 (ta 3)) 4 (ta 4)) 5 0) 6 (ta 6)) 7 (ta 7)) 8 (ta 8)) 9 0) 10 (ta 10)) 11 (ta 11)) 12 (ta 12)) 13 0) 14 (ta 14)) 15 (ta 15)) (up ro 0 (rr 0)) ot Bm bk)) rfl ?_
  refine mWd (w2 := (MW 1 vs wo u h bo ta (tsM 1 ta 1 hh) (up ro 0 (rr 0)) ot Bm bk)) rfl ?_
  refine hC.2 _ 0 [] _ _ _ _ _ (m_det) rfl rfl (Nat.le_of_ble_eq_true rfl) rfl ?_
  refine mNf (lv2 := [(3, .int 16), (2, .int 1), (0, .ref 0), (1, .int 3)]) (st2 := [.long (rr 1), .int 1, .ref 12]) rfl (by rw [hrr 1] <;> rfl) ?_
  refine mB hT 24 rfl ?_
  refine mNf (lv2 := [(3, .int 0), (2, .int 2), (0, .ref 0), (1, .int 3)]) (st2 := [.long (ta 0), .int 0, .ref 11]) rfl rfl ?_
  refine mB hT 19 rfl ?_
  refine mB hT 1 rfl ?_
  refine mWd (w2 := (MW 1 vs wo u h bo ta (up (up (tsM 1 ta 1 hh) 0 (ta 0)) 1 (ta 1)) (up (up ro 0 (rr 0)) 1 (rr 1)) ot Bm bk)) rfl ?_
  refine mB hT 31 rfl ?_
  refine mNf (lv2 := [(3, .int 2), (2, .int 2), (0, .ref 0), (1, .int 3)]) (st2 := [.long (hh 0), .int 2, .ref 11]) rfl (by rw [hq 0] <;> rfl) ?_
  refine mB hT 19 rfl ?_
  refine mB hT 19 rfl ?_
  refine mNf (lv2 := [(3, .int 4), (2, .int 2), (0, .ref 0), (1, .int 3)]) (st2 := [.long (ta 4), .int 4, .ref 11]) rfl rfl ?_
  refine mB hT 1 rfl ?_
  refine mWd (w2 := (MW 1 vs wo u h bo ta (up (up (up (up (up (tsM 1 ta 1 hh) 0 (ta 0)) 1 (ta 1)) 2 (hh 0)) 3 (ta 3)) 4 (ta 4)) (up (up ro 0 (rr 0)) 1 (rr 1)) ot Bm bk)) rfl ?_
  refine mB hT 18 rfl ?_
  refine mB hT 21 rfl ?_
  refine mNf (lv2 := [(3, .int 6), (2, .int 2), (0, .ref 0), (1, .int 3)]) (st2 := [.long 0, .int 6, .ref 11]) rfl rfl ?_
  refine mB hT 19 rfl ?_
  refine mB hT 1 rfl ?_
  refine mWd (w2 := (MW 1 vs wo u h bo ta (up (up (up (up (up (up (up (up (tsM 1 ta 1 hh) 0 (ta 0)) 1 (ta 1)) 2 (hh 0)) 3 (ta 3)) 4 (ta 4)) 5 (ta 5)) 6 0) 7 (ta 7)) (up (up ro 0 (rr 0)) 1 (rr 1)) ot Bm bk)) rfl ?_
  refine mB hT 18 rfl ?_
  refine mNf (lv2 := [(3, .int 8), (2, .int 2), (0, .ref 0), (1, .int 3)]) (st2 := [.long (ta 8), .int 8, .ref 11]) rfl rfl ?_
  refine mB hT 19 rfl ?_
  refine mB hT 21 rfl ?_
  refine mNf (lv2 := [(3, .int 10), (2, .int 2), (0, .ref 0), (1, .int 3)]) (st2 := [.long 0, .int 10, .ref 11]) rfl rfl ?_
  refine mB hT 1 rfl ?_
  refine mWd (w2 := (MW 1 vs wo u h bo ta (up (up (up (up (up (up (up (up (up (up (up (tsM 1 ta 1 hh) 0 (ta 0)) 1 (ta 1)) 2 (hh 0)) 3 (ta 3)) 4 (ta 4)) 5 (ta 5)) 6 0) 7 (ta 7)) 8 (ta 8)) 9 (ta 9)) 10 0) (up (up ro 0 (rr 0)) 1 (rr 1)) ot Bm bk)) rfl ?_
  refine mB hT 18 rfl ?_
  refine mB hT 19 rfl ?_
  refine mNf (lv2 := [(3, .int 12), (2, .int 2), (0, .ref 0), (1, .int 3)]) (st2 := [.long (ta 12), .int 12, .ref 11]) rfl rfl ?_
  refine mB hT 19 rfl ?_
  refine mB hT 1 rfl ?_
  refine mWd (w2 := (MW 1 vs wo u h bo ta (up (up (up (up (up (up (up (up (up (up (up (up (up (up (tsM 1 ta 1 hh) 0 (ta 0)) 1 (ta 1)) 2 (hh 0)) 3 (ta 3)) 4 (ta 4)) 5 (ta 5)) 6 0) 7 (ta 7)) 8 (ta 8)) 9 (ta 9)) 10 0) 11 (ta 11)) 12 (ta 12)) 13 (ta 13)) (up (up ro 0 (rr 0)) 1 (rr 1)) ot Bm bk)) rfl ?_
  refine mB hT 20 rfl ?_
  refine mNf (lv2 := [(3, .int 14), (2, .int 2), (0, .ref 0), (1, .int 3)]) (st2 := [.long 0, .int 14, .ref 11]) rfl rfl ?_
  refine mB hT 19 rfl ?_
  refine mB hT 14 rfl ?_
  refine mIf (fun _ => ?_) (fun hn => absurd (lc_ge.mpr (Int64.not_lt.mp hs)) hn)
  refine mNf (lv2 := [(3, .int 16), (2, .int 2), (0, .ref 0), (1, .int 3)]) (st2 := [.int 2, .ref 12]) rfl rfl ?_
  refine mB hT 1 rfl ?_
  refine mWd (w2 := (MW 1 vs wo u h bo ta (up (up (up (up (up (up (up (up (up (up (up (up (up (up (up (up (tsM 1 ta 1 hh) 0 (ta 0)) 1 (ta 1)) 2 (hh 0)) 3 (ta 3)) 4 (ta 4)) 5 (ta 5)) 6 0) 7 (ta 7)) 8 (ta 8)) 9 (ta 9)) 10 0) 11 (ta 11)) 12 (ta 12)) 13 (ta 13)) 14 0) 15 (ta 15)) (up (up ro 0 (rr 0)) 1 (rr 1)) ot Bm bk)) rfl ?_
  refine mWd (w2 := (MW 1 vs wo u h bo ta (tsM 1 ta 2 hh) (up (up ro 0 (rr 0)) 1 (rr 1)) ot Bm bk)) rfl ?_
  refine hC.2 _ 0 [] _ _ _ _ _ (m_det) rfl rfl (Nat.le_of_ble_eq_true rfl) rfl ?_
  refine mNf (lv2 := [(3, .int 16), (2, .int 2), (0, .ref 0), (1, .int 3)]) (st2 := [.long (rr 2), .int 2, .ref 12]) rfl (by rw [hrr 2] <;> rfl) ?_
  refine mB hT 24 rfl ?_
  refine mNf (lv2 := [(3, .int 0), (2, .int 3), (0, .ref 0), (1, .int 3)]) (st2 := [.long (ta 0), .int 0, .ref 11]) rfl rfl ?_
  refine mB hT 19 rfl ?_
  refine mB hT 1 rfl ?_
  refine mWd (w2 := (MW 1 vs wo u h bo ta (up (up (tsM 1 ta 2 hh) 0 (ta 0)) 1 (ta 1)) (up (up (up ro 0 (rr 0)) 1 (rr 1)) 2 (rr 2)) ot Bm bk)) rfl ?_
  refine mB hT 18 rfl ?_
  refine mNf (lv2 := [(3, .int 2), (2, .int 3), (0, .ref 0), (1, .int 3)]) (st2 := [.long (ta 2), .int 2, .ref 11]) rfl rfl ?_
  refine mB hT 32 rfl ?_
  refine mNf (lv2 := [(3, .int 3), (2, .int 3), (0, .ref 0), (1, .int 3)]) (st2 := [.long (hh 0), .int 3, .ref 11]) rfl (by rw [hq 0] <;> rfl) ?_
  refine mB hT 19 rfl ?_
  refine mB hT 1 rfl ?_
  refine mWd (w2 := (MW 1 vs wo u h bo ta (up (up (up (up (up (tsM 1 ta 2 hh) 0 (ta 0)) 1 (ta 1)) 2 (ta 2)) 3 (hh 0)) 4 (ta 4)) (up (up (up ro 0 (rr 0)) 1 (rr 1)) 2 (rr 2)) ot Bm bk)) rfl ?_
  refine mB hT 18 rfl ?_
  refine mNf (lv2 := [(3, .int 5), (2, .int 3), (0, .ref 0), (1, .int 3)]) (st2 := [.long (ta 5), .int 5, .ref 11]) rfl rfl ?_
  refine mB hT 19 rfl ?_
  refine mB hT 21 rfl ?_
  refine mNf (lv2 := [(3, .int 7), (2, .int 3), (0, .ref 0), (1, .int 3)]) (st2 := [.long 0, .int 7, .ref 11]) rfl rfl ?_
  refine mB hT 1 rfl ?_
  refine mWd (w2 := (MW 1 vs wo u h bo ta (up (up (up (up (up (up (up (up (tsM 1 ta 2 hh) 0 (ta 0)) 1 (ta 1)) 2 (ta 2)) 3 (hh 0)) 4 (ta 4)) 5 (ta 5)) 6 (ta 6)) 7 0) (up (up (up ro 0 (rr 0)) 1 (rr 1)) 2 (rr 2)) ot Bm bk)) rfl ?_
  refine mB hT 18 rfl ?_
  refine mB hT 19 rfl ?_
  refine mNf (lv2 := [(3, .int 9), (2, .int 3), (0, .ref 0), (1, .int 3)]) (st2 := [.long (ta 9), .int 9, .ref 11]) rfl rfl ?_
  refine mB hT 19 rfl ?_
  refine mB hT 1 rfl ?_
  refine mWd (w2 := (MW 1 vs wo u h bo ta (up (up (up (up (up (up (up (up (up (up (up (tsM 1 ta 2 hh) 0 (ta 0)) 1 (ta 1)) 2 (ta 2)) 3 (hh 0)) 4 (ta 4)) 5 (ta 5)) 6 (ta 6)) 7 0) 8 (ta 8)) 9 (ta 9)) 10 (ta 10)) (up (up (up ro 0 (rr 0)) 1 (rr 1)) 2 (rr 2)) ot Bm bk)) rfl ?_
  refine mB hT 20 rfl ?_
  refine mNf (lv2 := [(3, .int 11), (2, .int 3), (0, .ref 0), (1, .int 3)]) (st2 := [.long 0, .int 11, .ref 11]) rfl rfl ?_
  refine mB hT 19 rfl ?_
  refine mB hT 19 rfl ?_
  refine mNf (lv2 := [(3, .int 13), (2, .int 3), (0, .ref 0), (1, .int 3)]) (st2 := [.long (ta 13), .int 13, .ref 11]) rfl rfl ?_
  refine mB hT 1 rfl ?_
  refine mWd (w2 := (MW 1 vs wo u h bo ta (up (up (up (up (up (up (up (up (up (up (up (up (up (up (tsM 1 ta 2 hh) 0 (ta 0)) 1 (ta 1)) 2 (ta 2)) 3 (hh 0)) 4 (ta 4)) 5 (ta 5)) 6 (ta 6)) 7 0) 8 (ta 8)) 9 (ta 9)) 10 (ta 10)) 11 0) 12 (ta 12)) 13 (ta 13)) (up (up (up ro 0 (rr 0)) 1 (rr 1)) 2 (rr 2)) ot Bm bk)) rfl ?_
  refine mB hT 18 rfl ?_
  refine mB hT 21 rfl ?_
  refine mNf (lv2 := [(3, .int 15), (2, .int 3), (0, .ref 0), (1, .int 3)]) (st2 := [.long 0, .int 15, .ref 11]) rfl rfl ?_
  refine mB hT 14 rfl ?_
  refine mIf (fun _ => ?_) (fun hn => absurd (lc_ge.mpr (Int64.not_lt.mp hs)) hn)
  refine mB hT 1 rfl ?_
  refine mWd (w2 := (MW 1 vs wo u h bo ta (up (up (up (up (up (up (up (up (up (up (up (up (up (up (up (up (tsM 1 ta 2 hh) 0 (ta 0)) 1 (ta 1)) 2 (ta 2)) 3 (hh 0)) 4 (ta 4)) 5 (ta 5)) 6 (ta 6)) 7 0) 8 (ta 8)) 9 (ta 9)) 10 (ta 10)) 11 0) 12 (ta 12)) 13 (ta 13)) 14 (ta 14)) 15 0) (up (up (up ro 0 (rr 0)) 1 (rr 1)) 2 (rr 2)) ot Bm bk)) rfl ?_
  refine mWd (w2 := (MW 1 vs wo u h bo ta (tsM 1 ta 3 hh) (up (up (up ro 0 (rr 0)) 1 (rr 1)) 2 (rr 2)) ot Bm bk)) rfl ?_
  refine hC.2 _ 0 [] _ _ _ _ _ (m_det) rfl rfl (Nat.le_of_ble_eq_true rfl) rfl ?_
  refine mNf (lv2 := [(3, .int 16), (2, .int 3), (0, .ref 0), (1, .int 3)]) (st2 := [.long (rr 3), .int 3, .ref 12]) rfl (by rw [hrr 3] <;> rfl) ?_
  refine mB hT 6 rfl ?_
  exact hR _ (by decide) _ _ _ rfl rfl
set_option maxRecDepth 20000 in
theorem m_solve_1_3n {vs : Int32} {wo un h : Int64} {bo : Nat → Int32} {ta tr ro ot : Nat → Int64} {Bm : Nat → Nat → Nat → Int32} {bk : Nat → Nat → Int32} {u : Int64} {hh rr : Nat → Int64} (hs : wo < 0) (hu : u = -wo) (hq : ∀ j : Nat, hh j = (bk 3 j).toInt64) (hrr : ∀ i : Nat, rr i = -(dtM (tsM 1 ta i hh))) : KX3_solve l D ca ad [.ref 0, .int 3] (MW 1 vs wo un h bo ta tr ro ot Bm bk) none (MW 1 vs wo u h bo ta (tsM 1 ta 3 hh) rr ot Bm bk) := by
  refine PX3_solve (Nat.le_of_ble_eq_true rfl) ?_
  intro G hT hC hR
  refine mB hT 6 rfl ?_
  refine mIf (fun hp => absurd hp (fun q => Int64.not_lt.mpr (lc_ge.mp q) hs)) (fun _ => ?_)
  refine mB hT 4 rfl ?_
  refine mNf (lv2 := [(0, .ref 0), (1, .int 3)]) (st2 := [.long u, .ref 0]) rfl (by rw [hu] <;> rfl) ?_
  refine mB hT 37 rfl ?_
  refine mNf (lv2 := [(3, .int 0), (2, .int 0), (0, .ref 0), (1, .int 3)]) (st2 := [.long (hh 0), .int 0, .ref 11]) rfl (by rw [hq 0] <;> rfl) ?_
  refine mB hT 19 rfl ?_
  refine mB hT 1 rfl ?_
  refine mWd (w2 := (MW 1 vs wo u h bo ta (up (up tr 0 (hh 0)) 1 (ta 1)) ro ot Bm bk)) rfl ?_
  refine mB hT 18 rfl ?_
  refine mNf (lv2 := [(3, .int 2), (2, .int 0), (0, .ref 0), (1, .int 3)]) (st2 := [.long (ta 2), .int 2, .ref 11]) rfl rfl ?_
  refine mB hT 19 rfl ?_
  refine mB hT 21 rfl ?_
  refine mNf (lv2 := [(3, .int 4), (2, .int 0), (0, .ref 0), (1, .int 3)]) (st2 := [.long 0, .int 4, .ref 11]) rfl rfl ?_
  refine mB hT 1 rfl ?_
  refine mWd (w2 := (MW 1 vs wo u h bo ta (up (up (up (up (up tr 0 (hh 0)) 1 (ta 1)) 2 (ta 2)) 3 (ta 3)) 4 0) ro ot Bm bk)) rfl ?_
  refine mB hT 18 rfl ?_
  refine mB hT 19 rfl ?_
  refine mNf (lv2 := [(3, .int 6), (2, .int 0), (0, .ref 0), (1, .int 3)]) (st2 := [.long (ta 6), .int 6, .ref 11]) rfl rfl ?_
  refine mB hT 19 rfl ?_
  refine mB hT 1 rfl ?_
  refine mWd (w2 := (MW 1 vs wo u h bo ta (up (up (up (up (up (up (up (up tr 0 (hh 0)) 1 (ta 1)) 2 (ta 2)) 3 (ta 3)) 4 0) 5 (ta 5)) 6 (ta 6)) 7 (ta 7)) ro ot Bm bk)) rfl ?_
  refine mB hT 20 rfl ?_
  refine mNf (lv2 := [(3, .int 8), (2, .int 0), (0, .ref 0), (1, .int 3)]) (st2 := [.long 0, .int 8, .ref 11]) rfl rfl ?_
  refine mB hT 19 rfl ?_
  refine mB hT 19 rfl ?_
  refine mNf (lv2 := [(3, .int 10), (2, .int 0), (0, .ref 0), (1, .int 3)]) (st2 := [.long (ta 10), .int 10, .ref 11]) rfl rfl ?_
  refine mB hT 1 rfl ?_
  refine mWd (w2 := (MW 1 vs wo u h bo ta (up (up (up (up (up (up (up (up (up (up (up tr 0 (hh 0)) 1 (ta 1)) 2 (ta 2)) 3 (ta 3)) 4 0) 5 (ta 5)) 6 (ta 6)) 7 (ta 7)) 8 0) 9 (ta 9)) 10 (ta 10)) ro ot Bm bk)) rfl ?_
  refine mB hT 18 rfl ?_
  refine mB hT 21 rfl ?_
  refine mNf (lv2 := [(3, .int 12), (2, .int 0), (0, .ref 0), (1, .int 3)]) (st2 := [.long 0, .int 12, .ref 11]) rfl rfl ?_
  refine mB hT 19 rfl ?_
  refine mB hT 1 rfl ?_
  refine mWd (w2 := (MW 1 vs wo u h bo ta (up (up (up (up (up (up (up (up (up (up (up (up (up (up tr 0 (hh 0)) 1 (ta 1)) 2 (ta 2)) 3 (ta 3)) 4 0) 5 (ta 5)) 6 (ta 6)) 7 (ta 7)) 8 0) 9 (ta 9)) 10 (ta 10)) 11 (ta 11)) 12 0) 13 (ta 13)) ro ot Bm bk)) rfl ?_
  refine mB hT 18 rfl ?_
  refine mNf (lv2 := [(3, .int 14), (2, .int 0), (0, .ref 0), (1, .int 3)]) (st2 := [.long (ta 14), .int 14, .ref 11]) rfl rfl ?_
  refine mB hT 19 rfl ?_
  refine mB hT 14 rfl ?_
  refine mIf (fun hp => absurd hp (fun q => Int64.not_lt.mpr (lc_ge.mp q) hs)) (fun _ => ?_)
  refine mNf (lv2 := [(3, .int 16), (2, .int 0), (0, .ref 0), (1, .int 3)]) (st2 := [.int 0, .ref 12]) rfl rfl ?_
  refine mB hT 1 rfl ?_
  refine mWd (w2 := (MW 1 vs wo u h bo ta (up (up (up (up (up (up (up (up (up (up (up (up (up (up (up (up tr 0 (hh 0)) 1 (ta 1)) 2 (ta 2)) 3 (ta 3)) 4 0) 5 (ta 5)) 6 (ta 6)) 7 (ta 7)) 8 0) 9 (ta 9)) 10 (ta 10)) 11 (ta 11)) 12 0) 13 (ta 13)) 14 (ta 14)) 15 (ta 15)) ro ot Bm bk)) rfl ?_
  refine mWd (w2 := (MW 1 vs wo u h bo ta (tsM 1 ta 0 hh) ro ot Bm bk)) rfl ?_
  refine hC.1 _ 0 [] _ _ _ _ _ (m_det) rfl rfl (Nat.le_of_ble_eq_true rfl) rfl ?_
  refine mB hT 2 rfl ?_
  refine mNf (lv2 := [(3, .int 16), (2, .int 0), (0, .ref 0), (1, .int 3)]) (st2 := [.long (rr 0), .int 0, .ref 12]) rfl (by rw [hrr 0] <;> rfl) ?_
  refine mB hT 24 rfl ?_
  refine mNf (lv2 := [(3, .int 0), (2, .int 1), (0, .ref 0), (1, .int 3)]) (st2 := [.long (ta 0), .int 0, .ref 11]) rfl rfl ?_
  refine mB hT 32 rfl ?_
  refine mNf (lv2 := [(3, .int 1), (2, .int 1), (0, .ref 0), (1, .int 3)]) (st2 := [.long (hh 0), .int 1, .ref 11]) rfl (by rw [hq 0] <;> rfl) ?_
  refine mB hT 1 rfl ?_
  refine mWd (w2 := (MW 1 vs wo u h bo ta (up (up (tsM 1 ta 0 hh) 0 (ta 0)) 1 (hh 0)) (up ro 0 (rr 0)) ot Bm bk)) rfl ?_
  refine mB hT 18 rfl ?_
  refine mB hT 19 rfl ?_
  refine mNf (lv2 := [(3, .int 3), (2, .int 1), (0, .ref 0), (1, .int 3)]) (st2 := [.long (ta 3), .int 3, .ref 11]) rfl rfl ?_
  refine mB hT 19 rfl ?_
  refine mB hT 1 rfl ?_
  refine mWd (w2 := (MW 1 vs wo u h bo ta (up (up (up (up (up (tsM 1 ta 0 hh) 0 (ta 0)) 1 (hh 0)) 2 (ta 2)) 3 (ta 3)) 4 (ta 4)) (up ro 0 (rr 0)) ot Bm bk)) rfl ?_
  refine mB hT 20 rfl ?_
  refine mNf (lv2 := [(3, .int 5), (2, .int 1), (0, .ref 0), (1, .int 3)]) (st2 := [.long 0, .int 5, .ref 11]) rfl rfl ?_
  refine mB hT 19 rfl ?_
  refine mB hT 19 rfl ?_
  refine mNf (lv2 := [(3, .int 7), (2, .int 1), (0, .ref 0), (1, .int 3)]) (st2 := [.long (ta 7), .int 7, .ref 11]) rfl rfl ?_
  refine mB hT 1 rfl ?_
  refine mWd (w2 := (MW 1 vs wo u h bo ta (up (up (up (up (up (up (up (up (tsM 1 ta 0 hh) 0 (ta 0)) 1 (hh 0)) 2 (ta 2)) 3 (ta 3)) 4 (ta 4)) 5 0) 6 (ta 6)) 7 (ta 7)) (up ro 0 (rr 0)) ot Bm bk)) rfl ?_
  refine mB hT 18 rfl ?_
  refine mB hT 21 rfl ?_
  refine mNf (lv2 := [(3, .int 9), (2, .int 1), (0, .ref 0), (1, .int 3)]) (st2 := [.long 0, .int 9, .ref 11]) rfl rfl ?_
  refine mB hT 19 rfl ?_
  refine mB hT 1 rfl ?_
  refine mWd (w2 := (MW 1 vs wo u h bo ta (up (up (up (up (up (up (up (up (up (up (up (tsM 1 ta 0 hh) 0 (ta 0)) 1 (hh 0)) 2 (ta 2)) 3 (ta 3)) 4 (ta 4)) 5 0) 6 (ta 6)) 7 (ta 7)) 8 (ta 8)) 9 0) 10 (ta 10)) (up ro 0 (rr 0)) ot Bm bk)) rfl ?_
  refine mB hT 18 rfl ?_
  refine mNf (lv2 := [(3, .int 11), (2, .int 1), (0, .ref 0), (1, .int 3)]) (st2 := [.long (ta 11), .int 11, .ref 11]) rfl rfl ?_
  refine mB hT 19 rfl ?_
  refine mB hT 21 rfl ?_
  refine mNf (lv2 := [(3, .int 13), (2, .int 1), (0, .ref 0), (1, .int 3)]) (st2 := [.long 0, .int 13, .ref 11]) rfl rfl ?_
  refine mB hT 1 rfl ?_
  refine mWd (w2 := (MW 1 vs wo u h bo ta (up (up (up (up (up (up (up (up (up (up (up (up (up (up (tsM 1 ta 0 hh) 0 (ta 0)) 1 (hh 0)) 2 (ta 2)) 3 (ta 3)) 4 (ta 4)) 5 0) 6 (ta 6)) 7 (ta 7)) 8 (ta 8)) 9 0) 10 (ta 10)) 11 (ta 11)) 12 (ta 12)) 13 0) (up ro 0 (rr 0)) ot Bm bk)) rfl ?_
  refine mB hT 18 rfl ?_
  refine mB hT 19 rfl ?_
  refine mNf (lv2 := [(3, .int 15), (2, .int 1), (0, .ref 0), (1, .int 3)]) (st2 := [.long (ta 15), .int 15, .ref 11]) rfl rfl ?_
  refine mB hT 14 rfl ?_
  refine mIf (fun hp => absurd hp (fun q => Int64.not_lt.mpr (lc_ge.mp q) hs)) (fun _ => ?_)
  refine mB hT 1 rfl ?_
  refine mWd (w2 := (MW 1 vs wo u h bo ta (up (up (up (up (up (up (up (up (up (up (up (up (up (up (up (up (tsM 1 ta 0 hh) 0 (ta 0)) 1 (hh 0)) 2 (ta 2)) 3 (ta 3)) 4 (ta 4)) 5 0) 6 (ta 6)) 7 (ta 7)) 8 (ta 8)) 9 0) 10 (ta 10)) 11 (ta 11)) 12 (ta 12)) 13 0) 14 (ta 14)) 15 (ta 15)) (up ro 0 (rr 0)) ot Bm bk)) rfl ?_
  refine mWd (w2 := (MW 1 vs wo u h bo ta (tsM 1 ta 1 hh) (up ro 0 (rr 0)) ot Bm bk)) rfl ?_
  refine hC.1 _ 0 [] _ _ _ _ _ (m_det) rfl rfl (Nat.le_of_ble_eq_true rfl) rfl ?_
  refine mB hT 2 rfl ?_
  refine mNf (lv2 := [(3, .int 16), (2, .int 1), (0, .ref 0), (1, .int 3)]) (st2 := [.long (rr 1), .int 1, .ref 12]) rfl (by rw [hrr 1] <;> rfl) ?_
  refine mB hT 24 rfl ?_
  refine mNf (lv2 := [(3, .int 0), (2, .int 2), (0, .ref 0), (1, .int 3)]) (st2 := [.long (ta 0), .int 0, .ref 11]) rfl rfl ?_
  refine mB hT 19 rfl ?_
  refine mB hT 1 rfl ?_
  refine mWd (w2 := (MW 1 vs wo u h bo ta (up (up (tsM 1 ta 1 hh) 0 (ta 0)) 1 (ta 1)) (up (up ro 0 (rr 0)) 1 (rr 1)) ot Bm bk)) rfl ?_
  refine mB hT 31 rfl ?_
  refine mNf (lv2 := [(3, .int 2), (2, .int 2), (0, .ref 0), (1, .int 3)]) (st2 := [.long (hh 0), .int 2, .ref 11]) rfl (by rw [hq 0] <;> rfl) ?_
  refine mB hT 19 rfl ?_
  refine mB hT 19 rfl ?_
  refine mNf (lv2 := [(3, .int 4), (2, .int 2), (0, .ref 0), (1, .int 3)]) (st2 := [.long (ta 4), .int 4, .ref 11]) rfl rfl ?_
  refine mB hT 1 rfl ?_
  refine mWd (w2 := (MW 1 vs wo u h bo ta (up (up (up (up (up (tsM 1 ta 1 hh) 0 (ta 0)) 1 (ta 1)) 2 (hh 0)) 3 (ta 3)) 4 (ta 4)) (up (up ro 0 (rr 0)) 1 (rr 1)) ot Bm bk)) rfl ?_
  refine mB hT 18 rfl ?_
  refine mB hT 21 rfl ?_
  refine mNf (lv2 := [(3, .int 6), (2, .int 2), (0, .ref 0), (1, .int 3)]) (st2 := [.long 0, .int 6, .ref 11]) rfl rfl ?_
  refine mB hT 19 rfl ?_
  refine mB hT 1 rfl ?_
  refine mWd (w2 := (MW 1 vs wo u h bo ta (up (up (up (up (up (up (up (up (tsM 1 ta 1 hh) 0 (ta 0)) 1 (ta 1)) 2 (hh 0)) 3 (ta 3)) 4 (ta 4)) 5 (ta 5)) 6 0) 7 (ta 7)) (up (up ro 0 (rr 0)) 1 (rr 1)) ot Bm bk)) rfl ?_
  refine mB hT 18 rfl ?_
  refine mNf (lv2 := [(3, .int 8), (2, .int 2), (0, .ref 0), (1, .int 3)]) (st2 := [.long (ta 8), .int 8, .ref 11]) rfl rfl ?_
  refine mB hT 19 rfl ?_
  refine mB hT 21 rfl ?_
  refine mNf (lv2 := [(3, .int 10), (2, .int 2), (0, .ref 0), (1, .int 3)]) (st2 := [.long 0, .int 10, .ref 11]) rfl rfl ?_
  refine mB hT 1 rfl ?_
  refine mWd (w2 := (MW 1 vs wo u h bo ta (up (up (up (up (up (up (up (up (up (up (up (tsM 1 ta 1 hh) 0 (ta 0)) 1 (ta 1)) 2 (hh 0)) 3 (ta 3)) 4 (ta 4)) 5 (ta 5)) 6 0) 7 (ta 7)) 8 (ta 8)) 9 (ta 9)) 10 0) (up (up ro 0 (rr 0)) 1 (rr 1)) ot Bm bk)) rfl ?_
  refine mB hT 18 rfl ?_
  refine mB hT 19 rfl ?_
  refine mNf (lv2 := [(3, .int 12), (2, .int 2), (0, .ref 0), (1, .int 3)]) (st2 := [.long (ta 12), .int 12, .ref 11]) rfl rfl ?_
  refine mB hT 19 rfl ?_
  refine mB hT 1 rfl ?_
  refine mWd (w2 := (MW 1 vs wo u h bo ta (up (up (up (up (up (up (up (up (up (up (up (up (up (up (tsM 1 ta 1 hh) 0 (ta 0)) 1 (ta 1)) 2 (hh 0)) 3 (ta 3)) 4 (ta 4)) 5 (ta 5)) 6 0) 7 (ta 7)) 8 (ta 8)) 9 (ta 9)) 10 0) 11 (ta 11)) 12 (ta 12)) 13 (ta 13)) (up (up ro 0 (rr 0)) 1 (rr 1)) ot Bm bk)) rfl ?_
  refine mB hT 20 rfl ?_
  refine mNf (lv2 := [(3, .int 14), (2, .int 2), (0, .ref 0), (1, .int 3)]) (st2 := [.long 0, .int 14, .ref 11]) rfl rfl ?_
  refine mB hT 19 rfl ?_
  refine mB hT 14 rfl ?_
  refine mIf (fun hp => absurd hp (fun q => Int64.not_lt.mpr (lc_ge.mp q) hs)) (fun _ => ?_)
  refine mNf (lv2 := [(3, .int 16), (2, .int 2), (0, .ref 0), (1, .int 3)]) (st2 := [.int 2, .ref 12]) rfl rfl ?_
  refine mB hT 1 rfl ?_
  refine mWd (w2 := (MW 1 vs wo u h bo ta (up (up (up (up (up (up (up (up (up (up (up (up (up (up (up (up (tsM 1 ta 1 hh) 0 (ta 0)) 1 (ta 1)) 2 (hh 0)) 3 (ta 3)) 4 (ta 4)) 5 (ta 5)) 6 0) 7 (ta 7)) 8 (ta 8)) 9 (ta 9)) 10 0) 11 (ta 11)) 12 (ta 12)) 13 (ta 13)) 14 0) 15 (ta 15)) (up (up ro 0 (rr 0)) 1 (rr 1)) ot Bm bk)) rfl ?_
  refine mWd (w2 := (MW 1 vs wo u h bo ta (tsM 1 ta 2 hh) (up (up ro 0 (rr 0)) 1 (rr 1)) ot Bm bk)) rfl ?_
  refine hC.1 _ 0 [] _ _ _ _ _ (m_det) rfl rfl (Nat.le_of_ble_eq_true rfl) rfl ?_
  refine mB hT 2 rfl ?_
  refine mNf (lv2 := [(3, .int 16), (2, .int 2), (0, .ref 0), (1, .int 3)]) (st2 := [.long (rr 2), .int 2, .ref 12]) rfl (by rw [hrr 2] <;> rfl) ?_
  refine mB hT 24 rfl ?_
  refine mNf (lv2 := [(3, .int 0), (2, .int 3), (0, .ref 0), (1, .int 3)]) (st2 := [.long (ta 0), .int 0, .ref 11]) rfl rfl ?_
  refine mB hT 19 rfl ?_
  refine mB hT 1 rfl ?_
  refine mWd (w2 := (MW 1 vs wo u h bo ta (up (up (tsM 1 ta 2 hh) 0 (ta 0)) 1 (ta 1)) (up (up (up ro 0 (rr 0)) 1 (rr 1)) 2 (rr 2)) ot Bm bk)) rfl ?_
  refine mB hT 18 rfl ?_
  refine mNf (lv2 := [(3, .int 2), (2, .int 3), (0, .ref 0), (1, .int 3)]) (st2 := [.long (ta 2), .int 2, .ref 11]) rfl rfl ?_
  refine mB hT 32 rfl ?_
  refine mNf (lv2 := [(3, .int 3), (2, .int 3), (0, .ref 0), (1, .int 3)]) (st2 := [.long (hh 0), .int 3, .ref 11]) rfl (by rw [hq 0] <;> rfl) ?_
  refine mB hT 19 rfl ?_
  refine mB hT 1 rfl ?_
  refine mWd (w2 := (MW 1 vs wo u h bo ta (up (up (up (up (up (tsM 1 ta 2 hh) 0 (ta 0)) 1 (ta 1)) 2 (ta 2)) 3 (hh 0)) 4 (ta 4)) (up (up (up ro 0 (rr 0)) 1 (rr 1)) 2 (rr 2)) ot Bm bk)) rfl ?_
  refine mB hT 18 rfl ?_
  refine mNf (lv2 := [(3, .int 5), (2, .int 3), (0, .ref 0), (1, .int 3)]) (st2 := [.long (ta 5), .int 5, .ref 11]) rfl rfl ?_
  refine mB hT 19 rfl ?_
  refine mB hT 21 rfl ?_
  refine mNf (lv2 := [(3, .int 7), (2, .int 3), (0, .ref 0), (1, .int 3)]) (st2 := [.long 0, .int 7, .ref 11]) rfl rfl ?_
  refine mB hT 1 rfl ?_
  refine mWd (w2 := (MW 1 vs wo u h bo ta (up (up (up (up (up (up (up (up (tsM 1 ta 2 hh) 0 (ta 0)) 1 (ta 1)) 2 (ta 2)) 3 (hh 0)) 4 (ta 4)) 5 (ta 5)) 6 (ta 6)) 7 0) (up (up (up ro 0 (rr 0)) 1 (rr 1)) 2 (rr 2)) ot Bm bk)) rfl ?_
  refine mB hT 18 rfl ?_
  refine mB hT 19 rfl ?_
  refine mNf (lv2 := [(3, .int 9), (2, .int 3), (0, .ref 0), (1, .int 3)]) (st2 := [.long (ta 9), .int 9, .ref 11]) rfl rfl ?_
  refine mB hT 19 rfl ?_
  refine mB hT 1 rfl ?_
  refine mWd (w2 := (MW 1 vs wo u h bo ta (up (up (up (up (up (up (up (up (up (up (up (tsM 1 ta 2 hh) 0 (ta 0)) 1 (ta 1)) 2 (ta 2)) 3 (hh 0)) 4 (ta 4)) 5 (ta 5)) 6 (ta 6)) 7 0) 8 (ta 8)) 9 (ta 9)) 10 (ta 10)) (up (up (up ro 0 (rr 0)) 1 (rr 1)) 2 (rr 2)) ot Bm bk)) rfl ?_
  refine mB hT 20 rfl ?_
  refine mNf (lv2 := [(3, .int 11), (2, .int 3), (0, .ref 0), (1, .int 3)]) (st2 := [.long 0, .int 11, .ref 11]) rfl rfl ?_
  refine mB hT 19 rfl ?_
  refine mB hT 19 rfl ?_
  refine mNf (lv2 := [(3, .int 13), (2, .int 3), (0, .ref 0), (1, .int 3)]) (st2 := [.long (ta 13), .int 13, .ref 11]) rfl rfl ?_
  refine mB hT 1 rfl ?_
  refine mWd (w2 := (MW 1 vs wo u h bo ta (up (up (up (up (up (up (up (up (up (up (up (up (up (up (tsM 1 ta 2 hh) 0 (ta 0)) 1 (ta 1)) 2 (ta 2)) 3 (hh 0)) 4 (ta 4)) 5 (ta 5)) 6 (ta 6)) 7 0) 8 (ta 8)) 9 (ta 9)) 10 (ta 10)) 11 0) 12 (ta 12)) 13 (ta 13)) (up (up (up ro 0 (rr 0)) 1 (rr 1)) 2 (rr 2)) ot Bm bk)) rfl ?_
  refine mB hT 18 rfl ?_
  refine mB hT 21 rfl ?_
  refine mNf (lv2 := [(3, .int 15), (2, .int 3), (0, .ref 0), (1, .int 3)]) (st2 := [.long 0, .int 15, .ref 11]) rfl rfl ?_
  refine mB hT 14 rfl ?_
  refine mIf (fun hp => absurd hp (fun q => Int64.not_lt.mpr (lc_ge.mp q) hs)) (fun _ => ?_)
  refine mB hT 1 rfl ?_
  refine mWd (w2 := (MW 1 vs wo u h bo ta (up (up (up (up (up (up (up (up (up (up (up (up (up (up (up (up (tsM 1 ta 2 hh) 0 (ta 0)) 1 (ta 1)) 2 (ta 2)) 3 (hh 0)) 4 (ta 4)) 5 (ta 5)) 6 (ta 6)) 7 0) 8 (ta 8)) 9 (ta 9)) 10 (ta 10)) 11 0) 12 (ta 12)) 13 (ta 13)) 14 (ta 14)) 15 0) (up (up (up ro 0 (rr 0)) 1 (rr 1)) 2 (rr 2)) ot Bm bk)) rfl ?_
  refine mWd (w2 := (MW 1 vs wo u h bo ta (tsM 1 ta 3 hh) (up (up (up ro 0 (rr 0)) 1 (rr 1)) 2 (rr 2)) ot Bm bk)) rfl ?_
  refine hC.1 _ 0 [] _ _ _ _ _ (m_det) rfl rfl (Nat.le_of_ble_eq_true rfl) rfl ?_
  refine mB hT 2 rfl ?_
  refine mNf (lv2 := [(3, .int 16), (2, .int 3), (0, .ref 0), (1, .int 3)]) (st2 := [.long (rr 3), .int 3, .ref 12]) rfl (by rw [hrr 3] <;> rfl) ?_
  refine mB hT 6 rfl ?_
  exact hR _ (by decide) _ _ _ rfl rfl
set_option maxRecDepth 20000 in
theorem m_solve_2_0p {vs : Int32} {wo un h : Int64} {bo : Nat → Int32} {ta tr ro ot : Nat → Int64} {Bm : Nat → Nat → Nat → Int32} {bk : Nat → Nat → Int32} {u : Int64} {hh rr : Nat → Int64} (hs : ¬ wo < 0) (hu : u = wo) (hq : ∀ j : Nat, hh j = (bk 0 j).toInt64) (hrr : ∀ i : Nat, rr i = dtM (tsM 2 ta i hh)) : KX3_solve l D ca ad [.ref 0, .int 0] (MW 2 vs wo un h bo ta tr ro ot Bm bk) none (MW 2 vs wo u h bo ta (tsM 2 ta 3 hh) rr ot Bm bk) := by
  refine PX3_solve (Nat.le_of_ble_eq_true rfl) ?_
  intro G hT hC hR
  refine mB hT 6 rfl ?_
  refine mIf (fun _ => ?_) (fun hn => absurd (lc_ge.mpr (Int64.not_lt.mp hs)) hn)
  refine mB hT 2 rfl ?_
  refine mNf (lv2 := [(0, .ref 0), (1, .int 0)]) (st2 := [.long u, .ref 0]) rfl (by rw [hu] <;> rfl) ?_
  refine mB hT 37 rfl ?_
  refine mNf (lv2 := [(3, .int 0), (2, .int 0), (0, .ref 0), (1, .int 0)]) (st2 := [.long (hh 0), .int 0, .ref 11]) rfl (by rw [hq 0] <;> rfl) ?_
  refine mB hT 19 rfl ?_
  refine mB hT 1 rfl ?_
  refine mWd (w2 := (MW 2 vs wo u h bo ta (up (up tr 0 (hh 0)) 1 (ta 1)) ro ot Bm bk)) rfl ?_
  refine mB hT 18 rfl ?_
  refine mNf (lv2 := [(3, .int 2), (2, .int 0), (0, .ref 0), (1, .int 0)]) (st2 := [.long (ta 2), .int 2, .ref 11]) rfl rfl ?_
  refine mB hT 19 rfl ?_
  refine mB hT 32 rfl ?_
  refine mNf (lv2 := [(3, .int 4), (2, .int 0), (0, .ref 0), (1, .int 0)]) (st2 := [.long (hh 1), .int 4, .ref 11]) rfl (by rw [hq 1] <;> rfl) ?_
  refine mB hT 1 rfl ?_
  refine mWd (w2 := (MW 2 vs wo u h bo ta (up (up (up (up (up tr 0 (hh 0)) 1 (ta 1)) 2 (ta 2)) 3 (ta 3)) 4 (hh 1)) ro ot Bm bk)) rfl ?_
  refine mB hT 18 rfl ?_
  refine mB hT 19 rfl ?_
  refine mNf (lv2 := [(3, .int 6), (2, .int 0), (0, .ref 0), (1, .int 0)]) (st2 := [.long (ta 6), .int 6, .ref 11]) rfl rfl ?_
  refine mB hT 19 rfl ?_
  refine mB hT 1 rfl ?_
  refine mWd (w2 := (MW 2 vs wo u h bo ta (up (up (up (up (up (up (up (up tr 0 (hh 0)) 1 (ta 1)) 2 (ta 2)) 3 (ta 3)) 4 (hh 1)) 5 (ta 5)) 6 (ta 6)) 7 (ta 7)) ro ot Bm bk)) rfl ?_
  refine mB hT 20 rfl ?_
  refine mNf (lv2 := [(3, .int 8), (2, .int 0), (0, .ref 0), (1, .int 0)]) (st2 := [.long 0, .int 8, .ref 11]) rfl rfl ?_
  refine mB hT 19 rfl ?_
  refine mB hT 19 rfl ?_
  refine mNf (lv2 := [(3, .int 10), (2, .int 0), (0, .ref 0), (1, .int 0)]) (st2 := [.long (ta 10), .int 10, .ref 11]) rfl rfl ?_
  refine mB hT 1 rfl ?_
  refine mWd (w2 := (MW 2 vs wo u h bo ta (up (up (up (up (up (up (up (up (up (up (up tr 0 (hh 0)) 1 (ta 1)) 2 (ta 2)) 3 (ta 3)) 4 (hh 1)) 5 (ta 5)) 6 (ta 6)) 7 (ta 7)) 8 0) 9 (ta 9)) 10 (ta 10)) ro ot Bm bk)) rfl ?_
  refine mB hT 18 rfl ?_
  refine mB hT 21 rfl ?_
  refine mNf (lv2 := [(3, .int 12), (2, .int 0), (0, .ref 0), (1, .int 0)]) (st2 := [.long 0, .int 12, .ref 11]) rfl rfl ?_
  refine mB hT 19 rfl ?_
  refine mB hT 1 rfl ?_
  refine mWd (w2 := (MW 2 vs wo u h bo ta (up (up (up (up (up (up (up (up (up (up (up (up (up (up tr 0 (hh 0)) 1 (ta 1)) 2 (ta 2)) 3 (ta 3)) 4 (hh 1)) 5 (ta 5)) 6 (ta 6)) 7 (ta 7)) 8 0) 9 (ta 9)) 10 (ta 10)) 11 (ta 11)) 12 0) 13 (ta 13)) ro ot Bm bk)) rfl ?_
  refine mB hT 18 rfl ?_
  refine mNf (lv2 := [(3, .int 14), (2, .int 0), (0, .ref 0), (1, .int 0)]) (st2 := [.long (ta 14), .int 14, .ref 11]) rfl rfl ?_
  refine mB hT 19 rfl ?_
  refine mB hT 14 rfl ?_
  refine mIf (fun _ => ?_) (fun hn => absurd (lc_ge.mpr (Int64.not_lt.mp hs)) hn)
  refine mNf (lv2 := [(3, .int 16), (2, .int 0), (0, .ref 0), (1, .int 0)]) (st2 := [.int 0, .ref 12]) rfl rfl ?_
  refine mB hT 1 rfl ?_
  refine mWd (w2 := (MW 2 vs wo u h bo ta (up (up (up (up (up (up (up (up (up (up (up (up (up (up (up (up tr 0 (hh 0)) 1 (ta 1)) 2 (ta 2)) 3 (ta 3)) 4 (hh 1)) 5 (ta 5)) 6 (ta 6)) 7 (ta 7)) 8 0) 9 (ta 9)) 10 (ta 10)) 11 (ta 11)) 12 0) 13 (ta 13)) 14 (ta 14)) 15 (ta 15)) ro ot Bm bk)) rfl ?_
  refine mWd (w2 := (MW 2 vs wo u h bo ta (tsM 2 ta 0 hh) ro ot Bm bk)) rfl ?_
  refine hC.2 _ 0 [] _ _ _ _ _ (m_det) rfl rfl (Nat.le_of_ble_eq_true rfl) rfl ?_
  refine mNf (lv2 := [(3, .int 16), (2, .int 0), (0, .ref 0), (1, .int 0)]) (st2 := [.long (rr 0), .int 0, .ref 12]) rfl (by rw [hrr 0] <;> rfl) ?_
  refine mB hT 24 rfl ?_
  refine mNf (lv2 := [(3, .int 0), (2, .int 1), (0, .ref 0), (1, .int 0)]) (st2 := [.long (ta 0), .int 0, .ref 11]) rfl rfl ?_
  refine mB hT 32 rfl ?_
  refine mNf (lv2 := [(3, .int 1), (2, .int 1), (0, .ref 0), (1, .int 0)]) (st2 := [.long (hh 0), .int 1, .ref 11]) rfl (by rw [hq 0] <;> rfl) ?_
  refine mB hT 1 rfl ?_
  refine mWd (w2 := (MW 2 vs wo u h bo ta (up (up (tsM 2 ta 0 hh) 0 (ta 0)) 1 (hh 0)) (up ro 0 (rr 0)) ot Bm bk)) rfl ?_
  refine mB hT 18 rfl ?_
  refine mB hT 19 rfl ?_
  refine mNf (lv2 := [(3, .int 3), (2, .int 1), (0, .ref 0), (1, .int 0)]) (st2 := [.long (ta 3), .int 3, .ref 11]) rfl rfl ?_
  refine mB hT 19 rfl ?_
  refine mB hT 1 rfl ?_
  refine mWd (w2 := (MW 2 vs wo u h bo ta (up (up (up (up (up (tsM 2 ta 0 hh) 0 (ta 0)) 1 (hh 0)) 2 (ta 2)) 3 (ta 3)) 4 (ta 4)) (up ro 0 (rr 0)) ot Bm bk)) rfl ?_
  refine mB hT 31 rfl ?_
  refine mNf (lv2 := [(3, .int 5), (2, .int 1), (0, .ref 0), (1, .int 0)]) (st2 := [.long (hh 1), .int 5, .ref 11]) rfl (by rw [hq 1] <;> rfl) ?_
  refine mB hT 19 rfl ?_
  refine mB hT 19 rfl ?_
  refine mNf (lv2 := [(3, .int 7), (2, .int 1), (0, .ref 0), (1, .int 0)]) (st2 := [.long (ta 7), .int 7, .ref 11]) rfl rfl ?_
  refine mB hT 1 rfl ?_
  refine mWd (w2 := (MW 2 vs wo u h bo ta (up (up (up (up (up (up (up (up (tsM 2 ta 0 hh) 0 (ta 0)) 1 (hh 0)) 2 (ta 2)) 3 (ta 3)) 4 (ta 4)) 5 (hh 1)) 6 (ta 6)) 7 (ta 7)) (up ro 0 (rr 0)) ot Bm bk)) rfl ?_
  refine mB hT 18 rfl ?_
  refine mB hT 21 rfl ?_
  refine mNf (lv2 := [(3, .int 9), (2, .int 1), (0, .ref 0), (1, .int 0)]) (st2 := [.long 0, .int 9, .ref 11]) rfl rfl ?_
  refine mB hT 19 rfl ?_
  refine mB hT 1 rfl ?_
  refine mWd (w2 := (MW 2 vs wo u h bo ta (up (up (up (up (up (up (up (up (up (up (up (tsM 2 ta 0 hh) 0 (ta 0)) 1 (hh 0)) 2 (ta 2)) 3 (ta 3)) 4 (ta 4)) 5 (hh 1)) 6 (ta 6)) 7 (ta 7)) 8 (ta 8)) 9 0) 10 (ta 10)) (up ro 0 (rr 0)) ot Bm bk)) rfl ?_
  refine mB hT 18 rfl ?_
  refine mNf (lv2 := [(3, .int 11), (2, .int 1), (0, .ref 0), (1, .int 0)]) (st2 := [.long (ta 11), .int 11, .ref 11]) rfl rfl ?_
  refine mB hT 19 rfl ?_
  refine mB hT 21 rfl ?_
  refine mNf (lv2 := [(3, .int 13), (2, .int 1), (0, .ref 0), (1, .int 0)]) (st2 := [.long 0, .int 13, .ref 11]) rfl rfl ?_
  refine mB hT 1 rfl ?_
  refine mWd (w2 := (MW 2 vs wo u h bo ta (up (up (up (up (up (up (up (up (up (up (up (up (up (up (tsM 2 ta 0 hh) 0 (ta 0)) 1 (hh 0)) 2 (ta 2)) 3 (ta 3)) 4 (ta 4)) 5 (hh 1)) 6 (ta 6)) 7 (ta 7)) 8 (ta 8)) 9 0) 10 (ta 10)) 11 (ta 11)) 12 (ta 12)) 13 0) (up ro 0 (rr 0)) ot Bm bk)) rfl ?_
  refine mB hT 18 rfl ?_
  refine mB hT 19 rfl ?_
  refine mNf (lv2 := [(3, .int 15), (2, .int 1), (0, .ref 0), (1, .int 0)]) (st2 := [.long (ta 15), .int 15, .ref 11]) rfl rfl ?_
  refine mB hT 14 rfl ?_
  refine mIf (fun _ => ?_) (fun hn => absurd (lc_ge.mpr (Int64.not_lt.mp hs)) hn)
  refine mB hT 1 rfl ?_
  refine mWd (w2 := (MW 2 vs wo u h bo ta (up (up (up (up (up (up (up (up (up (up (up (up (up (up (up (up (tsM 2 ta 0 hh) 0 (ta 0)) 1 (hh 0)) 2 (ta 2)) 3 (ta 3)) 4 (ta 4)) 5 (hh 1)) 6 (ta 6)) 7 (ta 7)) 8 (ta 8)) 9 0) 10 (ta 10)) 11 (ta 11)) 12 (ta 12)) 13 0) 14 (ta 14)) 15 (ta 15)) (up ro 0 (rr 0)) ot Bm bk)) rfl ?_
  refine mWd (w2 := (MW 2 vs wo u h bo ta (tsM 2 ta 1 hh) (up ro 0 (rr 0)) ot Bm bk)) rfl ?_
  refine hC.2 _ 0 [] _ _ _ _ _ (m_det) rfl rfl (Nat.le_of_ble_eq_true rfl) rfl ?_
  refine mNf (lv2 := [(3, .int 16), (2, .int 1), (0, .ref 0), (1, .int 0)]) (st2 := [.long (rr 1), .int 1, .ref 12]) rfl (by rw [hrr 1] <;> rfl) ?_
  refine mB hT 24 rfl ?_
  refine mNf (lv2 := [(3, .int 0), (2, .int 2), (0, .ref 0), (1, .int 0)]) (st2 := [.long (ta 0), .int 0, .ref 11]) rfl rfl ?_
  refine mB hT 19 rfl ?_
  refine mB hT 1 rfl ?_
  refine mWd (w2 := (MW 2 vs wo u h bo ta (up (up (tsM 2 ta 1 hh) 0 (ta 0)) 1 (ta 1)) (up (up ro 0 (rr 0)) 1 (rr 1)) ot Bm bk)) rfl ?_
  refine mB hT 31 rfl ?_
  refine mNf (lv2 := [(3, .int 2), (2, .int 2), (0, .ref 0), (1, .int 0)]) (st2 := [.long (hh 0), .int 2, .ref 11]) rfl (by rw [hq 0] <;> rfl) ?_
  refine mB hT 19 rfl ?_
  refine mB hT 19 rfl ?_
  refine mNf (lv2 := [(3, .int 4), (2, .int 2), (0, .ref 0), (1, .int 0)]) (st2 := [.long (ta 4), .int 4, .ref 11]) rfl rfl ?_
  refine mB hT 1 rfl ?_
  refine mWd (w2 := (MW 2 vs wo u h bo ta (up (up (up (up (up (tsM 2 ta 1 hh) 0 (ta 0)) 1 (ta 1)) 2 (hh 0)) 3 (ta 3)) 4 (ta 4)) (up (up ro 0 (rr 0)) 1 (rr 1)) ot Bm bk)) rfl ?_
  refine mB hT 18 rfl ?_
  refine mB hT 32 rfl ?_
  refine mNf (lv2 := [(3, .int 6), (2, .int 2), (0, .ref 0), (1, .int 0)]) (st2 := [.long (hh 1), .int 6, .ref 11]) rfl (by rw [hq 1] <;> rfl) ?_
  refine mB hT 19 rfl ?_
  refine mB hT 1 rfl ?_
  refine mWd (w2 := (MW 2 vs wo u h bo ta (up (up (up (up (up (up (up (up (tsM 2 ta 1 hh) 0 (ta 0)) 1 (ta 1)) 2 (hh 0)) 3 (ta 3)) 4 (ta 4)) 5 (ta 5)) 6 (hh 1)) 7 (ta 7)) (up (up ro 0 (rr 0)) 1 (rr 1)) ot Bm bk)) rfl ?_
  refine mB hT 18 rfl ?_
  refine mNf (lv2 := [(3, .int 8), (2, .int 2), (0, .ref 0), (1, .int 0)]) (st2 := [.long (ta 8), .int 8, .ref 11]) rfl rfl ?_
  refine mB hT 19 rfl ?_
  refine mB hT 21 rfl ?_
  refine mNf (lv2 := [(3, .int 10), (2, .int 2), (0, .ref 0), (1, .int 0)]) (st2 := [.long 0, .int 10, .ref 11]) rfl rfl ?_
  refine mB hT 1 rfl ?_
  refine mWd (w2 := (MW 2 vs wo u h bo ta (up (up (up (up (up (up (up (up (up (up (up (tsM 2 ta 1 hh) 0 (ta 0)) 1 (ta 1)) 2 (hh 0)) 3 (ta 3)) 4 (ta 4)) 5 (ta 5)) 6 (hh 1)) 7 (ta 7)) 8 (ta 8)) 9 (ta 9)) 10 0) (up (up ro 0 (rr 0)) 1 (rr 1)) ot Bm bk)) rfl ?_
  refine mB hT 18 rfl ?_
  refine mB hT 19 rfl ?_
  refine mNf (lv2 := [(3, .int 12), (2, .int 2), (0, .ref 0), (1, .int 0)]) (st2 := [.long (ta 12), .int 12, .ref 11]) rfl rfl ?_
  refine mB hT 19 rfl ?_
  refine mB hT 1 rfl ?_
  refine mWd (w2 := (MW 2 vs wo u h bo ta (up (up (up (up (up (up (up (up (up (up (up (up (up (up (tsM 2 ta 1 hh) 0 (ta 0)) 1 (ta 1)) 2 (hh 0)) 3 (ta 3)) 4 (ta 4)) 5 (ta 5)) 6 (hh 1)) 7 (ta 7)) 8 (ta 8)) 9 (ta 9)) 10 0) 11 (ta 11)) 12 (ta 12)) 13 (ta 13)) (up (up ro 0 (rr 0)) 1 (rr 1)) ot Bm bk)) rfl ?_
  refine mB hT 20 rfl ?_
  refine mNf (lv2 := [(3, .int 14), (2, .int 2), (0, .ref 0), (1, .int 0)]) (st2 := [.long 0, .int 14, .ref 11]) rfl rfl ?_
  refine mB hT 19 rfl ?_
  refine mB hT 14 rfl ?_
  refine mIf (fun _ => ?_) (fun hn => absurd (lc_ge.mpr (Int64.not_lt.mp hs)) hn)
  refine mNf (lv2 := [(3, .int 16), (2, .int 2), (0, .ref 0), (1, .int 0)]) (st2 := [.int 2, .ref 12]) rfl rfl ?_
  refine mB hT 1 rfl ?_
  refine mWd (w2 := (MW 2 vs wo u h bo ta (up (up (up (up (up (up (up (up (up (up (up (up (up (up (up (up (tsM 2 ta 1 hh) 0 (ta 0)) 1 (ta 1)) 2 (hh 0)) 3 (ta 3)) 4 (ta 4)) 5 (ta 5)) 6 (hh 1)) 7 (ta 7)) 8 (ta 8)) 9 (ta 9)) 10 0) 11 (ta 11)) 12 (ta 12)) 13 (ta 13)) 14 0) 15 (ta 15)) (up (up ro 0 (rr 0)) 1 (rr 1)) ot Bm bk)) rfl ?_
  refine mWd (w2 := (MW 2 vs wo u h bo ta (tsM 2 ta 2 hh) (up (up ro 0 (rr 0)) 1 (rr 1)) ot Bm bk)) rfl ?_
  refine hC.2 _ 0 [] _ _ _ _ _ (m_det) rfl rfl (Nat.le_of_ble_eq_true rfl) rfl ?_
  refine mNf (lv2 := [(3, .int 16), (2, .int 2), (0, .ref 0), (1, .int 0)]) (st2 := [.long (rr 2), .int 2, .ref 12]) rfl (by rw [hrr 2] <;> rfl) ?_
  refine mB hT 24 rfl ?_
  refine mNf (lv2 := [(3, .int 0), (2, .int 3), (0, .ref 0), (1, .int 0)]) (st2 := [.long (ta 0), .int 0, .ref 11]) rfl rfl ?_
  refine mB hT 19 rfl ?_
  refine mB hT 1 rfl ?_
  refine mWd (w2 := (MW 2 vs wo u h bo ta (up (up (tsM 2 ta 2 hh) 0 (ta 0)) 1 (ta 1)) (up (up (up ro 0 (rr 0)) 1 (rr 1)) 2 (rr 2)) ot Bm bk)) rfl ?_
  refine mB hT 18 rfl ?_
  refine mNf (lv2 := [(3, .int 2), (2, .int 3), (0, .ref 0), (1, .int 0)]) (st2 := [.long (ta 2), .int 2, .ref 11]) rfl rfl ?_
  refine mB hT 32 rfl ?_
  refine mNf (lv2 := [(3, .int 3), (2, .int 3), (0, .ref 0), (1, .int 0)]) (st2 := [.long (hh 0), .int 3, .ref 11]) rfl (by rw [hq 0] <;> rfl) ?_
  refine mB hT 19 rfl ?_
  refine mB hT 1 rfl ?_
  refine mWd (w2 := (MW 2 vs wo u h bo ta (up (up (up (up (up (tsM 2 ta 2 hh) 0 (ta 0)) 1 (ta 1)) 2 (ta 2)) 3 (hh 0)) 4 (ta 4)) (up (up (up ro 0 (rr 0)) 1 (rr 1)) 2 (rr 2)) ot Bm bk)) rfl ?_
  refine mB hT 18 rfl ?_
  refine mNf (lv2 := [(3, .int 5), (2, .int 3), (0, .ref 0), (1, .int 0)]) (st2 := [.long (ta 5), .int 5, .ref 11]) rfl rfl ?_
  refine mB hT 19 rfl ?_
  refine mB hT 32 rfl ?_
  refine mNf (lv2 := [(3, .int 7), (2, .int 3), (0, .ref 0), (1, .int 0)]) (st2 := [.long (hh 1), .int 7, .ref 11]) rfl (by rw [hq 1] <;> rfl) ?_
  refine mB hT 1 rfl ?_
  refine mWd (w2 := (MW 2 vs wo u h bo ta (up (up (up (up (up (up (up (up (tsM 2 ta 2 hh) 0 (ta 0)) 1 (ta 1)) 2 (ta 2)) 3 (hh 0)) 4 (ta 4)) 5 (ta 5)) 6 (ta 6)) 7 (hh 1)) (up (up (up ro 0 (rr 0)) 1 (rr 1)) 2 (rr 2)) ot Bm bk)) rfl ?_
  refine mB hT 18 rfl ?_
  refine mB hT 19 rfl ?_
  refine mNf (lv2 := [(3, .int 9), (2, .int 3), (0, .ref 0), (1, .int 0)]) (st2 := [.long (ta 9), .int 9, .ref 11]) rfl rfl ?_
  refine mB hT 19 rfl ?_
  refine mB hT 1 rfl ?_
  refine mWd (w2 := (MW 2 vs wo u h bo ta (up (up (up (up (up (up (up (up (up (up (up (tsM 2 ta 2 hh) 0 (ta 0)) 1 (ta 1)) 2 (ta 2)) 3 (hh 0)) 4 (ta 4)) 5 (ta 5)) 6 (ta 6)) 7 (hh 1)) 8 (ta 8)) 9 (ta 9)) 10 (ta 10)) (up (up (up ro 0 (rr 0)) 1 (rr 1)) 2 (rr 2)) ot Bm bk)) rfl ?_
  refine mB hT 20 rfl ?_
  refine mNf (lv2 := [(3, .int 11), (2, .int 3), (0, .ref 0), (1, .int 0)]) (st2 := [.long 0, .int 11, .ref 11]) rfl rfl ?_
  refine mB hT 19 rfl ?_
  refine mB hT 19 rfl ?_
  refine mNf (lv2 := [(3, .int 13), (2, .int 3), (0, .ref 0), (1, .int 0)]) (st2 := [.long (ta 13), .int 13, .ref 11]) rfl rfl ?_
  refine mB hT 1 rfl ?_
  refine mWd (w2 := (MW 2 vs wo u h bo ta (up (up (up (up (up (up (up (up (up (up (up (up (up (up (tsM 2 ta 2 hh) 0 (ta 0)) 1 (ta 1)) 2 (ta 2)) 3 (hh 0)) 4 (ta 4)) 5 (ta 5)) 6 (ta 6)) 7 (hh 1)) 8 (ta 8)) 9 (ta 9)) 10 (ta 10)) 11 0) 12 (ta 12)) 13 (ta 13)) (up (up (up ro 0 (rr 0)) 1 (rr 1)) 2 (rr 2)) ot Bm bk)) rfl ?_
  refine mB hT 18 rfl ?_
  refine mB hT 21 rfl ?_
  refine mNf (lv2 := [(3, .int 15), (2, .int 3), (0, .ref 0), (1, .int 0)]) (st2 := [.long 0, .int 15, .ref 11]) rfl rfl ?_
  refine mB hT 14 rfl ?_
  refine mIf (fun _ => ?_) (fun hn => absurd (lc_ge.mpr (Int64.not_lt.mp hs)) hn)
  refine mB hT 1 rfl ?_
  refine mWd (w2 := (MW 2 vs wo u h bo ta (up (up (up (up (up (up (up (up (up (up (up (up (up (up (up (up (tsM 2 ta 2 hh) 0 (ta 0)) 1 (ta 1)) 2 (ta 2)) 3 (hh 0)) 4 (ta 4)) 5 (ta 5)) 6 (ta 6)) 7 (hh 1)) 8 (ta 8)) 9 (ta 9)) 10 (ta 10)) 11 0) 12 (ta 12)) 13 (ta 13)) 14 (ta 14)) 15 0) (up (up (up ro 0 (rr 0)) 1 (rr 1)) 2 (rr 2)) ot Bm bk)) rfl ?_
  refine mWd (w2 := (MW 2 vs wo u h bo ta (tsM 2 ta 3 hh) (up (up (up ro 0 (rr 0)) 1 (rr 1)) 2 (rr 2)) ot Bm bk)) rfl ?_
  refine hC.2 _ 0 [] _ _ _ _ _ (m_det) rfl rfl (Nat.le_of_ble_eq_true rfl) rfl ?_
  refine mNf (lv2 := [(3, .int 16), (2, .int 3), (0, .ref 0), (1, .int 0)]) (st2 := [.long (rr 3), .int 3, .ref 12]) rfl (by rw [hrr 3] <;> rfl) ?_
  refine mB hT 6 rfl ?_
  exact hR _ (by decide) _ _ _ rfl rfl
set_option maxRecDepth 20000 in
theorem m_solve_2_0n {vs : Int32} {wo un h : Int64} {bo : Nat → Int32} {ta tr ro ot : Nat → Int64} {Bm : Nat → Nat → Nat → Int32} {bk : Nat → Nat → Int32} {u : Int64} {hh rr : Nat → Int64} (hs : wo < 0) (hu : u = -wo) (hq : ∀ j : Nat, hh j = (bk 0 j).toInt64) (hrr : ∀ i : Nat, rr i = -(dtM (tsM 2 ta i hh))) : KX3_solve l D ca ad [.ref 0, .int 0] (MW 2 vs wo un h bo ta tr ro ot Bm bk) none (MW 2 vs wo u h bo ta (tsM 2 ta 3 hh) rr ot Bm bk) := by
  refine PX3_solve (Nat.le_of_ble_eq_true rfl) ?_
  intro G hT hC hR
  refine mB hT 6 rfl ?_
  refine mIf (fun hp => absurd hp (fun q => Int64.not_lt.mpr (lc_ge.mp q) hs)) (fun _ => ?_)
  refine mB hT 4 rfl ?_
  refine mNf (lv2 := [(0, .ref 0), (1, .int 0)]) (st2 := [.long u, .ref 0]) rfl (by rw [hu] <;> rfl) ?_
  refine mB hT 37 rfl ?_
  refine mNf (lv2 := [(3, .int 0), (2, .int 0), (0, .ref 0), (1, .int 0)]) (st2 := [.long (hh 0), .int 0, .ref 11]) rfl (by rw [hq 0] <;> rfl) ?_
  refine mB hT 19 rfl ?_
  refine mB hT 1 rfl ?_
  refine mWd (w2 := (MW 2 vs wo u h bo ta (up (up tr 0 (hh 0)) 1 (ta 1)) ro ot Bm bk)) rfl ?_
  refine mB hT 18 rfl ?_
  refine mNf (lv2 := [(3, .int 2), (2, .int 0), (0, .ref 0), (1, .int 0)]) (st2 := [.long (ta 2), .int 2, .ref 11]) rfl rfl ?_
  refine mB hT 19 rfl ?_
  refine mB hT 32 rfl ?_
  refine mNf (lv2 := [(3, .int 4), (2, .int 0), (0, .ref 0), (1, .int 0)]) (st2 := [.long (hh 1), .int 4, .ref 11]) rfl (by rw [hq 1] <;> rfl) ?_
  refine mB hT 1 rfl ?_
  refine mWd (w2 := (MW 2 vs wo u h bo ta (up (up (up (up (up tr 0 (hh 0)) 1 (ta 1)) 2 (ta 2)) 3 (ta 3)) 4 (hh 1)) ro ot Bm bk)) rfl ?_
  refine mB hT 18 rfl ?_
  refine mB hT 19 rfl ?_
  refine mNf (lv2 := [(3, .int 6), (2, .int 0), (0, .ref 0), (1, .int 0)]) (st2 := [.long (ta 6), .int 6, .ref 11]) rfl rfl ?_
  refine mB hT 19 rfl ?_
  refine mB hT 1 rfl ?_
  refine mWd (w2 := (MW 2 vs wo u h bo ta (up (up (up (up (up (up (up (up tr 0 (hh 0)) 1 (ta 1)) 2 (ta 2)) 3 (ta 3)) 4 (hh 1)) 5 (ta 5)) 6 (ta 6)) 7 (ta 7)) ro ot Bm bk)) rfl ?_
  refine mB hT 20 rfl ?_
  refine mNf (lv2 := [(3, .int 8), (2, .int 0), (0, .ref 0), (1, .int 0)]) (st2 := [.long 0, .int 8, .ref 11]) rfl rfl ?_
  refine mB hT 19 rfl ?_
  refine mB hT 19 rfl ?_
  refine mNf (lv2 := [(3, .int 10), (2, .int 0), (0, .ref 0), (1, .int 0)]) (st2 := [.long (ta 10), .int 10, .ref 11]) rfl rfl ?_
  refine mB hT 1 rfl ?_
  refine mWd (w2 := (MW 2 vs wo u h bo ta (up (up (up (up (up (up (up (up (up (up (up tr 0 (hh 0)) 1 (ta 1)) 2 (ta 2)) 3 (ta 3)) 4 (hh 1)) 5 (ta 5)) 6 (ta 6)) 7 (ta 7)) 8 0) 9 (ta 9)) 10 (ta 10)) ro ot Bm bk)) rfl ?_
  refine mB hT 18 rfl ?_
  refine mB hT 21 rfl ?_
  refine mNf (lv2 := [(3, .int 12), (2, .int 0), (0, .ref 0), (1, .int 0)]) (st2 := [.long 0, .int 12, .ref 11]) rfl rfl ?_
  refine mB hT 19 rfl ?_
  refine mB hT 1 rfl ?_
  refine mWd (w2 := (MW 2 vs wo u h bo ta (up (up (up (up (up (up (up (up (up (up (up (up (up (up tr 0 (hh 0)) 1 (ta 1)) 2 (ta 2)) 3 (ta 3)) 4 (hh 1)) 5 (ta 5)) 6 (ta 6)) 7 (ta 7)) 8 0) 9 (ta 9)) 10 (ta 10)) 11 (ta 11)) 12 0) 13 (ta 13)) ro ot Bm bk)) rfl ?_
  refine mB hT 18 rfl ?_
  refine mNf (lv2 := [(3, .int 14), (2, .int 0), (0, .ref 0), (1, .int 0)]) (st2 := [.long (ta 14), .int 14, .ref 11]) rfl rfl ?_
  refine mB hT 19 rfl ?_
  refine mB hT 14 rfl ?_
  refine mIf (fun hp => absurd hp (fun q => Int64.not_lt.mpr (lc_ge.mp q) hs)) (fun _ => ?_)
  refine mNf (lv2 := [(3, .int 16), (2, .int 0), (0, .ref 0), (1, .int 0)]) (st2 := [.int 0, .ref 12]) rfl rfl ?_
  refine mB hT 1 rfl ?_
  refine mWd (w2 := (MW 2 vs wo u h bo ta (up (up (up (up (up (up (up (up (up (up (up (up (up (up (up (up tr 0 (hh 0)) 1 (ta 1)) 2 (ta 2)) 3 (ta 3)) 4 (hh 1)) 5 (ta 5)) 6 (ta 6)) 7 (ta 7)) 8 0) 9 (ta 9)) 10 (ta 10)) 11 (ta 11)) 12 0) 13 (ta 13)) 14 (ta 14)) 15 (ta 15)) ro ot Bm bk)) rfl ?_
  refine mWd (w2 := (MW 2 vs wo u h bo ta (tsM 2 ta 0 hh) ro ot Bm bk)) rfl ?_
  refine hC.1 _ 0 [] _ _ _ _ _ (m_det) rfl rfl (Nat.le_of_ble_eq_true rfl) rfl ?_
  refine mB hT 2 rfl ?_
  refine mNf (lv2 := [(3, .int 16), (2, .int 0), (0, .ref 0), (1, .int 0)]) (st2 := [.long (rr 0), .int 0, .ref 12]) rfl (by rw [hrr 0] <;> rfl) ?_
  refine mB hT 24 rfl ?_
  refine mNf (lv2 := [(3, .int 0), (2, .int 1), (0, .ref 0), (1, .int 0)]) (st2 := [.long (ta 0), .int 0, .ref 11]) rfl rfl ?_
  refine mB hT 32 rfl ?_
  refine mNf (lv2 := [(3, .int 1), (2, .int 1), (0, .ref 0), (1, .int 0)]) (st2 := [.long (hh 0), .int 1, .ref 11]) rfl (by rw [hq 0] <;> rfl) ?_
  refine mB hT 1 rfl ?_
  refine mWd (w2 := (MW 2 vs wo u h bo ta (up (up (tsM 2 ta 0 hh) 0 (ta 0)) 1 (hh 0)) (up ro 0 (rr 0)) ot Bm bk)) rfl ?_
  refine mB hT 18 rfl ?_
  refine mB hT 19 rfl ?_
  refine mNf (lv2 := [(3, .int 3), (2, .int 1), (0, .ref 0), (1, .int 0)]) (st2 := [.long (ta 3), .int 3, .ref 11]) rfl rfl ?_
  refine mB hT 19 rfl ?_
  refine mB hT 1 rfl ?_
  refine mWd (w2 := (MW 2 vs wo u h bo ta (up (up (up (up (up (tsM 2 ta 0 hh) 0 (ta 0)) 1 (hh 0)) 2 (ta 2)) 3 (ta 3)) 4 (ta 4)) (up ro 0 (rr 0)) ot Bm bk)) rfl ?_
  refine mB hT 31 rfl ?_
  refine mNf (lv2 := [(3, .int 5), (2, .int 1), (0, .ref 0), (1, .int 0)]) (st2 := [.long (hh 1), .int 5, .ref 11]) rfl (by rw [hq 1] <;> rfl) ?_
  refine mB hT 19 rfl ?_
  refine mB hT 19 rfl ?_
  refine mNf (lv2 := [(3, .int 7), (2, .int 1), (0, .ref 0), (1, .int 0)]) (st2 := [.long (ta 7), .int 7, .ref 11]) rfl rfl ?_
  refine mB hT 1 rfl ?_
  refine mWd (w2 := (MW 2 vs wo u h bo ta (up (up (up (up (up (up (up (up (tsM 2 ta 0 hh) 0 (ta 0)) 1 (hh 0)) 2 (ta 2)) 3 (ta 3)) 4 (ta 4)) 5 (hh 1)) 6 (ta 6)) 7 (ta 7)) (up ro 0 (rr 0)) ot Bm bk)) rfl ?_
  refine mB hT 18 rfl ?_
  refine mB hT 21 rfl ?_
  refine mNf (lv2 := [(3, .int 9), (2, .int 1), (0, .ref 0), (1, .int 0)]) (st2 := [.long 0, .int 9, .ref 11]) rfl rfl ?_
  refine mB hT 19 rfl ?_
  refine mB hT 1 rfl ?_
  refine mWd (w2 := (MW 2 vs wo u h bo ta (up (up (up (up (up (up (up (up (up (up (up (tsM 2 ta 0 hh) 0 (ta 0)) 1 (hh 0)) 2 (ta 2)) 3 (ta 3)) 4 (ta 4)) 5 (hh 1)) 6 (ta 6)) 7 (ta 7)) 8 (ta 8)) 9 0) 10 (ta 10)) (up ro 0 (rr 0)) ot Bm bk)) rfl ?_
  refine mB hT 18 rfl ?_
  refine mNf (lv2 := [(3, .int 11), (2, .int 1), (0, .ref 0), (1, .int 0)]) (st2 := [.long (ta 11), .int 11, .ref 11]) rfl rfl ?_
  refine mB hT 19 rfl ?_
  refine mB hT 21 rfl ?_
  refine mNf (lv2 := [(3, .int 13), (2, .int 1), (0, .ref 0), (1, .int 0)]) (st2 := [.long 0, .int 13, .ref 11]) rfl rfl ?_
  refine mB hT 1 rfl ?_
  refine mWd (w2 := (MW 2 vs wo u h bo ta (up (up (up (up (up (up (up (up (up (up (up (up (up (up (tsM 2 ta 0 hh) 0 (ta 0)) 1 (hh 0)) 2 (ta 2)) 3 (ta 3)) 4 (ta 4)) 5 (hh 1)) 6 (ta 6)) 7 (ta 7)) 8 (ta 8)) 9 0) 10 (ta 10)) 11 (ta 11)) 12 (ta 12)) 13 0) (up ro 0 (rr 0)) ot Bm bk)) rfl ?_
  refine mB hT 18 rfl ?_
  refine mB hT 19 rfl ?_
  refine mNf (lv2 := [(3, .int 15), (2, .int 1), (0, .ref 0), (1, .int 0)]) (st2 := [.long (ta 15), .int 15, .ref 11]) rfl rfl ?_
  refine mB hT 14 rfl ?_
  refine mIf (fun hp => absurd hp (fun q => Int64.not_lt.mpr (lc_ge.mp q) hs)) (fun _ => ?_)
  refine mB hT 1 rfl ?_
  refine mWd (w2 := (MW 2 vs wo u h bo ta (up (up (up (up (up (up (up (up (up (up (up (up (up (up (up (up (tsM 2 ta 0 hh) 0 (ta 0)) 1 (hh 0)) 2 (ta 2)) 3 (ta 3)) 4 (ta 4)) 5 (hh 1)) 6 (ta 6)) 7 (ta 7)) 8 (ta 8)) 9 0) 10 (ta 10)) 11 (ta 11)) 12 (ta 12)) 13 0) 14 (ta 14)) 15 (ta 15)) (up ro 0 (rr 0)) ot Bm bk)) rfl ?_
  refine mWd (w2 := (MW 2 vs wo u h bo ta (tsM 2 ta 1 hh) (up ro 0 (rr 0)) ot Bm bk)) rfl ?_
  refine hC.1 _ 0 [] _ _ _ _ _ (m_det) rfl rfl (Nat.le_of_ble_eq_true rfl) rfl ?_
  refine mB hT 2 rfl ?_
  refine mNf (lv2 := [(3, .int 16), (2, .int 1), (0, .ref 0), (1, .int 0)]) (st2 := [.long (rr 1), .int 1, .ref 12]) rfl (by rw [hrr 1] <;> rfl) ?_
  refine mB hT 24 rfl ?_
  refine mNf (lv2 := [(3, .int 0), (2, .int 2), (0, .ref 0), (1, .int 0)]) (st2 := [.long (ta 0), .int 0, .ref 11]) rfl rfl ?_
  refine mB hT 19 rfl ?_
  refine mB hT 1 rfl ?_
  refine mWd (w2 := (MW 2 vs wo u h bo ta (up (up (tsM 2 ta 1 hh) 0 (ta 0)) 1 (ta 1)) (up (up ro 0 (rr 0)) 1 (rr 1)) ot Bm bk)) rfl ?_
  refine mB hT 31 rfl ?_
  refine mNf (lv2 := [(3, .int 2), (2, .int 2), (0, .ref 0), (1, .int 0)]) (st2 := [.long (hh 0), .int 2, .ref 11]) rfl (by rw [hq 0] <;> rfl) ?_
  refine mB hT 19 rfl ?_
  refine mB hT 19 rfl ?_
  refine mNf (lv2 := [(3, .int 4), (2, .int 2), (0, .ref 0), (1, .int 0)]) (st2 := [.long (ta 4), .int 4, .ref 11]) rfl rfl ?_
  refine mB hT 1 rfl ?_
  refine mWd (w2 := (MW 2 vs wo u h bo ta (up (up (up (up (up (tsM 2 ta 1 hh) 0 (ta 0)) 1 (ta 1)) 2 (hh 0)) 3 (ta 3)) 4 (ta 4)) (up (up ro 0 (rr 0)) 1 (rr 1)) ot Bm bk)) rfl ?_
  refine mB hT 18 rfl ?_
  refine mB hT 32 rfl ?_
  refine mNf (lv2 := [(3, .int 6), (2, .int 2), (0, .ref 0), (1, .int 0)]) (st2 := [.long (hh 1), .int 6, .ref 11]) rfl (by rw [hq 1] <;> rfl) ?_
  refine mB hT 19 rfl ?_
  refine mB hT 1 rfl ?_
  refine mWd (w2 := (MW 2 vs wo u h bo ta (up (up (up (up (up (up (up (up (tsM 2 ta 1 hh) 0 (ta 0)) 1 (ta 1)) 2 (hh 0)) 3 (ta 3)) 4 (ta 4)) 5 (ta 5)) 6 (hh 1)) 7 (ta 7)) (up (up ro 0 (rr 0)) 1 (rr 1)) ot Bm bk)) rfl ?_
  refine mB hT 18 rfl ?_
  refine mNf (lv2 := [(3, .int 8), (2, .int 2), (0, .ref 0), (1, .int 0)]) (st2 := [.long (ta 8), .int 8, .ref 11]) rfl rfl ?_
  refine mB hT 19 rfl ?_
  refine mB hT 21 rfl ?_
  refine mNf (lv2 := [(3, .int 10), (2, .int 2), (0, .ref 0), (1, .int 0)]) (st2 := [.long 0, .int 10, .ref 11]) rfl rfl ?_
  refine mB hT 1 rfl ?_
  refine mWd (w2 := (MW 2 vs wo u h bo ta (up (up (up (up (up (up (up (up (up (up (up (tsM 2 ta 1 hh) 0 (ta 0)) 1 (ta 1)) 2 (hh 0)) 3 (ta 3)) 4 (ta 4)) 5 (ta 5)) 6 (hh 1)) 7 (ta 7)) 8 (ta 8)) 9 (ta 9)) 10 0) (up (up ro 0 (rr 0)) 1 (rr 1)) ot Bm bk)) rfl ?_
  refine mB hT 18 rfl ?_
  refine mB hT 19 rfl ?_
  refine mNf (lv2 := [(3, .int 12), (2, .int 2), (0, .ref 0), (1, .int 0)]) (st2 := [.long (ta 12), .int 12, .ref 11]) rfl rfl ?_
  refine mB hT 19 rfl ?_
  refine mB hT 1 rfl ?_
  refine mWd (w2 := (MW 2 vs wo u h bo ta (up (up (up (up (up (up (up (up (up (up (up (up (up (up (tsM 2 ta 1 hh) 0 (ta 0)) 1 (ta 1)) 2 (hh 0)) 3 (ta 3)) 4 (ta 4)) 5 (ta 5)) 6 (hh 1)) 7 (ta 7)) 8 (ta 8)) 9 (ta 9)) 10 0) 11 (ta 11)) 12 (ta 12)) 13 (ta 13)) (up (up ro 0 (rr 0)) 1 (rr 1)) ot Bm bk)) rfl ?_
  refine mB hT 20 rfl ?_
  refine mNf (lv2 := [(3, .int 14), (2, .int 2), (0, .ref 0), (1, .int 0)]) (st2 := [.long 0, .int 14, .ref 11]) rfl rfl ?_
  refine mB hT 19 rfl ?_
  refine mB hT 14 rfl ?_
  refine mIf (fun hp => absurd hp (fun q => Int64.not_lt.mpr (lc_ge.mp q) hs)) (fun _ => ?_)
  refine mNf (lv2 := [(3, .int 16), (2, .int 2), (0, .ref 0), (1, .int 0)]) (st2 := [.int 2, .ref 12]) rfl rfl ?_
  refine mB hT 1 rfl ?_
  refine mWd (w2 := (MW 2 vs wo u h bo ta (up (up (up (up (up (up (up (up (up (up (up (up (up (up (up (up (tsM 2 ta 1 hh) 0 (ta 0)) 1 (ta 1)) 2 (hh 0)) 3 (ta 3)) 4 (ta 4)) 5 (ta 5)) 6 (hh 1)) 7 (ta 7)) 8 (ta 8)) 9 (ta 9)) 10 0) 11 (ta 11)) 12 (ta 12)) 13 (ta 13)) 14 0) 15 (ta 15)) (up (up ro 0 (rr 0)) 1 (rr 1)) ot Bm bk)) rfl ?_
  refine mWd (w2 := (MW 2 vs wo u h bo ta (tsM 2 ta 2 hh) (up (up ro 0 (rr 0)) 1 (rr 1)) ot Bm bk)) rfl ?_
  refine hC.1 _ 0 [] _ _ _ _ _ (m_det) rfl rfl (Nat.le_of_ble_eq_true rfl) rfl ?_
  refine mB hT 2 rfl ?_
  refine mNf (lv2 := [(3, .int 16), (2, .int 2), (0, .ref 0), (1, .int 0)]) (st2 := [.long (rr 2), .int 2, .ref 12]) rfl (by rw [hrr 2] <;> rfl) ?_
  refine mB hT 24 rfl ?_
  refine mNf (lv2 := [(3, .int 0), (2, .int 3), (0, .ref 0), (1, .int 0)]) (st2 := [.long (ta 0), .int 0, .ref 11]) rfl rfl ?_
  refine mB hT 19 rfl ?_
  refine mB hT 1 rfl ?_
  refine mWd (w2 := (MW 2 vs wo u h bo ta (up (up (tsM 2 ta 2 hh) 0 (ta 0)) 1 (ta 1)) (up (up (up ro 0 (rr 0)) 1 (rr 1)) 2 (rr 2)) ot Bm bk)) rfl ?_
  refine mB hT 18 rfl ?_
  refine mNf (lv2 := [(3, .int 2), (2, .int 3), (0, .ref 0), (1, .int 0)]) (st2 := [.long (ta 2), .int 2, .ref 11]) rfl rfl ?_
  refine mB hT 32 rfl ?_
  refine mNf (lv2 := [(3, .int 3), (2, .int 3), (0, .ref 0), (1, .int 0)]) (st2 := [.long (hh 0), .int 3, .ref 11]) rfl (by rw [hq 0] <;> rfl) ?_
  refine mB hT 19 rfl ?_
  refine mB hT 1 rfl ?_
  refine mWd (w2 := (MW 2 vs wo u h bo ta (up (up (up (up (up (tsM 2 ta 2 hh) 0 (ta 0)) 1 (ta 1)) 2 (ta 2)) 3 (hh 0)) 4 (ta 4)) (up (up (up ro 0 (rr 0)) 1 (rr 1)) 2 (rr 2)) ot Bm bk)) rfl ?_
  refine mB hT 18 rfl ?_
  refine mNf (lv2 := [(3, .int 5), (2, .int 3), (0, .ref 0), (1, .int 0)]) (st2 := [.long (ta 5), .int 5, .ref 11]) rfl rfl ?_
  refine mB hT 19 rfl ?_
  refine mB hT 32 rfl ?_
  refine mNf (lv2 := [(3, .int 7), (2, .int 3), (0, .ref 0), (1, .int 0)]) (st2 := [.long (hh 1), .int 7, .ref 11]) rfl (by rw [hq 1] <;> rfl) ?_
  refine mB hT 1 rfl ?_
  refine mWd (w2 := (MW 2 vs wo u h bo ta (up (up (up (up (up (up (up (up (tsM 2 ta 2 hh) 0 (ta 0)) 1 (ta 1)) 2 (ta 2)) 3 (hh 0)) 4 (ta 4)) 5 (ta 5)) 6 (ta 6)) 7 (hh 1)) (up (up (up ro 0 (rr 0)) 1 (rr 1)) 2 (rr 2)) ot Bm bk)) rfl ?_
  refine mB hT 18 rfl ?_
  refine mB hT 19 rfl ?_
  refine mNf (lv2 := [(3, .int 9), (2, .int 3), (0, .ref 0), (1, .int 0)]) (st2 := [.long (ta 9), .int 9, .ref 11]) rfl rfl ?_
  refine mB hT 19 rfl ?_
  refine mB hT 1 rfl ?_
  refine mWd (w2 := (MW 2 vs wo u h bo ta (up (up (up (up (up (up (up (up (up (up (up (tsM 2 ta 2 hh) 0 (ta 0)) 1 (ta 1)) 2 (ta 2)) 3 (hh 0)) 4 (ta 4)) 5 (ta 5)) 6 (ta 6)) 7 (hh 1)) 8 (ta 8)) 9 (ta 9)) 10 (ta 10)) (up (up (up ro 0 (rr 0)) 1 (rr 1)) 2 (rr 2)) ot Bm bk)) rfl ?_
  refine mB hT 20 rfl ?_
  refine mNf (lv2 := [(3, .int 11), (2, .int 3), (0, .ref 0), (1, .int 0)]) (st2 := [.long 0, .int 11, .ref 11]) rfl rfl ?_
  refine mB hT 19 rfl ?_
  refine mB hT 19 rfl ?_
  refine mNf (lv2 := [(3, .int 13), (2, .int 3), (0, .ref 0), (1, .int 0)]) (st2 := [.long (ta 13), .int 13, .ref 11]) rfl rfl ?_
  refine mB hT 1 rfl ?_
  refine mWd (w2 := (MW 2 vs wo u h bo ta (up (up (up (up (up (up (up (up (up (up (up (up (up (up (tsM 2 ta 2 hh) 0 (ta 0)) 1 (ta 1)) 2 (ta 2)) 3 (hh 0)) 4 (ta 4)) 5 (ta 5)) 6 (ta 6)) 7 (hh 1)) 8 (ta 8)) 9 (ta 9)) 10 (ta 10)) 11 0) 12 (ta 12)) 13 (ta 13)) (up (up (up ro 0 (rr 0)) 1 (rr 1)) 2 (rr 2)) ot Bm bk)) rfl ?_
  refine mB hT 18 rfl ?_
  refine mB hT 21 rfl ?_
  refine mNf (lv2 := [(3, .int 15), (2, .int 3), (0, .ref 0), (1, .int 0)]) (st2 := [.long 0, .int 15, .ref 11]) rfl rfl ?_
  refine mB hT 14 rfl ?_
  refine mIf (fun hp => absurd hp (fun q => Int64.not_lt.mpr (lc_ge.mp q) hs)) (fun _ => ?_)
  refine mB hT 1 rfl ?_
  refine mWd (w2 := (MW 2 vs wo u h bo ta (up (up (up (up (up (up (up (up (up (up (up (up (up (up (up (up (tsM 2 ta 2 hh) 0 (ta 0)) 1 (ta 1)) 2 (ta 2)) 3 (hh 0)) 4 (ta 4)) 5 (ta 5)) 6 (ta 6)) 7 (hh 1)) 8 (ta 8)) 9 (ta 9)) 10 (ta 10)) 11 0) 12 (ta 12)) 13 (ta 13)) 14 (ta 14)) 15 0) (up (up (up ro 0 (rr 0)) 1 (rr 1)) 2 (rr 2)) ot Bm bk)) rfl ?_
  refine mWd (w2 := (MW 2 vs wo u h bo ta (tsM 2 ta 3 hh) (up (up (up ro 0 (rr 0)) 1 (rr 1)) 2 (rr 2)) ot Bm bk)) rfl ?_
  refine hC.1 _ 0 [] _ _ _ _ _ (m_det) rfl rfl (Nat.le_of_ble_eq_true rfl) rfl ?_
  refine mB hT 2 rfl ?_
  refine mNf (lv2 := [(3, .int 16), (2, .int 3), (0, .ref 0), (1, .int 0)]) (st2 := [.long (rr 3), .int 3, .ref 12]) rfl (by rw [hrr 3] <;> rfl) ?_
  refine mB hT 6 rfl ?_
  exact hR _ (by decide) _ _ _ rfl rfl
set_option maxRecDepth 20000 in
theorem m_solve_2_1p {vs : Int32} {wo un h : Int64} {bo : Nat → Int32} {ta tr ro ot : Nat → Int64} {Bm : Nat → Nat → Nat → Int32} {bk : Nat → Nat → Int32} {u : Int64} {hh rr : Nat → Int64} (hs : ¬ wo < 0) (hu : u = wo) (hq : ∀ j : Nat, hh j = (bk 1 j).toInt64) (hrr : ∀ i : Nat, rr i = dtM (tsM 2 ta i hh)) : KX3_solve l D ca ad [.ref 0, .int 1] (MW 2 vs wo un h bo ta tr ro ot Bm bk) none (MW 2 vs wo u h bo ta (tsM 2 ta 3 hh) rr ot Bm bk) := by
  refine PX3_solve (Nat.le_of_ble_eq_true rfl) ?_
  intro G hT hC hR
  refine mB hT 6 rfl ?_
  refine mIf (fun _ => ?_) (fun hn => absurd (lc_ge.mpr (Int64.not_lt.mp hs)) hn)
  refine mB hT 2 rfl ?_
  refine mNf (lv2 := [(0, .ref 0), (1, .int 1)]) (st2 := [.long u, .ref 0]) rfl (by rw [hu] <;> rfl) ?_
  refine mB hT 37 rfl ?_
  refine mNf (lv2 := [(3, .int 0), (2, .int 0), (0, .ref 0), (1, .int 1)]) (st2 := [.long (hh 0), .int 0, .ref 11]) rfl (by rw [hq 0] <;> rfl) ?_
  refine mB hT 19 rfl ?_
  refine mB hT 1 rfl ?_
  refine mWd (w2 := (MW 2 vs wo u h bo ta (up (up tr 0 (hh 0)) 1 (ta 1)) ro ot Bm bk)) rfl ?_
  refine mB hT 18 rfl ?_
  refine mNf (lv2 := [(3, .int 2), (2, .int 0), (0, .ref 0), (1, .int 1)]) (st2 := [.long (ta 2), .int 2, .ref 11]) rfl rfl ?_
  refine mB hT 19 rfl ?_
  refine mB hT 32 rfl ?_
  refine mNf (lv2 := [(3, .int 4), (2, .int 0), (0, .ref 0), (1, .int 1)]) (st2 := [.long (hh 1), .int 4, .ref 11]) rfl (by rw [hq 1] <;> rfl) ?_
  refine mB hT 1 rfl ?_
  refine mWd (w2 := (MW 2 vs wo u h bo ta (up (up (up (up (up tr 0 (hh 0)) 1 (ta 1)) 2 (ta 2)) 3 (ta 3)) 4 (hh 1)) ro ot Bm bk)) rfl ?_
  refine mB hT 18 rfl ?_
  refine mB hT 19 rfl ?_
  refine mNf (lv2 := [(3, .int 6), (2, .int 0), (0, .ref 0), (1, .int 1)]) (st2 := [.long (ta 6), .int 6, .ref 11]) rfl rfl ?_
  refine mB hT 19 rfl ?_
  refine mB hT 1 rfl ?_
  refine mWd (w2 := (MW 2 vs wo u h bo ta (up (up (up (up (up (up (up (up tr 0 (hh 0)) 1 (ta 1)) 2 (ta 2)) 3 (ta 3)) 4 (hh 1)) 5 (ta 5)) 6 (ta 6)) 7 (ta 7)) ro ot Bm bk)) rfl ?_
  refine mB hT 20 rfl ?_
  refine mNf (lv2 := [(3, .int 8), (2, .int 0), (0, .ref 0), (1, .int 1)]) (st2 := [.long 0, .int 8, .ref 11]) rfl rfl ?_
  refine mB hT 19 rfl ?_
  refine mB hT 19 rfl ?_
  refine mNf (lv2 := [(3, .int 10), (2, .int 0), (0, .ref 0), (1, .int 1)]) (st2 := [.long (ta 10), .int 10, .ref 11]) rfl rfl ?_
  refine mB hT 1 rfl ?_
  refine mWd (w2 := (MW 2 vs wo u h bo ta (up (up (up (up (up (up (up (up (up (up (up tr 0 (hh 0)) 1 (ta 1)) 2 (ta 2)) 3 (ta 3)) 4 (hh 1)) 5 (ta 5)) 6 (ta 6)) 7 (ta 7)) 8 0) 9 (ta 9)) 10 (ta 10)) ro ot Bm bk)) rfl ?_
  refine mB hT 18 rfl ?_
  refine mB hT 21 rfl ?_
  refine mNf (lv2 := [(3, .int 12), (2, .int 0), (0, .ref 0), (1, .int 1)]) (st2 := [.long 0, .int 12, .ref 11]) rfl rfl ?_
  refine mB hT 19 rfl ?_
  refine mB hT 1 rfl ?_
  refine mWd (w2 := (MW 2 vs wo u h bo ta (up (up (up (up (up (up (up (up (up (up (up (up (up (up tr 0 (hh 0)) 1 (ta 1)) 2 (ta 2)) 3 (ta 3)) 4 (hh 1)) 5 (ta 5)) 6 (ta 6)) 7 (ta 7)) 8 0) 9 (ta 9)) 10 (ta 10)) 11 (ta 11)) 12 0) 13 (ta 13)) ro ot Bm bk)) rfl ?_
  refine mB hT 18 rfl ?_
  refine mNf (lv2 := [(3, .int 14), (2, .int 0), (0, .ref 0), (1, .int 1)]) (st2 := [.long (ta 14), .int 14, .ref 11]) rfl rfl ?_
  refine mB hT 19 rfl ?_
  refine mB hT 14 rfl ?_
  refine mIf (fun _ => ?_) (fun hn => absurd (lc_ge.mpr (Int64.not_lt.mp hs)) hn)
  refine mNf (lv2 := [(3, .int 16), (2, .int 0), (0, .ref 0), (1, .int 1)]) (st2 := [.int 0, .ref 12]) rfl rfl ?_
  refine mB hT 1 rfl ?_
  refine mWd (w2 := (MW 2 vs wo u h bo ta (up (up (up (up (up (up (up (up (up (up (up (up (up (up (up (up tr 0 (hh 0)) 1 (ta 1)) 2 (ta 2)) 3 (ta 3)) 4 (hh 1)) 5 (ta 5)) 6 (ta 6)) 7 (ta 7)) 8 0) 9 (ta 9)) 10 (ta 10)) 11 (ta 11)) 12 0) 13 (ta 13)) 14 (ta 14)) 15 (ta 15)) ro ot Bm bk)) rfl ?_
  refine mWd (w2 := (MW 2 vs wo u h bo ta (tsM 2 ta 0 hh) ro ot Bm bk)) rfl ?_
  refine hC.2 _ 0 [] _ _ _ _ _ (m_det) rfl rfl (Nat.le_of_ble_eq_true rfl) rfl ?_
  refine mNf (lv2 := [(3, .int 16), (2, .int 0), (0, .ref 0), (1, .int 1)]) (st2 := [.long (rr 0), .int 0, .ref 12]) rfl (by rw [hrr 0] <;> rfl) ?_
  refine mB hT 24 rfl ?_
  refine mNf (lv2 := [(3, .int 0), (2, .int 1), (0, .ref 0), (1, .int 1)]) (st2 := [.long (ta 0), .int 0, .ref 11]) rfl rfl ?_
  refine mB hT 32 rfl ?_
  refine mNf (lv2 := [(3, .int 1), (2, .int 1), (0, .ref 0), (1, .int 1)]) (st2 := [.long (hh 0), .int 1, .ref 11]) rfl (by rw [hq 0] <;> rfl) ?_
  refine mB hT 1 rfl ?_
  refine mWd (w2 := (MW 2 vs wo u h bo ta (up (up (tsM 2 ta 0 hh) 0 (ta 0)) 1 (hh 0)) (up ro 0 (rr 0)) ot Bm bk)) rfl ?_
  refine mB hT 18 rfl ?_
  refine mB hT 19 rfl ?_
  refine mNf (lv2 := [(3, .int 3), (2, .int 1), (0, .ref 0), (1, .int 1)]) (st2 := [.long (ta 3), .int 3, .ref 11]) rfl rfl ?_
  refine mB hT 19 rfl ?_
  refine mB hT 1 rfl ?_
  refine mWd (w2 := (MW 2 vs wo u h bo ta (up (up (up (up (up (tsM 2 ta 0 hh) 0 (ta 0)) 1 (hh 0)) 2 (ta 2)) 3 (ta 3)) 4 (ta 4)) (up ro 0 (rr 0)) ot Bm bk)) rfl ?_
  refine mB hT 31 rfl ?_
  refine mNf (lv2 := [(3, .int 5), (2, .int 1), (0, .ref 0), (1, .int 1)]) (st2 := [.long (hh 1), .int 5, .ref 11]) rfl (by rw [hq 1] <;> rfl) ?_
  refine mB hT 19 rfl ?_
  refine mB hT 19 rfl ?_
  refine mNf (lv2 := [(3, .int 7), (2, .int 1), (0, .ref 0), (1, .int 1)]) (st2 := [.long (ta 7), .int 7, .ref 11]) rfl rfl ?_
  refine mB hT 1 rfl ?_
  refine mWd (w2 := (MW 2 vs wo u h bo ta (up (up (up (up (up (up (up (up (tsM 2 ta 0 hh) 0 (ta 0)) 1 (hh 0)) 2 (ta 2)) 3 (ta 3)) 4 (ta 4)) 5 (hh 1)) 6 (ta 6)) 7 (ta 7)) (up ro 0 (rr 0)) ot Bm bk)) rfl ?_
  refine mB hT 18 rfl ?_
  refine mB hT 21 rfl ?_
  refine mNf (lv2 := [(3, .int 9), (2, .int 1), (0, .ref 0), (1, .int 1)]) (st2 := [.long 0, .int 9, .ref 11]) rfl rfl ?_
  refine mB hT 19 rfl ?_
  refine mB hT 1 rfl ?_
  refine mWd (w2 := (MW 2 vs wo u h bo ta (up (up (up (up (up (up (up (up (up (up (up (tsM 2 ta 0 hh) 0 (ta 0)) 1 (hh 0)) 2 (ta 2)) 3 (ta 3)) 4 (ta 4)) 5 (hh 1)) 6 (ta 6)) 7 (ta 7)) 8 (ta 8)) 9 0) 10 (ta 10)) (up ro 0 (rr 0)) ot Bm bk)) rfl ?_
  refine mB hT 18 rfl ?_
  refine mNf (lv2 := [(3, .int 11), (2, .int 1), (0, .ref 0), (1, .int 1)]) (st2 := [.long (ta 11), .int 11, .ref 11]) rfl rfl ?_
  refine mB hT 19 rfl ?_
  refine mB hT 21 rfl ?_
  refine mNf (lv2 := [(3, .int 13), (2, .int 1), (0, .ref 0), (1, .int 1)]) (st2 := [.long 0, .int 13, .ref 11]) rfl rfl ?_
  refine mB hT 1 rfl ?_
  refine mWd (w2 := (MW 2 vs wo u h bo ta (up (up (up (up (up (up (up (up (up (up (up (up (up (up (tsM 2 ta 0 hh) 0 (ta 0)) 1 (hh 0)) 2 (ta 2)) 3 (ta 3)) 4 (ta 4)) 5 (hh 1)) 6 (ta 6)) 7 (ta 7)) 8 (ta 8)) 9 0) 10 (ta 10)) 11 (ta 11)) 12 (ta 12)) 13 0) (up ro 0 (rr 0)) ot Bm bk)) rfl ?_
  refine mB hT 18 rfl ?_
  refine mB hT 19 rfl ?_
  refine mNf (lv2 := [(3, .int 15), (2, .int 1), (0, .ref 0), (1, .int 1)]) (st2 := [.long (ta 15), .int 15, .ref 11]) rfl rfl ?_
  refine mB hT 14 rfl ?_
  refine mIf (fun _ => ?_) (fun hn => absurd (lc_ge.mpr (Int64.not_lt.mp hs)) hn)
  refine mB hT 1 rfl ?_
  refine mWd (w2 := (MW 2 vs wo u h bo ta (up (up (up (up (up (up (up (up (up (up (up (up (up (up (up (up (tsM 2 ta 0 hh) 0 (ta 0)) 1 (hh 0)) 2 (ta 2)) 3 (ta 3)) 4 (ta 4)) 5 (hh 1)) 6 (ta 6)) 7 (ta 7)) 8 (ta 8)) 9 0) 10 (ta 10)) 11 (ta 11)) 12 (ta 12)) 13 0) 14 (ta 14)) 15 (ta 15)) (up ro 0 (rr 0)) ot Bm bk)) rfl ?_
  refine mWd (w2 := (MW 2 vs wo u h bo ta (tsM 2 ta 1 hh) (up ro 0 (rr 0)) ot Bm bk)) rfl ?_
  refine hC.2 _ 0 [] _ _ _ _ _ (m_det) rfl rfl (Nat.le_of_ble_eq_true rfl) rfl ?_
  refine mNf (lv2 := [(3, .int 16), (2, .int 1), (0, .ref 0), (1, .int 1)]) (st2 := [.long (rr 1), .int 1, .ref 12]) rfl (by rw [hrr 1] <;> rfl) ?_
  refine mB hT 24 rfl ?_
  refine mNf (lv2 := [(3, .int 0), (2, .int 2), (0, .ref 0), (1, .int 1)]) (st2 := [.long (ta 0), .int 0, .ref 11]) rfl rfl ?_
  refine mB hT 19 rfl ?_
  refine mB hT 1 rfl ?_
  refine mWd (w2 := (MW 2 vs wo u h bo ta (up (up (tsM 2 ta 1 hh) 0 (ta 0)) 1 (ta 1)) (up (up ro 0 (rr 0)) 1 (rr 1)) ot Bm bk)) rfl ?_
  refine mB hT 31 rfl ?_
  refine mNf (lv2 := [(3, .int 2), (2, .int 2), (0, .ref 0), (1, .int 1)]) (st2 := [.long (hh 0), .int 2, .ref 11]) rfl (by rw [hq 0] <;> rfl) ?_
  refine mB hT 19 rfl ?_
  refine mB hT 19 rfl ?_
  refine mNf (lv2 := [(3, .int 4), (2, .int 2), (0, .ref 0), (1, .int 1)]) (st2 := [.long (ta 4), .int 4, .ref 11]) rfl rfl ?_
  refine mB hT 1 rfl ?_
  refine mWd (w2 := (MW 2 vs wo u h bo ta (up (up (up (up (up (tsM 2 ta 1 hh) 0 (ta 0)) 1 (ta 1)) 2 (hh 0)) 3 (ta 3)) 4 (ta 4)) (up (up ro 0 (rr 0)) 1 (rr 1)) ot Bm bk)) rfl ?_
  refine mB hT 18 rfl ?_
  refine mB hT 32 rfl ?_
  refine mNf (lv2 := [(3, .int 6), (2, .int 2), (0, .ref 0), (1, .int 1)]) (st2 := [.long (hh 1), .int 6, .ref 11]) rfl (by rw [hq 1] <;> rfl) ?_
  refine mB hT 19 rfl ?_
  refine mB hT 1 rfl ?_
  refine mWd (w2 := (MW 2 vs wo u h bo ta (up (up (up (up (up (up (up (up (tsM 2 ta 1 hh) 0 (ta 0)) 1 (ta 1)) 2 (hh 0)) 3 (ta 3)) 4 (ta 4)) 5 (ta 5)) 6 (hh 1)) 7 (ta 7)) (up (up ro 0 (rr 0)) 1 (rr 1)) ot Bm bk)) rfl ?_
  refine mB hT 18 rfl ?_
  refine mNf (lv2 := [(3, .int 8), (2, .int 2), (0, .ref 0), (1, .int 1)]) (st2 := [.long (ta 8), .int 8, .ref 11]) rfl rfl ?_
  refine mB hT 19 rfl ?_
  refine mB hT 21 rfl ?_
  refine mNf (lv2 := [(3, .int 10), (2, .int 2), (0, .ref 0), (1, .int 1)]) (st2 := [.long 0, .int 10, .ref 11]) rfl rfl ?_
  refine mB hT 1 rfl ?_
  refine mWd (w2 := (MW 2 vs wo u h bo ta (up (up (up (up (up (up (up (up (up (up (up (tsM 2 ta 1 hh) 0 (ta 0)) 1 (ta 1)) 2 (hh 0)) 3 (ta 3)) 4 (ta 4)) 5 (ta 5)) 6 (hh 1)) 7 (ta 7)) 8 (ta 8)) 9 (ta 9)) 10 0) (up (up ro 0 (rr 0)) 1 (rr 1)) ot Bm bk)) rfl ?_
  refine mB hT 18 rfl ?_
  refine mB hT 19 rfl ?_
  refine mNf (lv2 := [(3, .int 12), (2, .int 2), (0, .ref 0), (1, .int 1)]) (st2 := [.long (ta 12), .int 12, .ref 11]) rfl rfl ?_
  refine mB hT 19 rfl ?_
  refine mB hT 1 rfl ?_
  refine mWd (w2 := (MW 2 vs wo u h bo ta (up (up (up (up (up (up (up (up (up (up (up (up (up (up (tsM 2 ta 1 hh) 0 (ta 0)) 1 (ta 1)) 2 (hh 0)) 3 (ta 3)) 4 (ta 4)) 5 (ta 5)) 6 (hh 1)) 7 (ta 7)) 8 (ta 8)) 9 (ta 9)) 10 0) 11 (ta 11)) 12 (ta 12)) 13 (ta 13)) (up (up ro 0 (rr 0)) 1 (rr 1)) ot Bm bk)) rfl ?_
  refine mB hT 20 rfl ?_
  refine mNf (lv2 := [(3, .int 14), (2, .int 2), (0, .ref 0), (1, .int 1)]) (st2 := [.long 0, .int 14, .ref 11]) rfl rfl ?_
  refine mB hT 19 rfl ?_
  refine mB hT 14 rfl ?_
  refine mIf (fun _ => ?_) (fun hn => absurd (lc_ge.mpr (Int64.not_lt.mp hs)) hn)
  refine mNf (lv2 := [(3, .int 16), (2, .int 2), (0, .ref 0), (1, .int 1)]) (st2 := [.int 2, .ref 12]) rfl rfl ?_
  refine mB hT 1 rfl ?_
  refine mWd (w2 := (MW 2 vs wo u h bo ta (up (up (up (up (up (up (up (up (up (up (up (up (up (up (up (up (tsM 2 ta 1 hh) 0 (ta 0)) 1 (ta 1)) 2 (hh 0)) 3 (ta 3)) 4 (ta 4)) 5 (ta 5)) 6 (hh 1)) 7 (ta 7)) 8 (ta 8)) 9 (ta 9)) 10 0) 11 (ta 11)) 12 (ta 12)) 13 (ta 13)) 14 0) 15 (ta 15)) (up (up ro 0 (rr 0)) 1 (rr 1)) ot Bm bk)) rfl ?_
  refine mWd (w2 := (MW 2 vs wo u h bo ta (tsM 2 ta 2 hh) (up (up ro 0 (rr 0)) 1 (rr 1)) ot Bm bk)) rfl ?_
  refine hC.2 _ 0 [] _ _ _ _ _ (m_det) rfl rfl (Nat.le_of_ble_eq_true rfl) rfl ?_
  refine mNf (lv2 := [(3, .int 16), (2, .int 2), (0, .ref 0), (1, .int 1)]) (st2 := [.long (rr 2), .int 2, .ref 12]) rfl (by rw [hrr 2] <;> rfl) ?_
  refine mB hT 24 rfl ?_
  refine mNf (lv2 := [(3, .int 0), (2, .int 3), (0, .ref 0), (1, .int 1)]) (st2 := [.long (ta 0), .int 0, .ref 11]) rfl rfl ?_
  refine mB hT 19 rfl ?_
  refine mB hT 1 rfl ?_
  refine mWd (w2 := (MW 2 vs wo u h bo ta (up (up (tsM 2 ta 2 hh) 0 (ta 0)) 1 (ta 1)) (up (up (up ro 0 (rr 0)) 1 (rr 1)) 2 (rr 2)) ot Bm bk)) rfl ?_
  refine mB hT 18 rfl ?_
  refine mNf (lv2 := [(3, .int 2), (2, .int 3), (0, .ref 0), (1, .int 1)]) (st2 := [.long (ta 2), .int 2, .ref 11]) rfl rfl ?_
  refine mB hT 32 rfl ?_
  refine mNf (lv2 := [(3, .int 3), (2, .int 3), (0, .ref 0), (1, .int 1)]) (st2 := [.long (hh 0), .int 3, .ref 11]) rfl (by rw [hq 0] <;> rfl) ?_
  refine mB hT 19 rfl ?_
  refine mB hT 1 rfl ?_
  refine mWd (w2 := (MW 2 vs wo u h bo ta (up (up (up (up (up (tsM 2 ta 2 hh) 0 (ta 0)) 1 (ta 1)) 2 (ta 2)) 3 (hh 0)) 4 (ta 4)) (up (up (up ro 0 (rr 0)) 1 (rr 1)) 2 (rr 2)) ot Bm bk)) rfl ?_
  refine mB hT 18 rfl ?_
  refine mNf (lv2 := [(3, .int 5), (2, .int 3), (0, .ref 0), (1, .int 1)]) (st2 := [.long (ta 5), .int 5, .ref 11]) rfl rfl ?_
  refine mB hT 19 rfl ?_
  refine mB hT 32 rfl ?_
  refine mNf (lv2 := [(3, .int 7), (2, .int 3), (0, .ref 0), (1, .int 1)]) (st2 := [.long (hh 1), .int 7, .ref 11]) rfl (by rw [hq 1] <;> rfl) ?_
  refine mB hT 1 rfl ?_
  refine mWd (w2 := (MW 2 vs wo u h bo ta (up (up (up (up (up (up (up (up (tsM 2 ta 2 hh) 0 (ta 0)) 1 (ta 1)) 2 (ta 2)) 3 (hh 0)) 4 (ta 4)) 5 (ta 5)) 6 (ta 6)) 7 (hh 1)) (up (up (up ro 0 (rr 0)) 1 (rr 1)) 2 (rr 2)) ot Bm bk)) rfl ?_
  refine mB hT 18 rfl ?_
  refine mB hT 19 rfl ?_
  refine mNf (lv2 := [(3, .int 9), (2, .int 3), (0, .ref 0), (1, .int 1)]) (st2 := [.long (ta 9), .int 9, .ref 11]) rfl rfl ?_
  refine mB hT 19 rfl ?_
  refine mB hT 1 rfl ?_
  refine mWd (w2 := (MW 2 vs wo u h bo ta (up (up (up (up (up (up (up (up (up (up (up (tsM 2 ta 2 hh) 0 (ta 0)) 1 (ta 1)) 2 (ta 2)) 3 (hh 0)) 4 (ta 4)) 5 (ta 5)) 6 (ta 6)) 7 (hh 1)) 8 (ta 8)) 9 (ta 9)) 10 (ta 10)) (up (up (up ro 0 (rr 0)) 1 (rr 1)) 2 (rr 2)) ot Bm bk)) rfl ?_
  refine mB hT 20 rfl ?_
  refine mNf (lv2 := [(3, .int 11), (2, .int 3), (0, .ref 0), (1, .int 1)]) (st2 := [.long 0, .int 11, .ref 11]) rfl rfl ?_
  refine mB hT 19 rfl ?_
  refine mB hT 19 rfl ?_
  refine mNf (lv2 := [(3, .int 13), (2, .int 3), (0, .ref 0), (1, .int 1)]) (st2 := [.long (ta 13), .int 13, .ref 11]) rfl rfl ?_
  refine mB hT 1 rfl ?_
  refine mWd (w2 := (MW 2 vs wo u h bo ta (up (up (up (up (up (up (up (up (up (up (up (up (up (up (tsM 2 ta 2 hh) 0 (ta 0)) 1 (ta 1)) 2 (ta 2)) 3 (hh 0)) 4 (ta 4)) 5 (ta 5)) 6 (ta 6)) 7 (hh 1)) 8 (ta 8)) 9 (ta 9)) 10 (ta 10)) 11 0) 12 (ta 12)) 13 (ta 13)) (up (up (up ro 0 (rr 0)) 1 (rr 1)) 2 (rr 2)) ot Bm bk)) rfl ?_
  refine mB hT 18 rfl ?_
  refine mB hT 21 rfl ?_
  refine mNf (lv2 := [(3, .int 15), (2, .int 3), (0, .ref 0), (1, .int 1)]) (st2 := [.long 0, .int 15, .ref 11]) rfl rfl ?_
  refine mB hT 14 rfl ?_
  refine mIf (fun _ => ?_) (fun hn => absurd (lc_ge.mpr (Int64.not_lt.mp hs)) hn)
  refine mB hT 1 rfl ?_
  refine mWd (w2 := (MW 2 vs wo u h bo ta (up (up (up (up (up (up (up (up (up (up (up (up (up (up (up (up (tsM 2 ta 2 hh) 0 (ta 0)) 1 (ta 1)) 2 (ta 2)) 3 (hh 0)) 4 (ta 4)) 5 (ta 5)) 6 (ta 6)) 7 (hh 1)) 8 (ta 8)) 9 (ta 9)) 10 (ta 10)) 11 0) 12 (ta 12)) 13 (ta 13)) 14 (ta 14)) 15 0) (up (up (up ro 0 (rr 0)) 1 (rr 1)) 2 (rr 2)) ot Bm bk)) rfl ?_
  refine mWd (w2 := (MW 2 vs wo u h bo ta (tsM 2 ta 3 hh) (up (up (up ro 0 (rr 0)) 1 (rr 1)) 2 (rr 2)) ot Bm bk)) rfl ?_
  refine hC.2 _ 0 [] _ _ _ _ _ (m_det) rfl rfl (Nat.le_of_ble_eq_true rfl) rfl ?_
  refine mNf (lv2 := [(3, .int 16), (2, .int 3), (0, .ref 0), (1, .int 1)]) (st2 := [.long (rr 3), .int 3, .ref 12]) rfl (by rw [hrr 3] <;> rfl) ?_
  refine mB hT 6 rfl ?_
  exact hR _ (by decide) _ _ _ rfl rfl
set_option maxRecDepth 20000 in
theorem m_solve_2_1n {vs : Int32} {wo un h : Int64} {bo : Nat → Int32} {ta tr ro ot : Nat → Int64} {Bm : Nat → Nat → Nat → Int32} {bk : Nat → Nat → Int32} {u : Int64} {hh rr : Nat → Int64} (hs : wo < 0) (hu : u = -wo) (hq : ∀ j : Nat, hh j = (bk 1 j).toInt64) (hrr : ∀ i : Nat, rr i = -(dtM (tsM 2 ta i hh))) : KX3_solve l D ca ad [.ref 0, .int 1] (MW 2 vs wo un h bo ta tr ro ot Bm bk) none (MW 2 vs wo u h bo ta (tsM 2 ta 3 hh) rr ot Bm bk) := by
  refine PX3_solve (Nat.le_of_ble_eq_true rfl) ?_
  intro G hT hC hR
  refine mB hT 6 rfl ?_
  refine mIf (fun hp => absurd hp (fun q => Int64.not_lt.mpr (lc_ge.mp q) hs)) (fun _ => ?_)
  refine mB hT 4 rfl ?_
  refine mNf (lv2 := [(0, .ref 0), (1, .int 1)]) (st2 := [.long u, .ref 0]) rfl (by rw [hu] <;> rfl) ?_
  refine mB hT 37 rfl ?_
  refine mNf (lv2 := [(3, .int 0), (2, .int 0), (0, .ref 0), (1, .int 1)]) (st2 := [.long (hh 0), .int 0, .ref 11]) rfl (by rw [hq 0] <;> rfl) ?_
  refine mB hT 19 rfl ?_
  refine mB hT 1 rfl ?_
  refine mWd (w2 := (MW 2 vs wo u h bo ta (up (up tr 0 (hh 0)) 1 (ta 1)) ro ot Bm bk)) rfl ?_
  refine mB hT 18 rfl ?_
  refine mNf (lv2 := [(3, .int 2), (2, .int 0), (0, .ref 0), (1, .int 1)]) (st2 := [.long (ta 2), .int 2, .ref 11]) rfl rfl ?_
  refine mB hT 19 rfl ?_
  refine mB hT 32 rfl ?_
  refine mNf (lv2 := [(3, .int 4), (2, .int 0), (0, .ref 0), (1, .int 1)]) (st2 := [.long (hh 1), .int 4, .ref 11]) rfl (by rw [hq 1] <;> rfl) ?_
  refine mB hT 1 rfl ?_
  refine mWd (w2 := (MW 2 vs wo u h bo ta (up (up (up (up (up tr 0 (hh 0)) 1 (ta 1)) 2 (ta 2)) 3 (ta 3)) 4 (hh 1)) ro ot Bm bk)) rfl ?_
  refine mB hT 18 rfl ?_
  refine mB hT 19 rfl ?_
  refine mNf (lv2 := [(3, .int 6), (2, .int 0), (0, .ref 0), (1, .int 1)]) (st2 := [.long (ta 6), .int 6, .ref 11]) rfl rfl ?_
  refine mB hT 19 rfl ?_
  refine mB hT 1 rfl ?_
  refine mWd (w2 := (MW 2 vs wo u h bo ta (up (up (up (up (up (up (up (up tr 0 (hh 0)) 1 (ta 1)) 2 (ta 2)) 3 (ta 3)) 4 (hh 1)) 5 (ta 5)) 6 (ta 6)) 7 (ta 7)) ro ot Bm bk)) rfl ?_
  refine mB hT 20 rfl ?_
  refine mNf (lv2 := [(3, .int 8), (2, .int 0), (0, .ref 0), (1, .int 1)]) (st2 := [.long 0, .int 8, .ref 11]) rfl rfl ?_
  refine mB hT 19 rfl ?_
  refine mB hT 19 rfl ?_
  refine mNf (lv2 := [(3, .int 10), (2, .int 0), (0, .ref 0), (1, .int 1)]) (st2 := [.long (ta 10), .int 10, .ref 11]) rfl rfl ?_
  refine mB hT 1 rfl ?_
  refine mWd (w2 := (MW 2 vs wo u h bo ta (up (up (up (up (up (up (up (up (up (up (up tr 0 (hh 0)) 1 (ta 1)) 2 (ta 2)) 3 (ta 3)) 4 (hh 1)) 5 (ta 5)) 6 (ta 6)) 7 (ta 7)) 8 0) 9 (ta 9)) 10 (ta 10)) ro ot Bm bk)) rfl ?_
  refine mB hT 18 rfl ?_
  refine mB hT 21 rfl ?_
  refine mNf (lv2 := [(3, .int 12), (2, .int 0), (0, .ref 0), (1, .int 1)]) (st2 := [.long 0, .int 12, .ref 11]) rfl rfl ?_
  refine mB hT 19 rfl ?_
  refine mB hT 1 rfl ?_
  refine mWd (w2 := (MW 2 vs wo u h bo ta (up (up (up (up (up (up (up (up (up (up (up (up (up (up tr 0 (hh 0)) 1 (ta 1)) 2 (ta 2)) 3 (ta 3)) 4 (hh 1)) 5 (ta 5)) 6 (ta 6)) 7 (ta 7)) 8 0) 9 (ta 9)) 10 (ta 10)) 11 (ta 11)) 12 0) 13 (ta 13)) ro ot Bm bk)) rfl ?_
  refine mB hT 18 rfl ?_
  refine mNf (lv2 := [(3, .int 14), (2, .int 0), (0, .ref 0), (1, .int 1)]) (st2 := [.long (ta 14), .int 14, .ref 11]) rfl rfl ?_
  refine mB hT 19 rfl ?_
  refine mB hT 14 rfl ?_
  refine mIf (fun hp => absurd hp (fun q => Int64.not_lt.mpr (lc_ge.mp q) hs)) (fun _ => ?_)
  refine mNf (lv2 := [(3, .int 16), (2, .int 0), (0, .ref 0), (1, .int 1)]) (st2 := [.int 0, .ref 12]) rfl rfl ?_
  refine mB hT 1 rfl ?_
  refine mWd (w2 := (MW 2 vs wo u h bo ta (up (up (up (up (up (up (up (up (up (up (up (up (up (up (up (up tr 0 (hh 0)) 1 (ta 1)) 2 (ta 2)) 3 (ta 3)) 4 (hh 1)) 5 (ta 5)) 6 (ta 6)) 7 (ta 7)) 8 0) 9 (ta 9)) 10 (ta 10)) 11 (ta 11)) 12 0) 13 (ta 13)) 14 (ta 14)) 15 (ta 15)) ro ot Bm bk)) rfl ?_
  refine mWd (w2 := (MW 2 vs wo u h bo ta (tsM 2 ta 0 hh) ro ot Bm bk)) rfl ?_
  refine hC.1 _ 0 [] _ _ _ _ _ (m_det) rfl rfl (Nat.le_of_ble_eq_true rfl) rfl ?_
  refine mB hT 2 rfl ?_
  refine mNf (lv2 := [(3, .int 16), (2, .int 0), (0, .ref 0), (1, .int 1)]) (st2 := [.long (rr 0), .int 0, .ref 12]) rfl (by rw [hrr 0] <;> rfl) ?_
  refine mB hT 24 rfl ?_
  refine mNf (lv2 := [(3, .int 0), (2, .int 1), (0, .ref 0), (1, .int 1)]) (st2 := [.long (ta 0), .int 0, .ref 11]) rfl rfl ?_
  refine mB hT 32 rfl ?_
  refine mNf (lv2 := [(3, .int 1), (2, .int 1), (0, .ref 0), (1, .int 1)]) (st2 := [.long (hh 0), .int 1, .ref 11]) rfl (by rw [hq 0] <;> rfl) ?_
  refine mB hT 1 rfl ?_
  refine mWd (w2 := (MW 2 vs wo u h bo ta (up (up (tsM 2 ta 0 hh) 0 (ta 0)) 1 (hh 0)) (up ro 0 (rr 0)) ot Bm bk)) rfl ?_
  refine mB hT 18 rfl ?_
  refine mB hT 19 rfl ?_
  refine mNf (lv2 := [(3, .int 3), (2, .int 1), (0, .ref 0), (1, .int 1)]) (st2 := [.long (ta 3), .int 3, .ref 11]) rfl rfl ?_
  refine mB hT 19 rfl ?_
  refine mB hT 1 rfl ?_
  refine mWd (w2 := (MW 2 vs wo u h bo ta (up (up (up (up (up (tsM 2 ta 0 hh) 0 (ta 0)) 1 (hh 0)) 2 (ta 2)) 3 (ta 3)) 4 (ta 4)) (up ro 0 (rr 0)) ot Bm bk)) rfl ?_
  refine mB hT 31 rfl ?_
  refine mNf (lv2 := [(3, .int 5), (2, .int 1), (0, .ref 0), (1, .int 1)]) (st2 := [.long (hh 1), .int 5, .ref 11]) rfl (by rw [hq 1] <;> rfl) ?_
  refine mB hT 19 rfl ?_
  refine mB hT 19 rfl ?_
  refine mNf (lv2 := [(3, .int 7), (2, .int 1), (0, .ref 0), (1, .int 1)]) (st2 := [.long (ta 7), .int 7, .ref 11]) rfl rfl ?_
  refine mB hT 1 rfl ?_
  refine mWd (w2 := (MW 2 vs wo u h bo ta (up (up (up (up (up (up (up (up (tsM 2 ta 0 hh) 0 (ta 0)) 1 (hh 0)) 2 (ta 2)) 3 (ta 3)) 4 (ta 4)) 5 (hh 1)) 6 (ta 6)) 7 (ta 7)) (up ro 0 (rr 0)) ot Bm bk)) rfl ?_
  refine mB hT 18 rfl ?_
  refine mB hT 21 rfl ?_
  refine mNf (lv2 := [(3, .int 9), (2, .int 1), (0, .ref 0), (1, .int 1)]) (st2 := [.long 0, .int 9, .ref 11]) rfl rfl ?_
  refine mB hT 19 rfl ?_
  refine mB hT 1 rfl ?_
  refine mWd (w2 := (MW 2 vs wo u h bo ta (up (up (up (up (up (up (up (up (up (up (up (tsM 2 ta 0 hh) 0 (ta 0)) 1 (hh 0)) 2 (ta 2)) 3 (ta 3)) 4 (ta 4)) 5 (hh 1)) 6 (ta 6)) 7 (ta 7)) 8 (ta 8)) 9 0) 10 (ta 10)) (up ro 0 (rr 0)) ot Bm bk)) rfl ?_
  refine mB hT 18 rfl ?_
  refine mNf (lv2 := [(3, .int 11), (2, .int 1), (0, .ref 0), (1, .int 1)]) (st2 := [.long (ta 11), .int 11, .ref 11]) rfl rfl ?_
  refine mB hT 19 rfl ?_
  refine mB hT 21 rfl ?_
  refine mNf (lv2 := [(3, .int 13), (2, .int 1), (0, .ref 0), (1, .int 1)]) (st2 := [.long 0, .int 13, .ref 11]) rfl rfl ?_
  refine mB hT 1 rfl ?_
  refine mWd (w2 := (MW 2 vs wo u h bo ta (up (up (up (up (up (up (up (up (up (up (up (up (up (up (tsM 2 ta 0 hh) 0 (ta 0)) 1 (hh 0)) 2 (ta 2)) 3 (ta 3)) 4 (ta 4)) 5 (hh 1)) 6 (ta 6)) 7 (ta 7)) 8 (ta 8)) 9 0) 10 (ta 10)) 11 (ta 11)) 12 (ta 12)) 13 0) (up ro 0 (rr 0)) ot Bm bk)) rfl ?_
  refine mB hT 18 rfl ?_
  refine mB hT 19 rfl ?_
  refine mNf (lv2 := [(3, .int 15), (2, .int 1), (0, .ref 0), (1, .int 1)]) (st2 := [.long (ta 15), .int 15, .ref 11]) rfl rfl ?_
  refine mB hT 14 rfl ?_
  refine mIf (fun hp => absurd hp (fun q => Int64.not_lt.mpr (lc_ge.mp q) hs)) (fun _ => ?_)
  refine mB hT 1 rfl ?_
  refine mWd (w2 := (MW 2 vs wo u h bo ta (up (up (up (up (up (up (up (up (up (up (up (up (up (up (up (up (tsM 2 ta 0 hh) 0 (ta 0)) 1 (hh 0)) 2 (ta 2)) 3 (ta 3)) 4 (ta 4)) 5 (hh 1)) 6 (ta 6)) 7 (ta 7)) 8 (ta 8)) 9 0) 10 (ta 10)) 11 (ta 11)) 12 (ta 12)) 13 0) 14 (ta 14)) 15 (ta 15)) (up ro 0 (rr 0)) ot Bm bk)) rfl ?_
  refine mWd (w2 := (MW 2 vs wo u h bo ta (tsM 2 ta 1 hh) (up ro 0 (rr 0)) ot Bm bk)) rfl ?_
  refine hC.1 _ 0 [] _ _ _ _ _ (m_det) rfl rfl (Nat.le_of_ble_eq_true rfl) rfl ?_
  refine mB hT 2 rfl ?_
  refine mNf (lv2 := [(3, .int 16), (2, .int 1), (0, .ref 0), (1, .int 1)]) (st2 := [.long (rr 1), .int 1, .ref 12]) rfl (by rw [hrr 1] <;> rfl) ?_
  refine mB hT 24 rfl ?_
  refine mNf (lv2 := [(3, .int 0), (2, .int 2), (0, .ref 0), (1, .int 1)]) (st2 := [.long (ta 0), .int 0, .ref 11]) rfl rfl ?_
  refine mB hT 19 rfl ?_
  refine mB hT 1 rfl ?_
  refine mWd (w2 := (MW 2 vs wo u h bo ta (up (up (tsM 2 ta 1 hh) 0 (ta 0)) 1 (ta 1)) (up (up ro 0 (rr 0)) 1 (rr 1)) ot Bm bk)) rfl ?_
  refine mB hT 31 rfl ?_
  refine mNf (lv2 := [(3, .int 2), (2, .int 2), (0, .ref 0), (1, .int 1)]) (st2 := [.long (hh 0), .int 2, .ref 11]) rfl (by rw [hq 0] <;> rfl) ?_
  refine mB hT 19 rfl ?_
  refine mB hT 19 rfl ?_
  refine mNf (lv2 := [(3, .int 4), (2, .int 2), (0, .ref 0), (1, .int 1)]) (st2 := [.long (ta 4), .int 4, .ref 11]) rfl rfl ?_
  refine mB hT 1 rfl ?_
  refine mWd (w2 := (MW 2 vs wo u h bo ta (up (up (up (up (up (tsM 2 ta 1 hh) 0 (ta 0)) 1 (ta 1)) 2 (hh 0)) 3 (ta 3)) 4 (ta 4)) (up (up ro 0 (rr 0)) 1 (rr 1)) ot Bm bk)) rfl ?_
  refine mB hT 18 rfl ?_
  refine mB hT 32 rfl ?_
  refine mNf (lv2 := [(3, .int 6), (2, .int 2), (0, .ref 0), (1, .int 1)]) (st2 := [.long (hh 1), .int 6, .ref 11]) rfl (by rw [hq 1] <;> rfl) ?_
  refine mB hT 19 rfl ?_
  refine mB hT 1 rfl ?_
  refine mWd (w2 := (MW 2 vs wo u h bo ta (up (up (up (up (up (up (up (up (tsM 2 ta 1 hh) 0 (ta 0)) 1 (ta 1)) 2 (hh 0)) 3 (ta 3)) 4 (ta 4)) 5 (ta 5)) 6 (hh 1)) 7 (ta 7)) (up (up ro 0 (rr 0)) 1 (rr 1)) ot Bm bk)) rfl ?_
  refine mB hT 18 rfl ?_
  refine mNf (lv2 := [(3, .int 8), (2, .int 2), (0, .ref 0), (1, .int 1)]) (st2 := [.long (ta 8), .int 8, .ref 11]) rfl rfl ?_
  refine mB hT 19 rfl ?_
  refine mB hT 21 rfl ?_
  refine mNf (lv2 := [(3, .int 10), (2, .int 2), (0, .ref 0), (1, .int 1)]) (st2 := [.long 0, .int 10, .ref 11]) rfl rfl ?_
  refine mB hT 1 rfl ?_
  refine mWd (w2 := (MW 2 vs wo u h bo ta (up (up (up (up (up (up (up (up (up (up (up (tsM 2 ta 1 hh) 0 (ta 0)) 1 (ta 1)) 2 (hh 0)) 3 (ta 3)) 4 (ta 4)) 5 (ta 5)) 6 (hh 1)) 7 (ta 7)) 8 (ta 8)) 9 (ta 9)) 10 0) (up (up ro 0 (rr 0)) 1 (rr 1)) ot Bm bk)) rfl ?_
  refine mB hT 18 rfl ?_
  refine mB hT 19 rfl ?_
  refine mNf (lv2 := [(3, .int 12), (2, .int 2), (0, .ref 0), (1, .int 1)]) (st2 := [.long (ta 12), .int 12, .ref 11]) rfl rfl ?_
  refine mB hT 19 rfl ?_
  refine mB hT 1 rfl ?_
  refine mWd (w2 := (MW 2 vs wo u h bo ta (up (up (up (up (up (up (up (up (up (up (up (up (up (up (tsM 2 ta 1 hh) 0 (ta 0)) 1 (ta 1)) 2 (hh 0)) 3 (ta 3)) 4 (ta 4)) 5 (ta 5)) 6 (hh 1)) 7 (ta 7)) 8 (ta 8)) 9 (ta 9)) 10 0) 11 (ta 11)) 12 (ta 12)) 13 (ta 13)) (up (up ro 0 (rr 0)) 1 (rr 1)) ot Bm bk)) rfl ?_
  refine mB hT 20 rfl ?_
  refine mNf (lv2 := [(3, .int 14), (2, .int 2), (0, .ref 0), (1, .int 1)]) (st2 := [.long 0, .int 14, .ref 11]) rfl rfl ?_
  refine mB hT 19 rfl ?_
  refine mB hT 14 rfl ?_
  refine mIf (fun hp => absurd hp (fun q => Int64.not_lt.mpr (lc_ge.mp q) hs)) (fun _ => ?_)
  refine mNf (lv2 := [(3, .int 16), (2, .int 2), (0, .ref 0), (1, .int 1)]) (st2 := [.int 2, .ref 12]) rfl rfl ?_
  refine mB hT 1 rfl ?_
  refine mWd (w2 := (MW 2 vs wo u h bo ta (up (up (up (up (up (up (up (up (up (up (up (up (up (up (up (up (tsM 2 ta 1 hh) 0 (ta 0)) 1 (ta 1)) 2 (hh 0)) 3 (ta 3)) 4 (ta 4)) 5 (ta 5)) 6 (hh 1)) 7 (ta 7)) 8 (ta 8)) 9 (ta 9)) 10 0) 11 (ta 11)) 12 (ta 12)) 13 (ta 13)) 14 0) 15 (ta 15)) (up (up ro 0 (rr 0)) 1 (rr 1)) ot Bm bk)) rfl ?_
  refine mWd (w2 := (MW 2 vs wo u h bo ta (tsM 2 ta 2 hh) (up (up ro 0 (rr 0)) 1 (rr 1)) ot Bm bk)) rfl ?_
  refine hC.1 _ 0 [] _ _ _ _ _ (m_det) rfl rfl (Nat.le_of_ble_eq_true rfl) rfl ?_
  refine mB hT 2 rfl ?_
  refine mNf (lv2 := [(3, .int 16), (2, .int 2), (0, .ref 0), (1, .int 1)]) (st2 := [.long (rr 2), .int 2, .ref 12]) rfl (by rw [hrr 2] <;> rfl) ?_
  refine mB hT 24 rfl ?_
  refine mNf (lv2 := [(3, .int 0), (2, .int 3), (0, .ref 0), (1, .int 1)]) (st2 := [.long (ta 0), .int 0, .ref 11]) rfl rfl ?_
  refine mB hT 19 rfl ?_
  refine mB hT 1 rfl ?_
  refine mWd (w2 := (MW 2 vs wo u h bo ta (up (up (tsM 2 ta 2 hh) 0 (ta 0)) 1 (ta 1)) (up (up (up ro 0 (rr 0)) 1 (rr 1)) 2 (rr 2)) ot Bm bk)) rfl ?_
  refine mB hT 18 rfl ?_
  refine mNf (lv2 := [(3, .int 2), (2, .int 3), (0, .ref 0), (1, .int 1)]) (st2 := [.long (ta 2), .int 2, .ref 11]) rfl rfl ?_
  refine mB hT 32 rfl ?_
  refine mNf (lv2 := [(3, .int 3), (2, .int 3), (0, .ref 0), (1, .int 1)]) (st2 := [.long (hh 0), .int 3, .ref 11]) rfl (by rw [hq 0] <;> rfl) ?_
  refine mB hT 19 rfl ?_
  refine mB hT 1 rfl ?_
  refine mWd (w2 := (MW 2 vs wo u h bo ta (up (up (up (up (up (tsM 2 ta 2 hh) 0 (ta 0)) 1 (ta 1)) 2 (ta 2)) 3 (hh 0)) 4 (ta 4)) (up (up (up ro 0 (rr 0)) 1 (rr 1)) 2 (rr 2)) ot Bm bk)) rfl ?_
  refine mB hT 18 rfl ?_
  refine mNf (lv2 := [(3, .int 5), (2, .int 3), (0, .ref 0), (1, .int 1)]) (st2 := [.long (ta 5), .int 5, .ref 11]) rfl rfl ?_
  refine mB hT 19 rfl ?_
  refine mB hT 32 rfl ?_
  refine mNf (lv2 := [(3, .int 7), (2, .int 3), (0, .ref 0), (1, .int 1)]) (st2 := [.long (hh 1), .int 7, .ref 11]) rfl (by rw [hq 1] <;> rfl) ?_
  refine mB hT 1 rfl ?_
  refine mWd (w2 := (MW 2 vs wo u h bo ta (up (up (up (up (up (up (up (up (tsM 2 ta 2 hh) 0 (ta 0)) 1 (ta 1)) 2 (ta 2)) 3 (hh 0)) 4 (ta 4)) 5 (ta 5)) 6 (ta 6)) 7 (hh 1)) (up (up (up ro 0 (rr 0)) 1 (rr 1)) 2 (rr 2)) ot Bm bk)) rfl ?_
  refine mB hT 18 rfl ?_
  refine mB hT 19 rfl ?_
  refine mNf (lv2 := [(3, .int 9), (2, .int 3), (0, .ref 0), (1, .int 1)]) (st2 := [.long (ta 9), .int 9, .ref 11]) rfl rfl ?_
  refine mB hT 19 rfl ?_
  refine mB hT 1 rfl ?_
  refine mWd (w2 := (MW 2 vs wo u h bo ta (up (up (up (up (up (up (up (up (up (up (up (tsM 2 ta 2 hh) 0 (ta 0)) 1 (ta 1)) 2 (ta 2)) 3 (hh 0)) 4 (ta 4)) 5 (ta 5)) 6 (ta 6)) 7 (hh 1)) 8 (ta 8)) 9 (ta 9)) 10 (ta 10)) (up (up (up ro 0 (rr 0)) 1 (rr 1)) 2 (rr 2)) ot Bm bk)) rfl ?_
  refine mB hT 20 rfl ?_
  refine mNf (lv2 := [(3, .int 11), (2, .int 3), (0, .ref 0), (1, .int 1)]) (st2 := [.long 0, .int 11, .ref 11]) rfl rfl ?_
  refine mB hT 19 rfl ?_
  refine mB hT 19 rfl ?_
  refine mNf (lv2 := [(3, .int 13), (2, .int 3), (0, .ref 0), (1, .int 1)]) (st2 := [.long (ta 13), .int 13, .ref 11]) rfl rfl ?_
  refine mB hT 1 rfl ?_
  refine mWd (w2 := (MW 2 vs wo u h bo ta (up (up (up (up (up (up (up (up (up (up (up (up (up (up (tsM 2 ta 2 hh) 0 (ta 0)) 1 (ta 1)) 2 (ta 2)) 3 (hh 0)) 4 (ta 4)) 5 (ta 5)) 6 (ta 6)) 7 (hh 1)) 8 (ta 8)) 9 (ta 9)) 10 (ta 10)) 11 0) 12 (ta 12)) 13 (ta 13)) (up (up (up ro 0 (rr 0)) 1 (rr 1)) 2 (rr 2)) ot Bm bk)) rfl ?_
  refine mB hT 18 rfl ?_
  refine mB hT 21 rfl ?_
  refine mNf (lv2 := [(3, .int 15), (2, .int 3), (0, .ref 0), (1, .int 1)]) (st2 := [.long 0, .int 15, .ref 11]) rfl rfl ?_
  refine mB hT 14 rfl ?_
  refine mIf (fun hp => absurd hp (fun q => Int64.not_lt.mpr (lc_ge.mp q) hs)) (fun _ => ?_)
  refine mB hT 1 rfl ?_
  refine mWd (w2 := (MW 2 vs wo u h bo ta (up (up (up (up (up (up (up (up (up (up (up (up (up (up (up (up (tsM 2 ta 2 hh) 0 (ta 0)) 1 (ta 1)) 2 (ta 2)) 3 (hh 0)) 4 (ta 4)) 5 (ta 5)) 6 (ta 6)) 7 (hh 1)) 8 (ta 8)) 9 (ta 9)) 10 (ta 10)) 11 0) 12 (ta 12)) 13 (ta 13)) 14 (ta 14)) 15 0) (up (up (up ro 0 (rr 0)) 1 (rr 1)) 2 (rr 2)) ot Bm bk)) rfl ?_
  refine mWd (w2 := (MW 2 vs wo u h bo ta (tsM 2 ta 3 hh) (up (up (up ro 0 (rr 0)) 1 (rr 1)) 2 (rr 2)) ot Bm bk)) rfl ?_
  refine hC.1 _ 0 [] _ _ _ _ _ (m_det) rfl rfl (Nat.le_of_ble_eq_true rfl) rfl ?_
  refine mB hT 2 rfl ?_
  refine mNf (lv2 := [(3, .int 16), (2, .int 3), (0, .ref 0), (1, .int 1)]) (st2 := [.long (rr 3), .int 3, .ref 12]) rfl (by rw [hrr 3] <;> rfl) ?_
  refine mB hT 6 rfl ?_
  exact hR _ (by decide) _ _ _ rfl rfl
set_option maxRecDepth 20000 in
theorem m_solve_2_2p {vs : Int32} {wo un h : Int64} {bo : Nat → Int32} {ta tr ro ot : Nat → Int64} {Bm : Nat → Nat → Nat → Int32} {bk : Nat → Nat → Int32} {u : Int64} {hh rr : Nat → Int64} (hs : ¬ wo < 0) (hu : u = wo) (hq : ∀ j : Nat, hh j = (bk 2 j).toInt64) (hrr : ∀ i : Nat, rr i = dtM (tsM 2 ta i hh)) : KX3_solve l D ca ad [.ref 0, .int 2] (MW 2 vs wo un h bo ta tr ro ot Bm bk) none (MW 2 vs wo u h bo ta (tsM 2 ta 3 hh) rr ot Bm bk) := by
  refine PX3_solve (Nat.le_of_ble_eq_true rfl) ?_
  intro G hT hC hR
  refine mB hT 6 rfl ?_
  refine mIf (fun _ => ?_) (fun hn => absurd (lc_ge.mpr (Int64.not_lt.mp hs)) hn)
  refine mB hT 2 rfl ?_
  refine mNf (lv2 := [(0, .ref 0), (1, .int 2)]) (st2 := [.long u, .ref 0]) rfl (by rw [hu] <;> rfl) ?_
  refine mB hT 37 rfl ?_
  refine mNf (lv2 := [(3, .int 0), (2, .int 0), (0, .ref 0), (1, .int 2)]) (st2 := [.long (hh 0), .int 0, .ref 11]) rfl (by rw [hq 0] <;> rfl) ?_
  refine mB hT 19 rfl ?_
  refine mB hT 1 rfl ?_
  refine mWd (w2 := (MW 2 vs wo u h bo ta (up (up tr 0 (hh 0)) 1 (ta 1)) ro ot Bm bk)) rfl ?_
  refine mB hT 18 rfl ?_
  refine mNf (lv2 := [(3, .int 2), (2, .int 0), (0, .ref 0), (1, .int 2)]) (st2 := [.long (ta 2), .int 2, .ref 11]) rfl rfl ?_
  refine mB hT 19 rfl ?_
  refine mB hT 32 rfl ?_
  refine mNf (lv2 := [(3, .int 4), (2, .int 0), (0, .ref 0), (1, .int 2)]) (st2 := [.long (hh 1), .int 4, .ref 11]) rfl (by rw [hq 1] <;> rfl) ?_
  refine mB hT 1 rfl ?_
  refine mWd (w2 := (MW 2 vs wo u h bo ta (up (up (up (up (up tr 0 (hh 0)) 1 (ta 1)) 2 (ta 2)) 3 (ta 3)) 4 (hh 1)) ro ot Bm bk)) rfl ?_
  refine mB hT 18 rfl ?_
  refine mB hT 19 rfl ?_
  refine mNf (lv2 := [(3, .int 6), (2, .int 0), (0, .ref 0), (1, .int 2)]) (st2 := [.long (ta 6), .int 6, .ref 11]) rfl rfl ?_
  refine mB hT 19 rfl ?_
  refine mB hT 1 rfl ?_
  refine mWd (w2 := (MW 2 vs wo u h bo ta (up (up (up (up (up (up (up (up tr 0 (hh 0)) 1 (ta 1)) 2 (ta 2)) 3 (ta 3)) 4 (hh 1)) 5 (ta 5)) 6 (ta 6)) 7 (ta 7)) ro ot Bm bk)) rfl ?_
  refine mB hT 20 rfl ?_
  refine mNf (lv2 := [(3, .int 8), (2, .int 0), (0, .ref 0), (1, .int 2)]) (st2 := [.long 0, .int 8, .ref 11]) rfl rfl ?_
  refine mB hT 19 rfl ?_
  refine mB hT 19 rfl ?_
  refine mNf (lv2 := [(3, .int 10), (2, .int 0), (0, .ref 0), (1, .int 2)]) (st2 := [.long (ta 10), .int 10, .ref 11]) rfl rfl ?_
  refine mB hT 1 rfl ?_
  refine mWd (w2 := (MW 2 vs wo u h bo ta (up (up (up (up (up (up (up (up (up (up (up tr 0 (hh 0)) 1 (ta 1)) 2 (ta 2)) 3 (ta 3)) 4 (hh 1)) 5 (ta 5)) 6 (ta 6)) 7 (ta 7)) 8 0) 9 (ta 9)) 10 (ta 10)) ro ot Bm bk)) rfl ?_
  refine mB hT 18 rfl ?_
  refine mB hT 21 rfl ?_
  refine mNf (lv2 := [(3, .int 12), (2, .int 0), (0, .ref 0), (1, .int 2)]) (st2 := [.long 0, .int 12, .ref 11]) rfl rfl ?_
  refine mB hT 19 rfl ?_
  refine mB hT 1 rfl ?_
  refine mWd (w2 := (MW 2 vs wo u h bo ta (up (up (up (up (up (up (up (up (up (up (up (up (up (up tr 0 (hh 0)) 1 (ta 1)) 2 (ta 2)) 3 (ta 3)) 4 (hh 1)) 5 (ta 5)) 6 (ta 6)) 7 (ta 7)) 8 0) 9 (ta 9)) 10 (ta 10)) 11 (ta 11)) 12 0) 13 (ta 13)) ro ot Bm bk)) rfl ?_
  refine mB hT 18 rfl ?_
  refine mNf (lv2 := [(3, .int 14), (2, .int 0), (0, .ref 0), (1, .int 2)]) (st2 := [.long (ta 14), .int 14, .ref 11]) rfl rfl ?_
  refine mB hT 19 rfl ?_
  refine mB hT 14 rfl ?_
  refine mIf (fun _ => ?_) (fun hn => absurd (lc_ge.mpr (Int64.not_lt.mp hs)) hn)
  refine mNf (lv2 := [(3, .int 16), (2, .int 0), (0, .ref 0), (1, .int 2)]) (st2 := [.int 0, .ref 12]) rfl rfl ?_
  refine mB hT 1 rfl ?_
  refine mWd (w2 := (MW 2 vs wo u h bo ta (up (up (up (up (up (up (up (up (up (up (up (up (up (up (up (up tr 0 (hh 0)) 1 (ta 1)) 2 (ta 2)) 3 (ta 3)) 4 (hh 1)) 5 (ta 5)) 6 (ta 6)) 7 (ta 7)) 8 0) 9 (ta 9)) 10 (ta 10)) 11 (ta 11)) 12 0) 13 (ta 13)) 14 (ta 14)) 15 (ta 15)) ro ot Bm bk)) rfl ?_
  refine mWd (w2 := (MW 2 vs wo u h bo ta (tsM 2 ta 0 hh) ro ot Bm bk)) rfl ?_
  refine hC.2 _ 0 [] _ _ _ _ _ (m_det) rfl rfl (Nat.le_of_ble_eq_true rfl) rfl ?_
  refine mNf (lv2 := [(3, .int 16), (2, .int 0), (0, .ref 0), (1, .int 2)]) (st2 := [.long (rr 0), .int 0, .ref 12]) rfl (by rw [hrr 0] <;> rfl) ?_
  refine mB hT 24 rfl ?_
  refine mNf (lv2 := [(3, .int 0), (2, .int 1), (0, .ref 0), (1, .int 2)]) (st2 := [.long (ta 0), .int 0, .ref 11]) rfl rfl ?_
  refine mB hT 32 rfl ?_
  refine mNf (lv2 := [(3, .int 1), (2, .int 1), (0, .ref 0), (1, .int 2)]) (st2 := [.long (hh 0), .int 1, .ref 11]) rfl (by rw [hq 0] <;> rfl) ?_
  refine mB hT 1 rfl ?_
  refine mWd (w2 := (MW 2 vs wo u h bo ta (up (up (tsM 2 ta 0 hh) 0 (ta 0)) 1 (hh 0)) (up ro 0 (rr 0)) ot Bm bk)) rfl ?_
  refine mB hT 18 rfl ?_
  refine mB hT 19 rfl ?_
  refine mNf (lv2 := [(3, .int 3), (2, .int 1), (0, .ref 0), (1, .int 2)]) (st2 := [.long (ta 3), .int 3, .ref 11]) rfl rfl ?_
  refine mB hT 19 rfl ?_
  refine mB hT 1 rfl ?_
  refine mWd (w2 := (MW 2 vs wo u h bo ta (up (up (up (up (up (tsM 2 ta 0 hh) 0 (ta 0)) 1 (hh 0)) 2 (ta 2)) 3 (ta 3)) 4 (ta 4)) (up ro 0 (rr 0)) ot Bm bk)) rfl ?_
  refine mB hT 31 rfl ?_
  refine mNf (lv2 := [(3, .int 5), (2, .int 1), (0, .ref 0), (1, .int 2)]) (st2 := [.long (hh 1), .int 5, .ref 11]) rfl (by rw [hq 1] <;> rfl) ?_
  refine mB hT 19 rfl ?_
  refine mB hT 19 rfl ?_
  refine mNf (lv2 := [(3, .int 7), (2, .int 1), (0, .ref 0), (1, .int 2)]) (st2 := [.long (ta 7), .int 7, .ref 11]) rfl rfl ?_
  refine mB hT 1 rfl ?_
  refine mWd (w2 := (MW 2 vs wo u h bo ta (up (up (up (up (up (up (up (up (tsM 2 ta 0 hh) 0 (ta 0)) 1 (hh 0)) 2 (ta 2)) 3 (ta 3)) 4 (ta 4)) 5 (hh 1)) 6 (ta 6)) 7 (ta 7)) (up ro 0 (rr 0)) ot Bm bk)) rfl ?_
  refine mB hT 18 rfl ?_
  refine mB hT 21 rfl ?_
  refine mNf (lv2 := [(3, .int 9), (2, .int 1), (0, .ref 0), (1, .int 2)]) (st2 := [.long 0, .int 9, .ref 11]) rfl rfl ?_
  refine mB hT 19 rfl ?_
  refine mB hT 1 rfl ?_
  refine mWd (w2 := (MW 2 vs wo u h bo ta (up (up (up (up (up (up (up (up (up (up (up (tsM 2 ta 0 hh) 0 (ta 0)) 1 (hh 0)) 2 (ta 2)) 3 (ta 3)) 4 (ta 4)) 5 (hh 1)) 6 (ta 6)) 7 (ta 7)) 8 (ta 8)) 9 0) 10 (ta 10)) (up ro 0 (rr 0)) ot Bm bk)) rfl ?_
  refine mB hT 18 rfl ?_
  refine mNf (lv2 := [(3, .int 11), (2, .int 1), (0, .ref 0), (1, .int 2)]) (st2 := [.long (ta 11), .int 11, .ref 11]) rfl rfl ?_
  refine mB hT 19 rfl ?_
  refine mB hT 21 rfl ?_
  refine mNf (lv2 := [(3, .int 13), (2, .int 1), (0, .ref 0), (1, .int 2)]) (st2 := [.long 0, .int 13, .ref 11]) rfl rfl ?_
  refine mB hT 1 rfl ?_
  refine mWd (w2 := (MW 2 vs wo u h bo ta (up (up (up (up (up (up (up (up (up (up (up (up (up (up (tsM 2 ta 0 hh) 0 (ta 0)) 1 (hh 0)) 2 (ta 2)) 3 (ta 3)) 4 (ta 4)) 5 (hh 1)) 6 (ta 6)) 7 (ta 7)) 8 (ta 8)) 9 0) 10 (ta 10)) 11 (ta 11)) 12 (ta 12)) 13 0) (up ro 0 (rr 0)) ot Bm bk)) rfl ?_
  refine mB hT 18 rfl ?_
  refine mB hT 19 rfl ?_
  refine mNf (lv2 := [(3, .int 15), (2, .int 1), (0, .ref 0), (1, .int 2)]) (st2 := [.long (ta 15), .int 15, .ref 11]) rfl rfl ?_
  refine mB hT 14 rfl ?_
  refine mIf (fun _ => ?_) (fun hn => absurd (lc_ge.mpr (Int64.not_lt.mp hs)) hn)
  refine mB hT 1 rfl ?_
  refine mWd (w2 := (MW 2 vs wo u h bo ta (up (up (up (up (up (up (up (up (up (up (up (up (up (up (up (up (tsM 2 ta 0 hh) 0 (ta 0)) 1 (hh 0)) 2 (ta 2)) 3 (ta 3)) 4 (ta 4)) 5 (hh 1)) 6 (ta 6)) 7 (ta 7)) 8 (ta 8)) 9 0) 10 (ta 10)) 11 (ta 11)) 12 (ta 12)) 13 0) 14 (ta 14)) 15 (ta 15)) (up ro 0 (rr 0)) ot Bm bk)) rfl ?_
  refine mWd (w2 := (MW 2 vs wo u h bo ta (tsM 2 ta 1 hh) (up ro 0 (rr 0)) ot Bm bk)) rfl ?_
  refine hC.2 _ 0 [] _ _ _ _ _ (m_det) rfl rfl (Nat.le_of_ble_eq_true rfl) rfl ?_
  refine mNf (lv2 := [(3, .int 16), (2, .int 1), (0, .ref 0), (1, .int 2)]) (st2 := [.long (rr 1), .int 1, .ref 12]) rfl (by rw [hrr 1] <;> rfl) ?_
  refine mB hT 24 rfl ?_
  refine mNf (lv2 := [(3, .int 0), (2, .int 2), (0, .ref 0), (1, .int 2)]) (st2 := [.long (ta 0), .int 0, .ref 11]) rfl rfl ?_
  refine mB hT 19 rfl ?_
  refine mB hT 1 rfl ?_
  refine mWd (w2 := (MW 2 vs wo u h bo ta (up (up (tsM 2 ta 1 hh) 0 (ta 0)) 1 (ta 1)) (up (up ro 0 (rr 0)) 1 (rr 1)) ot Bm bk)) rfl ?_
  refine mB hT 31 rfl ?_
  refine mNf (lv2 := [(3, .int 2), (2, .int 2), (0, .ref 0), (1, .int 2)]) (st2 := [.long (hh 0), .int 2, .ref 11]) rfl (by rw [hq 0] <;> rfl) ?_
  refine mB hT 19 rfl ?_
  refine mB hT 19 rfl ?_
  refine mNf (lv2 := [(3, .int 4), (2, .int 2), (0, .ref 0), (1, .int 2)]) (st2 := [.long (ta 4), .int 4, .ref 11]) rfl rfl ?_
  refine mB hT 1 rfl ?_
  refine mWd (w2 := (MW 2 vs wo u h bo ta (up (up (up (up (up (tsM 2 ta 1 hh) 0 (ta 0)) 1 (ta 1)) 2 (hh 0)) 3 (ta 3)) 4 (ta 4)) (up (up ro 0 (rr 0)) 1 (rr 1)) ot Bm bk)) rfl ?_
  refine mB hT 18 rfl ?_
  refine mB hT 32 rfl ?_
  refine mNf (lv2 := [(3, .int 6), (2, .int 2), (0, .ref 0), (1, .int 2)]) (st2 := [.long (hh 1), .int 6, .ref 11]) rfl (by rw [hq 1] <;> rfl) ?_
  refine mB hT 19 rfl ?_
  refine mB hT 1 rfl ?_
  refine mWd (w2 := (MW 2 vs wo u h bo ta (up (up (up (up (up (up (up (up (tsM 2 ta 1 hh) 0 (ta 0)) 1 (ta 1)) 2 (hh 0)) 3 (ta 3)) 4 (ta 4)) 5 (ta 5)) 6 (hh 1)) 7 (ta 7)) (up (up ro 0 (rr 0)) 1 (rr 1)) ot Bm bk)) rfl ?_
  refine mB hT 18 rfl ?_
  refine mNf (lv2 := [(3, .int 8), (2, .int 2), (0, .ref 0), (1, .int 2)]) (st2 := [.long (ta 8), .int 8, .ref 11]) rfl rfl ?_
  refine mB hT 19 rfl ?_
  refine mB hT 21 rfl ?_
  refine mNf (lv2 := [(3, .int 10), (2, .int 2), (0, .ref 0), (1, .int 2)]) (st2 := [.long 0, .int 10, .ref 11]) rfl rfl ?_
  refine mB hT 1 rfl ?_
  refine mWd (w2 := (MW 2 vs wo u h bo ta (up (up (up (up (up (up (up (up (up (up (up (tsM 2 ta 1 hh) 0 (ta 0)) 1 (ta 1)) 2 (hh 0)) 3 (ta 3)) 4 (ta 4)) 5 (ta 5)) 6 (hh 1)) 7 (ta 7)) 8 (ta 8)) 9 (ta 9)) 10 0) (up (up ro 0 (rr 0)) 1 (rr 1)) ot Bm bk)) rfl ?_
  refine mB hT 18 rfl ?_
  refine mB hT 19 rfl ?_
  refine mNf (lv2 := [(3, .int 12), (2, .int 2), (0, .ref 0), (1, .int 2)]) (st2 := [.long (ta 12), .int 12, .ref 11]) rfl rfl ?_
  refine mB hT 19 rfl ?_
  refine mB hT 1 rfl ?_
  refine mWd (w2 := (MW 2 vs wo u h bo ta (up (up (up (up (up (up (up (up (up (up (up (up (up (up (tsM 2 ta 1 hh) 0 (ta 0)) 1 (ta 1)) 2 (hh 0)) 3 (ta 3)) 4 (ta 4)) 5 (ta 5)) 6 (hh 1)) 7 (ta 7)) 8 (ta 8)) 9 (ta 9)) 10 0) 11 (ta 11)) 12 (ta 12)) 13 (ta 13)) (up (up ro 0 (rr 0)) 1 (rr 1)) ot Bm bk)) rfl ?_
  refine mB hT 20 rfl ?_
  refine mNf (lv2 := [(3, .int 14), (2, .int 2), (0, .ref 0), (1, .int 2)]) (st2 := [.long 0, .int 14, .ref 11]) rfl rfl ?_
  refine mB hT 19 rfl ?_
  refine mB hT 14 rfl ?_
  refine mIf (fun _ => ?_) (fun hn => absurd (lc_ge.mpr (Int64.not_lt.mp hs)) hn)
  refine mNf (lv2 := [(3, .int 16), (2, .int 2), (0, .ref 0), (1, .int 2)]) (st2 := [.int 2, .ref 12]) rfl rfl ?_
  refine mB hT 1 rfl ?_
  refine mWd (w2 := (MW 2 vs wo u h bo ta (up (up (up (up (up (up (up (up (up (up (up (up (up (up (up (up (tsM 2 ta 1 hh) 0 (ta 0)) 1 (ta 1)) 2 (hh 0)) 3 (ta 3)) 4 (ta 4)) 5 (ta 5)) 6 (hh 1)) 7 (ta 7)) 8 (ta 8)) 9 (ta 9)) 10 0) 11 (ta 11)) 12 (ta 12)) 13 (ta 13)) 14 0) 15 (ta 15)) (up (up ro 0 (rr 0)) 1 (rr 1)) ot Bm bk)) rfl ?_
  refine mWd (w2 := (MW 2 vs wo u h bo ta (tsM 2 ta 2 hh) (up (up ro 0 (rr 0)) 1 (rr 1)) ot Bm bk)) rfl ?_
  refine hC.2 _ 0 [] _ _ _ _ _ (m_det) rfl rfl (Nat.le_of_ble_eq_true rfl) rfl ?_
  refine mNf (lv2 := [(3, .int 16), (2, .int 2), (0, .ref 0), (1, .int 2)]) (st2 := [.long (rr 2), .int 2, .ref 12]) rfl (by rw [hrr 2] <;> rfl) ?_
  refine mB hT 24 rfl ?_
  refine mNf (lv2 := [(3, .int 0), (2, .int 3), (0, .ref 0), (1, .int 2)]) (st2 := [.long (ta 0), .int 0, .ref 11]) rfl rfl ?_
  refine mB hT 19 rfl ?_
  refine mB hT 1 rfl ?_
  refine mWd (w2 := (MW 2 vs wo u h bo ta (up (up (tsM 2 ta 2 hh) 0 (ta 0)) 1 (ta 1)) (up (up (up ro 0 (rr 0)) 1 (rr 1)) 2 (rr 2)) ot Bm bk)) rfl ?_
  refine mB hT 18 rfl ?_
  refine mNf (lv2 := [(3, .int 2), (2, .int 3), (0, .ref 0), (1, .int 2)]) (st2 := [.long (ta 2), .int 2, .ref 11]) rfl rfl ?_
  refine mB hT 32 rfl ?_
  refine mNf (lv2 := [(3, .int 3), (2, .int 3), (0, .ref 0), (1, .int 2)]) (st2 := [.long (hh 0), .int 3, .ref 11]) rfl (by rw [hq 0] <;> rfl) ?_
  refine mB hT 19 rfl ?_
  refine mB hT 1 rfl ?_
  refine mWd (w2 := (MW 2 vs wo u h bo ta (up (up (up (up (up (tsM 2 ta 2 hh) 0 (ta 0)) 1 (ta 1)) 2 (ta 2)) 3 (hh 0)) 4 (ta 4)) (up (up (up ro 0 (rr 0)) 1 (rr 1)) 2 (rr 2)) ot Bm bk)) rfl ?_
  refine mB hT 18 rfl ?_
  refine mNf (lv2 := [(3, .int 5), (2, .int 3), (0, .ref 0), (1, .int 2)]) (st2 := [.long (ta 5), .int 5, .ref 11]) rfl rfl ?_
  refine mB hT 19 rfl ?_
  refine mB hT 32 rfl ?_
  refine mNf (lv2 := [(3, .int 7), (2, .int 3), (0, .ref 0), (1, .int 2)]) (st2 := [.long (hh 1), .int 7, .ref 11]) rfl (by rw [hq 1] <;> rfl) ?_
  refine mB hT 1 rfl ?_
  refine mWd (w2 := (MW 2 vs wo u h bo ta (up (up (up (up (up (up (up (up (tsM 2 ta 2 hh) 0 (ta 0)) 1 (ta 1)) 2 (ta 2)) 3 (hh 0)) 4 (ta 4)) 5 (ta 5)) 6 (ta 6)) 7 (hh 1)) (up (up (up ro 0 (rr 0)) 1 (rr 1)) 2 (rr 2)) ot Bm bk)) rfl ?_
  refine mB hT 18 rfl ?_
  refine mB hT 19 rfl ?_
  refine mNf (lv2 := [(3, .int 9), (2, .int 3), (0, .ref 0), (1, .int 2)]) (st2 := [.long (ta 9), .int 9, .ref 11]) rfl rfl ?_
  refine mB hT 19 rfl ?_
  refine mB hT 1 rfl ?_
  refine mWd (w2 := (MW 2 vs wo u h bo ta (up (up (up (up (up (up (up (up (up (up (up (tsM 2 ta 2 hh) 0 (ta 0)) 1 (ta 1)) 2 (ta 2)) 3 (hh 0)) 4 (ta 4)) 5 (ta 5)) 6 (ta 6)) 7 (hh 1)) 8 (ta 8)) 9 (ta 9)) 10 (ta 10)) (up (up (up ro 0 (rr 0)) 1 (rr 1)) 2 (rr 2)) ot Bm bk)) rfl ?_
  refine mB hT 20 rfl ?_
  refine mNf (lv2 := [(3, .int 11), (2, .int 3), (0, .ref 0), (1, .int 2)]) (st2 := [.long 0, .int 11, .ref 11]) rfl rfl ?_
  refine mB hT 19 rfl ?_
  refine mB hT 19 rfl ?_
  refine mNf (lv2 := [(3, .int 13), (2, .int 3), (0, .ref 0), (1, .int 2)]) (st2 := [.long (ta 13), .int 13, .ref 11]) rfl rfl ?_
  refine mB hT 1 rfl ?_
  refine mWd (w2 := (MW 2 vs wo u h bo ta (up (up (up (up (up (up (up (up (up (up (up (up (up (up (tsM 2 ta 2 hh) 0 (ta 0)) 1 (ta 1)) 2 (ta 2)) 3 (hh 0)) 4 (ta 4)) 5 (ta 5)) 6 (ta 6)) 7 (hh 1)) 8 (ta 8)) 9 (ta 9)) 10 (ta 10)) 11 0) 12 (ta 12)) 13 (ta 13)) (up (up (up ro 0 (rr 0)) 1 (rr 1)) 2 (rr 2)) ot Bm bk)) rfl ?_
  refine mB hT 18 rfl ?_
  refine mB hT 21 rfl ?_
  refine mNf (lv2 := [(3, .int 15), (2, .int 3), (0, .ref 0), (1, .int 2)]) (st2 := [.long 0, .int 15, .ref 11]) rfl rfl ?_
  refine mB hT 14 rfl ?_
  refine mIf (fun _ => ?_) (fun hn => absurd (lc_ge.mpr (Int64.not_lt.mp hs)) hn)
  refine mB hT 1 rfl ?_
  refine mWd (w2 := (MW 2 vs wo u h bo ta (up (up (up (up (up (up (up (up (up (up (up (up (up (up (up (up (tsM 2 ta 2 hh) 0 (ta 0)) 1 (ta 1)) 2 (ta 2)) 3 (hh 0)) 4 (ta 4)) 5 (ta 5)) 6 (ta 6)) 7 (hh 1)) 8 (ta 8)) 9 (ta 9)) 10 (ta 10)) 11 0) 12 (ta 12)) 13 (ta 13)) 14 (ta 14)) 15 0) (up (up (up ro 0 (rr 0)) 1 (rr 1)) 2 (rr 2)) ot Bm bk)) rfl ?_
  refine mWd (w2 := (MW 2 vs wo u h bo ta (tsM 2 ta 3 hh) (up (up (up ro 0 (rr 0)) 1 (rr 1)) 2 (rr 2)) ot Bm bk)) rfl ?_
  refine hC.2 _ 0 [] _ _ _ _ _ (m_det) rfl rfl (Nat.le_of_ble_eq_true rfl) rfl ?_
  refine mNf (lv2 := [(3, .int 16), (2, .int 3), (0, .ref 0), (1, .int 2)]) (st2 := [.long (rr 3), .int 3, .ref 12]) rfl (by rw [hrr 3] <;> rfl) ?_
  refine mB hT 6 rfl ?_
  exact hR _ (by decide) _ _ _ rfl rfl
set_option maxRecDepth 20000 in
theorem m_solve_2_2n {vs : Int32} {wo un h : Int64} {bo : Nat → Int32} {ta tr ro ot : Nat → Int64} {Bm : Nat → Nat → Nat → Int32} {bk : Nat → Nat → Int32} {u : Int64} {hh rr : Nat → Int64} (hs : wo < 0) (hu : u = -wo) (hq : ∀ j : Nat, hh j = (bk 2 j).toInt64) (hrr : ∀ i : Nat, rr i = -(dtM (tsM 2 ta i hh))) : KX3_solve l D ca ad [.ref 0, .int 2] (MW 2 vs wo un h bo ta tr ro ot Bm bk) none (MW 2 vs wo u h bo ta (tsM 2 ta 3 hh) rr ot Bm bk) := by
  refine PX3_solve (Nat.le_of_ble_eq_true rfl) ?_
  intro G hT hC hR
  refine mB hT 6 rfl ?_
  refine mIf (fun hp => absurd hp (fun q => Int64.not_lt.mpr (lc_ge.mp q) hs)) (fun _ => ?_)
  refine mB hT 4 rfl ?_
  refine mNf (lv2 := [(0, .ref 0), (1, .int 2)]) (st2 := [.long u, .ref 0]) rfl (by rw [hu] <;> rfl) ?_
  refine mB hT 37 rfl ?_
  refine mNf (lv2 := [(3, .int 0), (2, .int 0), (0, .ref 0), (1, .int 2)]) (st2 := [.long (hh 0), .int 0, .ref 11]) rfl (by rw [hq 0] <;> rfl) ?_
  refine mB hT 19 rfl ?_
  refine mB hT 1 rfl ?_
  refine mWd (w2 := (MW 2 vs wo u h bo ta (up (up tr 0 (hh 0)) 1 (ta 1)) ro ot Bm bk)) rfl ?_
  refine mB hT 18 rfl ?_
  refine mNf (lv2 := [(3, .int 2), (2, .int 0), (0, .ref 0), (1, .int 2)]) (st2 := [.long (ta 2), .int 2, .ref 11]) rfl rfl ?_
  refine mB hT 19 rfl ?_
  refine mB hT 32 rfl ?_
  refine mNf (lv2 := [(3, .int 4), (2, .int 0), (0, .ref 0), (1, .int 2)]) (st2 := [.long (hh 1), .int 4, .ref 11]) rfl (by rw [hq 1] <;> rfl) ?_
  refine mB hT 1 rfl ?_
  refine mWd (w2 := (MW 2 vs wo u h bo ta (up (up (up (up (up tr 0 (hh 0)) 1 (ta 1)) 2 (ta 2)) 3 (ta 3)) 4 (hh 1)) ro ot Bm bk)) rfl ?_
  refine mB hT 18 rfl ?_
  refine mB hT 19 rfl ?_
  refine mNf (lv2 := [(3, .int 6), (2, .int 0), (0, .ref 0), (1, .int 2)]) (st2 := [.long (ta 6), .int 6, .ref 11]) rfl rfl ?_
  refine mB hT 19 rfl ?_
  refine mB hT 1 rfl ?_
  refine mWd (w2 := (MW 2 vs wo u h bo ta (up (up (up (up (up (up (up (up tr 0 (hh 0)) 1 (ta 1)) 2 (ta 2)) 3 (ta 3)) 4 (hh 1)) 5 (ta 5)) 6 (ta 6)) 7 (ta 7)) ro ot Bm bk)) rfl ?_
  refine mB hT 20 rfl ?_
  refine mNf (lv2 := [(3, .int 8), (2, .int 0), (0, .ref 0), (1, .int 2)]) (st2 := [.long 0, .int 8, .ref 11]) rfl rfl ?_
  refine mB hT 19 rfl ?_
  refine mB hT 19 rfl ?_
  refine mNf (lv2 := [(3, .int 10), (2, .int 0), (0, .ref 0), (1, .int 2)]) (st2 := [.long (ta 10), .int 10, .ref 11]) rfl rfl ?_
  refine mB hT 1 rfl ?_
  refine mWd (w2 := (MW 2 vs wo u h bo ta (up (up (up (up (up (up (up (up (up (up (up tr 0 (hh 0)) 1 (ta 1)) 2 (ta 2)) 3 (ta 3)) 4 (hh 1)) 5 (ta 5)) 6 (ta 6)) 7 (ta 7)) 8 0) 9 (ta 9)) 10 (ta 10)) ro ot Bm bk)) rfl ?_
  refine mB hT 18 rfl ?_
  refine mB hT 21 rfl ?_
  refine mNf (lv2 := [(3, .int 12), (2, .int 0), (0, .ref 0), (1, .int 2)]) (st2 := [.long 0, .int 12, .ref 11]) rfl rfl ?_
  refine mB hT 19 rfl ?_
  refine mB hT 1 rfl ?_
  refine mWd (w2 := (MW 2 vs wo u h bo ta (up (up (up (up (up (up (up (up (up (up (up (up (up (up tr 0 (hh 0)) 1 (ta 1)) 2 (ta 2)) 3 (ta 3)) 4 (hh 1)) 5 (ta 5)) 6 (ta 6)) 7 (ta 7)) 8 0) 9 (ta 9)) 10 (ta 10)) 11 (ta 11)) 12 0) 13 (ta 13)) ro ot Bm bk)) rfl ?_
  refine mB hT 18 rfl ?_
  refine mNf (lv2 := [(3, .int 14), (2, .int 0), (0, .ref 0), (1, .int 2)]) (st2 := [.long (ta 14), .int 14, .ref 11]) rfl rfl ?_
  refine mB hT 19 rfl ?_
  refine mB hT 14 rfl ?_
  refine mIf (fun hp => absurd hp (fun q => Int64.not_lt.mpr (lc_ge.mp q) hs)) (fun _ => ?_)
  refine mNf (lv2 := [(3, .int 16), (2, .int 0), (0, .ref 0), (1, .int 2)]) (st2 := [.int 0, .ref 12]) rfl rfl ?_
  refine mB hT 1 rfl ?_
  refine mWd (w2 := (MW 2 vs wo u h bo ta (up (up (up (up (up (up (up (up (up (up (up (up (up (up (up (up tr 0 (hh 0)) 1 (ta 1)) 2 (ta 2)) 3 (ta 3)) 4 (hh 1)) 5 (ta 5)) 6 (ta 6)) 7 (ta 7)) 8 0) 9 (ta 9)) 10 (ta 10)) 11 (ta 11)) 12 0) 13 (ta 13)) 14 (ta 14)) 15 (ta 15)) ro ot Bm bk)) rfl ?_
  refine mWd (w2 := (MW 2 vs wo u h bo ta (tsM 2 ta 0 hh) ro ot Bm bk)) rfl ?_
  refine hC.1 _ 0 [] _ _ _ _ _ (m_det) rfl rfl (Nat.le_of_ble_eq_true rfl) rfl ?_
  refine mB hT 2 rfl ?_
  refine mNf (lv2 := [(3, .int 16), (2, .int 0), (0, .ref 0), (1, .int 2)]) (st2 := [.long (rr 0), .int 0, .ref 12]) rfl (by rw [hrr 0] <;> rfl) ?_
  refine mB hT 24 rfl ?_
  refine mNf (lv2 := [(3, .int 0), (2, .int 1), (0, .ref 0), (1, .int 2)]) (st2 := [.long (ta 0), .int 0, .ref 11]) rfl rfl ?_
  refine mB hT 32 rfl ?_
  refine mNf (lv2 := [(3, .int 1), (2, .int 1), (0, .ref 0), (1, .int 2)]) (st2 := [.long (hh 0), .int 1, .ref 11]) rfl (by rw [hq 0] <;> rfl) ?_
  refine mB hT 1 rfl ?_
  refine mWd (w2 := (MW 2 vs wo u h bo ta (up (up (tsM 2 ta 0 hh) 0 (ta 0)) 1 (hh 0)) (up ro 0 (rr 0)) ot Bm bk)) rfl ?_
  refine mB hT 18 rfl ?_
  refine mB hT 19 rfl ?_
  refine mNf (lv2 := [(3, .int 3), (2, .int 1), (0, .ref 0), (1, .int 2)]) (st2 := [.long (ta 3), .int 3, .ref 11]) rfl rfl ?_
  refine mB hT 19 rfl ?_
  refine mB hT 1 rfl ?_
  refine mWd (w2 := (MW 2 vs wo u h bo ta (up (up (up (up (up (tsM 2 ta 0 hh) 0 (ta 0)) 1 (hh 0)) 2 (ta 2)) 3 (ta 3)) 4 (ta 4)) (up ro 0 (rr 0)) ot Bm bk)) rfl ?_
  refine mB hT 31 rfl ?_
  refine mNf (lv2 := [(3, .int 5), (2, .int 1), (0, .ref 0), (1, .int 2)]) (st2 := [.long (hh 1), .int 5, .ref 11]) rfl (by rw [hq 1] <;> rfl) ?_
  refine mB hT 19 rfl ?_
  refine mB hT 19 rfl ?_
  refine mNf (lv2 := [(3, .int 7), (2, .int 1), (0, .ref 0), (1, .int 2)]) (st2 := [.long (ta 7), .int 7, .ref 11]) rfl rfl ?_
  refine mB hT 1 rfl ?_
  refine mWd (w2 := (MW 2 vs wo u h bo ta (up (up (up (up (up (up (up (up (tsM 2 ta 0 hh) 0 (ta 0)) 1 (hh 0)) 2 (ta 2)) 3 (ta 3)) 4 (ta 4)) 5 (hh 1)) 6 (ta 6)) 7 (ta 7)) (up ro 0 (rr 0)) ot Bm bk)) rfl ?_
  refine mB hT 18 rfl ?_
  refine mB hT 21 rfl ?_
  refine mNf (lv2 := [(3, .int 9), (2, .int 1), (0, .ref 0), (1, .int 2)]) (st2 := [.long 0, .int 9, .ref 11]) rfl rfl ?_
  refine mB hT 19 rfl ?_
  refine mB hT 1 rfl ?_
  refine mWd (w2 := (MW 2 vs wo u h bo ta (up (up (up (up (up (up (up (up (up (up (up (tsM 2 ta 0 hh) 0 (ta 0)) 1 (hh 0)) 2 (ta 2)) 3 (ta 3)) 4 (ta 4)) 5 (hh 1)) 6 (ta 6)) 7 (ta 7)) 8 (ta 8)) 9 0) 10 (ta 10)) (up ro 0 (rr 0)) ot Bm bk)) rfl ?_
  refine mB hT 18 rfl ?_
  refine mNf (lv2 := [(3, .int 11), (2, .int 1), (0, .ref 0), (1, .int 2)]) (st2 := [.long (ta 11), .int 11, .ref 11]) rfl rfl ?_
  refine mB hT 19 rfl ?_
  refine mB hT 21 rfl ?_
  refine mNf (lv2 := [(3, .int 13), (2, .int 1), (0, .ref 0), (1, .int 2)]) (st2 := [.long 0, .int 13, .ref 11]) rfl rfl ?_
  refine mB hT 1 rfl ?_
  refine mWd (w2 := (MW 2 vs wo u h bo ta (up (up (up (up (up (up (up (up (up (up (up (up (up (up (tsM 2 ta 0 hh) 0 (ta 0)) 1 (hh 0)) 2 (ta 2)) 3 (ta 3)) 4 (ta 4)) 5 (hh 1)) 6 (ta 6)) 7 (ta 7)) 8 (ta 8)) 9 0) 10 (ta 10)) 11 (ta 11)) 12 (ta 12)) 13 0) (up ro 0 (rr 0)) ot Bm bk)) rfl ?_
  refine mB hT 18 rfl ?_
  refine mB hT 19 rfl ?_
  refine mNf (lv2 := [(3, .int 15), (2, .int 1), (0, .ref 0), (1, .int 2)]) (st2 := [.long (ta 15), .int 15, .ref 11]) rfl rfl ?_
  refine mB hT 14 rfl ?_
  refine mIf (fun hp => absurd hp (fun q => Int64.not_lt.mpr (lc_ge.mp q) hs)) (fun _ => ?_)
  refine mB hT 1 rfl ?_
  refine mWd (w2 := (MW 2 vs wo u h bo ta (up (up (up (up (up (up (up (up (up (up (up (up (up (up (up (up (tsM 2 ta 0 hh) 0 (ta 0)) 1 (hh 0)) 2 (ta 2)) 3 (ta 3)) 4 (ta 4)) 5 (hh 1)) 6 (ta 6)) 7 (ta 7)) 8 (ta 8)) 9 0) 10 (ta 10)) 11 (ta 11)) 12 (ta 12)) 13 0) 14 (ta 14)) 15 (ta 15)) (up ro 0 (rr 0)) ot Bm bk)) rfl ?_
  refine mWd (w2 := (MW 2 vs wo u h bo ta (tsM 2 ta 1 hh) (up ro 0 (rr 0)) ot Bm bk)) rfl ?_
  refine hC.1 _ 0 [] _ _ _ _ _ (m_det) rfl rfl (Nat.le_of_ble_eq_true rfl) rfl ?_
  refine mB hT 2 rfl ?_
  refine mNf (lv2 := [(3, .int 16), (2, .int 1), (0, .ref 0), (1, .int 2)]) (st2 := [.long (rr 1), .int 1, .ref 12]) rfl (by rw [hrr 1] <;> rfl) ?_
  refine mB hT 24 rfl ?_
  refine mNf (lv2 := [(3, .int 0), (2, .int 2), (0, .ref 0), (1, .int 2)]) (st2 := [.long (ta 0), .int 0, .ref 11]) rfl rfl ?_
  refine mB hT 19 rfl ?_
  refine mB hT 1 rfl ?_
  refine mWd (w2 := (MW 2 vs wo u h bo ta (up (up (tsM 2 ta 1 hh) 0 (ta 0)) 1 (ta 1)) (up (up ro 0 (rr 0)) 1 (rr 1)) ot Bm bk)) rfl ?_
  refine mB hT 31 rfl ?_
  refine mNf (lv2 := [(3, .int 2), (2, .int 2), (0, .ref 0), (1, .int 2)]) (st2 := [.long (hh 0), .int 2, .ref 11]) rfl (by rw [hq 0] <;> rfl) ?_
  refine mB hT 19 rfl ?_
  refine mB hT 19 rfl ?_
  refine mNf (lv2 := [(3, .int 4), (2, .int 2), (0, .ref 0), (1, .int 2)]) (st2 := [.long (ta 4), .int 4, .ref 11]) rfl rfl ?_
  refine mB hT 1 rfl ?_
  refine mWd (w2 := (MW 2 vs wo u h bo ta (up (up (up (up (up (tsM 2 ta 1 hh) 0 (ta 0)) 1 (ta 1)) 2 (hh 0)) 3 (ta 3)) 4 (ta 4)) (up (up ro 0 (rr 0)) 1 (rr 1)) ot Bm bk)) rfl ?_
  refine mB hT 18 rfl ?_
  refine mB hT 32 rfl ?_
  refine mNf (lv2 := [(3, .int 6), (2, .int 2), (0, .ref 0), (1, .int 2)]) (st2 := [.long (hh 1), .int 6, .ref 11]) rfl (by rw [hq 1] <;> rfl) ?_
  refine mB hT 19 rfl ?_
  refine mB hT 1 rfl ?_
  refine mWd (w2 := (MW 2 vs wo u h bo ta (up (up (up (up (up (up (up (up (tsM 2 ta 1 hh) 0 (ta 0)) 1 (ta 1)) 2 (hh 0)) 3 (ta 3)) 4 (ta 4)) 5 (ta 5)) 6 (hh 1)) 7 (ta 7)) (up (up ro 0 (rr 0)) 1 (rr 1)) ot Bm bk)) rfl ?_
  refine mB hT 18 rfl ?_
  refine mNf (lv2 := [(3, .int 8), (2, .int 2), (0, .ref 0), (1, .int 2)]) (st2 := [.long (ta 8), .int 8, .ref 11]) rfl rfl ?_
  refine mB hT 19 rfl ?_
  refine mB hT 21 rfl ?_
  refine mNf (lv2 := [(3, .int 10), (2, .int 2), (0, .ref 0), (1, .int 2)]) (st2 := [.long 0, .int 10, .ref 11]) rfl rfl ?_
  refine mB hT 1 rfl ?_
  refine mWd (w2 := (MW 2 vs wo u h bo ta (up (up (up (up (up (up (up (up (up (up (up (tsM 2 ta 1 hh) 0 (ta 0)) 1 (ta 1)) 2 (hh 0)) 3 (ta 3)) 4 (ta 4)) 5 (ta 5)) 6 (hh 1)) 7 (ta 7)) 8 (ta 8)) 9 (ta 9)) 10 0) (up (up ro 0 (rr 0)) 1 (rr 1)) ot Bm bk)) rfl ?_
  refine mB hT 18 rfl ?_
  refine mB hT 19 rfl ?_
  refine mNf (lv2 := [(3, .int 12), (2, .int 2), (0, .ref 0), (1, .int 2)]) (st2 := [.long (ta 12), .int 12, .ref 11]) rfl rfl ?_
  refine mB hT 19 rfl ?_
  refine mB hT 1 rfl ?_
  refine mWd (w2 := (MW 2 vs wo u h bo ta (up (up (up (up (up (up (up (up (up (up (up (up (up (up (tsM 2 ta 1 hh) 0 (ta 0)) 1 (ta 1)) 2 (hh 0)) 3 (ta 3)) 4 (ta 4)) 5 (ta 5)) 6 (hh 1)) 7 (ta 7)) 8 (ta 8)) 9 (ta 9)) 10 0) 11 (ta 11)) 12 (ta 12)) 13 (ta 13)) (up (up ro 0 (rr 0)) 1 (rr 1)) ot Bm bk)) rfl ?_
  refine mB hT 20 rfl ?_
  refine mNf (lv2 := [(3, .int 14), (2, .int 2), (0, .ref 0), (1, .int 2)]) (st2 := [.long 0, .int 14, .ref 11]) rfl rfl ?_
  refine mB hT 19 rfl ?_
  refine mB hT 14 rfl ?_
  refine mIf (fun hp => absurd hp (fun q => Int64.not_lt.mpr (lc_ge.mp q) hs)) (fun _ => ?_)
  refine mNf (lv2 := [(3, .int 16), (2, .int 2), (0, .ref 0), (1, .int 2)]) (st2 := [.int 2, .ref 12]) rfl rfl ?_
  refine mB hT 1 rfl ?_
  refine mWd (w2 := (MW 2 vs wo u h bo ta (up (up (up (up (up (up (up (up (up (up (up (up (up (up (up (up (tsM 2 ta 1 hh) 0 (ta 0)) 1 (ta 1)) 2 (hh 0)) 3 (ta 3)) 4 (ta 4)) 5 (ta 5)) 6 (hh 1)) 7 (ta 7)) 8 (ta 8)) 9 (ta 9)) 10 0) 11 (ta 11)) 12 (ta 12)) 13 (ta 13)) 14 0) 15 (ta 15)) (up (up ro 0 (rr 0)) 1 (rr 1)) ot Bm bk)) rfl ?_
  refine mWd (w2 := (MW 2 vs wo u h bo ta (tsM 2 ta 2 hh) (up (up ro 0 (rr 0)) 1 (rr 1)) ot Bm bk)) rfl ?_
  refine hC.1 _ 0 [] _ _ _ _ _ (m_det) rfl rfl (Nat.le_of_ble_eq_true rfl) rfl ?_
  refine mB hT 2 rfl ?_
  refine mNf (lv2 := [(3, .int 16), (2, .int 2), (0, .ref 0), (1, .int 2)]) (st2 := [.long (rr 2), .int 2, .ref 12]) rfl (by rw [hrr 2] <;> rfl) ?_
  refine mB hT 24 rfl ?_
  refine mNf (lv2 := [(3, .int 0), (2, .int 3), (0, .ref 0), (1, .int 2)]) (st2 := [.long (ta 0), .int 0, .ref 11]) rfl rfl ?_
  refine mB hT 19 rfl ?_
  refine mB hT 1 rfl ?_
  refine mWd (w2 := (MW 2 vs wo u h bo ta (up (up (tsM 2 ta 2 hh) 0 (ta 0)) 1 (ta 1)) (up (up (up ro 0 (rr 0)) 1 (rr 1)) 2 (rr 2)) ot Bm bk)) rfl ?_
  refine mB hT 18 rfl ?_
  refine mNf (lv2 := [(3, .int 2), (2, .int 3), (0, .ref 0), (1, .int 2)]) (st2 := [.long (ta 2), .int 2, .ref 11]) rfl rfl ?_
  refine mB hT 32 rfl ?_
  refine mNf (lv2 := [(3, .int 3), (2, .int 3), (0, .ref 0), (1, .int 2)]) (st2 := [.long (hh 0), .int 3, .ref 11]) rfl (by rw [hq 0] <;> rfl) ?_
  refine mB hT 19 rfl ?_
  refine mB hT 1 rfl ?_
  refine mWd (w2 := (MW 2 vs wo u h bo ta (up (up (up (up (up (tsM 2 ta 2 hh) 0 (ta 0)) 1 (ta 1)) 2 (ta 2)) 3 (hh 0)) 4 (ta 4)) (up (up (up ro 0 (rr 0)) 1 (rr 1)) 2 (rr 2)) ot Bm bk)) rfl ?_
  refine mB hT 18 rfl ?_
  refine mNf (lv2 := [(3, .int 5), (2, .int 3), (0, .ref 0), (1, .int 2)]) (st2 := [.long (ta 5), .int 5, .ref 11]) rfl rfl ?_
  refine mB hT 19 rfl ?_
  refine mB hT 32 rfl ?_
  refine mNf (lv2 := [(3, .int 7), (2, .int 3), (0, .ref 0), (1, .int 2)]) (st2 := [.long (hh 1), .int 7, .ref 11]) rfl (by rw [hq 1] <;> rfl) ?_
  refine mB hT 1 rfl ?_
  refine mWd (w2 := (MW 2 vs wo u h bo ta (up (up (up (up (up (up (up (up (tsM 2 ta 2 hh) 0 (ta 0)) 1 (ta 1)) 2 (ta 2)) 3 (hh 0)) 4 (ta 4)) 5 (ta 5)) 6 (ta 6)) 7 (hh 1)) (up (up (up ro 0 (rr 0)) 1 (rr 1)) 2 (rr 2)) ot Bm bk)) rfl ?_
  refine mB hT 18 rfl ?_
  refine mB hT 19 rfl ?_
  refine mNf (lv2 := [(3, .int 9), (2, .int 3), (0, .ref 0), (1, .int 2)]) (st2 := [.long (ta 9), .int 9, .ref 11]) rfl rfl ?_
  refine mB hT 19 rfl ?_
  refine mB hT 1 rfl ?_
  refine mWd (w2 := (MW 2 vs wo u h bo ta (up (up (up (up (up (up (up (up (up (up (up (tsM 2 ta 2 hh) 0 (ta 0)) 1 (ta 1)) 2 (ta 2)) 3 (hh 0)) 4 (ta 4)) 5 (ta 5)) 6 (ta 6)) 7 (hh 1)) 8 (ta 8)) 9 (ta 9)) 10 (ta 10)) (up (up (up ro 0 (rr 0)) 1 (rr 1)) 2 (rr 2)) ot Bm bk)) rfl ?_
  refine mB hT 20 rfl ?_
  refine mNf (lv2 := [(3, .int 11), (2, .int 3), (0, .ref 0), (1, .int 2)]) (st2 := [.long 0, .int 11, .ref 11]) rfl rfl ?_
  refine mB hT 19 rfl ?_
  refine mB hT 19 rfl ?_
  refine mNf (lv2 := [(3, .int 13), (2, .int 3), (0, .ref 0), (1, .int 2)]) (st2 := [.long (ta 13), .int 13, .ref 11]) rfl rfl ?_
  refine mB hT 1 rfl ?_
  refine mWd (w2 := (MW 2 vs wo u h bo ta (up (up (up (up (up (up (up (up (up (up (up (up (up (up (tsM 2 ta 2 hh) 0 (ta 0)) 1 (ta 1)) 2 (ta 2)) 3 (hh 0)) 4 (ta 4)) 5 (ta 5)) 6 (ta 6)) 7 (hh 1)) 8 (ta 8)) 9 (ta 9)) 10 (ta 10)) 11 0) 12 (ta 12)) 13 (ta 13)) (up (up (up ro 0 (rr 0)) 1 (rr 1)) 2 (rr 2)) ot Bm bk)) rfl ?_
  refine mB hT 18 rfl ?_
  refine mB hT 21 rfl ?_
  refine mNf (lv2 := [(3, .int 15), (2, .int 3), (0, .ref 0), (1, .int 2)]) (st2 := [.long 0, .int 15, .ref 11]) rfl rfl ?_
  refine mB hT 14 rfl ?_
  refine mIf (fun hp => absurd hp (fun q => Int64.not_lt.mpr (lc_ge.mp q) hs)) (fun _ => ?_)
  refine mB hT 1 rfl ?_
  refine mWd (w2 := (MW 2 vs wo u h bo ta (up (up (up (up (up (up (up (up (up (up (up (up (up (up (up (up (tsM 2 ta 2 hh) 0 (ta 0)) 1 (ta 1)) 2 (ta 2)) 3 (hh 0)) 4 (ta 4)) 5 (ta 5)) 6 (ta 6)) 7 (hh 1)) 8 (ta 8)) 9 (ta 9)) 10 (ta 10)) 11 0) 12 (ta 12)) 13 (ta 13)) 14 (ta 14)) 15 0) (up (up (up ro 0 (rr 0)) 1 (rr 1)) 2 (rr 2)) ot Bm bk)) rfl ?_
  refine mWd (w2 := (MW 2 vs wo u h bo ta (tsM 2 ta 3 hh) (up (up (up ro 0 (rr 0)) 1 (rr 1)) 2 (rr 2)) ot Bm bk)) rfl ?_
  refine hC.1 _ 0 [] _ _ _ _ _ (m_det) rfl rfl (Nat.le_of_ble_eq_true rfl) rfl ?_
  refine mB hT 2 rfl ?_
  refine mNf (lv2 := [(3, .int 16), (2, .int 3), (0, .ref 0), (1, .int 2)]) (st2 := [.long (rr 3), .int 3, .ref 12]) rfl (by rw [hrr 3] <;> rfl) ?_
  refine mB hT 6 rfl ?_
  exact hR _ (by decide) _ _ _ rfl rfl
set_option maxRecDepth 20000 in
theorem m_solve_2_3p {vs : Int32} {wo un h : Int64} {bo : Nat → Int32} {ta tr ro ot : Nat → Int64} {Bm : Nat → Nat → Nat → Int32} {bk : Nat → Nat → Int32} {u : Int64} {hh rr : Nat → Int64} (hs : ¬ wo < 0) (hu : u = wo) (hq : ∀ j : Nat, hh j = (bk 3 j).toInt64) (hrr : ∀ i : Nat, rr i = dtM (tsM 2 ta i hh)) : KX3_solve l D ca ad [.ref 0, .int 3] (MW 2 vs wo un h bo ta tr ro ot Bm bk) none (MW 2 vs wo u h bo ta (tsM 2 ta 3 hh) rr ot Bm bk) := by
  refine PX3_solve (Nat.le_of_ble_eq_true rfl) ?_
  intro G hT hC hR
  refine mB hT 6 rfl ?_
  refine mIf (fun _ => ?_) (fun hn => absurd (lc_ge.mpr (Int64.not_lt.mp hs)) hn)
  refine mB hT 2 rfl ?_
  refine mNf (lv2 := [(0, .ref 0), (1, .int 3)]) (st2 := [.long u, .ref 0]) rfl (by rw [hu] <;> rfl) ?_
  refine mB hT 37 rfl ?_
  refine mNf (lv2 := [(3, .int 0), (2, .int 0), (0, .ref 0), (1, .int 3)]) (st2 := [.long (hh 0), .int 0, .ref 11]) rfl (by rw [hq 0] <;> rfl) ?_
  refine mB hT 19 rfl ?_
  refine mB hT 1 rfl ?_
  refine mWd (w2 := (MW 2 vs wo u h bo ta (up (up tr 0 (hh 0)) 1 (ta 1)) ro ot Bm bk)) rfl ?_
  refine mB hT 18 rfl ?_
  refine mNf (lv2 := [(3, .int 2), (2, .int 0), (0, .ref 0), (1, .int 3)]) (st2 := [.long (ta 2), .int 2, .ref 11]) rfl rfl ?_
  refine mB hT 19 rfl ?_
  refine mB hT 32 rfl ?_
  refine mNf (lv2 := [(3, .int 4), (2, .int 0), (0, .ref 0), (1, .int 3)]) (st2 := [.long (hh 1), .int 4, .ref 11]) rfl (by rw [hq 1] <;> rfl) ?_
  refine mB hT 1 rfl ?_
  refine mWd (w2 := (MW 2 vs wo u h bo ta (up (up (up (up (up tr 0 (hh 0)) 1 (ta 1)) 2 (ta 2)) 3 (ta 3)) 4 (hh 1)) ro ot Bm bk)) rfl ?_
  refine mB hT 18 rfl ?_
  refine mB hT 19 rfl ?_
  refine mNf (lv2 := [(3, .int 6), (2, .int 0), (0, .ref 0), (1, .int 3)]) (st2 := [.long (ta 6), .int 6, .ref 11]) rfl rfl ?_
  refine mB hT 19 rfl ?_
  refine mB hT 1 rfl ?_
  refine mWd (w2 := (MW 2 vs wo u h bo ta (up (up (up (up (up (up (up (up tr 0 (hh 0)) 1 (ta 1)) 2 (ta 2)) 3 (ta 3)) 4 (hh 1)) 5 (ta 5)) 6 (ta 6)) 7 (ta 7)) ro ot Bm bk)) rfl ?_
  refine mB hT 20 rfl ?_
  refine mNf (lv2 := [(3, .int 8), (2, .int 0), (0, .ref 0), (1, .int 3)]) (st2 := [.long 0, .int 8, .ref 11]) rfl rfl ?_
  refine mB hT 19 rfl ?_
  refine mB hT 19 rfl ?_
  refine mNf (lv2 := [(3, .int 10), (2, .int 0), (0, .ref 0), (1, .int 3)]) (st2 := [.long (ta 10), .int 10, .ref 11]) rfl rfl ?_
  refine mB hT 1 rfl ?_
  refine mWd (w2 := (MW 2 vs wo u h bo ta (up (up (up (up (up (up (up (up (up (up (up tr 0 (hh 0)) 1 (ta 1)) 2 (ta 2)) 3 (ta 3)) 4 (hh 1)) 5 (ta 5)) 6 (ta 6)) 7 (ta 7)) 8 0) 9 (ta 9)) 10 (ta 10)) ro ot Bm bk)) rfl ?_
  refine mB hT 18 rfl ?_
  refine mB hT 21 rfl ?_
  refine mNf (lv2 := [(3, .int 12), (2, .int 0), (0, .ref 0), (1, .int 3)]) (st2 := [.long 0, .int 12, .ref 11]) rfl rfl ?_
  refine mB hT 19 rfl ?_
  refine mB hT 1 rfl ?_
  refine mWd (w2 := (MW 2 vs wo u h bo ta (up (up (up (up (up (up (up (up (up (up (up (up (up (up tr 0 (hh 0)) 1 (ta 1)) 2 (ta 2)) 3 (ta 3)) 4 (hh 1)) 5 (ta 5)) 6 (ta 6)) 7 (ta 7)) 8 0) 9 (ta 9)) 10 (ta 10)) 11 (ta 11)) 12 0) 13 (ta 13)) ro ot Bm bk)) rfl ?_
  refine mB hT 18 rfl ?_
  refine mNf (lv2 := [(3, .int 14), (2, .int 0), (0, .ref 0), (1, .int 3)]) (st2 := [.long (ta 14), .int 14, .ref 11]) rfl rfl ?_
  refine mB hT 19 rfl ?_
  refine mB hT 14 rfl ?_
  refine mIf (fun _ => ?_) (fun hn => absurd (lc_ge.mpr (Int64.not_lt.mp hs)) hn)
  refine mNf (lv2 := [(3, .int 16), (2, .int 0), (0, .ref 0), (1, .int 3)]) (st2 := [.int 0, .ref 12]) rfl rfl ?_
  refine mB hT 1 rfl ?_
  refine mWd (w2 := (MW 2 vs wo u h bo ta (up (up (up (up (up (up (up (up (up (up (up (up (up (up (up (up tr 0 (hh 0)) 1 (ta 1)) 2 (ta 2)) 3 (ta 3)) 4 (hh 1)) 5 (ta 5)) 6 (ta 6)) 7 (ta 7)) 8 0) 9 (ta 9)) 10 (ta 10)) 11 (ta 11)) 12 0) 13 (ta 13)) 14 (ta 14)) 15 (ta 15)) ro ot Bm bk)) rfl ?_
  refine mWd (w2 := (MW 2 vs wo u h bo ta (tsM 2 ta 0 hh) ro ot Bm bk)) rfl ?_
  refine hC.2 _ 0 [] _ _ _ _ _ (m_det) rfl rfl (Nat.le_of_ble_eq_true rfl) rfl ?_
  refine mNf (lv2 := [(3, .int 16), (2, .int 0), (0, .ref 0), (1, .int 3)]) (st2 := [.long (rr 0), .int 0, .ref 12]) rfl (by rw [hrr 0] <;> rfl) ?_
  refine mB hT 24 rfl ?_
  refine mNf (lv2 := [(3, .int 0), (2, .int 1), (0, .ref 0), (1, .int 3)]) (st2 := [.long (ta 0), .int 0, .ref 11]) rfl rfl ?_
  refine mB hT 32 rfl ?_
  refine mNf (lv2 := [(3, .int 1), (2, .int 1), (0, .ref 0), (1, .int 3)]) (st2 := [.long (hh 0), .int 1, .ref 11]) rfl (by rw [hq 0] <;> rfl) ?_
  refine mB hT 1 rfl ?_
  refine mWd (w2 := (MW 2 vs wo u h bo ta (up (up (tsM 2 ta 0 hh) 0 (ta 0)) 1 (hh 0)) (up ro 0 (rr 0)) ot Bm bk)) rfl ?_
  refine mB hT 18 rfl ?_
  refine mB hT 19 rfl ?_
  refine mNf (lv2 := [(3, .int 3), (2, .int 1), (0, .ref 0), (1, .int 3)]) (st2 := [.long (ta 3), .int 3, .ref 11]) rfl rfl ?_
  refine mB hT 19 rfl ?_
  refine mB hT 1 rfl ?_
  refine mWd (w2 := (MW 2 vs wo u h bo ta (up (up (up (up (up (tsM 2 ta 0 hh) 0 (ta 0)) 1 (hh 0)) 2 (ta 2)) 3 (ta 3)) 4 (ta 4)) (up ro 0 (rr 0)) ot Bm bk)) rfl ?_
  refine mB hT 31 rfl ?_
  refine mNf (lv2 := [(3, .int 5), (2, .int 1), (0, .ref 0), (1, .int 3)]) (st2 := [.long (hh 1), .int 5, .ref 11]) rfl (by rw [hq 1] <;> rfl) ?_
  refine mB hT 19 rfl ?_
  refine mB hT 19 rfl ?_
  refine mNf (lv2 := [(3, .int 7), (2, .int 1), (0, .ref 0), (1, .int 3)]) (st2 := [.long (ta 7), .int 7, .ref 11]) rfl rfl ?_
  refine mB hT 1 rfl ?_
  refine mWd (w2 := (MW 2 vs wo u h bo ta (up (up (up (up (up (up (up (up (tsM 2 ta 0 hh) 0 (ta 0)) 1 (hh 0)) 2 (ta 2)) 3 (ta 3)) 4 (ta 4)) 5 (hh 1)) 6 (ta 6)) 7 (ta 7)) (up ro 0 (rr 0)) ot Bm bk)) rfl ?_
  refine mB hT 18 rfl ?_
  refine mB hT 21 rfl ?_
  refine mNf (lv2 := [(3, .int 9), (2, .int 1), (0, .ref 0), (1, .int 3)]) (st2 := [.long 0, .int 9, .ref 11]) rfl rfl ?_
  refine mB hT 19 rfl ?_
  refine mB hT 1 rfl ?_
  refine mWd (w2 := (MW 2 vs wo u h bo ta (up (up (up (up (up (up (up (up (up (up (up (tsM 2 ta 0 hh) 0 (ta 0)) 1 (hh 0)) 2 (ta 2)) 3 (ta 3)) 4 (ta 4)) 5 (hh 1)) 6 (ta 6)) 7 (ta 7)) 8 (ta 8)) 9 0) 10 (ta 10)) (up ro 0 (rr 0)) ot Bm bk)) rfl ?_
  refine mB hT 18 rfl ?_
  refine mNf (lv2 := [(3, .int 11), (2, .int 1), (0, .ref 0), (1, .int 3)]) (st2 := [.long (ta 11), .int 11, .ref 11]) rfl rfl ?_
  refine mB hT 19 rfl ?_
  refine mB hT 21 rfl ?_
  refine mNf (lv2 := [(3, .int 13), (2, .int 1), (0, .ref 0), (1, .int 3)]) (st2 := [.long 0, .int 13, .ref 11]) rfl rfl ?_
  refine mB hT 1 rfl ?_
  refine mWd (w2 := (MW 2 vs wo u h bo ta (up (up (up (up (up (up (up (up (up (up (up (up (up (up (tsM 2 ta 0 hh) 0 (ta 0)) 1 (hh 0)) 2 (ta 2)) 3 (ta 3)) 4 (ta 4)) 5 (hh 1)) 6 (ta 6)) 7 (ta 7)) 8 (ta 8)) 9 0) 10 (ta 10)) 11 (ta 11)) 12 (ta 12)) 13 0) (up ro 0 (rr 0)) ot Bm bk)) rfl ?_
  refine mB hT 18 rfl ?_
  refine mB hT 19 rfl ?_
  refine mNf (lv2 := [(3, .int 15), (2, .int 1), (0, .ref 0), (1, .int 3)]) (st2 := [.long (ta 15), .int 15, .ref 11]) rfl rfl ?_
  refine mB hT 14 rfl ?_
  refine mIf (fun _ => ?_) (fun hn => absurd (lc_ge.mpr (Int64.not_lt.mp hs)) hn)
  refine mB hT 1 rfl ?_
  refine mWd (w2 := (MW 2 vs wo u h bo ta (up (up (up (up (up (up (up (up (up (up (up (up (up (up (up (up (tsM 2 ta 0 hh) 0 (ta 0)) 1 (hh 0)) 2 (ta 2)) 3 (ta 3)) 4 (ta 4)) 5 (hh 1)) 6 (ta 6)) 7 (ta 7)) 8 (ta 8)) 9 0) 10 (ta 10)) 11 (ta 11)) 12 (ta 12)) 13 0) 14 (ta 14)) 15 (ta 15)) (up ro 0 (rr 0)) ot Bm bk)) rfl ?_
  refine mWd (w2 := (MW 2 vs wo u h bo ta (tsM 2 ta 1 hh) (up ro 0 (rr 0)) ot Bm bk)) rfl ?_
  refine hC.2 _ 0 [] _ _ _ _ _ (m_det) rfl rfl (Nat.le_of_ble_eq_true rfl) rfl ?_
  refine mNf (lv2 := [(3, .int 16), (2, .int 1), (0, .ref 0), (1, .int 3)]) (st2 := [.long (rr 1), .int 1, .ref 12]) rfl (by rw [hrr 1] <;> rfl) ?_
  refine mB hT 24 rfl ?_
  refine mNf (lv2 := [(3, .int 0), (2, .int 2), (0, .ref 0), (1, .int 3)]) (st2 := [.long (ta 0), .int 0, .ref 11]) rfl rfl ?_
  refine mB hT 19 rfl ?_
  refine mB hT 1 rfl ?_
  refine mWd (w2 := (MW 2 vs wo u h bo ta (up (up (tsM 2 ta 1 hh) 0 (ta 0)) 1 (ta 1)) (up (up ro 0 (rr 0)) 1 (rr 1)) ot Bm bk)) rfl ?_
  refine mB hT 31 rfl ?_
  refine mNf (lv2 := [(3, .int 2), (2, .int 2), (0, .ref 0), (1, .int 3)]) (st2 := [.long (hh 0), .int 2, .ref 11]) rfl (by rw [hq 0] <;> rfl) ?_
  refine mB hT 19 rfl ?_
  refine mB hT 19 rfl ?_
  refine mNf (lv2 := [(3, .int 4), (2, .int 2), (0, .ref 0), (1, .int 3)]) (st2 := [.long (ta 4), .int 4, .ref 11]) rfl rfl ?_
  refine mB hT 1 rfl ?_
  refine mWd (w2 := (MW 2 vs wo u h bo ta (up (up (up (up (up (tsM 2 ta 1 hh) 0 (ta 0)) 1 (ta 1)) 2 (hh 0)) 3 (ta 3)) 4 (ta 4)) (up (up ro 0 (rr 0)) 1 (rr 1)) ot Bm bk)) rfl ?_
  refine mB hT 18 rfl ?_
  refine mB hT 32 rfl ?_
  refine mNf (lv2 := [(3, .int 6), (2, .int 2), (0, .ref 0), (1, .int 3)]) (st2 := [.long (hh 1), .int 6, .ref 11]) rfl (by rw [hq 1] <;> rfl) ?_
  refine mB hT 19 rfl ?_
  refine mB hT 1 rfl ?_
  refine mWd (w2 := (MW 2 vs wo u h bo ta (up (up (up (up (up (up (up (up (tsM 2 ta 1 hh) 0 (ta 0)) 1 (ta 1)) 2 (hh 0)) 3 (ta 3)) 4 (ta 4)) 5 (ta 5)) 6 (hh 1)) 7 (ta 7)) (up (up ro 0 (rr 0)) 1 (rr 1)) ot Bm bk)) rfl ?_
  refine mB hT 18 rfl ?_
  refine mNf (lv2 := [(3, .int 8), (2, .int 2), (0, .ref 0), (1, .int 3)]) (st2 := [.long (ta 8), .int 8, .ref 11]) rfl rfl ?_
  refine mB hT 19 rfl ?_
  refine mB hT 21 rfl ?_
  refine mNf (lv2 := [(3, .int 10), (2, .int 2), (0, .ref 0), (1, .int 3)]) (st2 := [.long 0, .int 10, .ref 11]) rfl rfl ?_
  refine mB hT 1 rfl ?_
  refine mWd (w2 := (MW 2 vs wo u h bo ta (up (up (up (up (up (up (up (up (up (up (up (tsM 2 ta 1 hh) 0 (ta 0)) 1 (ta 1)) 2 (hh 0)) 3 (ta 3)) 4 (ta 4)) 5 (ta 5)) 6 (hh 1)) 7 (ta 7)) 8 (ta 8)) 9 (ta 9)) 10 0) (up (up ro 0 (rr 0)) 1 (rr 1)) ot Bm bk)) rfl ?_
  refine mB hT 18 rfl ?_
  refine mB hT 19 rfl ?_
  refine mNf (lv2 := [(3, .int 12), (2, .int 2), (0, .ref 0), (1, .int 3)]) (st2 := [.long (ta 12), .int 12, .ref 11]) rfl rfl ?_
  refine mB hT 19 rfl ?_
  refine mB hT 1 rfl ?_
  refine mWd (w2 := (MW 2 vs wo u h bo ta (up (up (up (up (up (up (up (up (up (up (up (up (up (up (tsM 2 ta 1 hh) 0 (ta 0)) 1 (ta 1)) 2 (hh 0)) 3 (ta 3)) 4 (ta 4)) 5 (ta 5)) 6 (hh 1)) 7 (ta 7)) 8 (ta 8)) 9 (ta 9)) 10 0) 11 (ta 11)) 12 (ta 12)) 13 (ta 13)) (up (up ro 0 (rr 0)) 1 (rr 1)) ot Bm bk)) rfl ?_
  refine mB hT 20 rfl ?_
  refine mNf (lv2 := [(3, .int 14), (2, .int 2), (0, .ref 0), (1, .int 3)]) (st2 := [.long 0, .int 14, .ref 11]) rfl rfl ?_
  refine mB hT 19 rfl ?_
  refine mB hT 14 rfl ?_
  refine mIf (fun _ => ?_) (fun hn => absurd (lc_ge.mpr (Int64.not_lt.mp hs)) hn)
  refine mNf (lv2 := [(3, .int 16), (2, .int 2), (0, .ref 0), (1, .int 3)]) (st2 := [.int 2, .ref 12]) rfl rfl ?_
  refine mB hT 1 rfl ?_
  refine mWd (w2 := (MW 2 vs wo u h bo ta (up (up (up (up (up (up (up (up (up (up (up (up (up (up (up (up (tsM 2 ta 1 hh) 0 (ta 0)) 1 (ta 1)) 2 (hh 0)) 3 (ta 3)) 4 (ta 4)) 5 (ta 5)) 6 (hh 1)) 7 (ta 7)) 8 (ta 8)) 9 (ta 9)) 10 0) 11 (ta 11)) 12 (ta 12)) 13 (ta 13)) 14 0) 15 (ta 15)) (up (up ro 0 (rr 0)) 1 (rr 1)) ot Bm bk)) rfl ?_
  refine mWd (w2 := (MW 2 vs wo u h bo ta (tsM 2 ta 2 hh) (up (up ro 0 (rr 0)) 1 (rr 1)) ot Bm bk)) rfl ?_
  refine hC.2 _ 0 [] _ _ _ _ _ (m_det) rfl rfl (Nat.le_of_ble_eq_true rfl) rfl ?_
  refine mNf (lv2 := [(3, .int 16), (2, .int 2), (0, .ref 0), (1, .int 3)]) (st2 := [.long (rr 2), .int 2, .ref 12]) rfl (by rw [hrr 2] <;> rfl) ?_
  refine mB hT 24 rfl ?_
  refine mNf (lv2 := [(3, .int 0), (2, .int 3), (0, .ref 0), (1, .int 3)]) (st2 := [.long (ta 0), .int 0, .ref 11]) rfl rfl ?_
  refine mB hT 19 rfl ?_
  refine mB hT 1 rfl ?_
  refine mWd (w2 := (MW 2 vs wo u h bo ta (up (up (tsM 2 ta 2 hh) 0 (ta 0)) 1 (ta 1)) (up (up (up ro 0 (rr 0)) 1 (rr 1)) 2 (rr 2)) ot Bm bk)) rfl ?_
  refine mB hT 18 rfl ?_
  refine mNf (lv2 := [(3, .int 2), (2, .int 3), (0, .ref 0), (1, .int 3)]) (st2 := [.long (ta 2), .int 2, .ref 11]) rfl rfl ?_
  refine mB hT 32 rfl ?_
  refine mNf (lv2 := [(3, .int 3), (2, .int 3), (0, .ref 0), (1, .int 3)]) (st2 := [.long (hh 0), .int 3, .ref 11]) rfl (by rw [hq 0] <;> rfl) ?_
  refine mB hT 19 rfl ?_
  refine mB hT 1 rfl ?_
  refine mWd (w2 := (MW 2 vs wo u h bo ta (up (up (up (up (up (tsM 2 ta 2 hh) 0 (ta 0)) 1 (ta 1)) 2 (ta 2)) 3 (hh 0)) 4 (ta 4)) (up (up (up ro 0 (rr 0)) 1 (rr 1)) 2 (rr 2)) ot Bm bk)) rfl ?_
  refine mB hT 18 rfl ?_
  refine mNf (lv2 := [(3, .int 5), (2, .int 3), (0, .ref 0), (1, .int 3)]) (st2 := [.long (ta 5), .int 5, .ref 11]) rfl rfl ?_
  refine mB hT 19 rfl ?_
  refine mB hT 32 rfl ?_
  refine mNf (lv2 := [(3, .int 7), (2, .int 3), (0, .ref 0), (1, .int 3)]) (st2 := [.long (hh 1), .int 7, .ref 11]) rfl (by rw [hq 1] <;> rfl) ?_
  refine mB hT 1 rfl ?_
  refine mWd (w2 := (MW 2 vs wo u h bo ta (up (up (up (up (up (up (up (up (tsM 2 ta 2 hh) 0 (ta 0)) 1 (ta 1)) 2 (ta 2)) 3 (hh 0)) 4 (ta 4)) 5 (ta 5)) 6 (ta 6)) 7 (hh 1)) (up (up (up ro 0 (rr 0)) 1 (rr 1)) 2 (rr 2)) ot Bm bk)) rfl ?_
  refine mB hT 18 rfl ?_
  refine mB hT 19 rfl ?_
  refine mNf (lv2 := [(3, .int 9), (2, .int 3), (0, .ref 0), (1, .int 3)]) (st2 := [.long (ta 9), .int 9, .ref 11]) rfl rfl ?_
  refine mB hT 19 rfl ?_
  refine mB hT 1 rfl ?_
  refine mWd (w2 := (MW 2 vs wo u h bo ta (up (up (up (up (up (up (up (up (up (up (up (tsM 2 ta 2 hh) 0 (ta 0)) 1 (ta 1)) 2 (ta 2)) 3 (hh 0)) 4 (ta 4)) 5 (ta 5)) 6 (ta 6)) 7 (hh 1)) 8 (ta 8)) 9 (ta 9)) 10 (ta 10)) (up (up (up ro 0 (rr 0)) 1 (rr 1)) 2 (rr 2)) ot Bm bk)) rfl ?_
  refine mB hT 20 rfl ?_
  refine mNf (lv2 := [(3, .int 11), (2, .int 3), (0, .ref 0), (1, .int 3)]) (st2 := [.long 0, .int 11, .ref 11]) rfl rfl ?_
  refine mB hT 19 rfl ?_
  refine mB hT 19 rfl ?_
  refine mNf (lv2 := [(3, .int 13), (2, .int 3), (0, .ref 0), (1, .int 3)]) (st2 := [.long (ta 13), .int 13, .ref 11]) rfl rfl ?_
  refine mB hT 1 rfl ?_
  refine mWd (w2 := (MW 2 vs wo u h bo ta (up (up (up (up (up (up (up (up (up (up (up (up (up (up (tsM 2 ta 2 hh) 0 (ta 0)) 1 (ta 1)) 2 (ta 2)) 3 (hh 0)) 4 (ta 4)) 5 (ta 5)) 6 (ta 6)) 7 (hh 1)) 8 (ta 8)) 9 (ta 9)) 10 (ta 10)) 11 0) 12 (ta 12)) 13 (ta 13)) (up (up (up ro 0 (rr 0)) 1 (rr 1)) 2 (rr 2)) ot Bm bk)) rfl ?_
  refine mB hT 18 rfl ?_
  refine mB hT 21 rfl ?_
  refine mNf (lv2 := [(3, .int 15), (2, .int 3), (0, .ref 0), (1, .int 3)]) (st2 := [.long 0, .int 15, .ref 11]) rfl rfl ?_
  refine mB hT 14 rfl ?_
  refine mIf (fun _ => ?_) (fun hn => absurd (lc_ge.mpr (Int64.not_lt.mp hs)) hn)
  refine mB hT 1 rfl ?_
  refine mWd (w2 := (MW 2 vs wo u h bo ta (up (up (up (up (up (up (up (up (up (up (up (up (up (up (up (up (tsM 2 ta 2 hh) 0 (ta 0)) 1 (ta 1)) 2 (ta 2)) 3 (hh 0)) 4 (ta 4)) 5 (ta 5)) 6 (ta 6)) 7 (hh 1)) 8 (ta 8)) 9 (ta 9)) 10 (ta 10)) 11 0) 12 (ta 12)) 13 (ta 13)) 14 (ta 14)) 15 0) (up (up (up ro 0 (rr 0)) 1 (rr 1)) 2 (rr 2)) ot Bm bk)) rfl ?_
  refine mWd (w2 := (MW 2 vs wo u h bo ta (tsM 2 ta 3 hh) (up (up (up ro 0 (rr 0)) 1 (rr 1)) 2 (rr 2)) ot Bm bk)) rfl ?_
  refine hC.2 _ 0 [] _ _ _ _ _ (m_det) rfl rfl (Nat.le_of_ble_eq_true rfl) rfl ?_
  refine mNf (lv2 := [(3, .int 16), (2, .int 3), (0, .ref 0), (1, .int 3)]) (st2 := [.long (rr 3), .int 3, .ref 12]) rfl (by rw [hrr 3] <;> rfl) ?_
  refine mB hT 6 rfl ?_
  exact hR _ (by decide) _ _ _ rfl rfl
set_option maxRecDepth 20000 in
theorem m_solve_2_3n {vs : Int32} {wo un h : Int64} {bo : Nat → Int32} {ta tr ro ot : Nat → Int64} {Bm : Nat → Nat → Nat → Int32} {bk : Nat → Nat → Int32} {u : Int64} {hh rr : Nat → Int64} (hs : wo < 0) (hu : u = -wo) (hq : ∀ j : Nat, hh j = (bk 3 j).toInt64) (hrr : ∀ i : Nat, rr i = -(dtM (tsM 2 ta i hh))) : KX3_solve l D ca ad [.ref 0, .int 3] (MW 2 vs wo un h bo ta tr ro ot Bm bk) none (MW 2 vs wo u h bo ta (tsM 2 ta 3 hh) rr ot Bm bk) := by
  refine PX3_solve (Nat.le_of_ble_eq_true rfl) ?_
  intro G hT hC hR
  refine mB hT 6 rfl ?_
  refine mIf (fun hp => absurd hp (fun q => Int64.not_lt.mpr (lc_ge.mp q) hs)) (fun _ => ?_)
  refine mB hT 4 rfl ?_
  refine mNf (lv2 := [(0, .ref 0), (1, .int 3)]) (st2 := [.long u, .ref 0]) rfl (by rw [hu] <;> rfl) ?_
  refine mB hT 37 rfl ?_
  refine mNf (lv2 := [(3, .int 0), (2, .int 0), (0, .ref 0), (1, .int 3)]) (st2 := [.long (hh 0), .int 0, .ref 11]) rfl (by rw [hq 0] <;> rfl) ?_
  refine mB hT 19 rfl ?_
  refine mB hT 1 rfl ?_
  refine mWd (w2 := (MW 2 vs wo u h bo ta (up (up tr 0 (hh 0)) 1 (ta 1)) ro ot Bm bk)) rfl ?_
  refine mB hT 18 rfl ?_
  refine mNf (lv2 := [(3, .int 2), (2, .int 0), (0, .ref 0), (1, .int 3)]) (st2 := [.long (ta 2), .int 2, .ref 11]) rfl rfl ?_
  refine mB hT 19 rfl ?_
  refine mB hT 32 rfl ?_
  refine mNf (lv2 := [(3, .int 4), (2, .int 0), (0, .ref 0), (1, .int 3)]) (st2 := [.long (hh 1), .int 4, .ref 11]) rfl (by rw [hq 1] <;> rfl) ?_
  refine mB hT 1 rfl ?_
  refine mWd (w2 := (MW 2 vs wo u h bo ta (up (up (up (up (up tr 0 (hh 0)) 1 (ta 1)) 2 (ta 2)) 3 (ta 3)) 4 (hh 1)) ro ot Bm bk)) rfl ?_
  refine mB hT 18 rfl ?_
  refine mB hT 19 rfl ?_
  refine mNf (lv2 := [(3, .int 6), (2, .int 0), (0, .ref 0), (1, .int 3)]) (st2 := [.long (ta 6), .int 6, .ref 11]) rfl rfl ?_
  refine mB hT 19 rfl ?_
  refine mB hT 1 rfl ?_
  refine mWd (w2 := (MW 2 vs wo u h bo ta (up (up (up (up (up (up (up (up tr 0 (hh 0)) 1 (ta 1)) 2 (ta 2)) 3 (ta 3)) 4 (hh 1)) 5 (ta 5)) 6 (ta 6)) 7 (ta 7)) ro ot Bm bk)) rfl ?_
  refine mB hT 20 rfl ?_
  refine mNf (lv2 := [(3, .int 8), (2, .int 0), (0, .ref 0), (1, .int 3)]) (st2 := [.long 0, .int 8, .ref 11]) rfl rfl ?_
  refine mB hT 19 rfl ?_
  refine mB hT 19 rfl ?_
  refine mNf (lv2 := [(3, .int 10), (2, .int 0), (0, .ref 0), (1, .int 3)]) (st2 := [.long (ta 10), .int 10, .ref 11]) rfl rfl ?_
  refine mB hT 1 rfl ?_
  refine mWd (w2 := (MW 2 vs wo u h bo ta (up (up (up (up (up (up (up (up (up (up (up tr 0 (hh 0)) 1 (ta 1)) 2 (ta 2)) 3 (ta 3)) 4 (hh 1)) 5 (ta 5)) 6 (ta 6)) 7 (ta 7)) 8 0) 9 (ta 9)) 10 (ta 10)) ro ot Bm bk)) rfl ?_
  refine mB hT 18 rfl ?_
  refine mB hT 21 rfl ?_
  refine mNf (lv2 := [(3, .int 12), (2, .int 0), (0, .ref 0), (1, .int 3)]) (st2 := [.long 0, .int 12, .ref 11]) rfl rfl ?_
  refine mB hT 19 rfl ?_
  refine mB hT 1 rfl ?_
  refine mWd (w2 := (MW 2 vs wo u h bo ta (up (up (up (up (up (up (up (up (up (up (up (up (up (up tr 0 (hh 0)) 1 (ta 1)) 2 (ta 2)) 3 (ta 3)) 4 (hh 1)) 5 (ta 5)) 6 (ta 6)) 7 (ta 7)) 8 0) 9 (ta 9)) 10 (ta 10)) 11 (ta 11)) 12 0) 13 (ta 13)) ro ot Bm bk)) rfl ?_
  refine mB hT 18 rfl ?_
  refine mNf (lv2 := [(3, .int 14), (2, .int 0), (0, .ref 0), (1, .int 3)]) (st2 := [.long (ta 14), .int 14, .ref 11]) rfl rfl ?_
  refine mB hT 19 rfl ?_
  refine mB hT 14 rfl ?_
  refine mIf (fun hp => absurd hp (fun q => Int64.not_lt.mpr (lc_ge.mp q) hs)) (fun _ => ?_)
  refine mNf (lv2 := [(3, .int 16), (2, .int 0), (0, .ref 0), (1, .int 3)]) (st2 := [.int 0, .ref 12]) rfl rfl ?_
  refine mB hT 1 rfl ?_
  refine mWd (w2 := (MW 2 vs wo u h bo ta (up (up (up (up (up (up (up (up (up (up (up (up (up (up (up (up tr 0 (hh 0)) 1 (ta 1)) 2 (ta 2)) 3 (ta 3)) 4 (hh 1)) 5 (ta 5)) 6 (ta 6)) 7 (ta 7)) 8 0) 9 (ta 9)) 10 (ta 10)) 11 (ta 11)) 12 0) 13 (ta 13)) 14 (ta 14)) 15 (ta 15)) ro ot Bm bk)) rfl ?_
  refine mWd (w2 := (MW 2 vs wo u h bo ta (tsM 2 ta 0 hh) ro ot Bm bk)) rfl ?_
  refine hC.1 _ 0 [] _ _ _ _ _ (m_det) rfl rfl (Nat.le_of_ble_eq_true rfl) rfl ?_
  refine mB hT 2 rfl ?_
  refine mNf (lv2 := [(3, .int 16), (2, .int 0), (0, .ref 0), (1, .int 3)]) (st2 := [.long (rr 0), .int 0, .ref 12]) rfl (by rw [hrr 0] <;> rfl) ?_
  refine mB hT 24 rfl ?_
  refine mNf (lv2 := [(3, .int 0), (2, .int 1), (0, .ref 0), (1, .int 3)]) (st2 := [.long (ta 0), .int 0, .ref 11]) rfl rfl ?_
  refine mB hT 32 rfl ?_
  refine mNf (lv2 := [(3, .int 1), (2, .int 1), (0, .ref 0), (1, .int 3)]) (st2 := [.long (hh 0), .int 1, .ref 11]) rfl (by rw [hq 0] <;> rfl) ?_
  refine mB hT 1 rfl ?_
  refine mWd (w2 := (MW 2 vs wo u h bo ta (up (up (tsM 2 ta 0 hh) 0 (ta 0)) 1 (hh 0)) (up ro 0 (rr 0)) ot Bm bk)) rfl ?_
  refine mB hT 18 rfl ?_
  refine mB hT 19 rfl ?_
  refine mNf (lv2 := [(3, .int 3), (2, .int 1), (0, .ref 0), (1, .int 3)]) (st2 := [.long (ta 3), .int 3, .ref 11]) rfl rfl ?_
  refine mB hT 19 rfl ?_
  refine mB hT 1 rfl ?_
  refine mWd (w2 := (MW 2 vs wo u h bo ta (up (up (up (up (up (tsM 2 ta 0 hh) 0 (ta 0)) 1 (hh 0)) 2 (ta 2)) 3 (ta 3)) 4 (ta 4)) (up ro 0 (rr 0)) ot Bm bk)) rfl ?_
  refine mB hT 31 rfl ?_
  refine mNf (lv2 := [(3, .int 5), (2, .int 1), (0, .ref 0), (1, .int 3)]) (st2 := [.long (hh 1), .int 5, .ref 11]) rfl (by rw [hq 1] <;> rfl) ?_
  refine mB hT 19 rfl ?_
  refine mB hT 19 rfl ?_
  refine mNf (lv2 := [(3, .int 7), (2, .int 1), (0, .ref 0), (1, .int 3)]) (st2 := [.long (ta 7), .int 7, .ref 11]) rfl rfl ?_
  refine mB hT 1 rfl ?_
  refine mWd (w2 := (MW 2 vs wo u h bo ta (up (up (up (up (up (up (up (up (tsM 2 ta 0 hh) 0 (ta 0)) 1 (hh 0)) 2 (ta 2)) 3 (ta 3)) 4 (ta 4)) 5 (hh 1)) 6 (ta 6)) 7 (ta 7)) (up ro 0 (rr 0)) ot Bm bk)) rfl ?_
  refine mB hT 18 rfl ?_
  refine mB hT 21 rfl ?_
  refine mNf (lv2 := [(3, .int 9), (2, .int 1), (0, .ref 0), (1, .int 3)]) (st2 := [.long 0, .int 9, .ref 11]) rfl rfl ?_
  refine mB hT 19 rfl ?_
  refine mB hT 1 rfl ?_
  refine mWd (w2 := (MW 2 vs wo u h bo ta (up (up (up (up (up (up (up (up (up (up (up (tsM 2 ta 0 hh) 0 (ta 0)) 1 (hh 0)) 2 (ta 2)) 3 (ta 3)) 4 (ta 4)) 5 (hh 1)) 6 (ta 6)) 7 (ta 7)) 8 (ta 8)) 9 0) 10 (ta 10)) (up ro 0 (rr 0)) ot Bm bk)) rfl ?_
  refine mB hT 18 rfl ?_
  refine mNf (lv2 := [(3, .int 11), (2, .int 1), (0, .ref 0), (1, .int 3)]) (st2 := [.long (ta 11), .int 11, .ref 11]) rfl rfl ?_
  refine mB hT 19 rfl ?_
  refine mB hT 21 rfl ?_
  refine mNf (lv2 := [(3, .int 13), (2, .int 1), (0, .ref 0), (1, .int 3)]) (st2 := [.long 0, .int 13, .ref 11]) rfl rfl ?_
  refine mB hT 1 rfl ?_
  refine mWd (w2 := (MW 2 vs wo u h bo ta (up (up (up (up (up (up (up (up (up (up (up (up (up (up (tsM 2 ta 0 hh) 0 (ta 0)) 1 (hh 0)) 2 (ta 2)) 3 (ta 3)) 4 (ta 4)) 5 (hh 1)) 6 (ta 6)) 7 (ta 7)) 8 (ta 8)) 9 0) 10 (ta 10)) 11 (ta 11)) 12 (ta 12)) 13 0) (up ro 0 (rr 0)) ot Bm bk)) rfl ?_
  refine mB hT 18 rfl ?_
  refine mB hT 19 rfl ?_
  refine mNf (lv2 := [(3, .int 15), (2, .int 1), (0, .ref 0), (1, .int 3)]) (st2 := [.long (ta 15), .int 15, .ref 11]) rfl rfl ?_
  refine mB hT 14 rfl ?_
  refine mIf (fun hp => absurd hp (fun q => Int64.not_lt.mpr (lc_ge.mp q) hs)) (fun _ => ?_)
  refine mB hT 1 rfl ?_
  refine mWd (w2 := (MW 2 vs wo u h bo ta (up (up (up (up (up (up (up (up (up (up (up (up (up (up (up (up (tsM 2 ta 0 hh) 0 (ta 0)) 1 (hh 0)) 2 (ta 2)) 3 (ta 3)) 4 (ta 4)) 5 (hh 1)) 6 (ta 6)) 7 (ta 7)) 8 (ta 8)) 9 0) 10 (ta 10)) 11 (ta 11)) 12 (ta 12)) 13 0) 14 (ta 14)) 15 (ta 15)) (up ro 0 (rr 0)) ot Bm bk)) rfl ?_
  refine mWd (w2 := (MW 2 vs wo u h bo ta (tsM 2 ta 1 hh) (up ro 0 (rr 0)) ot Bm bk)) rfl ?_
  refine hC.1 _ 0 [] _ _ _ _ _ (m_det) rfl rfl (Nat.le_of_ble_eq_true rfl) rfl ?_
  refine mB hT 2 rfl ?_
  refine mNf (lv2 := [(3, .int 16), (2, .int 1), (0, .ref 0), (1, .int 3)]) (st2 := [.long (rr 1), .int 1, .ref 12]) rfl (by rw [hrr 1] <;> rfl) ?_
  refine mB hT 24 rfl ?_
  refine mNf (lv2 := [(3, .int 0), (2, .int 2), (0, .ref 0), (1, .int 3)]) (st2 := [.long (ta 0), .int 0, .ref 11]) rfl rfl ?_
  refine mB hT 19 rfl ?_
  refine mB hT 1 rfl ?_
  refine mWd (w2 := (MW 2 vs wo u h bo ta (up (up (tsM 2 ta 1 hh) 0 (ta 0)) 1 (ta 1)) (up (up ro 0 (rr 0)) 1 (rr 1)) ot Bm bk)) rfl ?_
  refine mB hT 31 rfl ?_
  refine mNf (lv2 := [(3, .int 2), (2, .int 2), (0, .ref 0), (1, .int 3)]) (st2 := [.long (hh 0), .int 2, .ref 11]) rfl (by rw [hq 0] <;> rfl) ?_
  refine mB hT 19 rfl ?_
  refine mB hT 19 rfl ?_
  refine mNf (lv2 := [(3, .int 4), (2, .int 2), (0, .ref 0), (1, .int 3)]) (st2 := [.long (ta 4), .int 4, .ref 11]) rfl rfl ?_
  refine mB hT 1 rfl ?_
  refine mWd (w2 := (MW 2 vs wo u h bo ta (up (up (up (up (up (tsM 2 ta 1 hh) 0 (ta 0)) 1 (ta 1)) 2 (hh 0)) 3 (ta 3)) 4 (ta 4)) (up (up ro 0 (rr 0)) 1 (rr 1)) ot Bm bk)) rfl ?_
  refine mB hT 18 rfl ?_
  refine mB hT 32 rfl ?_
  refine mNf (lv2 := [(3, .int 6), (2, .int 2), (0, .ref 0), (1, .int 3)]) (st2 := [.long (hh 1), .int 6, .ref 11]) rfl (by rw [hq 1] <;> rfl) ?_
  refine mB hT 19 rfl ?_
  refine mB hT 1 rfl ?_
  refine mWd (w2 := (MW 2 vs wo u h bo ta (up (up (up (up (up (up (up (up (tsM 2 ta 1 hh) 0 (ta 0)) 1 (ta 1)) 2 (hh 0)) 3 (ta 3)) 4 (ta 4)) 5 (ta 5)) 6 (hh 1)) 7 (ta 7)) (up (up ro 0 (rr 0)) 1 (rr 1)) ot Bm bk)) rfl ?_
  refine mB hT 18 rfl ?_
  refine mNf (lv2 := [(3, .int 8), (2, .int 2), (0, .ref 0), (1, .int 3)]) (st2 := [.long (ta 8), .int 8, .ref 11]) rfl rfl ?_
  refine mB hT 19 rfl ?_
  refine mB hT 21 rfl ?_
  refine mNf (lv2 := [(3, .int 10), (2, .int 2), (0, .ref 0), (1, .int 3)]) (st2 := [.long 0, .int 10, .ref 11]) rfl rfl ?_
  refine mB hT 1 rfl ?_
  refine mWd (w2 := (MW 2 vs wo u h bo ta (up (up (up (up (up (up (up (up (up (up (up (tsM 2 ta 1 hh) 0 (ta 0)) 1 (ta 1)) 2 (hh 0)) 3 (ta 3)) 4 (ta 4)) 5 (ta 5)) 6 (hh 1)) 7 (ta 7)) 8 (ta 8)) 9 (ta 9)) 10 0) (up (up ro 0 (rr 0)) 1 (rr 1)) ot Bm bk)) rfl ?_
  refine mB hT 18 rfl ?_
  refine mB hT 19 rfl ?_
  refine mNf (lv2 := [(3, .int 12), (2, .int 2), (0, .ref 0), (1, .int 3)]) (st2 := [.long (ta 12), .int 12, .ref 11]) rfl rfl ?_
  refine mB hT 19 rfl ?_
  refine mB hT 1 rfl ?_
  refine mWd (w2 := (MW 2 vs wo u h bo ta (up (up (up (up (up (up (up (up (up (up (up (up (up (up (tsM 2 ta 1 hh) 0 (ta 0)) 1 (ta 1)) 2 (hh 0)) 3 (ta 3)) 4 (ta 4)) 5 (ta 5)) 6 (hh 1)) 7 (ta 7)) 8 (ta 8)) 9 (ta 9)) 10 0) 11 (ta 11)) 12 (ta 12)) 13 (ta 13)) (up (up ro 0 (rr 0)) 1 (rr 1)) ot Bm bk)) rfl ?_
  refine mB hT 20 rfl ?_
  refine mNf (lv2 := [(3, .int 14), (2, .int 2), (0, .ref 0), (1, .int 3)]) (st2 := [.long 0, .int 14, .ref 11]) rfl rfl ?_
  refine mB hT 19 rfl ?_
  refine mB hT 14 rfl ?_
  refine mIf (fun hp => absurd hp (fun q => Int64.not_lt.mpr (lc_ge.mp q) hs)) (fun _ => ?_)
  refine mNf (lv2 := [(3, .int 16), (2, .int 2), (0, .ref 0), (1, .int 3)]) (st2 := [.int 2, .ref 12]) rfl rfl ?_
  refine mB hT 1 rfl ?_
  refine mWd (w2 := (MW 2 vs wo u h bo ta (up (up (up (up (up (up (up (up (up (up (up (up (up (up (up (up (tsM 2 ta 1 hh) 0 (ta 0)) 1 (ta 1)) 2 (hh 0)) 3 (ta 3)) 4 (ta 4)) 5 (ta 5)) 6 (hh 1)) 7 (ta 7)) 8 (ta 8)) 9 (ta 9)) 10 0) 11 (ta 11)) 12 (ta 12)) 13 (ta 13)) 14 0) 15 (ta 15)) (up (up ro 0 (rr 0)) 1 (rr 1)) ot Bm bk)) rfl ?_
  refine mWd (w2 := (MW 2 vs wo u h bo ta (tsM 2 ta 2 hh) (up (up ro 0 (rr 0)) 1 (rr 1)) ot Bm bk)) rfl ?_
  refine hC.1 _ 0 [] _ _ _ _ _ (m_det) rfl rfl (Nat.le_of_ble_eq_true rfl) rfl ?_
  refine mB hT 2 rfl ?_
  refine mNf (lv2 := [(3, .int 16), (2, .int 2), (0, .ref 0), (1, .int 3)]) (st2 := [.long (rr 2), .int 2, .ref 12]) rfl (by rw [hrr 2] <;> rfl) ?_
  refine mB hT 24 rfl ?_
  refine mNf (lv2 := [(3, .int 0), (2, .int 3), (0, .ref 0), (1, .int 3)]) (st2 := [.long (ta 0), .int 0, .ref 11]) rfl rfl ?_
  refine mB hT 19 rfl ?_
  refine mB hT 1 rfl ?_
  refine mWd (w2 := (MW 2 vs wo u h bo ta (up (up (tsM 2 ta 2 hh) 0 (ta 0)) 1 (ta 1)) (up (up (up ro 0 (rr 0)) 1 (rr 1)) 2 (rr 2)) ot Bm bk)) rfl ?_
  refine mB hT 18 rfl ?_
  refine mNf (lv2 := [(3, .int 2), (2, .int 3), (0, .ref 0), (1, .int 3)]) (st2 := [.long (ta 2), .int 2, .ref 11]) rfl rfl ?_
  refine mB hT 32 rfl ?_
  refine mNf (lv2 := [(3, .int 3), (2, .int 3), (0, .ref 0), (1, .int 3)]) (st2 := [.long (hh 0), .int 3, .ref 11]) rfl (by rw [hq 0] <;> rfl) ?_
  refine mB hT 19 rfl ?_
  refine mB hT 1 rfl ?_
  refine mWd (w2 := (MW 2 vs wo u h bo ta (up (up (up (up (up (tsM 2 ta 2 hh) 0 (ta 0)) 1 (ta 1)) 2 (ta 2)) 3 (hh 0)) 4 (ta 4)) (up (up (up ro 0 (rr 0)) 1 (rr 1)) 2 (rr 2)) ot Bm bk)) rfl ?_
  refine mB hT 18 rfl ?_
  refine mNf (lv2 := [(3, .int 5), (2, .int 3), (0, .ref 0), (1, .int 3)]) (st2 := [.long (ta 5), .int 5, .ref 11]) rfl rfl ?_
  refine mB hT 19 rfl ?_
  refine mB hT 32 rfl ?_
  refine mNf (lv2 := [(3, .int 7), (2, .int 3), (0, .ref 0), (1, .int 3)]) (st2 := [.long (hh 1), .int 7, .ref 11]) rfl (by rw [hq 1] <;> rfl) ?_
  refine mB hT 1 rfl ?_
  refine mWd (w2 := (MW 2 vs wo u h bo ta (up (up (up (up (up (up (up (up (tsM 2 ta 2 hh) 0 (ta 0)) 1 (ta 1)) 2 (ta 2)) 3 (hh 0)) 4 (ta 4)) 5 (ta 5)) 6 (ta 6)) 7 (hh 1)) (up (up (up ro 0 (rr 0)) 1 (rr 1)) 2 (rr 2)) ot Bm bk)) rfl ?_
  refine mB hT 18 rfl ?_
  refine mB hT 19 rfl ?_
  refine mNf (lv2 := [(3, .int 9), (2, .int 3), (0, .ref 0), (1, .int 3)]) (st2 := [.long (ta 9), .int 9, .ref 11]) rfl rfl ?_
  refine mB hT 19 rfl ?_
  refine mB hT 1 rfl ?_
  refine mWd (w2 := (MW 2 vs wo u h bo ta (up (up (up (up (up (up (up (up (up (up (up (tsM 2 ta 2 hh) 0 (ta 0)) 1 (ta 1)) 2 (ta 2)) 3 (hh 0)) 4 (ta 4)) 5 (ta 5)) 6 (ta 6)) 7 (hh 1)) 8 (ta 8)) 9 (ta 9)) 10 (ta 10)) (up (up (up ro 0 (rr 0)) 1 (rr 1)) 2 (rr 2)) ot Bm bk)) rfl ?_
  refine mB hT 20 rfl ?_
  refine mNf (lv2 := [(3, .int 11), (2, .int 3), (0, .ref 0), (1, .int 3)]) (st2 := [.long 0, .int 11, .ref 11]) rfl rfl ?_
  refine mB hT 19 rfl ?_
  refine mB hT 19 rfl ?_
  refine mNf (lv2 := [(3, .int 13), (2, .int 3), (0, .ref 0), (1, .int 3)]) (st2 := [.long (ta 13), .int 13, .ref 11]) rfl rfl ?_
  refine mB hT 1 rfl ?_
  refine mWd (w2 := (MW 2 vs wo u h bo ta (up (up (up (up (up (up (up (up (up (up (up (up (up (up (tsM 2 ta 2 hh) 0 (ta 0)) 1 (ta 1)) 2 (ta 2)) 3 (hh 0)) 4 (ta 4)) 5 (ta 5)) 6 (ta 6)) 7 (hh 1)) 8 (ta 8)) 9 (ta 9)) 10 (ta 10)) 11 0) 12 (ta 12)) 13 (ta 13)) (up (up (up ro 0 (rr 0)) 1 (rr 1)) 2 (rr 2)) ot Bm bk)) rfl ?_
  refine mB hT 18 rfl ?_
  refine mB hT 21 rfl ?_
  refine mNf (lv2 := [(3, .int 15), (2, .int 3), (0, .ref 0), (1, .int 3)]) (st2 := [.long 0, .int 15, .ref 11]) rfl rfl ?_
  refine mB hT 14 rfl ?_
  refine mIf (fun hp => absurd hp (fun q => Int64.not_lt.mpr (lc_ge.mp q) hs)) (fun _ => ?_)
  refine mB hT 1 rfl ?_
  refine mWd (w2 := (MW 2 vs wo u h bo ta (up (up (up (up (up (up (up (up (up (up (up (up (up (up (up (up (tsM 2 ta 2 hh) 0 (ta 0)) 1 (ta 1)) 2 (ta 2)) 3 (hh 0)) 4 (ta 4)) 5 (ta 5)) 6 (ta 6)) 7 (hh 1)) 8 (ta 8)) 9 (ta 9)) 10 (ta 10)) 11 0) 12 (ta 12)) 13 (ta 13)) 14 (ta 14)) 15 0) (up (up (up ro 0 (rr 0)) 1 (rr 1)) 2 (rr 2)) ot Bm bk)) rfl ?_
  refine mWd (w2 := (MW 2 vs wo u h bo ta (tsM 2 ta 3 hh) (up (up (up ro 0 (rr 0)) 1 (rr 1)) 2 (rr 2)) ot Bm bk)) rfl ?_
  refine hC.1 _ 0 [] _ _ _ _ _ (m_det) rfl rfl (Nat.le_of_ble_eq_true rfl) rfl ?_
  refine mB hT 2 rfl ?_
  refine mNf (lv2 := [(3, .int 16), (2, .int 3), (0, .ref 0), (1, .int 3)]) (st2 := [.long (rr 3), .int 3, .ref 12]) rfl (by rw [hrr 3] <;> rfl) ?_
  refine mB hT 6 rfl ?_
  exact hR _ (by decide) _ _ _ rfl rfl
set_option maxRecDepth 20000 in
theorem m_solve_3_0p {vs : Int32} {wo un h : Int64} {bo : Nat → Int32} {ta tr ro ot : Nat → Int64} {Bm : Nat → Nat → Nat → Int32} {bk : Nat → Nat → Int32} {u : Int64} {hh rr : Nat → Int64} (hs : ¬ wo < 0) (hu : u = wo) (hq : ∀ j : Nat, hh j = (bk 0 j).toInt64) (hrr : ∀ i : Nat, rr i = dtM (tsM 3 ta i hh)) : KX3_solve l D ca ad [.ref 0, .int 0] (MW 3 vs wo un h bo ta tr ro ot Bm bk) none (MW 3 vs wo u h bo ta (tsM 3 ta 3 hh) rr ot Bm bk) := by
  refine PX3_solve (Nat.le_of_ble_eq_true rfl) ?_
  intro G hT hC hR
  refine mB hT 6 rfl ?_
  refine mIf (fun _ => ?_) (fun hn => absurd (lc_ge.mpr (Int64.not_lt.mp hs)) hn)
  refine mB hT 2 rfl ?_
  refine mNf (lv2 := [(0, .ref 0), (1, .int 0)]) (st2 := [.long u, .ref 0]) rfl (by rw [hu] <;> rfl) ?_
  refine mB hT 37 rfl ?_
  refine mNf (lv2 := [(3, .int 0), (2, .int 0), (0, .ref 0), (1, .int 0)]) (st2 := [.long (hh 0), .int 0, .ref 11]) rfl (by rw [hq 0] <;> rfl) ?_
  refine mB hT 19 rfl ?_
  refine mB hT 1 rfl ?_
  refine mWd (w2 := (MW 3 vs wo u h bo ta (up (up tr 0 (hh 0)) 1 (ta 1)) ro ot Bm bk)) rfl ?_
  refine mB hT 18 rfl ?_
  refine mNf (lv2 := [(3, .int 2), (2, .int 0), (0, .ref 0), (1, .int 0)]) (st2 := [.long (ta 2), .int 2, .ref 11]) rfl rfl ?_
  refine mB hT 19 rfl ?_
  refine mB hT 32 rfl ?_
  refine mNf (lv2 := [(3, .int 4), (2, .int 0), (0, .ref 0), (1, .int 0)]) (st2 := [.long (hh 1), .int 4, .ref 11]) rfl (by rw [hq 1] <;> rfl) ?_
  refine mB hT 1 rfl ?_
  refine mWd (w2 := (MW 3 vs wo u h bo ta (up (up (up (up (up tr 0 (hh 0)) 1 (ta 1)) 2 (ta 2)) 3 (ta 3)) 4 (hh 1)) ro ot Bm bk)) rfl ?_
  refine mB hT 18 rfl ?_
  refine mB hT 19 rfl ?_
  refine mNf (lv2 := [(3, .int 6), (2, .int 0), (0, .ref 0), (1, .int 0)]) (st2 := [.long (ta 6), .int 6, .ref 11]) rfl rfl ?_
  refine mB hT 19 rfl ?_
  refine mB hT 1 rfl ?_
  refine mWd (w2 := (MW 3 vs wo u h bo ta (up (up (up (up (up (up (up (up tr 0 (hh 0)) 1 (ta 1)) 2 (ta 2)) 3 (ta 3)) 4 (hh 1)) 5 (ta 5)) 6 (ta 6)) 7 (ta 7)) ro ot Bm bk)) rfl ?_
  refine mB hT 31 rfl ?_
  refine mNf (lv2 := [(3, .int 8), (2, .int 0), (0, .ref 0), (1, .int 0)]) (st2 := [.long (hh 2), .int 8, .ref 11]) rfl (by rw [hq 2] <;> rfl) ?_
  refine mB hT 19 rfl ?_
  refine mB hT 19 rfl ?_
  refine mNf (lv2 := [(3, .int 10), (2, .int 0), (0, .ref 0), (1, .int 0)]) (st2 := [.long (ta 10), .int 10, .ref 11]) rfl rfl ?_
  refine mB hT 1 rfl ?_
  refine mWd (w2 := (MW 3 vs wo u h bo ta (up (up (up (up (up (up (up (up (up (up (up tr 0 (hh 0)) 1 (ta 1)) 2 (ta 2)) 3 (ta 3)) 4 (hh 1)) 5 (ta 5)) 6 (ta 6)) 7 (ta 7)) 8 (hh 2)) 9 (ta 9)) 10 (ta 10)) ro ot Bm bk)) rfl ?_
  refine mB hT 18 rfl ?_
  refine mB hT 21 rfl ?_
  refine mNf (lv2 := [(3, .int 12), (2, .int 0), (0, .ref 0), (1, .int 0)]) (st2 := [.long 0, .int 12, .ref 11]) rfl rfl ?_
  refine mB hT 19 rfl ?_
  refine mB hT 1 rfl ?_
  refine mWd (w2 := (MW 3 vs wo u h bo ta (up (up (up (up (up (up (up (up (up (up (up (up (up (up tr 0 (hh 0)) 1 (ta 1)) 2 (ta 2)) 3 (ta 3)) 4 (hh 1)) 5 (ta 5)) 6 (ta 6)) 7 (ta 7)) 8 (hh 2)) 9 (ta 9)) 10 (ta 10)) 11 (ta 11)) 12 0) 13 (ta 13)) ro ot Bm bk)) rfl ?_
  refine mB hT 18 rfl ?_
  refine mNf (lv2 := [(3, .int 14), (2, .int 0), (0, .ref 0), (1, .int 0)]) (st2 := [.long (ta 14), .int 14, .ref 11]) rfl rfl ?_
  refine mB hT 19 rfl ?_
  refine mB hT 14 rfl ?_
  refine mIf (fun _ => ?_) (fun hn => absurd (lc_ge.mpr (Int64.not_lt.mp hs)) hn)
  refine mNf (lv2 := [(3, .int 16), (2, .int 0), (0, .ref 0), (1, .int 0)]) (st2 := [.int 0, .ref 12]) rfl rfl ?_
  refine mB hT 1 rfl ?_
  refine mWd (w2 := (MW 3 vs wo u h bo ta (up (up (up (up (up (up (up (up (up (up (up (up (up (up (up (up tr 0 (hh 0)) 1 (ta 1)) 2 (ta 2)) 3 (ta 3)) 4 (hh 1)) 5 (ta 5)) 6 (ta 6)) 7 (ta 7)) 8 (hh 2)) 9 (ta 9)) 10 (ta 10)) 11 (ta 11)) 12 0) 13 (ta 13)) 14 (ta 14)) 15 (ta 15)) ro ot Bm bk)) rfl ?_
  refine mWd (w2 := (MW 3 vs wo u h bo ta (tsM 3 ta 0 hh) ro ot Bm bk)) rfl ?_
  refine hC.2 _ 0 [] _ _ _ _ _ (m_det) rfl rfl (Nat.le_of_ble_eq_true rfl) rfl ?_
  refine mNf (lv2 := [(3, .int 16), (2, .int 0), (0, .ref 0), (1, .int 0)]) (st2 := [.long (rr 0), .int 0, .ref 12]) rfl (by rw [hrr 0] <;> rfl) ?_
  refine mB hT 24 rfl ?_
  refine mNf (lv2 := [(3, .int 0), (2, .int 1), (0, .ref 0), (1, .int 0)]) (st2 := [.long (ta 0), .int 0, .ref 11]) rfl rfl ?_
  refine mB hT 32 rfl ?_
  refine mNf (lv2 := [(3, .int 1), (2, .int 1), (0, .ref 0), (1, .int 0)]) (st2 := [.long (hh 0), .int 1, .ref 11]) rfl (by rw [hq 0] <;> rfl) ?_
  refine mB hT 1 rfl ?_
  refine mWd (w2 := (MW 3 vs wo u h bo ta (up (up (tsM 3 ta 0 hh) 0 (ta 0)) 1 (hh 0)) (up ro 0 (rr 0)) ot Bm bk)) rfl ?_
  refine mB hT 18 rfl ?_
  refine mB hT 19 rfl ?_
  refine mNf (lv2 := [(3, .int 3), (2, .int 1), (0, .ref 0), (1, .int 0)]) (st2 := [.long (ta 3), .int 3, .ref 11]) rfl rfl ?_
  refine mB hT 19 rfl ?_
  refine mB hT 1 rfl ?_
  refine mWd (w2 := (MW 3 vs wo u h bo ta (up (up (up (up (up (tsM 3 ta 0 hh) 0 (ta 0)) 1 (hh 0)) 2 (ta 2)) 3 (ta 3)) 4 (ta 4)) (up ro 0 (rr 0)) ot Bm bk)) rfl ?_
  refine mB hT 31 rfl ?_
  refine mNf (lv2 := [(3, .int 5), (2, .int 1), (0, .ref 0), (1, .int 0)]) (st2 := [.long (hh 1), .int 5, .ref 11]) rfl (by rw [hq 1] <;> rfl) ?_
  refine mB hT 19 rfl ?_
  refine mB hT 19 rfl ?_
  refine mNf (lv2 := [(3, .int 7), (2, .int 1), (0, .ref 0), (1, .int 0)]) (st2 := [.long (ta 7), .int 7, .ref 11]) rfl rfl ?_
  refine mB hT 1 rfl ?_
  refine mWd (w2 := (MW 3 vs wo u h bo ta (up (up (up (up (up (up (up (up (tsM 3 ta 0 hh) 0 (ta 0)) 1 (hh 0)) 2 (ta 2)) 3 (ta 3)) 4 (ta 4)) 5 (hh 1)) 6 (ta 6)) 7 (ta 7)) (up ro 0 (rr 0)) ot Bm bk)) rfl ?_
  refine mB hT 18 rfl ?_
  refine mB hT 32 rfl ?_
  refine mNf (lv2 := [(3, .int 9), (2, .int 1), (0, .ref 0), (1, .int 0)]) (st2 := [.long (hh 2), .int 9, .ref 11]) rfl (by rw [hq 2] <;> rfl) ?_
  refine mB hT 19 rfl ?_
  refine mB hT 1 rfl ?_
  refine mWd (w2 := (MW 3 vs wo u h bo ta (up (up (up (up (up (up (up (up (up (up (up (tsM 3 ta 0 hh) 0 (ta 0)) 1 (hh 0)) 2 (ta 2)) 3 (ta 3)) 4 (ta 4)) 5 (hh 1)) 6 (ta 6)) 7 (ta 7)) 8 (ta 8)) 9 (hh 2)) 10 (ta 10)) (up ro 0 (rr 0)) ot Bm bk)) rfl ?_
  refine mB hT 18 rfl ?_
  refine mNf (lv2 := [(3, .int 11), (2, .int 1), (0, .ref 0), (1, .int 0)]) (st2 := [.long (ta 11), .int 11, .ref 11]) rfl rfl ?_
  refine mB hT 19 rfl ?_
  refine mB hT 21 rfl ?_
  refine mNf (lv2 := [(3, .int 13), (2, .int 1), (0, .ref 0), (1, .int 0)]) (st2 := [.long 0, .int 13, .ref 11]) rfl rfl ?_
  refine mB hT 1 rfl ?_
  refine mWd (w2 := (MW 3 vs wo u h bo ta (up (up (up (up (up (up (up (up (up (up (up (up (up (up (tsM 3 ta 0 hh) 0 (ta 0)) 1 (hh 0)) 2 (ta 2)) 3 (ta 3)) 4 (ta 4)) 5 (hh 1)) 6 (ta 6)) 7 (ta 7)) 8 (ta 8)) 9 (hh 2)) 10 (ta 10)) 11 (ta 11)) 12 (ta 12)) 13 0) (up ro 0 (rr 0)) ot Bm bk)) rfl ?_
  refine mB hT 18 rfl ?_
  refine mB hT 19 rfl ?_
  refine mNf (lv2 := [(3, .int 15), (2, .int 1), (0, .ref 0), (1, .int 0)]) (st2 := [.long (ta 15), .int 15, .ref 11]) rfl rfl ?_
  refine mB hT 14 rfl ?_
  refine mIf (fun _ => ?_) (fun hn => absurd (lc_ge.mpr (Int64.not_lt.mp hs)) hn)
  refine mB hT 1 rfl ?_
  refine mWd (w2 := (MW 3 vs wo u h bo ta (up (up (up (up (up (up (up (up (up (up (up (up (up (up (up (up (tsM 3 ta 0 hh) 0 (ta 0)) 1 (hh 0)) 2 (ta 2)) 3 (ta 3)) 4 (ta 4)) 5 (hh 1)) 6 (ta 6)) 7 (ta 7)) 8 (ta 8)) 9 (hh 2)) 10 (ta 10)) 11 (ta 11)) 12 (ta 12)) 13 0) 14 (ta 14)) 15 (ta 15)) (up ro 0 (rr 0)) ot Bm bk)) rfl ?_
  refine mWd (w2 := (MW 3 vs wo u h bo ta (tsM 3 ta 1 hh) (up ro 0 (rr 0)) ot Bm bk)) rfl ?_
  refine hC.2 _ 0 [] _ _ _ _ _ (m_det) rfl rfl (Nat.le_of_ble_eq_true rfl) rfl ?_
  refine mNf (lv2 := [(3, .int 16), (2, .int 1), (0, .ref 0), (1, .int 0)]) (st2 := [.long (rr 1), .int 1, .ref 12]) rfl (by rw [hrr 1] <;> rfl) ?_
  refine mB hT 24 rfl ?_
  refine mNf (lv2 := [(3, .int 0), (2, .int 2), (0, .ref 0), (1, .int 0)]) (st2 := [.long (ta 0), .int 0, .ref 11]) rfl rfl ?_
  refine mB hT 19 rfl ?_
  refine mB hT 1 rfl ?_
  refine mWd (w2 := (MW 3 vs wo u h bo ta (up (up (tsM 3 ta 1 hh) 0 (ta 0)) 1 (ta 1)) (up (up ro 0 (rr 0)) 1 (rr 1)) ot Bm bk)) rfl ?_
  refine mB hT 31 rfl ?_
  refine mNf (lv2 := [(3, .int 2), (2, .int 2), (0, .ref 0), (1, .int 0)]) (st2 := [.long (hh 0), .int 2, .ref 11]) rfl (by rw [hq 0] <;> rfl) ?_
  refine mB hT 19 rfl ?_
  refine mB hT 19 rfl ?_
  refine mNf (lv2 := [(3, .int 4), (2, .int 2), (0, .ref 0), (1, .int 0)]) (st2 := [.long (ta 4), .int 4, .ref 11]) rfl rfl ?_
  refine mB hT 1 rfl ?_
  refine mWd (w2 := (MW 3 vs wo u h bo ta (up (up (up (up (up (tsM 3 ta 1 hh) 0 (ta 0)) 1 (ta 1)) 2 (hh 0)) 3 (ta 3)) 4 (ta 4)) (up (up ro 0 (rr 0)) 1 (rr 1)) ot Bm bk)) rfl ?_
  refine mB hT 18 rfl ?_
  refine mB hT 32 rfl ?_
  refine mNf (lv2 := [(3, .int 6), (2, .int 2), (0, .ref 0), (1, .int 0)]) (st2 := [.long (hh 1), .int 6, .ref 11]) rfl (by rw [hq 1] <;> rfl) ?_
  refine mB hT 19 rfl ?_
  refine mB hT 1 rfl ?_
  refine mWd (w2 := (MW 3 vs wo u h bo ta (up (up (up (up (up (up (up (up (tsM 3 ta 1 hh) 0 (ta 0)) 1 (ta 1)) 2 (hh 0)) 3 (ta 3)) 4 (ta 4)) 5 (ta 5)) 6 (hh 1)) 7 (ta 7)) (up (up ro 0 (rr 0)) 1 (rr 1)) ot Bm bk)) rfl ?_
  refine mB hT 18 rfl ?_
  refine mNf (lv2 := [(3, .int 8), (2, .int 2), (0, .ref 0), (1, .int 0)]) (st2 := [.long (ta 8), .int 8, .ref 11]) rfl rfl ?_
  refine mB hT 19 rfl ?_
  refine mB hT 32 rfl ?_
  refine mNf (lv2 := [(3, .int 10), (2, .int 2), (0, .ref 0), (1, .int 0)]) (st2 := [.long (hh 2), .int 10, .ref 11]) rfl (by rw [hq 2] <;> rfl) ?_
  refine mB hT 1 rfl ?_
  refine mWd (w2 := (MW 3 vs wo u h bo ta (up (up (up (up (up (up (up (up (up (up (up (tsM 3 ta 1 hh) 0 (ta 0)) 1 (ta 1)) 2 (hh 0)) 3 (ta 3)) 4 (ta 4)) 5 (ta 5)) 6 (hh 1)) 7 (ta 7)) 8 (ta 8)) 9 (ta 9)) 10 (hh 2)) (up (up ro 0 (rr 0)) 1 (rr 1)) ot Bm bk)) rfl ?_
  refine mB hT 18 rfl ?_
  refine mB hT 19 rfl ?_
  refine mNf (lv2 := [(3, .int 12), (2, .int 2), (0, .ref 0), (1, .int 0)]) (st2 := [.long (ta 12), .int 12, .ref 11]) rfl rfl ?_
  refine mB hT 19 rfl ?_
  refine mB hT 1 rfl ?_
  refine mWd (w2 := (MW 3 vs wo u h bo ta (up (up (up (up (up (up (up (up (up (up (up (up (up (up (tsM 3 ta 1 hh) 0 (ta 0)) 1 (ta 1)) 2 (hh 0)) 3 (ta 3)) 4 (ta 4)) 5 (ta 5)) 6 (hh 1)) 7 (ta 7)) 8 (ta 8)) 9 (ta 9)) 10 (hh 2)) 11 (ta 11)) 12 (ta 12)) 13 (ta 13)) (up (up ro 0 (rr 0)) 1 (rr 1)) ot Bm bk)) rfl ?_
  refine mB hT 20 rfl ?_
  refine mNf (lv2 := [(3, .int 14), (2, .int 2), (0, .ref 0), (1, .int 0)]) (st2 := [.long 0, .int 14, .ref 11]) rfl rfl ?_
  refine mB hT 19 rfl ?_
  refine mB hT 14 rfl ?_
  refine mIf (fun _ => ?_) (fun hn => absurd (lc_ge.mpr (Int64.not_lt.mp hs)) hn)
  refine mNf (lv2 := [(3, .int 16), (2, .int 2), (0, .ref 0), (1, .int 0)]) (st2 := [.int 2, .ref 12]) rfl rfl ?_
  refine mB hT 1 rfl ?_
  refine mWd (w2 := (MW 3 vs wo u h bo ta (up (up (up (up (up (up (up (up (up (up (up (up (up (up (up (up (tsM 3 ta 1 hh) 0 (ta 0)) 1 (ta 1)) 2 (hh 0)) 3 (ta 3)) 4 (ta 4)) 5 (ta 5)) 6 (hh 1)) 7 (ta 7)) 8 (ta 8)) 9 (ta 9)) 10 (hh 2)) 11 (ta 11)) 12 (ta 12)) 13 (ta 13)) 14 0) 15 (ta 15)) (up (up ro 0 (rr 0)) 1 (rr 1)) ot Bm bk)) rfl ?_
  refine mWd (w2 := (MW 3 vs wo u h bo ta (tsM 3 ta 2 hh) (up (up ro 0 (rr 0)) 1 (rr 1)) ot Bm bk)) rfl ?_
  refine hC.2 _ 0 [] _ _ _ _ _ (m_det) rfl rfl (Nat.le_of_ble_eq_true rfl) rfl ?_
  refine mNf (lv2 := [(3, .int 16), (2, .int 2), (0, .ref 0), (1, .int 0)]) (st2 := [.long (rr 2), .int 2, .ref 12]) rfl (by rw [hrr 2] <;> rfl) ?_
  refine mB hT 24 rfl ?_
  refine mNf (lv2 := [(3, .int 0), (2, .int 3), (0, .ref 0), (1, .int 0)]) (st2 := [.long (ta 0), .int 0, .ref 11]) rfl rfl ?_
  refine mB hT 19 rfl ?_
  refine mB hT 1 rfl ?_
  refine mWd (w2 := (MW 3 vs wo u h bo ta (up (up (tsM 3 ta 2 hh) 0 (ta 0)) 1 (ta 1)) (up (up (up ro 0 (rr 0)) 1 (rr 1)) 2 (rr 2)) ot Bm bk)) rfl ?_
  refine mB hT 18 rfl ?_
  refine mNf (lv2 := [(3, .int 2), (2, .int 3), (0, .ref 0), (1, .int 0)]) (st2 := [.long (ta 2), .int 2, .ref 11]) rfl rfl ?_
  refine mB hT 32 rfl ?_
  refine mNf (lv2 := [(3, .int 3), (2, .int 3), (0, .ref 0), (1, .int 0)]) (st2 := [.long (hh 0), .int 3, .ref 11]) rfl (by rw [hq 0] <;> rfl) ?_
  refine mB hT 19 rfl ?_
  refine mB hT 1 rfl ?_
  refine mWd (w2 := (MW 3 vs wo u h bo ta (up (up (up (up (up (tsM 3 ta 2 hh) 0 (ta 0)) 1 (ta 1)) 2 (ta 2)) 3 (hh 0)) 4 (ta 4)) (up (up (up ro 0 (rr 0)) 1 (rr 1)) 2 (rr 2)) ot Bm bk)) rfl ?_
  refine mB hT 18 rfl ?_
  refine mNf (lv2 := [(3, .int 5), (2, .int 3), (0, .ref 0), (1, .int 0)]) (st2 := [.long (ta 5), .int 5, .ref 11]) rfl rfl ?_
  refine mB hT 19 rfl ?_
  refine mB hT 32 rfl ?_
  refine mNf (lv2 := [(3, .int 7), (2, .int 3), (0, .ref 0), (1, .int 0)]) (st2 := [.long (hh 1), .int 7, .ref 11]) rfl (by rw [hq 1] <;> rfl) ?_
  refine mB hT 1 rfl ?_
  refine mWd (w2 := (MW 3 vs wo u h bo ta (up (up (up (up (up (up (up (up (tsM 3 ta 2 hh) 0 (ta 0)) 1 (ta 1)) 2 (ta 2)) 3 (hh 0)) 4 (ta 4)) 5 (ta 5)) 6 (ta 6)) 7 (hh 1)) (up (up (up ro 0 (rr 0)) 1 (rr 1)) 2 (rr 2)) ot Bm bk)) rfl ?_
  refine mB hT 18 rfl ?_
  refine mB hT 19 rfl ?_
  refine mNf (lv2 := [(3, .int 9), (2, .int 3), (0, .ref 0), (1, .int 0)]) (st2 := [.long (ta 9), .int 9, .ref 11]) rfl rfl ?_
  refine mB hT 19 rfl ?_
  refine mB hT 1 rfl ?_
  refine mWd (w2 := (MW 3 vs wo u h bo ta (up (up (up (up (up (up (up (up (up (up (up (tsM 3 ta 2 hh) 0 (ta 0)) 1 (ta 1)) 2 (ta 2)) 3 (hh 0)) 4 (ta 4)) 5 (ta 5)) 6 (ta 6)) 7 (hh 1)) 8 (ta 8)) 9 (ta 9)) 10 (ta 10)) (up (up (up ro 0 (rr 0)) 1 (rr 1)) 2 (rr 2)) ot Bm bk)) rfl ?_
  refine mB hT 31 rfl ?_
  refine mNf (lv2 := [(3, .int 11), (2, .int 3), (0, .ref 0), (1, .int 0)]) (st2 := [.long (hh 2), .int 11, .ref 11]) rfl (by rw [hq 2] <;> rfl) ?_
  refine mB hT 19 rfl ?_
  refine mB hT 19 rfl ?_
  refine mNf (lv2 := [(3, .int 13), (2, .int 3), (0, .ref 0), (1, .int 0)]) (st2 := [.long (ta 13), .int 13, .ref 11]) rfl rfl ?_
  refine mB hT 1 rfl ?_
  refine mWd (w2 := (MW 3 vs wo u h bo ta (up (up (up (up (up (up (up (up (up (up (up (up (up (up (tsM 3 ta 2 hh) 0 (ta 0)) 1 (ta 1)) 2 (ta 2)) 3 (hh 0)) 4 (ta 4)) 5 (ta 5)) 6 (ta 6)) 7 (hh 1)) 8 (ta 8)) 9 (ta 9)) 10 (ta 10)) 11 (hh 2)) 12 (ta 12)) 13 (ta 13)) (up (up (up ro 0 (rr 0)) 1 (rr 1)) 2 (rr 2)) ot Bm bk)) rfl ?_
  refine mB hT 18 rfl ?_
  refine mB hT 21 rfl ?_
  refine mNf (lv2 := [(3, .int 15), (2, .int 3), (0, .ref 0), (1, .int 0)]) (st2 := [.long 0, .int 15, .ref 11]) rfl rfl ?_
  refine mB hT 14 rfl ?_
  refine mIf (fun _ => ?_) (fun hn => absurd (lc_ge.mpr (Int64.not_lt.mp hs)) hn)
  refine mB hT 1 rfl ?_
  refine mWd (w2 := (MW 3 vs wo u h bo ta (up (up (up (up (up (up (up (up (up (up (up (up (up (up (up (up (tsM 3 ta 2 hh) 0 (ta 0)) 1 (ta 1)) 2 (ta 2)) 3 (hh 0)) 4 (ta 4)) 5 (ta 5)) 6 (ta 6)) 7 (hh 1)) 8 (ta 8)) 9 (ta 9)) 10 (ta 10)) 11 (hh 2)) 12 (ta 12)) 13 (ta 13)) 14 (ta 14)) 15 0) (up (up (up ro 0 (rr 0)) 1 (rr 1)) 2 (rr 2)) ot Bm bk)) rfl ?_
  refine mWd (w2 := (MW 3 vs wo u h bo ta (tsM 3 ta 3 hh) (up (up (up ro 0 (rr 0)) 1 (rr 1)) 2 (rr 2)) ot Bm bk)) rfl ?_
  refine hC.2 _ 0 [] _ _ _ _ _ (m_det) rfl rfl (Nat.le_of_ble_eq_true rfl) rfl ?_
  refine mNf (lv2 := [(3, .int 16), (2, .int 3), (0, .ref 0), (1, .int 0)]) (st2 := [.long (rr 3), .int 3, .ref 12]) rfl (by rw [hrr 3] <;> rfl) ?_
  refine mB hT 6 rfl ?_
  exact hR _ (by decide) _ _ _ rfl rfl
set_option maxRecDepth 20000 in
theorem m_solve_3_0n {vs : Int32} {wo un h : Int64} {bo : Nat → Int32} {ta tr ro ot : Nat → Int64} {Bm : Nat → Nat → Nat → Int32} {bk : Nat → Nat → Int32} {u : Int64} {hh rr : Nat → Int64} (hs : wo < 0) (hu : u = -wo) (hq : ∀ j : Nat, hh j = (bk 0 j).toInt64) (hrr : ∀ i : Nat, rr i = -(dtM (tsM 3 ta i hh))) : KX3_solve l D ca ad [.ref 0, .int 0] (MW 3 vs wo un h bo ta tr ro ot Bm bk) none (MW 3 vs wo u h bo ta (tsM 3 ta 3 hh) rr ot Bm bk) := by
  refine PX3_solve (Nat.le_of_ble_eq_true rfl) ?_
  intro G hT hC hR
  refine mB hT 6 rfl ?_
  refine mIf (fun hp => absurd hp (fun q => Int64.not_lt.mpr (lc_ge.mp q) hs)) (fun _ => ?_)
  refine mB hT 4 rfl ?_
  refine mNf (lv2 := [(0, .ref 0), (1, .int 0)]) (st2 := [.long u, .ref 0]) rfl (by rw [hu] <;> rfl) ?_
  refine mB hT 37 rfl ?_
  refine mNf (lv2 := [(3, .int 0), (2, .int 0), (0, .ref 0), (1, .int 0)]) (st2 := [.long (hh 0), .int 0, .ref 11]) rfl (by rw [hq 0] <;> rfl) ?_
  refine mB hT 19 rfl ?_
  refine mB hT 1 rfl ?_
  refine mWd (w2 := (MW 3 vs wo u h bo ta (up (up tr 0 (hh 0)) 1 (ta 1)) ro ot Bm bk)) rfl ?_
  refine mB hT 18 rfl ?_
  refine mNf (lv2 := [(3, .int 2), (2, .int 0), (0, .ref 0), (1, .int 0)]) (st2 := [.long (ta 2), .int 2, .ref 11]) rfl rfl ?_
  refine mB hT 19 rfl ?_
  refine mB hT 32 rfl ?_
  refine mNf (lv2 := [(3, .int 4), (2, .int 0), (0, .ref 0), (1, .int 0)]) (st2 := [.long (hh 1), .int 4, .ref 11]) rfl (by rw [hq 1] <;> rfl) ?_
  refine mB hT 1 rfl ?_
  refine mWd (w2 := (MW 3 vs wo u h bo ta (up (up (up (up (up tr 0 (hh 0)) 1 (ta 1)) 2 (ta 2)) 3 (ta 3)) 4 (hh 1)) ro ot Bm bk)) rfl ?_
  refine mB hT 18 rfl ?_
  refine mB hT 19 rfl ?_
  refine mNf (lv2 := [(3, .int 6), (2, .int 0), (0, .ref 0), (1, .int 0)]) (st2 := [.long (ta 6), .int 6, .ref 11]) rfl rfl ?_
  refine mB hT 19 rfl ?_
  refine mB hT 1 rfl ?_
  refine mWd (w2 := (MW 3 vs wo u h bo ta (up (up (up (up (up (up (up (up tr 0 (hh 0)) 1 (ta 1)) 2 (ta 2)) 3 (ta 3)) 4 (hh 1)) 5 (ta 5)) 6 (ta 6)) 7 (ta 7)) ro ot Bm bk)) rfl ?_
  refine mB hT 31 rfl ?_
  refine mNf (lv2 := [(3, .int 8), (2, .int 0), (0, .ref 0), (1, .int 0)]) (st2 := [.long (hh 2), .int 8, .ref 11]) rfl (by rw [hq 2] <;> rfl) ?_
  refine mB hT 19 rfl ?_
  refine mB hT 19 rfl ?_
  refine mNf (lv2 := [(3, .int 10), (2, .int 0), (0, .ref 0), (1, .int 0)]) (st2 := [.long (ta 10), .int 10, .ref 11]) rfl rfl ?_
  refine mB hT 1 rfl ?_
  refine mWd (w2 := (MW 3 vs wo u h bo ta (up (up (up (up (up (up (up (up (up (up (up tr 0 (hh 0)) 1 (ta 1)) 2 (ta 2)) 3 (ta 3)) 4 (hh 1)) 5 (ta 5)) 6 (ta 6)) 7 (ta 7)) 8 (hh 2)) 9 (ta 9)) 10 (ta 10)) ro ot Bm bk)) rfl ?_
  refine mB hT 18 rfl ?_
  refine mB hT 21 rfl ?_
  refine mNf (lv2 := [(3, .int 12), (2, .int 0), (0, .ref 0), (1, .int 0)]) (st2 := [.long 0, .int 12, .ref 11]) rfl rfl ?_
  refine mB hT 19 rfl ?_
  refine mB hT 1 rfl ?_
  refine mWd (w2 := (MW 3 vs wo u h bo ta (up (up (up (up (up (up (up (up (up (up (up (up (up (up tr 0 (hh 0)) 1 (ta 1)) 2 (ta 2)) 3 (ta 3)) 4 (hh 1)) 5 (ta 5)) 6 (ta 6)) 7 (ta 7)) 8 (hh 2)) 9 (ta 9)) 10 (ta 10)) 11 (ta 11)) 12 0) 13 (ta 13)) ro ot Bm bk)) rfl ?_
  refine mB hT 18 rfl ?_
  refine mNf (lv2 := [(3, .int 14), (2, .int 0), (0, .ref 0), (1, .int 0)]) (st2 := [.long (ta 14), .int 14, .ref 11]) rfl rfl ?_
  refine mB hT 19 rfl ?_
  refine mB hT 14 rfl ?_
  refine mIf (fun hp => absurd hp (fun q => Int64.not_lt.mpr (lc_ge.mp q) hs)) (fun _ => ?_)
  refine mNf (lv2 := [(3, .int 16), (2, .int 0), (0, .ref 0), (1, .int 0)]) (st2 := [.int 0, .ref 12]) rfl rfl ?_
  refine mB hT 1 rfl ?_
  refine mWd (w2 := (MW 3 vs wo u h bo ta (up (up (up (up (up (up (up (up (up (up (up (up (up (up (up (up tr 0 (hh 0)) 1 (ta 1)) 2 (ta 2)) 3 (ta 3)) 4 (hh 1)) 5 (ta 5)) 6 (ta 6)) 7 (ta 7)) 8 (hh 2)) 9 (ta 9)) 10 (ta 10)) 11 (ta 11)) 12 0) 13 (ta 13)) 14 (ta 14)) 15 (ta 15)) ro ot Bm bk)) rfl ?_
  refine mWd (w2 := (MW 3 vs wo u h bo ta (tsM 3 ta 0 hh) ro ot Bm bk)) rfl ?_
  refine hC.1 _ 0 [] _ _ _ _ _ (m_det) rfl rfl (Nat.le_of_ble_eq_true rfl) rfl ?_
  refine mB hT 2 rfl ?_
  refine mNf (lv2 := [(3, .int 16), (2, .int 0), (0, .ref 0), (1, .int 0)]) (st2 := [.long (rr 0), .int 0, .ref 12]) rfl (by rw [hrr 0] <;> rfl) ?_
  refine mB hT 24 rfl ?_
  refine mNf (lv2 := [(3, .int 0), (2, .int 1), (0, .ref 0), (1, .int 0)]) (st2 := [.long (ta 0), .int 0, .ref 11]) rfl rfl ?_
  refine mB hT 32 rfl ?_
  refine mNf (lv2 := [(3, .int 1), (2, .int 1), (0, .ref 0), (1, .int 0)]) (st2 := [.long (hh 0), .int 1, .ref 11]) rfl (by rw [hq 0] <;> rfl) ?_
  refine mB hT 1 rfl ?_
  refine mWd (w2 := (MW 3 vs wo u h bo ta (up (up (tsM 3 ta 0 hh) 0 (ta 0)) 1 (hh 0)) (up ro 0 (rr 0)) ot Bm bk)) rfl ?_
  refine mB hT 18 rfl ?_
  refine mB hT 19 rfl ?_
  refine mNf (lv2 := [(3, .int 3), (2, .int 1), (0, .ref 0), (1, .int 0)]) (st2 := [.long (ta 3), .int 3, .ref 11]) rfl rfl ?_
  refine mB hT 19 rfl ?_
  refine mB hT 1 rfl ?_
  refine mWd (w2 := (MW 3 vs wo u h bo ta (up (up (up (up (up (tsM 3 ta 0 hh) 0 (ta 0)) 1 (hh 0)) 2 (ta 2)) 3 (ta 3)) 4 (ta 4)) (up ro 0 (rr 0)) ot Bm bk)) rfl ?_
  refine mB hT 31 rfl ?_
  refine mNf (lv2 := [(3, .int 5), (2, .int 1), (0, .ref 0), (1, .int 0)]) (st2 := [.long (hh 1), .int 5, .ref 11]) rfl (by rw [hq 1] <;> rfl) ?_
  refine mB hT 19 rfl ?_
  refine mB hT 19 rfl ?_
  refine mNf (lv2 := [(3, .int 7), (2, .int 1), (0, .ref 0), (1, .int 0)]) (st2 := [.long (ta 7), .int 7, .ref 11]) rfl rfl ?_
  refine mB hT 1 rfl ?_
  refine mWd (w2 := (MW 3 vs wo u h bo ta (up (up (up (up (up (up (up (up (tsM 3 ta 0 hh) 0 (ta 0)) 1 (hh 0)) 2 (ta 2)) 3 (ta 3)) 4 (ta 4)) 5 (hh 1)) 6 (ta 6)) 7 (ta 7)) (up ro 0 (rr 0)) ot Bm bk)) rfl ?_
  refine mB hT 18 rfl ?_
  refine mB hT 32 rfl ?_
  refine mNf (lv2 := [(3, .int 9), (2, .int 1), (0, .ref 0), (1, .int 0)]) (st2 := [.long (hh 2), .int 9, .ref 11]) rfl (by rw [hq 2] <;> rfl) ?_
  refine mB hT 19 rfl ?_
  refine mB hT 1 rfl ?_
  refine mWd (w2 := (MW 3 vs wo u h bo ta (up (up (up (up (up (up (up (up (up (up (up (tsM 3 ta 0 hh) 0 (ta 0)) 1 (hh 0)) 2 (ta 2)) 3 (ta 3)) 4 (ta 4)) 5 (hh 1)) 6 (ta 6)) 7 (ta 7)) 8 (ta 8)) 9 (hh 2)) 10 (ta 10)) (up ro 0 (rr 0)) ot Bm bk)) rfl ?_
  refine mB hT 18 rfl ?_
  refine mNf (lv2 := [(3, .int 11), (2, .int 1), (0, .ref 0), (1, .int 0)]) (st2 := [.long (ta 11), .int 11, .ref 11]) rfl rfl ?_
  refine mB hT 19 rfl ?_
  refine mB hT 21 rfl ?_
  refine mNf (lv2 := [(3, .int 13), (2, .int 1), (0, .ref 0), (1, .int 0)]) (st2 := [.long 0, .int 13, .ref 11]) rfl rfl ?_
  refine mB hT 1 rfl ?_
  refine mWd (w2 := (MW 3 vs wo u h bo ta (up (up (up (up (up (up (up (up (up (up (up (up (up (up (tsM 3 ta 0 hh) 0 (ta 0)) 1 (hh 0)) 2 (ta 2)) 3 (ta 3)) 4 (ta 4)) 5 (hh 1)) 6 (ta 6)) 7 (ta 7)) 8 (ta 8)) 9 (hh 2)) 10 (ta 10)) 11 (ta 11)) 12 (ta 12)) 13 0) (up ro 0 (rr 0)) ot Bm bk)) rfl ?_
  refine mB hT 18 rfl ?_
  refine mB hT 19 rfl ?_
  refine mNf (lv2 := [(3, .int 15), (2, .int 1), (0, .ref 0), (1, .int 0)]) (st2 := [.long (ta 15), .int 15, .ref 11]) rfl rfl ?_
  refine mB hT 14 rfl ?_
  refine mIf (fun hp => absurd hp (fun q => Int64.not_lt.mpr (lc_ge.mp q) hs)) (fun _ => ?_)
  refine mB hT 1 rfl ?_
  refine mWd (w2 := (MW 3 vs wo u h bo ta (up (up (up (up (up (up (up (up (up (up (up (up (up (up (up (up (tsM 3 ta 0 hh) 0 (ta 0)) 1 (hh 0)) 2 (ta 2)) 3 (ta 3)) 4 (ta 4)) 5 (hh 1)) 6 (ta 6)) 7 (ta 7)) 8 (ta 8)) 9 (hh 2)) 10 (ta 10)) 11 (ta 11)) 12 (ta 12)) 13 0) 14 (ta 14)) 15 (ta 15)) (up ro 0 (rr 0)) ot Bm bk)) rfl ?_
  refine mWd (w2 := (MW 3 vs wo u h bo ta (tsM 3 ta 1 hh) (up ro 0 (rr 0)) ot Bm bk)) rfl ?_
  refine hC.1 _ 0 [] _ _ _ _ _ (m_det) rfl rfl (Nat.le_of_ble_eq_true rfl) rfl ?_
  refine mB hT 2 rfl ?_
  refine mNf (lv2 := [(3, .int 16), (2, .int 1), (0, .ref 0), (1, .int 0)]) (st2 := [.long (rr 1), .int 1, .ref 12]) rfl (by rw [hrr 1] <;> rfl) ?_
  refine mB hT 24 rfl ?_
  refine mNf (lv2 := [(3, .int 0), (2, .int 2), (0, .ref 0), (1, .int 0)]) (st2 := [.long (ta 0), .int 0, .ref 11]) rfl rfl ?_
  refine mB hT 19 rfl ?_
  refine mB hT 1 rfl ?_
  refine mWd (w2 := (MW 3 vs wo u h bo ta (up (up (tsM 3 ta 1 hh) 0 (ta 0)) 1 (ta 1)) (up (up ro 0 (rr 0)) 1 (rr 1)) ot Bm bk)) rfl ?_
  refine mB hT 31 rfl ?_
  refine mNf (lv2 := [(3, .int 2), (2, .int 2), (0, .ref 0), (1, .int 0)]) (st2 := [.long (hh 0), .int 2, .ref 11]) rfl (by rw [hq 0] <;> rfl) ?_
  refine mB hT 19 rfl ?_
  refine mB hT 19 rfl ?_
  refine mNf (lv2 := [(3, .int 4), (2, .int 2), (0, .ref 0), (1, .int 0)]) (st2 := [.long (ta 4), .int 4, .ref 11]) rfl rfl ?_
  refine mB hT 1 rfl ?_
  refine mWd (w2 := (MW 3 vs wo u h bo ta (up (up (up (up (up (tsM 3 ta 1 hh) 0 (ta 0)) 1 (ta 1)) 2 (hh 0)) 3 (ta 3)) 4 (ta 4)) (up (up ro 0 (rr 0)) 1 (rr 1)) ot Bm bk)) rfl ?_
  refine mB hT 18 rfl ?_
  refine mB hT 32 rfl ?_
  refine mNf (lv2 := [(3, .int 6), (2, .int 2), (0, .ref 0), (1, .int 0)]) (st2 := [.long (hh 1), .int 6, .ref 11]) rfl (by rw [hq 1] <;> rfl) ?_
  refine mB hT 19 rfl ?_
  refine mB hT 1 rfl ?_
  refine mWd (w2 := (MW 3 vs wo u h bo ta (up (up (up (up (up (up (up (up (tsM 3 ta 1 hh) 0 (ta 0)) 1 (ta 1)) 2 (hh 0)) 3 (ta 3)) 4 (ta 4)) 5 (ta 5)) 6 (hh 1)) 7 (ta 7)) (up (up ro 0 (rr 0)) 1 (rr 1)) ot Bm bk)) rfl ?_
  refine mB hT 18 rfl ?_
  refine mNf (lv2 := [(3, .int 8), (2, .int 2), (0, .ref 0), (1, .int 0)]) (st2 := [.long (ta 8), .int 8, .ref 11]) rfl rfl ?_
  refine mB hT 19 rfl ?_
  refine mB hT 32 rfl ?_
  refine mNf (lv2 := [(3, .int 10), (2, .int 2), (0, .ref 0), (1, .int 0)]) (st2 := [.long (hh 2), .int 10, .ref 11]) rfl (by rw [hq 2] <;> rfl) ?_
  refine mB hT 1 rfl ?_
  refine mWd (w2 := (MW 3 vs wo u h bo ta (up (up (up (up (up (up (up (up (up (up (up (tsM 3 ta 1 hh) 0 (ta 0)) 1 (ta 1)) 2 (hh 0)) 3 (ta 3)) 4 (ta 4)) 5 (ta 5)) 6 (hh 1)) 7 (ta 7)) 8 (ta 8)) 9 (ta 9)) 10 (hh 2)) (up (up ro 0 (rr 0)) 1 (rr 1)) ot Bm bk)) rfl ?_
  refine mB hT 18 rfl ?_
  refine mB hT 19 rfl ?_
  refine mNf (lv2 := [(3, .int 12), (2, .int 2), (0, .ref 0), (1, .int 0)]) (st2 := [.long (ta 12), .int 12, .ref 11]) rfl rfl ?_
  refine mB hT 19 rfl ?_
  refine mB hT 1 rfl ?_
  refine mWd (w2 := (MW 3 vs wo u h bo ta (up (up (up (up (up (up (up (up (up (up (up (up (up (up (tsM 3 ta 1 hh) 0 (ta 0)) 1 (ta 1)) 2 (hh 0)) 3 (ta 3)) 4 (ta 4)) 5 (ta 5)) 6 (hh 1)) 7 (ta 7)) 8 (ta 8)) 9 (ta 9)) 10 (hh 2)) 11 (ta 11)) 12 (ta 12)) 13 (ta 13)) (up (up ro 0 (rr 0)) 1 (rr 1)) ot Bm bk)) rfl ?_
  refine mB hT 20 rfl ?_
  refine mNf (lv2 := [(3, .int 14), (2, .int 2), (0, .ref 0), (1, .int 0)]) (st2 := [.long 0, .int 14, .ref 11]) rfl rfl ?_
  refine mB hT 19 rfl ?_
  refine mB hT 14 rfl ?_
  refine mIf (fun hp => absurd hp (fun q => Int64.not_lt.mpr (lc_ge.mp q) hs)) (fun _ => ?_)
  refine mNf (lv2 := [(3, .int 16), (2, .int 2), (0, .ref 0), (1, .int 0)]) (st2 := [.int 2, .ref 12]) rfl rfl ?_
  refine mB hT 1 rfl ?_
  refine mWd (w2 := (MW 3 vs wo u h bo ta (up (up (up (up (up (up (up (up (up (up (up (up (up (up (up (up (tsM 3 ta 1 hh) 0 (ta 0)) 1 (ta 1)) 2 (hh 0)) 3 (ta 3)) 4 (ta 4)) 5 (ta 5)) 6 (hh 1)) 7 (ta 7)) 8 (ta 8)) 9 (ta 9)) 10 (hh 2)) 11 (ta 11)) 12 (ta 12)) 13 (ta 13)) 14 0) 15 (ta 15)) (up (up ro 0 (rr 0)) 1 (rr 1)) ot Bm bk)) rfl ?_
  refine mWd (w2 := (MW 3 vs wo u h bo ta (tsM 3 ta 2 hh) (up (up ro 0 (rr 0)) 1 (rr 1)) ot Bm bk)) rfl ?_
  refine hC.1 _ 0 [] _ _ _ _ _ (m_det) rfl rfl (Nat.le_of_ble_eq_true rfl) rfl ?_
  refine mB hT 2 rfl ?_
  refine mNf (lv2 := [(3, .int 16), (2, .int 2), (0, .ref 0), (1, .int 0)]) (st2 := [.long (rr 2), .int 2, .ref 12]) rfl (by rw [hrr 2] <;> rfl) ?_
  refine mB hT 24 rfl ?_
  refine mNf (lv2 := [(3, .int 0), (2, .int 3), (0, .ref 0), (1, .int 0)]) (st2 := [.long (ta 0), .int 0, .ref 11]) rfl rfl ?_
  refine mB hT 19 rfl ?_
  refine mB hT 1 rfl ?_
  refine mWd (w2 := (MW 3 vs wo u h bo ta (up (up (tsM 3 ta 2 hh) 0 (ta 0)) 1 (ta 1)) (up (up (up ro 0 (rr 0)) 1 (rr 1)) 2 (rr 2)) ot Bm bk)) rfl ?_
  refine mB hT 18 rfl ?_
  refine mNf (lv2 := [(3, .int 2), (2, .int 3), (0, .ref 0), (1, .int 0)]) (st2 := [.long (ta 2), .int 2, .ref 11]) rfl rfl ?_
  refine mB hT 32 rfl ?_
  refine mNf (lv2 := [(3, .int 3), (2, .int 3), (0, .ref 0), (1, .int 0)]) (st2 := [.long (hh 0), .int 3, .ref 11]) rfl (by rw [hq 0] <;> rfl) ?_
  refine mB hT 19 rfl ?_
  refine mB hT 1 rfl ?_
  refine mWd (w2 := (MW 3 vs wo u h bo ta (up (up (up (up (up (tsM 3 ta 2 hh) 0 (ta 0)) 1 (ta 1)) 2 (ta 2)) 3 (hh 0)) 4 (ta 4)) (up (up (up ro 0 (rr 0)) 1 (rr 1)) 2 (rr 2)) ot Bm bk)) rfl ?_
  refine mB hT 18 rfl ?_
  refine mNf (lv2 := [(3, .int 5), (2, .int 3), (0, .ref 0), (1, .int 0)]) (st2 := [.long (ta 5), .int 5, .ref 11]) rfl rfl ?_
  refine mB hT 19 rfl ?_
  refine mB hT 32 rfl ?_
  refine mNf (lv2 := [(3, .int 7), (2, .int 3), (0, .ref 0), (1, .int 0)]) (st2 := [.long (hh 1), .int 7, .ref 11]) rfl (by rw [hq 1] <;> rfl) ?_
  refine mB hT 1 rfl ?_
  refine mWd (w2 := (MW 3 vs wo u h bo ta (up (up (up (up (up (up (up (up (tsM 3 ta 2 hh) 0 (ta 0)) 1 (ta 1)) 2 (ta 2)) 3 (hh 0)) 4 (ta 4)) 5 (ta 5)) 6 (ta 6)) 7 (hh 1)) (up (up (up ro 0 (rr 0)) 1 (rr 1)) 2 (rr 2)) ot Bm bk)) rfl ?_
  refine mB hT 18 rfl ?_
  refine mB hT 19 rfl ?_
  refine mNf (lv2 := [(3, .int 9), (2, .int 3), (0, .ref 0), (1, .int 0)]) (st2 := [.long (ta 9), .int 9, .ref 11]) rfl rfl ?_
  refine mB hT 19 rfl ?_
  refine mB hT 1 rfl ?_
  refine mWd (w2 := (MW 3 vs wo u h bo ta (up (up (up (up (up (up (up (up (up (up (up (tsM 3 ta 2 hh) 0 (ta 0)) 1 (ta 1)) 2 (ta 2)) 3 (hh 0)) 4 (ta 4)) 5 (ta 5)) 6 (ta 6)) 7 (hh 1)) 8 (ta 8)) 9 (ta 9)) 10 (ta 10)) (up (up (up ro 0 (rr 0)) 1 (rr 1)) 2 (rr 2)) ot Bm bk)) rfl ?_
  refine mB hT 31 rfl ?_
  refine mNf (lv2 := [(3, .int 11), (2, .int 3), (0, .ref 0), (1, .int 0)]) (st2 := [.long (hh 2), .int 11, .ref 11]) rfl (by rw [hq 2] <;> rfl) ?_
  refine mB hT 19 rfl ?_
  refine mB hT 19 rfl ?_
  refine mNf (lv2 := [(3, .int 13), (2, .int 3), (0, .ref 0), (1, .int 0)]) (st2 := [.long (ta 13), .int 13, .ref 11]) rfl rfl ?_
  refine mB hT 1 rfl ?_
  refine mWd (w2 := (MW 3 vs wo u h bo ta (up (up (up (up (up (up (up (up (up (up (up (up (up (up (tsM 3 ta 2 hh) 0 (ta 0)) 1 (ta 1)) 2 (ta 2)) 3 (hh 0)) 4 (ta 4)) 5 (ta 5)) 6 (ta 6)) 7 (hh 1)) 8 (ta 8)) 9 (ta 9)) 10 (ta 10)) 11 (hh 2)) 12 (ta 12)) 13 (ta 13)) (up (up (up ro 0 (rr 0)) 1 (rr 1)) 2 (rr 2)) ot Bm bk)) rfl ?_
  refine mB hT 18 rfl ?_
  refine mB hT 21 rfl ?_
  refine mNf (lv2 := [(3, .int 15), (2, .int 3), (0, .ref 0), (1, .int 0)]) (st2 := [.long 0, .int 15, .ref 11]) rfl rfl ?_
  refine mB hT 14 rfl ?_
  refine mIf (fun hp => absurd hp (fun q => Int64.not_lt.mpr (lc_ge.mp q) hs)) (fun _ => ?_)
  refine mB hT 1 rfl ?_
  refine mWd (w2 := (MW 3 vs wo u h bo ta (up (up (up (up (up (up (up (up (up (up (up (up (up (up (up (up (tsM 3 ta 2 hh) 0 (ta 0)) 1 (ta 1)) 2 (ta 2)) 3 (hh 0)) 4 (ta 4)) 5 (ta 5)) 6 (ta 6)) 7 (hh 1)) 8 (ta 8)) 9 (ta 9)) 10 (ta 10)) 11 (hh 2)) 12 (ta 12)) 13 (ta 13)) 14 (ta 14)) 15 0) (up (up (up ro 0 (rr 0)) 1 (rr 1)) 2 (rr 2)) ot Bm bk)) rfl ?_
  refine mWd (w2 := (MW 3 vs wo u h bo ta (tsM 3 ta 3 hh) (up (up (up ro 0 (rr 0)) 1 (rr 1)) 2 (rr 2)) ot Bm bk)) rfl ?_
  refine hC.1 _ 0 [] _ _ _ _ _ (m_det) rfl rfl (Nat.le_of_ble_eq_true rfl) rfl ?_
  refine mB hT 2 rfl ?_
  refine mNf (lv2 := [(3, .int 16), (2, .int 3), (0, .ref 0), (1, .int 0)]) (st2 := [.long (rr 3), .int 3, .ref 12]) rfl (by rw [hrr 3] <;> rfl) ?_
  refine mB hT 6 rfl ?_
  exact hR _ (by decide) _ _ _ rfl rfl
set_option maxRecDepth 20000 in
theorem m_solve_3_1p {vs : Int32} {wo un h : Int64} {bo : Nat → Int32} {ta tr ro ot : Nat → Int64} {Bm : Nat → Nat → Nat → Int32} {bk : Nat → Nat → Int32} {u : Int64} {hh rr : Nat → Int64} (hs : ¬ wo < 0) (hu : u = wo) (hq : ∀ j : Nat, hh j = (bk 1 j).toInt64) (hrr : ∀ i : Nat, rr i = dtM (tsM 3 ta i hh)) : KX3_solve l D ca ad [.ref 0, .int 1] (MW 3 vs wo un h bo ta tr ro ot Bm bk) none (MW 3 vs wo u h bo ta (tsM 3 ta 3 hh) rr ot Bm bk) := by
  refine PX3_solve (Nat.le_of_ble_eq_true rfl) ?_
  intro G hT hC hR
  refine mB hT 6 rfl ?_
  refine mIf (fun _ => ?_) (fun hn => absurd (lc_ge.mpr (Int64.not_lt.mp hs)) hn)
  refine mB hT 2 rfl ?_
  refine mNf (lv2 := [(0, .ref 0), (1, .int 1)]) (st2 := [.long u, .ref 0]) rfl (by rw [hu] <;> rfl) ?_
  refine mB hT 37 rfl ?_
  refine mNf (lv2 := [(3, .int 0), (2, .int 0), (0, .ref 0), (1, .int 1)]) (st2 := [.long (hh 0), .int 0, .ref 11]) rfl (by rw [hq 0] <;> rfl) ?_
  refine mB hT 19 rfl ?_
  refine mB hT 1 rfl ?_
  refine mWd (w2 := (MW 3 vs wo u h bo ta (up (up tr 0 (hh 0)) 1 (ta 1)) ro ot Bm bk)) rfl ?_
  refine mB hT 18 rfl ?_
  refine mNf (lv2 := [(3, .int 2), (2, .int 0), (0, .ref 0), (1, .int 1)]) (st2 := [.long (ta 2), .int 2, .ref 11]) rfl rfl ?_
  refine mB hT 19 rfl ?_
  refine mB hT 32 rfl ?_
  refine mNf (lv2 := [(3, .int 4), (2, .int 0), (0, .ref 0), (1, .int 1)]) (st2 := [.long (hh 1), .int 4, .ref 11]) rfl (by rw [hq 1] <;> rfl) ?_
  refine mB hT 1 rfl ?_
  refine mWd (w2 := (MW 3 vs wo u h bo ta (up (up (up (up (up tr 0 (hh 0)) 1 (ta 1)) 2 (ta 2)) 3 (ta 3)) 4 (hh 1)) ro ot Bm bk)) rfl ?_
  refine mB hT 18 rfl ?_
  refine mB hT 19 rfl ?_
  refine mNf (lv2 := [(3, .int 6), (2, .int 0), (0, .ref 0), (1, .int 1)]) (st2 := [.long (ta 6), .int 6, .ref 11]) rfl rfl ?_
  refine mB hT 19 rfl ?_
  refine mB hT 1 rfl ?_
  refine mWd (w2 := (MW 3 vs wo u h bo ta (up (up (up (up (up (up (up (up tr 0 (hh 0)) 1 (ta 1)) 2 (ta 2)) 3 (ta 3)) 4 (hh 1)) 5 (ta 5)) 6 (ta 6)) 7 (ta 7)) ro ot Bm bk)) rfl ?_
  refine mB hT 31 rfl ?_
  refine mNf (lv2 := [(3, .int 8), (2, .int 0), (0, .ref 0), (1, .int 1)]) (st2 := [.long (hh 2), .int 8, .ref 11]) rfl (by rw [hq 2] <;> rfl) ?_
  refine mB hT 19 rfl ?_
  refine mB hT 19 rfl ?_
  refine mNf (lv2 := [(3, .int 10), (2, .int 0), (0, .ref 0), (1, .int 1)]) (st2 := [.long (ta 10), .int 10, .ref 11]) rfl rfl ?_
  refine mB hT 1 rfl ?_
  refine mWd (w2 := (MW 3 vs wo u h bo ta (up (up (up (up (up (up (up (up (up (up (up tr 0 (hh 0)) 1 (ta 1)) 2 (ta 2)) 3 (ta 3)) 4 (hh 1)) 5 (ta 5)) 6 (ta 6)) 7 (ta 7)) 8 (hh 2)) 9 (ta 9)) 10 (ta 10)) ro ot Bm bk)) rfl ?_
  refine mB hT 18 rfl ?_
  refine mB hT 21 rfl ?_
  refine mNf (lv2 := [(3, .int 12), (2, .int 0), (0, .ref 0), (1, .int 1)]) (st2 := [.long 0, .int 12, .ref 11]) rfl rfl ?_
  refine mB hT 19 rfl ?_
  refine mB hT 1 rfl ?_
  refine mWd (w2 := (MW 3 vs wo u h bo ta (up (up (up (up (up (up (up (up (up (up (up (up (up (up tr 0 (hh 0)) 1 (ta 1)) 2 (ta 2)) 3 (ta 3)) 4 (hh 1)) 5 (ta 5)) 6 (ta 6)) 7 (ta 7)) 8 (hh 2)) 9 (ta 9)) 10 (ta 10)) 11 (ta 11)) 12 0) 13 (ta 13)) ro ot Bm bk)) rfl ?_
  refine mB hT 18 rfl ?_
  refine mNf (lv2 := [(3, .int 14), (2, .int 0), (0, .ref 0), (1, .int 1)]) (st2 := [.long (ta 14), .int 14, .ref 11]) rfl rfl ?_
  refine mB hT 19 rfl ?_
  refine mB hT 14 rfl ?_
  refine mIf (fun _ => ?_) (fun hn => absurd (lc_ge.mpr (Int64.not_lt.mp hs)) hn)
  refine mNf (lv2 := [(3, .int 16), (2, .int 0), (0, .ref 0), (1, .int 1)]) (st2 := [.int 0, .ref 12]) rfl rfl ?_
  refine mB hT 1 rfl ?_
  refine mWd (w2 := (MW 3 vs wo u h bo ta (up (up (up (up (up (up (up (up (up (up (up (up (up (up (up (up tr 0 (hh 0)) 1 (ta 1)) 2 (ta 2)) 3 (ta 3)) 4 (hh 1)) 5 (ta 5)) 6 (ta 6)) 7 (ta 7)) 8 (hh 2)) 9 (ta 9)) 10 (ta 10)) 11 (ta 11)) 12 0) 13 (ta 13)) 14 (ta 14)) 15 (ta 15)) ro ot Bm bk)) rfl ?_
  refine mWd (w2 := (MW 3 vs wo u h bo ta (tsM 3 ta 0 hh) ro ot Bm bk)) rfl ?_
  refine hC.2 _ 0 [] _ _ _ _ _ (m_det) rfl rfl (Nat.le_of_ble_eq_true rfl) rfl ?_
  refine mNf (lv2 := [(3, .int 16), (2, .int 0), (0, .ref 0), (1, .int 1)]) (st2 := [.long (rr 0), .int 0, .ref 12]) rfl (by rw [hrr 0] <;> rfl) ?_
  refine mB hT 24 rfl ?_
  refine mNf (lv2 := [(3, .int 0), (2, .int 1), (0, .ref 0), (1, .int 1)]) (st2 := [.long (ta 0), .int 0, .ref 11]) rfl rfl ?_
  refine mB hT 32 rfl ?_
  refine mNf (lv2 := [(3, .int 1), (2, .int 1), (0, .ref 0), (1, .int 1)]) (st2 := [.long (hh 0), .int 1, .ref 11]) rfl (by rw [hq 0] <;> rfl) ?_
  refine mB hT 1 rfl ?_
  refine mWd (w2 := (MW 3 vs wo u h bo ta (up (up (tsM 3 ta 0 hh) 0 (ta 0)) 1 (hh 0)) (up ro 0 (rr 0)) ot Bm bk)) rfl ?_
  refine mB hT 18 rfl ?_
  refine mB hT 19 rfl ?_
  refine mNf (lv2 := [(3, .int 3), (2, .int 1), (0, .ref 0), (1, .int 1)]) (st2 := [.long (ta 3), .int 3, .ref 11]) rfl rfl ?_
  refine mB hT 19 rfl ?_
  refine mB hT 1 rfl ?_
  refine mWd (w2 := (MW 3 vs wo u h bo ta (up (up (up (up (up (tsM 3 ta 0 hh) 0 (ta 0)) 1 (hh 0)) 2 (ta 2)) 3 (ta 3)) 4 (ta 4)) (up ro 0 (rr 0)) ot Bm bk)) rfl ?_
  refine mB hT 31 rfl ?_
  refine mNf (lv2 := [(3, .int 5), (2, .int 1), (0, .ref 0), (1, .int 1)]) (st2 := [.long (hh 1), .int 5, .ref 11]) rfl (by rw [hq 1] <;> rfl) ?_
  refine mB hT 19 rfl ?_
  refine mB hT 19 rfl ?_
  refine mNf (lv2 := [(3, .int 7), (2, .int 1), (0, .ref 0), (1, .int 1)]) (st2 := [.long (ta 7), .int 7, .ref 11]) rfl rfl ?_
  refine mB hT 1 rfl ?_
  refine mWd (w2 := (MW 3 vs wo u h bo ta (up (up (up (up (up (up (up (up (tsM 3 ta 0 hh) 0 (ta 0)) 1 (hh 0)) 2 (ta 2)) 3 (ta 3)) 4 (ta 4)) 5 (hh 1)) 6 (ta 6)) 7 (ta 7)) (up ro 0 (rr 0)) ot Bm bk)) rfl ?_
  refine mB hT 18 rfl ?_
  refine mB hT 32 rfl ?_
  refine mNf (lv2 := [(3, .int 9), (2, .int 1), (0, .ref 0), (1, .int 1)]) (st2 := [.long (hh 2), .int 9, .ref 11]) rfl (by rw [hq 2] <;> rfl) ?_
  refine mB hT 19 rfl ?_
  refine mB hT 1 rfl ?_
  refine mWd (w2 := (MW 3 vs wo u h bo ta (up (up (up (up (up (up (up (up (up (up (up (tsM 3 ta 0 hh) 0 (ta 0)) 1 (hh 0)) 2 (ta 2)) 3 (ta 3)) 4 (ta 4)) 5 (hh 1)) 6 (ta 6)) 7 (ta 7)) 8 (ta 8)) 9 (hh 2)) 10 (ta 10)) (up ro 0 (rr 0)) ot Bm bk)) rfl ?_
  refine mB hT 18 rfl ?_
  refine mNf (lv2 := [(3, .int 11), (2, .int 1), (0, .ref 0), (1, .int 1)]) (st2 := [.long (ta 11), .int 11, .ref 11]) rfl rfl ?_
  refine mB hT 19 rfl ?_
  refine mB hT 21 rfl ?_
  refine mNf (lv2 := [(3, .int 13), (2, .int 1), (0, .ref 0), (1, .int 1)]) (st2 := [.long 0, .int 13, .ref 11]) rfl rfl ?_
  refine mB hT 1 rfl ?_
  refine mWd (w2 := (MW 3 vs wo u h bo ta (up (up (up (up (up (up (up (up (up (up (up (up (up (up (tsM 3 ta 0 hh) 0 (ta 0)) 1 (hh 0)) 2 (ta 2)) 3 (ta 3)) 4 (ta 4)) 5 (hh 1)) 6 (ta 6)) 7 (ta 7)) 8 (ta 8)) 9 (hh 2)) 10 (ta 10)) 11 (ta 11)) 12 (ta 12)) 13 0) (up ro 0 (rr 0)) ot Bm bk)) rfl ?_
  refine mB hT 18 rfl ?_
  refine mB hT 19 rfl ?_
  refine mNf (lv2 := [(3, .int 15), (2, .int 1), (0, .ref 0), (1, .int 1)]) (st2 := [.long (ta 15), .int 15, .ref 11]) rfl rfl ?_
  refine mB hT 14 rfl ?_
  refine mIf (fun _ => ?_) (fun hn => absurd (lc_ge.mpr (Int64.not_lt.mp hs)) hn)
  refine mB hT 1 rfl ?_
  refine mWd (w2 := (MW 3 vs wo u h bo ta (up (up (up (up (up (up (up (up (up (up (up (up (up (up (up (up (tsM 3 ta 0 hh) 0 (ta 0)) 1 (hh 0)) 2 (ta 2)) 3 (ta 3)) 4 (ta 4)) 5 (hh 1)) 6 (ta 6)) 7 (ta 7)) 8 (ta 8)) 9 (hh 2)) 10 (ta 10)) 11 (ta 11)) 12 (ta 12)) 13 0) 14 (ta 14)) 15 (ta 15)) (up ro 0 (rr 0)) ot Bm bk)) rfl ?_
  refine mWd (w2 := (MW 3 vs wo u h bo ta (tsM 3 ta 1 hh) (up ro 0 (rr 0)) ot Bm bk)) rfl ?_
  refine hC.2 _ 0 [] _ _ _ _ _ (m_det) rfl rfl (Nat.le_of_ble_eq_true rfl) rfl ?_
  refine mNf (lv2 := [(3, .int 16), (2, .int 1), (0, .ref 0), (1, .int 1)]) (st2 := [.long (rr 1), .int 1, .ref 12]) rfl (by rw [hrr 1] <;> rfl) ?_
  refine mB hT 24 rfl ?_
  refine mNf (lv2 := [(3, .int 0), (2, .int 2), (0, .ref 0), (1, .int 1)]) (st2 := [.long (ta 0), .int 0, .ref 11]) rfl rfl ?_
  refine mB hT 19 rfl ?_
  refine mB hT 1 rfl ?_
  refine mWd (w2 := (MW 3 vs wo u h bo ta (up (up (tsM 3 ta 1 hh) 0 (ta 0)) 1 (ta 1)) (up (up ro 0 (rr 0)) 1 (rr 1)) ot Bm bk)) rfl ?_
  refine mB hT 31 rfl ?_
  refine mNf (lv2 := [(3, .int 2), (2, .int 2), (0, .ref 0), (1, .int 1)]) (st2 := [.long (hh 0), .int 2, .ref 11]) rfl (by rw [hq 0] <;> rfl) ?_
  refine mB hT 19 rfl ?_
  refine mB hT 19 rfl ?_
  refine mNf (lv2 := [(3, .int 4), (2, .int 2), (0, .ref 0), (1, .int 1)]) (st2 := [.long (ta 4), .int 4, .ref 11]) rfl rfl ?_
  refine mB hT 1 rfl ?_
  refine mWd (w2 := (MW 3 vs wo u h bo ta (up (up (up (up (up (tsM 3 ta 1 hh) 0 (ta 0)) 1 (ta 1)) 2 (hh 0)) 3 (ta 3)) 4 (ta 4)) (up (up ro 0 (rr 0)) 1 (rr 1)) ot Bm bk)) rfl ?_
  refine mB hT 18 rfl ?_
  refine mB hT 32 rfl ?_
  refine mNf (lv2 := [(3, .int 6), (2, .int 2), (0, .ref 0), (1, .int 1)]) (st2 := [.long (hh 1), .int 6, .ref 11]) rfl (by rw [hq 1] <;> rfl) ?_
  refine mB hT 19 rfl ?_
  refine mB hT 1 rfl ?_
  refine mWd (w2 := (MW 3 vs wo u h bo ta (up (up (up (up (up (up (up (up (tsM 3 ta 1 hh) 0 (ta 0)) 1 (ta 1)) 2 (hh 0)) 3 (ta 3)) 4 (ta 4)) 5 (ta 5)) 6 (hh 1)) 7 (ta 7)) (up (up ro 0 (rr 0)) 1 (rr 1)) ot Bm bk)) rfl ?_
  refine mB hT 18 rfl ?_
  refine mNf (lv2 := [(3, .int 8), (2, .int 2), (0, .ref 0), (1, .int 1)]) (st2 := [.long (ta 8), .int 8, .ref 11]) rfl rfl ?_
  refine mB hT 19 rfl ?_
  refine mB hT 32 rfl ?_
  refine mNf (lv2 := [(3, .int 10), (2, .int 2), (0, .ref 0), (1, .int 1)]) (st2 := [.long (hh 2), .int 10, .ref 11]) rfl (by rw [hq 2] <;> rfl) ?_
  refine mB hT 1 rfl ?_
  refine mWd (w2 := (MW 3 vs wo u h bo ta (up (up (up (up (up (up (up (up (up (up (up (tsM 3 ta 1 hh) 0 (ta 0)) 1 (ta 1)) 2 (hh 0)) 3 (ta 3)) 4 (ta 4)) 5 (ta 5)) 6 (hh 1)) 7 (ta 7)) 8 (ta 8)) 9 (ta 9)) 10 (hh 2)) (up (up ro 0 (rr 0)) 1 (rr 1)) ot Bm bk)) rfl ?_
  refine mB hT 18 rfl ?_
  refine mB hT 19 rfl ?_
  refine mNf (lv2 := [(3, .int 12), (2, .int 2), (0, .ref 0), (1, .int 1)]) (st2 := [.long (ta 12), .int 12, .ref 11]) rfl rfl ?_
  refine mB hT 19 rfl ?_
  refine mB hT 1 rfl ?_
  refine mWd (w2 := (MW 3 vs wo u h bo ta (up (up (up (up (up (up (up (up (up (up (up (up (up (up (tsM 3 ta 1 hh) 0 (ta 0)) 1 (ta 1)) 2 (hh 0)) 3 (ta 3)) 4 (ta 4)) 5 (ta 5)) 6 (hh 1)) 7 (ta 7)) 8 (ta 8)) 9 (ta 9)) 10 (hh 2)) 11 (ta 11)) 12 (ta 12)) 13 (ta 13)) (up (up ro 0 (rr 0)) 1 (rr 1)) ot Bm bk)) rfl ?_
  refine mB hT 20 rfl ?_
  refine mNf (lv2 := [(3, .int 14), (2, .int 2), (0, .ref 0), (1, .int 1)]) (st2 := [.long 0, .int 14, .ref 11]) rfl rfl ?_
  refine mB hT 19 rfl ?_
  refine mB hT 14 rfl ?_
  refine mIf (fun _ => ?_) (fun hn => absurd (lc_ge.mpr (Int64.not_lt.mp hs)) hn)
  refine mNf (lv2 := [(3, .int 16), (2, .int 2), (0, .ref 0), (1, .int 1)]) (st2 := [.int 2, .ref 12]) rfl rfl ?_
  refine mB hT 1 rfl ?_
  refine mWd (w2 := (MW 3 vs wo u h bo ta (up (up (up (up (up (up (up (up (up (up (up (up (up (up (up (up (tsM 3 ta 1 hh) 0 (ta 0)) 1 (ta 1)) 2 (hh 0)) 3 (ta 3)) 4 (ta 4)) 5 (ta 5)) 6 (hh 1)) 7 (ta 7)) 8 (ta 8)) 9 (ta 9)) 10 (hh 2)) 11 (ta 11)) 12 (ta 12)) 13 (ta 13)) 14 0) 15 (ta 15)) (up (up ro 0 (rr 0)) 1 (rr 1)) ot Bm bk)) rfl ?_
  refine mWd (w2 := (MW 3 vs wo u h bo ta (tsM 3 ta 2 hh) (up (up ro 0 (rr 0)) 1 (rr 1)) ot Bm bk)) rfl ?_
  refine hC.2 _ 0 [] _ _ _ _ _ (m_det) rfl rfl (Nat.le_of_ble_eq_true rfl) rfl ?_
  refine mNf (lv2 := [(3, .int 16), (2, .int 2), (0, .ref 0), (1, .int 1)]) (st2 := [.long (rr 2), .int 2, .ref 12]) rfl (by rw [hrr 2] <;> rfl) ?_
  refine mB hT 24 rfl ?_
  refine mNf (lv2 := [(3, .int 0), (2, .int 3), (0, .ref 0), (1, .int 1)]) (st2 := [.long (ta 0), .int 0, .ref 11]) rfl rfl ?_
  refine mB hT 19 rfl ?_
  refine mB hT 1 rfl ?_
  refine mWd (w2 := (MW 3 vs wo u h bo ta (up (up (tsM 3 ta 2 hh) 0 (ta 0)) 1 (ta 1)) (up (up (up ro 0 (rr 0)) 1 (rr 1)) 2 (rr 2)) ot Bm bk)) rfl ?_
  refine mB hT 18 rfl ?_
  refine mNf (lv2 := [(3, .int 2), (2, .int 3), (0, .ref 0), (1, .int 1)]) (st2 := [.long (ta 2), .int 2, .ref 11]) rfl rfl ?_
  refine mB hT 32 rfl ?_
  refine mNf (lv2 := [(3, .int 3), (2, .int 3), (0, .ref 0), (1, .int 1)]) (st2 := [.long (hh 0), .int 3, .ref 11]) rfl (by rw [hq 0] <;> rfl) ?_
  refine mB hT 19 rfl ?_
  refine mB hT 1 rfl ?_
  refine mWd (w2 := (MW 3 vs wo u h bo ta (up (up (up (up (up (tsM 3 ta 2 hh) 0 (ta 0)) 1 (ta 1)) 2 (ta 2)) 3 (hh 0)) 4 (ta 4)) (up (up (up ro 0 (rr 0)) 1 (rr 1)) 2 (rr 2)) ot Bm bk)) rfl ?_
  refine mB hT 18 rfl ?_
  refine mNf (lv2 := [(3, .int 5), (2, .int 3), (0, .ref 0), (1, .int 1)]) (st2 := [.long (ta 5), .int 5, .ref 11]) rfl rfl ?_
  refine mB hT 19 rfl ?_
  refine mB hT 32 rfl ?_
  refine mNf (lv2 := [(3, .int 7), (2, .int 3), (0, .ref 0), (1, .int 1)]) (st2 := [.long (hh 1), .int 7, .ref 11]) rfl (by rw [hq 1] <;> rfl) ?_
  refine mB hT 1 rfl ?_
  refine mWd (w2 := (MW 3 vs wo u h bo ta (up (up (up (up (up (up (up (up (tsM 3 ta 2 hh) 0 (ta 0)) 1 (ta 1)) 2 (ta 2)) 3 (hh 0)) 4 (ta 4)) 5 (ta 5)) 6 (ta 6)) 7 (hh 1)) (up (up (up ro 0 (rr 0)) 1 (rr 1)) 2 (rr 2)) ot Bm bk)) rfl ?_
  refine mB hT 18 rfl ?_
  refine mB hT 19 rfl ?_
  refine mNf (lv2 := [(3, .int 9), (2, .int 3), (0, .ref 0), (1, .int 1)]) (st2 := [.long (ta 9), .int 9, .ref 11]) rfl rfl ?_
  refine mB hT 19 rfl ?_
  refine mB hT 1 rfl ?_
  refine mWd (w2 := (MW 3 vs wo u h bo ta (up (up (up (up (up (up (up (up (up (up (up (tsM 3 ta 2 hh) 0 (ta 0)) 1 (ta 1)) 2 (ta 2)) 3 (hh 0)) 4 (ta 4)) 5 (ta 5)) 6 (ta 6)) 7 (hh 1)) 8 (ta 8)) 9 (ta 9)) 10 (ta 10)) (up (up (up ro 0 (rr 0)) 1 (rr 1)) 2 (rr 2)) ot Bm bk)) rfl ?_
  refine mB hT 31 rfl ?_
  refine mNf (lv2 := [(3, .int 11), (2, .int 3), (0, .ref 0), (1, .int 1)]) (st2 := [.long (hh 2), .int 11, .ref 11]) rfl (by rw [hq 2] <;> rfl) ?_
  refine mB hT 19 rfl ?_
  refine mB hT 19 rfl ?_
  refine mNf (lv2 := [(3, .int 13), (2, .int 3), (0, .ref 0), (1, .int 1)]) (st2 := [.long (ta 13), .int 13, .ref 11]) rfl rfl ?_
  refine mB hT 1 rfl ?_
  refine mWd (w2 := (MW 3 vs wo u h bo ta (up (up (up (up (up (up (up (up (up (up (up (up (up (up (tsM 3 ta 2 hh) 0 (ta 0)) 1 (ta 1)) 2 (ta 2)) 3 (hh 0)) 4 (ta 4)) 5 (ta 5)) 6 (ta 6)) 7 (hh 1)) 8 (ta 8)) 9 (ta 9)) 10 (ta 10)) 11 (hh 2)) 12 (ta 12)) 13 (ta 13)) (up (up (up ro 0 (rr 0)) 1 (rr 1)) 2 (rr 2)) ot Bm bk)) rfl ?_
  refine mB hT 18 rfl ?_
  refine mB hT 21 rfl ?_
  refine mNf (lv2 := [(3, .int 15), (2, .int 3), (0, .ref 0), (1, .int 1)]) (st2 := [.long 0, .int 15, .ref 11]) rfl rfl ?_
  refine mB hT 14 rfl ?_
  refine mIf (fun _ => ?_) (fun hn => absurd (lc_ge.mpr (Int64.not_lt.mp hs)) hn)
  refine mB hT 1 rfl ?_
  refine mWd (w2 := (MW 3 vs wo u h bo ta (up (up (up (up (up (up (up (up (up (up (up (up (up (up (up (up (tsM 3 ta 2 hh) 0 (ta 0)) 1 (ta 1)) 2 (ta 2)) 3 (hh 0)) 4 (ta 4)) 5 (ta 5)) 6 (ta 6)) 7 (hh 1)) 8 (ta 8)) 9 (ta 9)) 10 (ta 10)) 11 (hh 2)) 12 (ta 12)) 13 (ta 13)) 14 (ta 14)) 15 0) (up (up (up ro 0 (rr 0)) 1 (rr 1)) 2 (rr 2)) ot Bm bk)) rfl ?_
  refine mWd (w2 := (MW 3 vs wo u h bo ta (tsM 3 ta 3 hh) (up (up (up ro 0 (rr 0)) 1 (rr 1)) 2 (rr 2)) ot Bm bk)) rfl ?_
  refine hC.2 _ 0 [] _ _ _ _ _ (m_det) rfl rfl (Nat.le_of_ble_eq_true rfl) rfl ?_
  refine mNf (lv2 := [(3, .int 16), (2, .int 3), (0, .ref 0), (1, .int 1)]) (st2 := [.long (rr 3), .int 3, .ref 12]) rfl (by rw [hrr 3] <;> rfl) ?_
  refine mB hT 6 rfl ?_
  exact hR _ (by decide) _ _ _ rfl rfl
set_option maxRecDepth 20000 in
theorem m_solve_3_1n {vs : Int32} {wo un h : Int64} {bo : Nat → Int32} {ta tr ro ot : Nat → Int64} {Bm : Nat → Nat → Nat → Int32} {bk : Nat → Nat → Int32} {u : Int64} {hh rr : Nat → Int64} (hs : wo < 0) (hu : u = -wo) (hq : ∀ j : Nat, hh j = (bk 1 j).toInt64) (hrr : ∀ i : Nat, rr i = -(dtM (tsM 3 ta i hh))) : KX3_solve l D ca ad [.ref 0, .int 1] (MW 3 vs wo un h bo ta tr ro ot Bm bk) none (MW 3 vs wo u h bo ta (tsM 3 ta 3 hh) rr ot Bm bk) := by
  refine PX3_solve (Nat.le_of_ble_eq_true rfl) ?_
  intro G hT hC hR
  refine mB hT 6 rfl ?_
  refine mIf (fun hp => absurd hp (fun q => Int64.not_lt.mpr (lc_ge.mp q) hs)) (fun _ => ?_)
  refine mB hT 4 rfl ?_
  refine mNf (lv2 := [(0, .ref 0), (1, .int 1)]) (st2 := [.long u, .ref 0]) rfl (by rw [hu] <;> rfl) ?_
  refine mB hT 37 rfl ?_
  refine mNf (lv2 := [(3, .int 0), (2, .int 0), (0, .ref 0), (1, .int 1)]) (st2 := [.long (hh 0), .int 0, .ref 11]) rfl (by rw [hq 0] <;> rfl) ?_
  refine mB hT 19 rfl ?_
  refine mB hT 1 rfl ?_
  refine mWd (w2 := (MW 3 vs wo u h bo ta (up (up tr 0 (hh 0)) 1 (ta 1)) ro ot Bm bk)) rfl ?_
  refine mB hT 18 rfl ?_
  refine mNf (lv2 := [(3, .int 2), (2, .int 0), (0, .ref 0), (1, .int 1)]) (st2 := [.long (ta 2), .int 2, .ref 11]) rfl rfl ?_
  refine mB hT 19 rfl ?_
  refine mB hT 32 rfl ?_
  refine mNf (lv2 := [(3, .int 4), (2, .int 0), (0, .ref 0), (1, .int 1)]) (st2 := [.long (hh 1), .int 4, .ref 11]) rfl (by rw [hq 1] <;> rfl) ?_
  refine mB hT 1 rfl ?_
  refine mWd (w2 := (MW 3 vs wo u h bo ta (up (up (up (up (up tr 0 (hh 0)) 1 (ta 1)) 2 (ta 2)) 3 (ta 3)) 4 (hh 1)) ro ot Bm bk)) rfl ?_
  refine mB hT 18 rfl ?_
  refine mB hT 19 rfl ?_
  refine mNf (lv2 := [(3, .int 6), (2, .int 0), (0, .ref 0), (1, .int 1)]) (st2 := [.long (ta 6), .int 6, .ref 11]) rfl rfl ?_
  refine mB hT 19 rfl ?_
  refine mB hT 1 rfl ?_
  refine mWd (w2 := (MW 3 vs wo u h bo ta (up (up (up (up (up (up (up (up tr 0 (hh 0)) 1 (ta 1)) 2 (ta 2)) 3 (ta 3)) 4 (hh 1)) 5 (ta 5)) 6 (ta 6)) 7 (ta 7)) ro ot Bm bk)) rfl ?_
  refine mB hT 31 rfl ?_
  refine mNf (lv2 := [(3, .int 8), (2, .int 0), (0, .ref 0), (1, .int 1)]) (st2 := [.long (hh 2), .int 8, .ref 11]) rfl (by rw [hq 2] <;> rfl) ?_
  refine mB hT 19 rfl ?_
  refine mB hT 19 rfl ?_
  refine mNf (lv2 := [(3, .int 10), (2, .int 0), (0, .ref 0), (1, .int 1)]) (st2 := [.long (ta 10), .int 10, .ref 11]) rfl rfl ?_
  refine mB hT 1 rfl ?_
  refine mWd (w2 := (MW 3 vs wo u h bo ta (up (up (up (up (up (up (up (up (up (up (up tr 0 (hh 0)) 1 (ta 1)) 2 (ta 2)) 3 (ta 3)) 4 (hh 1)) 5 (ta 5)) 6 (ta 6)) 7 (ta 7)) 8 (hh 2)) 9 (ta 9)) 10 (ta 10)) ro ot Bm bk)) rfl ?_
  refine mB hT 18 rfl ?_
  refine mB hT 21 rfl ?_
  refine mNf (lv2 := [(3, .int 12), (2, .int 0), (0, .ref 0), (1, .int 1)]) (st2 := [.long 0, .int 12, .ref 11]) rfl rfl ?_
  refine mB hT 19 rfl ?_
  refine mB hT 1 rfl ?_
  refine mWd (w2 := (MW 3 vs wo u h bo ta (up (up (up (up (up (up (up (up (up (up (up (up (up (up tr 0 (hh 0)) 1 (ta 1)) 2 (ta 2)) 3 (ta 3)) 4 (hh 1)) 5 (ta 5)) 6 (ta 6)) 7 (ta 7)) 8 (hh 2)) 9 (ta 9)) 10 (ta 10)) 11 (ta 11)) 12 0) 13 (ta 13)) ro ot Bm bk)) rfl ?_
  refine mB hT 18 rfl ?_
  refine mNf (lv2 := [(3, .int 14), (2, .int 0), (0, .ref 0), (1, .int 1)]) (st2 := [.long (ta 14), .int 14, .ref 11]) rfl rfl ?_
  refine mB hT 19 rfl ?_
  refine mB hT 14 rfl ?_
  refine mIf (fun hp => absurd hp (fun q => Int64.not_lt.mpr (lc_ge.mp q) hs)) (fun _ => ?_)
  refine mNf (lv2 := [(3, .int 16), (2, .int 0), (0, .ref 0), (1, .int 1)]) (st2 := [.int 0, .ref 12]) rfl rfl ?_
  refine mB hT 1 rfl ?_
  refine mWd (w2 := (MW 3 vs wo u h bo ta (up (up (up (up (up (up (up (up (up (up (up (up (up (up (up (up tr 0 (hh 0)) 1 (ta 1)) 2 (ta 2)) 3 (ta 3)) 4 (hh 1)) 5 (ta 5)) 6 (ta 6)) 7 (ta 7)) 8 (hh 2)) 9 (ta 9)) 10 (ta 10)) 11 (ta 11)) 12 0) 13 (ta 13)) 14 (ta 14)) 15 (ta 15)) ro ot Bm bk)) rfl ?_
  refine mWd (w2 := (MW 3 vs wo u h bo ta (tsM 3 ta 0 hh) ro ot Bm bk)) rfl ?_
  refine hC.1 _ 0 [] _ _ _ _ _ (m_det) rfl rfl (Nat.le_of_ble_eq_true rfl) rfl ?_
  refine mB hT 2 rfl ?_
  refine mNf (lv2 := [(3, .int 16), (2, .int 0), (0, .ref 0), (1, .int 1)]) (st2 := [.long (rr 0), .int 0, .ref 12]) rfl (by rw [hrr 0] <;> rfl) ?_
  refine mB hT 24 rfl ?_
  refine mNf (lv2 := [(3, .int 0), (2, .int 1), (0, .ref 0), (1, .int 1)]) (st2 := [.long (ta 0), .int 0, .ref 11]) rfl rfl ?_
  refine mB hT 32 rfl ?_
  refine mNf (lv2 := [(3, .int 1), (2, .int 1), (0, .ref 0), (1, .int 1)]) (st2 := [.long (hh 0), .int 1, .ref 11]) rfl (by rw [hq 0] <;> rfl) ?_
  refine mB hT 1 rfl ?_
  refine mWd (w2 := (MW 3 vs wo u h bo ta (up (up (tsM 3 ta 0 hh) 0 (ta 0)) 1 (hh 0)) (up ro 0 (rr 0)) ot Bm bk)) rfl ?_
  refine mB hT 18 rfl ?_
  refine mB hT 19 rfl ?_
  refine mNf (lv2 := [(3, .int 3), (2, .int 1), (0, .ref 0), (1, .int 1)]) (st2 := [.long (ta 3), .int 3, .ref 11]) rfl rfl ?_
  refine mB hT 19 rfl ?_
  refine mB hT 1 rfl ?_
  refine mWd (w2 := (MW 3 vs wo u h bo ta (up (up (up (up (up (tsM 3 ta 0 hh) 0 (ta 0)) 1 (hh 0)) 2 (ta 2)) 3 (ta 3)) 4 (ta 4)) (up ro 0 (rr 0)) ot Bm bk)) rfl ?_
  refine mB hT 31 rfl ?_
  refine mNf (lv2 := [(3, .int 5), (2, .int 1), (0, .ref 0), (1, .int 1)]) (st2 := [.long (hh 1), .int 5, .ref 11]) rfl (by rw [hq 1] <;> rfl) ?_
  refine mB hT 19 rfl ?_
  refine mB hT 19 rfl ?_
  refine mNf (lv2 := [(3, .int 7), (2, .int 1), (0, .ref 0), (1, .int 1)]) (st2 := [.long (ta 7), .int 7, .ref 11]) rfl rfl ?_
  refine mB hT 1 rfl ?_
  refine mWd (w2 := (MW 3 vs wo u h bo ta (up (up (up (up (up (up (up (up (tsM 3 ta 0 hh) 0 (ta 0)) 1 (hh 0)) 2 (ta 2)) 3 (ta 3)) 4 (ta 4)) 5 (hh 1)) 6 (ta 6)) 7 (ta 7)) (up ro 0 (rr 0)) ot Bm bk)) rfl ?_
  refine mB hT 18 rfl ?_
  refine mB hT 32 rfl ?_
  refine mNf (lv2 := [(3, .int 9), (2, .int 1), (0, .ref 0), (1, .int 1)]) (st2 := [.long (hh 2), .int 9, .ref 11]) rfl (by rw [hq 2] <;> rfl) ?_
  refine mB hT 19 rfl ?_
  refine mB hT 1 rfl ?_
  refine mWd (w2 := (MW 3 vs wo u h bo ta (up (up (up (up (up (up (up (up (up (up (up (tsM 3 ta 0 hh) 0 (ta 0)) 1 (hh 0)) 2 (ta 2)) 3 (ta 3)) 4 (ta 4)) 5 (hh 1)) 6 (ta 6)) 7 (ta 7)) 8 (ta 8)) 9 (hh 2)) 10 (ta 10)) (up ro 0 (rr 0)) ot Bm bk)) rfl ?_
  refine mB hT 18 rfl ?_
  refine mNf (lv2 := [(3, .int 11), (2, .int 1), (0, .ref 0), (1, .int 1)]) (st2 := [.long (ta 11), .int 11, .ref 11]) rfl rfl ?_
  refine mB hT 19 rfl ?_
  refine mB hT 21 rfl ?_
  refine mNf (lv2 := [(3, .int 13), (2, .int 1), (0, .ref 0), (1, .int 1)]) (st2 := [.long 0, .int 13, .ref 11]) rfl rfl ?_
  refine mB hT 1 rfl ?_
  refine mWd (w2 := (MW 3 vs wo u h bo ta (up (up (up (up (up (up (up (up (up (up (up (up (up (up (tsM 3 ta 0 hh) 0 (ta 0)) 1 (hh 0)) 2 (ta 2)) 3 (ta 3)) 4 (ta 4)) 5 (hh 1)) 6 (ta 6)) 7 (ta 7)) 8 (ta 8)) 9 (hh 2)) 10 (ta 10)) 11 (ta 11)) 12 (ta 12)) 13 0) (up ro 0 (rr 0)) ot Bm bk)) rfl ?_
  refine mB hT 18 rfl ?_
  refine mB hT 19 rfl ?_
  refine mNf (lv2 := [(3, .int 15), (2, .int 1), (0, .ref 0), (1, .int 1)]) (st2 := [.long (ta 15), .int 15, .ref 11]) rfl rfl ?_
  refine mB hT 14 rfl ?_
  refine mIf (fun hp => absurd hp (fun q => Int64.not_lt.mpr (lc_ge.mp q) hs)) (fun _ => ?_)
  refine mB hT 1 rfl ?_
  refine mWd (w2 := (MW 3 vs wo u h bo ta (up (up (up (up (up (up (up (up (up (up (up (up (up (up (up (up (tsM 3 ta 0 hh) 0 (ta 0)) 1 (hh 0)) 2 (ta 2)) 3 (ta 3)) 4 (ta 4)) 5 (hh 1)) 6 (ta 6)) 7 (ta 7)) 8 (ta 8)) 9 (hh 2)) 10 (ta 10)) 11 (ta 11)) 12 (ta 12)) 13 0) 14 (ta 14)) 15 (ta 15)) (up ro 0 (rr 0)) ot Bm bk)) rfl ?_
  refine mWd (w2 := (MW 3 vs wo u h bo ta (tsM 3 ta 1 hh) (up ro 0 (rr 0)) ot Bm bk)) rfl ?_
  refine hC.1 _ 0 [] _ _ _ _ _ (m_det) rfl rfl (Nat.le_of_ble_eq_true rfl) rfl ?_
  refine mB hT 2 rfl ?_
  refine mNf (lv2 := [(3, .int 16), (2, .int 1), (0, .ref 0), (1, .int 1)]) (st2 := [.long (rr 1), .int 1, .ref 12]) rfl (by rw [hrr 1] <;> rfl) ?_
  refine mB hT 24 rfl ?_
  refine mNf (lv2 := [(3, .int 0), (2, .int 2), (0, .ref 0), (1, .int 1)]) (st2 := [.long (ta 0), .int 0, .ref 11]) rfl rfl ?_
  refine mB hT 19 rfl ?_
  refine mB hT 1 rfl ?_
  refine mWd (w2 := (MW 3 vs wo u h bo ta (up (up (tsM 3 ta 1 hh) 0 (ta 0)) 1 (ta 1)) (up (up ro 0 (rr 0)) 1 (rr 1)) ot Bm bk)) rfl ?_
  refine mB hT 31 rfl ?_
  refine mNf (lv2 := [(3, .int 2), (2, .int 2), (0, .ref 0), (1, .int 1)]) (st2 := [.long (hh 0), .int 2, .ref 11]) rfl (by rw [hq 0] <;> rfl) ?_
  refine mB hT 19 rfl ?_
  refine mB hT 19 rfl ?_
  refine mNf (lv2 := [(3, .int 4), (2, .int 2), (0, .ref 0), (1, .int 1)]) (st2 := [.long (ta 4), .int 4, .ref 11]) rfl rfl ?_
  refine mB hT 1 rfl ?_
  refine mWd (w2 := (MW 3 vs wo u h bo ta (up (up (up (up (up (tsM 3 ta 1 hh) 0 (ta 0)) 1 (ta 1)) 2 (hh 0)) 3 (ta 3)) 4 (ta 4)) (up (up ro 0 (rr 0)) 1 (rr 1)) ot Bm bk)) rfl ?_
  refine mB hT 18 rfl ?_
  refine mB hT 32 rfl ?_
  refine mNf (lv2 := [(3, .int 6), (2, .int 2), (0, .ref 0), (1, .int 1)]) (st2 := [.long (hh 1), .int 6, .ref 11]) rfl (by rw [hq 1] <;> rfl) ?_
  refine mB hT 19 rfl ?_
  refine mB hT 1 rfl ?_
  refine mWd (w2 := (MW 3 vs wo u h bo ta (up (up (up (up (up (up (up (up (tsM 3 ta 1 hh) 0 (ta 0)) 1 (ta 1)) 2 (hh 0)) 3 (ta 3)) 4 (ta 4)) 5 (ta 5)) 6 (hh 1)) 7 (ta 7)) (up (up ro 0 (rr 0)) 1 (rr 1)) ot Bm bk)) rfl ?_
  refine mB hT 18 rfl ?_
  refine mNf (lv2 := [(3, .int 8), (2, .int 2), (0, .ref 0), (1, .int 1)]) (st2 := [.long (ta 8), .int 8, .ref 11]) rfl rfl ?_
  refine mB hT 19 rfl ?_
  refine mB hT 32 rfl ?_
  refine mNf (lv2 := [(3, .int 10), (2, .int 2), (0, .ref 0), (1, .int 1)]) (st2 := [.long (hh 2), .int 10, .ref 11]) rfl (by rw [hq 2] <;> rfl) ?_
  refine mB hT 1 rfl ?_
  refine mWd (w2 := (MW 3 vs wo u h bo ta (up (up (up (up (up (up (up (up (up (up (up (tsM 3 ta 1 hh) 0 (ta 0)) 1 (ta 1)) 2 (hh 0)) 3 (ta 3)) 4 (ta 4)) 5 (ta 5)) 6 (hh 1)) 7 (ta 7)) 8 (ta 8)) 9 (ta 9)) 10 (hh 2)) (up (up ro 0 (rr 0)) 1 (rr 1)) ot Bm bk)) rfl ?_
  refine mB hT 18 rfl ?_
  refine mB hT 19 rfl ?_
  refine mNf (lv2 := [(3, .int 12), (2, .int 2), (0, .ref 0), (1, .int 1)]) (st2 := [.long (ta 12), .int 12, .ref 11]) rfl rfl ?_
  refine mB hT 19 rfl ?_
  refine mB hT 1 rfl ?_
  refine mWd (w2 := (MW 3 vs wo u h bo ta (up (up (up (up (up (up (up (up (up (up (up (up (up (up (tsM 3 ta 1 hh) 0 (ta 0)) 1 (ta 1)) 2 (hh 0)) 3 (ta 3)) 4 (ta 4)) 5 (ta 5)) 6 (hh 1)) 7 (ta 7)) 8 (ta 8)) 9 (ta 9)) 10 (hh 2)) 11 (ta 11)) 12 (ta 12)) 13 (ta 13)) (up (up ro 0 (rr 0)) 1 (rr 1)) ot Bm bk)) rfl ?_
  refine mB hT 20 rfl ?_
  refine mNf (lv2 := [(3, .int 14), (2, .int 2), (0, .ref 0), (1, .int 1)]) (st2 := [.long 0, .int 14, .ref 11]) rfl rfl ?_
  refine mB hT 19 rfl ?_
  refine mB hT 14 rfl ?_
  refine mIf (fun hp => absurd hp (fun q => Int64.not_lt.mpr (lc_ge.mp q) hs)) (fun _ => ?_)
  refine mNf (lv2 := [(3, .int 16), (2, .int 2), (0, .ref 0), (1, .int 1)]) (st2 := [.int 2, .ref 12]) rfl rfl ?_
  refine mB hT 1 rfl ?_
  refine mWd (w2 := (MW 3 vs wo u h bo ta (up (up (up (up (up (up (up (up (up (up (up (up (up (up (up (up (tsM 3 ta 1 hh) 0 (ta 0)) 1 (ta 1)) 2 (hh 0)) 3 (ta 3)) 4 (ta 4)) 5 (ta 5)) 6 (hh 1)) 7 (ta 7)) 8 (ta 8)) 9 (ta 9)) 10 (hh 2)) 11 (ta 11)) 12 (ta 12)) 13 (ta 13)) 14 0) 15 (ta 15)) (up (up ro 0 (rr 0)) 1 (rr 1)) ot Bm bk)) rfl ?_
  refine mWd (w2 := (MW 3 vs wo u h bo ta (tsM 3 ta 2 hh) (up (up ro 0 (rr 0)) 1 (rr 1)) ot Bm bk)) rfl ?_
  refine hC.1 _ 0 [] _ _ _ _ _ (m_det) rfl rfl (Nat.le_of_ble_eq_true rfl) rfl ?_
  refine mB hT 2 rfl ?_
  refine mNf (lv2 := [(3, .int 16), (2, .int 2), (0, .ref 0), (1, .int 1)]) (st2 := [.long (rr 2), .int 2, .ref 12]) rfl (by rw [hrr 2] <;> rfl) ?_
  refine mB hT 24 rfl ?_
  refine mNf (lv2 := [(3, .int 0), (2, .int 3), (0, .ref 0), (1, .int 1)]) (st2 := [.long (ta 0), .int 0, .ref 11]) rfl rfl ?_
  refine mB hT 19 rfl ?_
  refine mB hT 1 rfl ?_
  refine mWd (w2 := (MW 3 vs wo u h bo ta (up (up (tsM 3 ta 2 hh) 0 (ta 0)) 1 (ta 1)) (up (up (up ro 0 (rr 0)) 1 (rr 1)) 2 (rr 2)) ot Bm bk)) rfl ?_
  refine mB hT 18 rfl ?_
  refine mNf (lv2 := [(3, .int 2), (2, .int 3), (0, .ref 0), (1, .int 1)]) (st2 := [.long (ta 2), .int 2, .ref 11]) rfl rfl ?_
  refine mB hT 32 rfl ?_
  refine mNf (lv2 := [(3, .int 3), (2, .int 3), (0, .ref 0), (1, .int 1)]) (st2 := [.long (hh 0), .int 3, .ref 11]) rfl (by rw [hq 0] <;> rfl) ?_
  refine mB hT 19 rfl ?_
  refine mB hT 1 rfl ?_
  refine mWd (w2 := (MW 3 vs wo u h bo ta (up (up (up (up (up (tsM 3 ta 2 hh) 0 (ta 0)) 1 (ta 1)) 2 (ta 2)) 3 (hh 0)) 4 (ta 4)) (up (up (up ro 0 (rr 0)) 1 (rr 1)) 2 (rr 2)) ot Bm bk)) rfl ?_
  refine mB hT 18 rfl ?_
  refine mNf (lv2 := [(3, .int 5), (2, .int 3), (0, .ref 0), (1, .int 1)]) (st2 := [.long (ta 5), .int 5, .ref 11]) rfl rfl ?_
  refine mB hT 19 rfl ?_
  refine mB hT 32 rfl ?_
  refine mNf (lv2 := [(3, .int 7), (2, .int 3), (0, .ref 0), (1, .int 1)]) (st2 := [.long (hh 1), .int 7, .ref 11]) rfl (by rw [hq 1] <;> rfl) ?_
  refine mB hT 1 rfl ?_
  refine mWd (w2 := (MW 3 vs wo u h bo ta (up (up (up (up (up (up (up (up (tsM 3 ta 2 hh) 0 (ta 0)) 1 (ta 1)) 2 (ta 2)) 3 (hh 0)) 4 (ta 4)) 5 (ta 5)) 6 (ta 6)) 7 (hh 1)) (up (up (up ro 0 (rr 0)) 1 (rr 1)) 2 (rr 2)) ot Bm bk)) rfl ?_
  refine mB hT 18 rfl ?_
  refine mB hT 19 rfl ?_
  refine mNf (lv2 := [(3, .int 9), (2, .int 3), (0, .ref 0), (1, .int 1)]) (st2 := [.long (ta 9), .int 9, .ref 11]) rfl rfl ?_
  refine mB hT 19 rfl ?_
  refine mB hT 1 rfl ?_
  refine mWd (w2 := (MW 3 vs wo u h bo ta (up (up (up (up (up (up (up (up (up (up (up (tsM 3 ta 2 hh) 0 (ta 0)) 1 (ta 1)) 2 (ta 2)) 3 (hh 0)) 4 (ta 4)) 5 (ta 5)) 6 (ta 6)) 7 (hh 1)) 8 (ta 8)) 9 (ta 9)) 10 (ta 10)) (up (up (up ro 0 (rr 0)) 1 (rr 1)) 2 (rr 2)) ot Bm bk)) rfl ?_
  refine mB hT 31 rfl ?_
  refine mNf (lv2 := [(3, .int 11), (2, .int 3), (0, .ref 0), (1, .int 1)]) (st2 := [.long (hh 2), .int 11, .ref 11]) rfl (by rw [hq 2] <;> rfl) ?_
  refine mB hT 19 rfl ?_
  refine mB hT 19 rfl ?_
  refine mNf (lv2 := [(3, .int 13), (2, .int 3), (0, .ref 0), (1, .int 1)]) (st2 := [.long (ta 13), .int 13, .ref 11]) rfl rfl ?_
  refine mB hT 1 rfl ?_
  refine mWd (w2 := (MW 3 vs wo u h bo ta (up (up (up (up (up (up (up (up (up (up (up (up (up (up (tsM 3 ta 2 hh) 0 (ta 0)) 1 (ta 1)) 2 (ta 2)) 3 (hh 0)) 4 (ta 4)) 5 (ta 5)) 6 (ta 6)) 7 (hh 1)) 8 (ta 8)) 9 (ta 9)) 10 (ta 10)) 11 (hh 2)) 12 (ta 12)) 13 (ta 13)) (up (up (up ro 0 (rr 0)) 1 (rr 1)) 2 (rr 2)) ot Bm bk)) rfl ?_
  refine mB hT 18 rfl ?_
  refine mB hT 21 rfl ?_
  refine mNf (lv2 := [(3, .int 15), (2, .int 3), (0, .ref 0), (1, .int 1)]) (st2 := [.long 0, .int 15, .ref 11]) rfl rfl ?_
  refine mB hT 14 rfl ?_
  refine mIf (fun hp => absurd hp (fun q => Int64.not_lt.mpr (lc_ge.mp q) hs)) (fun _ => ?_)
  refine mB hT 1 rfl ?_
  refine mWd (w2 := (MW 3 vs wo u h bo ta (up (up (up (up (up (up (up (up (up (up (up (up (up (up (up (up (tsM 3 ta 2 hh) 0 (ta 0)) 1 (ta 1)) 2 (ta 2)) 3 (hh 0)) 4 (ta 4)) 5 (ta 5)) 6 (ta 6)) 7 (hh 1)) 8 (ta 8)) 9 (ta 9)) 10 (ta 10)) 11 (hh 2)) 12 (ta 12)) 13 (ta 13)) 14 (ta 14)) 15 0) (up (up (up ro 0 (rr 0)) 1 (rr 1)) 2 (rr 2)) ot Bm bk)) rfl ?_
  refine mWd (w2 := (MW 3 vs wo u h bo ta (tsM 3 ta 3 hh) (up (up (up ro 0 (rr 0)) 1 (rr 1)) 2 (rr 2)) ot Bm bk)) rfl ?_
  refine hC.1 _ 0 [] _ _ _ _ _ (m_det) rfl rfl (Nat.le_of_ble_eq_true rfl) rfl ?_
  refine mB hT 2 rfl ?_
  refine mNf (lv2 := [(3, .int 16), (2, .int 3), (0, .ref 0), (1, .int 1)]) (st2 := [.long (rr 3), .int 3, .ref 12]) rfl (by rw [hrr 3] <;> rfl) ?_
  refine mB hT 6 rfl ?_
  exact hR _ (by decide) _ _ _ rfl rfl
set_option maxRecDepth 20000 in
theorem m_solve_3_2p {vs : Int32} {wo un h : Int64} {bo : Nat → Int32} {ta tr ro ot : Nat → Int64} {Bm : Nat → Nat → Nat → Int32} {bk : Nat → Nat → Int32} {u : Int64} {hh rr : Nat → Int64} (hs : ¬ wo < 0) (hu : u = wo) (hq : ∀ j : Nat, hh j = (bk 2 j).toInt64) (hrr : ∀ i : Nat, rr i = dtM (tsM 3 ta i hh)) : KX3_solve l D ca ad [.ref 0, .int 2] (MW 3 vs wo un h bo ta tr ro ot Bm bk) none (MW 3 vs wo u h bo ta (tsM 3 ta 3 hh) rr ot Bm bk) := by
  refine PX3_solve (Nat.le_of_ble_eq_true rfl) ?_
  intro G hT hC hR
  refine mB hT 6 rfl ?_
  refine mIf (fun _ => ?_) (fun hn => absurd (lc_ge.mpr (Int64.not_lt.mp hs)) hn)
  refine mB hT 2 rfl ?_
  refine mNf (lv2 := [(0, .ref 0), (1, .int 2)]) (st2 := [.long u, .ref 0]) rfl (by rw [hu] <;> rfl) ?_
  refine mB hT 37 rfl ?_
  refine mNf (lv2 := [(3, .int 0), (2, .int 0), (0, .ref 0), (1, .int 2)]) (st2 := [.long (hh 0), .int 0, .ref 11]) rfl (by rw [hq 0] <;> rfl) ?_
  refine mB hT 19 rfl ?_
  refine mB hT 1 rfl ?_
  refine mWd (w2 := (MW 3 vs wo u h bo ta (up (up tr 0 (hh 0)) 1 (ta 1)) ro ot Bm bk)) rfl ?_
  refine mB hT 18 rfl ?_
  refine mNf (lv2 := [(3, .int 2), (2, .int 0), (0, .ref 0), (1, .int 2)]) (st2 := [.long (ta 2), .int 2, .ref 11]) rfl rfl ?_
  refine mB hT 19 rfl ?_
  refine mB hT 32 rfl ?_
  refine mNf (lv2 := [(3, .int 4), (2, .int 0), (0, .ref 0), (1, .int 2)]) (st2 := [.long (hh 1), .int 4, .ref 11]) rfl (by rw [hq 1] <;> rfl) ?_
  refine mB hT 1 rfl ?_
  refine mWd (w2 := (MW 3 vs wo u h bo ta (up (up (up (up (up tr 0 (hh 0)) 1 (ta 1)) 2 (ta 2)) 3 (ta 3)) 4 (hh 1)) ro ot Bm bk)) rfl ?_
  refine mB hT 18 rfl ?_
  refine mB hT 19 rfl ?_
  refine mNf (lv2 := [(3, .int 6), (2, .int 0), (0, .ref 0), (1, .int 2)]) (st2 := [.long (ta 6), .int 6, .ref 11]) rfl rfl ?_
  refine mB hT 19 rfl ?_
  refine mB hT 1 rfl ?_
  refine mWd (w2 := (MW 3 vs wo u h bo ta (up (up (up (up (up (up (up (up tr 0 (hh 0)) 1 (ta 1)) 2 (ta 2)) 3 (ta 3)) 4 (hh 1)) 5 (ta 5)) 6 (ta 6)) 7 (ta 7)) ro ot Bm bk)) rfl ?_
  refine mB hT 31 rfl ?_
  refine mNf (lv2 := [(3, .int 8), (2, .int 0), (0, .ref 0), (1, .int 2)]) (st2 := [.long (hh 2), .int 8, .ref 11]) rfl (by rw [hq 2] <;> rfl) ?_
  refine mB hT 19 rfl ?_
  refine mB hT 19 rfl ?_
  refine mNf (lv2 := [(3, .int 10), (2, .int 0), (0, .ref 0), (1, .int 2)]) (st2 := [.long (ta 10), .int 10, .ref 11]) rfl rfl ?_
  refine mB hT 1 rfl ?_
  refine mWd (w2 := (MW 3 vs wo u h bo ta (up (up (up (up (up (up (up (up (up (up (up tr 0 (hh 0)) 1 (ta 1)) 2 (ta 2)) 3 (ta 3)) 4 (hh 1)) 5 (ta 5)) 6 (ta 6)) 7 (ta 7)) 8 (hh 2)) 9 (ta 9)) 10 (ta 10)) ro ot Bm bk)) rfl ?_
  refine mB hT 18 rfl ?_
  refine mB hT 21 rfl ?_
  refine mNf (lv2 := [(3, .int 12), (2, .int 0), (0, .ref 0), (1, .int 2)]) (st2 := [.long 0, .int 12, .ref 11]) rfl rfl ?_
  refine mB hT 19 rfl ?_
  refine mB hT 1 rfl ?_
  refine mWd (w2 := (MW 3 vs wo u h bo ta (up (up (up (up (up (up (up (up (up (up (up (up (up (up tr 0 (hh 0)) 1 (ta 1)) 2 (ta 2)) 3 (ta 3)) 4 (hh 1)) 5 (ta 5)) 6 (ta 6)) 7 (ta 7)) 8 (hh 2)) 9 (ta 9)) 10 (ta 10)) 11 (ta 11)) 12 0) 13 (ta 13)) ro ot Bm bk)) rfl ?_
  refine mB hT 18 rfl ?_
  refine mNf (lv2 := [(3, .int 14), (2, .int 0), (0, .ref 0), (1, .int 2)]) (st2 := [.long (ta 14), .int 14, .ref 11]) rfl rfl ?_
  refine mB hT 19 rfl ?_
  refine mB hT 14 rfl ?_
  refine mIf (fun _ => ?_) (fun hn => absurd (lc_ge.mpr (Int64.not_lt.mp hs)) hn)
  refine mNf (lv2 := [(3, .int 16), (2, .int 0), (0, .ref 0), (1, .int 2)]) (st2 := [.int 0, .ref 12]) rfl rfl ?_
  refine mB hT 1 rfl ?_
  refine mWd (w2 := (MW 3 vs wo u h bo ta (up (up (up (up (up (up (up (up (up (up (up (up (up (up (up (up tr 0 (hh 0)) 1 (ta 1)) 2 (ta 2)) 3 (ta 3)) 4 (hh 1)) 5 (ta 5)) 6 (ta 6)) 7 (ta 7)) 8 (hh 2)) 9 (ta 9)) 10 (ta 10)) 11 (ta 11)) 12 0) 13 (ta 13)) 14 (ta 14)) 15 (ta 15)) ro ot Bm bk)) rfl ?_
  refine mWd (w2 := (MW 3 vs wo u h bo ta (tsM 3 ta 0 hh) ro ot Bm bk)) rfl ?_
  refine hC.2 _ 0 [] _ _ _ _ _ (m_det) rfl rfl (Nat.le_of_ble_eq_true rfl) rfl ?_
  refine mNf (lv2 := [(3, .int 16), (2, .int 0), (0, .ref 0), (1, .int 2)]) (st2 := [.long (rr 0), .int 0, .ref 12]) rfl (by rw [hrr 0] <;> rfl) ?_
  refine mB hT 24 rfl ?_
  refine mNf (lv2 := [(3, .int 0), (2, .int 1), (0, .ref 0), (1, .int 2)]) (st2 := [.long (ta 0), .int 0, .ref 11]) rfl rfl ?_
  refine mB hT 32 rfl ?_
  refine mNf (lv2 := [(3, .int 1), (2, .int 1), (0, .ref 0), (1, .int 2)]) (st2 := [.long (hh 0), .int 1, .ref 11]) rfl (by rw [hq 0] <;> rfl) ?_
  refine mB hT 1 rfl ?_
  refine mWd (w2 := (MW 3 vs wo u h bo ta (up (up (tsM 3 ta 0 hh) 0 (ta 0)) 1 (hh 0)) (up ro 0 (rr 0)) ot Bm bk)) rfl ?_
  refine mB hT 18 rfl ?_
  refine mB hT 19 rfl ?_
  refine mNf (lv2 := [(3, .int 3), (2, .int 1), (0, .ref 0), (1, .int 2)]) (st2 := [.long (ta 3), .int 3, .ref 11]) rfl rfl ?_
  refine mB hT 19 rfl ?_
  refine mB hT 1 rfl ?_
  refine mWd (w2 := (MW 3 vs wo u h bo ta (up (up (up (up (up (tsM 3 ta 0 hh) 0 (ta 0)) 1 (hh 0)) 2 (ta 2)) 3 (ta 3)) 4 (ta 4)) (up ro 0 (rr 0)) ot Bm bk)) rfl ?_
  refine mB hT 31 rfl ?_
  refine mNf (lv2 := [(3, .int 5), (2, .int 1), (0, .ref 0), (1, .int 2)]) (st2 := [.long (hh 1), .int 5, .ref 11]) rfl (by rw [hq 1] <;> rfl) ?_
  refine mB hT 19 rfl ?_
  refine mB hT 19 rfl ?_
  refine mNf (lv2 := [(3, .int 7), (2, .int 1), (0, .ref 0), (1, .int 2)]) (st2 := [.long (ta 7), .int 7, .ref 11]) rfl rfl ?_
  refine mB hT 1 rfl ?_
  refine mWd (w2 := (MW 3 vs wo u h bo ta (up (up (up (up (up (up (up (up (tsM 3 ta 0 hh) 0 (ta 0)) 1 (hh 0)) 2 (ta 2)) 3 (ta 3)) 4 (ta 4)) 5 (hh 1)) 6 (ta 6)) 7 (ta 7)) (up ro 0 (rr 0)) ot Bm bk)) rfl ?_
  refine mB hT 18 rfl ?_
  refine mB hT 32 rfl ?_
  refine mNf (lv2 := [(3, .int 9), (2, .int 1), (0, .ref 0), (1, .int 2)]) (st2 := [.long (hh 2), .int 9, .ref 11]) rfl (by rw [hq 2] <;> rfl) ?_
  refine mB hT 19 rfl ?_
  refine mB hT 1 rfl ?_
  refine mWd (w2 := (MW 3 vs wo u h bo ta (up (up (up (up (up (up (up (up (up (up (up (tsM 3 ta 0 hh) 0 (ta 0)) 1 (hh 0)) 2 (ta 2)) 3 (ta 3)) 4 (ta 4)) 5 (hh 1)) 6 (ta 6)) 7 (ta 7)) 8 (ta 8)) 9 (hh 2)) 10 (ta 10)) (up ro 0 (rr 0)) ot Bm bk)) rfl ?_
  refine mB hT 18 rfl ?_
  refine mNf (lv2 := [(3, .int 11), (2, .int 1), (0, .ref 0), (1, .int 2)]) (st2 := [.long (ta 11), .int 11, .ref 11]) rfl rfl ?_
  refine mB hT 19 rfl ?_
  refine mB hT 21 rfl ?_
  refine mNf (lv2 := [(3, .int 13), (2, .int 1), (0, .ref 0), (1, .int 2)]) (st2 := [.long 0, .int 13, .ref 11]) rfl rfl ?_
  refine mB hT 1 rfl ?_
  refine mWd (w2 := (MW 3 vs wo u h bo ta (up (up (up (up (up (up (up (up (up (up (up (up (up (up (tsM 3 ta 0 hh) 0 (ta 0)) 1 (hh 0)) 2 (ta 2)) 3 (ta 3)) 4 (ta 4)) 5 (hh 1)) 6 (ta 6)) 7 (ta 7)) 8 (ta 8)) 9 (hh 2)) 10 (ta 10)) 11 (ta 11)) 12 (ta 12)) 13 0) (up ro 0 (rr 0)) ot Bm bk)) rfl ?_
  refine mB hT 18 rfl ?_
  refine mB hT 19 rfl ?_
  refine mNf (lv2 := [(3, .int 15), (2, .int 1), (0, .ref 0), (1, .int 2)]) (st2 := [.long (ta 15), .int 15, .ref 11]) rfl rfl ?_
  refine mB hT 14 rfl ?_
  refine mIf (fun _ => ?_) (fun hn => absurd (lc_ge.mpr (Int64.not_lt.mp hs)) hn)
  refine mB hT 1 rfl ?_
  refine mWd (w2 := (MW 3 vs wo u h bo ta (up (up (up (up (up (up (up (up (up (up (up (up (up (up (up (up (tsM 3 ta 0 hh) 0 (ta 0)) 1 (hh 0)) 2 (ta 2)) 3 (ta 3)) 4 (ta 4)) 5 (hh 1)) 6 (ta 6)) 7 (ta 7)) 8 (ta 8)) 9 (hh 2)) 10 (ta 10)) 11 (ta 11)) 12 (ta 12)) 13 0) 14 (ta 14)) 15 (ta 15)) (up ro 0 (rr 0)) ot Bm bk)) rfl ?_
  refine mWd (w2 := (MW 3 vs wo u h bo ta (tsM 3 ta 1 hh) (up ro 0 (rr 0)) ot Bm bk)) rfl ?_
  refine hC.2 _ 0 [] _ _ _ _ _ (m_det) rfl rfl (Nat.le_of_ble_eq_true rfl) rfl ?_
  refine mNf (lv2 := [(3, .int 16), (2, .int 1), (0, .ref 0), (1, .int 2)]) (st2 := [.long (rr 1), .int 1, .ref 12]) rfl (by rw [hrr 1] <;> rfl) ?_
  refine mB hT 24 rfl ?_
  refine mNf (lv2 := [(3, .int 0), (2, .int 2), (0, .ref 0), (1, .int 2)]) (st2 := [.long (ta 0), .int 0, .ref 11]) rfl rfl ?_
  refine mB hT 19 rfl ?_
  refine mB hT 1 rfl ?_
  refine mWd (w2 := (MW 3 vs wo u h bo ta (up (up (tsM 3 ta 1 hh) 0 (ta 0)) 1 (ta 1)) (up (up ro 0 (rr 0)) 1 (rr 1)) ot Bm bk)) rfl ?_
  refine mB hT 31 rfl ?_
  refine mNf (lv2 := [(3, .int 2), (2, .int 2), (0, .ref 0), (1, .int 2)]) (st2 := [.long (hh 0), .int 2, .ref 11]) rfl (by rw [hq 0] <;> rfl) ?_
  refine mB hT 19 rfl ?_
  refine mB hT 19 rfl ?_
  refine mNf (lv2 := [(3, .int 4), (2, .int 2), (0, .ref 0), (1, .int 2)]) (st2 := [.long (ta 4), .int 4, .ref 11]) rfl rfl ?_
  refine mB hT 1 rfl ?_
  refine mWd (w2 := (MW 3 vs wo u h bo ta (up (up (up (up (up (tsM 3 ta 1 hh) 0 (ta 0)) 1 (ta 1)) 2 (hh 0)) 3 (ta 3)) 4 (ta 4)) (up (up ro 0 (rr 0)) 1 (rr 1)) ot Bm bk)) rfl ?_
  refine mB hT 18 rfl ?_
  refine mB hT 32 rfl ?_
  refine mNf (lv2 := [(3, .int 6), (2, .int 2), (0, .ref 0), (1, .int 2)]) (st2 := [.long (hh 1), .int 6, .ref 11]) rfl (by rw [hq 1] <;> rfl) ?_
  refine mB hT 19 rfl ?_
  refine mB hT 1 rfl ?_
  refine mWd (w2 := (MW 3 vs wo u h bo ta (up (up (up (up (up (up (up (up (tsM 3 ta 1 hh) 0 (ta 0)) 1 (ta 1)) 2 (hh 0)) 3 (ta 3)) 4 (ta 4)) 5 (ta 5)) 6 (hh 1)) 7 (ta 7)) (up (up ro 0 (rr 0)) 1 (rr 1)) ot Bm bk)) rfl ?_
  refine mB hT 18 rfl ?_
  refine mNf (lv2 := [(3, .int 8), (2, .int 2), (0, .ref 0), (1, .int 2)]) (st2 := [.long (ta 8), .int 8, .ref 11]) rfl rfl ?_
  refine mB hT 19 rfl ?_
  refine mB hT 32 rfl ?_
  refine mNf (lv2 := [(3, .int 10), (2, .int 2), (0, .ref 0), (1, .int 2)]) (st2 := [.long (hh 2), .int 10, .ref 11]) rfl (by rw [hq 2] <;> rfl) ?_
  refine mB hT 1 rfl ?_
  refine mWd (w2 := (MW 3 vs wo u h bo ta (up (up (up (up (up (up (up (up (up (up (up (tsM 3 ta 1 hh) 0 (ta 0)) 1 (ta 1)) 2 (hh 0)) 3 (ta 3)) 4 (ta 4)) 5 (ta 5)) 6 (hh 1)) 7 (ta 7)) 8 (ta 8)) 9 (ta 9)) 10 (hh 2)) (up (up ro 0 (rr 0)) 1 (rr 1)) ot Bm bk)) rfl ?_
  refine mB hT 18 rfl ?_
  refine mB hT 19 rfl ?_
  refine mNf (lv2 := [(3, .int 12), (2, .int 2), (0, .ref 0), (1, .int 2)]) (st2 := [.long (ta 12), .int 12, .ref 11]) rfl rfl ?_
  refine mB hT 19 rfl ?_
  refine mB hT 1 rfl ?_
  refine mWd (w2 := (MW 3 vs wo u h bo ta (up (up (up (up (up (up (up (up (up (up (up (up (up (up (tsM 3 ta 1 hh) 0 (ta 0)) 1 (ta 1)) 2 (hh 0)) 3 (ta 3)) 4 (ta 4)) 5 (ta 5)) 6 (hh 1)) 7 (ta 7)) 8 (ta 8)) 9 (ta 9)) 10 (hh 2)) 11 (ta 11)) 12 (ta 12)) 13 (ta 13)) (up (up ro 0 (rr 0)) 1 (rr 1)) ot Bm bk)) rfl ?_
  refine mB hT 20 rfl ?_
  refine mNf (lv2 := [(3, .int 14), (2, .int 2), (0, .ref 0), (1, .int 2)]) (st2 := [.long 0, .int 14, .ref 11]) rfl rfl ?_
  refine mB hT 19 rfl ?_
  refine mB hT 14 rfl ?_
  refine mIf (fun _ => ?_) (fun hn => absurd (lc_ge.mpr (Int64.not_lt.mp hs)) hn)
  refine mNf (lv2 := [(3, .int 16), (2, .int 2), (0, .ref 0), (1, .int 2)]) (st2 := [.int 2, .ref 12]) rfl rfl ?_
  refine mB hT 1 rfl ?_
  refine mWd (w2 := (MW 3 vs wo u h bo ta (up (up (up (up (up (up (up (up (up (up (up (up (up (up (up (up (tsM 3 ta 1 hh) 0 (ta 0)) 1 (ta 1)) 2 (hh 0)) 3 (ta 3)) 4 (ta 4)) 5 (ta 5)) 6 (hh 1)) 7 (ta 7)) 8 (ta 8)) 9 (ta 9)) 10 (hh 2)) 11 (ta 11)) 12 (ta 12)) 13 (ta 13)) 14 0) 15 (ta 15)) (up (up ro 0 (rr 0)) 1 (rr 1)) ot Bm bk)) rfl ?_
  refine mWd (w2 := (MW 3 vs wo u h bo ta (tsM 3 ta 2 hh) (up (up ro 0 (rr 0)) 1 (rr 1)) ot Bm bk)) rfl ?_
  refine hC.2 _ 0 [] _ _ _ _ _ (m_det) rfl rfl (Nat.le_of_ble_eq_true rfl) rfl ?_
  refine mNf (lv2 := [(3, .int 16), (2, .int 2), (0, .ref 0), (1, .int 2)]) (st2 := [.long (rr 2), .int 2, .ref 12]) rfl (by rw [hrr 2] <;> rfl) ?_
  refine mB hT 24 rfl ?_
  refine mNf (lv2 := [(3, .int 0), (2, .int 3), (0, .ref 0), (1, .int 2)]) (st2 := [.long (ta 0), .int 0, .ref 11]) rfl rfl ?_
  refine mB hT 19 rfl ?_
  refine mB hT 1 rfl ?_
  refine mWd (w2 := (MW 3 vs wo u h bo ta (up (up (tsM 3 ta 2 hh) 0 (ta 0)) 1 (ta 1)) (up (up (up ro 0 (rr 0)) 1 (rr 1)) 2 (rr 2)) ot Bm bk)) rfl ?_
  refine mB hT 18 rfl ?_
  refine mNf (lv2 := [(3, .int 2), (2, .int 3), (0, .ref 0), (1, .int 2)]) (st2 := [.long (ta 2), .int 2, .ref 11]) rfl rfl ?_
  refine mB hT 32 rfl ?_
  refine mNf (lv2 := [(3, .int 3), (2, .int 3), (0, .ref 0), (1, .int 2)]) (st2 := [.long (hh 0), .int 3, .ref 11]) rfl (by rw [hq 0] <;> rfl) ?_
  refine mB hT 19 rfl ?_
  refine mB hT 1 rfl ?_
  refine mWd (w2 := (MW 3 vs wo u h bo ta (up (up (up (up (up (tsM 3 ta 2 hh) 0 (ta 0)) 1 (ta 1)) 2 (ta 2)) 3 (hh 0)) 4 (ta 4)) (up (up (up ro 0 (rr 0)) 1 (rr 1)) 2 (rr 2)) ot Bm bk)) rfl ?_
  refine mB hT 18 rfl ?_
  refine mNf (lv2 := [(3, .int 5), (2, .int 3), (0, .ref 0), (1, .int 2)]) (st2 := [.long (ta 5), .int 5, .ref 11]) rfl rfl ?_
  refine mB hT 19 rfl ?_
  refine mB hT 32 rfl ?_
  refine mNf (lv2 := [(3, .int 7), (2, .int 3), (0, .ref 0), (1, .int 2)]) (st2 := [.long (hh 1), .int 7, .ref 11]) rfl (by rw [hq 1] <;> rfl) ?_
  refine mB hT 1 rfl ?_
  refine mWd (w2 := (MW 3 vs wo u h bo ta (up (up (up (up (up (up (up (up (tsM 3 ta 2 hh) 0 (ta 0)) 1 (ta 1)) 2 (ta 2)) 3 (hh 0)) 4 (ta 4)) 5 (ta 5)) 6 (ta 6)) 7 (hh 1)) (up (up (up ro 0 (rr 0)) 1 (rr 1)) 2 (rr 2)) ot Bm bk)) rfl ?_
  refine mB hT 18 rfl ?_
  refine mB hT 19 rfl ?_
  refine mNf (lv2 := [(3, .int 9), (2, .int 3), (0, .ref 0), (1, .int 2)]) (st2 := [.long (ta 9), .int 9, .ref 11]) rfl rfl ?_
  refine mB hT 19 rfl ?_
  refine mB hT 1 rfl ?_
  refine mWd (w2 := (MW 3 vs wo u h bo ta (up (up (up (up (up (up (up (up (up (up (up (tsM 3 ta 2 hh) 0 (ta 0)) 1 (ta 1)) 2 (ta 2)) 3 (hh 0)) 4 (ta 4)) 5 (ta 5)) 6 (ta 6)) 7 (hh 1)) 8 (ta 8)) 9 (ta 9)) 10 (ta 10)) (up (up (up ro 0 (rr 0)) 1 (rr 1)) 2 (rr 2)) ot Bm bk)) rfl ?_
  refine mB hT 31 rfl ?_
  refine mNf (lv2 := [(3, .int 11), (2, .int 3), (0, .ref 0), (1, .int 2)]) (st2 := [.long (hh 2), .int 11, .ref 11]) rfl (by rw [hq 2] <;> rfl) ?_
  refine mB hT 19 rfl ?_
  refine mB hT 19 rfl ?_
  refine mNf (lv2 := [(3, .int 13), (2, .int 3), (0, .ref 0), (1, .int 2)]) (st2 := [.long (ta 13), .int 13, .ref 11]) rfl rfl ?_
  refine mB hT 1 rfl ?_
  refine mWd (w2 := (MW 3 vs wo u h bo ta (up (up (up (up (up (up (up (up (up (up (up (up (up (up (tsM 3 ta 2 hh) 0 (ta 0)) 1 (ta 1)) 2 (ta 2)) 3 (hh 0)) 4 (ta 4)) 5 (ta 5)) 6 (ta 6)) 7 (hh 1)) 8 (ta 8)) 9 (ta 9)) 10 (ta 10)) 11 (hh 2)) 12 (ta 12)) 13 (ta 13)) (up (up (up ro 0 (rr 0)) 1 (rr 1)) 2 (rr 2)) ot Bm bk)) rfl ?_
  refine mB hT 18 rfl ?_
  refine mB hT 21 rfl ?_
  refine mNf (lv2 := [(3, .int 15), (2, .int 3), (0, .ref 0), (1, .int 2)]) (st2 := [.long 0, .int 15, .ref 11]) rfl rfl ?_
  refine mB hT 14 rfl ?_
  refine mIf (fun _ => ?_) (fun hn => absurd (lc_ge.mpr (Int64.not_lt.mp hs)) hn)
  refine mB hT 1 rfl ?_
  refine mWd (w2 := (MW 3 vs wo u h bo ta (up (up (up (up (up (up (up (up (up (up (up (up (up (up (up (up (tsM 3 ta 2 hh) 0 (ta 0)) 1 (ta 1)) 2 (ta 2)) 3 (hh 0)) 4 (ta 4)) 5 (ta 5)) 6 (ta 6)) 7 (hh 1)) 8 (ta 8)) 9 (ta 9)) 10 (ta 10)) 11 (hh 2)) 12 (ta 12)) 13 (ta 13)) 14 (ta 14)) 15 0) (up (up (up ro 0 (rr 0)) 1 (rr 1)) 2 (rr 2)) ot Bm bk)) rfl ?_
  refine mWd (w2 := (MW 3 vs wo u h bo ta (tsM 3 ta 3 hh) (up (up (up ro 0 (rr 0)) 1 (rr 1)) 2 (rr 2)) ot Bm bk)) rfl ?_
  refine hC.2 _ 0 [] _ _ _ _ _ (m_det) rfl rfl (Nat.le_of_ble_eq_true rfl) rfl ?_
  refine mNf (lv2 := [(3, .int 16), (2, .int 3), (0, .ref 0), (1, .int 2)]) (st2 := [.long (rr 3), .int 3, .ref 12]) rfl (by rw [hrr 3] <;> rfl) ?_
  refine mB hT 6 rfl ?_
  exact hR _ (by decide) _ _ _ rfl rfl
set_option maxRecDepth 20000 in
theorem m_solve_3_2n {vs : Int32} {wo un h : Int64} {bo : Nat → Int32} {ta tr ro ot : Nat → Int64} {Bm : Nat → Nat → Nat → Int32} {bk : Nat → Nat → Int32} {u : Int64} {hh rr : Nat → Int64} (hs : wo < 0) (hu : u = -wo) (hq : ∀ j : Nat, hh j = (bk 2 j).toInt64) (hrr : ∀ i : Nat, rr i = -(dtM (tsM 3 ta i hh))) : KX3_solve l D ca ad [.ref 0, .int 2] (MW 3 vs wo un h bo ta tr ro ot Bm bk) none (MW 3 vs wo u h bo ta (tsM 3 ta 3 hh) rr ot Bm bk) := by
  refine PX3_solve (Nat.le_of_ble_eq_true rfl) ?_
  intro G hT hC hR
  refine mB hT 6 rfl ?_
  refine mIf (fun hp => absurd hp (fun q => Int64.not_lt.mpr (lc_ge.mp q) hs)) (fun _ => ?_)
  refine mB hT 4 rfl ?_
  refine mNf (lv2 := [(0, .ref 0), (1, .int 2)]) (st2 := [.long u, .ref 0]) rfl (by rw [hu] <;> rfl) ?_
  refine mB hT 37 rfl ?_
  refine mNf (lv2 := [(3, .int 0), (2, .int 0), (0, .ref 0), (1, .int 2)]) (st2 := [.long (hh 0), .int 0, .ref 11]) rfl (by rw [hq 0] <;> rfl) ?_
  refine mB hT 19 rfl ?_
  refine mB hT 1 rfl ?_
  refine mWd (w2 := (MW 3 vs wo u h bo ta (up (up tr 0 (hh 0)) 1 (ta 1)) ro ot Bm bk)) rfl ?_
  refine mB hT 18 rfl ?_
  refine mNf (lv2 := [(3, .int 2), (2, .int 0), (0, .ref 0), (1, .int 2)]) (st2 := [.long (ta 2), .int 2, .ref 11]) rfl rfl ?_
  refine mB hT 19 rfl ?_
  refine mB hT 32 rfl ?_
  refine mNf (lv2 := [(3, .int 4), (2, .int 0), (0, .ref 0), (1, .int 2)]) (st2 := [.long (hh 1), .int 4, .ref 11]) rfl (by rw [hq 1] <;> rfl) ?_
  refine mB hT 1 rfl ?_
  refine mWd (w2 := (MW 3 vs wo u h bo ta (up (up (up (up (up tr 0 (hh 0)) 1 (ta 1)) 2 (ta 2)) 3 (ta 3)) 4 (hh 1)) ro ot Bm bk)) rfl ?_
  refine mB hT 18 rfl ?_
  refine mB hT 19 rfl ?_
  refine mNf (lv2 := [(3, .int 6), (2, .int 0), (0, .ref 0), (1, .int 2)]) (st2 := [.long (ta 6), .int 6, .ref 11]) rfl rfl ?_
  refine mB hT 19 rfl ?_
  refine mB hT 1 rfl ?_
  refine mWd (w2 := (MW 3 vs wo u h bo ta (up (up (up (up (up (up (up (up tr 0 (hh 0)) 1 (ta 1)) 2 (ta 2)) 3 (ta 3)) 4 (hh 1)) 5 (ta 5)) 6 (ta 6)) 7 (ta 7)) ro ot Bm bk)) rfl ?_
  refine mB hT 31 rfl ?_
  refine mNf (lv2 := [(3, .int 8), (2, .int 0), (0, .ref 0), (1, .int 2)]) (st2 := [.long (hh 2), .int 8, .ref 11]) rfl (by rw [hq 2] <;> rfl) ?_
  refine mB hT 19 rfl ?_
  refine mB hT 19 rfl ?_
  refine mNf (lv2 := [(3, .int 10), (2, .int 0), (0, .ref 0), (1, .int 2)]) (st2 := [.long (ta 10), .int 10, .ref 11]) rfl rfl ?_
  refine mB hT 1 rfl ?_
  refine mWd (w2 := (MW 3 vs wo u h bo ta (up (up (up (up (up (up (up (up (up (up (up tr 0 (hh 0)) 1 (ta 1)) 2 (ta 2)) 3 (ta 3)) 4 (hh 1)) 5 (ta 5)) 6 (ta 6)) 7 (ta 7)) 8 (hh 2)) 9 (ta 9)) 10 (ta 10)) ro ot Bm bk)) rfl ?_
  refine mB hT 18 rfl ?_
  refine mB hT 21 rfl ?_
  refine mNf (lv2 := [(3, .int 12), (2, .int 0), (0, .ref 0), (1, .int 2)]) (st2 := [.long 0, .int 12, .ref 11]) rfl rfl ?_
  refine mB hT 19 rfl ?_
  refine mB hT 1 rfl ?_
  refine mWd (w2 := (MW 3 vs wo u h bo ta (up (up (up (up (up (up (up (up (up (up (up (up (up (up tr 0 (hh 0)) 1 (ta 1)) 2 (ta 2)) 3 (ta 3)) 4 (hh 1)) 5 (ta 5)) 6 (ta 6)) 7 (ta 7)) 8 (hh 2)) 9 (ta 9)) 10 (ta 10)) 11 (ta 11)) 12 0) 13 (ta 13)) ro ot Bm bk)) rfl ?_
  refine mB hT 18 rfl ?_
  refine mNf (lv2 := [(3, .int 14), (2, .int 0), (0, .ref 0), (1, .int 2)]) (st2 := [.long (ta 14), .int 14, .ref 11]) rfl rfl ?_
  refine mB hT 19 rfl ?_
  refine mB hT 14 rfl ?_
  refine mIf (fun hp => absurd hp (fun q => Int64.not_lt.mpr (lc_ge.mp q) hs)) (fun _ => ?_)
  refine mNf (lv2 := [(3, .int 16), (2, .int 0), (0, .ref 0), (1, .int 2)]) (st2 := [.int 0, .ref 12]) rfl rfl ?_
  refine mB hT 1 rfl ?_
  refine mWd (w2 := (MW 3 vs wo u h bo ta (up (up (up (up (up (up (up (up (up (up (up (up (up (up (up (up tr 0 (hh 0)) 1 (ta 1)) 2 (ta 2)) 3 (ta 3)) 4 (hh 1)) 5 (ta 5)) 6 (ta 6)) 7 (ta 7)) 8 (hh 2)) 9 (ta 9)) 10 (ta 10)) 11 (ta 11)) 12 0) 13 (ta 13)) 14 (ta 14)) 15 (ta 15)) ro ot Bm bk)) rfl ?_
  refine mWd (w2 := (MW 3 vs wo u h bo ta (tsM 3 ta 0 hh) ro ot Bm bk)) rfl ?_
  refine hC.1 _ 0 [] _ _ _ _ _ (m_det) rfl rfl (Nat.le_of_ble_eq_true rfl) rfl ?_
  refine mB hT 2 rfl ?_
  refine mNf (lv2 := [(3, .int 16), (2, .int 0), (0, .ref 0), (1, .int 2)]) (st2 := [.long (rr 0), .int 0, .ref 12]) rfl (by rw [hrr 0] <;> rfl) ?_
  refine mB hT 24 rfl ?_
  refine mNf (lv2 := [(3, .int 0), (2, .int 1), (0, .ref 0), (1, .int 2)]) (st2 := [.long (ta 0), .int 0, .ref 11]) rfl rfl ?_
  refine mB hT 32 rfl ?_
  refine mNf (lv2 := [(3, .int 1), (2, .int 1), (0, .ref 0), (1, .int 2)]) (st2 := [.long (hh 0), .int 1, .ref 11]) rfl (by rw [hq 0] <;> rfl) ?_
  refine mB hT 1 rfl ?_
  refine mWd (w2 := (MW 3 vs wo u h bo ta (up (up (tsM 3 ta 0 hh) 0 (ta 0)) 1 (hh 0)) (up ro 0 (rr 0)) ot Bm bk)) rfl ?_
  refine mB hT 18 rfl ?_
  refine mB hT 19 rfl ?_
  refine mNf (lv2 := [(3, .int 3), (2, .int 1), (0, .ref 0), (1, .int 2)]) (st2 := [.long (ta 3), .int 3, .ref 11]) rfl rfl ?_
  refine mB hT 19 rfl ?_
  refine mB hT 1 rfl ?_
  refine mWd (w2 := (MW 3 vs wo u h bo ta (up (up (up (up (up (tsM 3 ta 0 hh) 0 (ta 0)) 1 (hh 0)) 2 (ta 2)) 3 (ta 3)) 4 (ta 4)) (up ro 0 (rr 0)) ot Bm bk)) rfl ?_
  refine mB hT 31 rfl ?_
  refine mNf (lv2 := [(3, .int 5), (2, .int 1), (0, .ref 0), (1, .int 2)]) (st2 := [.long (hh 1), .int 5, .ref 11]) rfl (by rw [hq 1] <;> rfl) ?_
  refine mB hT 19 rfl ?_
  refine mB hT 19 rfl ?_
  refine mNf (lv2 := [(3, .int 7), (2, .int 1), (0, .ref 0), (1, .int 2)]) (st2 := [.long (ta 7), .int 7, .ref 11]) rfl rfl ?_
  refine mB hT 1 rfl ?_
  refine mWd (w2 := (MW 3 vs wo u h bo ta (up (up (up (up (up (up (up (up (tsM 3 ta 0 hh) 0 (ta 0)) 1 (hh 0)) 2 (ta 2)) 3 (ta 3)) 4 (ta 4)) 5 (hh 1)) 6 (ta 6)) 7 (ta 7)) (up ro 0 (rr 0)) ot Bm bk)) rfl ?_
  refine mB hT 18 rfl ?_
  refine mB hT 32 rfl ?_
  refine mNf (lv2 := [(3, .int 9), (2, .int 1), (0, .ref 0), (1, .int 2)]) (st2 := [.long (hh 2), .int 9, .ref 11]) rfl (by rw [hq 2] <;> rfl) ?_
  refine mB hT 19 rfl ?_
  refine mB hT 1 rfl ?_
  refine mWd (w2 := (MW 3 vs wo u h bo ta (up (up (up (up (up (up (up (up (up (up (up (tsM 3 ta 0 hh) 0 (ta 0)) 1 (hh 0)) 2 (ta 2)) 3 (ta 3)) 4 (ta 4)) 5 (hh 1)) 6 (ta 6)) 7 (ta 7)) 8 (ta 8)) 9 (hh 2)) 10 (ta 10)) (up ro 0 (rr 0)) ot Bm bk)) rfl ?_
  refine mB hT 18 rfl ?_
  refine mNf (lv2 := [(3, .int 11), (2, .int 1), (0, .ref 0), (1, .int 2)]) (st2 := [.long (ta 11), .int 11, .ref 11]) rfl rfl ?_
  refine mB hT 19 rfl ?_
  refine mB hT 21 rfl ?_
  refine mNf (lv2 := [(3, .int 13), (2, .int 1), (0, .ref 0), (1, .int 2)]) (st2 := [.long 0, .int 13, .ref 11]) rfl rfl ?_
  refine mB hT 1 rfl ?_
  refine mWd (w2 := (MW 3 vs wo u h bo ta (up (up (up (up (up (up (up (up (up (up (up (up (up (up (tsM 3 ta 0 hh) 0 (ta 0)) 1 (hh 0)) 2 (ta 2)) 3 (ta 3)) 4 (ta 4)) 5 (hh 1)) 6 (ta 6)) 7 (ta 7)) 8 (ta 8)) 9 (hh 2)) 10 (ta 10)) 11 (ta 11)) 12 (ta 12)) 13 0) (up ro 0 (rr 0)) ot Bm bk)) rfl ?_
  refine mB hT 18 rfl ?_
  refine mB hT 19 rfl ?_
  refine mNf (lv2 := [(3, .int 15), (2, .int 1), (0, .ref 0), (1, .int 2)]) (st2 := [.long (ta 15), .int 15, .ref 11]) rfl rfl ?_
  refine mB hT 14 rfl ?_
  refine mIf (fun hp => absurd hp (fun q => Int64.not_lt.mpr (lc_ge.mp q) hs)) (fun _ => ?_)
  refine mB hT 1 rfl ?_
  refine mWd (w2 := (MW 3 vs wo u h bo ta (up (up (up (up (up (up (up (up (up (up (up (up (up (up (up (up (tsM 3 ta 0 hh) 0 (ta 0)) 1 (hh 0)) 2 (ta 2)) 3 (ta 3)) 4 (ta 4)) 5 (hh 1)) 6 (ta 6)) 7 (ta 7)) 8 (ta 8)) 9 (hh 2)) 10 (ta 10)) 11 (ta 11)) 12 (ta 12)) 13 0) 14 (ta 14)) 15 (ta 15)) (up ro 0 (rr 0)) ot Bm bk)) rfl ?_
  refine mWd (w2 := (MW 3 vs wo u h bo ta (tsM 3 ta 1 hh) (up ro 0 (rr 0)) ot Bm bk)) rfl ?_
  refine hC.1 _ 0 [] _ _ _ _ _ (m_det) rfl rfl (Nat.le_of_ble_eq_true rfl) rfl ?_
  refine mB hT 2 rfl ?_
  refine mNf (lv2 := [(3, .int 16), (2, .int 1), (0, .ref 0), (1, .int 2)]) (st2 := [.long (rr 1), .int 1, .ref 12]) rfl (by rw [hrr 1] <;> rfl) ?_
  refine mB hT 24 rfl ?_
  refine mNf (lv2 := [(3, .int 0), (2, .int 2), (0, .ref 0), (1, .int 2)]) (st2 := [.long (ta 0), .int 0, .ref 11]) rfl rfl ?_
  refine mB hT 19 rfl ?_
  refine mB hT 1 rfl ?_
  refine mWd (w2 := (MW 3 vs wo u h bo ta (up (up (tsM 3 ta 1 hh) 0 (ta 0)) 1 (ta 1)) (up (up ro 0 (rr 0)) 1 (rr 1)) ot Bm bk)) rfl ?_
  refine mB hT 31 rfl ?_
  refine mNf (lv2 := [(3, .int 2), (2, .int 2), (0, .ref 0), (1, .int 2)]) (st2 := [.long (hh 0), .int 2, .ref 11]) rfl (by rw [hq 0] <;> rfl) ?_
  refine mB hT 19 rfl ?_
  refine mB hT 19 rfl ?_
  refine mNf (lv2 := [(3, .int 4), (2, .int 2), (0, .ref 0), (1, .int 2)]) (st2 := [.long (ta 4), .int 4, .ref 11]) rfl rfl ?_
  refine mB hT 1 rfl ?_
  refine mWd (w2 := (MW 3 vs wo u h bo ta (up (up (up (up (up (tsM 3 ta 1 hh) 0 (ta 0)) 1 (ta 1)) 2 (hh 0)) 3 (ta 3)) 4 (ta 4)) (up (up ro 0 (rr 0)) 1 (rr 1)) ot Bm bk)) rfl ?_
  refine mB hT 18 rfl ?_
  refine mB hT 32 rfl ?_
  refine mNf (lv2 := [(3, .int 6), (2, .int 2), (0, .ref 0), (1, .int 2)]) (st2 := [.long (hh 1), .int 6, .ref 11]) rfl (by rw [hq 1] <;> rfl) ?_
  refine mB hT 19 rfl ?_
  refine mB hT 1 rfl ?_
  refine mWd (w2 := (MW 3 vs wo u h bo ta (up (up (up (up (up (up (up (up (tsM 3 ta 1 hh) 0 (ta 0)) 1 (ta 1)) 2 (hh 0)) 3 (ta 3)) 4 (ta 4)) 5 (ta 5)) 6 (hh 1)) 7 (ta 7)) (up (up ro 0 (rr 0)) 1 (rr 1)) ot Bm bk)) rfl ?_
  refine mB hT 18 rfl ?_
  refine mNf (lv2 := [(3, .int 8), (2, .int 2), (0, .ref 0), (1, .int 2)]) (st2 := [.long (ta 8), .int 8, .ref 11]) rfl rfl ?_
  refine mB hT 19 rfl ?_
  refine mB hT 32 rfl ?_
  refine mNf (lv2 := [(3, .int 10), (2, .int 2), (0, .ref 0), (1, .int 2)]) (st2 := [.long (hh 2), .int 10, .ref 11]) rfl (by rw [hq 2] <;> rfl) ?_
  refine mB hT 1 rfl ?_
  refine mWd (w2 := (MW 3 vs wo u h bo ta (up (up (up (up (up (up (up (up (up (up (up (tsM 3 ta 1 hh) 0 (ta 0)) 1 (ta 1)) 2 (hh 0)) 3 (ta 3)) 4 (ta 4)) 5 (ta 5)) 6 (hh 1)) 7 (ta 7)) 8 (ta 8)) 9 (ta 9)) 10 (hh 2)) (up (up ro 0 (rr 0)) 1 (rr 1)) ot Bm bk)) rfl ?_
  refine mB hT 18 rfl ?_
  refine mB hT 19 rfl ?_
  refine mNf (lv2 := [(3, .int 12), (2, .int 2), (0, .ref 0), (1, .int 2)]) (st2 := [.long (ta 12), .int 12, .ref 11]) rfl rfl ?_
  refine mB hT 19 rfl ?_
  refine mB hT 1 rfl ?_
  refine mWd (w2 := (MW 3 vs wo u h bo ta (up (up (up (up (up (up (up (up (up (up (up (up (up (up (tsM 3 ta 1 hh) 0 (ta 0)) 1 (ta 1)) 2 (hh 0)) 3 (ta 3)) 4 (ta 4)) 5 (ta 5)) 6 (hh 1)) 7 (ta 7)) 8 (ta 8)) 9 (ta 9)) 10 (hh 2)) 11 (ta 11)) 12 (ta 12)) 13 (ta 13)) (up (up ro 0 (rr 0)) 1 (rr 1)) ot Bm bk)) rfl ?_
  refine mB hT 20 rfl ?_
  refine mNf (lv2 := [(3, .int 14), (2, .int 2), (0, .ref 0), (1, .int 2)]) (st2 := [.long 0, .int 14, .ref 11]) rfl rfl ?_
  refine mB hT 19 rfl ?_
  refine mB hT 14 rfl ?_
  refine mIf (fun hp => absurd hp (fun q => Int64.not_lt.mpr (lc_ge.mp q) hs)) (fun _ => ?_)
  refine mNf (lv2 := [(3, .int 16), (2, .int 2), (0, .ref 0), (1, .int 2)]) (st2 := [.int 2, .ref 12]) rfl rfl ?_
  refine mB hT 1 rfl ?_
  refine mWd (w2 := (MW 3 vs wo u h bo ta (up (up (up (up (up (up (up (up (up (up (up (up (up (up (up (up (tsM 3 ta 1 hh) 0 (ta 0)) 1 (ta 1)) 2 (hh 0)) 3 (ta 3)) 4 (ta 4)) 5 (ta 5)) 6 (hh 1)) 7 (ta 7)) 8 (ta 8)) 9 (ta 9)) 10 (hh 2)) 11 (ta 11)) 12 (ta 12)) 13 (ta 13)) 14 0) 15 (ta 15)) (up (up ro 0 (rr 0)) 1 (rr 1)) ot Bm bk)) rfl ?_
  refine mWd (w2 := (MW 3 vs wo u h bo ta (tsM 3 ta 2 hh) (up (up ro 0 (rr 0)) 1 (rr 1)) ot Bm bk)) rfl ?_
  refine hC.1 _ 0 [] _ _ _ _ _ (m_det) rfl rfl (Nat.le_of_ble_eq_true rfl) rfl ?_
  refine mB hT 2 rfl ?_
  refine mNf (lv2 := [(3, .int 16), (2, .int 2), (0, .ref 0), (1, .int 2)]) (st2 := [.long (rr 2), .int 2, .ref 12]) rfl (by rw [hrr 2] <;> rfl) ?_
  refine mB hT 24 rfl ?_
  refine mNf (lv2 := [(3, .int 0), (2, .int 3), (0, .ref 0), (1, .int 2)]) (st2 := [.long (ta 0), .int 0, .ref 11]) rfl rfl ?_
  refine mB hT 19 rfl ?_
  refine mB hT 1 rfl ?_
  refine mWd (w2 := (MW 3 vs wo u h bo ta (up (up (tsM 3 ta 2 hh) 0 (ta 0)) 1 (ta 1)) (up (up (up ro 0 (rr 0)) 1 (rr 1)) 2 (rr 2)) ot Bm bk)) rfl ?_
  refine mB hT 18 rfl ?_
  refine mNf (lv2 := [(3, .int 2), (2, .int 3), (0, .ref 0), (1, .int 2)]) (st2 := [.long (ta 2), .int 2, .ref 11]) rfl rfl ?_
  refine mB hT 32 rfl ?_
  refine mNf (lv2 := [(3, .int 3), (2, .int 3), (0, .ref 0), (1, .int 2)]) (st2 := [.long (hh 0), .int 3, .ref 11]) rfl (by rw [hq 0] <;> rfl) ?_
  refine mB hT 19 rfl ?_
  refine mB hT 1 rfl ?_
  refine mWd (w2 := (MW 3 vs wo u h bo ta (up (up (up (up (up (tsM 3 ta 2 hh) 0 (ta 0)) 1 (ta 1)) 2 (ta 2)) 3 (hh 0)) 4 (ta 4)) (up (up (up ro 0 (rr 0)) 1 (rr 1)) 2 (rr 2)) ot Bm bk)) rfl ?_
  refine mB hT 18 rfl ?_
  refine mNf (lv2 := [(3, .int 5), (2, .int 3), (0, .ref 0), (1, .int 2)]) (st2 := [.long (ta 5), .int 5, .ref 11]) rfl rfl ?_
  refine mB hT 19 rfl ?_
  refine mB hT 32 rfl ?_
  refine mNf (lv2 := [(3, .int 7), (2, .int 3), (0, .ref 0), (1, .int 2)]) (st2 := [.long (hh 1), .int 7, .ref 11]) rfl (by rw [hq 1] <;> rfl) ?_
  refine mB hT 1 rfl ?_
  refine mWd (w2 := (MW 3 vs wo u h bo ta (up (up (up (up (up (up (up (up (tsM 3 ta 2 hh) 0 (ta 0)) 1 (ta 1)) 2 (ta 2)) 3 (hh 0)) 4 (ta 4)) 5 (ta 5)) 6 (ta 6)) 7 (hh 1)) (up (up (up ro 0 (rr 0)) 1 (rr 1)) 2 (rr 2)) ot Bm bk)) rfl ?_
  refine mB hT 18 rfl ?_
  refine mB hT 19 rfl ?_
  refine mNf (lv2 := [(3, .int 9), (2, .int 3), (0, .ref 0), (1, .int 2)]) (st2 := [.long (ta 9), .int 9, .ref 11]) rfl rfl ?_
  refine mB hT 19 rfl ?_
  refine mB hT 1 rfl ?_
  refine mWd (w2 := (MW 3 vs wo u h bo ta (up (up (up (up (up (up (up (up (up (up (up (tsM 3 ta 2 hh) 0 (ta 0)) 1 (ta 1)) 2 (ta 2)) 3 (hh 0)) 4 (ta 4)) 5 (ta 5)) 6 (ta 6)) 7 (hh 1)) 8 (ta 8)) 9 (ta 9)) 10 (ta 10)) (up (up (up ro 0 (rr 0)) 1 (rr 1)) 2 (rr 2)) ot Bm bk)) rfl ?_
  refine mB hT 31 rfl ?_
  refine mNf (lv2 := [(3, .int 11), (2, .int 3), (0, .ref 0), (1, .int 2)]) (st2 := [.long (hh 2), .int 11, .ref 11]) rfl (by rw [hq 2] <;> rfl) ?_
  refine mB hT 19 rfl ?_
  refine mB hT 19 rfl ?_
  refine mNf (lv2 := [(3, .int 13), (2, .int 3), (0, .ref 0), (1, .int 2)]) (st2 := [.long (ta 13), .int 13, .ref 11]) rfl rfl ?_
  refine mB hT 1 rfl ?_
  refine mWd (w2 := (MW 3 vs wo u h bo ta (up (up (up (up (up (up (up (up (up (up (up (up (up (up (tsM 3 ta 2 hh) 0 (ta 0)) 1 (ta 1)) 2 (ta 2)) 3 (hh 0)) 4 (ta 4)) 5 (ta 5)) 6 (ta 6)) 7 (hh 1)) 8 (ta 8)) 9 (ta 9)) 10 (ta 10)) 11 (hh 2)) 12 (ta 12)) 13 (ta 13)) (up (up (up ro 0 (rr 0)) 1 (rr 1)) 2 (rr 2)) ot Bm bk)) rfl ?_
  refine mB hT 18 rfl ?_
  refine mB hT 21 rfl ?_
  refine mNf (lv2 := [(3, .int 15), (2, .int 3), (0, .ref 0), (1, .int 2)]) (st2 := [.long 0, .int 15, .ref 11]) rfl rfl ?_
  refine mB hT 14 rfl ?_
  refine mIf (fun hp => absurd hp (fun q => Int64.not_lt.mpr (lc_ge.mp q) hs)) (fun _ => ?_)
  refine mB hT 1 rfl ?_
  refine mWd (w2 := (MW 3 vs wo u h bo ta (up (up (up (up (up (up (up (up (up (up (up (up (up (up (up (up (tsM 3 ta 2 hh) 0 (ta 0)) 1 (ta 1)) 2 (ta 2)) 3 (hh 0)) 4 (ta 4)) 5 (ta 5)) 6 (ta 6)) 7 (hh 1)) 8 (ta 8)) 9 (ta 9)) 10 (ta 10)) 11 (hh 2)) 12 (ta 12)) 13 (ta 13)) 14 (ta 14)) 15 0) (up (up (up ro 0 (rr 0)) 1 (rr 1)) 2 (rr 2)) ot Bm bk)) rfl ?_
  refine mWd (w2 := (MW 3 vs wo u h bo ta (tsM 3 ta 3 hh) (up (up (up ro 0 (rr 0)) 1 (rr 1)) 2 (rr 2)) ot Bm bk)) rfl ?_
  refine hC.1 _ 0 [] _ _ _ _ _ (m_det) rfl rfl (Nat.le_of_ble_eq_true rfl) rfl ?_
  refine mB hT 2 rfl ?_
  refine mNf (lv2 := [(3, .int 16), (2, .int 3), (0, .ref 0), (1, .int 2)]) (st2 := [.long (rr 3), .int 3, .ref 12]) rfl (by rw [hrr 3] <;> rfl) ?_
  refine mB hT 6 rfl ?_
  exact hR _ (by decide) _ _ _ rfl rfl
set_option maxRecDepth 20000 in
theorem m_solve_3_3p {vs : Int32} {wo un h : Int64} {bo : Nat → Int32} {ta tr ro ot : Nat → Int64} {Bm : Nat → Nat → Nat → Int32} {bk : Nat → Nat → Int32} {u : Int64} {hh rr : Nat → Int64} (hs : ¬ wo < 0) (hu : u = wo) (hq : ∀ j : Nat, hh j = (bk 3 j).toInt64) (hrr : ∀ i : Nat, rr i = dtM (tsM 3 ta i hh)) : KX3_solve l D ca ad [.ref 0, .int 3] (MW 3 vs wo un h bo ta tr ro ot Bm bk) none (MW 3 vs wo u h bo ta (tsM 3 ta 3 hh) rr ot Bm bk) := by
  refine PX3_solve (Nat.le_of_ble_eq_true rfl) ?_
  intro G hT hC hR
  refine mB hT 6 rfl ?_
  refine mIf (fun _ => ?_) (fun hn => absurd (lc_ge.mpr (Int64.not_lt.mp hs)) hn)
  refine mB hT 2 rfl ?_
  refine mNf (lv2 := [(0, .ref 0), (1, .int 3)]) (st2 := [.long u, .ref 0]) rfl (by rw [hu] <;> rfl) ?_
  refine mB hT 37 rfl ?_
  refine mNf (lv2 := [(3, .int 0), (2, .int 0), (0, .ref 0), (1, .int 3)]) (st2 := [.long (hh 0), .int 0, .ref 11]) rfl (by rw [hq 0] <;> rfl) ?_
  refine mB hT 19 rfl ?_
  refine mB hT 1 rfl ?_
  refine mWd (w2 := (MW 3 vs wo u h bo ta (up (up tr 0 (hh 0)) 1 (ta 1)) ro ot Bm bk)) rfl ?_
  refine mB hT 18 rfl ?_
  refine mNf (lv2 := [(3, .int 2), (2, .int 0), (0, .ref 0), (1, .int 3)]) (st2 := [.long (ta 2), .int 2, .ref 11]) rfl rfl ?_
  refine mB hT 19 rfl ?_
  refine mB hT 32 rfl ?_
  refine mNf (lv2 := [(3, .int 4), (2, .int 0), (0, .ref 0), (1, .int 3)]) (st2 := [.long (hh 1), .int 4, .ref 11]) rfl (by rw [hq 1] <;> rfl) ?_
  refine mB hT 1 rfl ?_
  refine mWd (w2 := (MW 3 vs wo u h bo ta (up (up (up (up (up tr 0 (hh 0)) 1 (ta 1)) 2 (ta 2)) 3 (ta 3)) 4 (hh 1)) ro ot Bm bk)) rfl ?_
  refine mB hT 18 rfl ?_
  refine mB hT 19 rfl ?_
  refine mNf (lv2 := [(3, .int 6), (2, .int 0), (0, .ref 0), (1, .int 3)]) (st2 := [.long (ta 6), .int 6, .ref 11]) rfl rfl ?_
  refine mB hT 19 rfl ?_
  refine mB hT 1 rfl ?_
  refine mWd (w2 := (MW 3 vs wo u h bo ta (up (up (up (up (up (up (up (up tr 0 (hh 0)) 1 (ta 1)) 2 (ta 2)) 3 (ta 3)) 4 (hh 1)) 5 (ta 5)) 6 (ta 6)) 7 (ta 7)) ro ot Bm bk)) rfl ?_
  refine mB hT 31 rfl ?_
  refine mNf (lv2 := [(3, .int 8), (2, .int 0), (0, .ref 0), (1, .int 3)]) (st2 := [.long (hh 2), .int 8, .ref 11]) rfl (by rw [hq 2] <;> rfl) ?_
  refine mB hT 19 rfl ?_
  refine mB hT 19 rfl ?_
  refine mNf (lv2 := [(3, .int 10), (2, .int 0), (0, .ref 0), (1, .int 3)]) (st2 := [.long (ta 10), .int 10, .ref 11]) rfl rfl ?_
  refine mB hT 1 rfl ?_
  refine mWd (w2 := (MW 3 vs wo u h bo ta (up (up (up (up (up (up (up (up (up (up (up tr 0 (hh 0)) 1 (ta 1)) 2 (ta 2)) 3 (ta 3)) 4 (hh 1)) 5 (ta 5)) 6 (ta 6)) 7 (ta 7)) 8 (hh 2)) 9 (ta 9)) 10 (ta 10)) ro ot Bm bk)) rfl ?_
  refine mB hT 18 rfl ?_
  refine mB hT 21 rfl ?_
  refine mNf (lv2 := [(3, .int 12), (2, .int 0), (0, .ref 0), (1, .int 3)]) (st2 := [.long 0, .int 12, .ref 11]) rfl rfl ?_
  refine mB hT 19 rfl ?_
  refine mB hT 1 rfl ?_
  refine mWd (w2 := (MW 3 vs wo u h bo ta (up (up (up (up (up (up (up (up (up (up (up (up (up (up tr 0 (hh 0)) 1 (ta 1)) 2 (ta 2)) 3 (ta 3)) 4 (hh 1)) 5 (ta 5)) 6 (ta 6)) 7 (ta 7)) 8 (hh 2)) 9 (ta 9)) 10 (ta 10)) 11 (ta 11)) 12 0) 13 (ta 13)) ro ot Bm bk)) rfl ?_
  refine mB hT 18 rfl ?_
  refine mNf (lv2 := [(3, .int 14), (2, .int 0), (0, .ref 0), (1, .int 3)]) (st2 := [.long (ta 14), .int 14, .ref 11]) rfl rfl ?_
  refine mB hT 19 rfl ?_
  refine mB hT 14 rfl ?_
  refine mIf (fun _ => ?_) (fun hn => absurd (lc_ge.mpr (Int64.not_lt.mp hs)) hn)
  refine mNf (lv2 := [(3, .int 16), (2, .int 0), (0, .ref 0), (1, .int 3)]) (st2 := [.int 0, .ref 12]) rfl rfl ?_
  refine mB hT 1 rfl ?_
  refine mWd (w2 := (MW 3 vs wo u h bo ta (up (up (up (up (up (up (up (up (up (up (up (up (up (up (up (up tr 0 (hh 0)) 1 (ta 1)) 2 (ta 2)) 3 (ta 3)) 4 (hh 1)) 5 (ta 5)) 6 (ta 6)) 7 (ta 7)) 8 (hh 2)) 9 (ta 9)) 10 (ta 10)) 11 (ta 11)) 12 0) 13 (ta 13)) 14 (ta 14)) 15 (ta 15)) ro ot Bm bk)) rfl ?_
  refine mWd (w2 := (MW 3 vs wo u h bo ta (tsM 3 ta 0 hh) ro ot Bm bk)) rfl ?_
  refine hC.2 _ 0 [] _ _ _ _ _ (m_det) rfl rfl (Nat.le_of_ble_eq_true rfl) rfl ?_
  refine mNf (lv2 := [(3, .int 16), (2, .int 0), (0, .ref 0), (1, .int 3)]) (st2 := [.long (rr 0), .int 0, .ref 12]) rfl (by rw [hrr 0] <;> rfl) ?_
  refine mB hT 24 rfl ?_
  refine mNf (lv2 := [(3, .int 0), (2, .int 1), (0, .ref 0), (1, .int 3)]) (st2 := [.long (ta 0), .int 0, .ref 11]) rfl rfl ?_
  refine mB hT 32 rfl ?_
  refine mNf (lv2 := [(3, .int 1), (2, .int 1), (0, .ref 0), (1, .int 3)]) (st2 := [.long (hh 0), .int 1, .ref 11]) rfl (by rw [hq 0] <;> rfl) ?_
  refine mB hT 1 rfl ?_
  refine mWd (w2 := (MW 3 vs wo u h bo ta (up (up (tsM 3 ta 0 hh) 0 (ta 0)) 1 (hh 0)) (up ro 0 (rr 0)) ot Bm bk)) rfl ?_
  refine mB hT 18 rfl ?_
  refine mB hT 19 rfl ?_
  refine mNf (lv2 := [(3, .int 3), (2, .int 1), (0, .ref 0), (1, .int 3)]) (st2 := [.long (ta 3), .int 3, .ref 11]) rfl rfl ?_
  refine mB hT 19 rfl ?_
  refine mB hT 1 rfl ?_
  refine mWd (w2 := (MW 3 vs wo u h bo ta (up (up (up (up (up (tsM 3 ta 0 hh) 0 (ta 0)) 1 (hh 0)) 2 (ta 2)) 3 (ta 3)) 4 (ta 4)) (up ro 0 (rr 0)) ot Bm bk)) rfl ?_
  refine mB hT 31 rfl ?_
  refine mNf (lv2 := [(3, .int 5), (2, .int 1), (0, .ref 0), (1, .int 3)]) (st2 := [.long (hh 1), .int 5, .ref 11]) rfl (by rw [hq 1] <;> rfl) ?_
  refine mB hT 19 rfl ?_
  refine mB hT 19 rfl ?_
  refine mNf (lv2 := [(3, .int 7), (2, .int 1), (0, .ref 0), (1, .int 3)]) (st2 := [.long (ta 7), .int 7, .ref 11]) rfl rfl ?_
  refine mB hT 1 rfl ?_
  refine mWd (w2 := (MW 3 vs wo u h bo ta (up (up (up (up (up (up (up (up (tsM 3 ta 0 hh) 0 (ta 0)) 1 (hh 0)) 2 (ta 2)) 3 (ta 3)) 4 (ta 4)) 5 (hh 1)) 6 (ta 6)) 7 (ta 7)) (up ro 0 (rr 0)) ot Bm bk)) rfl ?_
  refine mB hT 18 rfl ?_
  refine mB hT 32 rfl ?_
  refine mNf (lv2 := [(3, .int 9), (2, .int 1), (0, .ref 0), (1, .int 3)]) (st2 := [.long (hh 2), .int 9, .ref 11]) rfl (by rw [hq 2] <;> rfl) ?_
  refine mB hT 19 rfl ?_
  refine mB hT 1 rfl ?_
  refine mWd (w2 := (MW 3 vs wo u h bo ta (up (up (up (up (up (up (up (up (up (up (up (tsM 3 ta 0 hh) 0 (ta 0)) 1 (hh 0)) 2 (ta 2)) 3 (ta 3)) 4 (ta 4)) 5 (hh 1)) 6 (ta 6)) 7 (ta 7)) 8 (ta 8)) 9 (hh 2)) 10 (ta 10)) (up ro 0 (rr 0)) ot Bm bk)) rfl ?_
  refine mB hT 18 rfl ?_
  refine mNf (lv2 := [(3, .int 11), (2, .int 1), (0, .ref 0), (1, .int 3)]) (st2 := [.long (ta 11), .int 11, .ref 11]) rfl rfl ?_
  refine mB hT 19 rfl ?_
  refine mB hT 21 rfl ?_
  refine mNf (lv2 := [(3, .int 13), (2, .int 1), (0, .ref 0), (1, .int 3)]) (st2 := [.long 0, .int 13, .ref 11]) rfl rfl ?_
  refine mB hT 1 rfl ?_
  refine mWd (w2 := (MW 3 vs wo u h bo ta (up (up (up (up (up (up (up (up (up (up (up (up (up (up (tsM 3 ta 0 hh) 0 (ta 0)) 1 (hh 0)) 2 (ta 2)) 3 (ta 3)) 4 (ta 4)) 5 (hh 1)) 6 (ta 6)) 7 (ta 7)) 8 (ta 8)) 9 (hh 2)) 10 (ta 10)) 11 (ta 11)) 12 (ta 12)) 13 0) (up ro 0 (rr 0)) ot Bm bk)) rfl ?_
  refine mB hT 18 rfl ?_
  refine mB hT 19 rfl ?_
  refine mNf (lv2 := [(3, .int 15), (2, .int 1), (0, .ref 0), (1, .int 3)]) (st2 := [.long (ta 15), .int 15, .ref 11]) rfl rfl ?_
  refine mB hT 14 rfl ?_
  refine mIf (fun _ => ?_) (fun hn => absurd (lc_ge.mpr (Int64.not_lt.mp hs)) hn)
  refine mB hT 1 rfl ?_
  refine mWd (w2 := (MW 3 vs wo u h bo ta (up (up (up (up (up (up (up (up (up (up (up (up (up (up (up (up (tsM 3 ta 0 hh) 0 (ta 0)) 1 (hh 0)) 2 (ta 2)) 3 (ta 3)) 4 (ta 4)) 5 (hh 1)) 6 (ta 6)) 7 (ta 7)) 8 (ta 8)) 9 (hh 2)) 10 (ta 10)) 11 (ta 11)) 12 (ta 12)) 13 0) 14 (ta 14)) 15 (ta 15)) (up ro 0 (rr 0)) ot Bm bk)) rfl ?_
  refine mWd (w2 := (MW 3 vs wo u h bo ta (tsM 3 ta 1 hh) (up ro 0 (rr 0)) ot Bm bk)) rfl ?_
  refine hC.2 _ 0 [] _ _ _ _ _ (m_det) rfl rfl (Nat.le_of_ble_eq_true rfl) rfl ?_
  refine mNf (lv2 := [(3, .int 16), (2, .int 1), (0, .ref 0), (1, .int 3)]) (st2 := [.long (rr 1), .int 1, .ref 12]) rfl (by rw [hrr 1] <;> rfl) ?_
  refine mB hT 24 rfl ?_
  refine mNf (lv2 := [(3, .int 0), (2, .int 2), (0, .ref 0), (1, .int 3)]) (st2 := [.long (ta 0), .int 0, .ref 11]) rfl rfl ?_
  refine mB hT 19 rfl ?_
  refine mB hT 1 rfl ?_
  refine mWd (w2 := (MW 3 vs wo u h bo ta (up (up (tsM 3 ta 1 hh) 0 (ta 0)) 1 (ta 1)) (up (up ro 0 (rr 0)) 1 (rr 1)) ot Bm bk)) rfl ?_
  refine mB hT 31 rfl ?_
  refine mNf (lv2 := [(3, .int 2), (2, .int 2), (0, .ref 0), (1, .int 3)]) (st2 := [.long (hh 0), .int 2, .ref 11]) rfl (by rw [hq 0] <;> rfl) ?_
  refine mB hT 19 rfl ?_
  refine mB hT 19 rfl ?_
  refine mNf (lv2 := [(3, .int 4), (2, .int 2), (0, .ref 0), (1, .int 3)]) (st2 := [.long (ta 4), .int 4, .ref 11]) rfl rfl ?_
  refine mB hT 1 rfl ?_
  refine mWd (w2 := (MW 3 vs wo u h bo ta (up (up (up (up (up (tsM 3 ta 1 hh) 0 (ta 0)) 1 (ta 1)) 2 (hh 0)) 3 (ta 3)) 4 (ta 4)) (up (up ro 0 (rr 0)) 1 (rr 1)) ot Bm bk)) rfl ?_
  refine mB hT 18 rfl ?_
  refine mB hT 32 rfl ?_
  refine mNf (lv2 := [(3, .int 6), (2, .int 2), (0, .ref 0), (1, .int 3)]) (st2 := [.long (hh 1), .int 6, .ref 11]) rfl (by rw [hq 1] <;> rfl) ?_
  refine mB hT 19 rfl ?_
  refine mB hT 1 rfl ?_
  refine mWd (w2 := (MW 3 vs wo u h bo ta (up (up (up (up (up (up (up (up (tsM 3 ta 1 hh) 0 (ta 0)) 1 (ta 1)) 2 (hh 0)) 3 (ta 3)) 4 (ta 4)) 5 (ta 5)) 6 (hh 1)) 7 (ta 7)) (up (up ro 0 (rr 0)) 1 (rr 1)) ot Bm bk)) rfl ?_
  refine mB hT 18 rfl ?_
  refine mNf (lv2 := [(3, .int 8), (2, .int 2), (0, .ref 0), (1, .int 3)]) (st2 := [.long (ta 8), .int 8, .ref 11]) rfl rfl ?_
  refine mB hT 19 rfl ?_
  refine mB hT 32 rfl ?_
  refine mNf (lv2 := [(3, .int 10), (2, .int 2), (0, .ref 0), (1, .int 3)]) (st2 := [.long (hh 2), .int 10, .ref 11]) rfl (by rw [hq 2] <;> rfl) ?_
  refine mB hT 1 rfl ?_
  refine mWd (w2 := (MW 3 vs wo u h bo ta (up (up (up (up (up (up (up (up (up (up (up (tsM 3 ta 1 hh) 0 (ta 0)) 1 (ta 1)) 2 (hh 0)) 3 (ta 3)) 4 (ta 4)) 5 (ta 5)) 6 (hh 1)) 7 (ta 7)) 8 (ta 8)) 9 (ta 9)) 10 (hh 2)) (up (up ro 0 (rr 0)) 1 (rr 1)) ot Bm bk)) rfl ?_
  refine mB hT 18 rfl ?_
  refine mB hT 19 rfl ?_
  refine mNf (lv2 := [(3, .int 12), (2, .int 2), (0, .ref 0), (1, .int 3)]) (st2 := [.long (ta 12), .int 12, .ref 11]) rfl rfl ?_
  refine mB hT 19 rfl ?_
  refine mB hT 1 rfl ?_
  refine mWd (w2 := (MW 3 vs wo u h bo ta (up (up (up (up (up (up (up (up (up (up (up (up (up (up (tsM 3 ta 1 hh) 0 (ta 0)) 1 (ta 1)) 2 (hh 0)) 3 (ta 3)) 4 (ta 4)) 5 (ta 5)) 6 (hh 1)) 7 (ta 7)) 8 (ta 8)) 9 (ta 9)) 10 (hh 2)) 11 (ta 11)) 12 (ta 12)) 13 (ta 13)) (up (up ro 0 (rr 0)) 1 (rr 1)) ot Bm bk)) rfl ?_
  refine mB hT 20 rfl ?_
  refine mNf (lv2 := [(3, .int 14), (2, .int 2), (0, .ref 0), (1, .int 3)]) (st2 := [.long 0, .int 14, .ref 11]) rfl rfl ?_
  refine mB hT 19 rfl ?_
  refine mB hT 14 rfl ?_
  refine mIf (fun _ => ?_) (fun hn => absurd (lc_ge.mpr (Int64.not_lt.mp hs)) hn)
  refine mNf (lv2 := [(3, .int 16), (2, .int 2), (0, .ref 0), (1, .int 3)]) (st2 := [.int 2, .ref 12]) rfl rfl ?_
  refine mB hT 1 rfl ?_
  refine mWd (w2 := (MW 3 vs wo u h bo ta (up (up (up (up (up (up (up (up (up (up (up (up (up (up (up (up (tsM 3 ta 1 hh) 0 (ta 0)) 1 (ta 1)) 2 (hh 0)) 3 (ta 3)) 4 (ta 4)) 5 (ta 5)) 6 (hh 1)) 7 (ta 7)) 8 (ta 8)) 9 (ta 9)) 10 (hh 2)) 11 (ta 11)) 12 (ta 12)) 13 (ta 13)) 14 0) 15 (ta 15)) (up (up ro 0 (rr 0)) 1 (rr 1)) ot Bm bk)) rfl ?_
  refine mWd (w2 := (MW 3 vs wo u h bo ta (tsM 3 ta 2 hh) (up (up ro 0 (rr 0)) 1 (rr 1)) ot Bm bk)) rfl ?_
  refine hC.2 _ 0 [] _ _ _ _ _ (m_det) rfl rfl (Nat.le_of_ble_eq_true rfl) rfl ?_
  refine mNf (lv2 := [(3, .int 16), (2, .int 2), (0, .ref 0), (1, .int 3)]) (st2 := [.long (rr 2), .int 2, .ref 12]) rfl (by rw [hrr 2] <;> rfl) ?_
  refine mB hT 24 rfl ?_
  refine mNf (lv2 := [(3, .int 0), (2, .int 3), (0, .ref 0), (1, .int 3)]) (st2 := [.long (ta 0), .int 0, .ref 11]) rfl rfl ?_
  refine mB hT 19 rfl ?_
  refine mB hT 1 rfl ?_
  refine mWd (w2 := (MW 3 vs wo u h bo ta (up (up (tsM 3 ta 2 hh) 0 (ta 0)) 1 (ta 1)) (up (up (up ro 0 (rr 0)) 1 (rr 1)) 2 (rr 2)) ot Bm bk)) rfl ?_
  refine mB hT 18 rfl ?_
  refine mNf (lv2 := [(3, .int 2), (2, .int 3), (0, .ref 0), (1, .int 3)]) (st2 := [.long (ta 2), .int 2, .ref 11]) rfl rfl ?_
  refine mB hT 32 rfl ?_
  refine mNf (lv2 := [(3, .int 3), (2, .int 3), (0, .ref 0), (1, .int 3)]) (st2 := [.long (hh 0), .int 3, .ref 11]) rfl (by rw [hq 0] <;> rfl) ?_
  refine mB hT 19 rfl ?_
  refine mB hT 1 rfl ?_
  refine mWd (w2 := (MW 3 vs wo u h bo ta (up (up (up (up (up (tsM 3 ta 2 hh) 0 (ta 0)) 1 (ta 1)) 2 (ta 2)) 3 (hh 0)) 4 (ta 4)) (up (up (up ro 0 (rr 0)) 1 (rr 1)) 2 (rr 2)) ot Bm bk)) rfl ?_
  refine mB hT 18 rfl ?_
  refine mNf (lv2 := [(3, .int 5), (2, .int 3), (0, .ref 0), (1, .int 3)]) (st2 := [.long (ta 5), .int 5, .ref 11]) rfl rfl ?_
  refine mB hT 19 rfl ?_
  refine mB hT 32 rfl ?_
  refine mNf (lv2 := [(3, .int 7), (2, .int 3), (0, .ref 0), (1, .int 3)]) (st2 := [.long (hh 1), .int 7, .ref 11]) rfl (by rw [hq 1] <;> rfl) ?_
  refine mB hT 1 rfl ?_
  refine mWd (w2 := (MW 3 vs wo u h bo ta (up (up (up (up (up (up (up (up (tsM 3 ta 2 hh) 0 (ta 0)) 1 (ta 1)) 2 (ta 2)) 3 (hh 0)) 4 (ta 4)) 5 (ta 5)) 6 (ta 6)) 7 (hh 1)) (up (up (up ro 0 (rr 0)) 1 (rr 1)) 2 (rr 2)) ot Bm bk)) rfl ?_
  refine mB hT 18 rfl ?_
  refine mB hT 19 rfl ?_
  refine mNf (lv2 := [(3, .int 9), (2, .int 3), (0, .ref 0), (1, .int 3)]) (st2 := [.long (ta 9), .int 9, .ref 11]) rfl rfl ?_
  refine mB hT 19 rfl ?_
  refine mB hT 1 rfl ?_
  refine mWd (w2 := (MW 3 vs wo u h bo ta (up (up (up (up (up (up (up (up (up (up (up (tsM 3 ta 2 hh) 0 (ta 0)) 1 (ta 1)) 2 (ta 2)) 3 (hh 0)) 4 (ta 4)) 5 (ta 5)) 6 (ta 6)) 7 (hh 1)) 8 (ta 8)) 9 (ta 9)) 10 (ta 10)) (up (up (up ro 0 (rr 0)) 1 (rr 1)) 2 (rr 2)) ot Bm bk)) rfl ?_
  refine mB hT 31 rfl ?_
  refine mNf (lv2 := [(3, .int 11), (2, .int 3), (0, .ref 0), (1, .int 3)]) (st2 := [.long (hh 2), .int 11, .ref 11]) rfl (by rw [hq 2] <;> rfl) ?_
  refine mB hT 19 rfl ?_
  refine mB hT 19 rfl ?_
  refine mNf (lv2 := [(3, .int 13), (2, .int 3), (0, .ref 0), (1, .int 3)]) (st2 := [.long (ta 13), .int 13, .ref 11]) rfl rfl ?_
  refine mB hT 1 rfl ?_
  refine mWd (w2 := (MW 3 vs wo u h bo ta (up (up (up (up (up (up (up (up (up (up (up (up (up (up (tsM 3 ta 2 hh) 0 (ta 0)) 1 (ta 1)) 2 (ta 2)) 3 (hh 0)) 4 (ta 4)) 5 (ta 5)) 6 (ta 6)) 7 (hh 1)) 8 (ta 8)) 9 (ta 9)) 10 (ta 10)) 11 (hh 2)) 12 (ta 12)) 13 (ta 13)) (up (up (up ro 0 (rr 0)) 1 (rr 1)) 2 (rr 2)) ot Bm bk)) rfl ?_
  refine mB hT 18 rfl ?_
  refine mB hT 21 rfl ?_
  refine mNf (lv2 := [(3, .int 15), (2, .int 3), (0, .ref 0), (1, .int 3)]) (st2 := [.long 0, .int 15, .ref 11]) rfl rfl ?_
  refine mB hT 14 rfl ?_
  refine mIf (fun _ => ?_) (fun hn => absurd (lc_ge.mpr (Int64.not_lt.mp hs)) hn)
  refine mB hT 1 rfl ?_
  refine mWd (w2 := (MW 3 vs wo u h bo ta (up (up (up (up (up (up (up (up (up (up (up (up (up (up (up (up (tsM 3 ta 2 hh) 0 (ta 0)) 1 (ta 1)) 2 (ta 2)) 3 (hh 0)) 4 (ta 4)) 5 (ta 5)) 6 (ta 6)) 7 (hh 1)) 8 (ta 8)) 9 (ta 9)) 10 (ta 10)) 11 (hh 2)) 12 (ta 12)) 13 (ta 13)) 14 (ta 14)) 15 0) (up (up (up ro 0 (rr 0)) 1 (rr 1)) 2 (rr 2)) ot Bm bk)) rfl ?_
  refine mWd (w2 := (MW 3 vs wo u h bo ta (tsM 3 ta 3 hh) (up (up (up ro 0 (rr 0)) 1 (rr 1)) 2 (rr 2)) ot Bm bk)) rfl ?_
  refine hC.2 _ 0 [] _ _ _ _ _ (m_det) rfl rfl (Nat.le_of_ble_eq_true rfl) rfl ?_
  refine mNf (lv2 := [(3, .int 16), (2, .int 3), (0, .ref 0), (1, .int 3)]) (st2 := [.long (rr 3), .int 3, .ref 12]) rfl (by rw [hrr 3] <;> rfl) ?_
  refine mB hT 6 rfl ?_
  exact hR _ (by decide) _ _ _ rfl rfl
set_option maxRecDepth 20000 in
theorem m_solve_3_3n {vs : Int32} {wo un h : Int64} {bo : Nat → Int32} {ta tr ro ot : Nat → Int64} {Bm : Nat → Nat → Nat → Int32} {bk : Nat → Nat → Int32} {u : Int64} {hh rr : Nat → Int64} (hs : wo < 0) (hu : u = -wo) (hq : ∀ j : Nat, hh j = (bk 3 j).toInt64) (hrr : ∀ i : Nat, rr i = -(dtM (tsM 3 ta i hh))) : KX3_solve l D ca ad [.ref 0, .int 3] (MW 3 vs wo un h bo ta tr ro ot Bm bk) none (MW 3 vs wo u h bo ta (tsM 3 ta 3 hh) rr ot Bm bk) := by
  refine PX3_solve (Nat.le_of_ble_eq_true rfl) ?_
  intro G hT hC hR
  refine mB hT 6 rfl ?_
  refine mIf (fun hp => absurd hp (fun q => Int64.not_lt.mpr (lc_ge.mp q) hs)) (fun _ => ?_)
  refine mB hT 4 rfl ?_
  refine mNf (lv2 := [(0, .ref 0), (1, .int 3)]) (st2 := [.long u, .ref 0]) rfl (by rw [hu] <;> rfl) ?_
  refine mB hT 37 rfl ?_
  refine mNf (lv2 := [(3, .int 0), (2, .int 0), (0, .ref 0), (1, .int 3)]) (st2 := [.long (hh 0), .int 0, .ref 11]) rfl (by rw [hq 0] <;> rfl) ?_
  refine mB hT 19 rfl ?_
  refine mB hT 1 rfl ?_
  refine mWd (w2 := (MW 3 vs wo u h bo ta (up (up tr 0 (hh 0)) 1 (ta 1)) ro ot Bm bk)) rfl ?_
  refine mB hT 18 rfl ?_
  refine mNf (lv2 := [(3, .int 2), (2, .int 0), (0, .ref 0), (1, .int 3)]) (st2 := [.long (ta 2), .int 2, .ref 11]) rfl rfl ?_
  refine mB hT 19 rfl ?_
  refine mB hT 32 rfl ?_
  refine mNf (lv2 := [(3, .int 4), (2, .int 0), (0, .ref 0), (1, .int 3)]) (st2 := [.long (hh 1), .int 4, .ref 11]) rfl (by rw [hq 1] <;> rfl) ?_
  refine mB hT 1 rfl ?_
  refine mWd (w2 := (MW 3 vs wo u h bo ta (up (up (up (up (up tr 0 (hh 0)) 1 (ta 1)) 2 (ta 2)) 3 (ta 3)) 4 (hh 1)) ro ot Bm bk)) rfl ?_
  refine mB hT 18 rfl ?_
  refine mB hT 19 rfl ?_
  refine mNf (lv2 := [(3, .int 6), (2, .int 0), (0, .ref 0), (1, .int 3)]) (st2 := [.long (ta 6), .int 6, .ref 11]) rfl rfl ?_
  refine mB hT 19 rfl ?_
  refine mB hT 1 rfl ?_
  refine mWd (w2 := (MW 3 vs wo u h bo ta (up (up (up (up (up (up (up (up tr 0 (hh 0)) 1 (ta 1)) 2 (ta 2)) 3 (ta 3)) 4 (hh 1)) 5 (ta 5)) 6 (ta 6)) 7 (ta 7)) ro ot Bm bk)) rfl ?_
  refine mB hT 31 rfl ?_
  refine mNf (lv2 := [(3, .int 8), (2, .int 0), (0, .ref 0), (1, .int 3)]) (st2 := [.long (hh 2), .int 8, .ref 11]) rfl (by rw [hq 2] <;> rfl) ?_
  refine mB hT 19 rfl ?_
  refine mB hT 19 rfl ?_
  refine mNf (lv2 := [(3, .int 10), (2, .int 0), (0, .ref 0), (1, .int 3)]) (st2 := [.long (ta 10), .int 10, .ref 11]) rfl rfl ?_
  refine mB hT 1 rfl ?_
  refine mWd (w2 := (MW 3 vs wo u h bo ta (up (up (up (up (up (up (up (up (up (up (up tr 0 (hh 0)) 1 (ta 1)) 2 (ta 2)) 3 (ta 3)) 4 (hh 1)) 5 (ta 5)) 6 (ta 6)) 7 (ta 7)) 8 (hh 2)) 9 (ta 9)) 10 (ta 10)) ro ot Bm bk)) rfl ?_
  refine mB hT 18 rfl ?_
  refine mB hT 21 rfl ?_
  refine mNf (lv2 := [(3, .int 12), (2, .int 0), (0, .ref 0), (1, .int 3)]) (st2 := [.long 0, .int 12, .ref 11]) rfl rfl ?_
  refine mB hT 19 rfl ?_
  refine mB hT 1 rfl ?_
  refine mWd (w2 := (MW 3 vs wo u h bo ta (up (up (up (up (up (up (up (up (up (up (up (up (up (up tr 0 (hh 0)) 1 (ta 1)) 2 (ta 2)) 3 (ta 3)) 4 (hh 1)) 5 (ta 5)) 6 (ta 6)) 7 (ta 7)) 8 (hh 2)) 9 (ta 9)) 10 (ta 10)) 11 (ta 11)) 12 0) 13 (ta 13)) ro ot Bm bk)) rfl ?_
  refine mB hT 18 rfl ?_
  refine mNf (lv2 := [(3, .int 14), (2, .int 0), (0, .ref 0), (1, .int 3)]) (st2 := [.long (ta 14), .int 14, .ref 11]) rfl rfl ?_
  refine mB hT 19 rfl ?_
  refine mB hT 14 rfl ?_
  refine mIf (fun hp => absurd hp (fun q => Int64.not_lt.mpr (lc_ge.mp q) hs)) (fun _ => ?_)
  refine mNf (lv2 := [(3, .int 16), (2, .int 0), (0, .ref 0), (1, .int 3)]) (st2 := [.int 0, .ref 12]) rfl rfl ?_
  refine mB hT 1 rfl ?_
  refine mWd (w2 := (MW 3 vs wo u h bo ta (up (up (up (up (up (up (up (up (up (up (up (up (up (up (up (up tr 0 (hh 0)) 1 (ta 1)) 2 (ta 2)) 3 (ta 3)) 4 (hh 1)) 5 (ta 5)) 6 (ta 6)) 7 (ta 7)) 8 (hh 2)) 9 (ta 9)) 10 (ta 10)) 11 (ta 11)) 12 0) 13 (ta 13)) 14 (ta 14)) 15 (ta 15)) ro ot Bm bk)) rfl ?_
  refine mWd (w2 := (MW 3 vs wo u h bo ta (tsM 3 ta 0 hh) ro ot Bm bk)) rfl ?_
  refine hC.1 _ 0 [] _ _ _ _ _ (m_det) rfl rfl (Nat.le_of_ble_eq_true rfl) rfl ?_
  refine mB hT 2 rfl ?_
  refine mNf (lv2 := [(3, .int 16), (2, .int 0), (0, .ref 0), (1, .int 3)]) (st2 := [.long (rr 0), .int 0, .ref 12]) rfl (by rw [hrr 0] <;> rfl) ?_
  refine mB hT 24 rfl ?_
  refine mNf (lv2 := [(3, .int 0), (2, .int 1), (0, .ref 0), (1, .int 3)]) (st2 := [.long (ta 0), .int 0, .ref 11]) rfl rfl ?_
  refine mB hT 32 rfl ?_
  refine mNf (lv2 := [(3, .int 1), (2, .int 1), (0, .ref 0), (1, .int 3)]) (st2 := [.long (hh 0), .int 1, .ref 11]) rfl (by rw [hq 0] <;> rfl) ?_
  refine mB hT 1 rfl ?_
  refine mWd (w2 := (MW 3 vs wo u h bo ta (up (up (tsM 3 ta 0 hh) 0 (ta 0)) 1 (hh 0)) (up ro 0 (rr 0)) ot Bm bk)) rfl ?_
  refine mB hT 18 rfl ?_
  refine mB hT 19 rfl ?_
  refine mNf (lv2 := [(3, .int 3), (2, .int 1), (0, .ref 0), (1, .int 3)]) (st2 := [.long (ta 3), .int 3, .ref 11]) rfl rfl ?_
  refine mB hT 19 rfl ?_
  refine mB hT 1 rfl ?_
  refine mWd (w2 := (MW 3 vs wo u h bo ta (up (up (up (up (up (tsM 3 ta 0 hh) 0 (ta 0)) 1 (hh 0)) 2 (ta 2)) 3 (ta 3)) 4 (ta 4)) (up ro 0 (rr 0)) ot Bm bk)) rfl ?_
  refine mB hT 31 rfl ?_
  refine mNf (lv2 := [(3, .int 5), (2, .int 1), (0, .ref 0), (1, .int 3)]) (st2 := [.long (hh 1), .int 5, .ref 11]) rfl (by rw [hq 1] <;> rfl) ?_
  refine mB hT 19 rfl ?_
  refine mB hT 19 rfl ?_
  refine mNf (lv2 := [(3, .int 7), (2, .int 1), (0, .ref 0), (1, .int 3)]) (st2 := [.long (ta 7), .int 7, .ref 11]) rfl rfl ?_
  refine mB hT 1 rfl ?_
  refine mWd (w2 := (MW 3 vs wo u h bo ta (up (up (up (up (up (up (up (up (tsM 3 ta 0 hh) 0 (ta 0)) 1 (hh 0)) 2 (ta 2)) 3 (ta 3)) 4 (ta 4)) 5 (hh 1)) 6 (ta 6)) 7 (ta 7)) (up ro 0 (rr 0)) ot Bm bk)) rfl ?_
  refine mB hT 18 rfl ?_
  refine mB hT 32 rfl ?_
  refine mNf (lv2 := [(3, .int 9), (2, .int 1), (0, .ref 0), (1, .int 3)]) (st2 := [.long (hh 2), .int 9, .ref 11]) rfl (by rw [hq 2] <;> rfl) ?_
  refine mB hT 19 rfl ?_
  refine mB hT 1 rfl ?_
  refine mWd (w2 := (MW 3 vs wo u h bo ta (up (up (up (up (up (up (up (up (up (up (up (tsM 3 ta 0 hh) 0 (ta 0)) 1 (hh 0)) 2 (ta 2)) 3 (ta 3)) 4 (ta 4)) 5 (hh 1)) 6 (ta 6)) 7 (ta 7)) 8 (ta 8)) 9 (hh 2)) 10 (ta 10)) (up ro 0 (rr 0)) ot Bm bk)) rfl ?_
  refine mB hT 18 rfl ?_
  refine mNf (lv2 := [(3, .int 11), (2, .int 1), (0, .ref 0), (1, .int 3)]) (st2 := [.long (ta 11), .int 11, .ref 11]) rfl rfl ?_
  refine mB hT 19 rfl ?_
  refine mB hT 21 rfl ?_
  refine mNf (lv2 := [(3, .int 13), (2, .int 1), (0, .ref 0), (1, .int 3)]) (st2 := [.long 0, .int 13, .ref 11]) rfl rfl ?_
  refine mB hT 1 rfl ?_
  refine mWd (w2 := (MW 3 vs wo u h bo ta (up (up (up (up (up (up (up (up (up (up (up (up (up (up (tsM 3 ta 0 hh) 0 (ta 0)) 1 (hh 0)) 2 (ta 2)) 3 (ta 3)) 4 (ta 4)) 5 (hh 1)) 6 (ta 6)) 7 (ta 7)) 8 (ta 8)) 9 (hh 2)) 10 (ta 10)) 11 (ta 11)) 12 (ta 12)) 13 0) (up ro 0 (rr 0)) ot Bm bk)) rfl ?_
  refine mB hT 18 rfl ?_
  refine mB hT 19 rfl ?_
  refine mNf (lv2 := [(3, .int 15), (2, .int 1), (0, .ref 0), (1, .int 3)]) (st2 := [.long (ta 15), .int 15, .ref 11]) rfl rfl ?_
  refine mB hT 14 rfl ?_
  refine mIf (fun hp => absurd hp (fun q => Int64.not_lt.mpr (lc_ge.mp q) hs)) (fun _ => ?_)
  refine mB hT 1 rfl ?_
  refine mWd (w2 := (MW 3 vs wo u h bo ta (up (up (up (up (up (up (up (up (up (up (up (up (up (up (up (up (tsM 3 ta 0 hh) 0 (ta 0)) 1 (hh 0)) 2 (ta 2)) 3 (ta 3)) 4 (ta 4)) 5 (hh 1)) 6 (ta 6)) 7 (ta 7)) 8 (ta 8)) 9 (hh 2)) 10 (ta 10)) 11 (ta 11)) 12 (ta 12)) 13 0) 14 (ta 14)) 15 (ta 15)) (up ro 0 (rr 0)) ot Bm bk)) rfl ?_
  refine mWd (w2 := (MW 3 vs wo u h bo ta (tsM 3 ta 1 hh) (up ro 0 (rr 0)) ot Bm bk)) rfl ?_
  refine hC.1 _ 0 [] _ _ _ _ _ (m_det) rfl rfl (Nat.le_of_ble_eq_true rfl) rfl ?_
  refine mB hT 2 rfl ?_
  refine mNf (lv2 := [(3, .int 16), (2, .int 1), (0, .ref 0), (1, .int 3)]) (st2 := [.long (rr 1), .int 1, .ref 12]) rfl (by rw [hrr 1] <;> rfl) ?_
  refine mB hT 24 rfl ?_
  refine mNf (lv2 := [(3, .int 0), (2, .int 2), (0, .ref 0), (1, .int 3)]) (st2 := [.long (ta 0), .int 0, .ref 11]) rfl rfl ?_
  refine mB hT 19 rfl ?_
  refine mB hT 1 rfl ?_
  refine mWd (w2 := (MW 3 vs wo u h bo ta (up (up (tsM 3 ta 1 hh) 0 (ta 0)) 1 (ta 1)) (up (up ro 0 (rr 0)) 1 (rr 1)) ot Bm bk)) rfl ?_
  refine mB hT 31 rfl ?_
  refine mNf (lv2 := [(3, .int 2), (2, .int 2), (0, .ref 0), (1, .int 3)]) (st2 := [.long (hh 0), .int 2, .ref 11]) rfl (by rw [hq 0] <;> rfl) ?_
  refine mB hT 19 rfl ?_
  refine mB hT 19 rfl ?_
  refine mNf (lv2 := [(3, .int 4), (2, .int 2), (0, .ref 0), (1, .int 3)]) (st2 := [.long (ta 4), .int 4, .ref 11]) rfl rfl ?_
  refine mB hT 1 rfl ?_
  refine mWd (w2 := (MW 3 vs wo u h bo ta (up (up (up (up (up (tsM 3 ta 1 hh) 0 (ta 0)) 1 (ta 1)) 2 (hh 0)) 3 (ta 3)) 4 (ta 4)) (up (up ro 0 (rr 0)) 1 (rr 1)) ot Bm bk)) rfl ?_
  refine mB hT 18 rfl ?_
  refine mB hT 32 rfl ?_
  refine mNf (lv2 := [(3, .int 6), (2, .int 2), (0, .ref 0), (1, .int 3)]) (st2 := [.long (hh 1), .int 6, .ref 11]) rfl (by rw [hq 1] <;> rfl) ?_
  refine mB hT 19 rfl ?_
  refine mB hT 1 rfl ?_
  refine mWd (w2 := (MW 3 vs wo u h bo ta (up (up (up (up (up (up (up (up (tsM 3 ta 1 hh) 0 (ta 0)) 1 (ta 1)) 2 (hh 0)) 3 (ta 3)) 4 (ta 4)) 5 (ta 5)) 6 (hh 1)) 7 (ta 7)) (up (up ro 0 (rr 0)) 1 (rr 1)) ot Bm bk)) rfl ?_
  refine mB hT 18 rfl ?_
  refine mNf (lv2 := [(3, .int 8), (2, .int 2), (0, .ref 0), (1, .int 3)]) (st2 := [.long (ta 8), .int 8, .ref 11]) rfl rfl ?_
  refine mB hT 19 rfl ?_
  refine mB hT 32 rfl ?_
  refine mNf (lv2 := [(3, .int 10), (2, .int 2), (0, .ref 0), (1, .int 3)]) (st2 := [.long (hh 2), .int 10, .ref 11]) rfl (by rw [hq 2] <;> rfl) ?_
  refine mB hT 1 rfl ?_
  refine mWd (w2 := (MW 3 vs wo u h bo ta (up (up (up (up (up (up (up (up (up (up (up (tsM 3 ta 1 hh) 0 (ta 0)) 1 (ta 1)) 2 (hh 0)) 3 (ta 3)) 4 (ta 4)) 5 (ta 5)) 6 (hh 1)) 7 (ta 7)) 8 (ta 8)) 9 (ta 9)) 10 (hh 2)) (up (up ro 0 (rr 0)) 1 (rr 1)) ot Bm bk)) rfl ?_
  refine mB hT 18 rfl ?_
  refine mB hT 19 rfl ?_
  refine mNf (lv2 := [(3, .int 12), (2, .int 2), (0, .ref 0), (1, .int 3)]) (st2 := [.long (ta 12), .int 12, .ref 11]) rfl rfl ?_
  refine mB hT 19 rfl ?_
  refine mB hT 1 rfl ?_
  refine mWd (w2 := (MW 3 vs wo u h bo ta (up (up (up (up (up (up (up (up (up (up (up (up (up (up (tsM 3 ta 1 hh) 0 (ta 0)) 1 (ta 1)) 2 (hh 0)) 3 (ta 3)) 4 (ta 4)) 5 (ta 5)) 6 (hh 1)) 7 (ta 7)) 8 (ta 8)) 9 (ta 9)) 10 (hh 2)) 11 (ta 11)) 12 (ta 12)) 13 (ta 13)) (up (up ro 0 (rr 0)) 1 (rr 1)) ot Bm bk)) rfl ?_
  refine mB hT 20 rfl ?_
  refine mNf (lv2 := [(3, .int 14), (2, .int 2), (0, .ref 0), (1, .int 3)]) (st2 := [.long 0, .int 14, .ref 11]) rfl rfl ?_
  refine mB hT 19 rfl ?_
  refine mB hT 14 rfl ?_
  refine mIf (fun hp => absurd hp (fun q => Int64.not_lt.mpr (lc_ge.mp q) hs)) (fun _ => ?_)
  refine mNf (lv2 := [(3, .int 16), (2, .int 2), (0, .ref 0), (1, .int 3)]) (st2 := [.int 2, .ref 12]) rfl rfl ?_
  refine mB hT 1 rfl ?_
  refine mWd (w2 := (MW 3 vs wo u h bo ta (up (up (up (up (up (up (up (up (up (up (up (up (up (up (up (up (tsM 3 ta 1 hh) 0 (ta 0)) 1 (ta 1)) 2 (hh 0)) 3 (ta 3)) 4 (ta 4)) 5 (ta 5)) 6 (hh 1)) 7 (ta 7)) 8 (ta 8)) 9 (ta 9)) 10 (hh 2)) 11 (ta 11)) 12 (ta 12)) 13 (ta 13)) 14 0) 15 (ta 15)) (up (up ro 0 (rr 0)) 1 (rr 1)) ot Bm bk)) rfl ?_
  refine mWd (w2 := (MW 3 vs wo u h bo ta (tsM 3 ta 2 hh) (up (up ro 0 (rr 0)) 1 (rr 1)) ot Bm bk)) rfl ?_
  refine hC.1 _ 0 [] _ _ _ _ _ (m_det) rfl rfl (Nat.le_of_ble_eq_true rfl) rfl ?_
  refine mB hT 2 rfl ?_
  refine mNf (lv2 := [(3, .int 16), (2, .int 2), (0, .ref 0), (1, .int 3)]) (st2 := [.long (rr 2), .int 2, .ref 12]) rfl (by rw [hrr 2] <;> rfl) ?_
  refine mB hT 24 rfl ?_
  refine mNf (lv2 := [(3, .int 0), (2, .int 3), (0, .ref 0), (1, .int 3)]) (st2 := [.long (ta 0), .int 0, .ref 11]) rfl rfl ?_
  refine mB hT 19 rfl ?_
  refine mB hT 1 rfl ?_
  refine mWd (w2 := (MW 3 vs wo u h bo ta (up (up (tsM 3 ta 2 hh) 0 (ta 0)) 1 (ta 1)) (up (up (up ro 0 (rr 0)) 1 (rr 1)) 2 (rr 2)) ot Bm bk)) rfl ?_
  refine mB hT 18 rfl ?_
  refine mNf (lv2 := [(3, .int 2), (2, .int 3), (0, .ref 0), (1, .int 3)]) (st2 := [.long (ta 2), .int 2, .ref 11]) rfl rfl ?_
  refine mB hT 32 rfl ?_
  refine mNf (lv2 := [(3, .int 3), (2, .int 3), (0, .ref 0), (1, .int 3)]) (st2 := [.long (hh 0), .int 3, .ref 11]) rfl (by rw [hq 0] <;> rfl) ?_
  refine mB hT 19 rfl ?_
  refine mB hT 1 rfl ?_
  refine mWd (w2 := (MW 3 vs wo u h bo ta (up (up (up (up (up (tsM 3 ta 2 hh) 0 (ta 0)) 1 (ta 1)) 2 (ta 2)) 3 (hh 0)) 4 (ta 4)) (up (up (up ro 0 (rr 0)) 1 (rr 1)) 2 (rr 2)) ot Bm bk)) rfl ?_
  refine mB hT 18 rfl ?_
  refine mNf (lv2 := [(3, .int 5), (2, .int 3), (0, .ref 0), (1, .int 3)]) (st2 := [.long (ta 5), .int 5, .ref 11]) rfl rfl ?_
  refine mB hT 19 rfl ?_
  refine mB hT 32 rfl ?_
  refine mNf (lv2 := [(3, .int 7), (2, .int 3), (0, .ref 0), (1, .int 3)]) (st2 := [.long (hh 1), .int 7, .ref 11]) rfl (by rw [hq 1] <;> rfl) ?_
  refine mB hT 1 rfl ?_
  refine mWd (w2 := (MW 3 vs wo u h bo ta (up (up (up (up (up (up (up (up (tsM 3 ta 2 hh) 0 (ta 0)) 1 (ta 1)) 2 (ta 2)) 3 (hh 0)) 4 (ta 4)) 5 (ta 5)) 6 (ta 6)) 7 (hh 1)) (up (up (up ro 0 (rr 0)) 1 (rr 1)) 2 (rr 2)) ot Bm bk)) rfl ?_
  refine mB hT 18 rfl ?_
  refine mB hT 19 rfl ?_
  refine mNf (lv2 := [(3, .int 9), (2, .int 3), (0, .ref 0), (1, .int 3)]) (st2 := [.long (ta 9), .int 9, .ref 11]) rfl rfl ?_
  refine mB hT 19 rfl ?_
  refine mB hT 1 rfl ?_
  refine mWd (w2 := (MW 3 vs wo u h bo ta (up (up (up (up (up (up (up (up (up (up (up (tsM 3 ta 2 hh) 0 (ta 0)) 1 (ta 1)) 2 (ta 2)) 3 (hh 0)) 4 (ta 4)) 5 (ta 5)) 6 (ta 6)) 7 (hh 1)) 8 (ta 8)) 9 (ta 9)) 10 (ta 10)) (up (up (up ro 0 (rr 0)) 1 (rr 1)) 2 (rr 2)) ot Bm bk)) rfl ?_
  refine mB hT 31 rfl ?_
  refine mNf (lv2 := [(3, .int 11), (2, .int 3), (0, .ref 0), (1, .int 3)]) (st2 := [.long (hh 2), .int 11, .ref 11]) rfl (by rw [hq 2] <;> rfl) ?_
  refine mB hT 19 rfl ?_
  refine mB hT 19 rfl ?_
  refine mNf (lv2 := [(3, .int 13), (2, .int 3), (0, .ref 0), (1, .int 3)]) (st2 := [.long (ta 13), .int 13, .ref 11]) rfl rfl ?_
  refine mB hT 1 rfl ?_
  refine mWd (w2 := (MW 3 vs wo u h bo ta (up (up (up (up (up (up (up (up (up (up (up (up (up (up (tsM 3 ta 2 hh) 0 (ta 0)) 1 (ta 1)) 2 (ta 2)) 3 (hh 0)) 4 (ta 4)) 5 (ta 5)) 6 (ta 6)) 7 (hh 1)) 8 (ta 8)) 9 (ta 9)) 10 (ta 10)) 11 (hh 2)) 12 (ta 12)) 13 (ta 13)) (up (up (up ro 0 (rr 0)) 1 (rr 1)) 2 (rr 2)) ot Bm bk)) rfl ?_
  refine mB hT 18 rfl ?_
  refine mB hT 21 rfl ?_
  refine mNf (lv2 := [(3, .int 15), (2, .int 3), (0, .ref 0), (1, .int 3)]) (st2 := [.long 0, .int 15, .ref 11]) rfl rfl ?_
  refine mB hT 14 rfl ?_
  refine mIf (fun hp => absurd hp (fun q => Int64.not_lt.mpr (lc_ge.mp q) hs)) (fun _ => ?_)
  refine mB hT 1 rfl ?_
  refine mWd (w2 := (MW 3 vs wo u h bo ta (up (up (up (up (up (up (up (up (up (up (up (up (up (up (up (up (tsM 3 ta 2 hh) 0 (ta 0)) 1 (ta 1)) 2 (ta 2)) 3 (hh 0)) 4 (ta 4)) 5 (ta 5)) 6 (ta 6)) 7 (hh 1)) 8 (ta 8)) 9 (ta 9)) 10 (ta 10)) 11 (hh 2)) 12 (ta 12)) 13 (ta 13)) 14 (ta 14)) 15 0) (up (up (up ro 0 (rr 0)) 1 (rr 1)) 2 (rr 2)) ot Bm bk)) rfl ?_
  refine mWd (w2 := (MW 3 vs wo u h bo ta (tsM 3 ta 3 hh) (up (up (up ro 0 (rr 0)) 1 (rr 1)) 2 (rr 2)) ot Bm bk)) rfl ?_
  refine hC.1 _ 0 [] _ _ _ _ _ (m_det) rfl rfl (Nat.le_of_ble_eq_true rfl) rfl ?_
  refine mB hT 2 rfl ?_
  refine mNf (lv2 := [(3, .int 16), (2, .int 3), (0, .ref 0), (1, .int 3)]) (st2 := [.long (rr 3), .int 3, .ref 12]) rfl (by rw [hrr 3] <;> rfl) ?_
  refine mB hT 6 rfl ?_
  exact hR _ (by decide) _ _ _ rfl rfl
set_option maxRecDepth 20000 in
theorem m_solve_4_0p {vs : Int32} {wo un h : Int64} {bo : Nat → Int32} {ta tr ro ot : Nat → Int64} {Bm : Nat → Nat → Nat → Int32} {bk : Nat → Nat → Int32} {u : Int64} {hh rr : Nat → Int64} (hs : ¬ wo < 0) (hu : u = wo) (hq : ∀ j : Nat, hh j = (bk 0 j).toInt64) (hrr : ∀ i : Nat, rr i = dtM (tsM 4 ta i hh)) : KX3_solve l D ca ad [.ref 0, .int 0] (MW 4 vs wo un h bo ta tr ro ot Bm bk) none (MW 4 vs wo u h bo ta (tsM 4 ta 3 hh) rr ot Bm bk) := by
  refine PX3_solve (Nat.le_of_ble_eq_true rfl) ?_
  intro G hT hC hR
  refine mB hT 6 rfl ?_
  refine mIf (fun _ => ?_) (fun hn => absurd (lc_ge.mpr (Int64.not_lt.mp hs)) hn)
  refine mB hT 2 rfl ?_
  refine mNf (lv2 := [(0, .ref 0), (1, .int 0)]) (st2 := [.long u, .ref 0]) rfl (by rw [hu] <;> rfl) ?_
  refine mB hT 37 rfl ?_
  refine mNf (lv2 := [(3, .int 0), (2, .int 0), (0, .ref 0), (1, .int 0)]) (st2 := [.long (hh 0), .int 0, .ref 11]) rfl (by rw [hq 0] <;> rfl) ?_
  refine mB hT 19 rfl ?_
  refine mB hT 1 rfl ?_
  refine mWd (w2 := (MW 4 vs wo u h bo ta (up (up tr 0 (hh 0)) 1 (ta 1)) ro ot Bm bk)) rfl ?_
  refine mB hT 18 rfl ?_
  refine mNf (lv2 := [(3, .int 2), (2, .int 0), (0, .ref 0), (1, .int 0)]) (st2 := [.long (ta 2), .int 2, .ref 11]) rfl rfl ?_
  refine mB hT 19 rfl ?_
  refine mB hT 32 rfl ?_
  refine mNf (lv2 := [(3, .int 4), (2, .int 0), (0, .ref 0), (1, .int 0)]) (st2 := [.long (hh 1), .int 4, .ref 11]) rfl (by rw [hq 1] <;> rfl) ?_
  refine mB hT 1 rfl ?_
  refine mWd (w2 := (MW 4 vs wo u h bo ta (up (up (up (up (up tr 0 (hh 0)) 1 (ta 1)) 2 (ta 2)) 3 (ta 3)) 4 (hh 1)) ro ot Bm bk)) rfl ?_
  refine mB hT 18 rfl ?_
  refine mB hT 19 rfl ?_
  refine mNf (lv2 := [(3, .int 6), (2, .int 0), (0, .ref 0), (1, .int 0)]) (st2 := [.long (ta 6), .int 6, .ref 11]) rfl rfl ?_
  refine mB hT 19 rfl ?_
  refine mB hT 1 rfl ?_
  refine mWd (w2 := (MW 4 vs wo u h bo ta (up (up (up (up (up (up (up (up tr 0 (hh 0)) 1 (ta 1)) 2 (ta 2)) 3 (ta 3)) 4 (hh 1)) 5 (ta 5)) 6 (ta 6)) 7 (ta 7)) ro ot Bm bk)) rfl ?_
  refine mB hT 31 rfl ?_
  refine mNf (lv2 := [(3, .int 8), (2, .int 0), (0, .ref 0), (1, .int 0)]) (st2 := [.long (hh 2), .int 8, .ref 11]) rfl (by rw [hq 2] <;> rfl) ?_
  refine mB hT 19 rfl ?_
  refine mB hT 19 rfl ?_
  refine mNf (lv2 := [(3, .int 10), (2, .int 0), (0, .ref 0), (1, .int 0)]) (st2 := [.long (ta 10), .int 10, .ref 11]) rfl rfl ?_
  refine mB hT 1 rfl ?_
  refine mWd (w2 := (MW 4 vs wo u h bo ta (up (up (up (up (up (up (up (up (up (up (up tr 0 (hh 0)) 1 (ta 1)) 2 (ta 2)) 3 (ta 3)) 4 (hh 1)) 5 (ta 5)) 6 (ta 6)) 7 (ta 7)) 8 (hh 2)) 9 (ta 9)) 10 (ta 10)) ro ot Bm bk)) rfl ?_
  refine mB hT 18 rfl ?_
  refine mB hT 32 rfl ?_
  refine mNf (lv2 := [(3, .int 12), (2, .int 0), (0, .ref 0), (1, .int 0)]) (st2 := [.long (hh 3), .int 12, .ref 11]) rfl (by rw [hq 3] <;> rfl) ?_
  refine mB hT 19 rfl ?_
  refine mB hT 1 rfl ?_
  refine mWd (w2 := (MW 4 vs wo u h bo ta (up (up (up (up (up (up (up (up (up (up (up (up (up (up tr 0 (hh 0)) 1 (ta 1)) 2 (ta 2)) 3 (ta 3)) 4 (hh 1)) 5 (ta 5)) 6 (ta 6)) 7 (ta 7)) 8 (hh 2)) 9 (ta 9)) 10 (ta 10)) 11 (ta 11)) 12 (hh 3)) 13 (ta 13)) ro ot Bm bk)) rfl ?_
  refine mB hT 18 rfl ?_
  refine mNf (lv2 := [(3, .int 14), (2, .int 0), (0, .ref 0), (1, .int 0)]) (st2 := [.long (ta 14), .int 14, .ref 11]) rfl rfl ?_
  refine mB hT 19 rfl ?_
  refine mB hT 14 rfl ?_
  refine mIf (fun _ => ?_) (fun hn => absurd (lc_ge.mpr (Int64.not_lt.mp hs)) hn)
  refine mNf (lv2 := [(3, .int 16), (2, .int 0), (0, .ref 0), (1, .int 0)]) (st2 := [.int 0, .ref 12]) rfl rfl ?_
  refine mB hT 1 rfl ?_
  refine mWd (w2 := (MW 4 vs wo u h bo ta (up (up (up (up (up (up (up (up (up (up (up (up (up (up (up (up tr 0 (hh 0)) 1 (ta 1)) 2 (ta 2)) 3 (ta 3)) 4 (hh 1)) 5 (ta 5)) 6 (ta 6)) 7 (ta 7)) 8 (hh 2)) 9 (ta 9)) 10 (ta 10)) 11 (ta 11)) 12 (hh 3)) 13 (ta 13)) 14 (ta 14)) 15 (ta 15)) ro ot Bm bk)) rfl ?_
  refine mWd (w2 := (MW 4 vs wo u h bo ta (tsM 4 ta 0 hh) ro ot Bm bk)) rfl ?_
  refine hC.2 _ 0 [] _ _ _ _ _ (m_det) rfl rfl (Nat.le_of_ble_eq_true rfl) rfl ?_
  refine mNf (lv2 := [(3, .int 16), (2, .int 0), (0, .ref 0), (1, .int 0)]) (st2 := [.long (rr 0), .int 0, .ref 12]) rfl (by rw [hrr 0] <;> rfl) ?_
  refine mB hT 24 rfl ?_
  refine mNf (lv2 := [(3, .int 0), (2, .int 1), (0, .ref 0), (1, .int 0)]) (st2 := [.long (ta 0), .int 0, .ref 11]) rfl rfl ?_
  refine mB hT 32 rfl ?_
  refine mNf (lv2 := [(3, .int 1), (2, .int 1), (0, .ref 0), (1, .int 0)]) (st2 := [.long (hh 0), .int 1, .ref 11]) rfl (by rw [hq 0] <;> rfl) ?_
  refine mB hT 1 rfl ?_
  refine mWd (w2 := (MW 4 vs wo u h bo ta (up (up (tsM 4 ta 0 hh) 0 (ta 0)) 1 (hh 0)) (up ro 0 (rr 0)) ot Bm bk)) rfl ?_
  refine mB hT 18 rfl ?_
  refine mB hT 19 rfl ?_
  refine mNf (lv2 := [(3, .int 3), (2, .int 1), (0, .ref 0), (1, .int 0)]) (st2 := [.long (ta 3), .int 3, .ref 11]) rfl rfl ?_
  refine mB hT 19 rfl ?_
  refine mB hT 1 rfl ?_
  refine mWd (w2 := (MW 4 vs wo u h bo ta (up (up (up (up (up (tsM 4 ta 0 hh) 0 (ta 0)) 1 (hh 0)) 2 (ta 2)) 3 (ta 3)) 4 (ta 4)) (up ro 0 (rr 0)) ot Bm bk)) rfl ?_
  refine mB hT 31 rfl ?_
  refine mNf (lv2 := [(3, .int 5), (2, .int 1), (0, .ref 0), (1, .int 0)]) (st2 := [.long (hh 1), .int 5, .ref 11]) rfl (by rw [hq 1] <;> rfl) ?_
  refine mB hT 19 rfl ?_
  refine mB hT 19 rfl ?_
  refine mNf (lv2 := [(3, .int 7), (2, .int 1), (0, .ref 0), (1, .int 0)]) (st2 := [.long (ta 7), .int 7, .ref 11]) rfl rfl ?_
  refine mB hT 1 rfl ?_
  refine mWd (w2 := (MW 4 vs wo u h bo ta (up (up (up (up (up (up (up (up (tsM 4 ta 0 hh) 0 (ta 0)) 1 (hh 0)) 2 (ta 2)) 3 (ta 3)) 4 (ta 4)) 5 (hh 1)) 6 (ta 6)) 7 (ta 7)) (up ro 0 (rr 0)) ot Bm bk)) rfl ?_
  refine mB hT 18 rfl ?_
  refine mB hT 32 rfl ?_
  refine mNf (lv2 := [(3, .int 9), (2, .int 1), (0, .ref 0), (1, .int 0)]) (st2 := [.long (hh 2), .int 9, .ref 11]) rfl (by rw [hq 2] <;> rfl) ?_
  refine mB hT 19 rfl ?_
  refine mB hT 1 rfl ?_
  refine mWd (w2 := (MW 4 vs wo u h bo ta (up (up (up (up (up (up (up (up (up (up (up (tsM 4 ta 0 hh) 0 (ta 0)) 1 (hh 0)) 2 (ta 2)) 3 (ta 3)) 4 (ta 4)) 5 (hh 1)) 6 (ta 6)) 7 (ta 7)) 8 (ta 8)) 9 (hh 2)) 10 (ta 10)) (up ro 0 (rr 0)) ot Bm bk)) rfl ?_
  refine mB hT 18 rfl ?_
  refine mNf (lv2 := [(3, .int 11), (2, .int 1), (0, .ref 0), (1, .int 0)]) (st2 := [.long (ta 11), .int 11, .ref 11]) rfl rfl ?_
  refine mB hT 19 rfl ?_
  refine mB hT 32 rfl ?_
  refine mNf (lv2 := [(3, .int 13), (2, .int 1), (0, .ref 0), (1, .int 0)]) (st2 := [.long (hh 3), .int 13, .ref 11]) rfl (by rw [hq 3] <;> rfl) ?_
  refine mB hT 1 rfl ?_
  refine mWd (w2 := (MW 4 vs wo u h bo ta (up (up (up (up (up (up (up (up (up (up (up (up (up (up (tsM 4 ta 0 hh) 0 (ta 0)) 1 (hh 0)) 2 (ta 2)) 3 (ta 3)) 4 (ta 4)) 5 (hh 1)) 6 (ta 6)) 7 (ta 7)) 8 (ta 8)) 9 (hh 2)) 10 (ta 10)) 11 (ta 11)) 12 (ta 12)) 13 (hh 3)) (up ro 0 (rr 0)) ot Bm bk)) rfl ?_
  refine mB hT 18 rfl ?_
  refine mB hT 19 rfl ?_
  refine mNf (lv2 := [(3, .int 15), (2, .int 1), (0, .ref 0), (1, .int 0)]) (st2 := [.long (ta 15), .int 15, .ref 11]) rfl rfl ?_
  refine mB hT 14 rfl ?_
  refine mIf (fun _ => ?_) (fun hn => absurd (lc_ge.mpr (Int64.not_lt.mp hs)) hn)
  refine mB hT 1 rfl ?_
  refine mWd (w2 := (MW 4 vs wo u h bo ta (up (up (up (up (up (up (up (up (up (up (up (up (up (up (up (up (tsM 4 ta 0 hh) 0 (ta 0)) 1 (hh 0)) 2 (ta 2)) 3 (ta 3)) 4 (ta 4)) 5 (hh 1)) 6 (ta 6)) 7 (ta 7)) 8 (ta 8)) 9 (hh 2)) 10 (ta 10)) 11 (ta 11)) 12 (ta 12)) 13 (hh 3)) 14 (ta 14)) 15 (ta 15)) (up ro 0 (rr 0)) ot Bm bk)) rfl ?_
  refine mWd (w2 := (MW 4 vs wo u h bo ta (tsM 4 ta 1 hh) (up ro 0 (rr 0)) ot Bm bk)) rfl ?_
  refine hC.2 _ 0 [] _ _ _ _ _ (m_det) rfl rfl (Nat.le_of_ble_eq_true rfl) rfl ?_
  refine mNf (lv2 := [(3, .int 16), (2, .int 1), (0, .ref 0), (1, .int 0)]) (st2 := [.long (rr 1), .int 1, .ref 12]) rfl (by rw [hrr 1] <;> rfl) ?_
  refine mB hT 24 rfl ?_
  refine mNf (lv2 := [(3, .int 0), (2, .int 2), (0, .ref 0), (1, .int 0)]) (st2 := [.long (ta 0), .int 0, .ref 11]) rfl rfl ?_
  refine mB hT 19 rfl ?_
  refine mB hT 1 rfl ?_
  refine mWd (w2 := (MW 4 vs wo u h bo ta (up (up (tsM 4 ta 1 hh) 0 (ta 0)) 1 (ta 1)) (up (up ro 0 (rr 0)) 1 (rr 1)) ot Bm bk)) rfl ?_
  refine mB hT 31 rfl ?_
  refine mNf (lv2 := [(3, .int 2), (2, .int 2), (0, .ref 0), (1, .int 0)]) (st2 := [.long (hh 0), .int 2, .ref 11]) rfl (by rw [hq 0] <;> rfl) ?_
  refine mB hT 19 rfl ?_
  refine mB hT 19 rfl ?_
  refine mNf (lv2 := [(3, .int 4), (2, .int 2), (0, .ref 0), (1, .int 0)]) (st2 := [.long (ta 4), .int 4, .ref 11]) rfl rfl ?_
  refine mB hT 1 rfl ?_
  refine mWd (w2 := (MW 4 vs wo u h bo ta (up (up (up (up (up (tsM 4 ta 1 hh) 0 (ta 0)) 1 (ta 1)) 2 (hh 0)) 3 (ta 3)) 4 (ta 4)) (up (up ro 0 (rr 0)) 1 (rr 1)) ot Bm bk)) rfl ?_
  refine mB hT 18 rfl ?_
  refine mB hT 32 rfl ?_
  refine mNf (lv2 := [(3, .int 6), (2, .int 2), (0, .ref 0), (1, .int 0)]) (st2 := [.long (hh 1), .int 6, .ref 11]) rfl (by rw [hq 1] <;> rfl) ?_
  refine mB hT 19 rfl ?_
  refine mB hT 1 rfl ?_
  refine mWd (w2 := (MW 4 vs wo u h bo ta (up (up (up (up (up (up (up (up (tsM 4 ta 1 hh) 0 (ta 0)) 1 (ta 1)) 2 (hh 0)) 3 (ta 3)) 4 (ta 4)) 5 (ta 5)) 6 (hh 1)) 7 (ta 7)) (up (up ro 0 (rr 0)) 1 (rr 1)) ot Bm bk)) rfl ?_
  refine mB hT 18 rfl ?_
  refine mNf (lv2 := [(3, .int 8), (2, .int 2), (0, .ref 0), (1, .int 0)]) (st2 := [.long (ta 8), .int 8, .ref 11]) rfl rfl ?_
  refine mB hT 19 rfl ?_
  refine mB hT 32 rfl ?_
  refine mNf (lv2 := [(3, .int 10), (2, .int 2), (0, .ref 0), (1, .int 0)]) (st2 := [.long (hh 2), .int 10, .ref 11]) rfl (by rw [hq 2] <;> rfl) ?_
  refine mB hT 1 rfl ?_
  refine mWd (w2 := (MW 4 vs wo u h bo ta (up (up (up (up (up (up (up (up (up (up (up (tsM 4 ta 1 hh) 0 (ta 0)) 1 (ta 1)) 2 (hh 0)) 3 (ta 3)) 4 (ta 4)) 5 (ta 5)) 6 (hh 1)) 7 (ta 7)) 8 (ta 8)) 9 (ta 9)) 10 (hh 2)) (up (up ro 0 (rr 0)) 1 (rr 1)) ot Bm bk)) rfl ?_
  refine mB hT 18 rfl ?_
  refine mB hT 19 rfl ?_
  refine mNf (lv2 := [(3, .int 12), (2, .int 2), (0, .ref 0), (1, .int 0)]) (st2 := [.long (ta 12), .int 12, .ref 11]) rfl rfl ?_
  refine mB hT 19 rfl ?_
  refine mB hT 1 rfl ?_
  refine mWd (w2 := (MW 4 vs wo u h bo ta (up (up (up (up (up (up (up (up (up (up (up (up (up (up (tsM 4 ta 1 hh) 0 (ta 0)) 1 (ta 1)) 2 (hh 0)) 3 (ta 3)) 4 (ta 4)) 5 (ta 5)) 6 (hh 1)) 7 (ta 7)) 8 (ta 8)) 9 (ta 9)) 10 (hh 2)) 11 (ta 11)) 12 (ta 12)) 13 (ta 13)) (up (up ro 0 (rr 0)) 1 (rr 1)) ot Bm bk)) rfl ?_
  refine mB hT 31 rfl ?_
  refine mNf (lv2 := [(3, .int 14), (2, .int 2), (0, .ref 0), (1, .int 0)]) (st2 := [.long (hh 3), .int 14, .ref 11]) rfl (by rw [hq 3] <;> rfl) ?_
  refine mB hT 19 rfl ?_
  refine mB hT 14 rfl ?_
  refine mIf (fun _ => ?_) (fun hn => absurd (lc_ge.mpr (Int64.not_lt.mp hs)) hn)
  refine mNf (lv2 := [(3, .int 16), (2, .int 2), (0, .ref 0), (1, .int 0)]) (st2 := [.int 2, .ref 12]) rfl rfl ?_
  refine mB hT 1 rfl ?_
  refine mWd (w2 := (MW 4 vs wo u h bo ta (up (up (up (up (up (up (up (up (up (up (up (up (up (up (up (up (tsM 4 ta 1 hh) 0 (ta 0)) 1 (ta 1)) 2 (hh 0)) 3 (ta 3)) 4 (ta 4)) 5 (ta 5)) 6 (hh 1)) 7 (ta 7)) 8 (ta 8)) 9 (ta 9)) 10 (hh 2)) 11 (ta 11)) 12 (ta 12)) 13 (ta 13)) 14 (hh 3)) 15 (ta 15)) (up (up ro 0 (rr 0)) 1 (rr 1)) ot Bm bk)) rfl ?_
  refine mWd (w2 := (MW 4 vs wo u h bo ta (tsM 4 ta 2 hh) (up (up ro 0 (rr 0)) 1 (rr 1)) ot Bm bk)) rfl ?_
  refine hC.2 _ 0 [] _ _ _ _ _ (m_det) rfl rfl (Nat.le_of_ble_eq_true rfl) rfl ?_
  refine mNf (lv2 := [(3, .int 16), (2, .int 2), (0, .ref 0), (1, .int 0)]) (st2 := [.long (rr 2), .int 2, .ref 12]) rfl (by rw [hrr 2] <;> rfl) ?_
  refine mB hT 24 rfl ?_
  refine mNf (lv2 := [(3, .int 0), (2, .int 3), (0, .ref 0), (1, .int 0)]) (st2 := [.long (ta 0), .int 0, .ref 11]) rfl rfl ?_
  refine mB hT 19 rfl ?_
  refine mB hT 1 rfl ?_
  refine mWd (w2 := (MW 4 vs wo u h bo ta (up (up (tsM 4 ta 2 hh) 0 (ta 0)) 1 (ta 1)) (up (up (up ro 0 (rr 0)) 1 (rr 1)) 2 (rr 2)) ot Bm bk)) rfl ?_
  refine mB hT 18 rfl ?_
  refine mNf (lv2 := [(3, .int 2), (2, .int 3), (0, .ref 0), (1, .int 0)]) (st2 := [.long (ta 2), .int 2, .ref 11]) rfl rfl ?_
  refine mB hT 32 rfl ?_
  refine mNf (lv2 := [(3, .int 3), (2, .int 3), (0, .ref 0), (1, .int 0)]) (st2 := [.long (hh 0), .int 3, .ref 11]) rfl (by rw [hq 0] <;> rfl) ?_
  refine mB hT 19 rfl ?_
  refine mB hT 1 rfl ?_
  refine mWd (w2 := (MW 4 vs wo u h bo ta (up (up (up (up (up (tsM 4 ta 2 hh) 0 (ta 0)) 1 (ta 1)) 2 (ta 2)) 3 (hh 0)) 4 (ta 4)) (up (up (up ro 0 (rr 0)) 1 (rr 1)) 2 (rr 2)) ot Bm bk)) rfl ?_
  refine mB hT 18 rfl ?_
  refine mNf (lv2 := [(3, .int 5), (2, .int 3), (0, .ref 0), (1, .int 0)]) (st2 := [.long (ta 5), .int 5, .ref 11]) rfl rfl ?_
  refine mB hT 19 rfl ?_
  refine mB hT 32 rfl ?_
  refine mNf (lv2 := [(3, .int 7), (2, .int 3), (0, .ref 0), (1, .int 0)]) (st2 := [.long (hh 1), .int 7, .ref 11]) rfl (by rw [hq 1] <;> rfl) ?_
  refine mB hT 1 rfl ?_
  refine mWd (w2 := (MW 4 vs wo u h bo ta (up (up (up (up (up (up (up (up (tsM 4 ta 2 hh) 0 (ta 0)) 1 (ta 1)) 2 (ta 2)) 3 (hh 0)) 4 (ta 4)) 5 (ta 5)) 6 (ta 6)) 7 (hh 1)) (up (up (up ro 0 (rr 0)) 1 (rr 1)) 2 (rr 2)) ot Bm bk)) rfl ?_
  refine mB hT 18 rfl ?_
  refine mB hT 19 rfl ?_
  refine mNf (lv2 := [(3, .int 9), (2, .int 3), (0, .ref 0), (1, .int 0)]) (st2 := [.long (ta 9), .int 9, .ref 11]) rfl rfl ?_
  refine mB hT 19 rfl ?_
  refine mB hT 1 rfl ?_
  refine mWd (w2 := (MW 4 vs wo u h bo ta (up (up (up (up (up (up (up (up (up (up (up (tsM 4 ta 2 hh) 0 (ta 0)) 1 (ta 1)) 2 (ta 2)) 3 (hh 0)) 4 (ta 4)) 5 (ta 5)) 6 (ta 6)) 7 (hh 1)) 8 (ta 8)) 9 (ta 9)) 10 (ta 10)) (up (up (up ro 0 (rr 0)) 1 (rr 1)) 2 (rr 2)) ot Bm bk)) rfl ?_
  refine mB hT 31 rfl ?_
  refine mNf (lv2 := [(3, .int 11), (2, .int 3), (0, .ref 0), (1, .int 0)]) (st2 := [.long (hh 2), .int 11, .ref 11]) rfl (by rw [hq 2] <;> rfl) ?_
  refine mB hT 19 rfl ?_
  refine mB hT 19 rfl ?_
  refine mNf (lv2 := [(3, .int 13), (2, .int 3), (0, .ref 0), (1, .int 0)]) (st2 := [.long (ta 13), .int 13, .ref 11]) rfl rfl ?_
  refine mB hT 1 rfl ?_
  refine mWd (w2 := (MW 4 vs wo u h bo ta (up (up (up (up (up (up (up (up (up (up (up (up (up (up (tsM 4 ta 2 hh) 0 (ta 0)) 1 (ta 1)) 2 (ta 2)) 3 (hh 0)) 4 (ta 4)) 5 (ta 5)) 6 (ta 6)) 7 (hh 1)) 8 (ta 8)) 9 (ta 9)) 10 (ta 10)) 11 (hh 2)) 12 (ta 12)) 13 (ta 13)) (up (up (up ro 0 (rr 0)) 1 (rr 1)) 2 (rr 2)) ot Bm bk)) rfl ?_
  refine mB hT 18 rfl ?_
  refine mB hT 32 rfl ?_
  refine mNf (lv2 := [(3, .int 15), (2, .int 3), (0, .ref 0), (1, .int 0)]) (st2 := [.long (hh 3), .int 15, .ref 11]) rfl (by rw [hq 3] <;> rfl) ?_
  refine mB hT 14 rfl ?_
  refine mIf (fun _ => ?_) (fun hn => absurd (lc_ge.mpr (Int64.not_lt.mp hs)) hn)
  refine mB hT 1 rfl ?_
  refine mWd (w2 := (MW 4 vs wo u h bo ta (up (up (up (up (up (up (up (up (up (up (up (up (up (up (up (up (tsM 4 ta 2 hh) 0 (ta 0)) 1 (ta 1)) 2 (ta 2)) 3 (hh 0)) 4 (ta 4)) 5 (ta 5)) 6 (ta 6)) 7 (hh 1)) 8 (ta 8)) 9 (ta 9)) 10 (ta 10)) 11 (hh 2)) 12 (ta 12)) 13 (ta 13)) 14 (ta 14)) 15 (hh 3)) (up (up (up ro 0 (rr 0)) 1 (rr 1)) 2 (rr 2)) ot Bm bk)) rfl ?_
  refine mWd (w2 := (MW 4 vs wo u h bo ta (tsM 4 ta 3 hh) (up (up (up ro 0 (rr 0)) 1 (rr 1)) 2 (rr 2)) ot Bm bk)) rfl ?_
  refine hC.2 _ 0 [] _ _ _ _ _ (m_det) rfl rfl (Nat.le_of_ble_eq_true rfl) rfl ?_
  refine mNf (lv2 := [(3, .int 16), (2, .int 3), (0, .ref 0), (1, .int 0)]) (st2 := [.long (rr 3), .int 3, .ref 12]) rfl (by rw [hrr 3] <;> rfl) ?_
  refine mB hT 6 rfl ?_
  exact hR _ (by decide) _ _ _ rfl rfl
set_option maxRecDepth 20000 in
theorem m_solve_4_0n {vs : Int32} {wo un h : Int64} {bo : Nat → Int32} {ta tr ro ot : Nat → Int64} {Bm : Nat → Nat → Nat → Int32} {bk : Nat → Nat → Int32} {u : Int64} {hh rr : Nat → Int64} (hs : wo < 0) (hu : u = -wo) (hq : ∀ j : Nat, hh j = (bk 0 j).toInt64) (hrr : ∀ i : Nat, rr i = -(dtM (tsM 4 ta i hh))) : KX3_solve l D ca ad [.ref 0, .int 0] (MW 4 vs wo un h bo ta tr ro ot Bm bk) none (MW 4 vs wo u h bo ta (tsM 4 ta 3 hh) rr ot Bm bk) := by
  refine PX3_solve (Nat.le_of_ble_eq_true rfl) ?_
  intro G hT hC hR
  refine mB hT 6 rfl ?_
  refine mIf (fun hp => absurd hp (fun q => Int64.not_lt.mpr (lc_ge.mp q) hs)) (fun _ => ?_)
  refine mB hT 4 rfl ?_
  refine mNf (lv2 := [(0, .ref 0), (1, .int 0)]) (st2 := [.long u, .ref 0]) rfl (by rw [hu] <;> rfl) ?_
  refine mB hT 37 rfl ?_
  refine mNf (lv2 := [(3, .int 0), (2, .int 0), (0, .ref 0), (1, .int 0)]) (st2 := [.long (hh 0), .int 0, .ref 11]) rfl (by rw [hq 0] <;> rfl) ?_
  refine mB hT 19 rfl ?_
  refine mB hT 1 rfl ?_
  refine mWd (w2 := (MW 4 vs wo u h bo ta (up (up tr 0 (hh 0)) 1 (ta 1)) ro ot Bm bk)) rfl ?_
  refine mB hT 18 rfl ?_
  refine mNf (lv2 := [(3, .int 2), (2, .int 0), (0, .ref 0), (1, .int 0)]) (st2 := [.long (ta 2), .int 2, .ref 11]) rfl rfl ?_
  refine mB hT 19 rfl ?_
  refine mB hT 32 rfl ?_
  refine mNf (lv2 := [(3, .int 4), (2, .int 0), (0, .ref 0), (1, .int 0)]) (st2 := [.long (hh 1), .int 4, .ref 11]) rfl (by rw [hq 1] <;> rfl) ?_
  refine mB hT 1 rfl ?_
  refine mWd (w2 := (MW 4 vs wo u h bo ta (up (up (up (up (up tr 0 (hh 0)) 1 (ta 1)) 2 (ta 2)) 3 (ta 3)) 4 (hh 1)) ro ot Bm bk)) rfl ?_
  refine mB hT 18 rfl ?_
  refine mB hT 19 rfl ?_
  refine mNf (lv2 := [(3, .int 6), (2, .int 0), (0, .ref 0), (1, .int 0)]) (st2 := [.long (ta 6), .int 6, .ref 11]) rfl rfl ?_
  refine mB hT 19 rfl ?_
  refine mB hT 1 rfl ?_
  refine mWd (w2 := (MW 4 vs wo u h bo ta (up (up (up (up (up (up (up (up tr 0 (hh 0)) 1 (ta 1)) 2 (ta 2)) 3 (ta 3)) 4 (hh 1)) 5 (ta 5)) 6 (ta 6)) 7 (ta 7)) ro ot Bm bk)) rfl ?_
  refine mB hT 31 rfl ?_
  refine mNf (lv2 := [(3, .int 8), (2, .int 0), (0, .ref 0), (1, .int 0)]) (st2 := [.long (hh 2), .int 8, .ref 11]) rfl (by rw [hq 2] <;> rfl) ?_
  refine mB hT 19 rfl ?_
  refine mB hT 19 rfl ?_
  refine mNf (lv2 := [(3, .int 10), (2, .int 0), (0, .ref 0), (1, .int 0)]) (st2 := [.long (ta 10), .int 10, .ref 11]) rfl rfl ?_
  refine mB hT 1 rfl ?_
  refine mWd (w2 := (MW 4 vs wo u h bo ta (up (up (up (up (up (up (up (up (up (up (up tr 0 (hh 0)) 1 (ta 1)) 2 (ta 2)) 3 (ta 3)) 4 (hh 1)) 5 (ta 5)) 6 (ta 6)) 7 (ta 7)) 8 (hh 2)) 9 (ta 9)) 10 (ta 10)) ro ot Bm bk)) rfl ?_
  refine mB hT 18 rfl ?_
  refine mB hT 32 rfl ?_
  refine mNf (lv2 := [(3, .int 12), (2, .int 0), (0, .ref 0), (1, .int 0)]) (st2 := [.long (hh 3), .int 12, .ref 11]) rfl (by rw [hq 3] <;> rfl) ?_
  refine mB hT 19 rfl ?_
  refine mB hT 1 rfl ?_
  refine mWd (w2 := (MW 4 vs wo u h bo ta (up (up (up (up (up (up (up (up (up (up (up (up (up (up tr 0 (hh 0)) 1 (ta 1)) 2 (ta 2)) 3 (ta 3)) 4 (hh 1)) 5 (ta 5)) 6 (ta 6)) 7 (ta 7)) 8 (hh 2)) 9 (ta 9)) 10 (ta 10)) 11 (ta 11)) 12 (hh 3)) 13 (ta 13)) ro ot Bm bk)) rfl ?_
  refine mB hT 18 rfl ?_
  refine mNf (lv2 := [(3, .int 14), (2, .int 0), (0, .ref 0), (1, .int 0)]) (st2 := [.long (ta 14), .int 14, .ref 11]) rfl rfl ?_
  refine mB hT 19 rfl ?_
  refine mB hT 14 rfl ?_
  refine mIf (fun hp => absurd hp (fun q => Int64.not_lt.mpr (lc_ge.mp q) hs)) (fun _ => ?_)
  refine mNf (lv2 := [(3, .int 16), (2, .int 0), (0, .ref 0), (1, .int 0)]) (st2 := [.int 0, .ref 12]) rfl rfl ?_
  refine mB hT 1 rfl ?_
  refine mWd (w2 := (MW 4 vs wo u h bo ta (up (up (up (up (up (up (up (up (up (up (up (up (up (up (up (up tr 0 (hh 0)) 1 (ta 1)) 2 (ta 2)) 3 (ta 3)) 4 (hh 1)) 5 (ta 5)) 6 (ta 6)) 7 (ta 7)) 8 (hh 2)) 9 (ta 9)) 10 (ta 10)) 11 (ta 11)) 12 (hh 3)) 13 (ta 13)) 14 (ta 14)) 15 (ta 15)) ro ot Bm bk)) rfl ?_
  refine mWd (w2 := (MW 4 vs wo u h bo ta (tsM 4 ta 0 hh) ro ot Bm bk)) rfl ?_
  refine hC.1 _ 0 [] _ _ _ _ _ (m_det) rfl rfl (Nat.le_of_ble_eq_true rfl) rfl ?_
  refine mB hT 2 rfl ?_
  refine mNf (lv2 := [(3, .int 16), (2, .int 0), (0, .ref 0), (1, .int 0)]) (st2 := [.long (rr 0), .int 0, .ref 12]) rfl (by rw [hrr 0] <;> rfl) ?_
  refine mB hT 24 rfl ?_
  refine mNf (lv2 := [(3, .int 0), (2, .int 1), (0, .ref 0), (1, .int 0)]) (st2 := [.long (ta 0), .int 0, .ref 11]) rfl rfl ?_
  refine mB hT 32 rfl ?_
  refine mNf (lv2 := [(3, .int 1), (2, .int 1), (0, .ref 0), (1, .int 0)]) (st2 := [.long (hh 0), .int 1, .ref 11]) rfl (by rw [hq 0] <;> rfl) ?_
  refine mB hT 1 rfl ?_
  refine mWd (w2 := (MW 4 vs wo u h bo ta (up (up (tsM 4 ta 0 hh) 0 (ta 0)) 1 (hh 0)) (up ro 0 (rr 0)) ot Bm bk)) rfl ?_
  refine mB hT 18 rfl ?_
  refine mB hT 19 rfl ?_
  refine mNf (lv2 := [(3, .int 3), (2, .int 1), (0, .ref 0), (1, .int 0)]) (st2 := [.long (ta 3), .int 3, .ref 11]) rfl rfl ?_
  refine mB hT 19 rfl ?_
  refine mB hT 1 rfl ?_
  refine mWd (w2 := (MW 4 vs wo u h bo ta (up (up (up (up (up (tsM 4 ta 0 hh) 0 (ta 0)) 1 (hh 0)) 2 (ta 2)) 3 (ta 3)) 4 (ta 4)) (up ro 0 (rr 0)) ot Bm bk)) rfl ?_
  refine mB hT 31 rfl ?_
  refine mNf (lv2 := [(3, .int 5), (2, .int 1), (0, .ref 0), (1, .int 0)]) (st2 := [.long (hh 1), .int 5, .ref 11]) rfl (by rw [hq 1] <;> rfl) ?_
  refine mB hT 19 rfl ?_
  refine mB hT 19 rfl ?_
  refine mNf (lv2 := [(3, .int 7), (2, .int 1), (0, .ref 0), (1, .int 0)]) (st2 := [.long (ta 7), .int 7, .ref 11]) rfl rfl ?_
  refine mB hT 1 rfl ?_
  refine mWd (w2 := (MW 4 vs wo u h bo ta (up (up (up (up (up (up (up (up (tsM 4 ta 0 hh) 0 (ta 0)) 1 (hh 0)) 2 (ta 2)) 3 (ta 3)) 4 (ta 4)) 5 (hh 1)) 6 (ta 6)) 7 (ta 7)) (up ro 0 (rr 0)) ot Bm bk)) rfl ?_
  refine mB hT 18 rfl ?_
  refine mB hT 32 rfl ?_
  refine mNf (lv2 := [(3, .int 9), (2, .int 1), (0, .ref 0), (1, .int 0)]) (st2 := [.long (hh 2), .int 9, .ref 11]) rfl (by rw [hq 2] <;> rfl) ?_
  refine mB hT 19 rfl ?_
  refine mB hT 1 rfl ?_
  refine mWd (w2 := (MW 4 vs wo u h bo ta (up (up (up (up (up (up (up (up (up (up (up (tsM 4 ta 0 hh) 0 (ta 0)) 1 (hh 0)) 2 (ta 2)) 3 (ta 3)) 4 (ta 4)) 5 (hh 1)) 6 (ta 6)) 7 (ta 7)) 8 (ta 8)) 9 (hh 2)) 10 (ta 10)) (up ro 0 (rr 0)) ot Bm bk)) rfl ?_
  refine mB hT 18 rfl ?_
  refine mNf (lv2 := [(3, .int 11), (2, .int 1), (0, .ref 0), (1, .int 0)]) (st2 := [.long (ta 11), .int 11, .ref 11]) rfl rfl ?_
  refine mB hT 19 rfl ?_
  refine mB hT 32 rfl ?_
  refine mNf (lv2 := [(3, .int 13), (2, .int 1), (0, .ref 0), (1, .int 0)]) (st2 := [.long (hh 3), .int 13, .ref 11]) rfl (by rw [hq 3] <;> rfl) ?_
  refine mB hT 1 rfl ?_
  refine mWd (w2 := (MW 4 vs wo u h bo ta (up (up (up (up (up (up (up (up (up (up (up (up (up (up (tsM 4 ta 0 hh) 0 (ta 0)) 1 (hh 0)) 2 (ta 2)) 3 (ta 3)) 4 (ta 4)) 5 (hh 1)) 6 (ta 6)) 7 (ta 7)) 8 (ta 8)) 9 (hh 2)) 10 (ta 10)) 11 (ta 11)) 12 (ta 12)) 13 (hh 3)) (up ro 0 (rr 0)) ot Bm bk)) rfl ?_
  refine mB hT 18 rfl ?_
  refine mB hT 19 rfl ?_
  refine mNf (lv2 := [(3, .int 15), (2, .int 1), (0, .ref 0), (1, .int 0)]) (st2 := [.long (ta 15), .int 15, .ref 11]) rfl rfl ?_
  refine mB hT 14 rfl ?_
  refine mIf (fun hp => absurd hp (fun q => Int64.not_lt.mpr (lc_ge.mp q) hs)) (fun _ => ?_)
  refine mB hT 1 rfl ?_
  refine mWd (w2 := (MW 4 vs wo u h bo ta (up (up (up (up (up (up (up (up (up (up (up (up (up (up (up (up (tsM 4 ta 0 hh) 0 (ta 0)) 1 (hh 0)) 2 (ta 2)) 3 (ta 3)) 4 (ta 4)) 5 (hh 1)) 6 (ta 6)) 7 (ta 7)) 8 (ta 8)) 9 (hh 2)) 10 (ta 10)) 11 (ta 11)) 12 (ta 12)) 13 (hh 3)) 14 (ta 14)) 15 (ta 15)) (up ro 0 (rr 0)) ot Bm bk)) rfl ?_
  refine mWd (w2 := (MW 4 vs wo u h bo ta (tsM 4 ta 1 hh) (up ro 0 (rr 0)) ot Bm bk)) rfl ?_
  refine hC.1 _ 0 [] _ _ _ _ _ (m_det) rfl rfl (Nat.le_of_ble_eq_true rfl) rfl ?_
  refine mB hT 2 rfl ?_
  refine mNf (lv2 := [(3, .int 16), (2, .int 1), (0, .ref 0), (1, .int 0)]) (st2 := [.long (rr 1), .int 1, .ref 12]) rfl (by rw [hrr 1] <;> rfl) ?_
  refine mB hT 24 rfl ?_
  refine mNf (lv2 := [(3, .int 0), (2, .int 2), (0, .ref 0), (1, .int 0)]) (st2 := [.long (ta 0), .int 0, .ref 11]) rfl rfl ?_
  refine mB hT 19 rfl ?_
  refine mB hT 1 rfl ?_
  refine mWd (w2 := (MW 4 vs wo u h bo ta (up (up (tsM 4 ta 1 hh) 0 (ta 0)) 1 (ta 1)) (up (up ro 0 (rr 0)) 1 (rr 1)) ot Bm bk)) rfl ?_
  refine mB hT 31 rfl ?_
  refine mNf (lv2 := [(3, .int 2), (2, .int 2), (0, .ref 0), (1, .int 0)]) (st2 := [.long (hh 0), .int 2, .ref 11]) rfl (by rw [hq 0] <;> rfl) ?_
  refine mB hT 19 rfl ?_
  refine mB hT 19 rfl ?_
  refine mNf (lv2 := [(3, .int 4), (2, .int 2), (0, .ref 0), (1, .int 0)]) (st2 := [.long (ta 4), .int 4, .ref 11]) rfl rfl ?_
  refine mB hT 1 rfl ?_
  refine mWd (w2 := (MW 4 vs wo u h bo ta (up (up (up (up (up (tsM 4 ta 1 hh) 0 (ta 0)) 1 (ta 1)) 2 (hh 0)) 3 (ta 3)) 4 (ta 4)) (up (up ro 0 (rr 0)) 1 (rr 1)) ot Bm bk)) rfl ?_
  refine mB hT 18 rfl ?_
  refine mB hT 32 rfl ?_
  refine mNf (lv2 := [(3, .int 6), (2, .int 2), (0, .ref 0), (1, .int 0)]) (st2 := [.long (hh 1), .int 6, .ref 11]) rfl (by rw [hq 1] <;> rfl) ?_
  refine mB hT 19 rfl ?_
  refine mB hT 1 rfl ?_
  refine mWd (w2 := (MW 4 vs wo u h bo ta (up (up (up (up (up (up (up (up (tsM 4 ta 1 hh) 0 (ta 0)) 1 (ta 1)) 2 (hh 0)) 3 (ta 3)) 4 (ta 4)) 5 (ta 5)) 6 (hh 1)) 7 (ta 7)) (up (up ro 0 (rr 0)) 1 (rr 1)) ot Bm bk)) rfl ?_
  refine mB hT 18 rfl ?_
  refine mNf (lv2 := [(3, .int 8), (2, .int 2), (0, .ref 0), (1, .int 0)]) (st2 := [.long (ta 8), .int 8, .ref 11]) rfl rfl ?_
  refine mB hT 19 rfl ?_
  refine mB hT 32 rfl ?_
  refine mNf (lv2 := [(3, .int 10), (2, .int 2), (0, .ref 0), (1, .int 0)]) (st2 := [.long (hh 2), .int 10, .ref 11]) rfl (by rw [hq 2] <;> rfl) ?_
  refine mB hT 1 rfl ?_
  refine mWd (w2 := (MW 4 vs wo u h bo ta (up (up (up (up (up (up (up (up (up (up (up (tsM 4 ta 1 hh) 0 (ta 0)) 1 (ta 1)) 2 (hh 0)) 3 (ta 3)) 4 (ta 4)) 5 (ta 5)) 6 (hh 1)) 7 (ta 7)) 8 (ta 8)) 9 (ta 9)) 10 (hh 2)) (up (up ro 0 (rr 0)) 1 (rr 1)) ot Bm bk)) rfl ?_
  refine mB hT 18 rfl ?_
  refine mB hT 19 rfl ?_
  refine mNf (lv2 := [(3, .int 12), (2, .int 2), (0, .ref 0), (1, .int 0)]) (st2 := [.long (ta 12), .int 12, .ref 11]) rfl rfl ?_
  refine mB hT 19 rfl ?_
  refine mB hT 1 rfl ?_
  refine mWd (w2 := (MW 4 vs wo u h bo ta (up (up (up (up (up (up (up (up (up (up (up (up (up (up (tsM 4 ta 1 hh) 0 (ta 0)) 1 (ta 1)) 2 (hh 0)) 3 (ta 3)) 4 (ta 4)) 5 (ta 5)) 6 (hh 1)) 7 (ta 7)) 8 (ta 8)) 9 (ta 9)) 10 (hh 2)) 11 (ta 11)) 12 (ta 12)) 13 (ta 13)) (up (up ro 0 (rr 0)) 1 (rr 1)) ot Bm bk)) rfl ?_
  refine mB hT 31 rfl ?_
  refine mNf (lv2 := [(3, .int 14), (2, .int 2), (0, .ref 0), (1, .int 0)]) (st2 := [.long (hh 3), .int 14, .ref 11]) rfl (by rw [hq 3] <;> rfl) ?_
  refine mB hT 19 rfl ?_
  refine mB hT 14 rfl ?_
  refine mIf (fun hp => absurd hp (fun q => Int64.not_lt.mpr (lc_ge.mp q) hs)) (fun _ => ?_)
  refine mNf (lv2 := [(3, .int 16), (2, .int 2), (0, .ref 0), (1, .int 0)]) (st2 := [.int 2, .ref 12]) rfl rfl ?_
  refine mB hT 1 rfl ?_
  refine mWd (w2 := (MW 4 vs wo u h bo ta (up (up (up (up (up (up (up (up (up (up (up (up (up (up (up (up (tsM 4 ta 1 hh) 0 (ta 0)) 1 (ta 1)) 2 (hh 0)) 3 (ta 3)) 4 (ta 4)) 5 (ta 5)) 6 (hh 1)) 7 (ta 7)) 8 (ta 8)) 9 (ta 9)) 10 (hh 2)) 11 (ta 11)) 12 (ta 12)) 13 (ta 13)) 14 (hh 3)) 15 (ta 15)) (up (up ro 0 (rr 0)) 1 (rr 1)) ot Bm bk)) rfl ?_
  refine mWd (w2 := (MW 4 vs wo u h bo ta (tsM 4 ta 2 hh) (up (up ro 0 (rr 0)) 1 (rr 1)) ot Bm bk)) rfl ?_
  refine hC.1 _ 0 [] _ _ _ _ _ (m_det) rfl rfl (Nat.le_of_ble_eq_true rfl) rfl ?_
  refine mB hT 2 rfl ?_
  refine mNf (lv2 := [(3, .int 16), (2, .int 2), (0, .ref 0), (1, .int 0)]) (st2 := [.long (rr 2), .int 2, .ref 12]) rfl (by rw [hrr 2] <;> rfl) ?_
  refine mB hT 24 rfl ?_
  refine mNf (lv2 := [(3, .int 0), (2, .int 3), (0, .ref 0), (1, .int 0)]) (st2 := [.long (ta 0), .int 0, .ref 11]) rfl rfl ?_
  refine mB hT 19 rfl ?_
  refine mB hT 1 rfl ?_
  refine mWd (w2 := (MW 4 vs wo u h bo ta (up (up (tsM 4 ta 2 hh) 0 (ta 0)) 1 (ta 1)) (up (up (up ro 0 (rr 0)) 1 (rr 1)) 2 (rr 2)) ot Bm bk)) rfl ?_
  refine mB hT 18 rfl ?_
  refine mNf (lv2 := [(3, .int 2), (2, .int 3), (0, .ref 0), (1, .int 0)]) (st2 := [.long (ta 2), .int 2, .ref 11]) rfl rfl ?_
  refine mB hT 32 rfl ?_
  refine mNf (lv2 := [(3, .int 3), (2, .int 3), (0, .ref 0), (1, .int 0)]) (st2 := [.long (hh 0), .int 3, .ref 11]) rfl (by rw [hq 0] <;> rfl) ?_
  refine mB hT 19 rfl ?_
  refine mB hT 1 rfl ?_
  refine mWd (w2 := (MW 4 vs wo u h bo ta (up (up (up (up (up (tsM 4 ta 2 hh) 0 (ta 0)) 1 (ta 1)) 2 (ta 2)) 3 (hh 0)) 4 (ta 4)) (up (up (up ro 0 (rr 0)) 1 (rr 1)) 2 (rr 2)) ot Bm bk)) rfl ?_
  refine mB hT 18 rfl ?_
  refine mNf (lv2 := [(3, .int 5), (2, .int 3), (0, .ref 0), (1, .int 0)]) (st2 := [.long (ta 5), .int 5, .ref 11]) rfl rfl ?_
  refine mB hT 19 rfl ?_
  refine mB hT 32 rfl ?_
  refine mNf (lv2 := [(3, .int 7), (2, .int 3), (0, .ref 0), (1, .int 0)]) (st2 := [.long (hh 1), .int 7, .ref 11]) rfl (by rw [hq 1] <;> rfl) ?_
  refine mB hT 1 rfl ?_
  refine mWd (w2 := (MW 4 vs wo u h bo ta (up (up (up (up (up (up (up (up (tsM 4 ta 2 hh) 0 (ta 0)) 1 (ta 1)) 2 (ta 2)) 3 (hh 0)) 4 (ta 4)) 5 (ta 5)) 6 (ta 6)) 7 (hh 1)) (up (up (up ro 0 (rr 0)) 1 (rr 1)) 2 (rr 2)) ot Bm bk)) rfl ?_
  refine mB hT 18 rfl ?_
  refine mB hT 19 rfl ?_
  refine mNf (lv2 := [(3, .int 9), (2, .int 3), (0, .ref 0), (1, .int 0)]) (st2 := [.long (ta 9), .int 9, .ref 11]) rfl rfl ?_
  refine mB hT 19 rfl ?_
  refine mB hT 1 rfl ?_
  refine mWd (w2 := (MW 4 vs wo u h bo ta (up (up (up (up (up (up (up (up (up (up (up (tsM 4 ta 2 hh) 0 (ta 0)) 1 (ta 1)) 2 (ta 2)) 3 (hh 0)) 4 (ta 4)) 5 (ta 5)) 6 (ta 6)) 7 (hh 1)) 8 (ta 8)) 9 (ta 9)) 10 (ta 10)) (up (up (up ro 0 (rr 0)) 1 (rr 1)) 2 (rr 2)) ot Bm bk)) rfl ?_
  refine mB hT 31 rfl ?_
  refine mNf (lv2 := [(3, .int 11), (2, .int 3), (0, .ref 0), (1, .int 0)]) (st2 := [.long (hh 2), .int 11, .ref 11]) rfl (by rw [hq 2] <;> rfl) ?_
  refine mB hT 19 rfl ?_
  refine mB hT 19 rfl ?_
  refine mNf (lv2 := [(3, .int 13), (2, .int 3), (0, .ref 0), (1, .int 0)]) (st2 := [.long (ta 13), .int 13, .ref 11]) rfl rfl ?_
  refine mB hT 1 rfl ?_
  refine mWd (w2 := (MW 4 vs wo u h bo ta (up (up (up (up (up (up (up (up (up (up (up (up (up (up (tsM 4 ta 2 hh) 0 (ta 0)) 1 (ta 1)) 2 (ta 2)) 3 (hh 0)) 4 (ta 4)) 5 (ta 5)) 6 (ta 6)) 7 (hh 1)) 8 (ta 8)) 9 (ta 9)) 10 (ta 10)) 11 (hh 2)) 12 (ta 12)) 13 (ta 13)) (up (up (up ro 0 (rr 0)) 1 (rr 1)) 2 (rr 2)) ot Bm bk)) rfl ?_
  refine mB hT 18 rfl ?_
  refine mB hT 32 rfl ?_
  refine mNf (lv2 := [(3, .int 15), (2, .int 3), (0, .ref 0), (1, .int 0)]) (st2 := [.long (hh 3), .int 15, .ref 11]) rfl (by rw [hq 3] <;> rfl) ?_
  refine mB hT 14 rfl ?_
  refine mIf (fun hp => absurd hp (fun q => Int64.not_lt.mpr (lc_ge.mp q) hs)) (fun _ => ?_)
  refine mB hT 1 rfl ?_
  refine mWd (w2 := (MW 4 vs wo u h bo ta (up (up (up (up (up (up (up (up (up (up (up (up (up (up (up (up (tsM 4 ta 2 hh) 0 (ta 0)) 1 (ta 1)) 2 (ta 2)) 3 (hh 0)) 4 (ta 4)) 5 (ta 5)) 6 (ta 6)) 7 (hh 1)) 8 (ta 8)) 9 (ta 9)) 10 (ta 10)) 11 (hh 2)) 12 (ta 12)) 13 (ta 13)) 14 (ta 14)) 15 (hh 3)) (up (up (up ro 0 (rr 0)) 1 (rr 1)) 2 (rr 2)) ot Bm bk)) rfl ?_
  refine mWd (w2 := (MW 4 vs wo u h bo ta (tsM 4 ta 3 hh) (up (up (up ro 0 (rr 0)) 1 (rr 1)) 2 (rr 2)) ot Bm bk)) rfl ?_
  refine hC.1 _ 0 [] _ _ _ _ _ (m_det) rfl rfl (Nat.le_of_ble_eq_true rfl) rfl ?_
  refine mB hT 2 rfl ?_
  refine mNf (lv2 := [(3, .int 16), (2, .int 3), (0, .ref 0), (1, .int 0)]) (st2 := [.long (rr 3), .int 3, .ref 12]) rfl (by rw [hrr 3] <;> rfl) ?_
  refine mB hT 6 rfl ?_
  exact hR _ (by decide) _ _ _ rfl rfl
set_option maxRecDepth 20000 in
theorem m_solve_4_1p {vs : Int32} {wo un h : Int64} {bo : Nat → Int32} {ta tr ro ot : Nat → Int64} {Bm : Nat → Nat → Nat → Int32} {bk : Nat → Nat → Int32} {u : Int64} {hh rr : Nat → Int64} (hs : ¬ wo < 0) (hu : u = wo) (hq : ∀ j : Nat, hh j = (bk 1 j).toInt64) (hrr : ∀ i : Nat, rr i = dtM (tsM 4 ta i hh)) : KX3_solve l D ca ad [.ref 0, .int 1] (MW 4 vs wo un h bo ta tr ro ot Bm bk) none (MW 4 vs wo u h bo ta (tsM 4 ta 3 hh) rr ot Bm bk) := by
  refine PX3_solve (Nat.le_of_ble_eq_true rfl) ?_
  intro G hT hC hR
  refine mB hT 6 rfl ?_
  refine mIf (fun _ => ?_) (fun hn => absurd (lc_ge.mpr (Int64.not_lt.mp hs)) hn)
  refine mB hT 2 rfl ?_
  refine mNf (lv2 := [(0, .ref 0), (1, .int 1)]) (st2 := [.long u, .ref 0]) rfl (by rw [hu] <;> rfl) ?_
  refine mB hT 37 rfl ?_
  refine mNf (lv2 := [(3, .int 0), (2, .int 0), (0, .ref 0), (1, .int 1)]) (st2 := [.long (hh 0), .int 0, .ref 11]) rfl (by rw [hq 0] <;> rfl) ?_
  refine mB hT 19 rfl ?_
  refine mB hT 1 rfl ?_
  refine mWd (w2 := (MW 4 vs wo u h bo ta (up (up tr 0 (hh 0)) 1 (ta 1)) ro ot Bm bk)) rfl ?_
  refine mB hT 18 rfl ?_
  refine mNf (lv2 := [(3, .int 2), (2, .int 0), (0, .ref 0), (1, .int 1)]) (st2 := [.long (ta 2), .int 2, .ref 11]) rfl rfl ?_
  refine mB hT 19 rfl ?_
  refine mB hT 32 rfl ?_
  refine mNf (lv2 := [(3, .int 4), (2, .int 0), (0, .ref 0), (1, .int 1)]) (st2 := [.long (hh 1), .int 4, .ref 11]) rfl (by rw [hq 1] <;> rfl) ?_
  refine mB hT 1 rfl ?_
  refine mWd (w2 := (MW 4 vs wo u h bo ta (up (up (up (up (up tr 0 (hh 0)) 1 (ta 1)) 2 (ta 2)) 3 (ta 3)) 4 (hh 1)) ro ot Bm bk)) rfl ?_
  refine mB hT 18 rfl ?_
  refine mB hT 19 rfl ?_
  refine mNf (lv2 := [(3, .int 6), (2, .int 0), (0, .ref 0), (1, .int 1)]) (st2 := [.long (ta 6), .int 6, .ref 11]) rfl rfl ?_
  refine mB hT 19 rfl ?_
  refine mB hT 1 rfl ?_
  refine mWd (w2 := (MW 4 vs wo u h bo ta (up (up (up (up (up (up (up (up tr 0 (hh 0)) 1 (ta 1)) 2 (ta 2)) 3 (ta 3)) 4 (hh 1)) 5 (ta 5)) 6 (ta 6)) 7 (ta 7)) ro ot Bm bk)) rfl ?_
  refine mB hT 31 rfl ?_
  refine mNf (lv2 := [(3, .int 8), (2, .int 0), (0, .ref 0), (1, .int 1)]) (st2 := [.long (hh 2), .int 8, .ref 11]) rfl (by rw [hq 2] <;> rfl) ?_
  refine mB hT 19 rfl ?_
  refine mB hT 19 rfl ?_
  refine mNf (lv2 := [(3, .int 10), (2, .int 0), (0, .ref 0), (1, .int 1)]) (st2 := [.long (ta 10), .int 10, .ref 11]) rfl rfl ?_
  refine mB hT 1 rfl ?_
  refine mWd (w2 := (MW 4 vs wo u h bo ta (up (up (up (up (up (up (up (up (up (up (up tr 0 (hh 0)) 1 (ta 1)) 2 (ta 2)) 3 (ta 3)) 4 (hh 1)) 5 (ta 5)) 6 (ta 6)) 7 (ta 7)) 8 (hh 2)) 9 (ta 9)) 10 (ta 10)) ro ot Bm bk)) rfl ?_
  refine mB hT 18 rfl ?_
  refine mB hT 32 rfl ?_
  refine mNf (lv2 := [(3, .int 12), (2, .int 0), (0, .ref 0), (1, .int 1)]) (st2 := [.long (hh 3), .int 12, .ref 11]) rfl (by rw [hq 3] <;> rfl) ?_
  refine mB hT 19 rfl ?_
  refine mB hT 1 rfl ?_
  refine mWd (w2 := (MW 4 vs wo u h bo ta (up (up (up (up (up (up (up (up (up (up (up (up (up (up tr 0 (hh 0)) 1 (ta 1)) 2 (ta 2)) 3 (ta 3)) 4 (hh 1)) 5 (ta 5)) 6 (ta 6)) 7 (ta 7)) 8 (hh 2)) 9 (ta 9)) 10 (ta 10)) 11 (ta 11)) 12 (hh 3)) 13 (ta 13)) ro ot Bm bk)) rfl ?_
  refine mB hT 18 rfl ?_
  refine mNf (lv2 := [(3, .int 14), (2, .int 0), (0, .ref 0), (1, .int 1)]) (st2 := [.long (ta 14), .int 14, .ref 11]) rfl rfl ?_
  refine mB hT 19 rfl ?_
  refine mB hT 14 rfl ?_
  refine mIf (fun _ => ?_) (fun hn => absurd (lc_ge.mpr (Int64.not_lt.mp hs)) hn)
  refine mNf (lv2 := [(3, .int 16), (2, .int 0), (0, .ref 0), (1, .int 1)]) (st2 := [.int 0, .ref 12]) rfl rfl ?_
  refine mB hT 1 rfl ?_
  refine mWd (w2 := (MW 4 vs wo u h bo ta (up (up (up (up (up (up (up (up (up (up (up (up (up (up (up (up tr 0 (hh 0)) 1 (ta 1)) 2 (ta 2)) 3 (ta 3)) 4 (hh 1)) 5 (ta 5)) 6 (ta 6)) 7 (ta 7)) 8 (hh 2)) 9 (ta 9)) 10 (ta 10)) 11 (ta 11)) 12 (hh 3)) 13 (ta 13)) 14 (ta 14)) 15 (ta 15)) ro ot Bm bk)) rfl ?_
  refine mWd (w2 := (MW 4 vs wo u h bo ta (tsM 4 ta 0 hh) ro ot Bm bk)) rfl ?_
  refine hC.2 _ 0 [] _ _ _ _ _ (m_det) rfl rfl (Nat.le_of_ble_eq_true rfl) rfl ?_
  refine mNf (lv2 := [(3, .int 16), (2, .int 0), (0, .ref 0), (1, .int 1)]) (st2 := [.long (rr 0), .int 0, .ref 12]) rfl (by rw [hrr 0] <;> rfl) ?_
  refine mB hT 24 rfl ?_
  refine mNf (lv2 := [(3, .int 0), (2, .int 1), (0, .ref 0), (1, .int 1)]) (st2 := [.long (ta 0), .int 0, .ref 11]) rfl rfl ?_
  refine mB hT 32 rfl ?_
  refine mNf (lv2 := [(3, .int 1), (2, .int 1), (0, .ref 0), (1, .int 1)]) (st2 := [.long (hh 0), .int 1, .ref 11]) rfl (by rw [hq 0] <;> rfl) ?_
  refine mB hT 1 rfl ?_
  refine mWd (w2 := (MW 4 vs wo u h bo ta (up (up (tsM 4 ta 0 hh) 0 (ta 0)) 1 (hh 0)) (up ro 0 (rr 0)) ot Bm bk)) rfl ?_
  refine mB hT 18 rfl ?_
  refine mB hT 19 rfl ?_
  refine mNf (lv2 := [(3, .int 3), (2, .int 1), (0, .ref 0), (1, .int 1)]) (st2 := [.long (ta 3), .int 3, .ref 11]) rfl rfl ?_
  refine mB hT 19 rfl ?_
  refine mB hT 1 rfl ?_
  refine mWd (w2 := (MW 4 vs wo u h bo ta (up (up (up (up (up (tsM 4 ta 0 hh) 0 (ta 0)) 1 (hh 0)) 2 (ta 2)) 3 (ta 3)) 4 (ta 4)) (up ro 0 (rr 0)) ot Bm bk)) rfl ?_
  refine mB hT 31 rfl ?_
  refine mNf (lv2 := [(3, .int 5), (2, .int 1), (0, .ref 0), (1, .int 1)]) (st2 := [.long (hh 1), .int 5, .ref 11]) rfl (by rw [hq 1] <;> rfl) ?_
  refine mB hT 19 rfl ?_
  refine mB hT 19 rfl ?_
  refine mNf (lv2 := [(3, .int 7), (2, .int 1), (0, .ref 0), (1, .int 1)]) (st2 := [.long (ta 7), .int 7, .ref 11]) rfl rfl ?_
  refine mB hT 1 rfl ?_
  refine mWd (w2 := (MW 4 vs wo u h bo ta (up (up (up (up (up (up (up (up (tsM 4 ta 0 hh) 0 (ta 0)) 1 (hh 0)) 2 (ta 2)) 3 (ta 3)) 4 (ta 4)) 5 (hh 1)) 6 (ta 6)) 7 (ta 7)) (up ro 0 (rr 0)) ot Bm bk)) rfl ?_
  refine mB hT 18 rfl ?_
  refine mB hT 32 rfl ?_
  refine mNf (lv2 := [(3, .int 9), (2, .int 1), (0, .ref 0), (1, .int 1)]) (st2 := [.long (hh 2), .int 9, .ref 11]) rfl (by rw [hq 2] <;> rfl) ?_
  refine mB hT 19 rfl ?_
  refine mB hT 1 rfl ?_
  refine mWd (w2 := (MW 4 vs wo u h bo ta (up (up (up (up (up (up (up (up (up (up (up (tsM 4 ta 0 hh) 0 (ta 0)) 1 (hh 0)) 2 (ta 2)) 3 (ta 3)) 4 (ta 4)) 5 (hh 1)) 6 (ta 6)) 7 (ta 7)) 8 (ta 8)) 9 (hh 2)) 10 (ta 10)) (up ro 0 (rr 0)) ot Bm bk)) rfl ?_
  refine mB hT 18 rfl ?_
  refine mNf (lv2 := [(3, .int 11), (2, .int 1), (0, .ref 0), (1, .int 1)]) (st2 := [.long (ta 11), .int 11, .ref 11]) rfl rfl ?_
  refine mB hT 19 rfl ?_
  refine mB hT 32 rfl ?_
  refine mNf (lv2 := [(3, .int 13), (2, .int 1), (0, .ref 0), (1, .int 1)]) (st2 := [.long (hh 3), .int 13, .ref 11]) rfl (by rw [hq 3] <;> rfl) ?_
  refine mB hT 1 rfl ?_
  refine mWd (w2 := (MW 4 vs wo u h bo ta (up (up (up (up (up (up (up (up (up (up (up (up (up (up (tsM 4 ta 0 hh) 0 (ta 0)) 1 (hh 0)) 2 (ta 2)) 3 (ta 3)) 4 (ta 4)) 5 (hh 1)) 6 (ta 6)) 7 (ta 7)) 8 (ta 8)) 9 (hh 2)) 10 (ta 10)) 11 (ta 11)) 12 (ta 12)) 13 (hh 3)) (up ro 0 (rr 0)) ot Bm bk)) rfl ?_
  refine mB hT 18 rfl ?_
  refine mB hT 19 rfl ?_
  refine mNf (lv2 := [(3, .int 15), (2, .int 1), (0, .ref 0), (1, .int 1)]) (st2 := [.long (ta 15), .int 15, .ref 11]) rfl rfl ?_
  refine mB hT 14 rfl ?_
  refine mIf (fun _ => ?_) (fun hn => absurd (lc_ge.mpr (Int64.not_lt.mp hs)) hn)
  refine mB hT 1 rfl ?_
  refine mWd (w2 := (MW 4 vs wo u h bo ta (up (up (up (up (up (up (up (up (up (up (up (up (up (up (up (up (tsM 4 ta 0 hh) 0 (ta 0)) 1 (hh 0)) 2 (ta 2)) 3 (ta 3)) 4 (ta 4)) 5 (hh 1)) 6 (ta 6)) 7 (ta 7)) 8 (ta 8)) 9 (hh 2)) 10 (ta 10)) 11 (ta 11)) 12 (ta 12)) 13 (hh 3)) 14 (ta 14)) 15 (ta 15)) (up ro 0 (rr 0)) ot Bm bk)) rfl ?_
  refine mWd (w2 := (MW 4 vs wo u h bo ta (tsM 4 ta 1 hh) (up ro 0 (rr 0)) ot Bm bk)) rfl ?_
  refine hC.2 _ 0 [] _ _ _ _ _ (m_det) rfl rfl (Nat.le_of_ble_eq_true rfl) rfl ?_
  refine mNf (lv2 := [(3, .int 16), (2, .int 1), (0, .ref 0), (1, .int 1)]) (st2 := [.long (rr 1), .int 1, .ref 12]) rfl (by rw [hrr 1] <;> rfl) ?_
  refine mB hT 24 rfl ?_
  refine mNf (lv2 := [(3, .int 0), (2, .int 2), (0, .ref 0), (1, .int 1)]) (st2 := [.long (ta 0), .int 0, .ref 11]) rfl rfl ?_
  refine mB hT 19 rfl ?_
  refine mB hT 1 rfl ?_
  refine mWd (w2 := (MW 4 vs wo u h bo ta (up (up (tsM 4 ta 1 hh) 0 (ta 0)) 1 (ta 1)) (up (up ro 0 (rr 0)) 1 (rr 1)) ot Bm bk)) rfl ?_
  refine mB hT 31 rfl ?_
  refine mNf (lv2 := [(3, .int 2), (2, .int 2), (0, .ref 0), (1, .int 1)]) (st2 := [.long (hh 0), .int 2, .ref 11]) rfl (by rw [hq 0] <;> rfl) ?_
  refine mB hT 19 rfl ?_
  refine mB hT 19 rfl ?_
  refine mNf (lv2 := [(3, .int 4), (2, .int 2), (0, .ref 0), (1, .int 1)]) (st2 := [.long (ta 4), .int 4, .ref 11]) rfl rfl ?_
  refine mB hT 1 rfl ?_
  refine mWd (w2 := (MW 4 vs wo u h bo ta (up (up (up (up (up (tsM 4 ta 1 hh) 0 (ta 0)) 1 (ta 1)) 2 (hh 0)) 3 (ta 3)) 4 (ta 4)) (up (up ro 0 (rr 0)) 1 (rr 1)) ot Bm bk)) rfl ?_
  refine mB hT 18 rfl ?_
  refine mB hT 32 rfl ?_
  refine mNf (lv2 := [(3, .int 6), (2, .int 2), (0, .ref 0), (1, .int 1)]) (st2 := [.long (hh 1), .int 6, .ref 11]) rfl (by rw [hq 1] <;> rfl) ?_
  refine mB hT 19 rfl ?_
  refine mB hT 1 rfl ?_
  refine mWd (w2 := (MW 4 vs wo u h bo ta (up (up (up (up (up (up (up (up (tsM 4 ta 1 hh) 0 (ta 0)) 1 (ta 1)) 2 (hh 0)) 3 (ta 3)) 4 (ta 4)) 5 (ta 5)) 6 (hh 1)) 7 (ta 7)) (up (up ro 0 (rr 0)) 1 (rr 1)) ot Bm bk)) rfl ?_
  refine mB hT 18 rfl ?_
  refine mNf (lv2 := [(3, .int 8), (2, .int 2), (0, .ref 0), (1, .int 1)]) (st2 := [.long (ta 8), .int 8, .ref 11]) rfl rfl ?_
  refine mB hT 19 rfl ?_
  refine mB hT 32 rfl ?_
  refine mNf (lv2 := [(3, .int 10), (2, .int 2), (0, .ref 0), (1, .int 1)]) (st2 := [.long (hh 2), .int 10, .ref 11]) rfl (by rw [hq 2] <;> rfl) ?_
  refine mB hT 1 rfl ?_
  refine mWd (w2 := (MW 4 vs wo u h bo ta (up (up (up (up (up (up (up (up (up (up (up (tsM 4 ta 1 hh) 0 (ta 0)) 1 (ta 1)) 2 (hh 0)) 3 (ta 3)) 4 (ta 4)) 5 (ta 5)) 6 (hh 1)) 7 (ta 7)) 8 (ta 8)) 9 (ta 9)) 10 (hh 2)) (up (up ro 0 (rr 0)) 1 (rr 1)) ot Bm bk)) rfl ?_
  refine mB hT 18 rfl ?_
  refine mB hT 19 rfl ?_
  refine mNf (lv2 := [(3, .int 12), (2, .int 2), (0, .ref 0), (1, .int 1)]) (st2 := [.long (ta 12), .int 12, .ref 11]) rfl rfl ?_
  refine mB hT 19 rfl ?_
  refine mB hT 1 rfl ?_
  refine mWd (w2 := (MW 4 vs wo u h bo ta (up (up (up (up (up (up (up (up (up (up (up (up (up (up (tsM 4 ta 1 hh) 0 (ta 0)) 1 (ta 1)) 2 (hh 0)) 3 (ta 3)) 4 (ta 4)) 5 (ta 5)) 6 (hh 1)) 7 (ta 7)) 8 (ta 8)) 9 (ta 9)) 10 (hh 2)) 11 (ta 11)) 12 (ta 12)) 13 (ta 13)) (up (up ro 0 (rr 0)) 1 (rr 1)) ot Bm bk)) rfl ?_
  refine mB hT 31 rfl ?_
  refine mNf (lv2 := [(3, .int 14), (2, .int 2), (0, .ref 0), (1, .int 1)]) (st2 := [.long (hh 3), .int 14, .ref 11]) rfl (by rw [hq 3] <;> rfl) ?_
  refine mB hT 19 rfl ?_
  refine mB hT 14 rfl ?_
  refine mIf (fun _ => ?_) (fun hn => absurd (lc_ge.mpr (Int64.not_lt.mp hs)) hn)
  refine mNf (lv2 := [(3, .int 16), (2, .int 2), (0, .ref 0), (1, .int 1)]) (st2 := [.int 2, .ref 12]) rfl rfl ?_
  refine mB hT 1 rfl ?_
  refine mWd (w2 := (MW 4 vs wo u h bo ta (up (up (up (up (up (up (up (up (up (up (up (up (up (up (up (up (tsM 4 ta 1 hh) 0 (ta 0)) 1 (ta 1)) 2 (hh 0)) 3 (ta 3)) 4 (ta 4)) 5 (ta 5)) 6 (hh 1)) 7 (ta 7)) 8 (ta 8)) 9 (ta 9)) 10 (hh 2)) 11 (ta 11)) 12 (ta 12)) 13 (ta 13)) 14 (hh 3)) 15 (ta 15)) (up (up ro 0 (rr 0)) 1 (rr 1)) ot Bm bk)) rfl ?_
  refine mWd (w2 := (MW 4 vs wo u h bo ta (tsM 4 ta 2 hh) (up (up ro 0 (rr 0)) 1 (rr 1)) ot Bm bk)) rfl ?_
  refine hC.2 _ 0 [] _ _ _ _ _ (m_det) rfl rfl (Nat.le_of_ble_eq_true rfl) rfl ?_
  refine mNf (lv2 := [(3, .int 16), (2, .int 2), (0, .ref 0), (1, .int 1)]) (st2 := [.long (rr 2), .int 2, .ref 12]) rfl (by rw [hrr 2] <;> rfl) ?_
  refine mB hT 24 rfl ?_
  refine mNf (lv2 := [(3, .int 0), (2, .int 3), (0, .ref 0), (1, .int 1)]) (st2 := [.long (ta 0), .int 0, .ref 11]) rfl rfl ?_
  refine mB hT 19 rfl ?_
  refine mB hT 1 rfl ?_
  refine mWd (w2 := (MW 4 vs wo u h bo ta (up (up (tsM 4 ta 2 hh) 0 (ta 0)) 1 (ta 1)) (up (up (up ro 0 (rr 0)) 1 (rr 1)) 2 (rr 2)) ot Bm bk)) rfl ?_
  refine mB hT 18 rfl ?_
  refine mNf (lv2 := [(3, .int 2), (2, .int 3), (0, .ref 0), (1, .int 1)]) (st2 := [.long (ta 2), .int 2, .ref 11]) rfl rfl ?_
  refine mB hT 32 rfl ?_
  refine mNf (lv2 := [(3, .int 3), (2, .int 3), (0, .ref 0), (1, .int 1)]) (st2 := [.long (hh 0), .int 3, .ref 11]) rfl (by rw [hq 0] <;> rfl) ?_
  refine mB hT 19 rfl ?_
  refine mB hT 1 rfl ?_
  refine mWd (w2 := (MW 4 vs wo u h bo ta (up (up (up (up (up (tsM 4 ta 2 hh) 0 (ta 0)) 1 (ta 1)) 2 (ta 2)) 3 (hh 0)) 4 (ta 4)) (up (up (up ro 0 (rr 0)) 1 (rr 1)) 2 (rr 2)) ot Bm bk)) rfl ?_
  refine mB hT 18 rfl ?_
  refine mNf (lv2 := [(3, .int 5), (2, .int 3), (0, .ref 0), (1, .int 1)]) (st2 := [.long (ta 5), .int 5, .ref 11]) rfl rfl ?_
  refine mB hT 19 rfl ?_
  refine mB hT 32 rfl ?_
  refine mNf (lv2 := [(3, .int 7), (2, .int 3), (0, .ref 0), (1, .int 1)]) (st2 := [.long (hh 1), .int 7, .ref 11]) rfl (by rw [hq 1] <;> rfl) ?_
  refine mB hT 1 rfl ?_
  refine mWd (w2 := (MW 4 vs wo u h bo ta (up (up (up (up (up (up (up (up (tsM 4 ta 2 hh) 0 (ta 0)) 1 (ta 1)) 2 (ta 2)) 3 (hh 0)) 4 (ta 4)) 5 (ta 5)) 6 (ta 6)) 7 (hh 1)) (up (up (up ro 0 (rr 0)) 1 (rr 1)) 2 (rr 2)) ot Bm bk)) rfl ?_
  refine mB hT 18 rfl ?_
  refine mB hT 19 rfl ?_
  refine mNf (lv2 := [(3, .int 9), (2, .int 3), (0, .ref 0), (1, .int 1)]) (st2 := [.long (ta 9), .int 9, .ref 11]) rfl rfl ?_
  refine mB hT 19 rfl ?_
  refine mB hT 1 rfl ?_
  refine mWd (w2 := (MW 4 vs wo u h bo ta (up (up (up (up (up (up (up (up (up (up (up (tsM 4 ta 2 hh) 0 (ta 0)) 1 (ta 1)) 2 (ta 2)) 3 (hh 0)) 4 (ta 4)) 5 (ta 5)) 6 (ta 6)) 7 (hh 1)) 8 (ta 8)) 9 (ta 9)) 10 (ta 10)) (up (up (up ro 0 (rr 0)) 1 (rr 1)) 2 (rr 2)) ot Bm bk)) rfl ?_
  refine mB hT 31 rfl ?_
  refine mNf (lv2 := [(3, .int 11), (2, .int 3), (0, .ref 0), (1, .int 1)]) (st2 := [.long (hh 2), .int 11, .ref 11]) rfl (by rw [hq 2] <;> rfl) ?_
  refine mB hT 19 rfl ?_
  refine mB hT 19 rfl ?_
  refine mNf (lv2 := [(3, .int 13), (2, .int 3), (0, .ref 0), (1, .int 1)]) (st2 := [.long (ta 13), .int 13, .ref 11]) rfl rfl ?_
  refine mB hT 1 rfl ?_
  refine mWd (w2 := (MW 4 vs wo u h bo ta (up (up (up (up (up (up (up (up (up (up (up (up (up (up (tsM 4 ta 2 hh) 0 (ta 0)) 1 (ta 1)) 2 (ta 2)) 3 (hh 0)) 4 (ta 4)) 5 (ta 5)) 6 (ta 6)) 7 (hh 1)) 8 (ta 8)) 9 (ta 9)) 10 (ta 10)) 11 (hh 2)) 12 (ta 12)) 13 (ta 13)) (up (up (up ro 0 (rr 0)) 1 (rr 1)) 2 (rr 2)) ot Bm bk)) rfl ?_
  refine mB hT 18 rfl ?_
  refine mB hT 32 rfl ?_
  refine mNf (lv2 := [(3, .int 15), (2, .int 3), (0, .ref 0), (1, .int 1)]) (st2 := [.long (hh 3), .int 15, .ref 11]) rfl (by rw [hq 3] <;> rfl) ?_
  refine mB hT 14 rfl ?_
  refine mIf (fun _ => ?_) (fun hn => absurd (lc_ge.mpr (Int64.not_lt.mp hs)) hn)
  refine mB hT 1 rfl ?_
  refine mWd (w2 := (MW 4 vs wo u h bo ta (up (up (up (up (up (up (up (up (up (up (up (up (up (up (up (up (tsM 4 ta 2 hh) 0 (ta 0)) 1 (ta 1)) 2 (ta 2)) 3 (hh 0)) 4 (ta 4)) 5 (ta 5)) 6 (ta 6)) 7 (hh 1)) 8 (ta 8)) 9 (ta 9)) 10 (ta 10)) 11 (hh 2)) 12 (ta 12)) 13 (ta 13)) 14 (ta 14)) 15 (hh 3)) (up (up (up ro 0 (rr 0)) 1 (rr 1)) 2 (rr 2)) ot Bm bk)) rfl ?_
  refine mWd (w2 := (MW 4 vs wo u h bo ta (tsM 4 ta 3 hh) (up (up (up ro 0 (rr 0)) 1 (rr 1)) 2 (rr 2)) ot Bm bk)) rfl ?_
  refine hC.2 _ 0 [] _ _ _ _ _ (m_det) rfl rfl (Nat.le_of_ble_eq_true rfl) rfl ?_
  refine mNf (lv2 := [(3, .int 16), (2, .int 3), (0, .ref 0), (1, .int 1)]) (st2 := [.long (rr 3), .int 3, .ref 12]) rfl (by rw [hrr 3] <;> rfl) ?_
  refine mB hT 6 rfl ?_
  exact hR _ (by decide) _ _ _ rfl rfl
set_option maxRecDepth 20000 in
theorem m_solve_4_1n {vs : Int32} {wo un h : Int64} {bo : Nat → Int32} {ta tr ro ot : Nat → Int64} {Bm : Nat → Nat → Nat → Int32} {bk : Nat → Nat → Int32} {u : Int64} {hh rr : Nat → Int64} (hs : wo < 0) (hu : u = -wo) (hq : ∀ j : Nat, hh j = (bk 1 j).toInt64) (hrr : ∀ i : Nat, rr i = -(dtM (tsM 4 ta i hh))) : KX3_solve l D ca ad [.ref 0, .int 1] (MW 4 vs wo un h bo ta tr ro ot Bm bk) none (MW 4 vs wo u h bo ta (tsM 4 ta 3 hh) rr ot Bm bk) := by
  refine PX3_solve (Nat.le_of_ble_eq_true rfl) ?_
  intro G hT hC hR
  refine mB hT 6 rfl ?_
  refine mIf (fun hp => absurd hp (fun q => Int64.not_lt.mpr (lc_ge.mp q) hs)) (fun _ => ?_)
  refine mB hT 4 rfl ?_
  refine mNf (lv2 := [(0, .ref 0), (1, .int 1)]) (st2 := [.long u, .ref 0]) rfl (by rw [hu] <;> rfl) ?_
  refine mB hT 37 rfl ?_
  refine mNf (lv2 := [(3, .int 0), (2, .int 0), (0, .ref 0), (1, .int 1)]) (st2 := [.long (hh 0), .int 0, .ref 11]) rfl (by rw [hq 0] <;> rfl) ?_
  refine mB hT 19 rfl ?_
  refine mB hT 1 rfl ?_
  refine mWd (w2 := (MW 4 vs wo u h bo ta (up (up tr 0 (hh 0)) 1 (ta 1)) ro ot Bm bk)) rfl ?_
  refine mB hT 18 rfl ?_
  refine mNf (lv2 := [(3, .int 2), (2, .int 0), (0, .ref 0), (1, .int 1)]) (st2 := [.long (ta 2), .int 2, .ref 11]) rfl rfl ?_
  refine mB hT 19 rfl ?_
  refine mB hT 32 rfl ?_
  refine mNf (lv2 := [(3, .int 4), (2, .int 0), (0, .ref 0), (1, .int 1)]) (st2 := [.long (hh 1), .int 4, .ref 11]) rfl (by rw [hq 1] <;> rfl) ?_
  refine mB hT 1 rfl ?_
  refine mWd (w2 := (MW 4 vs wo u h bo ta (up (up (up (up (up tr 0 (hh 0)) 1 (ta 1)) 2 (ta 2)) 3 (ta 3)) 4 (hh 1)) ro ot Bm bk)) rfl ?_
  refine mB hT 18 rfl ?_
  refine mB hT 19 rfl ?_
  refine mNf (lv2 := [(3, .int 6), (2, .int 0), (0, .ref 0), (1, .int 1)]) (st2 := [.long (ta 6), .int 6, .ref 11]) rfl rfl ?_
  refine mB hT 19 rfl ?_
  refine mB hT 1 rfl ?_
  refine mWd (w2 := (MW 4 vs wo u h bo ta (up (up (up (up (up (up (up (up tr 0 (hh 0)) 1 (ta 1)) 2 (ta 2)) 3 (ta 3)) 4 (hh 1)) 5 (ta 5)) 6 (ta 6)) 7 (ta 7)) ro ot Bm bk)) rfl ?_
  refine mB hT 31 rfl ?_
  refine mNf (lv2 := [(3, .int 8), (2, .int 0), (0, .ref 0), (1, .int 1)]) (st2 := [.long (hh 2), .int 8, .ref 11]) rfl (by rw [hq 2] <;> rfl) ?_
  refine mB hT 19 rfl ?_
  refine mB hT 19 rfl ?_
  refine mNf (lv2 := [(3, .int 10), (2, .int 0), (0, .ref 0), (1, .int 1)]) (st2 := [.long (ta 10), .int 10, .ref 11]) rfl rfl ?_
  refine mB hT 1 rfl ?_
  refine mWd (w2 := (MW 4 vs wo u h bo ta (up (up (up (up (up (up (up (up (up (up (up tr 0 (hh 0)) 1 (ta 1)) 2 (ta 2)) 3 (ta 3)) 4 (hh 1)) 5 (ta 5)) 6 (ta 6)) 7 (ta 7)) 8 (hh 2)) 9 (ta 9)) 10 (ta 10)) ro ot Bm bk)) rfl ?_
  refine mB hT 18 rfl ?_
  refine mB hT 32 rfl ?_
  refine mNf (lv2 := [(3, .int 12), (2, .int 0), (0, .ref 0), (1, .int 1)]) (st2 := [.long (hh 3), .int 12, .ref 11]) rfl (by rw [hq 3] <;> rfl) ?_
  refine mB hT 19 rfl ?_
  refine mB hT 1 rfl ?_
  refine mWd (w2 := (MW 4 vs wo u h bo ta (up (up (up (up (up (up (up (up (up (up (up (up (up (up tr 0 (hh 0)) 1 (ta 1)) 2 (ta 2)) 3 (ta 3)) 4 (hh 1)) 5 (ta 5)) 6 (ta 6)) 7 (ta 7)) 8 (hh 2)) 9 (ta 9)) 10 (ta 10)) 11 (ta 11)) 12 (hh 3)) 13 (ta 13)) ro ot Bm bk)) rfl ?_
  refine mB hT 18 rfl ?_
  refine mNf (lv2 := [(3, .int 14), (2, .int 0), (0, .ref 0), (1, .int 1)]) (st2 := [.long (ta 14), .int 14, .ref 11]) rfl rfl ?_
  refine mB hT 19 rfl ?_
  refine mB hT 14 rfl ?_
  refine mIf (fun hp => absurd hp (fun q => Int64.not_lt.mpr (lc_ge.mp q) hs)) (fun _ => ?_)
  refine mNf (lv2 := [(3, .int 16), (2, .int 0), (0, .ref 0), (1, .int 1)]) (st2 := [.int 0, .ref 12]) rfl rfl ?_
  refine mB hT 1 rfl ?_
  refine mWd (w2 := (MW 4 vs wo u h bo ta (up (up (up (up (up (up (up (up (up (up (up (up (up (up (up (up tr 0 (hh 0)) 1 (ta 1)) 2 (ta 2)) 3 (ta 3)) 4 (hh 1)) 5 (ta 5)) 6 (ta 6)) 7 (ta 7)) 8 (hh 2)) 9 (ta 9)) 10 (ta 10)) 11 (ta 11)) 12 (hh 3)) 13 (ta 13)) 14 (ta 14)) 15 (ta 15)) ro ot Bm bk)) rfl ?_
  refine mWd (w2 := (MW 4 vs wo u h bo ta (tsM 4 ta 0 hh) ro ot Bm bk)) rfl ?_
  refine hC.1 _ 0 [] _ _ _ _ _ (m_det) rfl rfl (Nat.le_of_ble_eq_true rfl) rfl ?_
  refine mB hT 2 rfl ?_
  refine mNf (lv2 := [(3, .int 16), (2, .int 0), (0, .ref 0), (1, .int 1)]) (st2 := [.long (rr 0), .int 0, .ref 12]) rfl (by rw [hrr 0] <;> rfl) ?_
  refine mB hT 24 rfl ?_
  refine mNf (lv2 := [(3, .int 0), (2, .int 1), (0, .ref 0), (1, .int 1)]) (st2 := [.long (ta 0), .int 0, .ref 11]) rfl rfl ?_
  refine mB hT 32 rfl ?_
  refine mNf (lv2 := [(3, .int 1), (2, .int 1), (0, .ref 0), (1, .int 1)]) (st2 := [.long (hh 0), .int 1, .ref 11]) rfl (by rw [hq 0] <;> rfl) ?_
  refine mB hT 1 rfl ?_
  refine mWd (w2 := (MW 4 vs wo u h bo ta (up (up (tsM 4 ta 0 hh) 0 (ta 0)) 1 (hh 0)) (up ro 0 (rr 0)) ot Bm bk)) rfl ?_
  refine mB hT 18 rfl ?_
  refine mB hT 19 rfl ?_
  refine mNf (lv2 := [(3, .int 3), (2, .int 1), (0, .ref 0), (1, .int 1)]) (st2 := [.long (ta 3), .int 3, .ref 11]) rfl rfl ?_
  refine mB hT 19 rfl ?_
  refine mB hT 1 rfl ?_
  refine mWd (w2 := (MW 4 vs wo u h bo ta (up (up (up (up (up (tsM 4 ta 0 hh) 0 (ta 0)) 1 (hh 0)) 2 (ta 2)) 3 (ta 3)) 4 (ta 4)) (up ro 0 (rr 0)) ot Bm bk)) rfl ?_
  refine mB hT 31 rfl ?_
  refine mNf (lv2 := [(3, .int 5), (2, .int 1), (0, .ref 0), (1, .int 1)]) (st2 := [.long (hh 1), .int 5, .ref 11]) rfl (by rw [hq 1] <;> rfl) ?_
  refine mB hT 19 rfl ?_
  refine mB hT 19 rfl ?_
  refine mNf (lv2 := [(3, .int 7), (2, .int 1), (0, .ref 0), (1, .int 1)]) (st2 := [.long (ta 7), .int 7, .ref 11]) rfl rfl ?_
  refine mB hT 1 rfl ?_
  refine mWd (w2 := (MW 4 vs wo u h bo ta (up (up (up (up (up (up (up (up (tsM 4 ta 0 hh) 0 (ta 0)) 1 (hh 0)) 2 (ta 2)) 3 (ta 3)) 4 (ta 4)) 5 (hh 1)) 6 (ta 6)) 7 (ta 7)) (up ro 0 (rr 0)) ot Bm bk)) rfl ?_
  refine mB hT 18 rfl ?_
  refine mB hT 32 rfl ?_
  refine mNf (lv2 := [(3, .int 9), (2, .int 1), (0, .ref 0), (1, .int 1)]) (st2 := [.long (hh 2), .int 9, .ref 11]) rfl (by rw [hq 2] <;> rfl) ?_
  refine mB hT 19 rfl ?_
  refine mB hT 1 rfl ?_
  refine mWd (w2 := (MW 4 vs wo u h bo ta (up (up (up (up (up (up (up (up (up (up (up (tsM 4 ta 0 hh) 0 (ta 0)) 1 (hh 0)) 2 (ta 2)) 3 (ta 3)) 4 (ta 4)) 5 (hh 1)) 6 (ta 6)) 7 (ta 7)) 8 (ta 8)) 9 (hh 2)) 10 (ta 10)) (up ro 0 (rr 0)) ot Bm bk)) rfl ?_
  refine mB hT 18 rfl ?_
  refine mNf (lv2 := [(3, .int 11), (2, .int 1), (0, .ref 0), (1, .int 1)]) (st2 := [.long (ta 11), .int 11, .ref 11]) rfl rfl ?_
  refine mB hT 19 rfl ?_
  refine mB hT 32 rfl ?_
  refine mNf (lv2 := [(3, .int 13), (2, .int 1), (0, .ref 0), (1, .int 1)]) (st2 := [.long (hh 3), .int 13, .ref 11]) rfl (by rw [hq 3] <;> rfl) ?_
  refine mB hT 1 rfl ?_
  refine mWd (w2 := (MW 4 vs wo u h bo ta (up (up (up (up (up (up (up (up (up (up (up (up (up (up (tsM 4 ta 0 hh) 0 (ta 0)) 1 (hh 0)) 2 (ta 2)) 3 (ta 3)) 4 (ta 4)) 5 (hh 1)) 6 (ta 6)) 7 (ta 7)) 8 (ta 8)) 9 (hh 2)) 10 (ta 10)) 11 (ta 11)) 12 (ta 12)) 13 (hh 3)) (up ro 0 (rr 0)) ot Bm bk)) rfl ?_
  refine mB hT 18 rfl ?_
  refine mB hT 19 rfl ?_
  refine mNf (lv2 := [(3, .int 15), (2, .int 1), (0, .ref 0), (1, .int 1)]) (st2 := [.long (ta 15), .int 15, .ref 11]) rfl rfl ?_
  refine mB hT 14 rfl ?_
  refine mIf (fun hp => absurd hp (fun q => Int64.not_lt.mpr (lc_ge.mp q) hs)) (fun _ => ?_)
  refine mB hT 1 rfl ?_
  refine mWd (w2 := (MW 4 vs wo u h bo ta (up (up (up (up (up (up (up (up (up (up (up (up (up (up (up (up (tsM 4 ta 0 hh) 0 (ta 0)) 1 (hh 0)) 2 (ta 2)) 3 (ta 3)) 4 (ta 4)) 5 (hh 1)) 6 (ta 6)) 7 (ta 7)) 8 (ta 8)) 9 (hh 2)) 10 (ta 10)) 11 (ta 11)) 12 (ta 12)) 13 (hh 3)) 14 (ta 14)) 15 (ta 15)) (up ro 0 (rr 0)) ot Bm bk)) rfl ?_
  refine mWd (w2 := (MW 4 vs wo u h bo ta (tsM 4 ta 1 hh) (up ro 0 (rr 0)) ot Bm bk)) rfl ?_
  refine hC.1 _ 0 [] _ _ _ _ _ (m_det) rfl rfl (Nat.le_of_ble_eq_true rfl) rfl ?_
  refine mB hT 2 rfl ?_
  refine mNf (lv2 := [(3, .int 16), (2, .int 1), (0, .ref 0), (1, .int 1)]) (st2 := [.long (rr 1), .int 1, .ref 12]) rfl (by rw [hrr 1] <;> rfl) ?_
  refine mB hT 24 rfl ?_
  refine mNf (lv2 := [(3, .int 0), (2, .int 2), (0, .ref 0), (1, .int 1)]) (st2 := [.long (ta 0), .int 0, .ref 11]) rfl rfl ?_
  refine mB hT 19 rfl ?_
  refine mB hT 1 rfl ?_
  refine mWd (w2 := (MW 4 vs wo u h bo ta (up (up (tsM 4 ta 1 hh) 0 (ta 0)) 1 (ta 1)) (up (up ro 0 (rr 0)) 1 (rr 1)) ot Bm bk)) rfl ?_
  refine mB hT 31 rfl ?_
  refine mNf (lv2 := [(3, .int 2), (2, .int 2), (0, .ref 0), (1, .int 1)]) (st2 := [.long (hh 0), .int 2, .ref 11]) rfl (by rw [hq 0] <;> rfl) ?_
  refine mB hT 19 rfl ?_
  refine mB hT 19 rfl ?_
  refine mNf (lv2 := [(3, .int 4), (2, .int 2), (0, .ref 0), (1, .int 1)]) (st2 := [.long (ta 4), .int 4, .ref 11]) rfl rfl ?_
  refine mB hT 1 rfl ?_
  refine mWd (w2 := (MW 4 vs wo u h bo ta (up (up (up (up (up (tsM 4 ta 1 hh) 0 (ta 0)) 1 (ta 1)) 2 (hh 0)) 3 (ta 3)) 4 (ta 4)) (up (up ro 0 (rr 0)) 1 (rr 1)) ot Bm bk)) rfl ?_
  refine mB hT 18 rfl ?_
  refine mB hT 32 rfl ?_
  refine mNf (lv2 := [(3, .int 6), (2, .int 2), (0, .ref 0), (1, .int 1)]) (st2 := [.long (hh 1), .int 6, .ref 11]) rfl (by rw [hq 1] <;> rfl) ?_
  refine mB hT 19 rfl ?_
  refine mB hT 1 rfl ?_
  refine mWd (w2 := (MW 4 vs wo u h bo ta (up (up (up (up (up (up (up (up (tsM 4 ta 1 hh) 0 (ta 0)) 1 (ta 1)) 2 (hh 0)) 3 (ta 3)) 4 (ta 4)) 5 (ta 5)) 6 (hh 1)) 7 (ta 7)) (up (up ro 0 (rr 0)) 1 (rr 1)) ot Bm bk)) rfl ?_
  refine mB hT 18 rfl ?_
  refine mNf (lv2 := [(3, .int 8), (2, .int 2), (0, .ref 0), (1, .int 1)]) (st2 := [.long (ta 8), .int 8, .ref 11]) rfl rfl ?_
  refine mB hT 19 rfl ?_
  refine mB hT 32 rfl ?_
  refine mNf (lv2 := [(3, .int 10), (2, .int 2), (0, .ref 0), (1, .int 1)]) (st2 := [.long (hh 2), .int 10, .ref 11]) rfl (by rw [hq 2] <;> rfl) ?_
  refine mB hT 1 rfl ?_
  refine mWd (w2 := (MW 4 vs wo u h bo ta (up (up (up (up (up (up (up (up (up (up (up (tsM 4 ta 1 hh) 0 (ta 0)) 1 (ta 1)) 2 (hh 0)) 3 (ta 3)) 4 (ta 4)) 5 (ta 5)) 6 (hh 1)) 7 (ta 7)) 8 (ta 8)) 9 (ta 9)) 10 (hh 2)) (up (up ro 0 (rr 0)) 1 (rr 1)) ot Bm bk)) rfl ?_
  refine mB hT 18 rfl ?_
  refine mB hT 19 rfl ?_
  refine mNf (lv2 := [(3, .int 12), (2, .int 2), (0, .ref 0), (1, .int 1)]) (st2 := [.long (ta 12), .int 12, .ref 11]) rfl rfl ?_
  refine mB hT 19 rfl ?_
  refine mB hT 1 rfl ?_
  refine mWd (w2 := (MW 4 vs wo u h bo ta (up (up (up (up (up (up (up (up (up (up (up (up (up (up (tsM 4 ta 1 hh) 0 (ta 0)) 1 (ta 1)) 2 (hh 0)) 3 (ta 3)) 4 (ta 4)) 5 (ta 5)) 6 (hh 1)) 7 (ta 7)) 8 (ta 8)) 9 (ta 9)) 10 (hh 2)) 11 (ta 11)) 12 (ta 12)) 13 (ta 13)) (up (up ro 0 (rr 0)) 1 (rr 1)) ot Bm bk)) rfl ?_
  refine mB hT 31 rfl ?_
  refine mNf (lv2 := [(3, .int 14), (2, .int 2), (0, .ref 0), (1, .int 1)]) (st2 := [.long (hh 3), .int 14, .ref 11]) rfl (by rw [hq 3] <;> rfl) ?_
  refine mB hT 19 rfl ?_
  refine mB hT 14 rfl ?_
  refine mIf (fun hp => absurd hp (fun q => Int64.not_lt.mpr (lc_ge.mp q) hs)) (fun _ => ?_)
  refine mNf (lv2 := [(3, .int 16), (2, .int 2), (0, .ref 0), (1, .int 1)]) (st2 := [.int 2, .ref 12]) rfl rfl ?_
  refine mB hT 1 rfl ?_
  refine mWd (w2 := (MW 4 vs wo u h bo ta (up (up (up (up (up (up (up (up (up (up (up (up (up (up (up (up (tsM 4 ta 1 hh) 0 (ta 0)) 1 (ta 1)) 2 (hh 0)) 3 (ta 3)) 4 (ta 4)) 5 (ta 5)) 6 (hh 1)) 7 (ta 7)) 8 (ta 8)) 9 (ta 9)) 10 (hh 2)) 11 (ta 11)) 12 (ta 12)) 13 (ta 13)) 14 (hh 3)) 15 (ta 15)) (up (up ro 0 (rr 0)) 1 (rr 1)) ot Bm bk)) rfl ?_
  refine mWd (w2 := (MW 4 vs wo u h bo ta (tsM 4 ta 2 hh) (up (up ro 0 (rr 0)) 1 (rr 1)) ot Bm bk)) rfl ?_
  refine hC.1 _ 0 [] _ _ _ _ _ (m_det) rfl rfl (Nat.le_of_ble_eq_true rfl) rfl ?_
  refine mB hT 2 rfl ?_
  refine mNf (lv2 := [(3, .int 16), (2, .int 2), (0, .ref 0), (1, .int 1)]) (st2 := [.long (rr 2), .int 2, .ref 12]) rfl (by rw [hrr 2] <;> rfl) ?_
  refine mB hT 24 rfl ?_
  refine mNf (lv2 := [(3, .int 0), (2, .int 3), (0, .ref 0), (1, .int 1)]) (st2 := [.long (ta 0), .int 0, .ref 11]) rfl rfl ?_
  refine mB hT 19 rfl ?_
  refine mB hT 1 rfl ?_
  refine mWd (w2 := (MW 4 vs wo u h bo ta (up (up (tsM 4 ta 2 hh) 0 (ta 0)) 1 (ta 1)) (up (up (up ro 0 (rr 0)) 1 (rr 1)) 2 (rr 2)) ot Bm bk)) rfl ?_
  refine mB hT 18 rfl ?_
  refine mNf (lv2 := [(3, .int 2), (2, .int 3), (0, .ref 0), (1, .int 1)]) (st2 := [.long (ta 2), .int 2, .ref 11]) rfl rfl ?_
  refine mB hT 32 rfl ?_
  refine mNf (lv2 := [(3, .int 3), (2, .int 3), (0, .ref 0), (1, .int 1)]) (st2 := [.long (hh 0), .int 3, .ref 11]) rfl (by rw [hq 0] <;> rfl) ?_
  refine mB hT 19 rfl ?_
  refine mB hT 1 rfl ?_
  refine mWd (w2 := (MW 4 vs wo u h bo ta (up (up (up (up (up (tsM 4 ta 2 hh) 0 (ta 0)) 1 (ta 1)) 2 (ta 2)) 3 (hh 0)) 4 (ta 4)) (up (up (up ro 0 (rr 0)) 1 (rr 1)) 2 (rr 2)) ot Bm bk)) rfl ?_
  refine mB hT 18 rfl ?_
  refine mNf (lv2 := [(3, .int 5), (2, .int 3), (0, .ref 0), (1, .int 1)]) (st2 := [.long (ta 5), .int 5, .ref 11]) rfl rfl ?_
  refine mB hT 19 rfl ?_
  refine mB hT 32 rfl ?_
  refine mNf (lv2 := [(3, .int 7), (2, .int 3), (0, .ref 0), (1, .int 1)]) (st2 := [.long (hh 1), .int 7, .ref 11]) rfl (by rw [hq 1] <;> rfl) ?_
  refine mB hT 1 rfl ?_
  refine mWd (w2 := (MW 4 vs wo u h bo ta (up (up (up (up (up (up (up (up (tsM 4 ta 2 hh) 0 (ta 0)) 1 (ta 1)) 2 (ta 2)) 3 (hh 0)) 4 (ta 4)) 5 (ta 5)) 6 (ta 6)) 7 (hh 1)) (up (up (up ro 0 (rr 0)) 1 (rr 1)) 2 (rr 2)) ot Bm bk)) rfl ?_
  refine mB hT 18 rfl ?_
  refine mB hT 19 rfl ?_
  refine mNf (lv2 := [(3, .int 9), (2, .int 3), (0, .ref 0), (1, .int 1)]) (st2 := [.long (ta 9), .int 9, .ref 11]) rfl rfl ?_
  refine mB hT 19 rfl ?_
  refine mB hT 1 rfl ?_
  refine mWd (w2 := (MW 4 vs wo u h bo ta (up (up (up (up (up (up (up (up (up (up (up (tsM 4 ta 2 hh) 0 (ta 0)) 1 (ta 1)) 2 (ta 2)) 3 (hh 0)) 4 (ta 4)) 5 (ta 5)) 6 (ta 6)) 7 (hh 1)) 8 (ta 8)) 9 (ta 9)) 10 (ta 10)) (up (up (up ro 0 (rr 0)) 1 (rr 1)) 2 (rr 2)) ot Bm bk)) rfl ?_
  refine mB hT 31 rfl ?_
  refine mNf (lv2 := [(3, .int 11), (2, .int 3), (0, .ref 0), (1, .int 1)]) (st2 := [.long (hh 2), .int 11, .ref 11]) rfl (by rw [hq 2] <;> rfl) ?_
  refine mB hT 19 rfl ?_
  refine mB hT 19 rfl ?_
  refine mNf (lv2 := [(3, .int 13), (2, .int 3), (0, .ref 0), (1, .int 1)]) (st2 := [.long (ta 13), .int 13, .ref 11]) rfl rfl ?_
  refine mB hT 1 rfl ?_
  refine mWd (w2 := (MW 4 vs wo u h bo ta (up (up (up (up (up (up (up (up (up (up (up (up (up (up (tsM 4 ta 2 hh) 0 (ta 0)) 1 (ta 1)) 2 (ta 2)) 3 (hh 0)) 4 (ta 4)) 5 (ta 5)) 6 (ta 6)) 7 (hh 1)) 8 (ta 8)) 9 (ta 9)) 10 (ta 10)) 11 (hh 2)) 12 (ta 12)) 13 (ta 13)) (up (up (up ro 0 (rr 0)) 1 (rr 1)) 2 (rr 2)) ot Bm bk)) rfl ?_
  refine mB hT 18 rfl ?_
  refine mB hT 32 rfl ?_
  refine mNf (lv2 := [(3, .int 15), (2, .int 3), (0, .ref 0), (1, .int 1)]) (st2 := [.long (hh 3), .int 15, .ref 11]) rfl (by rw [hq 3] <;> rfl) ?_
  refine mB hT 14 rfl ?_
  refine mIf (fun hp => absurd hp (fun q => Int64.not_lt.mpr (lc_ge.mp q) hs)) (fun _ => ?_)
  refine mB hT 1 rfl ?_
  refine mWd (w2 := (MW 4 vs wo u h bo ta (up (up (up (up (up (up (up (up (up (up (up (up (up (up (up (up (tsM 4 ta 2 hh) 0 (ta 0)) 1 (ta 1)) 2 (ta 2)) 3 (hh 0)) 4 (ta 4)) 5 (ta 5)) 6 (ta 6)) 7 (hh 1)) 8 (ta 8)) 9 (ta 9)) 10 (ta 10)) 11 (hh 2)) 12 (ta 12)) 13 (ta 13)) 14 (ta 14)) 15 (hh 3)) (up (up (up ro 0 (rr 0)) 1 (rr 1)) 2 (rr 2)) ot Bm bk)) rfl ?_
  refine mWd (w2 := (MW 4 vs wo u h bo ta (tsM 4 ta 3 hh) (up (up (up ro 0 (rr 0)) 1 (rr 1)) 2 (rr 2)) ot Bm bk)) rfl ?_
  refine hC.1 _ 0 [] _ _ _ _ _ (m_det) rfl rfl (Nat.le_of_ble_eq_true rfl) rfl ?_
  refine mB hT 2 rfl ?_
  refine mNf (lv2 := [(3, .int 16), (2, .int 3), (0, .ref 0), (1, .int 1)]) (st2 := [.long (rr 3), .int 3, .ref 12]) rfl (by rw [hrr 3] <;> rfl) ?_
  refine mB hT 6 rfl ?_
  exact hR _ (by decide) _ _ _ rfl rfl
set_option maxRecDepth 20000 in
theorem m_solve_4_2p {vs : Int32} {wo un h : Int64} {bo : Nat → Int32} {ta tr ro ot : Nat → Int64} {Bm : Nat → Nat → Nat → Int32} {bk : Nat → Nat → Int32} {u : Int64} {hh rr : Nat → Int64} (hs : ¬ wo < 0) (hu : u = wo) (hq : ∀ j : Nat, hh j = (bk 2 j).toInt64) (hrr : ∀ i : Nat, rr i = dtM (tsM 4 ta i hh)) : KX3_solve l D ca ad [.ref 0, .int 2] (MW 4 vs wo un h bo ta tr ro ot Bm bk) none (MW 4 vs wo u h bo ta (tsM 4 ta 3 hh) rr ot Bm bk) := by
  refine PX3_solve (Nat.le_of_ble_eq_true rfl) ?_
  intro G hT hC hR
  refine mB hT 6 rfl ?_
  refine mIf (fun _ => ?_) (fun hn => absurd (lc_ge.mpr (Int64.not_lt.mp hs)) hn)
  refine mB hT 2 rfl ?_
  refine mNf (lv2 := [(0, .ref 0), (1, .int 2)]) (st2 := [.long u, .ref 0]) rfl (by rw [hu] <;> rfl) ?_
  refine mB hT 37 rfl ?_
  refine mNf (lv2 := [(3, .int 0), (2, .int 0), (0, .ref 0), (1, .int 2)]) (st2 := [.long (hh 0), .int 0, .ref 11]) rfl (by rw [hq 0] <;> rfl) ?_
  refine mB hT 19 rfl ?_
  refine mB hT 1 rfl ?_
  refine mWd (w2 := (MW 4 vs wo u h bo ta (up (up tr 0 (hh 0)) 1 (ta 1)) ro ot Bm bk)) rfl ?_
  refine mB hT 18 rfl ?_
  refine mNf (lv2 := [(3, .int 2), (2, .int 0), (0, .ref 0), (1, .int 2)]) (st2 := [.long (ta 2), .int 2, .ref 11]) rfl rfl ?_
  refine mB hT 19 rfl ?_
  refine mB hT 32 rfl ?_
  refine mNf (lv2 := [(3, .int 4), (2, .int 0), (0, .ref 0), (1, .int 2)]) (st2 := [.long (hh 1), .int 4, .ref 11]) rfl (by rw [hq 1] <;> rfl) ?_
  refine mB hT 1 rfl ?_
  refine mWd (w2 := (MW 4 vs wo u h bo ta (up (up (up (up (up tr 0 (hh 0)) 1 (ta 1)) 2 (ta 2)) 3 (ta 3)) 4 (hh 1)) ro ot Bm bk)) rfl ?_
  refine mB hT 18 rfl ?_
  refine mB hT 19 rfl ?_
  refine mNf (lv2 := [(3, .int 6), (2, .int 0), (0, .ref 0), (1, .int 2)]) (st2 := [.long (ta 6), .int 6, .ref 11]) rfl rfl ?_
  refine mB hT 19 rfl ?_
  refine mB hT 1 rfl ?_
  refine mWd (w2 := (MW 4 vs wo u h bo ta (up (up (up (up (up (up (up (up tr 0 (hh 0)) 1 (ta 1)) 2 (ta 2)) 3 (ta 3)) 4 (hh 1)) 5 (ta 5)) 6 (ta 6)) 7 (ta 7)) ro ot Bm bk)) rfl ?_
  refine mB hT 31 rfl ?_
  refine mNf (lv2 := [(3, .int 8), (2, .int 0), (0, .ref 0), (1, .int 2)]) (st2 := [.long (hh 2), .int 8, .ref 11]) rfl (by rw [hq 2] <;> rfl) ?_
  refine mB hT 19 rfl ?_
  refine mB hT 19 rfl ?_
  refine mNf (lv2 := [(3, .int 10), (2, .int 0), (0, .ref 0), (1, .int 2)]) (st2 := [.long (ta 10), .int 10, .ref 11]) rfl rfl ?_
  refine mB hT 1 rfl ?_
  refine mWd (w2 := (MW 4 vs wo u h bo ta (up (up (up (up (up (up (up (up (up (up (up tr 0 (hh 0)) 1 (ta 1)) 2 (ta 2)) 3 (ta 3)) 4 (hh 1)) 5 (ta 5)) 6 (ta 6)) 7 (ta 7)) 8 (hh 2)) 9 (ta 9)) 10 (ta 10)) ro ot Bm bk)) rfl ?_
  refine mB hT 18 rfl ?_
  refine mB hT 32 rfl ?_
  refine mNf (lv2 := [(3, .int 12), (2, .int 0), (0, .ref 0), (1, .int 2)]) (st2 := [.long (hh 3), .int 12, .ref 11]) rfl (by rw [hq 3] <;> rfl) ?_
  refine mB hT 19 rfl ?_
  refine mB hT 1 rfl ?_
  refine mWd (w2 := (MW 4 vs wo u h bo ta (up (up (up (up (up (up (up (up (up (up (up (up (up (up tr 0 (hh 0)) 1 (ta 1)) 2 (ta 2)) 3 (ta 3)) 4 (hh 1)) 5 (ta 5)) 6 (ta 6)) 7 (ta 7)) 8 (hh 2)) 9 (ta 9)) 10 (ta 10)) 11 (ta 11)) 12 (hh 3)) 13 (ta 13)) ro ot Bm bk)) rfl ?_
  refine mB hT 18 rfl ?_
  refine mNf (lv2 := [(3, .int 14), (2, .int 0), (0, .ref 0), (1, .int 2)]) (st2 := [.long (ta 14), .int 14, .ref 11]) rfl rfl ?_
  refine mB hT 19 rfl ?_
  refine mB hT 14 rfl ?_
  refine mIf (fun _ => ?_) (fun hn => absurd (lc_ge.mpr (Int64.not_lt.mp hs)) hn)
  refine mNf (lv2 := [(3, .int 16), (2, .int 0), (0, .ref 0), (1, .int 2)]) (st2 := [.int 0, .ref 12]) rfl rfl ?_
  refine mB hT 1 rfl ?_
  refine mWd (w2 := (MW 4 vs wo u h bo ta (up (up (up (up (up (up (up (up (up (up (up (up (up (up (up (up tr 0 (hh 0)) 1 (ta 1)) 2 (ta 2)) 3 (ta 3)) 4 (hh 1)) 5 (ta 5)) 6 (ta 6)) 7 (ta 7)) 8 (hh 2)) 9 (ta 9)) 10 (ta 10)) 11 (ta 11)) 12 (hh 3)) 13 (ta 13)) 14 (ta 14)) 15 (ta 15)) ro ot Bm bk)) rfl ?_
  refine mWd (w2 := (MW 4 vs wo u h bo ta (tsM 4 ta 0 hh) ro ot Bm bk)) rfl ?_
  refine hC.2 _ 0 [] _ _ _ _ _ (m_det) rfl rfl (Nat.le_of_ble_eq_true rfl) rfl ?_
  refine mNf (lv2 := [(3, .int 16), (2, .int 0), (0, .ref 0), (1, .int 2)]) (st2 := [.long (rr 0), .int 0, .ref 12]) rfl (by rw [hrr 0] <;> rfl) ?_
  refine mB hT 24 rfl ?_
  refine mNf (lv2 := [(3, .int 0), (2, .int 1), (0, .ref 0), (1, .int 2)]) (st2 := [.long (ta 0), .int 0, .ref 11]) rfl rfl ?_
  refine mB hT 32 rfl ?_
  refine mNf (lv2 := [(3, .int 1), (2, .int 1), (0, .ref 0), (1, .int 2)]) (st2 := [.long (hh 0), .int 1, .ref 11]) rfl (by rw [hq 0] <;> rfl) ?_
  refine mB hT 1 rfl ?_
  refine mWd (w2 := (MW 4 vs wo u h bo ta (up (up (tsM 4 ta 0 hh) 0 (ta 0)) 1 (hh 0)) (up ro 0 (rr 0)) ot Bm bk)) rfl ?_
  refine mB hT 18 rfl ?_
  refine mB hT 19 rfl ?_
  refine mNf (lv2 := [(3, .int 3), (2, .int 1), (0, .ref 0), (1, .int 2)]) (st2 := [.long (ta 3), .int 3, .ref 11]) rfl rfl ?_
  refine mB hT 19 rfl ?_
  refine mB hT 1 rfl ?_
  refine mWd (w2 := (MW 4 vs wo u h bo ta (up (up (up (up (up (tsM 4 ta 0 hh) 0 (ta 0)) 1 (hh 0)) 2 (ta 2)) 3 (ta 3)) 4 (ta 4)) (up ro 0 (rr 0)) ot Bm bk)) rfl ?_
  refine mB hT 31 rfl ?_
  refine mNf (lv2 := [(3, .int 5), (2, .int 1), (0, .ref 0), (1, .int 2)]) (st2 := [.long (hh 1), .int 5, .ref 11]) rfl (by rw [hq 1] <;> rfl) ?_
  refine mB hT 19 rfl ?_
  refine mB hT 19 rfl ?_
  refine mNf (lv2 := [(3, .int 7), (2, .int 1), (0, .ref 0), (1, .int 2)]) (st2 := [.long (ta 7), .int 7, .ref 11]) rfl rfl ?_
  refine mB hT 1 rfl ?_
  refine mWd (w2 := (MW 4 vs wo u h bo ta (up (up (up (up (up (up (up (up (tsM 4 ta 0 hh) 0 (ta 0)) 1 (hh 0)) 2 (ta 2)) 3 (ta 3)) 4 (ta 4)) 5 (hh 1)) 6 (ta 6)) 7 (ta 7)) (up ro 0 (rr 0)) ot Bm bk)) rfl ?_
  refine mB hT 18 rfl ?_
  refine mB hT 32 rfl ?_
  refine mNf (lv2 := [(3, .int 9), (2, .int 1), (0, .ref 0), (1, .int 2)]) (st2 := [.long (hh 2), .int 9, .ref 11]) rfl (by rw [hq 2] <;> rfl) ?_
  refine mB hT 19 rfl ?_
  refine mB hT 1 rfl ?_
  refine mWd (w2 := (MW 4 vs wo u h bo ta (up (up (up (up (up (up (up (up (up (up (up (tsM 4 ta 0 hh) 0 (ta 0)) 1 (hh 0)) 2 (ta 2)) 3 (ta 3)) 4 (ta 4)) 5 (hh 1)) 6 (ta 6)) 7 (ta 7)) 8 (ta 8)) 9 (hh 2)) 10 (ta 10)) (up ro 0 (rr 0)) ot Bm bk)) rfl ?_
  refine mB hT 18 rfl ?_
  refine mNf (lv2 := [(3, .int 11), (2, .int 1), (0, .ref 0), (1, .int 2)]) (st2 := [.long (ta 11), .int 11, .ref 11]) rfl rfl ?_
  refine mB hT 19 rfl ?_
  refine mB hT 32 rfl ?_
  refine mNf (lv2 := [(3, .int 13), (2, .int 1), (0, .ref 0), (1, .int 2)]) (st2 := [.long (hh 3), .int 13, .ref 11]) rfl (by rw [hq 3] <;> rfl) ?_
  refine mB hT 1 rfl ?_
  refine mWd (w2 := (MW 4 vs wo u h bo ta (up (up (up (up (up (up (up (up (up (up (up (up (up (up (tsM 4 ta 0 hh) 0 (ta 0)) 1 (hh 0)) 2 (ta 2)) 3 (ta 3)) 4 (ta 4)) 5 (hh 1)) 6 (ta 6)) 7 (ta 7)) 8 (ta 8)) 9 (hh 2)) 10 (ta 10)) 11 (ta 11)) 12 (ta 12)) 13 (hh 3)) (up ro 0 (rr 0)) ot Bm bk)) rfl ?_
  refine mB hT 18 rfl ?_
  refine mB hT 19 rfl ?_
  refine mNf (lv2 := [(3, .int 15), (2, .int 1), (0, .ref 0), (1, .int 2)]) (st2 := [.long (ta 15), .int 15, .ref 11]) rfl rfl ?_
  refine mB hT 14 rfl ?_
  refine mIf (fun _ => ?_) (fun hn => absurd (lc_ge.mpr (Int64.not_lt.mp hs)) hn)
  refine mB hT 1 rfl ?_
  refine mWd (w2 := (MW 4 vs wo u h bo ta (up (up (up (up (up (up (up (up (up (up (up (up (up (up (up (up (tsM 4 ta 0 hh) 0 (ta 0)) 1 (hh 0)) 2 (ta 2)) 3 (ta 3)) 4 (ta 4)) 5 (hh 1)) 6 (ta 6)) 7 (ta 7)) 8 (ta 8)) 9 (hh 2)) 10 (ta 10)) 11 (ta 11)) 12 (ta 12)) 13 (hh 3)) 14 (ta 14)) 15 (ta 15)) (up ro 0 (rr 0)) ot Bm bk)) rfl ?_
  refine mWd (w2 := (MW 4 vs wo u h bo ta (tsM 4 ta 1 hh) (up ro 0 (rr 0)) ot Bm bk)) rfl ?_
  refine hC.2 _ 0 [] _ _ _ _ _ (m_det) rfl rfl (Nat.le_of_ble_eq_true rfl) rfl ?_
  refine mNf (lv2 := [(3, .int 16), (2, .int 1), (0, .ref 0), (1, .int 2)]) (st2 := [.long (rr 1), .int 1, .ref 12]) rfl (by rw [hrr 1] <;> rfl) ?_
  refine mB hT 24 rfl ?_
  refine mNf (lv2 := [(3, .int 0), (2, .int 2), (0, .ref 0), (1, .int 2)]) (st2 := [.long (ta 0), .int 0, .ref 11]) rfl rfl ?_
  refine mB hT 19 rfl ?_
  refine mB hT 1 rfl ?_
  refine mWd (w2 := (MW 4 vs wo u h bo ta (up (up (tsM 4 ta 1 hh) 0 (ta 0)) 1 (ta 1)) (up (up ro 0 (rr 0)) 1 (rr 1)) ot Bm bk)) rfl ?_
  refine mB hT 31 rfl ?_
  refine mNf (lv2 := [(3, .int 2), (2, .int 2), (0, .ref 0), (1, .int 2)]) (st2 := [.long (hh 0), .int 2, .ref 11]) rfl (by rw [hq 0] <;> rfl) ?_
  refine mB hT 19 rfl ?_
  refine mB hT 19 rfl ?_
  refine mNf (lv2 := [(3, .int 4), (2, .int 2), (0, .ref 0), (1, .int 2)]) (st2 := [.long (ta 4), .int 4, .ref 11]) rfl rfl ?_
  refine mB hT 1 rfl ?_
  refine mWd (w2 := (MW 4 vs wo u h bo ta (up (up (up (up (up (tsM 4 ta 1 hh) 0 (ta 0)) 1 (ta 1)) 2 (hh 0)) 3 (ta 3)) 4 (ta 4)) (up (up ro 0 (rr 0)) 1 (rr 1)) ot Bm bk)) rfl ?_
  refine mB hT 18 rfl ?_
  refine mB hT 32 rfl ?_
  refine mNf (lv2 := [(3, .int 6), (2, .int 2), (0, .ref 0), (1, .int 2)]) (st2 := [.long (hh 1), .int 6, .ref 11]) rfl (by rw [hq 1] <;> rfl) ?_
  refine mB hT 19 rfl ?_
  refine mB hT 1 rfl ?_
  refine mWd (w2 := (MW 4 vs wo u h bo ta (up (up (up (up (up (up (up (up (tsM 4 ta 1 hh) 0 (ta 0)) 1 (ta 1)) 2 (hh 0)) 3 (ta 3)) 4 (ta 4)) 5 (ta 5)) 6 (hh 1)) 7 (ta 7)) (up (up ro 0 (rr 0)) 1 (rr 1)) ot Bm bk)) rfl ?_
  refine mB hT 18 rfl ?_
  refine mNf (lv2 := [(3, .int 8), (2, .int 2), (0, .ref 0), (1, .int 2)]) (st2 := [.long (ta 8), .int 8, .ref 11]) rfl rfl ?_
  refine mB hT 19 rfl ?_
  refine mB hT 32 rfl ?_
  refine mNf (lv2 := [(3, .int 10), (2, .int 2), (0, .ref 0), (1, .int 2)]) (st2 := [.long (hh 2), .int 10, .ref 11]) rfl (by rw [hq 2] <;> rfl) ?_
  refine mB hT 1 rfl ?_
  refine mWd (w2 := (MW 4 vs wo u h bo ta (up (up (up (up (up (up (up (up (up (up (up (tsM 4 ta 1 hh) 0 (ta 0)) 1 (ta 1)) 2 (hh 0)) 3 (ta 3)) 4 (ta 4)) 5 (ta 5)) 6 (hh 1)) 7 (ta 7)) 8 (ta 8)) 9 (ta 9)) 10 (hh 2)) (up (up ro 0 (rr 0)) 1 (rr 1)) ot Bm bk)) rfl ?_
  refine mB hT 18 rfl ?_
  refine mB hT 19 rfl ?_
  refine mNf (lv2 := [(3, .int 12), (2, .int 2), (0, .ref 0), (1, .int 2)]) (st2 := [.long (ta 12), .int 12, .ref 11]) rfl rfl ?_
  refine mB hT 19 rfl ?_
  refine mB hT 1 rfl ?_
  refine mWd (w2 := (MW 4 vs wo u h bo ta (up (up (up (up (up (up (up (up (up (up (up (up (up (up (tsM 4 ta 1 hh) 0 (ta 0)) 1 (ta 1)) 2 (hh 0)) 3 (ta 3)) 4 (ta 4)) 5 (ta 5)) 6 (hh 1)) 7 (ta 7)) 8 (ta 8)) 9 (ta 9)) 10 (hh 2)) 11 (ta 11)) 12 (ta 12)) 13 (ta 13)) (up (up ro 0 (rr 0)) 1 (rr 1)) ot Bm bk)) rfl ?_
  refine mB hT 31 rfl ?_
  refine mNf (lv2 := [(3, .int 14), (2, .int 2), (0, .ref 0), (1, .int 2)]) (st2 := [.long (hh 3), .int 14, .ref 11]) rfl (by rw [hq 3] <;> rfl) ?_
  refine mB hT 19 rfl ?_
  refine mB hT 14 rfl ?_
  refine mIf (fun _ => ?_) (fun hn => absurd (lc_ge.mpr (Int64.not_lt.mp hs)) hn)
  refine mNf (lv2 := [(3, .int 16), (2, .int 2), (0, .ref 0), (1, .int 2)]) (st2 := [.int 2, .ref 12]) rfl rfl ?_
  refine mB hT 1 rfl ?_
  refine mWd (w2 := (MW 4 vs wo u h bo ta (up (up (up (up (up (up (up (up (up (up (up (up (up (up (up (up (tsM 4 ta 1 hh) 0 (ta 0)) 1 (ta 1)) 2 (hh 0)) 3 (ta 3)) 4 (ta 4)) 5 (ta 5)) 6 (hh 1)) 7 (ta 7)) 8 (ta 8)) 9 (ta 9)) 10 (hh 2)) 11 (ta 11)) 12 (ta 12)) 13 (ta 13)) 14 (hh 3)) 15 (ta 15)) (up (up ro 0 (rr 0)) 1 (rr 1)) ot Bm bk)) rfl ?_
  refine mWd (w2 := (MW 4 vs wo u h bo ta (tsM 4 ta 2 hh) (up (up ro 0 (rr 0)) 1 (rr 1)) ot Bm bk)) rfl ?_
  refine hC.2 _ 0 [] _ _ _ _ _ (m_det) rfl rfl (Nat.le_of_ble_eq_true rfl) rfl ?_
  refine mNf (lv2 := [(3, .int 16), (2, .int 2), (0, .ref 0), (1, .int 2)]) (st2 := [.long (rr 2), .int 2, .ref 12]) rfl (by rw [hrr 2] <;> rfl) ?_
  refine mB hT 24 rfl ?_
  refine mNf (lv2 := [(3, .int 0), (2, .int 3), (0, .ref 0), (1, .int 2)]) (st2 := [.long (ta 0), .int 0, .ref 11]) rfl rfl ?_
  refine mB hT 19 rfl ?_
  refine mB hT 1 rfl ?_
  refine mWd (w2 := (MW 4 vs wo u h bo ta (up (up (tsM 4 ta 2 hh) 0 (ta 0)) 1 (ta 1)) (up (up (up ro 0 (rr 0)) 1 (rr 1)) 2 (rr 2)) ot Bm bk)) rfl ?_
  refine mB hT 18 rfl ?_
  refine mNf (lv2 := [(3, .int 2), (2, .int 3), (0, .ref 0), (1, .int 2)]) (st2 := [.long (ta 2), .int 2, .ref 11]) rfl rfl ?_
  refine mB hT 32 rfl ?_
  refine mNf (lv2 := [(3, .int 3), (2, .int 3), (0, .ref 0), (1, .int 2)]) (st2 := [.long (hh 0), .int 3, .ref 11]) rfl (by rw [hq 0] <;> rfl) ?_
  refine mB hT 19 rfl ?_
  refine mB hT 1 rfl ?_
  refine mWd (w2 := (MW 4 vs wo u h bo ta (up (up (up (up (up (tsM 4 ta 2 hh) 0 (ta 0)) 1 (ta 1)) 2 (ta 2)) 3 (hh 0)) 4 (ta 4)) (up (up (up ro 0 (rr 0)) 1 (rr 1)) 2 (rr 2)) ot Bm bk)) rfl ?_
  refine mB hT 18 rfl ?_
  refine mNf (lv2 := [(3, .int 5), (2, .int 3), (0, .ref 0), (1, .int 2)]) (st2 := [.long (ta 5), .int 5, .ref 11]) rfl rfl ?_
  refine mB hT 19 rfl ?_
  refine mB hT 32 rfl ?_
  refine mNf (lv2 := [(3, .int 7), (2, .int 3), (0, .ref 0), (1, .int 2)]) (st2 := [.long (hh 1), .int 7, .ref 11]) rfl (by rw [hq 1] <;> rfl) ?_
  refine mB hT 1 rfl ?_
  refine mWd (w2 := (MW 4 vs wo u h bo ta (up (up (up (up (up (up (up (up (tsM 4 ta 2 hh) 0 (ta 0)) 1 (ta 1)) 2 (ta 2)) 3 (hh 0)) 4 (ta 4)) 5 (ta 5)) 6 (ta 6)) 7 (hh 1)) (up (up (up ro 0 (rr 0)) 1 (rr 1)) 2 (rr 2)) ot Bm bk)) rfl ?_
  refine mB hT 18 rfl ?_
  refine mB hT 19 rfl ?_
  refine mNf (lv2 := [(3, .int 9), (2, .int 3), (0, .ref 0), (1, .int 2)]) (st2 := [.long (ta 9), .int 9, .ref 11]) rfl rfl ?_
  refine mB hT 19 rfl ?_
  refine mB hT 1 rfl ?_
  refine mWd (w2 := (MW 4 vs wo u h bo ta (up (up (up (up (up (up (up (up (up (up (up (tsM 4 ta 2 hh) 0 (ta 0)) 1 (ta 1)) 2 (ta 2)) 3 (hh 0)) 4 (ta 4)) 5 (ta 5)) 6 (ta 6)) 7 (hh 1)) 8 (ta 8)) 9 (ta 9)) 10 (ta 10)) (up (up (up ro 0 (rr 0)) 1 (rr 1)) 2 (rr 2)) ot Bm bk)) rfl ?_
  refine mB hT 31 rfl ?_
  refine mNf (lv2 := [(3, .int 11), (2, .int 3), (0, .ref 0), (1, .int 2)]) (st2 := [.long (hh 2), .int 11, .ref 11]) rfl (by rw [hq 2] <;> rfl) ?_
  refine mB hT 19 rfl ?_
  refine mB hT 19 rfl ?_
  refine mNf (lv2 := [(3, .int 13), (2, .int 3), (0, .ref 0), (1, .int 2)]) (st2 := [.long (ta 13), .int 13, .ref 11]) rfl rfl ?_
  refine mB hT 1 rfl ?_
  refine mWd (w2 := (MW 4 vs wo u h bo ta (up (up (up (up (up (up (up (up (up (up (up (up (up (up (tsM 4 ta 2 hh) 0 (ta 0)) 1 (ta 1)) 2 (ta 2)) 3 (hh 0)) 4 (ta 4)) 5 (ta 5)) 6 (ta 6)) 7 (hh 1)) 8 (ta 8)) 9 (ta 9)) 10 (ta 10)) 11 (hh 2)) 12 (ta 12)) 13 (ta 13)) (up (up (up ro 0 (rr 0)) 1 (rr 1)) 2 (rr 2)) ot Bm bk)) rfl ?_
  refine mB hT 18 rfl ?_
  refine mB hT 32 rfl ?_
  refine mNf (lv2 := [(3, .int 15), (2, .int 3), (0, .ref 0), (1, .int 2)]) (st2 := [.long (hh 3), .int 15, .ref 11]) rfl (by rw [hq 3] <;> rfl) ?_
  refine mB hT 14 rfl ?_
  refine mIf (fun _ => ?_) (fun hn => absurd (lc_ge.mpr (Int64.not_lt.mp hs)) hn)
  refine mB hT 1 rfl ?_
  refine mWd (w2 := (MW 4 vs wo u h bo ta (up (up (up (up (up (up (up (up (up (up (up (up (up (up (up (up (tsM 4 ta 2 hh) 0 (ta 0)) 1 (ta 1)) 2 (ta 2)) 3 (hh 0)) 4 (ta 4)) 5 (ta 5)) 6 (ta 6)) 7 (hh 1)) 8 (ta 8)) 9 (ta 9)) 10 (ta 10)) 11 (hh 2)) 12 (ta 12)) 13 (ta 13)) 14 (ta 14)) 15 (hh 3)) (up (up (up ro 0 (rr 0)) 1 (rr 1)) 2 (rr 2)) ot Bm bk)) rfl ?_
  refine mWd (w2 := (MW 4 vs wo u h bo ta (tsM 4 ta 3 hh) (up (up (up ro 0 (rr 0)) 1 (rr 1)) 2 (rr 2)) ot Bm bk)) rfl ?_
  refine hC.2 _ 0 [] _ _ _ _ _ (m_det) rfl rfl (Nat.le_of_ble_eq_true rfl) rfl ?_
  refine mNf (lv2 := [(3, .int 16), (2, .int 3), (0, .ref 0), (1, .int 2)]) (st2 := [.long (rr 3), .int 3, .ref 12]) rfl (by rw [hrr 3] <;> rfl) ?_
  refine mB hT 6 rfl ?_
  exact hR _ (by decide) _ _ _ rfl rfl
set_option maxRecDepth 20000 in
theorem m_solve_4_2n {vs : Int32} {wo un h : Int64} {bo : Nat → Int32} {ta tr ro ot : Nat → Int64} {Bm : Nat → Nat → Nat → Int32} {bk : Nat → Nat → Int32} {u : Int64} {hh rr : Nat → Int64} (hs : wo < 0) (hu : u = -wo) (hq : ∀ j : Nat, hh j = (bk 2 j).toInt64) (hrr : ∀ i : Nat, rr i = -(dtM (tsM 4 ta i hh))) : KX3_solve l D ca ad [.ref 0, .int 2] (MW 4 vs wo un h bo ta tr ro ot Bm bk) none (MW 4 vs wo u h bo ta (tsM 4 ta 3 hh) rr ot Bm bk) := by
  refine PX3_solve (Nat.le_of_ble_eq_true rfl) ?_
  intro G hT hC hR
  refine mB hT 6 rfl ?_
  refine mIf (fun hp => absurd hp (fun q => Int64.not_lt.mpr (lc_ge.mp q) hs)) (fun _ => ?_)
  refine mB hT 4 rfl ?_
  refine mNf (lv2 := [(0, .ref 0), (1, .int 2)]) (st2 := [.long u, .ref 0]) rfl (by rw [hu] <;> rfl) ?_
  refine mB hT 37 rfl ?_
  refine mNf (lv2 := [(3, .int 0), (2, .int 0), (0, .ref 0), (1, .int 2)]) (st2 := [.long (hh 0), .int 0, .ref 11]) rfl (by rw [hq 0] <;> rfl) ?_
  refine mB hT 19 rfl ?_
  refine mB hT 1 rfl ?_
  refine mWd (w2 := (MW 4 vs wo u h bo ta (up (up tr 0 (hh 0)) 1 (ta 1)) ro ot Bm bk)) rfl ?_
  refine mB hT 18 rfl ?_
  refine mNf (lv2 := [(3, .int 2), (2, .int 0), (0, .ref 0), (1, .int 2)]) (st2 := [.long (ta 2), .int 2, .ref 11]) rfl rfl ?_
  refine mB hT 19 rfl ?_
  refine mB hT 32 rfl ?_
  refine mNf (lv2 := [(3, .int 4), (2, .int 0), (0, .ref 0), (1, .int 2)]) (st2 := [.long (hh 1), .int 4, .ref 11]) rfl (by rw [hq 1] <;> rfl) ?_
  refine mB hT 1 rfl ?_
  refine mWd (w2 := (MW 4 vs wo u h bo ta (up (up (up (up (up tr 0 (hh 0)) 1 (ta 1)) 2 (ta 2)) 3 (ta 3)) 4 (hh 1)) ro ot Bm bk)) rfl ?_
  refine mB hT 18 rfl ?_
  refine mB hT 19 rfl ?_
  refine mNf (lv2 := [(3, .int 6), (2, .int 0), (0, .ref 0), (1, .int 2)]) (st2 := [.long (ta 6), .int 6, .ref 11]) rfl rfl ?_
  refine mB hT 19 rfl ?_
  refine mB hT 1 rfl ?_
  refine mWd (w2 := (MW 4 vs wo u h bo ta (up (up (up (up (up (up (up (up tr 0 (hh 0)) 1 (ta 1)) 2 (ta 2)) 3 (ta 3)) 4 (hh 1)) 5 (ta 5)) 6 (ta 6)) 7 (ta 7)) ro ot Bm bk)) rfl ?_
  refine mB hT 31 rfl ?_
  refine mNf (lv2 := [(3, .int 8), (2, .int 0), (0, .ref 0), (1, .int 2)]) (st2 := [.long (hh 2), .int 8, .ref 11]) rfl (by rw [hq 2] <;> rfl) ?_
  refine mB hT 19 rfl ?_
  refine mB hT 19 rfl ?_
  refine mNf (lv2 := [(3, .int 10), (2, .int 0), (0, .ref 0), (1, .int 2)]) (st2 := [.long (ta 10), .int 10, .ref 11]) rfl rfl ?_
  refine mB hT 1 rfl ?_
  refine mWd (w2 := (MW 4 vs wo u h bo ta (up (up (up (up (up (up (up (up (up (up (up tr 0 (hh 0)) 1 (ta 1)) 2 (ta 2)) 3 (ta 3)) 4 (hh 1)) 5 (ta 5)) 6 (ta 6)) 7 (ta 7)) 8 (hh 2)) 9 (ta 9)) 10 (ta 10)) ro ot Bm bk)) rfl ?_
  refine mB hT 18 rfl ?_
  refine mB hT 32 rfl ?_
  refine mNf (lv2 := [(3, .int 12), (2, .int 0), (0, .ref 0), (1, .int 2)]) (st2 := [.long (hh 3), .int 12, .ref 11]) rfl (by rw [hq 3] <;> rfl) ?_
  refine mB hT 19 rfl ?_
  refine mB hT 1 rfl ?_
  refine mWd (w2 := (MW 4 vs wo u h bo ta (up (up (up (up (up (up (up (up (up (up (up (up (up (up tr 0 (hh 0)) 1 (ta 1)) 2 (ta 2)) 3 (ta 3)) 4 (hh 1)) 5 (ta 5)) 6 (ta 6)) 7 (ta 7)) 8 (hh 2)) 9 (ta 9)) 10 (ta 10)) 11 (ta 11)) 12 (hh 3)) 13 (ta 13)) ro ot Bm bk)) rfl ?_
  refine mB hT 18 rfl ?_
  refine mNf (lv2 := [(3, .int 14), (2, .int 0), (0, .ref 0), (1, .int 2)]) (st2 := [.long (ta 14), .int 14, .ref 11]) rfl rfl ?_
  refine mB hT 19 rfl ?_
  refine mB hT 14 rfl ?_
  refine mIf (fun hp => absurd hp (fun q => Int64.not_lt.mpr (lc_ge.mp q) hs)) (fun _ => ?_)
  refine mNf (lv2 := [(3, .int 16), (2, .int 0), (0, .ref 0), (1, .int 2)]) (st2 := [.int 0, .ref 12]) rfl rfl ?_
  refine mB hT 1 rfl ?_
  refine mWd (w2 := (MW 4 vs wo u h bo ta (up (up (up (up (up (up (up (up (up (up (up (up (up (up (up (up tr 0 (hh 0)) 1 (ta 1)) 2 (ta 2)) 3 (ta 3)) 4 (hh 1)) 5 (ta 5)) 6 (ta 6)) 7 (ta 7)) 8 (hh 2)) 9 (ta 9)) 10 (ta 10)) 11 (ta 11)) 12 (hh 3)) 13 (ta 13)) 14 (ta 14)) 15 (ta 15)) ro ot Bm bk)) rfl ?_
  refine mWd (w2 := (MW 4 vs wo u h bo ta (tsM 4 ta 0 hh) ro ot Bm bk)) rfl ?_
  refine hC.1 _ 0 [] _ _ _ _ _ (m_det) rfl rfl (Nat.le_of_ble_eq_true rfl) rfl ?_
  refine mB hT 2 rfl ?_
  refine mNf (lv2 := [(3, .int 16), (2, .int 0), (0, .ref 0), (1, .int 2)]) (st2 := [.long (rr 0), .int 0, .ref 12]) rfl (by rw [hrr 0] <;> rfl) ?_
  refine mB hT 24 rfl ?_
  refine mNf (lv2 := [(3, .int 0), (2, .int 1), (0, .ref 0), (1, .int 2)]) (st2 := [.long (ta 0), .int 0, .ref 11]) rfl rfl ?_
  refine mB hT 32 rfl ?_
  refine mNf (lv2 := [(3, .int 1), (2, .int 1), (0, .ref 0), (1, .int 2)]) (st2 := [.long (hh 0), .int 1, .ref 11]) rfl (by rw [hq 0] <;> rfl) ?_
  refine mB hT 1 rfl ?_
  refine mWd (w2 := (MW 4 vs wo u h bo ta (up (up (tsM 4 ta 0 hh) 0 (ta 0)) 1 (hh 0)) (up ro 0 (rr 0)) ot Bm bk)) rfl ?_
  refine mB hT 18 rfl ?_
  refine mB hT 19 rfl ?_
  refine mNf (lv2 := [(3, .int 3), (2, .int 1), (0, .ref 0), (1, .int 2)]) (st2 := [.long (ta 3), .int 3, .ref 11]) rfl rfl ?_
  refine mB hT 19 rfl ?_
  refine mB hT 1 rfl ?_
  refine mWd (w2 := (MW 4 vs wo u h bo ta (up (up (up (up (up (tsM 4 ta 0 hh) 0 (ta 0)) 1 (hh 0)) 2 (ta 2)) 3 (ta 3)) 4 (ta 4)) (up ro 0 (rr 0)) ot Bm bk)) rfl ?_
  refine mB hT 31 rfl ?_
  refine mNf (lv2 := [(3, .int 5), (2, .int 1), (0, .ref 0), (1, .int 2)]) (st2 := [.long (hh 1), .int 5, .ref 11]) rfl (by rw [hq 1] <;> rfl) ?_
  refine mB hT 19 rfl ?_
  refine mB hT 19 rfl ?_
  refine mNf (lv2 := [(3, .int 7), (2, .int 1), (0, .ref 0), (1, .int 2)]) (st2 := [.long (ta 7), .int 7, .ref 11]) rfl rfl ?_
  refine mB hT 1 rfl ?_
  refine mWd (w2 := (MW 4 vs wo u h bo ta (up (up (up (up (up (up (up (up (tsM 4 ta 0 hh) 0 (ta 0)) 1 (hh 0)) 2 (ta 2)) 3 (ta 3)) 4 (ta 4)) 5 (hh 1)) 6 (ta 6)) 7 (ta 7)) (up ro 0 (rr 0)) ot Bm bk)) rfl ?_
  refine mB hT 18 rfl ?_
  refine mB hT 32 rfl ?_
  refine mNf (lv2 := [(3, .int 9), (2, .int 1), (0, .ref 0), (1, .int 2)]) (st2 := [.long (hh 2), .int 9, .ref 11]) rfl (by rw [hq 2] <;> rfl) ?_
  refine mB hT 19 rfl ?_
  refine mB hT 1 rfl ?_
  refine mWd (w2 := (MW 4 vs wo u h bo ta (up (up (up (up (up (up (up (up (up (up (up (tsM 4 ta 0 hh) 0 (ta 0)) 1 (hh 0)) 2 (ta 2)) 3 (ta 3)) 4 (ta 4)) 5 (hh 1)) 6 (ta 6)) 7 (ta 7)) 8 (ta 8)) 9 (hh 2)) 10 (ta 10)) (up ro 0 (rr 0)) ot Bm bk)) rfl ?_
  refine mB hT 18 rfl ?_
  refine mNf (lv2 := [(3, .int 11), (2, .int 1), (0, .ref 0), (1, .int 2)]) (st2 := [.long (ta 11), .int 11, .ref 11]) rfl rfl ?_
  refine mB hT 19 rfl ?_
  refine mB hT 32 rfl ?_
  refine mNf (lv2 := [(3, .int 13), (2, .int 1), (0, .ref 0), (1, .int 2)]) (st2 := [.long (hh 3), .int 13, .ref 11]) rfl (by rw [hq 3] <;> rfl) ?_
  refine mB hT 1 rfl ?_
  refine mWd (w2 := (MW 4 vs wo u h bo ta (up (up (up (up (up (up (up (up (up (up (up (up (up (up (tsM 4 ta 0 hh) 0 (ta 0)) 1 (hh 0)) 2 (ta 2)) 3 (ta 3)) 4 (ta 4)) 5 (hh 1)) 6 (ta 6)) 7 (ta 7)) 8 (ta 8)) 9 (hh 2)) 10 (ta 10)) 11 (ta 11)) 12 (ta 12)) 13 (hh 3)) (up ro 0 (rr 0)) ot Bm bk)) rfl ?_
  refine mB hT 18 rfl ?_
  refine mB hT 19 rfl ?_
  refine mNf (lv2 := [(3, .int 15), (2, .int 1), (0, .ref 0), (1, .int 2)]) (st2 := [.long (ta 15), .int 15, .ref 11]) rfl rfl ?_
  refine mB hT 14 rfl ?_
  refine mIf (fun hp => absurd hp (fun q => Int64.not_lt.mpr (lc_ge.mp q) hs)) (fun _ => ?_)
  refine mB hT 1 rfl ?_
  refine mWd (w2 := (MW 4 vs wo u h bo ta (up (up (up (up (up (up (up (up (up (up (up (up (up (up (up (up (tsM 4 ta 0 hh) 0 (ta 0)) 1 (hh 0)) 2 (ta 2)) 3 (ta 3)) 4 (ta 4)) 5 (hh 1)) 6 (ta 6)) 7 (ta 7)) 8 (ta 8)) 9 (hh 2)) 10 (ta 10)) 11 (ta 11)) 12 (ta 12)) 13 (hh 3)) 14 (ta 14)) 15 (ta 15)) (up ro 0 (rr 0)) ot Bm bk)) rfl ?_
  refine mWd (w2 := (MW 4 vs wo u h bo ta (tsM 4 ta 1 hh) (up ro 0 (rr 0)) ot Bm bk)) rfl ?_
  refine hC.1 _ 0 [] _ _ _ _ _ (m_det) rfl rfl (Nat.le_of_ble_eq_true rfl) rfl ?_
  refine mB hT 2 rfl ?_
  refine mNf (lv2 := [(3, .int 16), (2, .int 1), (0, .ref 0), (1, .int 2)]) (st2 := [.long (rr 1), .int 1, .ref 12]) rfl (by rw [hrr 1] <;> rfl) ?_
  refine mB hT 24 rfl ?_
  refine mNf (lv2 := [(3, .int 0), (2, .int 2), (0, .ref 0), (1, .int 2)]) (st2 := [.long (ta 0), .int 0, .ref 11]) rfl rfl ?_
  refine mB hT 19 rfl ?_
  refine mB hT 1 rfl ?_
  refine mWd (w2 := (MW 4 vs wo u h bo ta (up (up (tsM 4 ta 1 hh) 0 (ta 0)) 1 (ta 1)) (up (up ro 0 (rr 0)) 1 (rr 1)) ot Bm bk)) rfl ?_
  refine mB hT 31 rfl ?_
  refine mNf (lv2 := [(3, .int 2), (2, .int 2), (0, .ref 0), (1, .int 2)]) (st2 := [.long (hh 0), .int 2, .ref 11]) rfl (by rw [hq 0] <;> rfl) ?_
  refine mB hT 19 rfl ?_
  refine mB hT 19 rfl ?_
  refine mNf (lv2 := [(3, .int 4), (2, .int 2), (0, .ref 0), (1, .int 2)]) (st2 := [.long (ta 4), .int 4, .ref 11]) rfl rfl ?_
  refine mB hT 1 rfl ?_
  refine mWd (w2 := (MW 4 vs wo u h bo ta (up (up (up (up (up (tsM 4 ta 1 hh) 0 (ta 0)) 1 (ta 1)) 2 (hh 0)) 3 (ta 3)) 4 (ta 4)) (up (up ro 0 (rr 0)) 1 (rr 1)) ot Bm bk)) rfl ?_
  refine mB hT 18 rfl ?_
  refine mB hT 32 rfl ?_
  refine mNf (lv2 := [(3, .int 6), (2, .int 2), (0, .ref 0), (1, .int 2)]) (st2 := [.long (hh 1), .int 6, .ref 11]) rfl (by rw [hq 1] <;> rfl) ?_
  refine mB hT 19 rfl ?_
  refine mB hT 1 rfl ?_
  refine mWd (w2 := (MW 4 vs wo u h bo ta (up (up (up (up (up (up (up (up (tsM 4 ta 1 hh) 0 (ta 0)) 1 (ta 1)) 2 (hh 0)) 3 (ta 3)) 4 (ta 4)) 5 (ta 5)) 6 (hh 1)) 7 (ta 7)) (up (up ro 0 (rr 0)) 1 (rr 1)) ot Bm bk)) rfl ?_
  refine mB hT 18 rfl ?_
  refine mNf (lv2 := [(3, .int 8), (2, .int 2), (0, .ref 0), (1, .int 2)]) (st2 := [.long (ta 8), .int 8, .ref 11]) rfl rfl ?_
  refine mB hT 19 rfl ?_
  refine mB hT 32 rfl ?_
  refine mNf (lv2 := [(3, .int 10), (2, .int 2), (0, .ref 0), (1, .int 2)]) (st2 := [.long (hh 2), .int 10, .ref 11]) rfl (by rw [hq 2] <;> rfl) ?_
  refine mB hT 1 rfl ?_
  refine mWd (w2 := (MW 4 vs wo u h bo ta (up (up (up (up (up (up (up (up (up (up (up (tsM 4 ta 1 hh) 0 (ta 0)) 1 (ta 1)) 2 (hh 0)) 3 (ta 3)) 4 (ta 4)) 5 (ta 5)) 6 (hh 1)) 7 (ta 7)) 8 (ta 8)) 9 (ta 9)) 10 (hh 2)) (up (up ro 0 (rr 0)) 1 (rr 1)) ot Bm bk)) rfl ?_
  refine mB hT 18 rfl ?_
  refine mB hT 19 rfl ?_
  refine mNf (lv2 := [(3, .int 12), (2, .int 2), (0, .ref 0), (1, .int 2)]) (st2 := [.long (ta 12), .int 12, .ref 11]) rfl rfl ?_
  refine mB hT 19 rfl ?_
  refine mB hT 1 rfl ?_
  refine mWd (w2 := (MW 4 vs wo u h bo ta (up (up (up (up (up (up (up (up (up (up (up (up (up (up (tsM 4 ta 1 hh) 0 (ta 0)) 1 (ta 1)) 2 (hh 0)) 3 (ta 3)) 4 (ta 4)) 5 (ta 5)) 6 (hh 1)) 7 (ta 7)) 8 (ta 8)) 9 (ta 9)) 10 (hh 2)) 11 (ta 11)) 12 (ta 12)) 13 (ta 13)) (up (up ro 0 (rr 0)) 1 (rr 1)) ot Bm bk)) rfl ?_
  refine mB hT 31 rfl ?_
  refine mNf (lv2 := [(3, .int 14), (2, .int 2), (0, .ref 0), (1, .int 2)]) (st2 := [.long (hh 3), .int 14, .ref 11]) rfl (by rw [hq 3] <;> rfl) ?_
  refine mB hT 19 rfl ?_
  refine mB hT 14 rfl ?_
  refine mIf (fun hp => absurd hp (fun q => Int64.not_lt.mpr (lc_ge.mp q) hs)) (fun _ => ?_)
  refine mNf (lv2 := [(3, .int 16), (2, .int 2), (0, .ref 0), (1, .int 2)]) (st2 := [.int 2, .ref 12]) rfl rfl ?_
  refine mB hT 1 rfl ?_
  refine mWd (w2 := (MW 4 vs wo u h bo ta (up (up (up (up (up (up (up (up (up (up (up (up (up (up (up (up (tsM 4 ta 1 hh) 0 (ta 0)) 1 (ta 1)) 2 (hh 0)) 3 (ta 3)) 4 (ta 4)) 5 (ta 5)) 6 (hh 1)) 7 (ta 7)) 8 (ta 8)) 9 (ta 9)) 10 (hh 2)) 11 (ta 11)) 12 (ta 12)) 13 (ta 13)) 14 (hh 3)) 15 (ta 15)) (up (up ro 0 (rr 0)) 1 (rr 1)) ot Bm bk)) rfl ?_
  refine mWd (w2 := (MW 4 vs wo u h bo ta (tsM 4 ta 2 hh) (up (up ro 0 (rr 0)) 1 (rr 1)) ot Bm bk)) rfl ?_
  refine hC.1 _ 0 [] _ _ _ _ _ (m_det) rfl rfl (Nat.le_of_ble_eq_true rfl) rfl ?_
  refine mB hT 2 rfl ?_
  refine mNf (lv2 := [(3, .int 16), (2, .int 2), (0, .ref 0), (1, .int 2)]) (st2 := [.long (rr 2), .int 2, .ref 12]) rfl (by rw [hrr 2] <;> rfl) ?_
  refine mB hT 24 rfl ?_
  refine mNf (lv2 := [(3, .int 0), (2, .int 3), (0, .ref 0), (1, .int 2)]) (st2 := [.long (ta 0), .int 0, .ref 11]) rfl rfl ?_
  refine mB hT 19 rfl ?_
  refine mB hT 1 rfl ?_
  refine mWd (w2 := (MW 4 vs wo u h bo ta (up (up (tsM 4 ta 2 hh) 0 (ta 0)) 1 (ta 1)) (up (up (up ro 0 (rr 0)) 1 (rr 1)) 2 (rr 2)) ot Bm bk)) rfl ?_
  refine mB hT 18 rfl ?_
  refine mNf (lv2 := [(3, .int 2), (2, .int 3), (0, .ref 0), (1, .int 2)]) (st2 := [.long (ta 2), .int 2, .ref 11]) rfl rfl ?_
  refine mB hT 32 rfl ?_
  refine mNf (lv2 := [(3, .int 3), (2, .int 3), (0, .ref 0), (1, .int 2)]) (st2 := [.long (hh 0), .int 3, .ref 11]) rfl (by rw [hq 0] <;> rfl) ?_
  refine mB hT 19 rfl ?_
  refine mB hT 1 rfl ?_
  refine mWd (w2 := (MW 4 vs wo u h bo ta (up (up (up (up (up (tsM 4 ta 2 hh) 0 (ta 0)) 1 (ta 1)) 2 (ta 2)) 3 (hh 0)) 4 (ta 4)) (up (up (up ro 0 (rr 0)) 1 (rr 1)) 2 (rr 2)) ot Bm bk)) rfl ?_
  refine mB hT 18 rfl ?_
  refine mNf (lv2 := [(3, .int 5), (2, .int 3), (0, .ref 0), (1, .int 2)]) (st2 := [.long (ta 5), .int 5, .ref 11]) rfl rfl ?_
  refine mB hT 19 rfl ?_
  refine mB hT 32 rfl ?_
  refine mNf (lv2 := [(3, .int 7), (2, .int 3), (0, .ref 0), (1, .int 2)]) (st2 := [.long (hh 1), .int 7, .ref 11]) rfl (by rw [hq 1] <;> rfl) ?_
  refine mB hT 1 rfl ?_
  refine mWd (w2 := (MW 4 vs wo u h bo ta (up (up (up (up (up (up (up (up (tsM 4 ta 2 hh) 0 (ta 0)) 1 (ta 1)) 2 (ta 2)) 3 (hh 0)) 4 (ta 4)) 5 (ta 5)) 6 (ta 6)) 7 (hh 1)) (up (up (up ro 0 (rr 0)) 1 (rr 1)) 2 (rr 2)) ot Bm bk)) rfl ?_
  refine mB hT 18 rfl ?_
  refine mB hT 19 rfl ?_
  refine mNf (lv2 := [(3, .int 9), (2, .int 3), (0, .ref 0), (1, .int 2)]) (st2 := [.long (ta 9), .int 9, .ref 11]) rfl rfl ?_
  refine mB hT 19 rfl ?_
  refine mB hT 1 rfl ?_
  refine mWd (w2 := (MW 4 vs wo u h bo ta (up (up (up (up (up (up (up (up (up (up (up (tsM 4 ta 2 hh) 0 (ta 0)) 1 (ta 1)) 2 (ta 2)) 3 (hh 0)) 4 (ta 4)) 5 (ta 5)) 6 (ta 6)) 7 (hh 1)) 8 (ta 8)) 9 (ta 9)) 10 (ta 10)) (up (up (up ro 0 (rr 0)) 1 (rr 1)) 2 (rr 2)) ot Bm bk)) rfl ?_
  refine mB hT 31 rfl ?_
  refine mNf (lv2 := [(3, .int 11), (2, .int 3), (0, .ref 0), (1, .int 2)]) (st2 := [.long (hh 2), .int 11, .ref 11]) rfl (by rw [hq 2] <;> rfl) ?_
  refine mB hT 19 rfl ?_
  refine mB hT 19 rfl ?_
  refine mNf (lv2 := [(3, .int 13), (2, .int 3), (0, .ref 0), (1, .int 2)]) (st2 := [.long (ta 13), .int 13, .ref 11]) rfl rfl ?_
  refine mB hT 1 rfl ?_
  refine mWd (w2 := (MW 4 vs wo u h bo ta (up (up (up (up (up (up (up (up (up (up (up (up (up (up (tsM 4 ta 2 hh) 0 (ta 0)) 1 (ta 1)) 2 (ta 2)) 3 (hh 0)) 4 (ta 4)) 5 (ta 5)) 6 (ta 6)) 7 (hh 1)) 8 (ta 8)) 9 (ta 9)) 10 (ta 10)) 11 (hh 2)) 12 (ta 12)) 13 (ta 13)) (up (up (up ro 0 (rr 0)) 1 (rr 1)) 2 (rr 2)) ot Bm bk)) rfl ?_
  refine mB hT 18 rfl ?_
  refine mB hT 32 rfl ?_
  refine mNf (lv2 := [(3, .int 15), (2, .int 3), (0, .ref 0), (1, .int 2)]) (st2 := [.long (hh 3), .int 15, .ref 11]) rfl (by rw [hq 3] <;> rfl) ?_
  refine mB hT 14 rfl ?_
  refine mIf (fun hp => absurd hp (fun q => Int64.not_lt.mpr (lc_ge.mp q) hs)) (fun _ => ?_)
  refine mB hT 1 rfl ?_
  refine mWd (w2 := (MW 4 vs wo u h bo ta (up (up (up (up (up (up (up (up (up (up (up (up (up (up (up (up (tsM 4 ta 2 hh) 0 (ta 0)) 1 (ta 1)) 2 (ta 2)) 3 (hh 0)) 4 (ta 4)) 5 (ta 5)) 6 (ta 6)) 7 (hh 1)) 8 (ta 8)) 9 (ta 9)) 10 (ta 10)) 11 (hh 2)) 12 (ta 12)) 13 (ta 13)) 14 (ta 14)) 15 (hh 3)) (up (up (up ro 0 (rr 0)) 1 (rr 1)) 2 (rr 2)) ot Bm bk)) rfl ?_
  refine mWd (w2 := (MW 4 vs wo u h bo ta (tsM 4 ta 3 hh) (up (up (up ro 0 (rr 0)) 1 (rr 1)) 2 (rr 2)) ot Bm bk)) rfl ?_
  refine hC.1 _ 0 [] _ _ _ _ _ (m_det) rfl rfl (Nat.le_of_ble_eq_true rfl) rfl ?_
  refine mB hT 2 rfl ?_
  refine mNf (lv2 := [(3, .int 16), (2, .int 3), (0, .ref 0), (1, .int 2)]) (st2 := [.long (rr 3), .int 3, .ref 12]) rfl (by rw [hrr 3] <;> rfl) ?_
  refine mB hT 6 rfl ?_
  exact hR _ (by decide) _ _ _ rfl rfl
set_option maxRecDepth 20000 in
theorem m_solve_4_3p {vs : Int32} {wo un h : Int64} {bo : Nat → Int32} {ta tr ro ot : Nat → Int64} {Bm : Nat → Nat → Nat → Int32} {bk : Nat → Nat → Int32} {u : Int64} {hh rr : Nat → Int64} (hs : ¬ wo < 0) (hu : u = wo) (hq : ∀ j : Nat, hh j = (bk 3 j).toInt64) (hrr : ∀ i : Nat, rr i = dtM (tsM 4 ta i hh)) : KX3_solve l D ca ad [.ref 0, .int 3] (MW 4 vs wo un h bo ta tr ro ot Bm bk) none (MW 4 vs wo u h bo ta (tsM 4 ta 3 hh) rr ot Bm bk) := by
  refine PX3_solve (Nat.le_of_ble_eq_true rfl) ?_
  intro G hT hC hR
  refine mB hT 6 rfl ?_
  refine mIf (fun _ => ?_) (fun hn => absurd (lc_ge.mpr (Int64.not_lt.mp hs)) hn)
  refine mB hT 2 rfl ?_
  refine mNf (lv2 := [(0, .ref 0), (1, .int 3)]) (st2 := [.long u, .ref 0]) rfl (by rw [hu] <;> rfl) ?_
  refine mB hT 37 rfl ?_
  refine mNf (lv2 := [(3, .int 0), (2, .int 0), (0, .ref 0), (1, .int 3)]) (st2 := [.long (hh 0), .int 0, .ref 11]) rfl (by rw [hq 0] <;> rfl) ?_
  refine mB hT 19 rfl ?_
  refine mB hT 1 rfl ?_
  refine mWd (w2 := (MW 4 vs wo u h bo ta (up (up tr 0 (hh 0)) 1 (ta 1)) ro ot Bm bk)) rfl ?_
  refine mB hT 18 rfl ?_
  refine mNf (lv2 := [(3, .int 2), (2, .int 0), (0, .ref 0), (1, .int 3)]) (st2 := [.long (ta 2), .int 2, .ref 11]) rfl rfl ?_
  refine mB hT 19 rfl ?_
  refine mB hT 32 rfl ?_
  refine mNf (lv2 := [(3, .int 4), (2, .int 0), (0, .ref 0), (1, .int 3)]) (st2 := [.long (hh 1), .int 4, .ref 11]) rfl (by rw [hq 1] <;> rfl) ?_
  refine mB hT 1 rfl ?_
  refine mWd (w2 := (MW 4 vs wo u h bo ta (up (up (up (up (up tr 0 (hh 0)) 1 (ta 1)) 2 (ta 2)) 3 (ta 3)) 4 (hh 1)) ro ot Bm bk)) rfl ?_
  refine mB hT 18 rfl ?_
  refine mB hT 19 rfl ?_
  refine mNf (lv2 := [(3, .int 6), (2, .int 0), (0, .ref 0), (1, .int 3)]) (st2 := [.long (ta 6), .int 6, .ref 11]) rfl rfl ?_
  refine mB hT 19 rfl ?_
  refine mB hT 1 rfl ?_
  refine mWd (w2 := (MW 4 vs wo u h bo ta (up (up (up (up (up (up (up (up tr 0 (hh 0)) 1 (ta 1)) 2 (ta 2)) 3 (ta 3)) 4 (hh 1)) 5 (ta 5)) 6 (ta 6)) 7 (ta 7)) ro ot Bm bk)) rfl ?_
  refine mB hT 31 rfl ?_
  refine mNf (lv2 := [(3, .int 8), (2, .int 0), (0, .ref 0), (1, .int 3)]) (st2 := [.long (hh 2), .int 8, .ref 11]) rfl (by rw [hq 2] <;> rfl) ?_
  refine mB hT 19 rfl ?_
  refine mB hT 19 rfl ?_
  refine mNf (lv2 := [(3, .int 10), (2, .int 0), (0, .ref 0), (1, .int 3)]) (st2 := [.long (ta 10), .int 10, .ref 11]) rfl rfl ?_
  refine mB hT 1 rfl ?_
  refine mWd (w2 := (MW 4 vs wo u h bo ta (up (up (up (up (up (up (up (up (up (up (up tr 0 (hh 0)) 1 (ta 1)) 2 (ta 2)) 3 (ta 3)) 4 (hh 1)) 5 (ta 5)) 6 (ta 6)) 7 (ta 7)) 8 (hh 2)) 9 (ta 9)) 10 (ta 10)) ro ot Bm bk)) rfl ?_
  refine mB hT 18 rfl ?_
  refine mB hT 32 rfl ?_
  refine mNf (lv2 := [(3, .int 12), (2, .int 0), (0, .ref 0), (1, .int 3)]) (st2 := [.long (hh 3), .int 12, .ref 11]) rfl (by rw [hq 3] <;> rfl) ?_
  refine mB hT 19 rfl ?_
  refine mB hT 1 rfl ?_
  refine mWd (w2 := (MW 4 vs wo u h bo ta (up (up (up (up (up (up (up (up (up (up (up (up (up (up tr 0 (hh 0)) 1 (ta 1)) 2 (ta 2)) 3 (ta 3)) 4 (hh 1)) 5 (ta 5)) 6 (ta 6)) 7 (ta 7)) 8 (hh 2)) 9 (ta 9)) 10 (ta 10)) 11 (ta 11)) 12 (hh 3)) 13 (ta 13)) ro ot Bm bk)) rfl ?_
  refine mB hT 18 rfl ?_
  refine mNf (lv2 := [(3, .int 14), (2, .int 0), (0, .ref 0), (1, .int 3)]) (st2 := [.long (ta 14), .int 14, .ref 11]) rfl rfl ?_
  refine mB hT 19 rfl ?_
  refine mB hT 14 rfl ?_
  refine mIf (fun _ => ?_) (fun hn => absurd (lc_ge.mpr (Int64.not_lt.mp hs)) hn)
  refine mNf (lv2 := [(3, .int 16), (2, .int 0), (0, .ref 0), (1, .int 3)]) (st2 := [.int 0, .ref 12]) rfl rfl ?_
  refine mB hT 1 rfl ?_
  refine mWd (w2 := (MW 4 vs wo u h bo ta (up (up (up (up (up (up (up (up (up (up (up (up (up (up (up (up tr 0 (hh 0)) 1 (ta 1)) 2 (ta 2)) 3 (ta 3)) 4 (hh 1)) 5 (ta 5)) 6 (ta 6)) 7 (ta 7)) 8 (hh 2)) 9 (ta 9)) 10 (ta 10)) 11 (ta 11)) 12 (hh 3)) 13 (ta 13)) 14 (ta 14)) 15 (ta 15)) ro ot Bm bk)) rfl ?_
  refine mWd (w2 := (MW 4 vs wo u h bo ta (tsM 4 ta 0 hh) ro ot Bm bk)) rfl ?_
  refine hC.2 _ 0 [] _ _ _ _ _ (m_det) rfl rfl (Nat.le_of_ble_eq_true rfl) rfl ?_
  refine mNf (lv2 := [(3, .int 16), (2, .int 0), (0, .ref 0), (1, .int 3)]) (st2 := [.long (rr 0), .int 0, .ref 12]) rfl (by rw [hrr 0] <;> rfl) ?_
  refine mB hT 24 rfl ?_
  refine mNf (lv2 := [(3, .int 0), (2, .int 1), (0, .ref 0), (1, .int 3)]) (st2 := [.long (ta 0), .int 0, .ref 11]) rfl rfl ?_
  refine mB hT 32 rfl ?_
  refine mNf (lv2 := [(3, .int 1), (2, .int 1), (0, .ref 0), (1, .int 3)]) (st2 := [.long (hh 0), .int 1, .ref 11]) rfl (by rw [hq 0] <;> rfl) ?_
  refine mB hT 1 rfl ?_
  refine mWd (w2 := (MW 4 vs wo u h bo ta (up (up (tsM 4 ta 0 hh) 0 (ta 0)) 1 (hh 0)) (up ro 0 (rr 0)) ot Bm bk)) rfl ?_
  refine mB hT 18 rfl ?_
  refine mB hT 19 rfl ?_
  refine mNf (lv2 := [(3, .int 3), (2, .int 1), (0, .ref 0), (1, .int 3)]) (st2 := [.long (ta 3), .int 3, .ref 11]) rfl rfl ?_
  refine mB hT 19 rfl ?_
  refine mB hT 1 rfl ?_
  refine mWd (w2 := (MW 4 vs wo u h bo ta (up (up (up (up (up (tsM 4 ta 0 hh) 0 (ta 0)) 1 (hh 0)) 2 (ta 2)) 3 (ta 3)) 4 (ta 4)) (up ro 0 (rr 0)) ot Bm bk)) rfl ?_
  refine mB hT 31 rfl ?_
  refine mNf (lv2 := [(3, .int 5), (2, .int 1), (0, .ref 0), (1, .int 3)]) (st2 := [.long (hh 1), .int 5, .ref 11]) rfl (by rw [hq 1] <;> rfl) ?_
  refine mB hT 19 rfl ?_
  refine mB hT 19 rfl ?_
  refine mNf (lv2 := [(3, .int 7), (2, .int 1), (0, .ref 0), (1, .int 3)]) (st2 := [.long (ta 7), .int 7, .ref 11]) rfl rfl ?_
  refine mB hT 1 rfl ?_
  refine mWd (w2 := (MW 4 vs wo u h bo ta (up (up (up (up (up (up (up (up (tsM 4 ta 0 hh) 0 (ta 0)) 1 (hh 0)) 2 (ta 2)) 3 (ta 3)) 4 (ta 4)) 5 (hh 1)) 6 (ta 6)) 7 (ta 7)) (up ro 0 (rr 0)) ot Bm bk)) rfl ?_
  refine mB hT 18 rfl ?_
  refine mB hT 32 rfl ?_
  refine mNf (lv2 := [(3, .int 9), (2, .int 1), (0, .ref 0), (1, .int 3)]) (st2 := [.long (hh 2), .int 9, .ref 11]) rfl (by rw [hq 2] <;> rfl) ?_
  refine mB hT 19 rfl ?_
  refine mB hT 1 rfl ?_
  refine mWd (w2 := (MW 4 vs wo u h bo ta (up (up (up (up (up (up (up (up (up (up (up (tsM 4 ta 0 hh) 0 (ta 0)) 1 (hh 0)) 2 (ta 2)) 3 (ta 3)) 4 (ta 4)) 5 (hh 1)) 6 (ta 6)) 7 (ta 7)) 8 (ta 8)) 9 (hh 2)) 10 (ta 10)) (up ro 0 (rr 0)) ot Bm bk)) rfl ?_
  refine mB hT 18 rfl ?_
  refine mNf (lv2 := [(3, .int 11), (2, .int 1), (0, .ref 0), (1, .int 3)]) (st2 := [.long (ta 11), .int 11, .ref 11]) rfl rfl ?_
  refine mB hT 19 rfl ?_
  refine mB hT 32 rfl ?_
  refine mNf (lv2 := [(3, .int 13), (2, .int 1), (0, .ref 0), (1, .int 3)]) (st2 := [.long (hh 3), .int 13, .ref 11]) rfl (by rw [hq 3] <;> rfl) ?_
  refine mB hT 1 rfl ?_
  refine mWd (w2 := (MW 4 vs wo u h bo ta (up (up (up (up (up (up (up (up (up (up (up (up (up (up (tsM 4 ta 0 hh) 0 (ta 0)) 1 (hh 0)) 2 (ta 2)) 3 (ta 3)) 4 (ta 4)) 5 (hh 1)) 6 (ta 6)) 7 (ta 7)) 8 (ta 8)) 9 (hh 2)) 10 (ta 10)) 11 (ta 11)) 12 (ta 12)) 13 (hh 3)) (up ro 0 (rr 0)) ot Bm bk)) rfl ?_
  refine mB hT 18 rfl ?_
  refine mB hT 19 rfl ?_
  refine mNf (lv2 := [(3, .int 15), (2, .int 1), (0, .ref 0), (1, .int 3)]) (st2 := [.long (ta 15), .int 15, .ref 11]) rfl rfl ?_
  refine mB hT 14 rfl ?_
  refine mIf (fun _ => ?_) (fun hn => absurd (lc_ge.mpr (Int64.not_lt.mp hs)) hn)
  refine mB hT 1 rfl ?_
  refine mWd (w2 := (MW 4 vs wo u h bo ta (up (up (up (up (up (up (up (up (up (up (up (up (up (up (up (up (tsM 4 ta 0 hh) 0 (ta 0)) 1 (hh 0)) 2 (ta 2)) 3 (ta 3)) 4 (ta 4)) 5 (hh 1)) 6 (ta 6)) 7 (ta 7)) 8 (ta 8)) 9 (hh 2)) 10 (ta 10)) 11 (ta 11)) 12 (ta 12)) 13 (hh 3)) 14 (ta 14)) 15 (ta 15)) (up ro 0 (rr 0)) ot Bm bk)) rfl ?_
  refine mWd (w2 := (MW 4 vs wo u h bo ta (tsM 4 ta 1 hh) (up ro 0 (rr 0)) ot Bm bk)) rfl ?_
  refine hC.2 _ 0 [] _ _ _ _ _ (m_det) rfl rfl (Nat.le_of_ble_eq_true rfl) rfl ?_
  refine mNf (lv2 := [(3, .int 16), (2, .int 1), (0, .ref 0), (1, .int 3)]) (st2 := [.long (rr 1), .int 1, .ref 12]) rfl (by rw [hrr 1] <;> rfl) ?_
  refine mB hT 24 rfl ?_
  refine mNf (lv2 := [(3, .int 0), (2, .int 2), (0, .ref 0), (1, .int 3)]) (st2 := [.long (ta 0), .int 0, .ref 11]) rfl rfl ?_
  refine mB hT 19 rfl ?_
  refine mB hT 1 rfl ?_
  refine mWd (w2 := (MW 4 vs wo u h bo ta (up (up (tsM 4 ta 1 hh) 0 (ta 0)) 1 (ta 1)) (up (up ro 0 (rr 0)) 1 (rr 1)) ot Bm bk)) rfl ?_
  refine mB hT 31 rfl ?_
  refine mNf (lv2 := [(3, .int 2), (2, .int 2), (0, .ref 0), (1, .int 3)]) (st2 := [.long (hh 0), .int 2, .ref 11]) rfl (by rw [hq 0] <;> rfl) ?_
  refine mB hT 19 rfl ?_
  refine mB hT 19 rfl ?_
  refine mNf (lv2 := [(3, .int 4), (2, .int 2), (0, .ref 0), (1, .int 3)]) (st2 := [.long (ta 4), .int 4, .ref 11]) rfl rfl ?_
  refine mB hT 1 rfl ?_
  refine mWd (w2 := (MW 4 vs wo u h bo ta (up (up (up (up (up (tsM 4 ta 1 hh) 0 (ta 0)) 1 (ta 1)) 2 (hh 0)) 3 (ta 3)) 4 (ta 4)) (up (up ro 0 (rr 0)) 1 (rr 1)) ot Bm bk)) rfl ?_
  refine mB hT 18 rfl ?_
  refine mB hT 32 rfl ?_
  refine mNf (lv2 := [(3, .int 6), (2, .int 2), (0, .ref 0), (1, .int 3)]) (st2 := [.long (hh 1), .int 6, .ref 11]) rfl (by rw [hq 1] <;> rfl) ?_
  refine mB hT 19 rfl ?_
  refine mB hT 1 rfl ?_
  refine mWd (w2 := (MW 4 vs wo u h bo ta (up (up (up (up (up (up (up (up (tsM 4 ta 1 hh) 0 (ta 0)) 1 (ta 1)) 2 (hh 0)) 3 (ta 3)) 4 (ta 4)) 5 (ta 5)) 6 (hh 1)) 7 (ta 7)) (up (up ro 0 (rr 0)) 1 (rr 1)) ot Bm bk)) rfl ?_
  refine mB hT 18 rfl ?_
  refine mNf (lv2 := [(3, .int 8), (2, .int 2), (0, .ref 0), (1, .int 3)]) (st2 := [.long (ta 8), .int 8, .ref 11]) rfl rfl ?_
  refine mB hT 19 rfl ?_
  refine mB hT 32 rfl ?_
  refine mNf (lv2 := [(3, .int 10), (2, .int 2), (0, .ref 0), (1, .int 3)]) (st2 := [.long (hh 2), .int 10, .ref 11]) rfl (by rw [hq 2] <;> rfl) ?_
  refine mB hT 1 rfl ?_
  refine mWd (w2 := (MW 4 vs wo u h bo ta (up (up (up (up (up (up (up (up (up (up (up (tsM 4 ta 1 hh) 0 (ta 0)) 1 (ta 1)) 2 (hh 0)) 3 (ta 3)) 4 (ta 4)) 5 (ta 5)) 6 (hh 1)) 7 (ta 7)) 8 (ta 8)) 9 (ta 9)) 10 (hh 2)) (up (up ro 0 (rr 0)) 1 (rr 1)) ot Bm bk)) rfl ?_
  refine mB hT 18 rfl ?_
  refine mB hT 19 rfl ?_
  refine mNf (lv2 := [(3, .int 12), (2, .int 2), (0, .ref 0), (1, .int 3)]) (st2 := [.long (ta 12), .int 12, .ref 11]) rfl rfl ?_
  refine mB hT 19 rfl ?_
  refine mB hT 1 rfl ?_
  refine mWd (w2 := (MW 4 vs wo u h bo ta (up (up (up (up (up (up (up (up (up (up (up (up (up (up (tsM 4 ta 1 hh) 0 (ta 0)) 1 (ta 1)) 2 (hh 0)) 3 (ta 3)) 4 (ta 4)) 5 (ta 5)) 6 (hh 1)) 7 (ta 7)) 8 (ta 8)) 9 (ta 9)) 10 (hh 2)) 11 (ta 11)) 12 (ta 12)) 13 (ta 13)) (up (up ro 0 (rr 0)) 1 (rr 1)) ot Bm bk)) rfl ?_
  refine mB hT 31 rfl ?_
  refine mNf (lv2 := [(3, .int 14), (2, .int 2), (0, .ref 0), (1, .int 3)]) (st2 := [.long (hh 3), .int 14, .ref 11]) rfl (by rw [hq 3] <;> rfl) ?_
  refine mB hT 19 rfl ?_
  refine mB hT 14 rfl ?_
  refine mIf (fun _ => ?_) (fun hn => absurd (lc_ge.mpr (Int64.not_lt.mp hs)) hn)
  refine mNf (lv2 := [(3, .int 16), (2, .int 2), (0, .ref 0), (1, .int 3)]) (st2 := [.int 2, .ref 12]) rfl rfl ?_
  refine mB hT 1 rfl ?_
  refine mWd (w2 := (MW 4 vs wo u h bo ta (up (up (up (up (up (up (up (up (up (up (up (up (up (up (up (up (tsM 4 ta 1 hh) 0 (ta 0)) 1 (ta 1)) 2 (hh 0)) 3 (ta 3)) 4 (ta 4)) 5 (ta 5)) 6 (hh 1)) 7 (ta 7)) 8 (ta 8)) 9 (ta 9)) 10 (hh 2)) 11 (ta 11)) 12 (ta 12)) 13 (ta 13)) 14 (hh 3)) 15 (ta 15)) (up (up ro 0 (rr 0)) 1 (rr 1)) ot Bm bk)) rfl ?_
  refine mWd (w2 := (MW 4 vs wo u h bo ta (tsM 4 ta 2 hh) (up (up ro 0 (rr 0)) 1 (rr 1)) ot Bm bk)) rfl ?_
  refine hC.2 _ 0 [] _ _ _ _ _ (m_det) rfl rfl (Nat.le_of_ble_eq_true rfl) rfl ?_
  refine mNf (lv2 := [(3, .int 16), (2, .int 2), (0, .ref 0), (1, .int 3)]) (st2 := [.long (rr 2), .int 2, .ref 12]) rfl (by rw [hrr 2] <;> rfl) ?_
  refine mB hT 24 rfl ?_
  refine mNf (lv2 := [(3, .int 0), (2, .int 3), (0, .ref 0), (1, .int 3)]) (st2 := [.long (ta 0), .int 0, .ref 11]) rfl rfl ?_
  refine mB hT 19 rfl ?_
  refine mB hT 1 rfl ?_
  refine mWd (w2 := (MW 4 vs wo u h bo ta (up (up (tsM 4 ta 2 hh) 0 (ta 0)) 1 (ta 1)) (up (up (up ro 0 (rr 0)) 1 (rr 1)) 2 (rr 2)) ot Bm bk)) rfl ?_
  refine mB hT 18 rfl ?_
  refine mNf (lv2 := [(3, .int 2), (2, .int 3), (0, .ref 0), (1, .int 3)]) (st2 := [.long (ta 2), .int 2, .ref 11]) rfl rfl ?_
  refine mB hT 32 rfl ?_
  refine mNf (lv2 := [(3, .int 3), (2, .int 3), (0, .ref 0), (1, .int 3)]) (st2 := [.long (hh 0), .int 3, .ref 11]) rfl (by rw [hq 0] <;> rfl) ?_
  refine mB hT 19 rfl ?_
  refine mB hT 1 rfl ?_
  refine mWd (w2 := (MW 4 vs wo u h bo ta (up (up (up (up (up (tsM 4 ta 2 hh) 0 (ta 0)) 1 (ta 1)) 2 (ta 2)) 3 (hh 0)) 4 (ta 4)) (up (up (up ro 0 (rr 0)) 1 (rr 1)) 2 (rr 2)) ot Bm bk)) rfl ?_
  refine mB hT 18 rfl ?_
  refine mNf (lv2 := [(3, .int 5), (2, .int 3), (0, .ref 0), (1, .int 3)]) (st2 := [.long (ta 5), .int 5, .ref 11]) rfl rfl ?_
  refine mB hT 19 rfl ?_
  refine mB hT 32 rfl ?_
  refine mNf (lv2 := [(3, .int 7), (2, .int 3), (0, .ref 0), (1, .int 3)]) (st2 := [.long (hh 1), .int 7, .ref 11]) rfl (by rw [hq 1] <;> rfl) ?_
  refine mB hT 1 rfl ?_
  refine mWd (w2 := (MW 4 vs wo u h bo ta (up (up (up (up (up (up (up (up (tsM 4 ta 2 hh) 0 (ta 0)) 1 (ta 1)) 2 (ta 2)) 3 (hh 0)) 4 (ta 4)) 5 (ta 5)) 6 (ta 6)) 7 (hh 1)) (up (up (up ro 0 (rr 0)) 1 (rr 1)) 2 (rr 2)) ot Bm bk)) rfl ?_
  refine mB hT 18 rfl ?_
  refine mB hT 19 rfl ?_
  refine mNf (lv2 := [(3, .int 9), (2, .int 3), (0, .ref 0), (1, .int 3)]) (st2 := [.long (ta 9), .int 9, .ref 11]) rfl rfl ?_
  refine mB hT 19 rfl ?_
  refine mB hT 1 rfl ?_
  refine mWd (w2 := (MW 4 vs wo u h bo ta (up (up (up (up (up (up (up (up (up (up (up (tsM 4 ta 2 hh) 0 (ta 0)) 1 (ta 1)) 2 (ta 2)) 3 (hh 0)) 4 (ta 4)) 5 (ta 5)) 6 (ta 6)) 7 (hh 1)) 8 (ta 8)) 9 (ta 9)) 10 (ta 10)) (up (up (up ro 0 (rr 0)) 1 (rr 1)) 2 (rr 2)) ot Bm bk)) rfl ?_
  refine mB hT 31 rfl ?_
  refine mNf (lv2 := [(3, .int 11), (2, .int 3), (0, .ref 0), (1, .int 3)]) (st2 := [.long (hh 2), .int 11, .ref 11]) rfl (by rw [hq 2] <;> rfl) ?_
  refine mB hT 19 rfl ?_
  refine mB hT 19 rfl ?_
  refine mNf (lv2 := [(3, .int 13), (2, .int 3), (0, .ref 0), (1, .int 3)]) (st2 := [.long (ta 13), .int 13, .ref 11]) rfl rfl ?_
  refine mB hT 1 rfl ?_
  refine mWd (w2 := (MW 4 vs wo u h bo ta (up (up (up (up (up (up (up (up (up (up (up (up (up (up (tsM 4 ta 2 hh) 0 (ta 0)) 1 (ta 1)) 2 (ta 2)) 3 (hh 0)) 4 (ta 4)) 5 (ta 5)) 6 (ta 6)) 7 (hh 1)) 8 (ta 8)) 9 (ta 9)) 10 (ta 10)) 11 (hh 2)) 12 (ta 12)) 13 (ta 13)) (up (up (up ro 0 (rr 0)) 1 (rr 1)) 2 (rr 2)) ot Bm bk)) rfl ?_
  refine mB hT 18 rfl ?_
  refine mB hT 32 rfl ?_
  refine mNf (lv2 := [(3, .int 15), (2, .int 3), (0, .ref 0), (1, .int 3)]) (st2 := [.long (hh 3), .int 15, .ref 11]) rfl (by rw [hq 3] <;> rfl) ?_
  refine mB hT 14 rfl ?_
  refine mIf (fun _ => ?_) (fun hn => absurd (lc_ge.mpr (Int64.not_lt.mp hs)) hn)
  refine mB hT 1 rfl ?_
  refine mWd (w2 := (MW 4 vs wo u h bo ta (up (up (up (up (up (up (up (up (up (up (up (up (up (up (up (up (tsM 4 ta 2 hh) 0 (ta 0)) 1 (ta 1)) 2 (ta 2)) 3 (hh 0)) 4 (ta 4)) 5 (ta 5)) 6 (ta 6)) 7 (hh 1)) 8 (ta 8)) 9 (ta 9)) 10 (ta 10)) 11 (hh 2)) 12 (ta 12)) 13 (ta 13)) 14 (ta 14)) 15 (hh 3)) (up (up (up ro 0 (rr 0)) 1 (rr 1)) 2 (rr 2)) ot Bm bk)) rfl ?_
  refine mWd (w2 := (MW 4 vs wo u h bo ta (tsM 4 ta 3 hh) (up (up (up ro 0 (rr 0)) 1 (rr 1)) 2 (rr 2)) ot Bm bk)) rfl ?_
  refine hC.2 _ 0 [] _ _ _ _ _ (m_det) rfl rfl (Nat.le_of_ble_eq_true rfl) rfl ?_
  refine mNf (lv2 := [(3, .int 16), (2, .int 3), (0, .ref 0), (1, .int 3)]) (st2 := [.long (rr 3), .int 3, .ref 12]) rfl (by rw [hrr 3] <;> rfl) ?_
  refine mB hT 6 rfl ?_
  exact hR _ (by decide) _ _ _ rfl rfl
set_option maxRecDepth 20000 in
theorem m_solve_4_3n {vs : Int32} {wo un h : Int64} {bo : Nat → Int32} {ta tr ro ot : Nat → Int64} {Bm : Nat → Nat → Nat → Int32} {bk : Nat → Nat → Int32} {u : Int64} {hh rr : Nat → Int64} (hs : wo < 0) (hu : u = -wo) (hq : ∀ j : Nat, hh j = (bk 3 j).toInt64) (hrr : ∀ i : Nat, rr i = -(dtM (tsM 4 ta i hh))) : KX3_solve l D ca ad [.ref 0, .int 3] (MW 4 vs wo un h bo ta tr ro ot Bm bk) none (MW 4 vs wo u h bo ta (tsM 4 ta 3 hh) rr ot Bm bk) := by
  refine PX3_solve (Nat.le_of_ble_eq_true rfl) ?_
  intro G hT hC hR
  refine mB hT 6 rfl ?_
  refine mIf (fun hp => absurd hp (fun q => Int64.not_lt.mpr (lc_ge.mp q) hs)) (fun _ => ?_)
  refine mB hT 4 rfl ?_
  refine mNf (lv2 := [(0, .ref 0), (1, .int 3)]) (st2 := [.long u, .ref 0]) rfl (by rw [hu] <;> rfl) ?_
  refine mB hT 37 rfl ?_
  refine mNf (lv2 := [(3, .int 0), (2, .int 0), (0, .ref 0), (1, .int 3)]) (st2 := [.long (hh 0), .int 0, .ref 11]) rfl (by rw [hq 0] <;> rfl) ?_
  refine mB hT 19 rfl ?_
  refine mB hT 1 rfl ?_
  refine mWd (w2 := (MW 4 vs wo u h bo ta (up (up tr 0 (hh 0)) 1 (ta 1)) ro ot Bm bk)) rfl ?_
  refine mB hT 18 rfl ?_
  refine mNf (lv2 := [(3, .int 2), (2, .int 0), (0, .ref 0), (1, .int 3)]) (st2 := [.long (ta 2), .int 2, .ref 11]) rfl rfl ?_
  refine mB hT 19 rfl ?_
  refine mB hT 32 rfl ?_
  refine mNf (lv2 := [(3, .int 4), (2, .int 0), (0, .ref 0), (1, .int 3)]) (st2 := [.long (hh 1), .int 4, .ref 11]) rfl (by rw [hq 1] <;> rfl) ?_
  refine mB hT 1 rfl ?_
  refine mWd (w2 := (MW 4 vs wo u h bo ta (up (up (up (up (up tr 0 (hh 0)) 1 (ta 1)) 2 (ta 2)) 3 (ta 3)) 4 (hh 1)) ro ot Bm bk)) rfl ?_
  refine mB hT 18 rfl ?_
  refine mB hT 19 rfl ?_
  refine mNf (lv2 := [(3, .int 6), (2, .int 0), (0, .ref 0), (1, .int 3)]) (st2 := [.long (ta 6), .int 6, .ref 11]) rfl rfl ?_
  refine mB hT 19 rfl ?_
  refine mB hT 1 rfl ?_
  refine mWd (w2 := (MW 4 vs wo u h bo ta (up (up (up (up (up (up (up (up tr 0 (hh 0)) 1 (ta 1)) 2 (ta 2)) 3 (ta 3)) 4 (hh 1)) 5 (ta 5)) 6 (ta 6)) 7 (ta 7)) ro ot Bm bk)) rfl ?_
  refine mB hT 31 rfl ?_
  refine mNf (lv2 := [(3, .int 8), (2, .int 0), (0, .ref 0), (1, .int 3)]) (st2 := [.long (hh 2), .int 8, .ref 11]) rfl (by rw [hq 2] <;> rfl) ?_
  refine mB hT 19 rfl ?_
  refine mB hT 19 rfl ?_
  refine mNf (lv2 := [(3, .int 10), (2, .int 0), (0, .ref 0), (1, .int 3)]) (st2 := [.long (ta 10), .int 10, .ref 11]) rfl rfl ?_
  refine mB hT 1 rfl ?_
  refine mWd (w2 := (MW 4 vs wo u h bo ta (up (up (up (up (up (up (up (up (up (up (up tr 0 (hh 0)) 1 (ta 1)) 2 (ta 2)) 3 (ta 3)) 4 (hh 1)) 5 (ta 5)) 6 (ta 6)) 7 (ta 7)) 8 (hh 2)) 9 (ta 9)) 10 (ta 10)) ro ot Bm bk)) rfl ?_
  refine mB hT 18 rfl ?_
  refine mB hT 32 rfl ?_
  refine mNf (lv2 := [(3, .int 12), (2, .int 0), (0, .ref 0), (1, .int 3)]) (st2 := [.long (hh 3), .int 12, .ref 11]) rfl (by rw [hq 3] <;> rfl) ?_
  refine mB hT 19 rfl ?_
  refine mB hT 1 rfl ?_
  refine mWd (w2 := (MW 4 vs wo u h bo ta (up (up (up (up (up (up (up (up (up (up (up (up (up (up tr 0 (hh 0)) 1 (ta 1)) 2 (ta 2)) 3 (ta 3)) 4 (hh 1)) 5 (ta 5)) 6 (ta 6)) 7 (ta 7)) 8 (hh 2)) 9 (ta 9)) 10 (ta 10)) 11 (ta 11)) 12 (hh 3)) 13 (ta 13)) ro ot Bm bk)) rfl ?_
  refine mB hT 18 rfl ?_
  refine mNf (lv2 := [(3, .int 14), (2, .int 0), (0, .ref 0), (1, .int 3)]) (st2 := [.long (ta 14), .int 14, .ref 11]) rfl rfl ?_
  refine mB hT 19 rfl ?_
  refine mB hT 14 rfl ?_
  refine mIf (fun hp => absurd hp (fun q => Int64.not_lt.mpr (lc_ge.mp q) hs)) (fun _ => ?_)
  refine mNf (lv2 := [(3, .int 16), (2, .int 0), (0, .ref 0), (1, .int 3)]) (st2 := [.int 0, .ref 12]) rfl rfl ?_
  refine mB hT 1 rfl ?_
  refine mWd (w2 := (MW 4 vs wo u h bo ta (up (up (up (up (up (up (up (up (up (up (up (up (up (up (up (up tr 0 (hh 0)) 1 (ta 1)) 2 (ta 2)) 3 (ta 3)) 4 (hh 1)) 5 (ta 5)) 6 (ta 6)) 7 (ta 7)) 8 (hh 2)) 9 (ta 9)) 10 (ta 10)) 11 (ta 11)) 12 (hh 3)) 13 (ta 13)) 14 (ta 14)) 15 (ta 15)) ro ot Bm bk)) rfl ?_
  refine mWd (w2 := (MW 4 vs wo u h bo ta (tsM 4 ta 0 hh) ro ot Bm bk)) rfl ?_
  refine hC.1 _ 0 [] _ _ _ _ _ (m_det) rfl rfl (Nat.le_of_ble_eq_true rfl) rfl ?_
  refine mB hT 2 rfl ?_
  refine mNf (lv2 := [(3, .int 16), (2, .int 0), (0, .ref 0), (1, .int 3)]) (st2 := [.long (rr 0), .int 0, .ref 12]) rfl (by rw [hrr 0] <;> rfl) ?_
  refine mB hT 24 rfl ?_
  refine mNf (lv2 := [(3, .int 0), (2, .int 1), (0, .ref 0), (1, .int 3)]) (st2 := [.long (ta 0), .int 0, .ref 11]) rfl rfl ?_
  refine mB hT 32 rfl ?_
  refine mNf (lv2 := [(3, .int 1), (2, .int 1), (0, .ref 0), (1, .int 3)]) (st2 := [.long (hh 0), .int 1, .ref 11]) rfl (by rw [hq 0] <;> rfl) ?_
  refine mB hT 1 rfl ?_
  refine mWd (w2 := (MW 4 vs wo u h bo ta (up (up (tsM 4 ta 0 hh) 0 (ta 0)) 1 (hh 0)) (up ro 0 (rr 0)) ot Bm bk)) rfl ?_
  refine mB hT 18 rfl ?_
  refine mB hT 19 rfl ?_
  refine mNf (lv2 := [(3, .int 3), (2, .int 1), (0, .ref 0), (1, .int 3)]) (st2 := [.long (ta 3), .int 3, .ref 11]) rfl rfl ?_
  refine mB hT 19 rfl ?_
  refine mB hT 1 rfl ?_
  refine mWd (w2 := (MW 4 vs wo u h bo ta (up (up (up (up (up (tsM 4 ta 0 hh) 0 (ta 0)) 1 (hh 0)) 2 (ta 2)) 3 (ta 3)) 4 (ta 4)) (up ro 0 (rr 0)) ot Bm bk)) rfl ?_
  refine mB hT 31 rfl ?_
  refine mNf (lv2 := [(3, .int 5), (2, .int 1), (0, .ref 0), (1, .int 3)]) (st2 := [.long (hh 1), .int 5, .ref 11]) rfl (by rw [hq 1] <;> rfl) ?_
  refine mB hT 19 rfl ?_
  refine mB hT 19 rfl ?_
  refine mNf (lv2 := [(3, .int 7), (2, .int 1), (0, .ref 0), (1, .int 3)]) (st2 := [.long (ta 7), .int 7, .ref 11]) rfl rfl ?_
  refine mB hT 1 rfl ?_
  refine mWd (w2 := (MW 4 vs wo u h bo ta (up (up (up (up (up (up (up (up (tsM 4 ta 0 hh) 0 (ta 0)) 1 (hh 0)) 2 (ta 2)) 3 (ta 3)) 4 (ta 4)) 5 (hh 1)) 6 (ta 6)) 7 (ta 7)) (up ro 0 (rr 0)) ot Bm bk)) rfl ?_
  refine mB hT 18 rfl ?_
  refine mB hT 32 rfl ?_
  refine mNf (lv2 := [(3, .int 9), (2, .int 1), (0, .ref 0), (1, .int 3)]) (st2 := [.long (hh 2), .int 9, .ref 11]) rfl (by rw [hq 2] <;> rfl) ?_
  refine mB hT 19 rfl ?_
  refine mB hT 1 rfl ?_
  refine mWd (w2 := (MW 4 vs wo u h bo ta (up (up (up (up (up (up (up (up (up (up (up (tsM 4 ta 0 hh) 0 (ta 0)) 1 (hh 0)) 2 (ta 2)) 3 (ta 3)) 4 (ta 4)) 5 (hh 1)) 6 (ta 6)) 7 (ta 7)) 8 (ta 8)) 9 (hh 2)) 10 (ta 10)) (up ro 0 (rr 0)) ot Bm bk)) rfl ?_
  refine mB hT 18 rfl ?_
  refine mNf (lv2 := [(3, .int 11), (2, .int 1), (0, .ref 0), (1, .int 3)]) (st2 := [.long (ta 11), .int 11, .ref 11]) rfl rfl ?_
  refine mB hT 19 rfl ?_
  refine mB hT 32 rfl ?_
  refine mNf (lv2 := [(3, .int 13), (2, .int 1), (0, .ref 0), (1, .int 3)]) (st2 := [.long (hh 3), .int 13, .ref 11]) rfl (by rw [hq 3] <;> rfl) ?_
  refine mB hT 1 rfl ?_
  refine mWd (w2 := (MW 4 vs wo u h bo ta (up (up (up (up (up (up (up (up (up (up (up (up (up (up (tsM 4 ta 0 hh) 0 (ta 0)) 1 (hh 0)) 2 (ta 2)) 3 (ta 3)) 4 (ta 4)) 5 (hh 1)) 6 (ta 6)) 7 (ta 7)) 8 (ta 8)) 9 (hh 2)) 10 (ta 10)) 11 (ta 11)) 12 (ta 12)) 13 (hh 3)) (up ro 0 (rr 0)) ot Bm bk)) rfl ?_
  refine mB hT 18 rfl ?_
  refine mB hT 19 rfl ?_
  refine mNf (lv2 := [(3, .int 15), (2, .int 1), (0, .ref 0), (1, .int 3)]) (st2 := [.long (ta 15), .int 15, .ref 11]) rfl rfl ?_
  refine mB hT 14 rfl ?_
  refine mIf (fun hp => absurd hp (fun q => Int64.not_lt.mpr (lc_ge.mp q) hs)) (fun _ => ?_)
  refine mB hT 1 rfl ?_
  refine mWd (w2 := (MW 4 vs wo u h bo ta (up (up (up (up (up (up (up (up (up (up (up (up (up (up (up (up (tsM 4 ta 0 hh) 0 (ta 0)) 1 (hh 0)) 2 (ta 2)) 3 (ta 3)) 4 (ta 4)) 5 (hh 1)) 6 (ta 6)) 7 (ta 7)) 8 (ta 8)) 9 (hh 2)) 10 (ta 10)) 11 (ta 11)) 12 (ta 12)) 13 (hh 3)) 14 (ta 14)) 15 (ta 15)) (up ro 0 (rr 0)) ot Bm bk)) rfl ?_
  refine mWd (w2 := (MW 4 vs wo u h bo ta (tsM 4 ta 1 hh) (up ro 0 (rr 0)) ot Bm bk)) rfl ?_
  refine hC.1 _ 0 [] _ _ _ _ _ (m_det) rfl rfl (Nat.le_of_ble_eq_true rfl) rfl ?_
  refine mB hT 2 rfl ?_
  refine mNf (lv2 := [(3, .int 16), (2, .int 1), (0, .ref 0), (1, .int 3)]) (st2 := [.long (rr 1), .int 1, .ref 12]) rfl (by rw [hrr 1] <;> rfl) ?_
  refine mB hT 24 rfl ?_
  refine mNf (lv2 := [(3, .int 0), (2, .int 2), (0, .ref 0), (1, .int 3)]) (st2 := [.long (ta 0), .int 0, .ref 11]) rfl rfl ?_
  refine mB hT 19 rfl ?_
  refine mB hT 1 rfl ?_
  refine mWd (w2 := (MW 4 vs wo u h bo ta (up (up (tsM 4 ta 1 hh) 0 (ta 0)) 1 (ta 1)) (up (up ro 0 (rr 0)) 1 (rr 1)) ot Bm bk)) rfl ?_
  refine mB hT 31 rfl ?_
  refine mNf (lv2 := [(3, .int 2), (2, .int 2), (0, .ref 0), (1, .int 3)]) (st2 := [.long (hh 0), .int 2, .ref 11]) rfl (by rw [hq 0] <;> rfl) ?_
  refine mB hT 19 rfl ?_
  refine mB hT 19 rfl ?_
  refine mNf (lv2 := [(3, .int 4), (2, .int 2), (0, .ref 0), (1, .int 3)]) (st2 := [.long (ta 4), .int 4, .ref 11]) rfl rfl ?_
  refine mB hT 1 rfl ?_
  refine mWd (w2 := (MW 4 vs wo u h bo ta (up (up (up (up (up (tsM 4 ta 1 hh) 0 (ta 0)) 1 (ta 1)) 2 (hh 0)) 3 (ta 3)) 4 (ta 4)) (up (up ro 0 (rr 0)) 1 (rr 1)) ot Bm bk)) rfl ?_
  refine mB hT 18 rfl ?_
  refine mB hT 32 rfl ?_
  refine mNf (lv2 := [(3, .int 6), (2, .int 2), (0, .ref 0), (1, .int 3)]) (st2 := [.long (hh 1), .int 6, .ref 11]) rfl (by rw [hq 1] <;> rfl) ?_
  refine mB hT 19 rfl ?_
  refine mB hT 1 rfl ?_
  refine mWd (w2 := (MW 4 vs wo u h bo ta (up (up (up (up (up (up (up (up (tsM 4 ta 1 hh) 0 (ta 0)) 1 (ta 1)) 2 (hh 0)) 3 (ta 3)) 4 (ta 4)) 5 (ta 5)) 6 (hh 1)) 7 (ta 7)) (up (up ro 0 (rr 0)) 1 (rr 1)) ot Bm bk)) rfl ?_
  refine mB hT 18 rfl ?_
  refine mNf (lv2 := [(3, .int 8), (2, .int 2), (0, .ref 0), (1, .int 3)]) (st2 := [.long (ta 8), .int 8, .ref 11]) rfl rfl ?_
  refine mB hT 19 rfl ?_
  refine mB hT 32 rfl ?_
  refine mNf (lv2 := [(3, .int 10), (2, .int 2), (0, .ref 0), (1, .int 3)]) (st2 := [.long (hh 2), .int 10, .ref 11]) rfl (by rw [hq 2] <;> rfl) ?_
  refine mB hT 1 rfl ?_
  refine mWd (w2 := (MW 4 vs wo u h bo ta (up (up (up (up (up (up (up (up (up (up (up (tsM 4 ta 1 hh) 0 (ta 0)) 1 (ta 1)) 2 (hh 0)) 3 (ta 3)) 4 (ta 4)) 5 (ta 5)) 6 (hh 1)) 7 (ta 7)) 8 (ta 8)) 9 (ta 9)) 10 (hh 2)) (up (up ro 0 (rr 0)) 1 (rr 1)) ot Bm bk)) rfl ?_
  refine mB hT 18 rfl ?_
  refine mB hT 19 rfl ?_
  refine mNf (lv2 := [(3, .int 12), (2, .int 2), (0, .ref 0), (1, .int 3)]) (st2 := [.long (ta 12), .int 12, .ref 11]) rfl rfl ?_
  refine mB hT 19 rfl ?_
  refine mB hT 1 rfl ?_
  refine mWd (w2 := (MW 4 vs wo u h bo ta (up (up (up (up (up (up (up (up (up (up (up (up (up (up (tsM 4 ta 1 hh) 0 (ta 0)) 1 (ta 1)) 2 (hh 0)) 3 (ta 3)) 4 (ta 4)) 5 (ta 5)) 6 (hh 1)) 7 (ta 7)) 8 (ta 8)) 9 (ta 9)) 10 (hh 2)) 11 (ta 11)) 12 (ta 12)) 13 (ta 13)) (up (up ro 0 (rr 0)) 1 (rr 1)) ot Bm bk)) rfl ?_
  refine mB hT 31 rfl ?_
  refine mNf (lv2 := [(3, .int 14), (2, .int 2), (0, .ref 0), (1, .int 3)]) (st2 := [.long (hh 3), .int 14, .ref 11]) rfl (by rw [hq 3] <;> rfl) ?_
  refine mB hT 19 rfl ?_
  refine mB hT 14 rfl ?_
  refine mIf (fun hp => absurd hp (fun q => Int64.not_lt.mpr (lc_ge.mp q) hs)) (fun _ => ?_)
  refine mNf (lv2 := [(3, .int 16), (2, .int 2), (0, .ref 0), (1, .int 3)]) (st2 := [.int 2, .ref 12]) rfl rfl ?_
  refine mB hT 1 rfl ?_
  refine mWd (w2 := (MW 4 vs wo u h bo ta (up (up (up (up (up (up (up (up (up (up (up (up (up (up (up (up (tsM 4 ta 1 hh) 0 (ta 0)) 1 (ta 1)) 2 (hh 0)) 3 (ta 3)) 4 (ta 4)) 5 (ta 5)) 6 (hh 1)) 7 (ta 7)) 8 (ta 8)) 9 (ta 9)) 10 (hh 2)) 11 (ta 11)) 12 (ta 12)) 13 (ta 13)) 14 (hh 3)) 15 (ta 15)) (up (up ro 0 (rr 0)) 1 (rr 1)) ot Bm bk)) rfl ?_
  refine mWd (w2 := (MW 4 vs wo u h bo ta (tsM 4 ta 2 hh) (up (up ro 0 (rr 0)) 1 (rr 1)) ot Bm bk)) rfl ?_
  refine hC.1 _ 0 [] _ _ _ _ _ (m_det) rfl rfl (Nat.le_of_ble_eq_true rfl) rfl ?_
  refine mB hT 2 rfl ?_
  refine mNf (lv2 := [(3, .int 16), (2, .int 2), (0, .ref 0), (1, .int 3)]) (st2 := [.long (rr 2), .int 2, .ref 12]) rfl (by rw [hrr 2] <;> rfl) ?_
  refine mB hT 24 rfl ?_
  refine mNf (lv2 := [(3, .int 0), (2, .int 3), (0, .ref 0), (1, .int 3)]) (st2 := [.long (ta 0), .int 0, .ref 11]) rfl rfl ?_
  refine mB hT 19 rfl ?_
  refine mB hT 1 rfl ?_
  refine mWd (w2 := (MW 4 vs wo u h bo ta (up (up (tsM 4 ta 2 hh) 0 (ta 0)) 1 (ta 1)) (up (up (up ro 0 (rr 0)) 1 (rr 1)) 2 (rr 2)) ot Bm bk)) rfl ?_
  refine mB hT 18 rfl ?_
  refine mNf (lv2 := [(3, .int 2), (2, .int 3), (0, .ref 0), (1, .int 3)]) (st2 := [.long (ta 2), .int 2, .ref 11]) rfl rfl ?_
  refine mB hT 32 rfl ?_
  refine mNf (lv2 := [(3, .int 3), (2, .int 3), (0, .ref 0), (1, .int 3)]) (st2 := [.long (hh 0), .int 3, .ref 11]) rfl (by rw [hq 0] <;> rfl) ?_
  refine mB hT 19 rfl ?_
  refine mB hT 1 rfl ?_
  refine mWd (w2 := (MW 4 vs wo u h bo ta (up (up (up (up (up (tsM 4 ta 2 hh) 0 (ta 0)) 1 (ta 1)) 2 (ta 2)) 3 (hh 0)) 4 (ta 4)) (up (up (up ro 0 (rr 0)) 1 (rr 1)) 2 (rr 2)) ot Bm bk)) rfl ?_
  refine mB hT 18 rfl ?_
  refine mNf (lv2 := [(3, .int 5), (2, .int 3), (0, .ref 0), (1, .int 3)]) (st2 := [.long (ta 5), .int 5, .ref 11]) rfl rfl ?_
  refine mB hT 19 rfl ?_
  refine mB hT 32 rfl ?_
  refine mNf (lv2 := [(3, .int 7), (2, .int 3), (0, .ref 0), (1, .int 3)]) (st2 := [.long (hh 1), .int 7, .ref 11]) rfl (by rw [hq 1] <;> rfl) ?_
  refine mB hT 1 rfl ?_
  refine mWd (w2 := (MW 4 vs wo u h bo ta (up (up (up (up (up (up (up (up (tsM 4 ta 2 hh) 0 (ta 0)) 1 (ta 1)) 2 (ta 2)) 3 (hh 0)) 4 (ta 4)) 5 (ta 5)) 6 (ta 6)) 7 (hh 1)) (up (up (up ro 0 (rr 0)) 1 (rr 1)) 2 (rr 2)) ot Bm bk)) rfl ?_
  refine mB hT 18 rfl ?_
  refine mB hT 19 rfl ?_
  refine mNf (lv2 := [(3, .int 9), (2, .int 3), (0, .ref 0), (1, .int 3)]) (st2 := [.long (ta 9), .int 9, .ref 11]) rfl rfl ?_
  refine mB hT 19 rfl ?_
  refine mB hT 1 rfl ?_
  refine mWd (w2 := (MW 4 vs wo u h bo ta (up (up (up (up (up (up (up (up (up (up (up (tsM 4 ta 2 hh) 0 (ta 0)) 1 (ta 1)) 2 (ta 2)) 3 (hh 0)) 4 (ta 4)) 5 (ta 5)) 6 (ta 6)) 7 (hh 1)) 8 (ta 8)) 9 (ta 9)) 10 (ta 10)) (up (up (up ro 0 (rr 0)) 1 (rr 1)) 2 (rr 2)) ot Bm bk)) rfl ?_
  refine mB hT 31 rfl ?_
  refine mNf (lv2 := [(3, .int 11), (2, .int 3), (0, .ref 0), (1, .int 3)]) (st2 := [.long (hh 2), .int 11, .ref 11]) rfl (by rw [hq 2] <;> rfl) ?_
  refine mB hT 19 rfl ?_
  refine mB hT 19 rfl ?_
  refine mNf (lv2 := [(3, .int 13), (2, .int 3), (0, .ref 0), (1, .int 3)]) (st2 := [.long (ta 13), .int 13, .ref 11]) rfl rfl ?_
  refine mB hT 1 rfl ?_
  refine mWd (w2 := (MW 4 vs wo u h bo ta (up (up (up (up (up (up (up (up (up (up (up (up (up (up (tsM 4 ta 2 hh) 0 (ta 0)) 1 (ta 1)) 2 (ta 2)) 3 (hh 0)) 4 (ta 4)) 5 (ta 5)) 6 (ta 6)) 7 (hh 1)) 8 (ta 8)) 9 (ta 9)) 10 (ta 10)) 11 (hh 2)) 12 (ta 12)) 13 (ta 13)) (up (up (up ro 0 (rr 0)) 1 (rr 1)) 2 (rr 2)) ot Bm bk)) rfl ?_
  refine mB hT 18 rfl ?_
  refine mB hT 32 rfl ?_
  refine mNf (lv2 := [(3, .int 15), (2, .int 3), (0, .ref 0), (1, .int 3)]) (st2 := [.long (hh 3), .int 15, .ref 11]) rfl (by rw [hq 3] <;> rfl) ?_
  refine mB hT 14 rfl ?_
  refine mIf (fun hp => absurd hp (fun q => Int64.not_lt.mpr (lc_ge.mp q) hs)) (fun _ => ?_)
  refine mB hT 1 rfl ?_
  refine mWd (w2 := (MW 4 vs wo u h bo ta (up (up (up (up (up (up (up (up (up (up (up (up (up (up (up (up (tsM 4 ta 2 hh) 0 (ta 0)) 1 (ta 1)) 2 (ta 2)) 3 (hh 0)) 4 (ta 4)) 5 (ta 5)) 6 (ta 6)) 7 (hh 1)) 8 (ta 8)) 9 (ta 9)) 10 (ta 10)) 11 (hh 2)) 12 (ta 12)) 13 (ta 13)) 14 (ta 14)) 15 (hh 3)) (up (up (up ro 0 (rr 0)) 1 (rr 1)) 2 (rr 2)) ot Bm bk)) rfl ?_
  refine mWd (w2 := (MW 4 vs wo u h bo ta (tsM 4 ta 3 hh) (up (up (up ro 0 (rr 0)) 1 (rr 1)) 2 (rr 2)) ot Bm bk)) rfl ?_
  refine hC.1 _ 0 [] _ _ _ _ _ (m_det) rfl rfl (Nat.le_of_ble_eq_true rfl) rfl ?_
  refine mB hT 2 rfl ?_
  refine mNf (lv2 := [(3, .int 16), (2, .int 3), (0, .ref 0), (1, .int 3)]) (st2 := [.long (rr 3), .int 3, .ref 12]) rfl (by rw [hrr 3] <;> rfl) ?_
  refine mB hT 6 rfl ?_
  exact hR _ (by decide) _ _ _ rfl rfl
end
