section
variable {l : Launch} {D : va_G} {ca : Nat → ClassId} {ad : Nat → Nat}

set_option maxRecDepth 20000 in
theorem m_copy_6_0 {n vs : Int32} {wo un h : Int64} {bo : Nat → Int32} {ta tr ro ot : Nat → Int64} {Bm : Nat → Nat → Nat → Int32} {bk : Nat → Nat → Int32} : KX3_copy l D ca ad [.ref 0, .int 6, .int 0] (MW n vs wo un h bo ta tr ro ot Bm bk) none (MW n vs wo un h bo ta tr ro ot (up Bm 0 (Bm 6)) bk) := by
  refine PX3_copy (Nat.le_of_ble_eq_true rfl) ?_
  intro G hT hC hR
  refine mB hT 40 rfl ?_
  refine mB hT 40 rfl ?_
  refine mNf (lv2 := [(3, .int 1), (0, .ref 0), (1, .int 6), (2, .int 0)]) (st2 := [.int 1, .int 0, .ref 1]) rfl rfl ?_
  refine mB hT 40 rfl ?_
  refine mB hT 18 rfl ?_
  refine mWd (w2 := (MW n vs wo un h bo ta tr ro ot (up Bm 0 (up (up (Bm 0) 0 (up (up (up (up (Bm 0 0) 0 (Bm 6 0 0)) 1 (Bm 6 0 1)) 21 (Bm 6 0 21)) 22 (Bm 6 0 22))) 1 (up (up (up (up (Bm 0 1) 0 (Bm 6 1 0)) 1 (Bm 6 1 1)) 21 (Bm 6 1 21)) 22 (Bm 6 1 22)))) bk)) rfl ?_
  refine mB hT 40 rfl ?_
  refine mB hT 40 rfl ?_
  refine mNf (lv2 := [(3, .int 3), (0, .ref 0), (1, .int 6), (2, .int 0)]) (st2 := [.int 3, .int 0, .ref 1]) rfl rfl ?_
  refine mB hT 40 rfl ?_
  refine mB hT 18 rfl ?_
  refine mWd (w2 := (MW n vs wo un h bo ta tr ro ot (up Bm 0 (up (up (up (up (Bm 0) 0 (up (up (up (up (Bm 0 0) 0 (Bm 6 0 0)) 1 (Bm 6 0 1)) 21 (Bm 6 0 21)) 22 (Bm 6 0 22))) 1 (up (up (up (up (Bm 0 1) 0 (Bm 6 1 0)) 1 (Bm 6 1 1)) 21 (Bm 6 1 21)) 22 (Bm 6 1 22))) 2 (up (up (up (up (Bm 0 2) 0 (Bm 6 2 0)) 1 (Bm 6 2 1)) 21 (Bm 6 2 21)) 22 (Bm 6 2 22))) 3 (up (up (up (up (Bm 0 3) 0 (Bm 6 3 0)) 1 (Bm 6 3 1)) 21 (Bm 6 3 21)) 22 (Bm 6 3 22)))) bk)) rfl ?_
  refine mB hT 40 rfl ?_
  refine mNf (lv2 := [(3, .int 0), (0, .ref 0), (1, .int 6), (2, .int 0)]) (st2 := [.int 96, .ref 6, .int 0, .ref 6]) rfl rfl ?_
  refine mB hT 40 rfl ?_
  refine mNf (lv2 := [(3, .int 2), (0, .ref 0), (1, .int 6), (2, .int 0)]) (st2 := []) rfl rfl ?_
  refine mB hT 40 rfl ?_
  refine mB hT 33 rfl ?_
  refine mWd (w2 := (MW n vs wo un h bo ta tr ro ot (up Bm 0 (up (up (up (up (Bm 0) 0 (up (up (up (up (up (up (up (up (up (up (up (up (Bm 0 0) 0 (Bm 6 0 0)) 1 (Bm 6 0 1)) 21 (Bm 6 0 21)) 22 (Bm 6 0 22)) 4 (Bm 6 0 4)) 5 (Bm 6 0 5)) 6 (Bm 6 0 6)) 7 (Bm 6 0 7)) 8 (Bm 6 0 8)) 9 (Bm 6 0 9)) 10 (Bm 6 0 10)) 11 (Bm 6 0 11))) 1 (up (up (up (up (Bm 0 1) 0 (Bm 6 1 0)) 1 (Bm 6 1 1)) 21 (Bm 6 1 21)) 22 (Bm 6 1 22))) 2 (up (up (up (up (Bm 0 2) 0 (Bm 6 2 0)) 1 (Bm 6 2 1)) 21 (Bm 6 2 21)) 22 (Bm 6 2 22))) 3 (up (up (up (up (Bm 0 3) 0 (Bm 6 3 0)) 1 (Bm 6 3 1)) 21 (Bm 6 3 21)) 22 (Bm 6 3 22)))) bk)) rfl ?_
  refine mB hT 40 rfl ?_
  refine mNf (lv2 := [(3, .int 5), (0, .ref 0), (1, .int 6), (2, .int 0)]) (st2 := [.int 5]) rfl rfl ?_
  refine mB hT 40 rfl ?_
  refine mB hT 40 rfl ?_
  refine mNf (lv2 := [(3, .int 7), (0, .ref 0), (1, .int 6), (2, .int 0)]) (st2 := [.int 0, .int 16, .ref 5]) rfl rfl ?_
  refine mB hT 28 rfl ?_
  refine mWd (w2 := (MW n vs wo un h bo ta tr ro ot (up Bm 0 (up (up (up (up (Bm 0) 0 (up (up (up (up (up (up (up (up (up (up (up (up (Bm 0 0) 0 (Bm 6 0 0)) 1 (Bm 6 0 1)) 21 (Bm 6 0 21)) 22 (Bm 6 0 22)) 4 (Bm 6 0 4)) 5 (Bm 6 0 5)) 6 (Bm 6 0 6)) 7 (Bm 6 0 7)) 8 (Bm 6 0 8)) 9 (Bm 6 0 9)) 10 (Bm 6 0 10)) 11 (Bm 6 0 11))) 1 (up (up (up (up (up (up (up (up (up (up (up (up (Bm 0 1) 0 (Bm 6 1 0)) 1 (Bm 6 1 1)) 21 (Bm 6 1 21)) 22 (Bm 6 1 22)) 4 (Bm 6 1 4)) 5 (Bm 6 1 5)) 6 (Bm 6 1 6)) 7 (Bm 6 1 7)) 8 (Bm 6 1 8)) 9 (Bm 6 1 9)) 10 (Bm 6 1 10)) 11 (Bm 6 1 11))) 2 (up (up (up (up (Bm 0 2) 0 (Bm 6 2 0)) 1 (Bm 6 2 1)) 21 (Bm 6 2 21)) 22 (Bm 6 2 22))) 3 (up (up (up (up (Bm 0 3) 0 (Bm 6 3 0)) 1 (Bm 6 3 1)) 21 (Bm 6 3 21)) 22 (Bm 6 3 22)))) bk)) rfl ?_
  refine mB hT 40 rfl ?_
  refine mNf (lv2 := [(3, .int 9), (0, .ref 0), (1, .int 6), (2, .int 0)]) (st2 := [.int 9]) rfl rfl ?_
  refine mB hT 40 rfl ?_
  refine mB hT 40 rfl ?_
  refine mNf (lv2 := [(3, .int 11), (0, .ref 0), (1, .int 6), (2, .int 0)]) (st2 := [.int 0, .int 16, .ref 5]) rfl rfl ?_
  refine mB hT 28 rfl ?_
  refine mWd (w2 := (MW n vs wo un h bo ta tr ro ot (up Bm 0 (up (up (up (up (Bm 0) 0 (up (up (up (up (up (up (up (up (up (up (up (up (Bm 0 0) 0 (Bm 6 0 0)) 1 (Bm 6 0 1)) 21 (Bm 6 0 21)) 22 (Bm 6 0 22)) 4 (Bm 6 0 4)) 5 (Bm 6 0 5)) 6 (Bm 6 0 6)) 7 (Bm 6 0 7)) 8 (Bm 6 0 8)) 9 (Bm 6 0 9)) 10 (Bm 6 0 10)) 11 (Bm 6 0 11))) 1 (up (up (up (up (up (up (up (up (up (up (up (up (Bm 0 1) 0 (Bm 6 1 0)) 1 (Bm 6 1 1)) 21 (Bm 6 1 21)) 22 (Bm 6 1 22)) 4 (Bm 6 1 4)) 5 (Bm 6 1 5)) 6 (Bm 6 1 6)) 7 (Bm 6 1 7)) 8 (Bm 6 1 8)) 9 (Bm 6 1 9)) 10 (Bm 6 1 10)) 11 (Bm 6 1 11))) 2 (up (up (up (up (up (up (up (up (up (up (up (up (Bm 0 2) 0 (Bm 6 2 0)) 1 (Bm 6 2 1)) 21 (Bm 6 2 21)) 22 (Bm 6 2 22)) 4 (Bm 6 2 4)) 5 (Bm 6 2 5)) 6 (Bm 6 2 6)) 7 (Bm 6 2 7)) 8 (Bm 6 2 8)) 9 (Bm 6 2 9)) 10 (Bm 6 2 10)) 11 (Bm 6 2 11))) 3 (up (up (up (up (Bm 0 3) 0 (Bm 6 3 0)) 1 (Bm 6 3 1)) 21 (Bm 6 3 21)) 22 (Bm 6 3 22)))) bk)) rfl ?_
  refine mB hT 40 rfl ?_
  refine mNf (lv2 := [(3, .int 13), (0, .ref 0), (1, .int 6), (2, .int 0)]) (st2 := [.int 13]) rfl rfl ?_
  refine mB hT 40 rfl ?_
  refine mB hT 40 rfl ?_
  refine mNf (lv2 := [(3, .int 15), (0, .ref 0), (1, .int 6), (2, .int 0)]) (st2 := [.int 0, .int 16, .ref 5]) rfl rfl ?_
  refine mB hT 28 rfl ?_
  refine mWd (w2 := (MW n vs wo un h bo ta tr ro ot (up Bm 0 (up (up (up (up (Bm 0) 0 (up (up (up (up (up (up (up (up (up (up (up (up (Bm 0 0) 0 (Bm 6 0 0)) 1 (Bm 6 0 1)) 21 (Bm 6 0 21)) 22 (Bm 6 0 22)) 4 (Bm 6 0 4)) 5 (Bm 6 0 5)) 6 (Bm 6 0 6)) 7 (Bm 6 0 7)) 8 (Bm 6 0 8)) 9 (Bm 6 0 9)) 10 (Bm 6 0 10)) 11 (Bm 6 0 11))) 1 (up (up (up (up (up (up (up (up (up (up (up (up (Bm 0 1) 0 (Bm 6 1 0)) 1 (Bm 6 1 1)) 21 (Bm 6 1 21)) 22 (Bm 6 1 22)) 4 (Bm 6 1 4)) 5 (Bm 6 1 5)) 6 (Bm 6 1 6)) 7 (Bm 6 1 7)) 8 (Bm 6 1 8)) 9 (Bm 6 1 9)) 10 (Bm 6 1 10)) 11 (Bm 6 1 11))) 2 (up (up (up (up (up (up (up (up (up (up (up (up (Bm 0 2) 0 (Bm 6 2 0)) 1 (Bm 6 2 1)) 21 (Bm 6 2 21)) 22 (Bm 6 2 22)) 4 (Bm 6 2 4)) 5 (Bm 6 2 5)) 6 (Bm 6 2 6)) 7 (Bm 6 2 7)) 8 (Bm 6 2 8)) 9 (Bm 6 2 9)) 10 (Bm 6 2 10)) 11 (Bm 6 2 11))) 3 (up (up (up (up (up (up (up (up (up (up (up (up (Bm 0 3) 0 (Bm 6 3 0)) 1 (Bm 6 3 1)) 21 (Bm 6 3 21)) 22 (Bm 6 3 22)) 4 (Bm 6 3 4)) 5 (Bm 6 3 5)) 6 (Bm 6 3 6)) 7 (Bm 6 3 7)) 8 (Bm 6 3 8)) 9 (Bm 6 3 9)) 10 (Bm 6 3 10)) 11 (Bm 6 3 11)))) bk)) rfl ?_
  refine mB hT 40 rfl ?_
  refine mNf (lv2 := [(3, .int 1), (0, .ref 0), (1, .int 6), (2, .int 0)]) (st2 := [.ref 7, .int 1, .ref 7]) rfl rfl ?_
  refine mB hT 40 rfl ?_
  refine mNf (lv2 := [(3, .int 3), (0, .ref 0), (1, .int 6), (2, .int 0)]) (st2 := [.int 3, .ref 7]) rfl rfl ?_
  refine mB hT 40 rfl ?_
  refine mNf (lv2 := [(3, .int 5), (0, .ref 0), (1, .int 6), (2, .int 0)]) (st2 := [.int 0, .ref 7]) rfl rfl ?_
  refine mB hT 40 rfl ?_
  refine mNf (lv2 := [(3, .int 7), (0, .ref 0), (1, .int 6), (2, .int 0)]) (st2 := [.int 36, .ref 7]) rfl rfl ?_
  refine mB hT 13 rfl ?_
  refine mWd (w2 := (MW n vs wo un h bo ta tr ro ot (up Bm 0 (up (up (up (up (Bm 0) 0 (up (up (up (up (up (up (up (up (up (up (up (up (up (up (up (up (up (up (up (up (Bm 0 0) 0 (Bm 6 0 0)) 1 (Bm 6 0 1)) 21 (Bm 6 0 21)) 22 (Bm 6 0 22)) 4 (Bm 6 0 4)) 5 (Bm 6 0 5)) 6 (Bm 6 0 6)) 7 (Bm 6 0 7)) 8 (Bm 6 0 8)) 9 (Bm 6 0 9)) 10 (Bm 6 0 10)) 11 (Bm 6 0 11)) 12 (Bm 6 0 12)) 13 (Bm 6 0 13)) 14 (Bm 6 0 14)) 15 (Bm 6 0 15)) 16 (Bm 6 0 16)) 17 (Bm 6 0 17)) 18 (Bm 6 0 18)) 19 (Bm 6 0 19))) 1 (up (up (up (up (up (up (up (up (up (up (up (up (Bm 0 1) 0 (Bm 6 1 0)) 1 (Bm 6 1 1)) 21 (Bm 6 1 21)) 22 (Bm 6 1 22)) 4 (Bm 6 1 4)) 5 (Bm 6 1 5)) 6 (Bm 6 1 6)) 7 (Bm 6 1 7)) 8 (Bm 6 1 8)) 9 (Bm 6 1 9)) 10 (Bm 6 1 10)) 11 (Bm 6 1 11))) 2 (up (up (up (up (up (up (up (up (up (up (up (up (Bm 0 2) 0 (Bm 6 2 0)) 1 (Bm 6 2 1)) 21 (Bm 6 2 21)) 22 (Bm 6 2 22)) 4 (Bm 6 2 4)) 5 (Bm 6 2 5)) 6 (Bm 6 2 6)) 7 (Bm 6 2 7)) 8 (Bm 6 2 8)) 9 (Bm 6 2 9)) 10 (Bm 6 2 10)) 11 (Bm 6 2 11))) 3 (up (up (up (up (up (up (up (up (up (up (up (up (Bm 0 3) 0 (Bm 6 3 0)) 1 (Bm 6 3 1)) 21 (Bm 6 3 21)) 22 (Bm 6 3 22)) 4 (Bm 6 3 4)) 5 (Bm 6 3 5)) 6 (Bm 6 3 6)) 7 (Bm 6 3 7)) 8 (Bm 6 3 8)) 9 (Bm 6 3 9)) 10 (Bm 6 3 10)) 11 (Bm 6 3 11)))) bk)) rfl ?_
  refine mB hT 40 rfl ?_
  refine mNf (lv2 := [(3, .int 9), (0, .ref 0), (1, .int 6), (2, .int 0)]) (st2 := [.int 225, .ref 7, .int 9, .ref 7]) rfl rfl ?_
  refine mB hT 40 rfl ?_
  refine mNf (lv2 := [(3, .int 11), (0, .ref 0), (1, .int 6), (2, .int 0)]) (st2 := [.int 216, .ref 7, .int 11, .ref 7]) rfl rfl ?_
  refine mB hT 40 rfl ?_
  refine mNf (lv2 := [(3, .int 13), (0, .ref 0), (1, .int 6), (2, .int 0)]) (st2 := [.int 36, .ref 7, .int 13, .ref 7]) rfl rfl ?_
  refine mB hT 40 rfl ?_
  refine mNf (lv2 := [(3, .int 15), (0, .ref 0), (1, .int 6), (2, .int 0)]) (st2 := [.ref 0, .int 15, .ref 7]) rfl rfl ?_
  refine mB hT 8 rfl ?_
  refine mWd (w2 := (MW n vs wo un h bo ta tr ro ot (up Bm 0 (up (up (up (up (Bm 0) 0 (up (up (up (up (up (up (up (up (up (up (up (up (up (up (up (up (up (up (up (up (up (Bm 0 0) 0 (Bm 6 0 0)) 1 (Bm 6 0 1)) 21 (Bm 6 0 21)) 22 (Bm 6 0 22)) 4 (Bm 6 0 4)) 5 (Bm 6 0 5)) 6 (Bm 6 0 6)) 7 (Bm 6 0 7)) 8 (Bm 6 0 8)) 9 (Bm 6 0 9)) 10 (Bm 6 0 10)) 11 (Bm 6 0 11)) 12 (Bm 6 0 12)) 13 (Bm 6 0 13)) 14 (Bm 6 0 14)) 15 (Bm 6 0 15)) 16 (Bm 6 0 16)) 17 (Bm 6 0 17)) 18 (Bm 6 0 18)) 19 (Bm 6 0 19)) 20 (Bm 6 0 20))) 1 (up (up (up (up (up (up (up (up (up (up (up (up (up (up (up (up (up (up (up (Bm 0 1) 0 (Bm 6 1 0)) 1 (Bm 6 1 1)) 21 (Bm 6 1 21)) 22 (Bm 6 1 22)) 4 (Bm 6 1 4)) 5 (Bm 6 1 5)) 6 (Bm 6 1 6)) 7 (Bm 6 1 7)) 8 (Bm 6 1 8)) 9 (Bm 6 1 9)) 10 (Bm 6 1 10)) 11 (Bm 6 1 11)) 12 (Bm 6 1 12)) 13 (Bm 6 1 13)) 14 (Bm 6 1 14)) 15 (Bm 6 1 15)) 16 (Bm 6 1 16)) 17 (Bm 6 1 17)) 18 (Bm 6 1 18))) 2 (up (up (up (up (up (up (up (up (up (up (up (up (Bm 0 2) 0 (Bm 6 2 0)) 1 (Bm 6 2 1)) 21 (Bm 6 2 21)) 22 (Bm 6 2 22)) 4 (Bm 6 2 4)) 5 (Bm 6 2 5)) 6 (Bm 6 2 6)) 7 (Bm 6 2 7)) 8 (Bm 6 2 8)) 9 (Bm 6 2 9)) 10 (Bm 6 2 10)) 11 (Bm 6 2 11))) 3 (up (up (up (up (up (up (up (up (up (up (up (up (Bm 0 3) 0 (Bm 6 3 0)) 1 (Bm 6 3 1)) 21 (Bm 6 3 21)) 22 (Bm 6 3 22)) 4 (Bm 6 3 4)) 5 (Bm 6 3 5)) 6 (Bm 6 3 6)) 7 (Bm 6 3 7)) 8 (Bm 6 3 8)) 9 (Bm 6 3 9)) 10 (Bm 6 3 10)) 11 (Bm 6 3 11)))) bk)) rfl ?_
  refine mB hT 40 rfl ?_
  refine mNf (lv2 := [(3, .int 17), (0, .ref 0), (1, .int 6), (2, .int 0)]) (st2 := [.int 233, .ref 7, .int 17, .ref 7]) rfl rfl ?_
  refine mB hT 40 rfl ?_
  refine mNf (lv2 := [(3, .int 19), (0, .ref 0), (1, .int 6), (2, .int 0)]) (st2 := [.int 216, .ref 7, .int 19, .ref 7]) rfl rfl ?_
  refine mB hT 40 rfl ?_
  refine mNf (lv2 := [(3, .int 21), (0, .ref 0), (1, .int 6), (2, .int 0)]) (st2 := [.int 36, .ref 7, .int 21, .ref 7]) rfl rfl ?_
  refine mB hT 40 rfl ?_
  refine mNf (lv2 := [(3, .int 23), (0, .ref 0), (1, .int 6), (2, .int 0)]) (st2 := [.ref 0, .int 23, .ref 7]) rfl rfl ?_
  refine mB hT 8 rfl ?_
  refine mWd (w2 := (MW n vs wo un h bo ta tr ro ot (up Bm 0 (up (up (up (up (Bm 0) 0 (up (up (up (up (up (up (up (up (up (up (up (up (up (up (up (up (up (up (up (up (up (Bm 0 0) 0 (Bm 6 0 0)) 1 (Bm 6 0 1)) 21 (Bm 6 0 21)) 22 (Bm 6 0 22)) 4 (Bm 6 0 4)) 5 (Bm 6 0 5)) 6 (Bm 6 0 6)) 7 (Bm 6 0 7)) 8 (Bm 6 0 8)) 9 (Bm 6 0 9)) 10 (Bm 6 0 10)) 11 (Bm 6 0 11)) 12 (Bm 6 0 12)) 13 (Bm 6 0 13)) 14 (Bm 6 0 14)) 15 (Bm 6 0 15)) 16 (Bm 6 0 16)) 17 (Bm 6 0 17)) 18 (Bm 6 0 18)) 19 (Bm 6 0 19)) 20 (Bm 6 0 20))) 1 (up (up (up (up (up (up (up (up (up (up (up (up (up (up (up (up (up (up (up (up (up (Bm 0 1) 0 (Bm 6 1 0)) 1 (Bm 6 1 1)) 21 (Bm 6 1 21)) 22 (Bm 6 1 22)) 4 (Bm 6 1 4)) 5 (Bm 6 1 5)) 6 (Bm 6 1 6)) 7 (Bm 6 1 7)) 8 (Bm 6 1 8)) 9 (Bm 6 1 9)) 10 (Bm 6 1 10)) 11 (Bm 6 1 11)) 12 (Bm 6 1 12)) 13 (Bm 6 1 13)) 14 (Bm 6 1 14)) 15 (Bm 6 1 15)) 16 (Bm 6 1 16)) 17 (Bm 6 1 17)) 18 (Bm 6 1 18)) 19 (Bm 6 1 19)) 20 (Bm 6 1 20))) 2 (up (up (up (up (up (up (up (up (up (up (up (up (up (up (up (up (up (up (Bm 0 2) 0 (Bm 6 2 0)) 1 (Bm 6 2 1)) 21 (Bm 6 2 21)) 22 (Bm 6 2 22)) 4 (Bm 6 2 4)) 5 (Bm 6 2 5)) 6 (Bm 6 2 6)) 7 (Bm 6 2 7)) 8 (Bm 6 2 8)) 9 (Bm 6 2 9)) 10 (Bm 6 2 10)) 11 (Bm 6 2 11)) 12 (Bm 6 2 12)) 13 (Bm 6 2 13)) 14 (Bm 6 2 14)) 15 (Bm 6 2 15)) 16 (Bm 6 2 16)) 17 (Bm 6 2 17))) 3 (up (up (up (up (up (up (up (up (up (up (up (up (Bm 0 3) 0 (Bm 6 3 0)) 1 (Bm 6 3 1)) 21 (Bm 6 3 21)) 22 (Bm 6 3 22)) 4 (Bm 6 3 4)) 5 (Bm 6 3 5)) 6 (Bm 6 3 6)) 7 (Bm 6 3 7)) 8 (Bm 6 3 8)) 9 (Bm 6 3 9)) 10 (Bm 6 3 10)) 11 (Bm 6 3 11)))) bk)) rfl ?_
  refine mB hT 40 rfl ?_
  refine mNf (lv2 := [(3, .int 25), (0, .ref 0), (1, .int 6), (2, .int 0)]) (st2 := [.int 241, .ref 7, .int 25, .ref 7]) rfl rfl ?_
  refine mB hT 40 rfl ?_
  refine mNf (lv2 := [(3, .int 27), (0, .ref 0), (1, .int 6), (2, .int 0)]) (st2 := [.int 216, .ref 7, .int 27, .ref 7]) rfl rfl ?_
  refine mB hT 40 rfl ?_
  refine mNf (lv2 := [(3, .int 29), (0, .ref 0), (1, .int 6), (2, .int 0)]) (st2 := [.int 36, .ref 7, .int 29, .ref 7]) rfl rfl ?_
  refine mB hT 40 rfl ?_
  refine mNf (lv2 := [(3, .int 31), (0, .ref 0), (1, .int 6), (2, .int 0)]) (st2 := [.ref 0, .int 31, .ref 7]) rfl rfl ?_
  refine mB hT 8 rfl ?_
  refine mWd (w2 := (MW n vs wo un h bo ta tr ro ot (up Bm 0 (up (up (up (up (Bm 0) 0 (up (up (up (up (up (up (up (up (up (up (up (up (up (up (up (up (up (up (up (up (up (Bm 0 0) 0 (Bm 6 0 0)) 1 (Bm 6 0 1)) 21 (Bm 6 0 21)) 22 (Bm 6 0 22)) 4 (Bm 6 0 4)) 5 (Bm 6 0 5)) 6 (Bm 6 0 6)) 7 (Bm 6 0 7)) 8 (Bm 6 0 8)) 9 (Bm 6 0 9)) 10 (Bm 6 0 10)) 11 (Bm 6 0 11)) 12 (Bm 6 0 12)) 13 (Bm 6 0 13)) 14 (Bm 6 0 14)) 15 (Bm 6 0 15)) 16 (Bm 6 0 16)) 17 (Bm 6 0 17)) 18 (Bm 6 0 18)) 19 (Bm 6 0 19)) 20 (Bm 6 0 20))) 1 (up (up (up (up (up (up (up (up (up (up (up (up (up (up (up (up (up (up (up (up (up (Bm 0 1) 0 (Bm 6 1 0)) 1 (Bm 6 1 1)) 21 (Bm 6 1 21)) 22 (Bm 6 1 22)) 4 (Bm 6 1 4)) 5 (Bm 6 1 5)) 6 (Bm 6 1 6)) 7 (Bm 6 1 7)) 8 (Bm 6 1 8)) 9 (Bm 6 1 9)) 10 (Bm 6 1 10)) 11 (Bm 6 1 11)) 12 (Bm 6 1 12)) 13 (Bm 6 1 13)) 14 (Bm 6 1 14)) 15 (Bm 6 1 15)) 16 (Bm 6 1 16)) 17 (Bm 6 1 17)) 18 (Bm 6 1 18)) 19 (Bm 6 1 19)) 20 (Bm 6 1 20))) 2 (up (up (up (up (up (up (up (up (up (up (up (up (up (up (up (up (up (up (up (up (up (Bm 0 2) 0 (Bm 6 2 0)) 1 (Bm 6 2 1)) 21 (Bm 6 2 21)) 22 (Bm 6 2 22)) 4 (Bm 6 2 4)) 5 (Bm 6 2 5)) 6 (Bm 6 2 6)) 7 (Bm 6 2 7)) 8 (Bm 6 2 8)) 9 (Bm 6 2 9)) 10 (Bm 6 2 10)) 11 (Bm 6 2 11)) 12 (Bm 6 2 12)) 13 (Bm 6 2 13)) 14 (Bm 6 2 14)) 15 (Bm 6 2 15)) 16 (Bm 6 2 16)) 17 (Bm 6 2 17)) 18 (Bm 6 2 18)) 19 (Bm 6 2 19)) 20 (Bm 6 2 20))) 3 (up (up (up (up (up (up (up (up (up (up (up (up (up (up (up (up (up (Bm 0 3) 0 (Bm 6 3 0)) 1 (Bm 6 3 1)) 21 (Bm 6 3 21)) 22 (Bm 6 3 22)) 4 (Bm 6 3 4)) 5 (Bm 6 3 5)) 6 (Bm 6 3 6)) 7 (Bm 6 3 7)) 8 (Bm 6 3 8)) 9 (Bm 6 3 9)) 10 (Bm 6 3 10)) 11 (Bm 6 3 11)) 12 (Bm 6 3 12)) 13 (Bm 6 3 13)) 14 (Bm 6 3 14)) 15 (Bm 6 3 15)) 16 (Bm 6 3 16)))) bk)) rfl ?_
  refine mB hT 40 rfl ?_
  refine mNf (lv2 := [(3, .int 33), (0, .ref 0), (1, .int 6), (2, .int 0)]) (st2 := [.int 249, .ref 7, .int 33, .ref 7]) rfl rfl ?_
  refine mB hT 40 rfl ?_
  refine mNf (lv2 := [(3, .int 35), (0, .ref 0), (1, .int 6), (2, .int 0)]) (st2 := [.int 216, .ref 7, .int 35, .ref 7]) rfl rfl ?_
  refine mB hT 9 rfl ?_
  exact hR _ (by decide) _ _ _ rfl rfl
set_option maxRecDepth 20000 in
theorem m_copy_6_1 {n vs : Int32} {wo un h : Int64} {bo : Nat → Int32} {ta tr ro ot : Nat → Int64} {Bm : Nat → Nat → Nat → Int32} {bk : Nat → Nat → Int32} : KX3_copy l D ca ad [.ref 0, .int 6, .int 1] (MW n vs wo un h bo ta tr ro ot Bm bk) none (MW n vs wo un h bo ta tr ro ot (up Bm 1 (Bm 6)) bk) := by
  refine PX3_copy (Nat.le_of_ble_eq_true rfl) ?_
  intro G hT hC hR
  refine mB hT 40 rfl ?_
  refine mB hT 40 rfl ?_
  refine mNf (lv2 := [(3, .int 1), (0, .ref 0), (1, .int 6), (2, .int 1)]) (st2 := [.int 1, .int 4, .ref 1]) rfl rfl ?_
  refine mB hT 40 rfl ?_
  refine mB hT 18 rfl ?_
  refine mWd (w2 := (MW n vs wo un h bo ta tr ro ot (up Bm 1 (up (up (Bm 1) 0 (up (up (up (up (Bm 1 0) 0 (Bm 6 0 0)) 1 (Bm 6 0 1)) 21 (Bm 6 0 21)) 22 (Bm 6 0 22))) 1 (up (up (up (up (Bm 1 1) 0 (Bm 6 1 0)) 1 (Bm 6 1 1)) 21 (Bm 6 1 21)) 22 (Bm 6 1 22)))) bk)) rfl ?_
  refine mB hT 40 rfl ?_
  refine mB hT 40 rfl ?_
  refine mNf (lv2 := [(3, .int 3), (0, .ref 0), (1, .int 6), (2, .int 1)]) (st2 := [.int 3, .int 4, .ref 1]) rfl rfl ?_
  refine mB hT 40 rfl ?_
  refine mB hT 18 rfl ?_
  refine mWd (w2 := (MW n vs wo un h bo ta tr ro ot (up Bm 1 (up (up (up (up (Bm 1) 0 (up (up (up (up (Bm 1 0) 0 (Bm 6 0 0)) 1 (Bm 6 0 1)) 21 (Bm 6 0 21)) 22 (Bm 6 0 22))) 1 (up (up (up (up (Bm 1 1) 0 (Bm 6 1 0)) 1 (Bm 6 1 1)) 21 (Bm 6 1 21)) 22 (Bm 6 1 22))) 2 (up (up (up (up (Bm 1 2) 0 (Bm 6 2 0)) 1 (Bm 6 2 1)) 21 (Bm 6 2 21)) 22 (Bm 6 2 22))) 3 (up (up (up (up (Bm 1 3) 0 (Bm 6 3 0)) 1 (Bm 6 3 1)) 21 (Bm 6 3 21)) 22 (Bm 6 3 22)))) bk)) rfl ?_
  refine mB hT 40 rfl ?_
  refine mNf (lv2 := [(3, .int 0), (0, .ref 0), (1, .int 6), (2, .int 1)]) (st2 := [.int 96, .ref 6, .int 16, .ref 6]) rfl rfl ?_
  refine mB hT 40 rfl ?_
  refine mNf (lv2 := [(3, .int 2), (0, .ref 0), (1, .int 6), (2, .int 1)]) (st2 := []) rfl rfl ?_
  refine mB hT 40 rfl ?_
  refine mB hT 33 rfl ?_
  refine mWd (w2 := (MW n vs wo un h bo ta tr ro ot (up Bm 1 (up (up (up (up (Bm 1) 0 (up (up (up (up (up (up (up (up (up (up (up (up (Bm 1 0) 0 (Bm 6 0 0)) 1 (Bm 6 0 1)) 21 (Bm 6 0 21)) 22 (Bm 6 0 22)) 4 (Bm 6 0 4)) 5 (Bm 6 0 5)) 6 (Bm 6 0 6)) 7 (Bm 6 0 7)) 8 (Bm 6 0 8)) 9 (Bm 6 0 9)) 10 (Bm 6 0 10)) 11 (Bm 6 0 11))) 1 (up (up (up (up (Bm 1 1) 0 (Bm 6 1 0)) 1 (Bm 6 1 1)) 21 (Bm 6 1 21)) 22 (Bm 6 1 22))) 2 (up (up (up (up (Bm 1 2) 0 (Bm 6 2 0)) 1 (Bm 6 2 1)) 21 (Bm 6 2 21)) 22 (Bm 6 2 22))) 3 (up (up (up (up (Bm 1 3) 0 (Bm 6 3 0)) 1 (Bm 6 3 1)) 21 (Bm 6 3 21)) 22 (Bm 6 3 22)))) bk)) rfl ?_
  refine mB hT 40 rfl ?_
  refine mNf (lv2 := [(3, .int 5), (0, .ref 0), (1, .int 6), (2, .int 1)]) (st2 := [.int 5]) rfl rfl ?_
  refine mB hT 40 rfl ?_
  refine mB hT 40 rfl ?_
  refine mNf (lv2 := [(3, .int 7), (0, .ref 0), (1, .int 6), (2, .int 1)]) (st2 := [.int 1, .int 16, .ref 5]) rfl rfl ?_
  refine mB hT 28 rfl ?_
  refine mWd (w2 := (MW n vs wo un h bo ta tr ro ot (up Bm 1 (up (up (up (up (Bm 1) 0 (up (up (up (up (up (up (up (up (up (up (up (up (Bm 1 0) 0 (Bm 6 0 0)) 1 (Bm 6 0 1)) 21 (Bm 6 0 21)) 22 (Bm 6 0 22)) 4 (Bm 6 0 4)) 5 (Bm 6 0 5)) 6 (Bm 6 0 6)) 7 (Bm 6 0 7)) 8 (Bm 6 0 8)) 9 (Bm 6 0 9)) 10 (Bm 6 0 10)) 11 (Bm 6 0 11))) 1 (up (up (up (up (up (up (up (up (up (up (up (up (Bm 1 1) 0 (Bm 6 1 0)) 1 (Bm 6 1 1)) 21 (Bm 6 1 21)) 22 (Bm 6 1 22)) 4 (Bm 6 1 4)) 5 (Bm 6 1 5)) 6 (Bm 6 1 6)) 7 (Bm 6 1 7)) 8 (Bm 6 1 8)) 9 (Bm 6 1 9)) 10 (Bm 6 1 10)) 11 (Bm 6 1 11))) 2 (up (up (up (up (Bm 1 2) 0 (Bm 6 2 0)) 1 (Bm 6 2 1)) 21 (Bm 6 2 21)) 22 (Bm 6 2 22))) 3 (up (up (up (up (Bm 1 3) 0 (Bm 6 3 0)) 1 (Bm 6 3 1)) 21 (Bm 6 3 21)) 22 (Bm 6 3 22)))) bk)) rfl ?_
  refine mB hT 40 rfl ?_
  refine mNf (lv2 := [(3, .int 9), (0, .ref 0), (1, .int 6), (2, .int 1)]) (st2 := [.int 9]) rfl rfl ?_
  refine mB hT 40 rfl ?_
  refine mB hT 40 rfl ?_
  refine mNf (lv2 := [(3, .int 11), (0, .ref 0), (1, .int 6), (2, .int 1)]) (st2 := [.int 1, .int 16, .ref 5]) rfl rfl ?_
  refine mB hT 28 rfl ?_
  refine mWd (w2 := (MW n vs wo un h bo ta tr ro ot (up Bm 1 (up (up (up (up (Bm 1) 0 (up (up (up (up (up (up (up (up (up (up (up (up (Bm 1 0) 0 (Bm 6 0 0)) 1 (Bm 6 0 1)) 21 (Bm 6 0 21)) 22 (Bm 6 0 22)) 4 (Bm 6 0 4)) 5 (Bm 6 0 5)) 6 (Bm 6 0 6)) 7 (Bm 6 0 7)) 8 (Bm 6 0 8)) 9 (Bm 6 0 9)) 10 (Bm 6 0 10)) 11 (Bm 6 0 11))) 1 (up (up (up (up (up (up (up (up (up (up (up (up (Bm 1 1) 0 (Bm 6 1 0)) 1 (Bm 6 1 1)) 21 (Bm 6 1 21)) 22 (Bm 6 1 22)) 4 (Bm 6 1 4)) 5 (Bm 6 1 5)) 6 (Bm 6 1 6)) 7 (Bm 6 1 7)) 8 (Bm 6 1 8)) 9 (Bm 6 1 9)) 10 (Bm 6 1 10)) 11 (Bm 6 1 11))) 2 (up (up (up (up (up (up (up (up (up (up (up (up (Bm 1 2) 0 (Bm 6 2 0)) 1 (Bm 6 2 1)) 21 (Bm 6 2 21)) 22 (Bm 6 2 22)) 4 (Bm 6 2 4)) 5 (Bm 6 2 5)) 6 (Bm 6 2 6)) 7 (Bm 6 2 7)) 8 (Bm 6 2 8)) 9 (Bm 6 2 9)) 10 (Bm 6 2 10)) 11 (Bm 6 2 11))) 3 (up (up (up (up (Bm 1 3) 0 (Bm 6 3 0)) 1 (Bm 6 3 1)) 21 (Bm 6 3 21)) 22 (Bm 6 3 22)))) bk)) rfl ?_
  refine mB hT 40 rfl ?_
  refine mNf (lv2 := [(3, .int 13), (0, .ref 0), (1, .int 6), (2, .int 1)]) (st2 := [.int 13]) rfl rfl ?_
  refine mB hT 40 rfl ?_
  refine mB hT 40 rfl ?_
  refine mNf (lv2 := [(3, .int 15), (0, .ref 0), (1, .int 6), (2, .int 1)]) (st2 := [.int 1, .int 16, .ref 5]) rfl rfl ?_
  refine mB hT 28 rfl ?_
  refine mWd (w2 := (MW n vs wo un h bo ta tr ro ot (up Bm 1 (up (up (up (up (Bm 1) 0 (up (up (up (up (up (up (up (up (up (up (up (up (Bm 1 0) 0 (Bm 6 0 0)) 1 (Bm 6 0 1)) 21 (Bm 6 0 21)) 22 (Bm 6 0 22)) 4 (Bm 6 0 4)) 5 (Bm 6 0 5)) 6 (Bm 6 0 6)) 7 (Bm 6 0 7)) 8 (Bm 6 0 8)) 9 (Bm 6 0 9)) 10 (Bm 6 0 10)) 11 (Bm 6 0 11))) 1 (up (up (up (up (up (up (up (up (up (up (up (up (Bm 1 1) 0 (Bm 6 1 0)) 1 (Bm 6 1 1)) 21 (Bm 6 1 21)) 22 (Bm 6 1 22)) 4 (Bm 6 1 4)) 5 (Bm 6 1 5)) 6 (Bm 6 1 6)) 7 (Bm 6 1 7)) 8 (Bm 6 1 8)) 9 (Bm 6 1 9)) 10 (Bm 6 1 10)) 11 (Bm 6 1 11))) 2 (up (up (up (up (up (up (up (up (up (up (up (up (Bm 1 2) 0 (Bm 6 2 0)) 1 (Bm 6 2 1)) 21 (Bm 6 2 21)) 22 (Bm 6 2 22)) 4 (Bm 6 2 4)) 5 (Bm 6 2 5)) 6 (Bm 6 2 6)) 7 (Bm 6 2 7)) 8 (Bm 6 2 8)) 9 (Bm 6 2 9)) 10 (Bm 6 2 10)) 11 (Bm 6 2 11))) 3 (up (up (up (up (up (up (up (up (up (up (up (up (Bm 1 3) 0 (Bm 6 3 0)) 1 (Bm 6 3 1)) 21 (Bm 6 3 21)) 22 (Bm 6 3 22)) 4 (Bm 6 3 4)) 5 (Bm 6 3 5)) 6 (Bm 6 3 6)) 7 (Bm 6 3 7)) 8 (Bm 6 3 8)) 9 (Bm 6 3 9)) 10 (Bm 6 3 10)) 11 (Bm 6 3 11)))) bk)) rfl ?_
  refine mB hT 40 rfl ?_
  refine mNf (lv2 := [(3, .int 1), (0, .ref 0), (1, .int 6), (2, .int 1)]) (st2 := [.ref 7, .int 37, .ref 7]) rfl rfl ?_
  refine mB hT 40 rfl ?_
  refine mNf (lv2 := [(3, .int 3), (0, .ref 0), (1, .int 6), (2, .int 1)]) (st2 := [.int 39, .ref 7]) rfl rfl ?_
  refine mB hT 40 rfl ?_
  refine mNf (lv2 := [(3, .int 5), (0, .ref 0), (1, .int 6), (2, .int 1)]) (st2 := [.int 36, .ref 7]) rfl rfl ?_
  refine mB hT 40 rfl ?_
  refine mNf (lv2 := [(3, .int 7), (0, .ref 0), (1, .int 6), (2, .int 1)]) (st2 := [.int 36, .ref 7]) rfl rfl ?_
  refine mB hT 13 rfl ?_
  refine mWd (w2 := (MW n vs wo un h bo ta tr ro ot (up Bm 1 (up (up (up (up (Bm 1) 0 (up (up (up (up (up (up (up (up (up (up (up (up (up (up (up (up (up (up (up (up (Bm 1 0) 0 (Bm 6 0 0)) 1 (Bm 6 0 1)) 21 (Bm 6 0 21)) 22 (Bm 6 0 22)) 4 (Bm 6 0 4)) 5 (Bm 6 0 5)) 6 (Bm 6 0 6)) 7 (Bm 6 0 7)) 8 (Bm 6 0 8)) 9 (Bm 6 0 9)) 10 (Bm 6 0 10)) 11 (Bm 6 0 11)) 12 (Bm 6 0 12)) 13 (Bm 6 0 13)) 14 (Bm 6 0 14)) 15 (Bm 6 0 15)) 16 (Bm 6 0 16)) 17 (Bm 6 0 17)) 18 (Bm 6 0 18)) 19 (Bm 6 0 19))) 1 (up (up (up (up (up (up (up (up (up (up (up (up (Bm 1 1) 0 (Bm 6 1 0)) 1 (Bm 6 1 1)) 21 (Bm 6 1 21)) 22 (Bm 6 1 22)) 4 (Bm 6 1 4)) 5 (Bm 6 1 5)) 6 (Bm 6 1 6)) 7 (Bm 6 1 7)) 8 (Bm 6 1 8)) 9 (Bm 6 1 9)) 10 (Bm 6 1 10)) 11 (Bm 6 1 11))) 2 (up (up (up (up (up (up (up (up (up (up (up (up (Bm 1 2) 0 (Bm 6 2 0)) 1 (Bm 6 2 1)) 21 (Bm 6 2 21)) 22 (Bm 6 2 22)) 4 (Bm 6 2 4)) 5 (Bm 6 2 5)) 6 (Bm 6 2 6)) 7 (Bm 6 2 7)) 8 (Bm 6 2 8)) 9 (Bm 6 2 9)) 10 (Bm 6 2 10)) 11 (Bm 6 2 11))) 3 (up (up (up (up (up (up (up (up (up (up (up (up (Bm 1 3) 0 (Bm 6 3 0)) 1 (Bm 6 3 1)) 21 (Bm 6 3 21)) 22 (Bm 6 3 22)) 4 (Bm 6 3 4)) 5 (Bm 6 3 5)) 6 (Bm 6 3 6)) 7 (Bm 6 3 7)) 8 (Bm 6 3 8)) 9 (Bm 6 3 9)) 10 (Bm 6 3 10)) 11 (Bm 6 3 11)))) bk)) rfl ?_
  refine mB hT 40 rfl ?_
  refine mNf (lv2 := [(3, .int 9), (0, .ref 0), (1, .int 6), (2, .int 1)]) (st2 := [.int 225, .ref 7, .int 45, .ref 7]) rfl rfl ?_
  refine mB hT 40 rfl ?_
  refine mNf (lv2 := [(3, .int 11), (0, .ref 0), (1, .int 6), (2, .int 1)]) (st2 := [.int 216, .ref 7, .int 47, .ref 7]) rfl rfl ?_
  refine mB hT 40 rfl ?_
  refine mNf (lv2 := [(3, .int 13), (0, .ref 0), (1, .int 6), (2, .int 1)]) (st2 := [.int 36, .ref 7, .int 49, .ref 7]) rfl rfl ?_
  refine mB hT 40 rfl ?_
  refine mNf (lv2 := [(3, .int 15), (0, .ref 0), (1, .int 6), (2, .int 1)]) (st2 := [.ref 0, .int 51, .ref 7]) rfl rfl ?_
  refine mB hT 8 rfl ?_
  refine mWd (w2 := (MW n vs wo un h bo ta tr ro ot (up Bm 1 (up (up (up (up (Bm 1) 0 (up (up (up (up (up (up (up (up (up (up (up (up (up (up (up (up (up (up (up (up (up (Bm 1 0) 0 (Bm 6 0 0)) 1 (Bm 6 0 1)) 21 (Bm 6 0 21)) 22 (Bm 6 0 22)) 4 (Bm 6 0 4)) 5 (Bm 6 0 5)) 6 (Bm 6 0 6)) 7 (Bm 6 0 7)) 8 (Bm 6 0 8)) 9 (Bm 6 0 9)) 10 (Bm 6 0 10)) 11 (Bm 6 0 11)) 12 (Bm 6 0 12)) 13 (Bm 6 0 13)) 14 (Bm 6 0 14)) 15 (Bm 6 0 15)) 16 (Bm 6 0 16)) 17 (Bm 6 0 17)) 18 (Bm 6 0 18)) 19 (Bm 6 0 19)) 20 (Bm 6 0 20))) 1 (up (up (up (up (up (up (up (up (up (up (up (up (up (up (up (up (up (up (up (Bm 1 1) 0 (Bm 6 1 0)) 1 (Bm 6 1 1)) 21 (Bm 6 1 21)) 22 (Bm 6 1 22)) 4 (Bm 6 1 4)) 5 (Bm 6 1 5)) 6 (Bm 6 1 6)) 7 (Bm 6 1 7)) 8 (Bm 6 1 8)) 9 (Bm 6 1 9)) 10 (Bm 6 1 10)) 11 (Bm 6 1 11)) 12 (Bm 6 1 12)) 13 (Bm 6 1 13)) 14 (Bm 6 1 14)) 15 (Bm 6 1 15)) 16 (Bm 6 1 16)) 17 (Bm 6 1 17)) 18 (Bm 6 1 18))) 2 (up (up (up (up (up (up (up (up (up (up (up (up (Bm 1 2) 0 (Bm 6 2 0)) 1 (Bm 6 2 1)) 21 (Bm 6 2 21)) 22 (Bm 6 2 22)) 4 (Bm 6 2 4)) 5 (Bm 6 2 5)) 6 (Bm 6 2 6)) 7 (Bm 6 2 7)) 8 (Bm 6 2 8)) 9 (Bm 6 2 9)) 10 (Bm 6 2 10)) 11 (Bm 6 2 11))) 3 (up (up (up (up (up (up (up (up (up (up (up (up (Bm 1 3) 0 (Bm 6 3 0)) 1 (Bm 6 3 1)) 21 (Bm 6 3 21)) 22 (Bm 6 3 22)) 4 (Bm 6 3 4)) 5 (Bm 6 3 5)) 6 (Bm 6 3 6)) 7 (Bm 6 3 7)) 8 (Bm 6 3 8)) 9 (Bm 6 3 9)) 10 (Bm 6 3 10)) 11 (Bm 6 3 11)))) bk)) rfl ?_
  refine mB hT 40 rfl ?_
  refine mNf (lv2 := [(3, .int 17), (0, .ref 0), (1, .int 6), (2, .int 1)]) (st2 := [.int 233, .ref 7, .int 53, .ref 7]) rfl rfl ?_
  refine mB hT 40 rfl ?_
  refine mNf (lv2 := [(3, .int 19), (0, .ref 0), (1, .int 6), (2, .int 1)]) (st2 := [.int 216, .ref 7, .int 55, .ref 7]) rfl rfl ?_
  refine mB hT 40 rfl ?_
  refine mNf (lv2 := [(3, .int 21), (0, .ref 0), (1, .int 6), (2, .int 1)]) (st2 := [.int 36, .ref 7, .int 57, .ref 7]) rfl rfl ?_
  refine mB hT 40 rfl ?_
  refine mNf (lv2 := [(3, .int 23), (0, .ref 0), (1, .int 6), (2, .int 1)]) (st2 := [.ref 0, .int 59, .ref 7]) rfl rfl ?_
  refine mB hT 8 rfl ?_
  refine mWd (w2 := (MW n vs wo un h bo ta tr ro ot (up Bm 1 (up (up (up (up (Bm 1) 0 (up (up (up (up (up (up (up (up (up (up (up (up (up (up (up (up (up (up (up (up (up (Bm 1 0) 0 (Bm 6 0 0)) 1 (Bm 6 0 1)) 21 (Bm 6 0 21)) 22 (Bm 6 0 22)) 4 (Bm 6 0 4)) 5 (Bm 6 0 5)) 6 (Bm 6 0 6)) 7 (Bm 6 0 7)) 8 (Bm 6 0 8)) 9 (Bm 6 0 9)) 10 (Bm 6 0 10)) 11 (Bm 6 0 11)) 12 (Bm 6 0 12)) 13 (Bm 6 0 13)) 14 (Bm 6 0 14)) 15 (Bm 6 0 15)) 16 (Bm 6 0 16)) 17 (Bm 6 0 17)) 18 (Bm 6 0 18)) 19 (Bm 6 0 19)) 20 (Bm 6 0 20))) 1 (up (up (up (up (up (up (up (up (up (up (up (up (up (up (up (up (up (up (up (up (up (Bm 1 1) 0 (Bm 6 1 0)) 1 (Bm 6 1 1)) 21 (Bm 6 1 21)) 22 (Bm 6 1 22)) 4 (Bm 6 1 4)) 5 (Bm 6 1 5)) 6 (Bm 6 1 6)) 7 (Bm 6 1 7)) 8 (Bm 6 1 8)) 9 (Bm 6 1 9)) 10 (Bm 6 1 10)) 11 (Bm 6 1 11)) 12 (Bm 6 1 12)) 13 (Bm 6 1 13)) 14 (Bm 6 1 14)) 15 (Bm 6 1 15)) 16 (Bm 6 1 16)) 17 (Bm 6 1 17)) 18 (Bm 6 1 18)) 19 (Bm 6 1 19)) 20 (Bm 6 1 20))) 2 (up (up (up (up (up (up (up (up (up (up (up (up (up (up (up (up (up (up (Bm 1 2) 0 (Bm 6 2 0)) 1 (Bm 6 2 1)) 21 (Bm 6 2 21)) 22 (Bm 6 2 22)) 4 (Bm 6 2 4)) 5 (Bm 6 2 5)) 6 (Bm 6 2 6)) 7 (Bm 6 2 7)) 8 (Bm 6 2 8)) 9 (Bm 6 2 9)) 10 (Bm 6 2 10)) 11 (Bm 6 2 11)) 12 (Bm 6 2 12)) 13 (Bm 6 2 13)) 14 (Bm 6 2 14)) 15 (Bm 6 2 15)) 16 (Bm 6 2 16)) 17 (Bm 6 2 17))) 3 (up (up (up (up (up (up (up (up (up (up (up (up (Bm 1 3) 0 (Bm 6 3 0)) 1 (Bm 6 3 1)) 21 (Bm 6 3 21)) 22 (Bm 6 3 22)) 4 (Bm 6 3 4)) 5 (Bm 6 3 5)) 6 (Bm 6 3 6)) 7 (Bm 6 3 7)) 8 (Bm 6 3 8)) 9 (Bm 6 3 9)) 10 (Bm 6 3 10)) 11 (Bm 6 3 11)))) bk)) rfl ?_
  refine mB hT 40 rfl ?_
  refine mNf (lv2 := [(3, .int 25), (0, .ref 0), (1, .int 6), (2, .int 1)]) (st2 := [.int 241, .ref 7, .int 61, .ref 7]) rfl rfl ?_
  refine mB hT 40 rfl ?_
  refine mNf (lv2 := [(3, .int 27), (0, .ref 0), (1, .int 6), (2, .int 1)]) (st2 := [.int 216, .ref 7, .int 63, .ref 7]) rfl rfl ?_
  refine mB hT 40 rfl ?_
  refine mNf (lv2 := [(3, .int 29), (0, .ref 0), (1, .int 6), (2, .int 1)]) (st2 := [.int 36, .ref 7, .int 65, .ref 7]) rfl rfl ?_
  refine mB hT 40 rfl ?_
  refine mNf (lv2 := [(3, .int 31), (0, .ref 0), (1, .int 6), (2, .int 1)]) (st2 := [.ref 0, .int 67, .ref 7]) rfl rfl ?_
  refine mB hT 8 rfl ?_
  refine mWd (w2 := (MW n vs wo un h bo ta tr ro ot (up Bm 1 (up (up (up (up (Bm 1) 0 (up (up (up (up (up (up (up (up (up (up (up (up (up (up (up (up (up (up (up (up (up (Bm 1 0) 0 (Bm 6 0 0)) 1 (Bm 6 0 1)) 21 (Bm 6 0 21)) 22 (Bm 6 0 22)) 4 (Bm 6 0 4)) 5 (Bm 6 0 5)) 6 (Bm 6 0 6)) 7 (Bm 6 0 7)) 8 (Bm 6 0 8)) 9 (Bm 6 0 9)) 10 (Bm 6 0 10)) 11 (Bm 6 0 11)) 12 (Bm 6 0 12)) 13 (Bm 6 0 13)) 14 (Bm 6 0 14)) 15 (Bm 6 0 15)) 16 (Bm 6 0 16)) 17 (Bm 6 0 17)) 18 (Bm 6 0 18)) 19 (Bm 6 0 19)) 20 (Bm 6 0 20))) 1 (up (up (up (up (up (up (up (up (up (up (up (up (up (up (up (up (up (up (up (up (up (Bm 1 1) 0 (Bm 6 1 0)) 1 (Bm 6 1 1)) 21 (Bm 6 1 21)) 22 (Bm 6 1 22)) 4 (Bm 6 1 4)) 5 (Bm 6 1 5)) 6 (Bm 6 1 6)) 7 (Bm 6 1 7)) 8 (Bm 6 1 8)) 9 (Bm 6 1 9)) 10 (Bm 6 1 10)) 11 (Bm 6 1 11)) 12 (Bm 6 1 12)) 13 (Bm 6 1 13)) 14 (Bm 6 1 14)) 15 (Bm 6 1 15)) 16 (Bm 6 1 16)) 17 (Bm 6 1 17)) 18 (Bm 6 1 18)) 19 (Bm 6 1 19)) 20 (Bm 6 1 20))) 2 (up (up (up (up (up (up (up (up (up (up (up (up (up (up (up (up (up (up (up (up (up (Bm 1 2) 0 (Bm 6 2 0)) 1 (Bm 6 2 1)) 21 (Bm 6 2 21)) 22 (Bm 6 2 22)) 4 (Bm 6 2 4)) 5 (Bm 6 2 5)) 6 (Bm 6 2 6)) 7 (Bm 6 2 7)) 8 (Bm 6 2 8)) 9 (Bm 6 2 9)) 10 (Bm 6 2 10)) 11 (Bm 6 2 11)) 12 (Bm 6 2 12)) 13 (Bm 6 2 13)) 14 (Bm 6 2 14)) 15 (Bm 6 2 15)) 16 (Bm 6 2 16)) 17 (Bm 6 2 17)) 18 (Bm 6 2 18)) 19 (Bm 6 2 19)) 20 (Bm 6 2 20))) 3 (up (up (up (up (up (up (up (up (up (up (up (up (up (up (up (up (up (Bm 1 3) 0 (Bm 6 3 0)) 1 (Bm 6 3 1)) 21 (Bm 6 3 21)) 22 (Bm 6 3 22)) 4 (Bm 6 3 4)) 5 (Bm 6 3 5)) 6 (Bm 6 3 6)) 7 (Bm 6 3 7)) 8 (Bm 6 3 8)) 9 (Bm 6 3 9)) 10 (Bm 6 3 10)) 11 (Bm 6 3 11)) 12 (Bm 6 3 12)) 13 (Bm 6 3 13)) 14 (Bm 6 3 14)) 15 (Bm 6 3 15)) 16 (Bm 6 3 16)))) bk)) rfl ?_
  refine mB hT 40 rfl ?_
  refine mNf (lv2 := [(3, .int 33), (0, .ref 0), (1, .int 6), (2, .int 1)]) (st2 := [.int 249, .ref 7, .int 69, .ref 7]) rfl rfl ?_
  refine mB hT 40 rfl ?_
  refine mNf (lv2 := [(3, .int 35), (0, .ref 0), (1, .int 6), (2, .int 1)]) (st2 := [.int 216, .ref 7, .int 71, .ref 7]) rfl rfl ?_
  refine mB hT 9 rfl ?_
  exact hR _ (by decide) _ _ _ rfl rfl
set_option maxRecDepth 20000 in
theorem m_copy_6_2 {n vs : Int32} {wo un h : Int64} {bo : Nat → Int32} {ta tr ro ot : Nat → Int64} {Bm : Nat → Nat → Nat → Int32} {bk : Nat → Nat → Int32} : KX3_copy l D ca ad [.ref 0, .int 6, .int 2] (MW n vs wo un h bo ta tr ro ot Bm bk) none (MW n vs wo un h bo ta tr ro ot (up Bm 2 (Bm 6)) bk) := by
  refine PX3_copy (Nat.le_of_ble_eq_true rfl) ?_
  intro G hT hC hR
  refine mB hT 40 rfl ?_
  refine mB hT 40 rfl ?_
  refine mNf (lv2 := [(3, .int 1), (0, .ref 0), (1, .int 6), (2, .int 2)]) (st2 := [.int 1, .int 8, .ref 1]) rfl rfl ?_
  refine mB hT 40 rfl ?_
  refine mB hT 18 rfl ?_
  refine mWd (w2 := (MW n vs wo un h bo ta tr ro ot (up Bm 2 (up (up (Bm 2) 0 (up (up (up (up (Bm 2 0) 0 (Bm 6 0 0)) 1 (Bm 6 0 1)) 21 (Bm 6 0 21)) 22 (Bm 6 0 22))) 1 (up (up (up (up (Bm 2 1) 0 (Bm 6 1 0)) 1 (Bm 6 1 1)) 21 (Bm 6 1 21)) 22 (Bm 6 1 22)))) bk)) rfl ?_
  refine mB hT 40 rfl ?_
  refine mB hT 40 rfl ?_
  refine mNf (lv2 := [(3, .int 3), (0, .ref 0), (1, .int 6), (2, .int 2)]) (st2 := [.int 3, .int 8, .ref 1]) rfl rfl ?_
  refine mB hT 40 rfl ?_
  refine mB hT 18 rfl ?_
  refine mWd (w2 := (MW n vs wo un h bo ta tr ro ot (up Bm 2 (up (up (up (up (Bm 2) 0 (up (up (up (up (Bm 2 0) 0 (Bm 6 0 0)) 1 (Bm 6 0 1)) 21 (Bm 6 0 21)) 22 (Bm 6 0 22))) 1 (up (up (up (up (Bm 2 1) 0 (Bm 6 1 0)) 1 (Bm 6 1 1)) 21 (Bm 6 1 21)) 22 (Bm 6 1 22))) 2 (up (up (up (up (Bm 2 2) 0 (Bm 6 2 0)) 1 (Bm 6 2 1)) 21 (Bm 6 2 21)) 22 (Bm 6 2 22))) 3 (up (up (up (up (Bm 2 3) 0 (Bm 6 3 0)) 1 (Bm 6 3 1)) 21 (Bm 6 3 21)) 22 (Bm 6 3 22)))) bk)) rfl ?_
  refine mB hT 40 rfl ?_
  refine mNf (lv2 := [(3, .int 0), (0, .ref 0), (1, .int 6), (2, .int 2)]) (st2 := [.int 96, .ref 6, .int 32, .ref 6]) rfl rfl ?_
  refine mB hT 40 rfl ?_
  refine mNf (lv2 := [(3, .int 2), (0, .ref 0), (1, .int 6), (2, .int 2)]) (st2 := []) rfl rfl ?_
  refine mB hT 40 rfl ?_
  refine mB hT 33 rfl ?_
  refine mWd (w2 := (MW n vs wo un h bo ta tr ro ot (up Bm 2 (up (up (up (up (Bm 2) 0 (up (up (up (up (up (up (up (up (up (up (up (up (Bm 2 0) 0 (Bm 6 0 0)) 1 (Bm 6 0 1)) 21 (Bm 6 0 21)) 22 (Bm 6 0 22)) 4 (Bm 6 0 4)) 5 (Bm 6 0 5)) 6 (Bm 6 0 6)) 7 (Bm 6 0 7)) 8 (Bm 6 0 8)) 9 (Bm 6 0 9)) 10 (Bm 6 0 10)) 11 (Bm 6 0 11))) 1 (up (up (up (up (Bm 2 1) 0 (Bm 6 1 0)) 1 (Bm 6 1 1)) 21 (Bm 6 1 21)) 22 (Bm 6 1 22))) 2 (up (up (up (up (Bm 2 2) 0 (Bm 6 2 0)) 1 (Bm 6 2 1)) 21 (Bm 6 2 21)) 22 (Bm 6 2 22))) 3 (up (up (up (up (Bm 2 3) 0 (Bm 6 3 0)) 1 (Bm 6 3 1)) 21 (Bm 6 3 21)) 22 (Bm 6 3 22)))) bk)) rfl ?_
  refine mB hT 40 rfl ?_
  refine mNf (lv2 := [(3, .int 5), (0, .ref 0), (1, .int 6), (2, .int 2)]) (st2 := [.int 5]) rfl rfl ?_
  refine mB hT 40 rfl ?_
  refine mB hT 40 rfl ?_
  refine mNf (lv2 := [(3, .int 7), (0, .ref 0), (1, .int 6), (2, .int 2)]) (st2 := [.int 2, .int 16, .ref 5]) rfl rfl ?_
  refine mB hT 28 rfl ?_
  refine mWd (w2 := (MW n vs wo un h bo ta tr ro ot (up Bm 2 (up (up (up (up (Bm 2) 0 (up (up (up (up (up (up (up (up (up (up (up (up (Bm 2 0) 0 (Bm 6 0 0)) 1 (Bm 6 0 1)) 21 (Bm 6 0 21)) 22 (Bm 6 0 22)) 4 (Bm 6 0 4)) 5 (Bm 6 0 5)) 6 (Bm 6 0 6)) 7 (Bm 6 0 7)) 8 (Bm 6 0 8)) 9 (Bm 6 0 9)) 10 (Bm 6 0 10)) 11 (Bm 6 0 11))) 1 (up (up (up (up (up (up (up (up (up (up (up (up (Bm 2 1) 0 (Bm 6 1 0)) 1 (Bm 6 1 1)) 21 (Bm 6 1 21)) 22 (Bm 6 1 22)) 4 (Bm 6 1 4)) 5 (Bm 6 1 5)) 6 (Bm 6 1 6)) 7 (Bm 6 1 7)) 8 (Bm 6 1 8)) 9 (Bm 6 1 9)) 10 (Bm 6 1 10)) 11 (Bm 6 1 11))) 2 (up (up (up (up (Bm 2 2) 0 (Bm 6 2 0)) 1 (Bm 6 2 1)) 21 (Bm 6 2 21)) 22 (Bm 6 2 22))) 3 (up (up (up (up (Bm 2 3) 0 (Bm 6 3 0)) 1 (Bm 6 3 1)) 21 (Bm 6 3 21)) 22 (Bm 6 3 22)))) bk)) rfl ?_
  refine mB hT 40 rfl ?_
  refine mNf (lv2 := [(3, .int 9), (0, .ref 0), (1, .int 6), (2, .int 2)]) (st2 := [.int 9]) rfl rfl ?_
  refine mB hT 40 rfl ?_
  refine mB hT 40 rfl ?_
  refine mNf (lv2 := [(3, .int 11), (0, .ref 0), (1, .int 6), (2, .int 2)]) (st2 := [.int 2, .int 16, .ref 5]) rfl rfl ?_
  refine mB hT 28 rfl ?_
  refine mWd (w2 := (MW n vs wo un h bo ta tr ro ot (up Bm 2 (up (up (up (up (Bm 2) 0 (up (up (up (up (up (up (up (up (up (up (up (up (Bm 2 0) 0 (Bm 6 0 0)) 1 (Bm 6 0 1)) 21 (Bm 6 0 21)) 22 (Bm 6 0 22)) 4 (Bm 6 0 4)) 5 (Bm 6 0 5)) 6 (Bm 6 0 6)) 7 (Bm 6 0 7)) 8 (Bm 6 0 8)) 9 (Bm 6 0 9)) 10 (Bm 6 0 10)) 11 (Bm 6 0 11))) 1 (up (up (up (up (up (up (up (up (up (up (up (up (Bm 2 1) 0 (Bm 6 1 0)) 1 (Bm 6 1 1)) 21 (Bm 6 1 21)) 22 (Bm 6 1 22)) 4 (Bm 6 1 4)) 5 (Bm 6 1 5)) 6 (Bm 6 1 6)) 7 (Bm 6 1 7)) 8 (Bm 6 1 8)) 9 (Bm 6 1 9)) 10 (Bm 6 1 10)) 11 (Bm 6 1 11))) 2 (up (up (up (up (up (up (up (up (up (up (up (up (Bm 2 2) 0 (Bm 6 2 0)) 1 (Bm 6 2 1)) 21 (Bm 6 2 21)) 22 (Bm 6 2 22)) 4 (Bm 6 2 4)) 5 (Bm 6 2 5)) 6 (Bm 6 2 6)) 7 (Bm 6 2 7)) 8 (Bm 6 2 8)) 9 (Bm 6 2 9)) 10 (Bm 6 2 10)) 11 (Bm 6 2 11))) 3 (up (up (up (up (Bm 2 3) 0 (Bm 6 3 0)) 1 (Bm 6 3 1)) 21 (Bm 6 3 21)) 22 (Bm 6 3 22)))) bk)) rfl ?_
  refine mB hT 40 rfl ?_
  refine mNf (lv2 := [(3, .int 13), (0, .ref 0), (1, .int 6), (2, .int 2)]) (st2 := [.int 13]) rfl rfl ?_
  refine mB hT 40 rfl ?_
  refine mB hT 40 rfl ?_
  refine mNf (lv2 := [(3, .int 15), (0, .ref 0), (1, .int 6), (2, .int 2)]) (st2 := [.int 2, .int 16, .ref 5]) rfl rfl ?_
  refine mB hT 28 rfl ?_
  refine mWd (w2 := (MW n vs wo un h bo ta tr ro ot (up Bm 2 (up (up (up (up (Bm 2) 0 (up (up (up (up (up (up (up (up (up (up (up (up (Bm 2 0) 0 (Bm 6 0 0)) 1 (Bm 6 0 1)) 21 (Bm 6 0 21)) 22 (Bm 6 0 22)) 4 (Bm 6 0 4)) 5 (Bm 6 0 5)) 6 (Bm 6 0 6)) 7 (Bm 6 0 7)) 8 (Bm 6 0 8)) 9 (Bm 6 0 9)) 10 (Bm 6 0 10)) 11 (Bm 6 0 11))) 1 (up (up (up (up (up (up (up (up (up (up (up (up (Bm 2 1) 0 (Bm 6 1 0)) 1 (Bm 6 1 1)) 21 (Bm 6 1 21)) 22 (Bm 6 1 22)) 4 (Bm 6 1 4)) 5 (Bm 6 1 5)) 6 (Bm 6 1 6)) 7 (Bm 6 1 7)) 8 (Bm 6 1 8)) 9 (Bm 6 1 9)) 10 (Bm 6 1 10)) 11 (Bm 6 1 11))) 2 (up (up (up (up (up (up (up (up (up (up (up (up (Bm 2 2) 0 (Bm 6 2 0)) 1 (Bm 6 2 1)) 21 (Bm 6 2 21)) 22 (Bm 6 2 22)) 4 (Bm 6 2 4)) 5 (Bm 6 2 5)) 6 (Bm 6 2 6)) 7 (Bm 6 2 7)) 8 (Bm 6 2 8)) 9 (Bm 6 2 9)) 10 (Bm 6 2 10)) 11 (Bm 6 2 11))) 3 (up (up (up (up (up (up (up (up (up (up (up (up (Bm 2 3) 0 (Bm 6 3 0)) 1 (Bm 6 3 1)) 21 (Bm 6 3 21)) 22 (Bm 6 3 22)) 4 (Bm 6 3 4)) 5 (Bm 6 3 5)) 6 (Bm 6 3 6)) 7 (Bm 6 3 7)) 8 (Bm 6 3 8)) 9 (Bm 6 3 9)) 10 (Bm 6 3 10)) 11 (Bm 6 3 11)))) bk)) rfl ?_
  refine mB hT 40 rfl ?_
  refine mNf (lv2 := [(3, .int 1), (0, .ref 0), (1, .int 6), (2, .int 2)]) (st2 := [.ref 7, .int 73, .ref 7]) rfl rfl ?_
  refine mB hT 40 rfl ?_
  refine mNf (lv2 := [(3, .int 3), (0, .ref 0), (1, .int 6), (2, .int 2)]) (st2 := [.int 75, .ref 7]) rfl rfl ?_
  refine mB hT 40 rfl ?_
  refine mNf (lv2 := [(3, .int 5), (0, .ref 0), (1, .int 6), (2, .int 2)]) (st2 := [.int 72, .ref 7]) rfl rfl ?_
  refine mB hT 40 rfl ?_
  refine mNf (lv2 := [(3, .int 7), (0, .ref 0), (1, .int 6), (2, .int 2)]) (st2 := [.int 36, .ref 7]) rfl rfl ?_
  refine mB hT 13 rfl ?_
  refine mWd (w2 := (MW n vs wo un h bo ta tr ro ot (up Bm 2 (up (up (up (up (Bm 2) 0 (up (up (up (up (up (up (up (up (up (up (up (up (up (up (up (up (up (up (up (up (Bm 2 0) 0 (Bm 6 0 0)) 1 (Bm 6 0 1)) 21 (Bm 6 0 21)) 22 (Bm 6 0 22)) 4 (Bm 6 0 4)) 5 (Bm 6 0 5)) 6 (Bm 6 0 6)) 7 (Bm 6 0 7)) 8 (Bm 6 0 8)) 9 (Bm 6 0 9)) 10 (Bm 6 0 10)) 11 (Bm 6 0 11)) 12 (Bm 6 0 12)) 13 (Bm 6 0 13)) 14 (Bm 6 0 14)) 15 (Bm 6 0 15)) 16 (Bm 6 0 16)) 17 (Bm 6 0 17)) 18 (Bm 6 0 18)) 19 (Bm 6 0 19))) 1 (up (up (up (up (up (up (up (up (up (up (up (up (Bm 2 1) 0 (Bm 6 1 0)) 1 (Bm 6 1 1)) 21 (Bm 6 1 21)) 22 (Bm 6 1 22)) 4 (Bm 6 1 4)) 5 (Bm 6 1 5)) 6 (Bm 6 1 6)) 7 (Bm 6 1 7)) 8 (Bm 6 1 8)) 9 (Bm 6 1 9)) 10 (Bm 6 1 10)) 11 (Bm 6 1 11))) 2 (up (up (up (up (up (up (up (up (up (up (up (up (Bm 2 2) 0 (Bm 6 2 0)) 1 (Bm 6 2 1)) 21 (Bm 6 2 21)) 22 (Bm 6 2 22)) 4 (Bm 6 2 4)) 5 (Bm 6 2 5)) 6 (Bm 6 2 6)) 7 (Bm 6 2 7)) 8 (Bm 6 2 8)) 9 (Bm 6 2 9)) 10 (Bm 6 2 10)) 11 (Bm 6 2 11))) 3 (up (up (up (up (up (up (up (up (up (up (up (up (Bm 2 3) 0 (Bm 6 3 0)) 1 (Bm 6 3 1)) 21 (Bm 6 3 21)) 22 (Bm 6 3 22)) 4 (Bm 6 3 4)) 5 (Bm 6 3 5)) 6 (Bm 6 3 6)) 7 (Bm 6 3 7)) 8 (Bm 6 3 8)) 9 (Bm 6 3 9)) 10 (Bm 6 3 10)) 11 (Bm 6 3 11)))) bk)) rfl ?_
  refine mB hT 40 rfl ?_
  refine mNf (lv2 := [(3, .int 9), (0, .ref 0), (1, .int 6), (2, .int 2)]) (st2 := [.int 225, .ref 7, .int 81, .ref 7]) rfl rfl ?_
  refine mB hT 40 rfl ?_
  refine mNf (lv2 := [(3, .int 11), (0, .ref 0), (1, .int 6), (2, .int 2)]) (st2 := [.int 216, .ref 7, .int 83, .ref 7]) rfl rfl ?_
  refine mB hT 40 rfl ?_
  refine mNf (lv2 := [(3, .int 13), (0, .ref 0), (1, .int 6), (2, .int 2)]) (st2 := [.int 36, .ref 7, .int 85, .ref 7]) rfl rfl ?_
  refine mB hT 40 rfl ?_
  refine mNf (lv2 := [(3, .int 15), (0, .ref 0), (1, .int 6), (2, .int 2)]) (st2 := [.ref 0, .int 87, .ref 7]) rfl rfl ?_
  refine mB hT 8 rfl ?_
  refine mWd (w2 := (MW n vs wo un h bo ta tr ro ot (up Bm 2 (up (up (up (up (Bm 2) 0 (up (up (up (up (up (up (up (up (up (up (up (up (up (up (up (up (up (up (up (up (up (Bm 2 0) 0 (Bm 6 0 0)) 1 (Bm 6 0 1)) 21 (Bm 6 0 21)) 22 (Bm 6 0 22)) 4 (Bm 6 0 4)) 5 (Bm 6 0 5)) 6 (Bm 6 0 6)) 7 (Bm 6 0 7)) 8 (Bm 6 0 8)) 9 (Bm 6 0 9)) 10 (Bm 6 0 10)) 11 (Bm 6 0 11)) 12 (Bm 6 0 12)) 13 (Bm 6 0 13)) 14 (Bm 6 0 14)) 15 (Bm 6 0 15)) 16 (Bm 6 0 16)) 17 (Bm 6 0 17)) 18 (Bm 6 0 18)) 19 (Bm 6 0 19)) 20 (Bm 6 0 20))) 1 (up (up (up (up (up (up (up (up (up (up (up (up (up (up (up (up (up (up (up (Bm 2 1) 0 (Bm 6 1 0)) 1 (Bm 6 1 1)) 21 (Bm 6 1 21)) 22 (Bm 6 1 22)) 4 (Bm 6 1 4)) 5 (Bm 6 1 5)) 6 (Bm 6 1 6)) 7 (Bm 6 1 7)) 8 (Bm 6 1 8)) 9 (Bm 6 1 9)) 10 (Bm 6 1 10)) 11 (Bm 6 1 11)) 12 (Bm 6 1 12)) 13 (Bm 6 1 13)) 14 (Bm 6 1 14)) 15 (Bm 6 1 15)) 16 (Bm 6 1 16)) 17 (Bm 6 1 17)) 18 (Bm 6 1 18))) 2 (up (up (up (up (up (up (up (up (up (up (up (up (Bm 2 2) 0 (Bm 6 2 0)) 1 (Bm 6 2 1)) 21 (Bm 6 2 21)) 22 (Bm 6 2 22)) 4 (Bm 6 2 4)) 5 (Bm 6 2 5)) 6 (Bm 6 2 6)) 7 (Bm 6 2 7)) 8 (Bm 6 2 8)) 9 (Bm 6 2 9)) 10 (Bm 6 2 10)) 11 (Bm 6 2 11))) 3 (up (up (up (up (up (up (up (up (up (up (up (up (Bm 2 3) 0 (Bm 6 3 0)) 1 (Bm 6 3 1)) 21 (Bm 6 3 21)) 22 (Bm 6 3 22)) 4 (Bm 6 3 4)) 5 (Bm 6 3 5)) 6 (Bm 6 3 6)) 7 (Bm 6 3 7)) 8 (Bm 6 3 8)) 9 (Bm 6 3 9)) 10 (Bm 6 3 10)) 11 (Bm 6 3 11)))) bk)) rfl ?_
  refine mB hT 40 rfl ?_
  refine mNf (lv2 := [(3, .int 17), (0, .ref 0), (1, .int 6), (2, .int 2)]) (st2 := [.int 233, .ref 7, .int 89, .ref 7]) rfl rfl ?_
  refine mB hT 40 rfl ?_
  refine mNf (lv2 := [(3, .int 19), (0, .ref 0), (1, .int 6), (2, .int 2)]) (st2 := [.int 216, .ref 7, .int 91, .ref 7]) rfl rfl ?_
  refine mB hT 40 rfl ?_
  refine mNf (lv2 := [(3, .int 21), (0, .ref 0), (1, .int 6), (2, .int 2)]) (st2 := [.int 36, .ref 7, .int 93, .ref 7]) rfl rfl ?_
  refine mB hT 40 rfl ?_
  refine mNf (lv2 := [(3, .int 23), (0, .ref 0), (1, .int 6), (2, .int 2)]) (st2 := [.ref 0, .int 95, .ref 7]) rfl rfl ?_
  refine mB hT 8 rfl ?_
  refine mWd (w2 := (MW n vs wo un h bo ta tr ro ot (up Bm 2 (up (up (up (up (Bm 2) 0 (up (up (up (up (up (up (up (up (up (up (up (up (up (up (up (up (up (up (up (up (up (Bm 2 0) 0 (Bm 6 0 0)) 1 (Bm 6 0 1)) 21 (Bm 6 0 21)) 22 (Bm 6 0 22)) 4 (Bm 6 0 4)) 5 (Bm 6 0 5)) 6 (Bm 6 0 6)) 7 (Bm 6 0 7)) 8 (Bm 6 0 8)) 9 (Bm 6 0 9)) 10 (Bm 6 0 10)) 11 (Bm 6 0 11)) 12 (Bm 6 0 12)) 13 (Bm 6 0 13)) 14 (Bm 6 0 14)) 15 (Bm 6 0 15)) 16 (Bm 6 0 16)) 17 (Bm 6 0 17)) 18 (Bm 6 0 18)) 19 (Bm 6 0 19)) 20 (Bm 6 0 20))) 1 (up (up (up (up (up (up (up (up (up (up (up (up (up (up (up (up (up (up (up (up (up (Bm 2 1) 0 (Bm 6 1 0)) 1 (Bm 6 1 1)) 21 (Bm 6 1 21)) 22 (Bm 6 1 22)) 4 (Bm 6 1 4)) 5 (Bm 6 1 5)) 6 (Bm 6 1 6)) 7 (Bm 6 1 7)) 8 (Bm 6 1 8)) 9 (Bm 6 1 9)) 10 (Bm 6 1 10)) 11 (Bm 6 1 11)) 12 (Bm 6 1 12)) 13 (Bm 6 1 13)) 14 (Bm 6 1 14)) 15 (Bm 6 1 15)) 16 (Bm 6 1 16)) 17 (Bm 6 1 17)) 18 (Bm 6 1 18)) 19 (Bm 6 1 19)) 20 (Bm 6 1 20))) 2 (up (up (up (up (up (up (up (up (up (up (up (up (up (up (up (up (up (up (Bm 2 2) 0 (Bm 6 2 0)) 1 (Bm 6 2 1)) 21 (Bm 6 2 21)) 22 (Bm 6 2 22)) 4 (Bm 6 2 4)) 5 (Bm 6 2 5)) 6 (Bm 6 2 6)) 7 (Bm 6 2 7)) 8 (Bm 6 2 8)) 9 (Bm 6 2 9)) 10 (Bm 6 2 10)) 11 (Bm 6 2 11)) 12 (Bm 6 2 12)) 13 (Bm 6 2 13)) 14 (Bm 6 2 14)) 15 (Bm 6 2 15)) 16 (Bm 6 2 16)) 17 (Bm 6 2 17))) 3 (up (up (up (up (up (up (up (up (up (up (up (up (Bm 2 3) 0 (Bm 6 3 0)) 1 (Bm 6 3 1)) 21 (Bm 6 3 21)) 22 (Bm 6 3 22)) 4 (Bm 6 3 4)) 5 (Bm 6 3 5)) 6 (Bm 6 3 6)) 7 (Bm 6 3 7)) 8 (Bm 6 3 8)) 9 (Bm 6 3 9)) 10 (Bm 6 3 10)) 11 (Bm 6 3 11)))) bk)) rfl ?_
  refine mB hT 40 rfl ?_
  refine mNf (lv2 := [(3, .int 25), (0, .ref 0), (1, .int 6), (2, .int 2)]) (st2 := [.int 241, .ref 7, .int 97, .ref 7]) rfl rfl ?_
  refine mB hT 40 rfl ?_
  refine mNf (lv2 := [(3, .int 27), (0, .ref 0), (1, .int 6), (2, .int 2)]) (st2 := [.int 216, .ref 7, .int 99, .ref 7]) rfl rfl ?_
  refine mB hT 40 rfl ?_
  refine mNf (lv2 := [(3, .int 29), (0, .ref 0), (1, .int 6), (2, .int 2)]) (st2 := [.int 36, .ref 7, .int 101, .ref 7]) rfl rfl ?_
  refine mB hT 40 rfl ?_
  refine mNf (lv2 := [(3, .int 31), (0, .ref 0), (1, .int 6), (2, .int 2)]) (st2 := [.ref 0, .int 103, .ref 7]) rfl rfl ?_
  refine mB hT 8 rfl ?_
  refine mWd (w2 := (MW n vs wo un h bo ta tr ro ot (up Bm 2 (up (up (up (up (Bm 2) 0 (up (up (up (up (up (up (up (up (up (up (up (up (up (up (up (up (up (up (up (up (up (Bm 2 0) 0 (Bm 6 0 0)) 1 (Bm 6 0 1)) 21 (Bm 6 0 21)) 22 (Bm 6 0 22)) 4 (Bm 6 0 4)) 5 (Bm 6 0 5)) 6 (Bm 6 0 6)) 7 (Bm 6 0 7)) 8 (Bm 6 0 8)) 9 (Bm 6 0 9)) 10 (Bm 6 0 10)) 11 (Bm 6 0 11)) 12 (Bm 6 0 12)) 13 (Bm 6 0 13)) 14 (Bm 6 0 14)) 15 (Bm 6 0 15)) 16 (Bm 6 0 16)) 17 (Bm 6 0 17)) 18 (Bm 6 0 18)) 19 (Bm 6 0 19)) 20 (Bm 6 0 20))) 1 (up (up (up (up (up (up (up (up (up (up (up (up (up (up (up (up (up (up (up (up (up (Bm 2 1) 0 (Bm 6 1 0)) 1 (Bm 6 1 1)) 21 (Bm 6 1 21)) 22 (Bm 6 1 22)) 4 (Bm 6 1 4)) 5 (Bm 6 1 5)) 6 (Bm 6 1 6)) 7 (Bm 6 1 7)) 8 (Bm 6 1 8)) 9 (Bm 6 1 9)) 10 (Bm 6 1 10)) 11 (Bm 6 1 11)) 12 (Bm 6 1 12)) 13 (Bm 6 1 13)) 14 (Bm 6 1 14)) 15 (Bm 6 1 15)) 16 (Bm 6 1 16)) 17 (Bm 6 1 17)) 18 (Bm 6 1 18)) 19 (Bm 6 1 19)) 20 (Bm 6 1 20))) 2 (up (up (up (up (up (up (up (up (up (up (up (up (up (up (up (up (up (up (up (up (up (Bm 2 2) 0 (Bm 6 2 0)) 1 (Bm 6 2 1)) 21 (Bm 6 2 21)) 22 (Bm 6 2 22)) 4 (Bm 6 2 4)) 5 (Bm 6 2 5)) 6 (Bm 6 2 6)) 7 (Bm 6 2 7)) 8 (Bm 6 2 8)) 9 (Bm 6 2 9)) 10 (Bm 6 2 10)) 11 (Bm 6 2 11)) 12 (Bm 6 2 12)) 13 (Bm 6 2 13)) 14 (Bm 6 2 14)) 15 (Bm 6 2 15)) 16 (Bm 6 2 16)) 17 (Bm 6 2 17)) 18 (Bm 6 2 18)) 19 (Bm 6 2 19)) 20 (Bm 6 2 20))) 3 (up (up (up (up (up (up (up (up (up (up (up (up (up (up (up (up (up (Bm 2 3) 0 (Bm 6 3 0)) 1 (Bm 6 3 1)) 21 (Bm 6 3 21)) 22 (Bm 6 3 22)) 4 (Bm 6 3 4)) 5 (Bm 6 3 5)) 6 (Bm 6 3 6)) 7 (Bm 6 3 7)) 8 (Bm 6 3 8)) 9 (Bm 6 3 9)) 10 (Bm 6 3 10)) 11 (Bm 6 3 11)) 12 (Bm 6 3 12)) 13 (Bm 6 3 13)) 14 (Bm 6 3 14)) 15 (Bm 6 3 15)) 16 (Bm 6 3 16)))) bk)) rfl ?_
  refine mB hT 40 rfl ?_
  refine mNf (lv2 := [(3, .int 33), (0, .ref 0), (1, .int 6), (2, .int 2)]) (st2 := [.int 249, .ref 7, .int 105, .ref 7]) rfl rfl ?_
  refine mB hT 40 rfl ?_
  refine mNf (lv2 := [(3, .int 35), (0, .ref 0), (1, .int 6), (2, .int 2)]) (st2 := [.int 216, .ref 7, .int 107, .ref 7]) rfl rfl ?_
  refine mB hT 9 rfl ?_
  exact hR _ (by decide) _ _ _ rfl rfl
set_option maxRecDepth 20000 in
theorem m_copy_6_3 {n vs : Int32} {wo un h : Int64} {bo : Nat → Int32} {ta tr ro ot : Nat → Int64} {Bm : Nat → Nat → Nat → Int32} {bk : Nat → Nat → Int32} : KX3_copy l D ca ad [.ref 0, .int 6, .int 3] (MW n vs wo un h bo ta tr ro ot Bm bk) none (MW n vs wo un h bo ta tr ro ot (up Bm 3 (Bm 6)) bk) := by
  refine PX3_copy (Nat.le_of_ble_eq_true rfl) ?_
  intro G hT hC hR
  refine mB hT 40 rfl ?_
  refine mB hT 40 rfl ?_
  refine mNf (lv2 := [(3, .int 1), (0, .ref 0), (1, .int 6), (2, .int 3)]) (st2 := [.int 1, .int 12, .ref 1]) rfl rfl ?_
  refine mB hT 40 rfl ?_
  refine mB hT 18 rfl ?_
  refine mWd (w2 := (MW n vs wo un h bo ta tr ro ot (up Bm 3 (up (up (Bm 3) 0 (up (up (up (up (Bm 3 0) 0 (Bm 6 0 0)) 1 (Bm 6 0 1)) 21 (Bm 6 0 21)) 22 (Bm 6 0 22))) 1 (up (up (up (up (Bm 3 1) 0 (Bm 6 1 0)) 1 (Bm 6 1 1)) 21 (Bm 6 1 21)) 22 (Bm 6 1 22)))) bk)) rfl ?_
  refine mB hT 40 rfl ?_
  refine mB hT 40 rfl ?_
  refine mNf (lv2 := [(3, .int 3), (0, .ref 0), (1, .int 6), (2, .int 3)]) (st2 := [.int 3, .int 12, .ref 1]) rfl rfl ?_
  refine mB hT 40 rfl ?_
  refine mB hT 18 rfl ?_
  refine mWd (w2 := (MW n vs wo un h bo ta tr ro ot (up Bm 3 (up (up (up (up (Bm 3) 0 (up (up (up (up (Bm 3 0) 0 (Bm 6 0 0)) 1 (Bm 6 0 1)) 21 (Bm 6 0 21)) 22 (Bm 6 0 22))) 1 (up (up (up (up (Bm 3 1) 0 (Bm 6 1 0)) 1 (Bm 6 1 1)) 21 (Bm 6 1 21)) 22 (Bm 6 1 22))) 2 (up (up (up (up (Bm 3 2) 0 (Bm 6 2 0)) 1 (Bm 6 2 1)) 21 (Bm 6 2 21)) 22 (Bm 6 2 22))) 3 (up (up (up (up (Bm 3 3) 0 (Bm 6 3 0)) 1 (Bm 6 3 1)) 21 (Bm 6 3 21)) 22 (Bm 6 3 22)))) bk)) rfl ?_
  refine mB hT 40 rfl ?_
  refine mNf (lv2 := [(3, .int 0), (0, .ref 0), (1, .int 6), (2, .int 3)]) (st2 := [.int 96, .ref 6, .int 48, .ref 6]) rfl rfl ?_
  refine mB hT 40 rfl ?_
  refine mNf (lv2 := [(3, .int 2), (0, .ref 0), (1, .int 6), (2, .int 3)]) (st2 := []) rfl rfl ?_
  refine mB hT 40 rfl ?_
  refine mB hT 33 rfl ?_
  refine mWd (w2 := (MW n vs wo un h bo ta tr ro ot (up Bm 3 (up (up (up (up (Bm 3) 0 (up (up (up (up (up (up (up (up (up (up (up (up (Bm 3 0) 0 (Bm 6 0 0)) 1 (Bm 6 0 1)) 21 (Bm 6 0 21)) 22 (Bm 6 0 22)) 4 (Bm 6 0 4)) 5 (Bm 6 0 5)) 6 (Bm 6 0 6)) 7 (Bm 6 0 7)) 8 (Bm 6 0 8)) 9 (Bm 6 0 9)) 10 (Bm 6 0 10)) 11 (Bm 6 0 11))) 1 (up (up (up (up (Bm 3 1) 0 (Bm 6 1 0)) 1 (Bm 6 1 1)) 21 (Bm 6 1 21)) 22 (Bm 6 1 22))) 2 (up (up (up (up (Bm 3 2) 0 (Bm 6 2 0)) 1 (Bm 6 2 1)) 21 (Bm 6 2 21)) 22 (Bm 6 2 22))) 3 (up (up (up (up (Bm 3 3) 0 (Bm 6 3 0)) 1 (Bm 6 3 1)) 21 (Bm 6 3 21)) 22 (Bm 6 3 22)))) bk)) rfl ?_
  refine mB hT 40 rfl ?_
  refine mNf (lv2 := [(3, .int 5), (0, .ref 0), (1, .int 6), (2, .int 3)]) (st2 := [.int 5]) rfl rfl ?_
  refine mB hT 40 rfl ?_
  refine mB hT 40 rfl ?_
  refine mNf (lv2 := [(3, .int 7), (0, .ref 0), (1, .int 6), (2, .int 3)]) (st2 := [.int 3, .int 16, .ref 5]) rfl rfl ?_
  refine mB hT 28 rfl ?_
  refine mWd (w2 := (MW n vs wo un h bo ta tr ro ot (up Bm 3 (up (up (up (up (Bm 3) 0 (up (up (up (up (up (up (up (up (up (up (up (up (Bm 3 0) 0 (Bm 6 0 0)) 1 (Bm 6 0 1)) 21 (Bm 6 0 21)) 22 (Bm 6 0 22)) 4 (Bm 6 0 4)) 5 (Bm 6 0 5)) 6 (Bm 6 0 6)) 7 (Bm 6 0 7)) 8 (Bm 6 0 8)) 9 (Bm 6 0 9)) 10 (Bm 6 0 10)) 11 (Bm 6 0 11))) 1 (up (up (up (up (up (up (up (up (up (up (up (up (Bm 3 1) 0 (Bm 6 1 0)) 1 (Bm 6 1 1)) 21 (Bm 6 1 21)) 22 (Bm 6 1 22)) 4 (Bm 6 1 4)) 5 (Bm 6 1 5)) 6 (Bm 6 1 6)) 7 (Bm 6 1 7)) 8 (Bm 6 1 8)) 9 (Bm 6 1 9)) 10 (Bm 6 1 10)) 11 (Bm 6 1 11))) 2 (up (up (up (up (Bm 3 2) 0 (Bm 6 2 0)) 1 (Bm 6 2 1)) 21 (Bm 6 2 21)) 22 (Bm 6 2 22))) 3 (up (up (up (up (Bm 3 3) 0 (Bm 6 3 0)) 1 (Bm 6 3 1)) 21 (Bm 6 3 21)) 22 (Bm 6 3 22)))) bk)) rfl ?_
  refine mB hT 40 rfl ?_
  refine mNf (lv2 := [(3, .int 9), (0, .ref 0), (1, .int 6), (2, .int 3)]) (st2 := [.int 9]) rfl rfl ?_
  refine mB hT 40 rfl ?_
  refine mB hT 40 rfl ?_
  refine mNf (lv2 := [(3, .int 11), (0, .ref 0), (1, .int 6), (2, .int 3)]) (st2 := [.int 3, .int 16, .ref 5]) rfl rfl ?_
  refine mB hT 28 rfl ?_
  refine mWd (w2 := (MW n vs wo un h bo ta tr ro ot (up Bm 3 (up (up (up (up (Bm 3) 0 (up (up (up (up (up (up (up (up (up (up (up (up (Bm 3 0) 0 (Bm 6 0 0)) 1 (Bm 6 0 1)) 21 (Bm 6 0 21)) 22 (Bm 6 0 22)) 4 (Bm 6 0 4)) 5 (Bm 6 0 5)) 6 (Bm 6 0 6)) 7 (Bm 6 0 7)) 8 (Bm 6 0 8)) 9 (Bm 6 0 9)) 10 (Bm 6 0 10)) 11 (Bm 6 0 11))) 1 (up (up (up (up (up (up (up (up (up (up (up (up (Bm 3 1) 0 (Bm 6 1 0)) 1 (Bm 6 1 1)) 21 (Bm 6 1 21)) 22 (Bm 6 1 22)) 4 (Bm 6 1 4)) 5 (Bm 6 1 5)) 6 (Bm 6 1 6)) 7 (Bm 6 1 7)) 8 (Bm 6 1 8)) 9 (Bm 6 1 9)) 10 (Bm 6 1 10)) 11 (Bm 6 1 11))) 2 (up (up (up (up (up (up (up (up (up (up (up (up (Bm 3 2) 0 (Bm 6 2 0)) 1 (Bm 6 2 1)) 21 (Bm 6 2 21)) 22 (Bm 6 2 22)) 4 (Bm 6 2 4)) 5 (Bm 6 2 5)) 6 (Bm 6 2 6)) 7 (Bm 6 2 7)) 8 (Bm 6 2 8)) 9 (Bm 6 2 9)) 10 (Bm 6 2 10)) 11 (Bm 6 2 11))) 3 (up (up (up (up (Bm 3 3) 0 (Bm 6 3 0)) 1 (Bm 6 3 1)) 21 (Bm 6 3 21)) 22 (Bm 6 3 22)))) bk)) rfl ?_
  refine mB hT 40 rfl ?_
  refine mNf (lv2 := [(3, .int 13), (0, .ref 0), (1, .int 6), (2, .int 3)]) (st2 := [.int 13]) rfl rfl ?_
  refine mB hT 40 rfl ?_
  refine mB hT 40 rfl ?_
  refine mNf (lv2 := [(3, .int 15), (0, .ref 0), (1, .int 6), (2, .int 3)]) (st2 := [.int 3, .int 16, .ref 5]) rfl rfl ?_
  refine mB hT 28 rfl ?_
  refine mWd (w2 := (MW n vs wo un h bo ta tr ro ot (up Bm 3 (up (up (up (up (Bm 3) 0 (up (up (up (up (up (up (up (up (up (up (up (up (Bm 3 0) 0 (Bm 6 0 0)) 1 (Bm 6 0 1)) 21 (Bm 6 0 21)) 22 (Bm 6 0 22)) 4 (Bm 6 0 4)) 5 (Bm 6 0 5)) 6 (Bm 6 0 6)) 7 (Bm 6 0 7)) 8 (Bm 6 0 8)) 9 (Bm 6 0 9)) 10 (Bm 6 0 10)) 11 (Bm 6 0 11))) 1 (up (up (up (up (up (up (up (up (up (up (up (up (Bm 3 1) 0 (Bm 6 1 0)) 1 (Bm 6 1 1)) 21 (Bm 6 1 21)) 22 (Bm 6 1 22)) 4 (Bm 6 1 4)) 5 (Bm 6 1 5)) 6 (Bm 6 1 6)) 7 (Bm 6 1 7)) 8 (Bm 6 1 8)) 9 (Bm 6 1 9)) 10 (Bm 6 1 10)) 11 (Bm 6 1 11))) 2 (up (up (up (up (up (up (up (up (up (up (up (up (Bm 3 2) 0 (Bm 6 2 0)) 1 (Bm 6 2 1)) 21 (Bm 6 2 21)) 22 (Bm 6 2 22)) 4 (Bm 6 2 4)) 5 (Bm 6 2 5)) 6 (Bm 6 2 6)) 7 (Bm 6 2 7)) 8 (Bm 6 2 8)) 9 (Bm 6 2 9)) 10 (Bm 6 2 10)) 11 (Bm 6 2 11))) 3 (up (up (up (up (up (up (up (up (up (up (up (up (Bm 3 3) 0 (Bm 6 3 0)) 1 (Bm 6 3 1)) 21 (Bm 6 3 21)) 22 (Bm 6 3 22)) 4 (Bm 6 3 4)) 5 (Bm 6 3 5)) 6 (Bm 6 3 6)) 7 (Bm 6 3 7)) 8 (Bm 6 3 8)) 9 (Bm 6 3 9)) 10 (Bm 6 3 10)) 11 (Bm 6 3 11)))) bk)) rfl ?_
  refine mB hT 40 rfl ?_
  refine mNf (lv2 := [(3, .int 1), (0, .ref 0), (1, .int 6), (2, .int 3)]) (st2 := [.ref 7, .int 109, .ref 7]) rfl rfl ?_
  refine mB hT 40 rfl ?_
  refine mNf (lv2 := [(3, .int 3), (0, .ref 0), (1, .int 6), (2, .int 3)]) (st2 := [.int 111, .ref 7]) rfl rfl ?_
  refine mB hT 40 rfl ?_
  refine mNf (lv2 := [(3, .int 5), (0, .ref 0), (1, .int 6), (2, .int 3)]) (st2 := [.int 108, .ref 7]) rfl rfl ?_
  refine mB hT 40 rfl ?_
  refine mNf (lv2 := [(3, .int 7), (0, .ref 0), (1, .int 6), (2, .int 3)]) (st2 := [.int 36, .ref 7]) rfl rfl ?_
  refine mB hT 13 rfl ?_
  refine mWd (w2 := (MW n vs wo un h bo ta tr ro ot (up Bm 3 (up (up (up (up (Bm 3) 0 (up (up (up (up (up (up (up (up (up (up (up (up (up (up (up (up (up (up (up (up (Bm 3 0) 0 (Bm 6 0 0)) 1 (Bm 6 0 1)) 21 (Bm 6 0 21)) 22 (Bm 6 0 22)) 4 (Bm 6 0 4)) 5 (Bm 6 0 5)) 6 (Bm 6 0 6)) 7 (Bm 6 0 7)) 8 (Bm 6 0 8)) 9 (Bm 6 0 9)) 10 (Bm 6 0 10)) 11 (Bm 6 0 11)) 12 (Bm 6 0 12)) 13 (Bm 6 0 13)) 14 (Bm 6 0 14)) 15 (Bm 6 0 15)) 16 (Bm 6 0 16)) 17 (Bm 6 0 17)) 18 (Bm 6 0 18)) 19 (Bm 6 0 19))) 1 (up (up (up (up (up (up (up (up (up (up (up (up (Bm 3 1) 0 (Bm 6 1 0)) 1 (Bm 6 1 1)) 21 (Bm 6 1 21)) 22 (Bm 6 1 22)) 4 (Bm 6 1 4)) 5 (Bm 6 1 5)) 6 (Bm 6 1 6)) 7 (Bm 6 1 7)) 8 (Bm 6 1 8)) 9 (Bm 6 1 9)) 10 (Bm 6 1 10)) 11 (Bm 6 1 11))) 2 (up (up (up (up (up (up (up (up (up (up (up (up (Bm 3 2) 0 (Bm 6 2 0)) 1 (Bm 6 2 1)) 21 (Bm 6 2 21)) 22 (Bm 6 2 22)) 4 (Bm 6 2 4)) 5 (Bm 6 2 5)) 6 (Bm 6 2 6)) 7 (Bm 6 2 7)) 8 (Bm 6 2 8)) 9 (Bm 6 2 9)) 10 (Bm 6 2 10)) 11 (Bm 6 2 11))) 3 (up (up (up (up (up (up (up (up (up (up (up (up (Bm 3 3) 0 (Bm 6 3 0)) 1 (Bm 6 3 1)) 21 (Bm 6 3 21)) 22 (Bm 6 3 22)) 4 (Bm 6 3 4)) 5 (Bm 6 3 5)) 6 (Bm 6 3 6)) 7 (Bm 6 3 7)) 8 (Bm 6 3 8)) 9 (Bm 6 3 9)) 10 (Bm 6 3 10)) 11 (Bm 6 3 11)))) bk)) rfl ?_
  refine mB hT 40 rfl ?_
  refine mNf (lv2 := [(3, .int 9), (0, .ref 0), (1, .int 6), (2, .int 3)]) (st2 := [.int 225, .ref 7, .int 117, .ref 7]) rfl rfl ?_
  refine mB hT 40 rfl ?_
  refine mNf (lv2 := [(3, .int 11), (0, .ref 0), (1, .int 6), (2, .int 3)]) (st2 := [.int 216, .ref 7, .int 119, .ref 7]) rfl rfl ?_
  refine mB hT 40 rfl ?_
  refine mNf (lv2 := [(3, .int 13), (0, .ref 0), (1, .int 6), (2, .int 3)]) (st2 := [.int 36, .ref 7, .int 121, .ref 7]) rfl rfl ?_
  refine mB hT 40 rfl ?_
  refine mNf (lv2 := [(3, .int 15), (0, .ref 0), (1, .int 6), (2, .int 3)]) (st2 := [.ref 0, .int 123, .ref 7]) rfl rfl ?_
  refine mB hT 8 rfl ?_
  refine mWd (w2 := (MW n vs wo un h bo ta tr ro ot (up Bm 3 (up (up (up (up (Bm 3) 0 (up (up (up (up (up (up (up (up (up (up (up (up (up (up (up (up (up (up (up (up (up (Bm 3 0) 0 (Bm 6 0 0)) 1 (Bm 6 0 1)) 21 (Bm 6 0 21)) 22 (Bm 6 0 22)) 4 (Bm 6 0 4)) 5 (Bm 6 0 5)) 6 (Bm 6 0 6)) 7 (Bm 6 0 7)) 8 (Bm 6 0 8)) 9 (Bm 6 0 9)) 10 (Bm 6 0 10)) 11 (Bm 6 0 11)) 12 (Bm 6 0 12)) 13 (Bm 6 0 13)) 14 (Bm 6 0 14)) 15 (Bm 6 0 15)) 16 (Bm 6 0 16)) 17 (Bm 6 0 17)) 18 (Bm 6 0 18)) 19 (Bm 6 0 19)) 20 (Bm 6 0 20))) 1 (up (up (up (up (up (up (up (up (up (up (up (up (up (up (up (up (up (up (up (Bm 3 1) 0 (Bm 6 1 0)) 1 (Bm 6 1 1)) 21 (Bm 6 1 21)) 22 (Bm 6 1 22)) 4 (Bm 6 1 4)) 5 (Bm 6 1 5)) 6 (Bm 6 1 6)) 7 (Bm 6 1 7)) 8 (Bm 6 1 8)) 9 (Bm 6 1 9)) 10 (Bm 6 1 10)) 11 (Bm 6 1 11)) 12 (Bm 6 1 12)) 13 (Bm 6 1 13)) 14 (Bm 6 1 14)) 15 (Bm 6 1 15)) 16 (Bm 6 1 16)) 17 (Bm 6 1 17)) 18 (Bm 6 1 18))) 2 (up (up (up (up (up (up (up (up (up (up (up (up (Bm 3 2) 0 (Bm 6 2 0)) 1 (Bm 6 2 1)) 21 (Bm 6 2 21)) 22 (Bm 6 2 22)) 4 (Bm 6 2 4)) 5 (Bm 6 2 5)) 6 (Bm 6 2 6)) 7 (Bm 6 2 7)) 8 (Bm 6 2 8)) 9 (Bm 6 2 9)) 10 (Bm 6 2 10)) 11 (Bm 6 2 11))) 3 (up (up (up (up (up (up (up (up (up (up (up (up (Bm 3 3) 0 (Bm 6 3 0)) 1 (Bm 6 3 1)) 21 (Bm 6 3 21)) 22 (Bm 6 3 22)) 4 (Bm 6 3 4)) 5 (Bm 6 3 5)) 6 (Bm 6 3 6)) 7 (Bm 6 3 7)) 8 (Bm 6 3 8)) 9 (Bm 6 3 9)) 10 (Bm 6 3 10)) 11 (Bm 6 3 11)))) bk)) rfl ?_
  refine mB hT 40 rfl ?_
  refine mNf (lv2 := [(3, .int 17), (0, .ref 0), (1, .int 6), (2, .int 3)]) (st2 := [.int 233, .ref 7, .int 125, .ref 7]) rfl rfl ?_
  refine mB hT 40 rfl ?_
  refine mNf (lv2 := [(3, .int 19), (0, .ref 0), (1, .int 6), (2, .int 3)]) (st2 := [.int 216, .ref 7, .int 127, .ref 7]) rfl rfl ?_
  refine mB hT 40 rfl ?_
  refine mNf (lv2 := [(3, .int 21), (0, .ref 0), (1, .int 6), (2, .int 3)]) (st2 := [.int 36, .ref 7, .int 129, .ref 7]) rfl rfl ?_
  refine mB hT 40 rfl ?_
  refine mNf (lv2 := [(3, .int 23), (0, .ref 0), (1, .int 6), (2, .int 3)]) (st2 := [.ref 0, .int 131, .ref 7]) rfl rfl ?_
  refine mB hT 8 rfl ?_
  refine mWd (w2 := (MW n vs wo un h bo ta tr ro ot (up Bm 3 (up (up (up (up (Bm 3) 0 (up (up (up (up (up (up (up (up (up (up (up (up (up (up (up (up (up (up (up (up (up (Bm 3 0) 0 (Bm 6 0 0)) 1 (Bm 6 0 1)) 21 (Bm 6 0 21)) 22 (Bm 6 0 22)) 4 (Bm 6 0 4)) 5 (Bm 6 0 5)) 6 (Bm 6 0 6)) 7 (Bm 6 0 7)) 8 (Bm 6 0 8)) 9 (Bm 6 0 9)) 10 (Bm 6 0 10)) 11 (Bm 6 0 11)) 12 (Bm 6 0 12)) 13 (Bm 6 0 13)) 14 (Bm 6 0 14)) 15 (Bm 6 0 15)) 16 (Bm 6 0 16)) 17 (Bm 6 0 17)) 18 (Bm 6 0 18)) 19 (Bm 6 0 19)) 20 (Bm 6 0 20))) 1 (up (up (up (up (up (up (up (up (up (up (up (up (up (up (up (up (up (up (up (up (up (Bm 3 1) 0 (Bm 6 1 0)) 1 (Bm 6 1 1)) 21 (Bm 6 1 21)) 22 (Bm 6 1 22)) 4 (Bm 6 1 4)) 5 (Bm 6 1 5)) 6 (Bm 6 1 6)) 7 (Bm 6 1 7)) 8 (Bm 6 1 8)) 9 (Bm 6 1 9)) 10 (Bm 6 1 10)) 11 (Bm 6 1 11)) 12 (Bm 6 1 12)) 13 (Bm 6 1 13)) 14 (Bm 6 1 14)) 15 (Bm 6 1 15)) 16 (Bm 6 1 16)) 17 (Bm 6 1 17)) 18 (Bm 6 1 18)) 19 (Bm 6 1 19)) 20 (Bm 6 1 20))) 2 (up (up (up (up (up (up (up (up (up (up (up (up (up (up (up (up (up (up (Bm 3 2) 0 (Bm 6 2 0)) 1 (Bm 6 2 1)) 21 (Bm 6 2 21)) 22 (Bm 6 2 22)) 4 (Bm 6 2 4)) 5 (Bm 6 2 5)) 6 (Bm 6 2 6)) 7 (Bm 6 2 7)) 8 (Bm 6 2 8)) 9 (Bm 6 2 9)) 10 (Bm 6 2 10)) 11 (Bm 6 2 11)) 12 (Bm 6 2 12)) 13 (Bm 6 2 13)) 14 (Bm 6 2 14)) 15 (Bm 6 2 15)) 16 (Bm 6 2 16)) 17 (Bm 6 2 17))) 3 (up (up (up (up (up (up (up (up (up (up (up (up (Bm 3 3) 0 (Bm 6 3 0)) 1 (Bm 6 3 1)) 21 (Bm 6 3 21)) 22 (Bm 6 3 22)) 4 (Bm 6 3 4)) 5 (Bm 6 3 5)) 6 (Bm 6 3 6)) 7 (Bm 6 3 7)) 8 (Bm 6 3 8)) 9 (Bm 6 3 9)) 10 (Bm 6 3 10)) 11 (Bm 6 3 11)))) bk)) rfl ?_
  refine mB hT 40 rfl ?_
  refine mNf (lv2 := [(3, .int 25), (0, .ref 0), (1, .int 6), (2, .int 3)]) (st2 := [.int 241, .ref 7, .int 133, .ref 7]) rfl rfl ?_
  refine mB hT 40 rfl ?_
  refine mNf (lv2 := [(3, .int 27), (0, .ref 0), (1, .int 6), (2, .int 3)]) (st2 := [.int 216, .ref 7, .int 135, .ref 7]) rfl rfl ?_
  refine mB hT 40 rfl ?_
  refine mNf (lv2 := [(3, .int 29), (0, .ref 0), (1, .int 6), (2, .int 3)]) (st2 := [.int 36, .ref 7, .int 137, .ref 7]) rfl rfl ?_
  refine mB hT 40 rfl ?_
  refine mNf (lv2 := [(3, .int 31), (0, .ref 0), (1, .int 6), (2, .int 3)]) (st2 := [.ref 0, .int 139, .ref 7]) rfl rfl ?_
  refine mB hT 8 rfl ?_
  refine mWd (w2 := (MW n vs wo un h bo ta tr ro ot (up Bm 3 (up (up (up (up (Bm 3) 0 (up (up (up (up (up (up (up (up (up (up (up (up (up (up (up (up (up (up (up (up (up (Bm 3 0) 0 (Bm 6 0 0)) 1 (Bm 6 0 1)) 21 (Bm 6 0 21)) 22 (Bm 6 0 22)) 4 (Bm 6 0 4)) 5 (Bm 6 0 5)) 6 (Bm 6 0 6)) 7 (Bm 6 0 7)) 8 (Bm 6 0 8)) 9 (Bm 6 0 9)) 10 (Bm 6 0 10)) 11 (Bm 6 0 11)) 12 (Bm 6 0 12)) 13 (Bm 6 0 13)) 14 (Bm 6 0 14)) 15 (Bm 6 0 15)) 16 (Bm 6 0 16)) 17 (Bm 6 0 17)) 18 (Bm 6 0 18)) 19 (Bm 6 0 19)) 20 (Bm 6 0 20))) 1 (up (up (up (up (up (up (up (up (up (up (up (up (up (up (up (up (up (up (up (up (up (Bm 3 1) 0 (Bm 6 1 0)) 1 (Bm 6 1 1)) 21 (Bm 6 1 21)) 22 (Bm 6 1 22)) 4 (Bm 6 1 4)) 5 (Bm 6 1 5)) 6 (Bm 6 1 6)) 7 (Bm 6 1 7)) 8 (Bm 6 1 8)) 9 (Bm 6 1 9)) 10 (Bm 6 1 10)) 11 (Bm 6 1 11)) 12 (Bm 6 1 12)) 13 (Bm 6 1 13)) 14 (Bm 6 1 14)) 15 (Bm 6 1 15)) 16 (Bm 6 1 16)) 17 (Bm 6 1 17)) 18 (Bm 6 1 18)) 19 (Bm 6 1 19)) 20 (Bm 6 1 20))) 2 (up (up (up (up (up (up (up (up (up (up (up (up (up (up (up (up (up (up (up (up (up (Bm 3 2) 0 (Bm 6 2 0)) 1 (Bm 6 2 1)) 21 (Bm 6 2 21)) 22 (Bm 6 2 22)) 4 (Bm 6 2 4)) 5 (Bm 6 2 5)) 6 (Bm 6 2 6)) 7 (Bm 6 2 7)) 8 (Bm 6 2 8)) 9 (Bm 6 2 9)) 10 (Bm 6 2 10)) 11 (Bm 6 2 11)) 12 (Bm 6 2 12)) 13 (Bm 6 2 13)) 14 (Bm 6 2 14)) 15 (Bm 6 2 15)) 16 (Bm 6 2 16)) 17 (Bm 6 2 17)) 18 (Bm 6 2 18)) 19 (Bm 6 2 19)) 20 (Bm 6 2 20))) 3 (up (up (up (up (up (up (up (up (up (up (up (up (up (up (up (up (up (Bm 3 3) 0 (Bm 6 3 0)) 1 (Bm 6 3 1)) 21 (Bm 6 3 21)) 22 (Bm 6 3 22)) 4 (Bm 6 3 4)) 5 (Bm 6 3 5)) 6 (Bm 6 3 6)) 7 (Bm 6 3 7)) 8 (Bm 6 3 8)) 9 (Bm 6 3 9)) 10 (Bm 6 3 10)) 11 (Bm 6 3 11)) 12 (Bm 6 3 12)) 13 (Bm 6 3 13)) 14 (Bm 6 3 14)) 15 (Bm 6 3 15)) 16 (Bm 6 3 16)))) bk)) rfl ?_
  refine mB hT 40 rfl ?_
  refine mNf (lv2 := [(3, .int 33), (0, .ref 0), (1, .int 6), (2, .int 3)]) (st2 := [.int 249, .ref 7, .int 141, .ref 7]) rfl rfl ?_
  refine mB hT 40 rfl ?_
  refine mNf (lv2 := [(3, .int 35), (0, .ref 0), (1, .int 6), (2, .int 3)]) (st2 := [.int 216, .ref 7, .int 143, .ref 7]) rfl rfl ?_
  refine mB hT 9 rfl ?_
  exact hR _ (by decide) _ _ _ rfl rfl
set_option maxRecDepth 20000 in
theorem m_copy_6_4 {n vs : Int32} {wo un h : Int64} {bo : Nat → Int32} {ta tr ro ot : Nat → Int64} {Bm : Nat → Nat → Nat → Int32} {bk : Nat → Nat → Int32} : KX3_copy l D ca ad [.ref 0, .int 6, .int 4] (MW n vs wo un h bo ta tr ro ot Bm bk) none (MW n vs wo un h bo ta tr ro ot (up Bm 4 (Bm 6)) bk) := by
  refine PX3_copy (Nat.le_of_ble_eq_true rfl) ?_
  intro G hT hC hR
  refine mB hT 40 rfl ?_
  refine mB hT 40 rfl ?_
  refine mNf (lv2 := [(3, .int 1), (0, .ref 0), (1, .int 6), (2, .int 4)]) (st2 := [.int 1, .int 16, .ref 1]) rfl rfl ?_
  refine mB hT 40 rfl ?_
  refine mB hT 18 rfl ?_
  refine mWd (w2 := (MW n vs wo un h bo ta tr ro ot (up Bm 4 (up (up (Bm 4) 0 (up (up (up (up (Bm 4 0) 0 (Bm 6 0 0)) 1 (Bm 6 0 1)) 21 (Bm 6 0 21)) 22 (Bm 6 0 22))) 1 (up (up (up (up (Bm 4 1) 0 (Bm 6 1 0)) 1 (Bm 6 1 1)) 21 (Bm 6 1 21)) 22 (Bm 6 1 22)))) bk)) rfl ?_
  refine mB hT 40 rfl ?_
  refine mB hT 40 rfl ?_
  refine mNf (lv2 := [(3, .int 3), (0, .ref 0), (1, .int 6), (2, .int 4)]) (st2 := [.int 3, .int 16, .ref 1]) rfl rfl ?_
  refine mB hT 40 rfl ?_
  refine mB hT 18 rfl ?_
  refine mWd (w2 := (MW n vs wo un h bo ta tr ro ot (up Bm 4 (up (up (up (up (Bm 4) 0 (up (up (up (up (Bm 4 0) 0 (Bm 6 0 0)) 1 (Bm 6 0 1)) 21 (Bm 6 0 21)) 22 (Bm 6 0 22))) 1 (up (up (up (up (Bm 4 1) 0 (Bm 6 1 0)) 1 (Bm 6 1 1)) 21 (Bm 6 1 21)) 22 (Bm 6 1 22))) 2 (up (up (up (up (Bm 4 2) 0 (Bm 6 2 0)) 1 (Bm 6 2 1)) 21 (Bm 6 2 21)) 22 (Bm 6 2 22))) 3 (up (up (up (up (Bm 4 3) 0 (Bm 6 3 0)) 1 (Bm 6 3 1)) 21 (Bm 6 3 21)) 22 (Bm 6 3 22)))) bk)) rfl ?_
  refine mB hT 40 rfl ?_
  refine mNf (lv2 := [(3, .int 0), (0, .ref 0), (1, .int 6), (2, .int 4)]) (st2 := [.int 96, .ref 6, .int 64, .ref 6]) rfl rfl ?_
  refine mB hT 40 rfl ?_
  refine mNf (lv2 := [(3, .int 2), (0, .ref 0), (1, .int 6), (2, .int 4)]) (st2 := []) rfl rfl ?_
  refine mB hT 40 rfl ?_
  refine mB hT 33 rfl ?_
  refine mWd (w2 := (MW n vs wo un h bo ta tr ro ot (up Bm 4 (up (up (up (up (Bm 4) 0 (up (up (up (up (up (up (up (up (up (up (up (up (Bm 4 0) 0 (Bm 6 0 0)) 1 (Bm 6 0 1)) 21 (Bm 6 0 21)) 22 (Bm 6 0 22)) 4 (Bm 6 0 4)) 5 (Bm 6 0 5)) 6 (Bm 6 0 6)) 7 (Bm 6 0 7)) 8 (Bm 6 0 8)) 9 (Bm 6 0 9)) 10 (Bm 6 0 10)) 11 (Bm 6 0 11))) 1 (up (up (up (up (Bm 4 1) 0 (Bm 6 1 0)) 1 (Bm 6 1 1)) 21 (Bm 6 1 21)) 22 (Bm 6 1 22))) 2 (up (up (up (up (Bm 4 2) 0 (Bm 6 2 0)) 1 (Bm 6 2 1)) 21 (Bm 6 2 21)) 22 (Bm 6 2 22))) 3 (up (up (up (up (Bm 4 3) 0 (Bm 6 3 0)) 1 (Bm 6 3 1)) 21 (Bm 6 3 21)) 22 (Bm 6 3 22)))) bk)) rfl ?_
  refine mB hT 40 rfl ?_
  refine mNf (lv2 := [(3, .int 5), (0, .ref 0), (1, .int 6), (2, .int 4)]) (st2 := [.int 5]) rfl rfl ?_
  refine mB hT 40 rfl ?_
  refine mB hT 40 rfl ?_
  refine mNf (lv2 := [(3, .int 7), (0, .ref 0), (1, .int 6), (2, .int 4)]) (st2 := [.int 4, .int 16, .ref 5]) rfl rfl ?_
  refine mB hT 28 rfl ?_
  refine mWd (w2 := (MW n vs wo un h bo ta tr ro ot (up Bm 4 (up (up (up (up (Bm 4) 0 (up (up (up (up (up (up (up (up (up (up (up (up (Bm 4 0) 0 (Bm 6 0 0)) 1 (Bm 6 0 1)) 21 (Bm 6 0 21)) 22 (Bm 6 0 22)) 4 (Bm 6 0 4)) 5 (Bm 6 0 5)) 6 (Bm 6 0 6)) 7 (Bm 6 0 7)) 8 (Bm 6 0 8)) 9 (Bm 6 0 9)) 10 (Bm 6 0 10)) 11 (Bm 6 0 11))) 1 (up (up (up (up (up (up (up (up (up (up (up (up (Bm 4 1) 0 (Bm 6 1 0)) 1 (Bm 6 1 1)) 21 (Bm 6 1 21)) 22 (Bm 6 1 22)) 4 (Bm 6 1 4)) 5 (Bm 6 1 5)) 6 (Bm 6 1 6)) 7 (Bm 6 1 7)) 8 (Bm 6 1 8)) 9 (Bm 6 1 9)) 10 (Bm 6 1 10)) 11 (Bm 6 1 11))) 2 (up (up (up (up (Bm 4 2) 0 (Bm 6 2 0)) 1 (Bm 6 2 1)) 21 (Bm 6 2 21)) 22 (Bm 6 2 22))) 3 (up (up (up (up (Bm 4 3) 0 (Bm 6 3 0)) 1 (Bm 6 3 1)) 21 (Bm 6 3 21)) 22 (Bm 6 3 22)))) bk)) rfl ?_
  refine mB hT 40 rfl ?_
  refine mNf (lv2 := [(3, .int 9), (0, .ref 0), (1, .int 6), (2, .int 4)]) (st2 := [.int 9]) rfl rfl ?_
  refine mB hT 40 rfl ?_
  refine mB hT 40 rfl ?_
  refine mNf (lv2 := [(3, .int 11), (0, .ref 0), (1, .int 6), (2, .int 4)]) (st2 := [.int 4, .int 16, .ref 5]) rfl rfl ?_
  refine mB hT 28 rfl ?_
  refine mWd (w2 := (MW n vs wo un h bo ta tr ro ot (up Bm 4 (up (up (up (up (Bm 4) 0 (up (up (up (up (up (up (up (up (up (up (up (up (Bm 4 0) 0 (Bm 6 0 0)) 1 (Bm 6 0 1)) 21 (Bm 6 0 21)) 22 (Bm 6 0 22)) 4 (Bm 6 0 4)) 5 (Bm 6 0 5)) 6 (Bm 6 0 6)) 7 (Bm 6 0 7)) 8 (Bm 6 0 8)) 9 (Bm 6 0 9)) 10 (Bm 6 0 10)) 11 (Bm 6 0 11))) 1 (up (up (up (up (up (up (up (up (up (up (up (up (Bm 4 1) 0 (Bm 6 1 0)) 1 (Bm 6 1 1)) 21 (Bm 6 1 21)) 22 (Bm 6 1 22)) 4 (Bm 6 1 4)) 5 (Bm 6 1 5)) 6 (Bm 6 1 6)) 7 (Bm 6 1 7)) 8 (Bm 6 1 8)) 9 (Bm 6 1 9)) 10 (Bm 6 1 10)) 11 (Bm 6 1 11))) 2 (up (up (up (up (up (up (up (up (up (up (up (up (Bm 4 2) 0 (Bm 6 2 0)) 1 (Bm 6 2 1)) 21 (Bm 6 2 21)) 22 (Bm 6 2 22)) 4 (Bm 6 2 4)) 5 (Bm 6 2 5)) 6 (Bm 6 2 6)) 7 (Bm 6 2 7)) 8 (Bm 6 2 8)) 9 (Bm 6 2 9)) 10 (Bm 6 2 10)) 11 (Bm 6 2 11))) 3 (up (up (up (up (Bm 4 3) 0 (Bm 6 3 0)) 1 (Bm 6 3 1)) 21 (Bm 6 3 21)) 22 (Bm 6 3 22)))) bk)) rfl ?_
  refine mB hT 40 rfl ?_
  refine mNf (lv2 := [(3, .int 13), (0, .ref 0), (1, .int 6), (2, .int 4)]) (st2 := [.int 13]) rfl rfl ?_
  refine mB hT 40 rfl ?_
  refine mB hT 40 rfl ?_
  refine mNf (lv2 := [(3, .int 15), (0, .ref 0), (1, .int 6), (2, .int 4)]) (st2 := [.int 4, .int 16, .ref 5]) rfl rfl ?_
  refine mB hT 28 rfl ?_
  refine mWd (w2 := (MW n vs wo un h bo ta tr ro ot (up Bm 4 (up (up (up (up (Bm 4) 0 (up (up (up (up (up (up (up (up (up (up (up (up (Bm 4 0) 0 (Bm 6 0 0)) 1 (Bm 6 0 1)) 21 (Bm 6 0 21)) 22 (Bm 6 0 22)) 4 (Bm 6 0 4)) 5 (Bm 6 0 5)) 6 (Bm 6 0 6)) 7 (Bm 6 0 7)) 8 (Bm 6 0 8)) 9 (Bm 6 0 9)) 10 (Bm 6 0 10)) 11 (Bm 6 0 11))) 1 (up (up (up (up (up (up (up (up (up (up (up (up (Bm 4 1) 0 (Bm 6 1 0)) 1 (Bm 6 1 1)) 21 (Bm 6 1 21)) 22 (Bm 6 1 22)) 4 (Bm 6 1 4)) 5 (Bm 6 1 5)) 6 (Bm 6 1 6)) 7 (Bm 6 1 7)) 8 (Bm 6 1 8)) 9 (Bm 6 1 9)) 10 (Bm 6 1 10)) 11 (Bm 6 1 11))) 2 (up (up (up (up (up (up (up (up (up (up (up (up (Bm 4 2) 0 (Bm 6 2 0)) 1 (Bm 6 2 1)) 21 (Bm 6 2 21)) 22 (Bm 6 2 22)) 4 (Bm 6 2 4)) 5 (Bm 6 2 5)) 6 (Bm 6 2 6)) 7 (Bm 6 2 7)) 8 (Bm 6 2 8)) 9 (Bm 6 2 9)) 10 (Bm 6 2 10)) 11 (Bm 6 2 11))) 3 (up (up (up (up (up (up (up (up (up (up (up (up (Bm 4 3) 0 (Bm 6 3 0)) 1 (Bm 6 3 1)) 21 (Bm 6 3 21)) 22 (Bm 6 3 22)) 4 (Bm 6 3 4)) 5 (Bm 6 3 5)) 6 (Bm 6 3 6)) 7 (Bm 6 3 7)) 8 (Bm 6 3 8)) 9 (Bm 6 3 9)) 10 (Bm 6 3 10)) 11 (Bm 6 3 11)))) bk)) rfl ?_
  refine mB hT 40 rfl ?_
  refine mNf (lv2 := [(3, .int 1), (0, .ref 0), (1, .int 6), (2, .int 4)]) (st2 := [.ref 7, .int 145, .ref 7]) rfl rfl ?_
  refine mB hT 40 rfl ?_
  refine mNf (lv2 := [(3, .int 3), (0, .ref 0), (1, .int 6), (2, .int 4)]) (st2 := [.int 147, .ref 7]) rfl rfl ?_
  refine mB hT 40 rfl ?_
  refine mNf (lv2 := [(3, .int 5), (0, .ref 0), (1, .int 6), (2, .int 4)]) (st2 := [.int 144, .ref 7]) rfl rfl ?_
  refine mB hT 40 rfl ?_
  refine mNf (lv2 := [(3, .int 7), (0, .ref 0), (1, .int 6), (2, .int 4)]) (st2 := [.int 36, .ref 7]) rfl rfl ?_
  refine mB hT 13 rfl ?_
  refine mWd (w2 := (MW n vs wo un h bo ta tr ro ot (up Bm 4 (up (up (up (up (Bm 4) 0 (up (up (up (up (up (up (up (up (up (up (up (up (up (up (up (up (up (up (up (up (Bm 4 0) 0 (Bm 6 0 0)) 1 (Bm 6 0 1)) 21 (Bm 6 0 21)) 22 (Bm 6 0 22)) 4 (Bm 6 0 4)) 5 (Bm 6 0 5)) 6 (Bm 6 0 6)) 7 (Bm 6 0 7)) 8 (Bm 6 0 8)) 9 (Bm 6 0 9)) 10 (Bm 6 0 10)) 11 (Bm 6 0 11)) 12 (Bm 6 0 12)) 13 (Bm 6 0 13)) 14 (Bm 6 0 14)) 15 (Bm 6 0 15)) 16 (Bm 6 0 16)) 17 (Bm 6 0 17)) 18 (Bm 6 0 18)) 19 (Bm 6 0 19))) 1 (up (up (up (up (up (up (up (up (up (up (up (up (Bm 4 1) 0 (Bm 6 1 0)) 1 (Bm 6 1 1)) 21 (Bm 6 1 21)) 22 (Bm 6 1 22)) 4 (Bm 6 1 4)) 5 (Bm 6 1 5)) 6 (Bm 6 1 6)) 7 (Bm 6 1 7)) 8 (Bm 6 1 8)) 9 (Bm 6 1 9)) 10 (Bm 6 1 10)) 11 (Bm 6 1 11))) 2 (up (up (up (up (up (up (up (up (up (up (up (up (Bm 4 2) 0 (Bm 6 2 0)) 1 (Bm 6 2 1)) 21 (Bm 6 2 21)) 22 (Bm 6 2 22)) 4 (Bm 6 2 4)) 5 (Bm 6 2 5)) 6 (Bm 6 2 6)) 7 (Bm 6 2 7)) 8 (Bm 6 2 8)) 9 (Bm 6 2 9)) 10 (Bm 6 2 10)) 11 (Bm 6 2 11))) 3 (up (up (up (up (up (up (up (up (up (up (up (up (Bm 4 3) 0 (Bm 6 3 0)) 1 (Bm 6 3 1)) 21 (Bm 6 3 21)) 22 (Bm 6 3 22)) 4 (Bm 6 3 4)) 5 (Bm 6 3 5)) 6 (Bm 6 3 6)) 7 (Bm 6 3 7)) 8 (Bm 6 3 8)) 9 (Bm 6 3 9)) 10 (Bm 6 3 10)) 11 (Bm 6 3 11)))) bk)) rfl ?_
  refine mB hT 40 rfl ?_
  refine mNf (lv2 := [(3, .int 9), (0, .ref 0), (1, .int 6), (2, .int 4)]) (st2 := [.int 225, .ref 7, .int 153, .ref 7]) rfl rfl ?_
  refine mB hT 40 rfl ?_
  refine mNf (lv2 := [(3, .int 11), (0, .ref 0), (1, .int 6), (2, .int 4)]) (st2 := [.int 216, .ref 7, .int 155, .ref 7]) rfl rfl ?_
  refine mB hT 40 rfl ?_
  refine mNf (lv2 := [(3, .int 13), (0, .ref 0), (1, .int 6), (2, .int 4)]) (st2 := [.int 36, .ref 7, .int 157, .ref 7]) rfl rfl ?_
  refine mB hT 40 rfl ?_
  refine mNf (lv2 := [(3, .int 15), (0, .ref 0), (1, .int 6), (2, .int 4)]) (st2 := [.ref 0, .int 159, .ref 7]) rfl rfl ?_
  refine mB hT 8 rfl ?_
  refine mWd (w2 := (MW n vs wo un h bo ta tr ro ot (up Bm 4 (up (up (up (up (Bm 4) 0 (up (up (up (up (up (up (up (up (up (up (up (up (up (up (up (up (up (up (up (up (up (Bm 4 0) 0 (Bm 6 0 0)) 1 (Bm 6 0 1)) 21 (Bm 6 0 21)) 22 (Bm 6 0 22)) 4 (Bm 6 0 4)) 5 (Bm 6 0 5)) 6 (Bm 6 0 6)) 7 (Bm 6 0 7)) 8 (Bm 6 0 8)) 9 (Bm 6 0 9)) 10 (Bm 6 0 10)) 11 (Bm 6 0 11)) 12 (Bm 6 0 12)) 13 (Bm 6 0 13)) 14 (Bm 6 0 14)) 15 (Bm 6 0 15)) 16 (Bm 6 0 16)) 17 (Bm 6 0 17)) 18 (Bm 6 0 18)) 19 (Bm 6 0 19)) 20 (Bm 6 0 20))) 1 (up (up (up (up (up (up (up (up (up (up (up (up (up (up (up (up (up (up (up (Bm 4 1) 0 (Bm 6 1 0)) 1 (Bm 6 1 1)) 21 (Bm 6 1 21)) 22 (Bm 6 1 22)) 4 (Bm 6 1 4)) 5 (Bm 6 1 5)) 6 (Bm 6 1 6)) 7 (Bm 6 1 7)) 8 (Bm 6 1 8)) 9 (Bm 6 1 9)) 10 (Bm 6 1 10)) 11 (Bm 6 1 11)) 12 (Bm 6 1 12)) 13 (Bm 6 1 13)) 14 (Bm 6 1 14)) 15 (Bm 6 1 15)) 16 (Bm 6 1 16)) 17 (Bm 6 1 17)) 18 (Bm 6 1 18))) 2 (up (up (up (up (up (up (up (up (up (up (up (up (Bm 4 2) 0 (Bm 6 2 0)) 1 (Bm 6 2 1)) 21 (Bm 6 2 21)) 22 (Bm 6 2 22)) 4 (Bm 6 2 4)) 5 (Bm 6 2 5)) 6 (Bm 6 2 6)) 7 (Bm 6 2 7)) 8 (Bm 6 2 8)) 9 (Bm 6 2 9)) 10 (Bm 6 2 10)) 11 (Bm 6 2 11))) 3 (up (up (up (up (up (up (up (up (up (up (up (up (Bm 4 3) 0 (Bm 6 3 0)) 1 (Bm 6 3 1)) 21 (Bm 6 3 21)) 22 (Bm 6 3 22)) 4 (Bm 6 3 4)) 5 (Bm 6 3 5)) 6 (Bm 6 3 6)) 7 (Bm 6 3 7)) 8 (Bm 6 3 8)) 9 (Bm 6 3 9)) 10 (Bm 6 3 10)) 11 (Bm 6 3 11)))) bk)) rfl ?_
  refine mB hT 40 rfl ?_
  refine mNf (lv2 := [(3, .int 17), (0, .ref 0), (1, .int 6), (2, .int 4)]) (st2 := [.int 233, .ref 7, .int 161, .ref 7]) rfl rfl ?_
  refine mB hT 40 rfl ?_
  refine mNf (lv2 := [(3, .int 19), (0, .ref 0), (1, .int 6), (2, .int 4)]) (st2 := [.int 216, .ref 7, .int 163, .ref 7]) rfl rfl ?_
  refine mB hT 40 rfl ?_
  refine mNf (lv2 := [(3, .int 21), (0, .ref 0), (1, .int 6), (2, .int 4)]) (st2 := [.int 36, .ref 7, .int 165, .ref 7]) rfl rfl ?_
  refine mB hT 40 rfl ?_
  refine mNf (lv2 := [(3, .int 23), (0, .ref 0), (1, .int 6), (2, .int 4)]) (st2 := [.ref 0, .int 167, .ref 7]) rfl rfl ?_
  refine mB hT 8 rfl ?_
  refine mWd (w2 := (MW n vs wo un h bo ta tr ro ot (up Bm 4 (up (up (up (up (Bm 4) 0 (up (up (up (up (up (up (up (up (up (up (up (up (up (up (up (up (up (up (up (up (up (Bm 4 0) 0 (Bm 6 0 0)) 1 (Bm 6 0 1)) 21 (Bm 6 0 21)) 22 (Bm 6 0 22)) 4 (Bm 6 0 4)) 5 (Bm 6 0 5)) 6 (Bm 6 0 6)) 7 (Bm 6 0 7)) 8 (Bm 6 0 8)) 9 (Bm 6 0 9)) 10 (Bm 6 0 10)) 11 (Bm 6 0 11)) 12 (Bm 6 0 12)) 13 (Bm 6 0 13)) 14 (Bm 6 0 14)) 15 (Bm 6 0 15)) 16 (Bm 6 0 16)) 17 (Bm 6 0 17)) 18 (Bm 6 0 18)) 19 (Bm 6 0 19)) 20 (Bm 6 0 20))) 1 (up (up (up (up (up (up (up (up (up (up (up (up (up (up (up (up (up (up (up (up (up (Bm 4 1) 0 (Bm 6 1 0)) 1 (Bm 6 1 1)) 21 (Bm 6 1 21)) 22 (Bm 6 1 22)) 4 (Bm 6 1 4)) 5 (Bm 6 1 5)) 6 (Bm 6 1 6)) 7 (Bm 6 1 7)) 8 (Bm 6 1 8)) 9 (Bm 6 1 9)) 10 (Bm 6 1 10)) 11 (Bm 6 1 11)) 12 (Bm 6 1 12)) 13 (Bm 6 1 13)) 14 (Bm 6 1 14)) 15 (Bm 6 1 15)) 16 (Bm 6 1 16)) 17 (Bm 6 1 17)) 18 (Bm 6 1 18)) 19 (Bm 6 1 19)) 20 (Bm 6 1 20))) 2 (up (up (up (up (up (up (up (up (up (up (up (up (up (up (up (up (up (up (Bm 4 2) 0 (Bm 6 2 0)) 1 (Bm 6 2 1)) 21 (Bm 6 2 21)) 22 (Bm 6 2 22)) 4 (Bm 6 2 4)) 5 (Bm 6 2 5)) 6 (Bm 6 2 6)) 7 (Bm 6 2 7)) 8 (Bm 6 2 8)) 9 (Bm 6 2 9)) 10 (Bm 6 2 10)) 11 (Bm 6 2 11)) 12 (Bm 6 2 12)) 13 (Bm 6 2 13)) 14 (Bm 6 2 14)) 15 (Bm 6 2 15)) 16 (Bm 6 2 16)) 17 (Bm 6 2 17))) 3 (up (up (up (up (up (up (up (up (up (up (up (up (Bm 4 3) 0 (Bm 6 3 0)) 1 (Bm 6 3 1)) 21 (Bm 6 3 21)) 22 (Bm 6 3 22)) 4 (Bm 6 3 4)) 5 (Bm 6 3 5)) 6 (Bm 6 3 6)) 7 (Bm 6 3 7)) 8 (Bm 6 3 8)) 9 (Bm 6 3 9)) 10 (Bm 6 3 10)) 11 (Bm 6 3 11)))) bk)) rfl ?_
  refine mB hT 40 rfl ?_
  refine mNf (lv2 := [(3, .int 25), (0, .ref 0), (1, .int 6), (2, .int 4)]) (st2 := [.int 241, .ref 7, .int 169, .ref 7]) rfl rfl ?_
  refine mB hT 40 rfl ?_
  refine mNf (lv2 := [(3, .int 27), (0, .ref 0), (1, .int 6), (2, .int 4)]) (st2 := [.int 216, .ref 7, .int 171, .ref 7]) rfl rfl ?_
  refine mB hT 40 rfl ?_
  refine mNf (lv2 := [(3, .int 29), (0, .ref 0), (1, .int 6), (2, .int 4)]) (st2 := [.int 36, .ref 7, .int 173, .ref 7]) rfl rfl ?_
  refine mB hT 40 rfl ?_
  refine mNf (lv2 := [(3, .int 31), (0, .ref 0), (1, .int 6), (2, .int 4)]) (st2 := [.ref 0, .int 175, .ref 7]) rfl rfl ?_
  refine mB hT 8 rfl ?_
  refine mWd (w2 := (MW n vs wo un h bo ta tr ro ot (up Bm 4 (up (up (up (up (Bm 4) 0 (up (up (up (up (up (up (up (up (up (up (up (up (up (up (up (up (up (up (up (up (up (Bm 4 0) 0 (Bm 6 0 0)) 1 (Bm 6 0 1)) 21 (Bm 6 0 21)) 22 (Bm 6 0 22)) 4 (Bm 6 0 4)) 5 (Bm 6 0 5)) 6 (Bm 6 0 6)) 7 (Bm 6 0 7)) 8 (Bm 6 0 8)) 9 (Bm 6 0 9)) 10 (Bm 6 0 10)) 11 (Bm 6 0 11)) 12 (Bm 6 0 12)) 13 (Bm 6 0 13)) 14 (Bm 6 0 14)) 15 (Bm 6 0 15)) 16 (Bm 6 0 16)) 17 (Bm 6 0 17)) 18 (Bm 6 0 18)) 19 (Bm 6 0 19)) 20 (Bm 6 0 20))) 1 (up (up (up (up (up (up (up (up (up (up (up (up (up (up (up (up (up (up (up (up (up (Bm 4 1) 0 (Bm 6 1 0)) 1 (Bm 6 1 1)) 21 (Bm 6 1 21)) 22 (Bm 6 1 22)) 4 (Bm 6 1 4)) 5 (Bm 6 1 5)) 6 (Bm 6 1 6)) 7 (Bm 6 1 7)) 8 (Bm 6 1 8)) 9 (Bm 6 1 9)) 10 (Bm 6 1 10)) 11 (Bm 6 1 11)) 12 (Bm 6 1 12)) 13 (Bm 6 1 13)) 14 (Bm 6 1 14)) 15 (Bm 6 1 15)) 16 (Bm 6 1 16)) 17 (Bm 6 1 17)) 18 (Bm 6 1 18)) 19 (Bm 6 1 19)) 20 (Bm 6 1 20))) 2 (up (up (up (up (up (up (up (up (up (up (up (up (up (up (up (up (up (up (up (up (up (Bm 4 2) 0 (Bm 6 2 0)) 1 (Bm 6 2 1)) 21 (Bm 6 2 21)) 22 (Bm 6 2 22)) 4 (Bm 6 2 4)) 5 (Bm 6 2 5)) 6 (Bm 6 2 6)) 7 (Bm 6 2 7)) 8 (Bm 6 2 8)) 9 (Bm 6 2 9)) 10 (Bm 6 2 10)) 11 (Bm 6 2 11)) 12 (Bm 6 2 12)) 13 (Bm 6 2 13)) 14 (Bm 6 2 14)) 15 (Bm 6 2 15)) 16 (Bm 6 2 16)) 17 (Bm 6 2 17)) 18 (Bm 6 2 18)) 19 (Bm 6 2 19)) 20 (Bm 6 2 20))) 3 (up (up (up (up (up (up (up (up (up (up (up (up (up (up (up (up (up (Bm 4 3) 0 (Bm 6 3 0)) 1 (Bm 6 3 1)) 21 (Bm 6 3 21)) 22 (Bm 6 3 22)) 4 (Bm 6 3 4)) 5 (Bm 6 3 5)) 6 (Bm 6 3 6)) 7 (Bm 6 3 7)) 8 (Bm 6 3 8)) 9 (Bm 6 3 9)) 10 (Bm 6 3 10)) 11 (Bm 6 3 11)) 12 (Bm 6 3 12)) 13 (Bm 6 3 13)) 14 (Bm 6 3 14)) 15 (Bm 6 3 15)) 16 (Bm 6 3 16)))) bk)) rfl ?_
  refine mB hT 40 rfl ?_
  refine mNf (lv2 := [(3, .int 33), (0, .ref 0), (1, .int 6), (2, .int 4)]) (st2 := [.int 249, .ref 7, .int 177, .ref 7]) rfl rfl ?_
  refine mB hT 40 rfl ?_
  refine mNf (lv2 := [(3, .int 35), (0, .ref 0), (1, .int 6), (2, .int 4)]) (st2 := [.int 216, .ref 7, .int 179, .ref 7]) rfl rfl ?_
  refine mB hT 9 rfl ?_
  exact hR _ (by decide) _ _ _ rfl rfl
set_option maxRecDepth 20000 in
theorem m_copy_6_5 {n vs : Int32} {wo un h : Int64} {bo : Nat → Int32} {ta tr ro ot : Nat → Int64} {Bm : Nat → Nat → Nat → Int32} {bk : Nat → Nat → Int32} : KX3_copy l D ca ad [.ref 0, .int 6, .int 5] (MW n vs wo un h bo ta tr ro ot Bm bk) none (MW n vs wo un h bo ta tr ro ot (up Bm 5 (Bm 6)) bk) := by
  refine PX3_copy (Nat.le_of_ble_eq_true rfl) ?_
  intro G hT hC hR
  refine mB hT 40 rfl ?_
  refine mB hT 40 rfl ?_
  refine mNf (lv2 := [(3, .int 1), (0, .ref 0), (1, .int 6), (2, .int 5)]) (st2 := [.int 1, .int 20, .ref 1]) rfl rfl ?_
  refine mB hT 40 rfl ?_
  refine mB hT 18 rfl ?_
  refine mWd (w2 := (MW n vs wo un h bo ta tr ro ot (up Bm 5 (up (up (Bm 5) 0 (up (up (up (up (Bm 5 0) 0 (Bm 6 0 0)) 1 (Bm 6 0 1)) 21 (Bm 6 0 21)) 22 (Bm 6 0 22))) 1 (up (up (up (up (Bm 5 1) 0 (Bm 6 1 0)) 1 (Bm 6 1 1)) 21 (Bm 6 1 21)) 22 (Bm 6 1 22)))) bk)) rfl ?_
  refine mB hT 40 rfl ?_
  refine mB hT 40 rfl ?_
  refine mNf (lv2 := [(3, .int 3), (0, .ref 0), (1, .int 6), (2, .int 5)]) (st2 := [.int 3, .int 20, .ref 1]) rfl rfl ?_
  refine mB hT 40 rfl ?_
  refine mB hT 18 rfl ?_
  refine mWd (w2 := (MW n vs wo un h bo ta tr ro ot (up Bm 5 (up (up (up (up (Bm 5) 0 (up (up (up (up (Bm 5 0) 0 (Bm 6 0 0)) 1 (Bm 6 0 1)) 21 (Bm 6 0 21)) 22 (Bm 6 0 22))) 1 (up (up (up (up (Bm 5 1) 0 (Bm 6 1 0)) 1 (Bm 6 1 1)) 21 (Bm 6 1 21)) 22 (Bm 6 1 22))) 2 (up (up (up (up (Bm 5 2) 0 (Bm 6 2 0)) 1 (Bm 6 2 1)) 21 (Bm 6 2 21)) 22 (Bm 6 2 22))) 3 (up (up (up (up (Bm 5 3) 0 (Bm 6 3 0)) 1 (Bm 6 3 1)) 21 (Bm 6 3 21)) 22 (Bm 6 3 22)))) bk)) rfl ?_
  refine mB hT 40 rfl ?_
  refine mNf (lv2 := [(3, .int 0), (0, .ref 0), (1, .int 6), (2, .int 5)]) (st2 := [.int 96, .ref 6, .int 80, .ref 6]) rfl rfl ?_
  refine mB hT 40 rfl ?_
  refine mNf (lv2 := [(3, .int 2), (0, .ref 0), (1, .int 6), (2, .int 5)]) (st2 := []) rfl rfl ?_
  refine mB hT 40 rfl ?_
  refine mB hT 33 rfl ?_
  refine mWd (w2 := (MW n vs wo un h bo ta tr ro ot (up Bm 5 (up (up (up (up (Bm 5) 0 (up (up (up (up (up (up (up (up (up (up (up (up (Bm 5 0) 0 (Bm 6 0 0)) 1 (Bm 6 0 1)) 21 (Bm 6 0 21)) 22 (Bm 6 0 22)) 4 (Bm 6 0 4)) 5 (Bm 6 0 5)) 6 (Bm 6 0 6)) 7 (Bm 6 0 7)) 8 (Bm 6 0 8)) 9 (Bm 6 0 9)) 10 (Bm 6 0 10)) 11 (Bm 6 0 11))) 1 (up (up (up (up (Bm 5 1) 0 (Bm 6 1 0)) 1 (Bm 6 1 1)) 21 (Bm 6 1 21)) 22 (Bm 6 1 22))) 2 (up (up (up (up (Bm 5 2) 0 (Bm 6 2 0)) 1 (Bm 6 2 1)) 21 (Bm 6 2 21)) 22 (Bm 6 2 22))) 3 (up (up (up (up (Bm 5 3) 0 (Bm 6 3 0)) 1 (Bm 6 3 1)) 21 (Bm 6 3 21)) 22 (Bm 6 3 22)))) bk)) rfl ?_
  refine mB hT 40 rfl ?_
  refine mNf (lv2 := [(3, .int 5), (0, .ref 0), (1, .int 6), (2, .int 5)]) (st2 := [.int 5]) rfl rfl ?_
  refine mB hT 40 rfl ?_
  refine mB hT 40 rfl ?_
  refine mNf (lv2 := [(3, .int 7), (0, .ref 0), (1, .int 6), (2, .int 5)]) (st2 := [.int 5, .int 16, .ref 5]) rfl rfl ?_
  refine mB hT 28 rfl ?_
  refine mWd (w2 := (MW n vs wo un h bo ta tr ro ot (up Bm 5 (up (up (up (up (Bm 5) 0 (up (up (up (up (up (up (up (up (up (up (up (up (Bm 5 0) 0 (Bm 6 0 0)) 1 (Bm 6 0 1)) 21 (Bm 6 0 21)) 22 (Bm 6 0 22)) 4 (Bm 6 0 4)) 5 (Bm 6 0 5)) 6 (Bm 6 0 6)) 7 (Bm 6 0 7)) 8 (Bm 6 0 8)) 9 (Bm 6 0 9)) 10 (Bm 6 0 10)) 11 (Bm 6 0 11))) 1 (up (up (up (up (up (up (up (up (up (up (up (up (Bm 5 1) 0 (Bm 6 1 0)) 1 (Bm 6 1 1)) 21 (Bm 6 1 21)) 22 (Bm 6 1 22)) 4 (Bm 6 1 4)) 5 (Bm 6 1 5)) 6 (Bm 6 1 6)) 7 (Bm 6 1 7)) 8 (Bm 6 1 8)) 9 (Bm 6 1 9)) 10 (Bm 6 1 10)) 11 (Bm 6 1 11))) 2 (up (up (up (up (Bm 5 2) 0 (Bm 6 2 0)) 1 (Bm 6 2 1)) 21 (Bm 6 2 21)) 22 (Bm 6 2 22))) 3 (up (up (up (up (Bm 5 3) 0 (Bm 6 3 0)) 1 (Bm 6 3 1)) 21 (Bm 6 3 21)) 22 (Bm 6 3 22)))) bk)) rfl ?_
  refine mB hT 40 rfl ?_
  refine mNf (lv2 := [(3, .int 9), (0, .ref 0), (1, .int 6), (2, .int 5)]) (st2 := [.int 9]) rfl rfl ?_
  refine mB hT 40 rfl ?_
  refine mB hT 40 rfl ?_
  refine mNf (lv2 := [(3, .int 11), (0, .ref 0), (1, .int 6), (2, .int 5)]) (st2 := [.int 5, .int 16, .ref 5]) rfl rfl ?_
  refine mB hT 28 rfl ?_
  refine mWd (w2 := (MW n vs wo un h bo ta tr ro ot (up Bm 5 (up (up (up (up (Bm 5) 0 (up (up (up (up (up (up (up (up (up (up (up (up (Bm 5 0) 0 (Bm 6 0 0)) 1 (Bm 6 0 1)) 21 (Bm 6 0 21)) 22 (Bm 6 0 22)) 4 (Bm 6 0 4)) 5 (Bm 6 0 5)) 6 (Bm 6 0 6)) 7 (Bm 6 0 7)) 8 (Bm 6 0 8)) 9 (Bm 6 0 9)) 10 (Bm 6 0 10)) 11 (Bm 6 0 11))) 1 (up (up (up (up (up (up (up (up (up (up (up (up (Bm 5 1) 0 (Bm 6 1 0)) 1 (Bm 6 1 1)) 21 (Bm 6 1 21)) 22 (Bm 6 1 22)) 4 (Bm 6 1 4)) 5 (Bm 6 1 5)) 6 (Bm 6 1 6)) 7 (Bm 6 1 7)) 8 (Bm 6 1 8)) 9 (Bm 6 1 9)) 10 (Bm 6 1 10)) 11 (Bm 6 1 11))) 2 (up (up (up (up (up (up (up (up (up (up (up (up (Bm 5 2) 0 (Bm 6 2 0)) 1 (Bm 6 2 1)) 21 (Bm 6 2 21)) 22 (Bm 6 2 22)) 4 (Bm 6 2 4)) 5 (Bm 6 2 5)) 6 (Bm 6 2 6)) 7 (Bm 6 2 7)) 8 (Bm 6 2 8)) 9 (Bm 6 2 9)) 10 (Bm 6 2 10)) 11 (Bm 6 2 11))) 3 (up (up (up (up (Bm 5 3) 0 (Bm 6 3 0)) 1 (Bm 6 3 1)) 21 (Bm 6 3 21)) 22 (Bm 6 3 22)))) bk)) rfl ?_
  refine mB hT 40 rfl ?_
  refine mNf (lv2 := [(3, .int 13), (0, .ref 0), (1, .int 6), (2, .int 5)]) (st2 := [.int 13]) rfl rfl ?_
  refine mB hT 40 rfl ?_
  refine mB hT 40 rfl ?_
  refine mNf (lv2 := [(3, .int 15), (0, .ref 0), (1, .int 6), (2, .int 5)]) (st2 := [.int 5, .int 16, .ref 5]) rfl rfl ?_
  refine mB hT 28 rfl ?_
  refine mWd (w2 := (MW n vs wo un h bo ta tr ro ot (up Bm 5 (up (up (up (up (Bm 5) 0 (up (up (up (up (up (up (up (up (up (up (up (up (Bm 5 0) 0 (Bm 6 0 0)) 1 (Bm 6 0 1)) 21 (Bm 6 0 21)) 22 (Bm 6 0 22)) 4 (Bm 6 0 4)) 5 (Bm 6 0 5)) 6 (Bm 6 0 6)) 7 (Bm 6 0 7)) 8 (Bm 6 0 8)) 9 (Bm 6 0 9)) 10 (Bm 6 0 10)) 11 (Bm 6 0 11))) 1 (up (up (up (up (up (up (up (up (up (up (up (up (Bm 5 1) 0 (Bm 6 1 0)) 1 (Bm 6 1 1)) 21 (Bm 6 1 21)) 22 (Bm 6 1 22)) 4 (Bm 6 1 4)) 5 (Bm 6 1 5)) 6 (Bm 6 1 6)) 7 (Bm 6 1 7)) 8 (Bm 6 1 8)) 9 (Bm 6 1 9)) 10 (Bm 6 1 10)) 11 (Bm 6 1 11))) 2 (up (up (up (up (up (up (up (up (up (up (up (up (Bm 5 2) 0 (Bm 6 2 0)) 1 (Bm 6 2 1)) 21 (Bm 6 2 21)) 22 (Bm 6 2 22)) 4 (Bm 6 2 4)) 5 (Bm 6 2 5)) 6 (Bm 6 2 6)) 7 (Bm 6 2 7)) 8 (Bm 6 2 8)) 9 (Bm 6 2 9)) 10 (Bm 6 2 10)) 11 (Bm 6 2 11))) 3 (up (up (up (up (up (up (up (up (up (up (up (up (Bm 5 3) 0 (Bm 6 3 0)) 1 (Bm 6 3 1)) 21 (Bm 6 3 21)) 22 (Bm 6 3 22)) 4 (Bm 6 3 4)) 5 (Bm 6 3 5)) 6 (Bm 6 3 6)) 7 (Bm 6 3 7)) 8 (Bm 6 3 8)) 9 (Bm 6 3 9)) 10 (Bm 6 3 10)) 11 (Bm 6 3 11)))) bk)) rfl ?_
  refine mB hT 40 rfl ?_
  refine mNf (lv2 := [(3, .int 1), (0, .ref 0), (1, .int 6), (2, .int 5)]) (st2 := [.ref 7, .int 181, .ref 7]) rfl rfl ?_
  refine mB hT 40 rfl ?_
  refine mNf (lv2 := [(3, .int 3), (0, .ref 0), (1, .int 6), (2, .int 5)]) (st2 := [.int 183, .ref 7]) rfl rfl ?_
  refine mB hT 40 rfl ?_
  refine mNf (lv2 := [(3, .int 5), (0, .ref 0), (1, .int 6), (2, .int 5)]) (st2 := [.int 180, .ref 7]) rfl rfl ?_
  refine mB hT 40 rfl ?_
  refine mNf (lv2 := [(3, .int 7), (0, .ref 0), (1, .int 6), (2, .int 5)]) (st2 := [.int 36, .ref 7]) rfl rfl ?_
  refine mB hT 13 rfl ?_
  refine mWd (w2 := (MW n vs wo un h bo ta tr ro ot (up Bm 5 (up (up (up (up (Bm 5) 0 (up (up (up (up (up (up (up (up (up (up (up (up (up (up (up (up (up (up (up (up (Bm 5 0) 0 (Bm 6 0 0)) 1 (Bm 6 0 1)) 21 (Bm 6 0 21)) 22 (Bm 6 0 22)) 4 (Bm 6 0 4)) 5 (Bm 6 0 5)) 6 (Bm 6 0 6)) 7 (Bm 6 0 7)) 8 (Bm 6 0 8)) 9 (Bm 6 0 9)) 10 (Bm 6 0 10)) 11 (Bm 6 0 11)) 12 (Bm 6 0 12)) 13 (Bm 6 0 13)) 14 (Bm 6 0 14)) 15 (Bm 6 0 15)) 16 (Bm 6 0 16)) 17 (Bm 6 0 17)) 18 (Bm 6 0 18)) 19 (Bm 6 0 19))) 1 (up (up (up (up (up (up (up (up (up (up (up (up (Bm 5 1) 0 (Bm 6 1 0)) 1 (Bm 6 1 1)) 21 (Bm 6 1 21)) 22 (Bm 6 1 22)) 4 (Bm 6 1 4)) 5 (Bm 6 1 5)) 6 (Bm 6 1 6)) 7 (Bm 6 1 7)) 8 (Bm 6 1 8)) 9 (Bm 6 1 9)) 10 (Bm 6 1 10)) 11 (Bm 6 1 11))) 2 (up (up (up (up (up (up (up (up (up (up (up (up (Bm 5 2) 0 (Bm 6 2 0)) 1 (Bm 6 2 1)) 21 (Bm 6 2 21)) 22 (Bm 6 2 22)) 4 (Bm 6 2 4)) 5 (Bm 6 2 5)) 6 (Bm 6 2 6)) 7 (Bm 6 2 7)) 8 (Bm 6 2 8)) 9 (Bm 6 2 9)) 10 (Bm 6 2 10)) 11 (Bm 6 2 11))) 3 (up (up (up (up (up (up (up (up (up (up (up (up (Bm 5 3) 0 (Bm 6 3 0)) 1 (Bm 6 3 1)) 21 (Bm 6 3 21)) 22 (Bm 6 3 22)) 4 (Bm 6 3 4)) 5 (Bm 6 3 5)) 6 (Bm 6 3 6)) 7 (Bm 6 3 7)) 8 (Bm 6 3 8)) 9 (Bm 6 3 9)) 10 (Bm 6 3 10)) 11 (Bm 6 3 11)))) bk)) rfl ?_
  refine mB hT 40 rfl ?_
  refine mNf (lv2 := [(3, .int 9), (0, .ref 0), (1, .int 6), (2, .int 5)]) (st2 := [.int 225, .ref 7, .int 189, .ref 7]) rfl rfl ?_
  refine mB hT 40 rfl ?_
  refine mNf (lv2 := [(3, .int 11), (0, .ref 0), (1, .int 6), (2, .int 5)]) (st2 := [.int 216, .ref 7, .int 191, .ref 7]) rfl rfl ?_
  refine mB hT 40 rfl ?_
  refine mNf (lv2 := [(3, .int 13), (0, .ref 0), (1, .int 6), (2, .int 5)]) (st2 := [.int 36, .ref 7, .int 193, .ref 7]) rfl rfl ?_
  refine mB hT 40 rfl ?_
  refine mNf (lv2 := [(3, .int 15), (0, .ref 0), (1, .int 6), (2, .int 5)]) (st2 := [.ref 0, .int 195, .ref 7]) rfl rfl ?_
  refine mB hT 8 rfl ?_
  refine mWd (w2 := (MW n vs wo un h bo ta tr ro ot (up Bm 5 (up (up (up (up (Bm 5) 0 (up (up (up (up (up (up (up (up (up (up (up (up (up (up (up (up (up (up (up (up (up (Bm 5 0) 0 (Bm 6 0 0)) 1 (Bm 6 0 1)) 21 (Bm 6 0 21)) 22 (Bm 6 0 22)) 4 (Bm 6 0 4)) 5 (Bm 6 0 5)) 6 (Bm 6 0 6)) 7 (Bm 6 0 7)) 8 (Bm 6 0 8)) 9 (Bm 6 0 9)) 10 (Bm 6 0 10)) 11 (Bm 6 0 11)) 12 (Bm 6 0 12)) 13 (Bm 6 0 13)) 14 (Bm 6 0 14)) 15 (Bm 6 0 15)) 16 (Bm 6 0 16)) 17 (Bm 6 0 17)) 18 (Bm 6 0 18)) 19 (Bm 6 0 19)) 20 (Bm 6 0 20))) 1 (up (up (up (up (up (up (up (up (up (up (up (up (up (up (up (up (up (up (up (Bm 5 1) 0 (Bm 6 1 0)) 1 (Bm 6 1 1)) 21 (Bm 6 1 21)) 22 (Bm 6 1 22)) 4 (Bm 6 1 4)) 5 (Bm 6 1 5)) 6 (Bm 6 1 6)) 7 (Bm 6 1 7)) 8 (Bm 6 1 8)) 9 (Bm 6 1 9)) 10 (Bm 6 1 10)) 11 (Bm 6 1 11)) 12 (Bm 6 1 12)) 13 (Bm 6 1 13)) 14 (Bm 6 1 14)) 15 (Bm 6 1 15)) 16 (Bm 6 1 16)) 17 (Bm 6 1 17)) 18 (Bm 6 1 18))) 2 (up (up (up (up (up (up (up (up (up (up (up (up (Bm 5 2) 0 (Bm 6 2 0)) 1 (Bm 6 2 1)) 21 (Bm 6 2 21)) 22 (Bm 6 2 22)) 4 (Bm 6 2 4)) 5 (Bm 6 2 5)) 6 (Bm 6 2 6)) 7 (Bm 6 2 7)) 8 (Bm 6 2 8)) 9 (Bm 6 2 9)) 10 (Bm 6 2 10)) 11 (Bm 6 2 11))) 3 (up (up (up (up (up (up (up (up (up (up (up (up (Bm 5 3) 0 (Bm 6 3 0)) 1 (Bm 6 3 1)) 21 (Bm 6 3 21)) 22 (Bm 6 3 22)) 4 (Bm 6 3 4)) 5 (Bm 6 3 5)) 6 (Bm 6 3 6)) 7 (Bm 6 3 7)) 8 (Bm 6 3 8)) 9 (Bm 6 3 9)) 10 (Bm 6 3 10)) 11 (Bm 6 3 11)))) bk)) rfl ?_
  refine mB hT 40 rfl ?_
  refine mNf (lv2 := [(3, .int 17), (0, .ref 0), (1, .int 6), (2, .int 5)]) (st2 := [.int 233, .ref 7, .int 197, .ref 7]) rfl rfl ?_
  refine mB hT 40 rfl ?_
  refine mNf (lv2 := [(3, .int 19), (0, .ref 0), (1, .int 6), (2, .int 5)]) (st2 := [.int 216, .ref 7, .int 199, .ref 7]) rfl rfl ?_
  refine mB hT 40 rfl ?_
  refine mNf (lv2 := [(3, .int 21), (0, .ref 0), (1, .int 6), (2, .int 5)]) (st2 := [.int 36, .ref 7, .int 201, .ref 7]) rfl rfl ?_
  refine mB hT 40 rfl ?_
  refine mNf (lv2 := [(3, .int 23), (0, .ref 0), (1, .int 6), (2, .int 5)]) (st2 := [.ref 0, .int 203, .ref 7]) rfl rfl ?_
  refine mB hT 8 rfl ?_
  refine mWd (w2 := (MW n vs wo un h bo ta tr ro ot (up Bm 5 (up (up (up (up (Bm 5) 0 (up (up (up (up (up (up (up (up (up (up (up (up (up (up (up (up (up (up (up (up (up (Bm 5 0) 0 (Bm 6 0 0)) 1 (Bm 6 0 1)) 21 (Bm 6 0 21)) 22 (Bm 6 0 22)) 4 (Bm 6 0 4)) 5 (Bm 6 0 5)) 6 (Bm 6 0 6)) 7 (Bm 6 0 7)) 8 (Bm 6 0 8)) 9 (Bm 6 0 9)) 10 (Bm 6 0 10)) 11 (Bm 6 0 11)) 12 (Bm 6 0 12)) 13 (Bm 6 0 13)) 14 (Bm 6 0 14)) 15 (Bm 6 0 15)) 16 (Bm 6 0 16)) 17 (Bm 6 0 17)) 18 (Bm 6 0 18)) 19 (Bm 6 0 19)) 20 (Bm 6 0 20))) 1 (up (up (up (up (up (up (up (up (up (up (up (up (up (up (up (up (up (up (up (up (up (Bm 5 1) 0 (Bm 6 1 0)) 1 (Bm 6 1 1)) 21 (Bm 6 1 21)) 22 (Bm 6 1 22)) 4 (Bm 6 1 4)) 5 (Bm 6 1 5)) 6 (Bm 6 1 6)) 7 (Bm 6 1 7)) 8 (Bm 6 1 8)) 9 (Bm 6 1 9)) 10 (Bm 6 1 10)) 11 (Bm 6 1 11)) 12 (Bm 6 1 12)) 13 (Bm 6 1 13)) 14 (Bm 6 1 14)) 15 (Bm 6 1 15)) 16 (Bm 6 1 16)) 17 (Bm 6 1 17)) 18 (Bm 6 1 18)) 19 (Bm 6 1 19)) 20 (Bm 6 1 20))) 2 (up (up (up (up (up (up (up (up (up (up (up (up (up (up (up (up (up (up (Bm 5 2) 0 (Bm 6 2 0)) 1 (Bm 6 2 1)) 21 (Bm 6 2 21)) 22 (Bm 6 2 22)) 4 (Bm 6 2 4)) 5 (Bm 6 2 5)) 6 (Bm 6 2 6)) 7 (Bm 6 2 7)) 8 (Bm 6 2 8)) 9 (Bm 6 2 9)) 10 (Bm 6 2 10)) 11 (Bm 6 2 11)) 12 (Bm 6 2 12)) 13 (Bm 6 2 13)) 14 (Bm 6 2 14)) 15 (Bm 6 2 15)) 16 (Bm 6 2 16)) 17 (Bm 6 2 17))) 3 (up (up (up (up (up (up (up (up (up (up (up (up (Bm 5 3) 0 (Bm 6 3 0)) 1 (Bm 6 3 1)) 21 (Bm 6 3 21)) 22 (Bm 6 3 22)) 4 (Bm 6 3 4)) 5 (Bm 6 3 5)) 6 (Bm 6 3 6)) 7 (Bm 6 3 7)) 8 (Bm 6 3 8)) 9 (Bm 6 3 9)) 10 (Bm 6 3 10)) 11 (Bm 6 3 11)))) bk)) rfl ?_
  refine mB hT 40 rfl ?_
  refine mNf (lv2 := [(3, .int 25), (0, .ref 0), (1, .int 6), (2, .int 5)]) (st2 := [.int 241, .ref 7, .int 205, .ref 7]) rfl rfl ?_
  refine mB hT 40 rfl ?_
  refine mNf (lv2 := [(3, .int 27), (0, .ref 0), (1, .int 6), (2, .int 5)]) (st2 := [.int 216, .ref 7, .int 207, .ref 7]) rfl rfl ?_
  refine mB hT 40 rfl ?_
  refine mNf (lv2 := [(3, .int 29), (0, .ref 0), (1, .int 6), (2, .int 5)]) (st2 := [.int 36, .ref 7, .int 209, .ref 7]) rfl rfl ?_
  refine mB hT 40 rfl ?_
  refine mNf (lv2 := [(3, .int 31), (0, .ref 0), (1, .int 6), (2, .int 5)]) (st2 := [.ref 0, .int 211, .ref 7]) rfl rfl ?_
  refine mB hT 8 rfl ?_
  refine mWd (w2 := (MW n vs wo un h bo ta tr ro ot (up Bm 5 (up (up (up (up (Bm 5) 0 (up (up (up (up (up (up (up (up (up (up (up (up (up (up (up (up (up (up (up (up (up (Bm 5 0) 0 (Bm 6 0 0)) 1 (Bm 6 0 1)) 21 (Bm 6 0 21)) 22 (Bm 6 0 22)) 4 (Bm 6 0 4)) 5 (Bm 6 0 5)) 6 (Bm 6 0 6)) 7 (Bm 6 0 7)) 8 (Bm 6 0 8)) 9 (Bm 6 0 9)) 10 (Bm 6 0 10)) 11 (Bm 6 0 11)) 12 (Bm 6 0 12)) 13 (Bm 6 0 13)) 14 (Bm 6 0 14)) 15 (Bm 6 0 15)) 16 (Bm 6 0 16)) 17 (Bm 6 0 17)) 18 (Bm 6 0 18)) 19 (Bm 6 0 19)) 20 (Bm 6 0 20))) 1 (up (up (up (up (up (up (up (up (up (up (up (up (up (up (up (up (up (up (up (up (up (Bm 5 1) 0 (Bm 6 1 0)) 1 (Bm 6 1 1)) 21 (Bm 6 1 21)) 22 (Bm 6 1 22)) 4 (Bm 6 1 4)) 5 (Bm 6 1 5)) 6 (Bm 6 1 6)) 7 (Bm 6 1 7)) 8 (Bm 6 1 8)) 9 (Bm 6 1 9)) 10 (Bm 6 1 10)) 11 (Bm 6 1 11)) 12 (Bm 6 1 12)) 13 (Bm 6 1 13)) 14 (Bm 6 1 14)) 15 (Bm 6 1 15)) 16 (Bm 6 1 16)) 17 (Bm 6 1 17)) 18 (Bm 6 1 18)) 19 (Bm 6 1 19)) 20 (Bm 6 1 20))) 2 (up (up (up (up (up (up (up (up (up (up (up (up (up (up (up (up (up (up (up (up (up (Bm 5 2) 0 (Bm 6 2 0)) 1 (Bm 6 2 1)) 21 (Bm 6 2 21)) 22 (Bm 6 2 22)) 4 (Bm 6 2 4)) 5 (Bm 6 2 5)) 6 (Bm 6 2 6)) 7 (Bm 6 2 7)) 8 (Bm 6 2 8)) 9 (Bm 6 2 9)) 10 (Bm 6 2 10)) 11 (Bm 6 2 11)) 12 (Bm 6 2 12)) 13 (Bm 6 2 13)) 14 (Bm 6 2 14)) 15 (Bm 6 2 15)) 16 (Bm 6 2 16)) 17 (Bm 6 2 17)) 18 (Bm 6 2 18)) 19 (Bm 6 2 19)) 20 (Bm 6 2 20))) 3 (up (up (up (up (up (up (up (up (up (up (up (up (up (up (up (up (up (Bm 5 3) 0 (Bm 6 3 0)) 1 (Bm 6 3 1)) 21 (Bm 6 3 21)) 22 (Bm 6 3 22)) 4 (Bm 6 3 4)) 5 (Bm 6 3 5)) 6 (Bm 6 3 6)) 7 (Bm 6 3 7)) 8 (Bm 6 3 8)) 9 (Bm 6 3 9)) 10 (Bm 6 3 10)) 11 (Bm 6 3 11)) 12 (Bm 6 3 12)) 13 (Bm 6 3 13)) 14 (Bm 6 3 14)) 15 (Bm 6 3 15)) 16 (Bm 6 3 16)))) bk)) rfl ?_
  refine mB hT 40 rfl ?_
  refine mNf (lv2 := [(3, .int 33), (0, .ref 0), (1, .int 6), (2, .int 5)]) (st2 := [.int 249, .ref 7, .int 213, .ref 7]) rfl rfl ?_
  refine mB hT 40 rfl ?_
  refine mNf (lv2 := [(3, .int 35), (0, .ref 0), (1, .int 6), (2, .int 5)]) (st2 := [.int 216, .ref 7, .int 215, .ref 7]) rfl rfl ?_
  refine mB hT 9 rfl ?_
  exact hR _ (by decide) _ _ _ rfl rfl
set_option maxRecDepth 20000 in
theorem m_copy_0_6 {n vs : Int32} {wo un h : Int64} {bo : Nat → Int32} {ta tr ro ot : Nat → Int64} {Bm : Nat → Nat → Nat → Int32} {bk : Nat → Nat → Int32} : KX3_copy l D ca ad [.ref 0, .int 0, .int 6] (MW n vs wo un h bo ta tr ro ot Bm bk) none (MW n vs wo un h bo ta tr ro ot (up Bm 6 (Bm 0)) bk) := by
  refine PX3_copy (Nat.le_of_ble_eq_true rfl) ?_
  intro G hT hC hR
  refine mB hT 40 rfl ?_
  refine mB hT 40 rfl ?_
  refine mNf (lv2 := [(3, .int 1), (0, .ref 0), (1, .int 0), (2, .int 6)]) (st2 := [.int 1, .int 24, .ref 1]) rfl rfl ?_
  refine mB hT 40 rfl ?_
  refine mB hT 18 rfl ?_
  refine mWd (w2 := (MW n vs wo un h bo ta tr ro ot (up Bm 6 (up (up (Bm 6) 0 (up (up (up (up (Bm 6 0) 0 (Bm 0 0 0)) 1 (Bm 0 0 1)) 21 (Bm 0 0 21)) 22 (Bm 0 0 22))) 1 (up (up (up (up (Bm 6 1) 0 (Bm 0 1 0)) 1 (Bm 0 1 1)) 21 (Bm 0 1 21)) 22 (Bm 0 1 22)))) bk)) rfl ?_
  refine mB hT 40 rfl ?_
  refine mB hT 40 rfl ?_
  refine mNf (lv2 := [(3, .int 3), (0, .ref 0), (1, .int 0), (2, .int 6)]) (st2 := [.int 3, .int 24, .ref 1]) rfl rfl ?_
  refine mB hT 40 rfl ?_
  refine mB hT 18 rfl ?_
  refine mWd (w2 := (MW n vs wo un h bo ta tr ro ot (up Bm 6 (up (up (up (up (Bm 6) 0 (up (up (up (up (Bm 6 0) 0 (Bm 0 0 0)) 1 (Bm 0 0 1)) 21 (Bm 0 0 21)) 22 (Bm 0 0 22))) 1 (up (up (up (up (Bm 6 1) 0 (Bm 0 1 0)) 1 (Bm 0 1 1)) 21 (Bm 0 1 21)) 22 (Bm 0 1 22))) 2 (up (up (up (up (Bm 6 2) 0 (Bm 0 2 0)) 1 (Bm 0 2 1)) 21 (Bm 0 2 21)) 22 (Bm 0 2 22))) 3 (up (up (up (up (Bm 6 3) 0 (Bm 0 3 0)) 1 (Bm 0 3 1)) 21 (Bm 0 3 21)) 22 (Bm 0 3 22)))) bk)) rfl ?_
  refine mB hT 40 rfl ?_
  refine mNf (lv2 := [(3, .int 0), (0, .ref 0), (1, .int 0), (2, .int 6)]) (st2 := [.int 0, .ref 6, .int 96, .ref 6]) rfl rfl ?_
  refine mB hT 40 rfl ?_
  refine mNf (lv2 := [(3, .int 2), (0, .ref 0), (1, .int 0), (2, .int 6)]) (st2 := []) rfl rfl ?_
  refine mB hT 40 rfl ?_
  refine mB hT 33 rfl ?_
  refine mWd (w2 := (MW n vs wo un h bo ta tr ro ot (up Bm 6 (up (up (up (up (Bm 6) 0 (up (up (up (up (up (up (up (up (up (up (up (up (Bm 6 0) 0 (Bm 0 0 0)) 1 (Bm 0 0 1)) 21 (Bm 0 0 21)) 22 (Bm 0 0 22)) 4 (Bm 0 0 4)) 5 (Bm 0 0 5)) 6 (Bm 0 0 6)) 7 (Bm 0 0 7)) 8 (Bm 0 0 8)) 9 (Bm 0 0 9)) 10 (Bm 0 0 10)) 11 (Bm 0 0 11))) 1 (up (up (up (up (Bm 6 1) 0 (Bm 0 1 0)) 1 (Bm 0 1 1)) 21 (Bm 0 1 21)) 22 (Bm 0 1 22))) 2 (up (up (up (up (Bm 6 2) 0 (Bm 0 2 0)) 1 (Bm 0 2 1)) 21 (Bm 0 2 21)) 22 (Bm 0 2 22))) 3 (up (up (up (up (Bm 6 3) 0 (Bm 0 3 0)) 1 (Bm 0 3 1)) 21 (Bm 0 3 21)) 22 (Bm 0 3 22)))) bk)) rfl ?_
  refine mB hT 40 rfl ?_
  refine mNf (lv2 := [(3, .int 5), (0, .ref 0), (1, .int 0), (2, .int 6)]) (st2 := [.int 5]) rfl rfl ?_
  refine mB hT 40 rfl ?_
  refine mB hT 40 rfl ?_
  refine mNf (lv2 := [(3, .int 7), (0, .ref 0), (1, .int 0), (2, .int 6)]) (st2 := [.int 6, .int 16, .ref 5]) rfl rfl ?_
  refine mB hT 28 rfl ?_
  refine mWd (w2 := (MW n vs wo un h bo ta tr ro ot (up Bm 6 (up (up (up (up (Bm 6) 0 (up (up (up (up (up (up (up (up (up (up (up (up (Bm 6 0) 0 (Bm 0 0 0)) 1 (Bm 0 0 1)) 21 (Bm 0 0 21)) 22 (Bm 0 0 22)) 4 (Bm 0 0 4)) 5 (Bm 0 0 5)) 6 (Bm 0 0 6)) 7 (Bm 0 0 7)) 8 (Bm 0 0 8)) 9 (Bm 0 0 9)) 10 (Bm 0 0 10)) 11 (Bm 0 0 11))) 1 (up (up (up (up (up (up (up (up (up (up (up (up (Bm 6 1) 0 (Bm 0 1 0)) 1 (Bm 0 1 1)) 21 (Bm 0 1 21)) 22 (Bm 0 1 22)) 4 (Bm 0 1 4)) 5 (Bm 0 1 5)) 6 (Bm 0 1 6)) 7 (Bm 0 1 7)) 8 (Bm 0 1 8)) 9 (Bm 0 1 9)) 10 (Bm 0 1 10)) 11 (Bm 0 1 11))) 2 (up (up (up (up (Bm 6 2) 0 (Bm 0 2 0)) 1 (Bm 0 2 1)) 21 (Bm 0 2 21)) 22 (Bm 0 2 22))) 3 (up (up (up (up (Bm 6 3) 0 (Bm 0 3 0)) 1 (Bm 0 3 1)) 21 (Bm 0 3 21)) 22 (Bm 0 3 22)))) bk)) rfl ?_
  refine mB hT 40 rfl ?_
  refine mNf (lv2 := [(3, .int 9), (0, .ref 0), (1, .int 0), (2, .int 6)]) (st2 := [.int 9]) rfl rfl ?_
  refine mB hT 40 rfl ?_
  refine mB hT 40 rfl ?_
  refine mNf (lv2 := [(3, .int 11), (0, .ref 0), (1, .int 0), (2, .int 6)]) (st2 := [.int 6, .int 16, .ref 5]) rfl rfl ?_
  refine mB hT 28 rfl ?_
  refine mWd (w2 := (MW n vs wo un h bo ta tr ro ot (up Bm 6 (up (up (up (up (Bm 6) 0 (up (up (up (up (up (up (up (up (up (up (up (up (Bm 6 0) 0 (Bm 0 0 0)) 1 (Bm 0 0 1)) 21 (Bm 0 0 21)) 22 (Bm 0 0 22)) 4 (Bm 0 0 4)) 5 (Bm 0 0 5)) 6 (Bm 0 0 6)) 7 (Bm 0 0 7)) 8 (Bm 0 0 8)) 9 (Bm 0 0 9)) 10 (Bm 0 0 10)) 11 (Bm 0 0 11))) 1 (up (up (up (up (up (up (up (up (up (up (up (up (Bm 6 1) 0 (Bm 0 1 0)) 1 (Bm 0 1 1)) 21 (Bm 0 1 21)) 22 (Bm 0 1 22)) 4 (Bm 0 1 4)) 5 (Bm 0 1 5)) 6 (Bm 0 1 6)) 7 (Bm 0 1 7)) 8 (Bm 0 1 8)) 9 (Bm 0 1 9)) 10 (Bm 0 1 10)) 11 (Bm 0 1 11))) 2 (up (up (up (up (up (up (up (up (up (up (up (up (Bm 6 2) 0 (Bm 0 2 0)) 1 (Bm 0 2 1)) 21 (Bm 0 2 21)) 22 (Bm 0 2 22)) 4 (Bm 0 2 4)) 5 (Bm 0 2 5)) 6 (Bm 0 2 6)) 7 (Bm 0 2 7)) 8 (Bm 0 2 8)) 9 (Bm 0 2 9)) 10 (Bm 0 2 10)) 11 (Bm 0 2 11))) 3 (up (up (up (up (Bm 6 3) 0 (Bm 0 3 0)) 1 (Bm 0 3 1)) 21 (Bm 0 3 21)) 22 (Bm 0 3 22)))) bk)) rfl ?_
  refine mB hT 40 rfl ?_
  refine mNf (lv2 := [(3, .int 13), (0, .ref 0), (1, .int 0), (2, .int 6)]) (st2 := [.int 13]) rfl rfl ?_
  refine mB hT 40 rfl ?_
  refine mB hT 40 rfl ?_
  refine mNf (lv2 := [(3, .int 15), (0, .ref 0), (1, .int 0), (2, .int 6)]) (st2 := [.int 6, .int 16, .ref 5]) rfl rfl ?_
  refine mB hT 28 rfl ?_
  refine mWd (w2 := (MW n vs wo un h bo ta tr ro ot (up Bm 6 (up (up (up (up (Bm 6) 0 (up (up (up (up (up (up (up (up (up (up (up (up (Bm 6 0) 0 (Bm 0 0 0)) 1 (Bm 0 0 1)) 21 (Bm 0 0 21)) 22 (Bm 0 0 22)) 4 (Bm 0 0 4)) 5 (Bm 0 0 5)) 6 (Bm 0 0 6)) 7 (Bm 0 0 7)) 8 (Bm 0 0 8)) 9 (Bm 0 0 9)) 10 (Bm 0 0 10)) 11 (Bm 0 0 11))) 1 (up (up (up (up (up (up (up (up (up (up (up (up (Bm 6 1) 0 (Bm 0 1 0)) 1 (Bm 0 1 1)) 21 (Bm 0 1 21)) 22 (Bm 0 1 22)) 4 (Bm 0 1 4)) 5 (Bm 0 1 5)) 6 (Bm 0 1 6)) 7 (Bm 0 1 7)) 8 (Bm 0 1 8)) 9 (Bm 0 1 9)) 10 (Bm 0 1 10)) 11 (Bm 0 1 11))) 2 (up (up (up (up (up (up (up (up (up (up (up (up (Bm 6 2) 0 (Bm 0 2 0)) 1 (Bm 0 2 1)) 21 (Bm 0 2 21)) 22 (Bm 0 2 22)) 4 (Bm 0 2 4)) 5 (Bm 0 2 5)) 6 (Bm 0 2 6)) 7 (Bm 0 2 7)) 8 (Bm 0 2 8)) 9 (Bm 0 2 9)) 10 (Bm 0 2 10)) 11 (Bm 0 2 11))) 3 (up (up (up (up (up (up (up (up (up (up (up (up (Bm 6 3) 0 (Bm 0 3 0)) 1 (Bm 0 3 1)) 21 (Bm 0 3 21)) 22 (Bm 0 3 22)) 4 (Bm 0 3 4)) 5 (Bm 0 3 5)) 6 (Bm 0 3 6)) 7 (Bm 0 3 7)) 8 (Bm 0 3 8)) 9 (Bm 0 3 9)) 10 (Bm 0 3 10)) 11 (Bm 0 3 11)))) bk)) rfl ?_
  refine mB hT 40 rfl ?_
  refine mNf (lv2 := [(3, .int 1), (0, .ref 0), (1, .int 0), (2, .int 6)]) (st2 := [.ref 7, .int 217, .ref 7]) rfl rfl ?_
  refine mB hT 40 rfl ?_
  refine mNf (lv2 := [(3, .int 3), (0, .ref 0), (1, .int 0), (2, .int 6)]) (st2 := [.int 219, .ref 7]) rfl rfl ?_
  refine mB hT 40 rfl ?_
  refine mNf (lv2 := [(3, .int 5), (0, .ref 0), (1, .int 0), (2, .int 6)]) (st2 := [.int 216, .ref 7]) rfl rfl ?_
  refine mB hT 40 rfl ?_
  refine mNf (lv2 := [(3, .int 7), (0, .ref 0), (1, .int 0), (2, .int 6)]) (st2 := [.int 36, .ref 7]) rfl rfl ?_
  refine mB hT 13 rfl ?_
  refine mWd (w2 := (MW n vs wo un h bo ta tr ro ot (up Bm 6 (up (up (up (up (Bm 6) 0 (up (up (up (up (up (up (up (up (up (up (up (up (up (up (up (up (up (up (up (up (Bm 6 0) 0 (Bm 0 0 0)) 1 (Bm 0 0 1)) 21 (Bm 0 0 21)) 22 (Bm 0 0 22)) 4 (Bm 0 0 4)) 5 (Bm 0 0 5)) 6 (Bm 0 0 6)) 7 (Bm 0 0 7)) 8 (Bm 0 0 8)) 9 (Bm 0 0 9)) 10 (Bm 0 0 10)) 11 (Bm 0 0 11)) 12 (Bm 0 0 12)) 13 (Bm 0 0 13)) 14 (Bm 0 0 14)) 15 (Bm 0 0 15)) 16 (Bm 0 0 16)) 17 (Bm 0 0 17)) 18 (Bm 0 0 18)) 19 (Bm 0 0 19))) 1 (up (up (up (up (up (up (up (up (up (up (up (up (Bm 6 1) 0 (Bm 0 1 0)) 1 (Bm 0 1 1)) 21 (Bm 0 1 21)) 22 (Bm 0 1 22)) 4 (Bm 0 1 4)) 5 (Bm 0 1 5)) 6 (Bm 0 1 6)) 7 (Bm 0 1 7)) 8 (Bm 0 1 8)) 9 (Bm 0 1 9)) 10 (Bm 0 1 10)) 11 (Bm 0 1 11))) 2 (up (up (up (up (up (up (up (up (up (up (up (up (Bm 6 2) 0 (Bm 0 2 0)) 1 (Bm 0 2 1)) 21 (Bm 0 2 21)) 22 (Bm 0 2 22)) 4 (Bm 0 2 4)) 5 (Bm 0 2 5)) 6 (Bm 0 2 6)) 7 (Bm 0 2 7)) 8 (Bm 0 2 8)) 9 (Bm 0 2 9)) 10 (Bm 0 2 10)) 11 (Bm 0 2 11))) 3 (up (up (up (up (up (up (up (up (up (up (up (up (Bm 6 3) 0 (Bm 0 3 0)) 1 (Bm 0 3 1)) 21 (Bm 0 3 21)) 22 (Bm 0 3 22)) 4 (Bm 0 3 4)) 5 (Bm 0 3 5)) 6 (Bm 0 3 6)) 7 (Bm 0 3 7)) 8 (Bm 0 3 8)) 9 (Bm 0 3 9)) 10 (Bm 0 3 10)) 11 (Bm 0 3 11)))) bk)) rfl ?_
  refine mB hT 40 rfl ?_
  refine mNf (lv2 := [(3, .int 9), (0, .ref 0), (1, .int 0), (2, .int 6)]) (st2 := [.int 9, .ref 7, .int 225, .ref 7]) rfl rfl ?_
  refine mB hT 40 rfl ?_
  refine mNf (lv2 := [(3, .int 11), (0, .ref 0), (1, .int 0), (2, .int 6)]) (st2 := [.int 0, .ref 7, .int 227, .ref 7]) rfl rfl ?_
  refine mB hT 40 rfl ?_
  refine mNf (lv2 := [(3, .int 13), (0, .ref 0), (1, .int 0), (2, .int 6)]) (st2 := [.int 36, .ref 7, .int 229, .ref 7]) rfl rfl ?_
  refine mB hT 40 rfl ?_
  refine mNf (lv2 := [(3, .int 15), (0, .ref 0), (1, .int 0), (2, .int 6)]) (st2 := [.ref 0, .int 231, .ref 7]) rfl rfl ?_
  refine mB hT 8 rfl ?_
  refine mWd (w2 := (MW n vs wo un h bo ta tr ro ot (up Bm 6 (up (up (up (up (Bm 6) 0 (up (up (up (up (up (up (up (up (up (up (up (up (up (up (up (up (up (up (up (up (up (Bm 6 0) 0 (Bm 0 0 0)) 1 (Bm 0 0 1)) 21 (Bm 0 0 21)) 22 (Bm 0 0 22)) 4 (Bm 0 0 4)) 5 (Bm 0 0 5)) 6 (Bm 0 0 6)) 7 (Bm 0 0 7)) 8 (Bm 0 0 8)) 9 (Bm 0 0 9)) 10 (Bm 0 0 10)) 11 (Bm 0 0 11)) 12 (Bm 0 0 12)) 13 (Bm 0 0 13)) 14 (Bm 0 0 14)) 15 (Bm 0 0 15)) 16 (Bm 0 0 16)) 17 (Bm 0 0 17)) 18 (Bm 0 0 18)) 19 (Bm 0 0 19)) 20 (Bm 0 0 20))) 1 (up (up (up (up (up (up (up (up (up (up (up (up (up (up (up (up (up (up (up (Bm 6 1) 0 (Bm 0 1 0)) 1 (Bm 0 1 1)) 21 (Bm 0 1 21)) 22 (Bm 0 1 22)) 4 (Bm 0 1 4)) 5 (Bm 0 1 5)) 6 (Bm 0 1 6)) 7 (Bm 0 1 7)) 8 (Bm 0 1 8)) 9 (Bm 0 1 9)) 10 (Bm 0 1 10)) 11 (Bm 0 1 11)) 12 (Bm 0 1 12)) 13 (Bm 0 1 13)) 14 (Bm 0 1 14)) 15 (Bm 0 1 15)) 16 (Bm 0 1 16)) 17 (Bm 0 1 17)) 18 (Bm 0 1 18))) 2 (up (up (up (up (up (up (up (up (up (up (up (up (Bm 6 2) 0 (Bm 0 2 0)) 1 (Bm 0 2 1)) 21 (Bm 0 2 21)) 22 (Bm 0 2 22)) 4 (Bm 0 2 4)) 5 (Bm 0 2 5)) 6 (Bm 0 2 6)) 7 (Bm 0 2 7)) 8 (Bm 0 2 8)) 9 (Bm 0 2 9)) 10 (Bm 0 2 10)) 11 (Bm 0 2 11))) 3 (up (up (up (up (up (up (up (up (up (up (up (up (Bm 6 3) 0 (Bm 0 3 0)) 1 (Bm 0 3 1)) 21 (Bm 0 3 21)) 22 (Bm 0 3 22)) 4 (Bm 0 3 4)) 5 (Bm 0 3 5)) 6 (Bm 0 3 6)) 7 (Bm 0 3 7)) 8 (Bm 0 3 8)) 9 (Bm 0 3 9)) 10 (Bm 0 3 10)) 11 (Bm 0 3 11)))) bk)) rfl ?_
  refine mB hT 40 rfl ?_
  refine mNf (lv2 := [(3, .int 17), (0, .ref 0), (1, .int 0), (2, .int 6)]) (st2 := [.int 17, .ref 7, .int 233, .ref 7]) rfl rfl ?_
  refine mB hT 40 rfl ?_
  refine mNf (lv2 := [(3, .int 19), (0, .ref 0), (1, .int 0), (2, .int 6)]) (st2 := [.int 0, .ref 7, .int 235, .ref 7]) rfl rfl ?_
  refine mB hT 40 rfl ?_
  refine mNf (lv2 := [(3, .int 21), (0, .ref 0), (1, .int 0), (2, .int 6)]) (st2 := [.int 36, .ref 7, .int 237, .ref 7]) rfl rfl ?_
  refine mB hT 40 rfl ?_
  refine mNf (lv2 := [(3, .int 23), (0, .ref 0), (1, .int 0), (2, .int 6)]) (st2 := [.ref 0, .int 239, .ref 7]) rfl rfl ?_
  refine mB hT 8 rfl ?_
  refine mWd (w2 := (MW n vs wo un h bo ta tr ro ot (up Bm 6 (up (up (up (up (Bm 6) 0 (up (up (up (up (up (up (up (up (up (up (up (up (up (up (up (up (up (up (up (up (up (Bm 6 0) 0 (Bm 0 0 0)) 1 (Bm 0 0 1)) 21 (Bm 0 0 21)) 22 (Bm 0 0 22)) 4 (Bm 0 0 4)) 5 (Bm 0 0 5)) 6 (Bm 0 0 6)) 7 (Bm 0 0 7)) 8 (Bm 0 0 8)) 9 (Bm 0 0 9)) 10 (Bm 0 0 10)) 11 (Bm 0 0 11)) 12 (Bm 0 0 12)) 13 (Bm 0 0 13)) 14 (Bm 0 0 14)) 15 (Bm 0 0 15)) 16 (Bm 0 0 16)) 17 (Bm 0 0 17)) 18 (Bm 0 0 18)) 19 (Bm 0 0 19)) 20 (Bm 0 0 20))) 1 (up (up (up (up (up (up (up (up (up (up (up (up (up (up (up (up (up (up (up (up (up (Bm 6 1) 0 (Bm 0 1 0)) 1 (Bm 0 1 1)) 21 (Bm 0 1 21)) 22 (Bm 0 1 22)) 4 (Bm 0 1 4)) 5 (Bm 0 1 5)) 6 (Bm 0 1 6)) 7 (Bm 0 1 7)) 8 (Bm 0 1 8)) 9 (Bm 0 1 9)) 10 (Bm 0 1 10)) 11 (Bm 0 1 11)) 12 (Bm 0 1 12)) 13 (Bm 0 1 13)) 14 (Bm 0 1 14)) 15 (Bm 0 1 15)) 16 (Bm 0 1 16)) 17 (Bm 0 1 17)) 18 (Bm 0 1 18)) 19 (Bm 0 1 19)) 20 (Bm 0 1 20))) 2 (up (up (up (up (up (up (up (up (up (up (up (up (up (up (up (up (up (up (Bm 6 2) 0 (Bm 0 2 0)) 1 (Bm 0 2 1)) 21 (Bm 0 2 21)) 22 (Bm 0 2 22)) 4 (Bm 0 2 4)) 5 (Bm 0 2 5)) 6 (Bm 0 2 6)) 7 (Bm 0 2 7)) 8 (Bm 0 2 8)) 9 (Bm 0 2 9)) 10 (Bm 0 2 10)) 11 (Bm 0 2 11)) 12 (Bm 0 2 12)) 13 (Bm 0 2 13)) 14 (Bm 0 2 14)) 15 (Bm 0 2 15)) 16 (Bm 0 2 16)) 17 (Bm 0 2 17))) 3 (up (up (up (up (up (up (up (up (up (up (up (up (Bm 6 3) 0 (Bm 0 3 0)) 1 (Bm 0 3 1)) 21 (Bm 0 3 21)) 22 (Bm 0 3 22)) 4 (Bm 0 3 4)) 5 (Bm 0 3 5)) 6 (Bm 0 3 6)) 7 (Bm 0 3 7)) 8 (Bm 0 3 8)) 9 (Bm 0 3 9)) 10 (Bm 0 3 10)) 11 (Bm 0 3 11)))) bk)) rfl ?_
  refine mB hT 40 rfl ?_
  refine mNf (lv2 := [(3, .int 25), (0, .ref 0), (1, .int 0), (2, .int 6)]) (st2 := [.int 25, .ref 7, .int 241, .ref 7]) rfl rfl ?_
  refine mB hT 40 rfl ?_
  refine mNf (lv2 := [(3, .int 27), (0, .ref 0), (1, .int 0), (2, .int 6)]) (st2 := [.int 0, .ref 7, .int 243, .ref 7]) rfl rfl ?_
  refine mB hT 40 rfl ?_
  refine mNf (lv2 := [(3, .int 29), (0, .ref 0), (1, .int 0), (2, .int 6)]) (st2 := [.int 36, .ref 7, .int 245, .ref 7]) rfl rfl ?_
  refine mB hT 40 rfl ?_
  refine mNf (lv2 := [(3, .int 31), (0, .ref 0), (1, .int 0), (2, .int 6)]) (st2 := [.ref 0, .int 247, .ref 7]) rfl rfl ?_
  refine mB hT 8 rfl ?_
  refine mWd (w2 := (MW n vs wo un h bo ta tr ro ot (up Bm 6 (up (up (up (up (Bm 6) 0 (up (up (up (up (up (up (up (up (up (up (up (up (up (up (up (up (up (up (up (up (up (Bm 6 0) 0 (Bm 0 0 0)) 1 (Bm 0 0 1)) 21 (Bm 0 0 21)) 22 (Bm 0 0 22)) 4 (Bm 0 0 4)) 5 (Bm 0 0 5)) 6 (Bm 0 0 6)) 7 (Bm 0 0 7)) 8 (Bm 0 0 8)) 9 (Bm 0 0 9)) 10 (Bm 0 0 10)) 11 (Bm 0 0 11)) 12 (Bm 0 0 12)) 13 (Bm 0 0 13)) 14 (Bm 0 0 14)) 15 (Bm 0 0 15)) 16 (Bm 0 0 16)) 17 (Bm 0 0 17)) 18 (Bm 0 0 18)) 19 (Bm 0 0 19)) 20 (Bm 0 0 20))) 1 (up (up (up (up (up (up (up (up (up (up (up (up (up (up (up (up (up (up (up (up (up (Bm 6 1) 0 (Bm 0 1 0)) 1 (Bm 0 1 1)) 21 (Bm 0 1 21)) 22 (Bm 0 1 22)) 4 (Bm 0 1 4)) 5 (Bm 0 1 5)) 6 (Bm 0 1 6)) 7 (Bm 0 1 7)) 8 (Bm 0 1 8)) 9 (Bm 0 1 9)) 10 (Bm 0 1 10)) 11 (Bm 0 1 11)) 12 (Bm 0 1 12)) 13 (Bm 0 1 13)) 14 (Bm 0 1 14)) 15 (Bm 0 1 15)) 16 (Bm 0 1 16)) 17 (Bm 0 1 17)) 18 (Bm 0 1 18)) 19 (Bm 0 1 19)) 20 (Bm 0 1 20))) 2 (up (up (up (up (up (up (up (up (up (up (up (up (up (up (up (up (up (up (up (up (up (Bm 6 2) 0 (Bm 0 2 0)) 1 (Bm 0 2 1)) 21 (Bm 0 2 21)) 22 (Bm 0 2 22)) 4 (Bm 0 2 4)) 5 (Bm 0 2 5)) 6 (Bm 0 2 6)) 7 (Bm 0 2 7)) 8 (Bm 0 2 8)) 9 (Bm 0 2 9)) 10 (Bm 0 2 10)) 11 (Bm 0 2 11)) 12 (Bm 0 2 12)) 13 (Bm 0 2 13)) 14 (Bm 0 2 14)) 15 (Bm 0 2 15)) 16 (Bm 0 2 16)) 17 (Bm 0 2 17)) 18 (Bm 0 2 18)) 19 (Bm 0 2 19)) 20 (Bm 0 2 20))) 3 (up (up (up (up (up (up (up (up (up (up (up (up (up (up (up (up (up (Bm 6 3) 0 (Bm 0 3 0)) 1 (Bm 0 3 1)) 21 (Bm 0 3 21)) 22 (Bm 0 3 22)) 4 (Bm 0 3 4)) 5 (Bm 0 3 5)) 6 (Bm 0 3 6)) 7 (Bm 0 3 7)) 8 (Bm 0 3 8)) 9 (Bm 0 3 9)) 10 (Bm 0 3 10)) 11 (Bm 0 3 11)) 12 (Bm 0 3 12)) 13 (Bm 0 3 13)) 14 (Bm 0 3 14)) 15 (Bm 0 3 15)) 16 (Bm 0 3 16)))) bk)) rfl ?_
  refine mB hT 40 rfl ?_
  refine mNf (lv2 := [(3, .int 33), (0, .ref 0), (1, .int 0), (2, .int 6)]) (st2 := [.int 33, .ref 7, .int 249, .ref 7]) rfl rfl ?_
  refine mB hT 40 rfl ?_
  refine mNf (lv2 := [(3, .int 35), (0, .ref 0), (1, .int 0), (2, .int 6)]) (st2 := [.int 0, .ref 7, .int 251, .ref 7]) rfl rfl ?_
  refine mB hT 9 rfl ?_
  exact hR _ (by decide) _ _ _ rfl rfl
set_option maxRecDepth 20000 in
theorem m_copy_1_6 {n vs : Int32} {wo un h : Int64} {bo : Nat → Int32} {ta tr ro ot : Nat → Int64} {Bm : Nat → Nat → Nat → Int32} {bk : Nat → Nat → Int32} : KX3_copy l D ca ad [.ref 0, .int 1, .int 6] (MW n vs wo un h bo ta tr ro ot Bm bk) none (MW n vs wo un h bo ta tr ro ot (up Bm 6 (Bm 1)) bk) := by
  refine PX3_copy (Nat.le_of_ble_eq_true rfl) ?_
  intro G hT hC hR
  refine mB hT 40 rfl ?_
  refine mB hT 40 rfl ?_
  refine mNf (lv2 := [(3, .int 1), (0, .ref 0), (1, .int 1), (2, .int 6)]) (st2 := [.int 1, .int 24, .ref 1]) rfl rfl ?_
  refine mB hT 40 rfl ?_
  refine mB hT 18 rfl ?_
  refine mWd (w2 := (MW n vs wo un h bo ta tr ro ot (up Bm 6 (up (up (Bm 6) 0 (up (up (up (up (Bm 6 0) 0 (Bm 1 0 0)) 1 (Bm 1 0 1)) 21 (Bm 1 0 21)) 22 (Bm 1 0 22))) 1 (up (up (up (up (Bm 6 1) 0 (Bm 1 1 0)) 1 (Bm 1 1 1)) 21 (Bm 1 1 21)) 22 (Bm 1 1 22)))) bk)) rfl ?_
  refine mB hT 40 rfl ?_
  refine mB hT 40 rfl ?_
  refine mNf (lv2 := [(3, .int 3), (0, .ref 0), (1, .int 1), (2, .int 6)]) (st2 := [.int 3, .int 24, .ref 1]) rfl rfl ?_
  refine mB hT 40 rfl ?_
  refine mB hT 18 rfl ?_
  refine mWd (w2 := (MW n vs wo un h bo ta tr ro ot (up Bm 6 (up (up (up (up (Bm 6) 0 (up (up (up (up (Bm 6 0) 0 (Bm 1 0 0)) 1 (Bm 1 0 1)) 21 (Bm 1 0 21)) 22 (Bm 1 0 22))) 1 (up (up (up (up (Bm 6 1) 0 (Bm 1 1 0)) 1 (Bm 1 1 1)) 21 (Bm 1 1 21)) 22 (Bm 1 1 22))) 2 (up (up (up (up (Bm 6 2) 0 (Bm 1 2 0)) 1 (Bm 1 2 1)) 21 (Bm 1 2 21)) 22 (Bm 1 2 22))) 3 (up (up (up (up (Bm 6 3) 0 (Bm 1 3 0)) 1 (Bm 1 3 1)) 21 (Bm 1 3 21)) 22 (Bm 1 3 22)))) bk)) rfl ?_
  refine mB hT 40 rfl ?_
  refine mNf (lv2 := [(3, .int 0), (0, .ref 0), (1, .int 1), (2, .int 6)]) (st2 := [.int 16, .ref 6, .int 96, .ref 6]) rfl rfl ?_
  refine mB hT 40 rfl ?_
  refine mNf (lv2 := [(3, .int 2), (0, .ref 0), (1, .int 1), (2, .int 6)]) (st2 := []) rfl rfl ?_
  refine mB hT 40 rfl ?_
  refine mB hT 33 rfl ?_
  refine mWd (w2 := (MW n vs wo un h bo ta tr ro ot (up Bm 6 (up (up (up (up (Bm 6) 0 (up (up (up (up (up (up (up (up (up (up (up (up (Bm 6 0) 0 (Bm 1 0 0)) 1 (Bm 1 0 1)) 21 (Bm 1 0 21)) 22 (Bm 1 0 22)) 4 (Bm 1 0 4)) 5 (Bm 1 0 5)) 6 (Bm 1 0 6)) 7 (Bm 1 0 7)) 8 (Bm 1 0 8)) 9 (Bm 1 0 9)) 10 (Bm 1 0 10)) 11 (Bm 1 0 11))) 1 (up (up (up (up (Bm 6 1) 0 (Bm 1 1 0)) 1 (Bm 1 1 1)) 21 (Bm 1 1 21)) 22 (Bm 1 1 22))) 2 (up (up (up (up (Bm 6 2) 0 (Bm 1 2 0)) 1 (Bm 1 2 1)) 21 (Bm 1 2 21)) 22 (Bm 1 2 22))) 3 (up (up (up (up (Bm 6 3) 0 (Bm 1 3 0)) 1 (Bm 1 3 1)) 21 (Bm 1 3 21)) 22 (Bm 1 3 22)))) bk)) rfl ?_
  refine mB hT 40 rfl ?_
  refine mNf (lv2 := [(3, .int 5), (0, .ref 0), (1, .int 1), (2, .int 6)]) (st2 := [.int 5]) rfl rfl ?_
  refine mB hT 40 rfl ?_
  refine mB hT 40 rfl ?_
  refine mNf (lv2 := [(3, .int 7), (0, .ref 0), (1, .int 1), (2, .int 6)]) (st2 := [.int 6, .int 16, .ref 5]) rfl rfl ?_
  refine mB hT 28 rfl ?_
  refine mWd (w2 := (MW n vs wo un h bo ta tr ro ot (up Bm 6 (up (up (up (up (Bm 6) 0 (up (up (up (up (up (up (up (up (up (up (up (up (Bm 6 0) 0 (Bm 1 0 0)) 1 (Bm 1 0 1)) 21 (Bm 1 0 21)) 22 (Bm 1 0 22)) 4 (Bm 1 0 4)) 5 (Bm 1 0 5)) 6 (Bm 1 0 6)) 7 (Bm 1 0 7)) 8 (Bm 1 0 8)) 9 (Bm 1 0 9)) 10 (Bm 1 0 10)) 11 (Bm 1 0 11))) 1 (up (up (up (up (up (up (up (up (up (up (up (up (Bm 6 1) 0 (Bm 1 1 0)) 1 (Bm 1 1 1)) 21 (Bm 1 1 21)) 22 (Bm 1 1 22)) 4 (Bm 1 1 4)) 5 (Bm 1 1 5)) 6 (Bm 1 1 6)) 7 (Bm 1 1 7)) 8 (Bm 1 1 8)) 9 (Bm 1 1 9)) 10 (Bm 1 1 10)) 11 (Bm 1 1 11))) 2 (up (up (up (up (Bm 6 2) 0 (Bm 1 2 0)) 1 (Bm 1 2 1)) 21 (Bm 1 2 21)) 22 (Bm 1 2 22))) 3 (up (up (up (up (Bm 6 3) 0 (Bm 1 3 0)) 1 (Bm 1 3 1)) 21 (Bm 1 3 21)) 22 (Bm 1 3 22)))) bk)) rfl ?_
  refine mB hT 40 rfl ?_
  refine mNf (lv2 := [(3, .int 9), (0, .ref 0), (1, .int 1), (2, .int 6)]) (st2 := [.int 9]) rfl rfl ?_
  refine mB hT 40 rfl ?_
  refine mB hT 40 rfl ?_
  refine mNf (lv2 := [(3, .int 11), (0, .ref 0), (1, .int 1), (2, .int 6)]) (st2 := [.int 6, .int 16, .ref 5]) rfl rfl ?_
  refine mB hT 28 rfl ?_
  refine mWd (w2 := (MW n vs wo un h bo ta tr ro ot (up Bm 6 (up (up (up (up (Bm 6) 0 (up (up (up (up (up (up (up (up (up (up (up (up (Bm 6 0) 0 (Bm 1 0 0)) 1 (Bm 1 0 1)) 21 (Bm 1 0 21)) 22 (Bm 1 0 22)) 4 (Bm 1 0 4)) 5 (Bm 1 0 5)) 6 (Bm 1 0 6)) 7 (Bm 1 0 7)) 8 (Bm 1 0 8)) 9 (Bm 1 0 9)) 10 (Bm 1 0 10)) 11 (Bm 1 0 11))) 1 (up (up (up (up (up (up (up (up (up (up (up (up (Bm 6 1) 0 (Bm 1 1 0)) 1 (Bm 1 1 1)) 21 (Bm 1 1 21)) 22 (Bm 1 1 22)) 4 (Bm 1 1 4)) 5 (Bm 1 1 5)) 6 (Bm 1 1 6)) 7 (Bm 1 1 7)) 8 (Bm 1 1 8)) 9 (Bm 1 1 9)) 10 (Bm 1 1 10)) 11 (Bm 1 1 11))) 2 (up (up (up (up (up (up (up (up (up (up (up (up (Bm 6 2) 0 (Bm 1 2 0)) 1 (Bm 1 2 1)) 21 (Bm 1 2 21)) 22 (Bm 1 2 22)) 4 (Bm 1 2 4)) 5 (Bm 1 2 5)) 6 (Bm 1 2 6)) 7 (Bm 1 2 7)) 8 (Bm 1 2 8)) 9 (Bm 1 2 9)) 10 (Bm 1 2 10)) 11 (Bm 1 2 11))) 3 (up (up (up (up (Bm 6 3) 0 (Bm 1 3 0)) 1 (Bm 1 3 1)) 21 (Bm 1 3 21)) 22 (Bm 1 3 22)))) bk)) rfl ?_
  refine mB hT 40 rfl ?_
  refine mNf (lv2 := [(3, .int 13), (0, .ref 0), (1, .int 1), (2, .int 6)]) (st2 := [.int 13]) rfl rfl ?_
  refine mB hT 40 rfl ?_
  refine mB hT 40 rfl ?_
  refine mNf (lv2 := [(3, .int 15), (0, .ref 0), (1, .int 1), (2, .int 6)]) (st2 := [.int 6, .int 16, .ref 5]) rfl rfl ?_
  refine mB hT 28 rfl ?_
  refine mWd (w2 := (MW n vs wo un h bo ta tr ro ot (up Bm 6 (up (up (up (up (Bm 6) 0 (up (up (up (up (up (up (up (up (up (up (up (up (Bm 6 0) 0 (Bm 1 0 0)) 1 (Bm 1 0 1)) 21 (Bm 1 0 21)) 22 (Bm 1 0 22)) 4 (Bm 1 0 4)) 5 (Bm 1 0 5)) 6 (Bm 1 0 6)) 7 (Bm 1 0 7)) 8 (Bm 1 0 8)) 9 (Bm 1 0 9)) 10 (Bm 1 0 10)) 11 (Bm 1 0 11))) 1 (up (up (up (up (up (up (up (up (up (up (up (up (Bm 6 1) 0 (Bm 1 1 0)) 1 (Bm 1 1 1)) 21 (Bm 1 1 21)) 22 (Bm 1 1 22)) 4 (Bm 1 1 4)) 5 (Bm 1 1 5)) 6 (Bm 1 1 6)) 7 (Bm 1 1 7)) 8 (Bm 1 1 8)) 9 (Bm 1 1 9)) 10 (Bm 1 1 10)) 11 (Bm 1 1 11))) 2 (up (up (up (up (up (up (up (up (up (up (up (up (Bm 6 2) 0 (Bm 1 2 0)) 1 (Bm 1 2 1)) 21 (Bm 1 2 21)) 22 (Bm 1 2 22)) 4 (Bm 1 2 4)) 5 (Bm 1 2 5)) 6 (Bm 1 2 6)) 7 (Bm 1 2 7)) 8 (Bm 1 2 8)) 9 (Bm 1 2 9)) 10 (Bm 1 2 10)) 11 (Bm 1 2 11))) 3 (up (up (up (up (up (up (up (up (up (up (up (up (Bm 6 3) 0 (Bm 1 3 0)) 1 (Bm 1 3 1)) 21 (Bm 1 3 21)) 22 (Bm 1 3 22)) 4 (Bm 1 3 4)) 5 (Bm 1 3 5)) 6 (Bm 1 3 6)) 7 (Bm 1 3 7)) 8 (Bm 1 3 8)) 9 (Bm 1 3 9)) 10 (Bm 1 3 10)) 11 (Bm 1 3 11)))) bk)) rfl ?_
  refine mB hT 40 rfl ?_
  refine mNf (lv2 := [(3, .int 1), (0, .ref 0), (1, .int 1), (2, .int 6)]) (st2 := [.ref 7, .int 217, .ref 7]) rfl rfl ?_
  refine mB hT 40 rfl ?_
  refine mNf (lv2 := [(3, .int 3), (0, .ref 0), (1, .int 1), (2, .int 6)]) (st2 := [.int 219, .ref 7]) rfl rfl ?_
  refine mB hT 40 rfl ?_
  refine mNf (lv2 := [(3, .int 5), (0, .ref 0), (1, .int 1), (2, .int 6)]) (st2 := [.int 216, .ref 7]) rfl rfl ?_
  refine mB hT 40 rfl ?_
  refine mNf (lv2 := [(3, .int 7), (0, .ref 0), (1, .int 1), (2, .int 6)]) (st2 := [.int 36, .ref 7]) rfl rfl ?_
  refine mB hT 13 rfl ?_
  refine mWd (w2 := (MW n vs wo un h bo ta tr ro ot (up Bm 6 (up (up (up (up (Bm 6) 0 (up (up (up (up (up (up (up (up (up (up (up (up (up (up (up (up (up (up (up (up (Bm 6 0) 0 (Bm 1 0 0)) 1 (Bm 1 0 1)) 21 (Bm 1 0 21)) 22 (Bm 1 0 22)) 4 (Bm 1 0 4)) 5 (Bm 1 0 5)) 6 (Bm 1 0 6)) 7 (Bm 1 0 7)) 8 (Bm 1 0 8)) 9 (Bm 1 0 9)) 10 (Bm 1 0 10)) 11 (Bm 1 0 11)) 12 (Bm 1 0 12)) 13 (Bm 1 0 13)) 14 (Bm 1 0 14)) 15 (Bm 1 0 15)) 16 (Bm 1 0 16)) 17 (Bm 1 0 17)) 18 (Bm 1 0 18)) 19 (Bm 1 0 19))) 1 (up (up (up (up (up (up (up (up (up (up (up (up (Bm 6 1) 0 (Bm 1 1 0)) 1 (Bm 1 1 1)) 21 (Bm 1 1 21)) 22 (Bm 1 1 22)) 4 (Bm 1 1 4)) 5 (Bm 1 1 5)) 6 (Bm 1 1 6)) 7 (Bm 1 1 7)) 8 (Bm 1 1 8)) 9 (Bm 1 1 9)) 10 (Bm 1 1 10)) 11 (Bm 1 1 11))) 2 (up (up (up (up (up (up (up (up (up (up (up (up (Bm 6 2) 0 (Bm 1 2 0)) 1 (Bm 1 2 1)) 21 (Bm 1 2 21)) 22 (Bm 1 2 22)) 4 (Bm 1 2 4)) 5 (Bm 1 2 5)) 6 (Bm 1 2 6)) 7 (Bm 1 2 7)) 8 (Bm 1 2 8)) 9 (Bm 1 2 9)) 10 (Bm 1 2 10)) 11 (Bm 1 2 11))) 3 (up (up (up (up (up (up (up (up (up (up (up (up (Bm 6 3) 0 (Bm 1 3 0)) 1 (Bm 1 3 1)) 21 (Bm 1 3 21)) 22 (Bm 1 3 22)) 4 (Bm 1 3 4)) 5 (Bm 1 3 5)) 6 (Bm 1 3 6)) 7 (Bm 1 3 7)) 8 (Bm 1 3 8)) 9 (Bm 1 3 9)) 10 (Bm 1 3 10)) 11 (Bm 1 3 11)))) bk)) rfl ?_
  refine mB hT 40 rfl ?_
  refine mNf (lv2 := [(3, .int 9), (0, .ref 0), (1, .int 1), (2, .int 6)]) (st2 := [.int 45, .ref 7, .int 225, .ref 7]) rfl rfl ?_
  refine mB hT 40 rfl ?_
  refine mNf (lv2 := [(3, .int 11), (0, .ref 0), (1, .int 1), (2, .int 6)]) (st2 := [.int 36, .ref 7, .int 227, .ref 7]) rfl rfl ?_
  refine mB hT 40 rfl ?_
  refine mNf (lv2 := [(3, .int 13), (0, .ref 0), (1, .int 1), (2, .int 6)]) (st2 := [.int 36, .ref 7, .int 229, .ref 7]) rfl rfl ?_
  refine mB hT 40 rfl ?_
  refine mNf (lv2 := [(3, .int 15), (0, .ref 0), (1, .int 1), (2, .int 6)]) (st2 := [.ref 0, .int 231, .ref 7]) rfl rfl ?_
  refine mB hT 8 rfl ?_
  refine mWd (w2 := (MW n vs wo un h bo ta tr ro ot (up Bm 6 (up (up (up (up (Bm 6) 0 (up (up (up (up (up (up (up (up (up (up (up (up (up (up (up (up (up (up (up (up (up (Bm 6 0) 0 (Bm 1 0 0)) 1 (Bm 1 0 1)) 21 (Bm 1 0 21)) 22 (Bm 1 0 22)) 4 (Bm 1 0 4)) 5 (Bm 1 0 5)) 6 (Bm 1 0 6)) 7 (Bm 1 0 7)) 8 (Bm 1 0 8)) 9 (Bm 1 0 9)) 10 (Bm 1 0 10)) 11 (Bm 1 0 11)) 12 (Bm 1 0 12)) 13 (Bm 1 0 13)) 14 (Bm 1 0 14)) 15 (Bm 1 0 15)) 16 (Bm 1 0 16)) 17 (Bm 1 0 17)) 18 (Bm 1 0 18)) 19 (Bm 1 0 19)) 20 (Bm 1 0 20))) 1 (up (up (up (up (up (up (up (up (up (up (up (up (up (up (up (up (up (up (up (Bm 6 1) 0 (Bm 1 1 0)) 1 (Bm 1 1 1)) 21 (Bm 1 1 21)) 22 (Bm 1 1 22)) 4 (Bm 1 1 4)) 5 (Bm 1 1 5)) 6 (Bm 1 1 6)) 7 (Bm 1 1 7)) 8 (Bm 1 1 8)) 9 (Bm 1 1 9)) 10 (Bm 1 1 10)) 11 (Bm 1 1 11)) 12 (Bm 1 1 12)) 13 (Bm 1 1 13)) 14 (Bm 1 1 14)) 15 (Bm 1 1 15)) 16 (Bm 1 1 16)) 17 (Bm 1 1 17)) 18 (Bm 1 1 18))) 2 (up (up (up (up (up (up (up (up (up (up (up (up (Bm 6 2) 0 (Bm 1 2 0)) 1 (Bm 1 2 1)) 21 (Bm 1 2 21)) 22 (Bm 1 2 22)) 4 (Bm 1 2 4)) 5 (Bm 1 2 5)) 6 (Bm 1 2 6)) 7 (Bm 1 2 7)) 8 (Bm 1 2 8)) 9 (Bm 1 2 9)) 10 (Bm 1 2 10)) 11 (Bm 1 2 11))) 3 (up (up (up (up (up (up (up (up (up (up (up (up (Bm 6 3) 0 (Bm 1 3 0)) 1 (Bm 1 3 1)) 21 (Bm 1 3 21)) 22 (Bm 1 3 22)) 4 (Bm 1 3 4)) 5 (Bm 1 3 5)) 6 (Bm 1 3 6)) 7 (Bm 1 3 7)) 8 (Bm 1 3 8)) 9 (Bm 1 3 9)) 10 (Bm 1 3 10)) 11 (Bm 1 3 11)))) bk)) rfl ?_
  refine mB hT 40 rfl ?_
  refine mNf (lv2 := [(3, .int 17), (0, .ref 0), (1, .int 1), (2, .int 6)]) (st2 := [.int 53, .ref 7, .int 233, .ref 7]) rfl rfl ?_
  refine mB hT 40 rfl ?_
  refine mNf (lv2 := [(3, .int 19), (0, .ref 0), (1, .int 1), (2, .int 6)]) (st2 := [.int 36, .ref 7, .int 235, .ref 7]) rfl rfl ?_
  refine mB hT 40 rfl ?_
  refine mNf (lv2 := [(3, .int 21), (0, .ref 0), (1, .int 1), (2, .int 6)]) (st2 := [.int 36, .ref 7, .int 237, .ref 7]) rfl rfl ?_
  refine mB hT 40 rfl ?_
  refine mNf (lv2 := [(3, .int 23), (0, .ref 0), (1, .int 1), (2, .int 6)]) (st2 := [.ref 0, .int 239, .ref 7]) rfl rfl ?_
  refine mB hT 8 rfl ?_
  refine mWd (w2 := (MW n vs wo un h bo ta tr ro ot (up Bm 6 (up (up (up (up (Bm 6) 0 (up (up (up (up (up (up (up (up (up (up (up (up (up (up (up (up (up (up (up (up (up (Bm 6 0) 0 (Bm 1 0 0)) 1 (Bm 1 0 1)) 21 (Bm 1 0 21)) 22 (Bm 1 0 22)) 4 (Bm 1 0 4)) 5 (Bm 1 0 5)) 6 (Bm 1 0 6)) 7 (Bm 1 0 7)) 8 (Bm 1 0 8)) 9 (Bm 1 0 9)) 10 (Bm 1 0 10)) 11 (Bm 1 0 11)) 12 (Bm 1 0 12)) 13 (Bm 1 0 13)) 14 (Bm 1 0 14)) 15 (Bm 1 0 15)) 16 (Bm 1 0 16)) 17 (Bm 1 0 17)) 18 (Bm 1 0 18)) 19 (Bm 1 0 19)) 20 (Bm 1 0 20))) 1 (up (up (up (up (up (up (up (up (up (up (up (up (up (up (up (up (up (up (up (up (up (Bm 6 1) 0 (Bm 1 1 0)) 1 (Bm 1 1 1)) 21 (Bm 1 1 21)) 22 (Bm 1 1 22)) 4 (Bm 1 1 4)) 5 (Bm 1 1 5)) 6 (Bm 1 1 6)) 7 (Bm 1 1 7)) 8 (Bm 1 1 8)) 9 (Bm 1 1 9)) 10 (Bm 1 1 10)) 11 (Bm 1 1 11)) 12 (Bm 1 1 12)) 13 (Bm 1 1 13)) 14 (Bm 1 1 14)) 15 (Bm 1 1 15)) 16 (Bm 1 1 16)) 17 (Bm 1 1 17)) 18 (Bm 1 1 18)) 19 (Bm 1 1 19)) 20 (Bm 1 1 20))) 2 (up (up (up (up (up (up (up (up (up (up (up (up (up (up (up (up (up (up (Bm 6 2) 0 (Bm 1 2 0)) 1 (Bm 1 2 1)) 21 (Bm 1 2 21)) 22 (Bm 1 2 22)) 4 (Bm 1 2 4)) 5 (Bm 1 2 5)) 6 (Bm 1 2 6)) 7 (Bm 1 2 7)) 8 (Bm 1 2 8)) 9 (Bm 1 2 9)) 10 (Bm 1 2 10)) 11 (Bm 1 2 11)) 12 (Bm 1 2 12)) 13 (Bm 1 2 13)) 14 (Bm 1 2 14)) 15 (Bm 1 2 15)) 16 (Bm 1 2 16)) 17 (Bm 1 2 17))) 3 (up (up (up (up (up (up (up (up (up (up (up (up (Bm 6 3) 0 (Bm 1 3 0)) 1 (Bm 1 3 1)) 21 (Bm 1 3 21)) 22 (Bm 1 3 22)) 4 (Bm 1 3 4)) 5 (Bm 1 3 5)) 6 (Bm 1 3 6)) 7 (Bm 1 3 7)) 8 (Bm 1 3 8)) 9 (Bm 1 3 9)) 10 (Bm 1 3 10)) 11 (Bm 1 3 11)))) bk)) rfl ?_
  refine mB hT 40 rfl ?_
  refine mNf (lv2 := [(3, .int 25), (0, .ref 0), (1, .int 1), (2, .int 6)]) (st2 := [.int 61, .ref 7, .int 241, .ref 7]) rfl rfl ?_
  refine mB hT 40 rfl ?_
  refine mNf (lv2 := [(3, .int 27), (0, .ref 0), (1, .int 1), (2, .int 6)]) (st2 := [.int 36, .ref 7, .int 243, .ref 7]) rfl rfl ?_
  refine mB hT 40 rfl ?_
  refine mNf (lv2 := [(3, .int 29), (0, .ref 0), (1, .int 1), (2, .int 6)]) (st2 := [.int 36, .ref 7, .int 245, .ref 7]) rfl rfl ?_
  refine mB hT 40 rfl ?_
  refine mNf (lv2 := [(3, .int 31), (0, .ref 0), (1, .int 1), (2, .int 6)]) (st2 := [.ref 0, .int 247, .ref 7]) rfl rfl ?_
  refine mB hT 8 rfl ?_
  refine mWd (w2 := (MW n vs wo un h bo ta tr ro ot (up Bm 6 (up (up (up (up (Bm 6) 0 (up (up (up (up (up (up (up (up (up (up (up (up (up (up (up (up (up (up (up (up (up (Bm 6 0) 0 (Bm 1 0 0)) 1 (Bm 1 0 1)) 21 (Bm 1 0 21)) 22 (Bm 1 0 22)) 4 (Bm 1 0 4)) 5 (Bm 1 0 5)) 6 (Bm 1 0 6)) 7 (Bm 1 0 7)) 8 (Bm 1 0 8)) 9 (Bm 1 0 9)) 10 (Bm 1 0 10)) 11 (Bm 1 0 11)) 12 (Bm 1 0 12)) 13 (Bm 1 0 13)) 14 (Bm 1 0 14)) 15 (Bm 1 0 15)) 16 (Bm 1 0 16)) 17 (Bm 1 0 17)) 18 (Bm 1 0 18)) 19 (Bm 1 0 19)) 20 (Bm 1 0 20))) 1 (up (up (up (up (up (up (up (up (up (up (up (up (up (up (up (up (up (up (up (up (up (Bm 6 1) 0 (Bm 1 1 0)) 1 (Bm 1 1 1)) 21 (Bm 1 1 21)) 22 (Bm 1 1 22)) 4 (Bm 1 1 4)) 5 (Bm 1 1 5)) 6 (Bm 1 1 6)) 7 (Bm 1 1 7)) 8 (Bm 1 1 8)) 9 (Bm 1 1 9)) 10 (Bm 1 1 10)) 11 (Bm 1 1 11)) 12 (Bm 1 1 12)) 13 (Bm 1 1 13)) 14 (Bm 1 1 14)) 15 (Bm 1 1 15)) 16 (Bm 1 1 16)) 17 (Bm 1 1 17)) 18 (Bm 1 1 18)) 19 (Bm 1 1 19)) 20 (Bm 1 1 20))) 2 (up (up (up (up (up (up (up (up (up (up (up (up (up (up (up (up (up (up (up (up (up (Bm 6 2) 0 (Bm 1 2 0)) 1 (Bm 1 2 1)) 21 (Bm 1 2 21)) 22 (Bm 1 2 22)) 4 (Bm 1 2 4)) 5 (Bm 1 2 5)) 6 (Bm 1 2 6)) 7 (Bm 1 2 7)) 8 (Bm 1 2 8)) 9 (Bm 1 2 9)) 10 (Bm 1 2 10)) 11 (Bm 1 2 11)) 12 (Bm 1 2 12)) 13 (Bm 1 2 13)) 14 (Bm 1 2 14)) 15 (Bm 1 2 15)) 16 (Bm 1 2 16)) 17 (Bm 1 2 17)) 18 (Bm 1 2 18)) 19 (Bm 1 2 19)) 20 (Bm 1 2 20))) 3 (up (up (up (up (up (up (up (up (up (up (up (up (up (up (up (up (up (Bm 6 3) 0 (Bm 1 3 0)) 1 (Bm 1 3 1)) 21 (Bm 1 3 21)) 22 (Bm 1 3 22)) 4 (Bm 1 3 4)) 5 (Bm 1 3 5)) 6 (Bm 1 3 6)) 7 (Bm 1 3 7)) 8 (Bm 1 3 8)) 9 (Bm 1 3 9)) 10 (Bm 1 3 10)) 11 (Bm 1 3 11)) 12 (Bm 1 3 12)) 13 (Bm 1 3 13)) 14 (Bm 1 3 14)) 15 (Bm 1 3 15)) 16 (Bm 1 3 16)))) bk)) rfl ?_
  refine mB hT 40 rfl ?_
  refine mNf (lv2 := [(3, .int 33), (0, .ref 0), (1, .int 1), (2, .int 6)]) (st2 := [.int 69, .ref 7, .int 249, .ref 7]) rfl rfl ?_
  refine mB hT 40 rfl ?_
  refine mNf (lv2 := [(3, .int 35), (0, .ref 0), (1, .int 1), (2, .int 6)]) (st2 := [.int 36, .ref 7, .int 251, .ref 7]) rfl rfl ?_
  refine mB hT 9 rfl ?_
  exact hR _ (by decide) _ _ _ rfl rfl
set_option maxRecDepth 20000 in
theorem m_copy_2_6 {n vs : Int32} {wo un h : Int64} {bo : Nat → Int32} {ta tr ro ot : Nat → Int64} {Bm : Nat → Nat → Nat → Int32} {bk : Nat → Nat → Int32} : KX3_copy l D ca ad [.ref 0, .int 2, .int 6] (MW n vs wo un h bo ta tr ro ot Bm bk) none (MW n vs wo un h bo ta tr ro ot (up Bm 6 (Bm 2)) bk) := by
  refine PX3_copy (Nat.le_of_ble_eq_true rfl) ?_
  intro G hT hC hR
  refine mB hT 40 rfl ?_
  refine mB hT 40 rfl ?_
  refine mNf (lv2 := [(3, .int 1), (0, .ref 0), (1, .int 2), (2, .int 6)]) (st2 := [.int 1, .int 24, .ref 1]) rfl rfl ?_
  refine mB hT 40 rfl ?_
  refine mB hT 18 rfl ?_
  refine mWd (w2 := (MW n vs wo un h bo ta tr ro ot (up Bm 6 (up (up (Bm 6) 0 (up (up (up (up (Bm 6 0) 0 (Bm 2 0 0)) 1 (Bm 2 0 1)) 21 (Bm 2 0 21)) 22 (Bm 2 0 22))) 1 (up (up (up (up (Bm 6 1) 0 (Bm 2 1 0)) 1 (Bm 2 1 1)) 21 (Bm 2 1 21)) 22 (Bm 2 1 22)))) bk)) rfl ?_
  refine mB hT 40 rfl ?_
  refine mB hT 40 rfl ?_
  refine mNf (lv2 := [(3, .int 3), (0, .ref 0), (1, .int 2), (2, .int 6)]) (st2 := [.int 3, .int 24, .ref 1]) rfl rfl ?_
  refine mB hT 40 rfl ?_
  refine mB hT 18 rfl ?_
  refine mWd (w2 := (MW n vs wo un h bo ta tr ro ot (up Bm 6 (up (up (up (up (Bm 6) 0 (up (up (up (up (Bm 6 0) 0 (Bm 2 0 0)) 1 (Bm 2 0 1)) 21 (Bm 2 0 21)) 22 (Bm 2 0 22))) 1 (up (up (up (up (Bm 6 1) 0 (Bm 2 1 0)) 1 (Bm 2 1 1)) 21 (Bm 2 1 21)) 22 (Bm 2 1 22))) 2 (up (up (up (up (Bm 6 2) 0 (Bm 2 2 0)) 1 (Bm 2 2 1)) 21 (Bm 2 2 21)) 22 (Bm 2 2 22))) 3 (up (up (up (up (Bm 6 3) 0 (Bm 2 3 0)) 1 (Bm 2 3 1)) 21 (Bm 2 3 21)) 22 (Bm 2 3 22)))) bk)) rfl ?_
  refine mB hT 40 rfl ?_
  refine mNf (lv2 := [(3, .int 0), (0, .ref 0), (1, .int 2), (2, .int 6)]) (st2 := [.int 32, .ref 6, .int 96, .ref 6]) rfl rfl ?_
  refine mB hT 40 rfl ?_
  refine mNf (lv2 := [(3, .int 2), (0, .ref 0), (1, .int 2), (2, .int 6)]) (st2 := []) rfl rfl ?_
  refine mB hT 40 rfl ?_
  refine mB hT 33 rfl ?_
  refine mWd (w2 := (MW n vs wo un h bo ta tr ro ot (up Bm 6 (up (up (up (up (Bm 6) 0 (up (up (up (up (up (up (up (up (up (up (up (up (Bm 6 0) 0 (Bm 2 0 0)) 1 (Bm 2 0 1)) 21 (Bm 2 0 21)) 22 (Bm 2 0 22)) 4 (Bm 2 0 4)) 5 (Bm 2 0 5)) 6 (Bm 2 0 6)) 7 (Bm 2 0 7)) 8 (Bm 2 0 8)) 9 (Bm 2 0 9)) 10 (Bm 2 0 10)) 11 (Bm 2 0 11))) 1 (up (up (up (up (Bm 6 1) 0 (Bm 2 1 0)) 1 (Bm 2 1 1)) 21 (Bm 2 1 21)) 22 (Bm 2 1 22))) 2 (up (up (up (up (Bm 6 2) 0 (Bm 2 2 0)) 1 (Bm 2 2 1)) 21 (Bm 2 2 21)) 22 (Bm 2 2 22))) 3 (up (up (up (up (Bm 6 3) 0 (Bm 2 3 0)) 1 (Bm 2 3 1)) 21 (Bm 2 3 21)) 22 (Bm 2 3 22)))) bk)) rfl ?_
  refine mB hT 40 rfl ?_
  refine mNf (lv2 := [(3, .int 5), (0, .ref 0), (1, .int 2), (2, .int 6)]) (st2 := [.int 5]) rfl rfl ?_
  refine mB hT 40 rfl ?_
  refine mB hT 40 rfl ?_
  refine mNf (lv2 := [(3, .int 7), (0, .ref 0), (1, .int 2), (2, .int 6)]) (st2 := [.int 6, .int 16, .ref 5]) rfl rfl ?_
  refine mB hT 28 rfl ?_
  refine mWd (w2 := (MW n vs wo un h bo ta tr ro ot (up Bm 6 (up (up (up (up (Bm 6) 0 (up (up (up (up (up (up (up (up (up (up (up (up (Bm 6 0) 0 (Bm 2 0 0)) 1 (Bm 2 0 1)) 21 (Bm 2 0 21)) 22 (Bm 2 0 22)) 4 (Bm 2 0 4)) 5 (Bm 2 0 5)) 6 (Bm 2 0 6)) 7 (Bm 2 0 7)) 8 (Bm 2 0 8)) 9 (Bm 2 0 9)) 10 (Bm 2 0 10)) 11 (Bm 2 0 11))) 1 (up (up (up (up (up (up (up (up (up (up (up (up (Bm 6 1) 0 (Bm 2 1 0)) 1 (Bm 2 1 1)) 21 (Bm 2 1 21)) 22 (Bm 2 1 22)) 4 (Bm 2 1 4)) 5 (Bm 2 1 5)) 6 (Bm 2 1 6)) 7 (Bm 2 1 7)) 8 (Bm 2 1 8)) 9 (Bm 2 1 9)) 10 (Bm 2 1 10)) 11 (Bm 2 1 11))) 2 (up (up (up (up (Bm 6 2) 0 (Bm 2 2 0)) 1 (Bm 2 2 1)) 21 (Bm 2 2 21)) 22 (Bm 2 2 22))) 3 (up (up (up (up (Bm 6 3) 0 (Bm 2 3 0)) 1 (Bm 2 3 1)) 21 (Bm 2 3 21)) 22 (Bm 2 3 22)))) bk)) rfl ?_
  refine mB hT 40 rfl ?_
  refine mNf (lv2 := [(3, .int 9), (0, .ref 0), (1, .int 2), (2, .int 6)]) (st2 := [.int 9]) rfl rfl ?_
  refine mB hT 40 rfl ?_
  refine mB hT 40 rfl ?_
  refine mNf (lv2 := [(3, .int 11), (0, .ref 0), (1, .int 2), (2, .int 6)]) (st2 := [.int 6, .int 16, .ref 5]) rfl rfl ?_
  refine mB hT 28 rfl ?_
  refine mWd (w2 := (MW n vs wo un h bo ta tr ro ot (up Bm 6 (up (up (up (up (Bm 6) 0 (up (up (up (up (up (up (up (up (up (up (up (up (Bm 6 0) 0 (Bm 2 0 0)) 1 (Bm 2 0 1)) 21 (Bm 2 0 21)) 22 (Bm 2 0 22)) 4 (Bm 2 0 4)) 5 (Bm 2 0 5)) 6 (Bm 2 0 6)) 7 (Bm 2 0 7)) 8 (Bm 2 0 8)) 9 (Bm 2 0 9)) 10 (Bm 2 0 10)) 11 (Bm 2 0 11))) 1 (up (up (up (up (up (up (up (up (up (up (up (up (Bm 6 1) 0 (Bm 2 1 0)) 1 (Bm 2 1 1)) 21 (Bm 2 1 21)) 22 (Bm 2 1 22)) 4 (Bm 2 1 4)) 5 (Bm 2 1 5)) 6 (Bm 2 1 6)) 7 (Bm 2 1 7)) 8 (Bm 2 1 8)) 9 (Bm 2 1 9)) 10 (Bm 2 1 10)) 11 (Bm 2 1 11))) 2 (up (up (up (up (up (up (up (up (up (up (up (up (Bm 6 2) 0 (Bm 2 2 0)) 1 (Bm 2 2 1)) 21 (Bm 2 2 21)) 22 (Bm 2 2 22)) 4 (Bm 2 2 4)) 5 (Bm 2 2 5)) 6 (Bm 2 2 6)) 7 (Bm 2 2 7)) 8 (Bm 2 2 8)) 9 (Bm 2 2 9)) 10 (Bm 2 2 10)) 11 (Bm 2 2 11))) 3 (up (up (up (up (Bm 6 3) 0 (Bm 2 3 0)) 1 (Bm 2 3 1)) 21 (Bm 2 3 21)) 22 (Bm 2 3 22)))) bk)) rfl ?_
  refine mB hT 40 rfl ?_
  refine mNf (lv2 := [(3, .int 13), (0, .ref 0), (1, .int 2), (2, .int 6)]) (st2 := [.int 13]) rfl rfl ?_
  refine mB hT 40 rfl ?_
  refine mB hT 40 rfl ?_
  refine mNf (lv2 := [(3, .int 15), (0, .ref 0), (1, .int 2), (2, .int 6)]) (st2 := [.int 6, .int 16, .ref 5]) rfl rfl ?_
  refine mB hT 28 rfl ?_
  refine mWd (w2 := (MW n vs wo un h bo ta tr ro ot (up Bm 6 (up (up (up (up (Bm 6) 0 (up (up (up (up (up (up (up (up (up (up (up (up (Bm 6 0) 0 (Bm 2 0 0)) 1 (Bm 2 0 1)) 21 (Bm 2 0 21)) 22 (Bm 2 0 22)) 4 (Bm 2 0 4)) 5 (Bm 2 0 5)) 6 (Bm 2 0 6)) 7 (Bm 2 0 7)) 8 (Bm 2 0 8)) 9 (Bm 2 0 9)) 10 (Bm 2 0 10)) 11 (Bm 2 0 11))) 1 (up (up (up (up (up (up (up (up (up (up (up (up (Bm 6 1) 0 (Bm 2 1 0)) 1 (Bm 2 1 1)) 21 (Bm 2 1 21)) 22 (Bm 2 1 22)) 4 (Bm 2 1 4)) 5 (Bm 2 1 5)) 6 (Bm 2 1 6)) 7 (Bm 2 1 7)) 8 (Bm 2 1 8)) 9 (Bm 2 1 9)) 10 (Bm 2 1 10)) 11 (Bm 2 1 11))) 2 (up (up (up (up (up (up (up (up (up (up (up (up (Bm 6 2) 0 (Bm 2 2 0)) 1 (Bm 2 2 1)) 21 (Bm 2 2 21)) 22 (Bm 2 2 22)) 4 (Bm 2 2 4)) 5 (Bm 2 2 5)) 6 (Bm 2 2 6)) 7 (Bm 2 2 7)) 8 (Bm 2 2 8)) 9 (Bm 2 2 9)) 10 (Bm 2 2 10)) 11 (Bm 2 2 11))) 3 (up (up (up (up (up (up (up (up (up (up (up (up (Bm 6 3) 0 (Bm 2 3 0)) 1 (Bm 2 3 1)) 21 (Bm 2 3 21)) 22 (Bm 2 3 22)) 4 (Bm 2 3 4)) 5 (Bm 2 3 5)) 6 (Bm 2 3 6)) 7 (Bm 2 3 7)) 8 (Bm 2 3 8)) 9 (Bm 2 3 9)) 10 (Bm 2 3 10)) 11 (Bm 2 3 11)))) bk)) rfl ?_
  refine mB hT 40 rfl ?_
  refine mNf (lv2 := [(3, .int 1), (0, .ref 0), (1, .int 2), (2, .int 6)]) (st2 := [.ref 7, .int 217, .ref 7]) rfl rfl ?_
  refine mB hT 40 rfl ?_
  refine mNf (lv2 := [(3, .int 3), (0, .ref 0), (1, .int 2), (2, .int 6)]) (st2 := [.int 219, .ref 7]) rfl rfl ?_
  refine mB hT 40 rfl ?_
  refine mNf (lv2 := [(3, .int 5), (0, .ref 0), (1, .int 2), (2, .int 6)]) (st2 := [.int 216, .ref 7]) rfl rfl ?_
  refine mB hT 40 rfl ?_
  refine mNf (lv2 := [(3, .int 7), (0, .ref 0), (1, .int 2), (2, .int 6)]) (st2 := [.int 36, .ref 7]) rfl rfl ?_
  refine mB hT 13 rfl ?_
  refine mWd (w2 := (MW n vs wo un h bo ta tr ro ot (up Bm 6 (up (up (up (up (Bm 6) 0 (up (up (up (up (up (up (up (up (up (up (up (up (up (up (up (up (up (up (up (up (Bm 6 0) 0 (Bm 2 0 0)) 1 (Bm 2 0 1)) 21 (Bm 2 0 21)) 22 (Bm 2 0 22)) 4 (Bm 2 0 4)) 5 (Bm 2 0 5)) 6 (Bm 2 0 6)) 7 (Bm 2 0 7)) 8 (Bm 2 0 8)) 9 (Bm 2 0 9)) 10 (Bm 2 0 10)) 11 (Bm 2 0 11)) 12 (Bm 2 0 12)) 13 (Bm 2 0 13)) 14 (Bm 2 0 14)) 15 (Bm 2 0 15)) 16 (Bm 2 0 16)) 17 (Bm 2 0 17)) 18 (Bm 2 0 18)) 19 (Bm 2 0 19))) 1 (up (up (up (up (up (up (up (up (up (up (up (up (Bm 6 1) 0 (Bm 2 1 0)) 1 (Bm 2 1 1)) 21 (Bm 2 1 21)) 22 (Bm 2 1 22)) 4 (Bm 2 1 4)) 5 (Bm 2 1 5)) 6 (Bm 2 1 6)) 7 (Bm 2 1 7)) 8 (Bm 2 1 8)) 9 (Bm 2 1 9)) 10 (Bm 2 1 10)) 11 (Bm 2 1 11))) 2 (up (up (up (up (up (up (up (up (up (up (up (up (Bm 6 2) 0 (Bm 2 2 0)) 1 (Bm 2 2 1)) 21 (Bm 2 2 21)) 22 (Bm 2 2 22)) 4 (Bm 2 2 4)) 5 (Bm 2 2 5)) 6 (Bm 2 2 6)) 7 (Bm 2 2 7)) 8 (Bm 2 2 8)) 9 (Bm 2 2 9)) 10 (Bm 2 2 10)) 11 (Bm 2 2 11))) 3 (up (up (up (up (up (up (up (up (up (up (up (up (Bm 6 3) 0 (Bm 2 3 0)) 1 (Bm 2 3 1)) 21 (Bm 2 3 21)) 22 (Bm 2 3 22)) 4 (Bm 2 3 4)) 5 (Bm 2 3 5)) 6 (Bm 2 3 6)) 7 (Bm 2 3 7)) 8 (Bm 2 3 8)) 9 (Bm 2 3 9)) 10 (Bm 2 3 10)) 11 (Bm 2 3 11)))) bk)) rfl ?_
  refine mB hT 40 rfl ?_
  refine mNf (lv2 := [(3, .int 9), (0, .ref 0), (1, .int 2), (2, .int 6)]) (st2 := [.int 81, .ref 7, .int 225, .ref 7]) rfl rfl ?_
  refine mB hT 40 rfl ?_
  refine mNf (lv2 := [(3, .int 11), (0, .ref 0), (1, .int 2), (2, .int 6)]) (st2 := [.int 72, .ref 7, .int 227, .ref 7]) rfl rfl ?_
  refine mB hT 40 rfl ?_
  refine mNf (lv2 := [(3, .int 13), (0, .ref 0), (1, .int 2), (2, .int 6)]) (st2 := [.int 36, .ref 7, .int 229, .ref 7]) rfl rfl ?_
  refine mB hT 40 rfl ?_
  refine mNf (lv2 := [(3, .int 15), (0, .ref 0), (1, .int 2), (2, .int 6)]) (st2 := [.ref 0, .int 231, .ref 7]) rfl rfl ?_
  refine mB hT 8 rfl ?_
  refine mWd (w2 := (MW n vs wo un h bo ta tr ro ot (up Bm 6 (up (up (up (up (Bm 6) 0 (up (up (up (up (up (up (up (up (up (up (up (up (up (up (up (up (up (up (up (up (up (Bm 6 0) 0 (Bm 2 0 0)) 1 (Bm 2 0 1)) 21 (Bm 2 0 21)) 22 (Bm 2 0 22)) 4 (Bm 2 0 4)) 5 (Bm 2 0 5)) 6 (Bm 2 0 6)) 7 (Bm 2 0 7)) 8 (Bm 2 0 8)) 9 (Bm 2 0 9)) 10 (Bm 2 0 10)) 11 (Bm 2 0 11)) 12 (Bm 2 0 12)) 13 (Bm 2 0 13)) 14 (Bm 2 0 14)) 15 (Bm 2 0 15)) 16 (Bm 2 0 16)) 17 (Bm 2 0 17)) 18 (Bm 2 0 18)) 19 (Bm 2 0 19)) 20 (Bm 2 0 20))) 1 (up (up (up (up (up (up (up (up (up (up (up (up (up (up (up (up (up (up (up (Bm 6 1) 0 (Bm 2 1 0)) 1 (Bm 2 1 1)) 21 (Bm 2 1 21)) 22 (Bm 2 1 22)) 4 (Bm 2 1 4)) 5 (Bm 2 1 5)) 6 (Bm 2 1 6)) 7 (Bm 2 1 7)) 8 (Bm 2 1 8)) 9 (Bm 2 1 9)) 10 (Bm 2 1 10)) 11 (Bm 2 1 11)) 12 (Bm 2 1 12)) 13 (Bm 2 1 13)) 14 (Bm 2 1 14)) 15 (Bm 2 1 15)) 16 (Bm 2 1 16)) 17 (Bm 2 1 17)) 18 (Bm 2 1 18))) 2 (up (up (up (up (up (up (up (up (up (up (up (up (Bm 6 2) 0 (Bm 2 2 0)) 1 (Bm 2 2 1)) 21 (Bm 2 2 21)) 22 (Bm 2 2 22)) 4 (Bm 2 2 4)) 5 (Bm 2 2 5)) 6 (Bm 2 2 6)) 7 (Bm 2 2 7)) 8 (Bm 2 2 8)) 9 (Bm 2 2 9)) 10 (Bm 2 2 10)) 11 (Bm 2 2 11))) 3 (up (up (up (up (up (up (up (up (up (up (up (up (Bm 6 3) 0 (Bm 2 3 0)) 1 (Bm 2 3 1)) 21 (Bm 2 3 21)) 22 (Bm 2 3 22)) 4 (Bm 2 3 4)) 5 (Bm 2 3 5)) 6 (Bm 2 3 6)) 7 (Bm 2 3 7)) 8 (Bm 2 3 8)) 9 (Bm 2 3 9)) 10 (Bm 2 3 10)) 11 (Bm 2 3 11)))) bk)) rfl ?_
  refine mB hT 40 rfl ?_
  refine mNf (lv2 := [(3, .int 17), (0, .ref 0), (1, .int 2), (2, .int 6)]) (st2 := [.int 89, .ref 7, .int 233, .ref 7]) rfl rfl ?_
  refine mB hT 40 rfl ?_
  refine mNf (lv2 := [(3, .int 19), (0, .ref 0), (1, .int 2), (2, .int 6)]) (st2 := [.int 72, .ref 7, .int 235, .ref 7]) rfl rfl ?_
  refine mB hT 40 rfl ?_
  refine mNf (lv2 := [(3, .int 21), (0, .ref 0), (1, .int 2), (2, .int 6)]) (st2 := [.int 36, .ref 7, .int 237, .ref 7]) rfl rfl ?_
  refine mB hT 40 rfl ?_
  refine mNf (lv2 := [(3, .int 23), (0, .ref 0), (1, .int 2), (2, .int 6)]) (st2 := [.ref 0, .int 239, .ref 7]) rfl rfl ?_
  refine mB hT 8 rfl ?_
  refine mWd (w2 := (MW n vs wo un h bo ta tr ro ot (up Bm 6 (up (up (up (up (Bm 6) 0 (up (up (up (up (up (up (up (up (up (up (up (up (up (up (up (up (up (up (up (up (up (Bm 6 0) 0 (Bm 2 0 0)) 1 (Bm 2 0 1)) 21 (Bm 2 0 21)) 22 (Bm 2 0 22)) 4 (Bm 2 0 4)) 5 (Bm 2 0 5)) 6 (Bm 2 0 6)) 7 (Bm 2 0 7)) 8 (Bm 2 0 8)) 9 (Bm 2 0 9)) 10 (Bm 2 0 10)) 11 (Bm 2 0 11)) 12 (Bm 2 0 12)) 13 (Bm 2 0 13)) 14 (Bm 2 0 14)) 15 (Bm 2 0 15)) 16 (Bm 2 0 16)) 17 (Bm 2 0 17)) 18 (Bm 2 0 18)) 19 (Bm 2 0 19)) 20 (Bm 2 0 20))) 1 (up (up (up (up (up (up (up (up (up (up (up (up (up (up (up (up (up (up (up (up (up (Bm 6 1) 0 (Bm 2 1 0)) 1 (Bm 2 1 1)) 21 (Bm 2 1 21)) 22 (Bm 2 1 22)) 4 (Bm 2 1 4)) 5 (Bm 2 1 5)) 6 (Bm 2 1 6)) 7 (Bm 2 1 7)) 8 (Bm 2 1 8)) 9 (Bm 2 1 9)) 10 (Bm 2 1 10)) 11 (Bm 2 1 11)) 12 (Bm 2 1 12)) 13 (Bm 2 1 13)) 14 (Bm 2 1 14)) 15 (Bm 2 1 15)) 16 (Bm 2 1 16)) 17 (Bm 2 1 17)) 18 (Bm 2 1 18)) 19 (Bm 2 1 19)) 20 (Bm 2 1 20))) 2 (up (up (up (up (up (up (up (up (up (up (up (up (up (up (up (up (up (up (Bm 6 2) 0 (Bm 2 2 0)) 1 (Bm 2 2 1)) 21 (Bm 2 2 21)) 22 (Bm 2 2 22)) 4 (Bm 2 2 4)) 5 (Bm 2 2 5)) 6 (Bm 2 2 6)) 7 (Bm 2 2 7)) 8 (Bm 2 2 8)) 9 (Bm 2 2 9)) 10 (Bm 2 2 10)) 11 (Bm 2 2 11)) 12 (Bm 2 2 12)) 13 (Bm 2 2 13)) 14 (Bm 2 2 14)) 15 (Bm 2 2 15)) 16 (Bm 2 2 16)) 17 (Bm 2 2 17))) 3 (up (up (up (up (up (up (up (up (up (up (up (up (Bm 6 3) 0 (Bm 2 3 0)) 1 (Bm 2 3 1)) 21 (Bm 2 3 21)) 22 (Bm 2 3 22)) 4 (Bm 2 3 4)) 5 (Bm 2 3 5)) 6 (Bm 2 3 6)) 7 (Bm 2 3 7)) 8 (Bm 2 3 8)) 9 (Bm 2 3 9)) 10 (Bm 2 3 10)) 11 (Bm 2 3 11)))) bk)) rfl ?_
  refine mB hT 40 rfl ?_
  refine mNf (lv2 := [(3, .int 25), (0, .ref 0), (1, .int 2), (2, .int 6)]) (st2 := [.int 97, .ref 7, .int 241, .ref 7]) rfl rfl ?_
  refine mB hT 40 rfl ?_
  refine mNf (lv2 := [(3, .int 27), (0, .ref 0), (1, .int 2), (2, .int 6)]) (st2 := [.int 72, .ref 7, .int 243, .ref 7]) rfl rfl ?_
  refine mB hT 40 rfl ?_
  refine mNf (lv2 := [(3, .int 29), (0, .ref 0), (1, .int 2), (2, .int 6)]) (st2 := [.int 36, .ref 7, .int 245, .ref 7]) rfl rfl ?_
  refine mB hT 40 rfl ?_
  refine mNf (lv2 := [(3, .int 31), (0, .ref 0), (1, .int 2), (2, .int 6)]) (st2 := [.ref 0, .int 247, .ref 7]) rfl rfl ?_
  refine mB hT 8 rfl ?_
  refine mWd (w2 := (MW n vs wo un h bo ta tr ro ot (up Bm 6 (up (up (up (up (Bm 6) 0 (up (up (up (up (up (up (up (up (up (up (up (up (up (up (up (up (up (up (up (up (up (Bm 6 0) 0 (Bm 2 0 0)) 1 (Bm 2 0 1)) 21 (Bm 2 0 21)) 22 (Bm 2 0 22)) 4 (Bm 2 0 4)) 5 (Bm 2 0 5)) 6 (Bm 2 0 6)) 7 (Bm 2 0 7)) 8 (Bm 2 0 8)) 9 (Bm 2 0 9)) 10 (Bm 2 0 10)) 11 (Bm 2 0 11)) 12 (Bm 2 0 12)) 13 (Bm 2 0 13)) 14 (Bm 2 0 14)) 15 (Bm 2 0 15)) 16 (Bm 2 0 16)) 17 (Bm 2 0 17)) 18 (Bm 2 0 18)) 19 (Bm 2 0 19)) 20 (Bm 2 0 20))) 1 (up (up (up (up (up (up (up (up (up (up (up (up (up (up (up (up (up (up (up (up (up (Bm 6 1) 0 (Bm 2 1 0)) 1 (Bm 2 1 1)) 21 (Bm 2 1 21)) 22 (Bm 2 1 22)) 4 (Bm 2 1 4)) 5 (Bm 2 1 5)) 6 (Bm 2 1 6)) 7 (Bm 2 1 7)) 8 (Bm 2 1 8)) 9 (Bm 2 1 9)) 10 (Bm 2 1 10)) 11 (Bm 2 1 11)) 12 (Bm 2 1 12)) 13 (Bm 2 1 13)) 14 (Bm 2 1 14)) 15 (Bm 2 1 15)) 16 (Bm 2 1 16)) 17 (Bm 2 1 17)) 18 (Bm 2 1 18)) 19 (Bm 2 1 19)) 20 (Bm 2 1 20))) 2 (up (up (up (up (up (up (up (up (up (up (up (up (up (up (up (up (up (up (up (up (up (Bm 6 2) 0 (Bm 2 2 0)) 1 (Bm 2 2 1)) 21 (Bm 2 2 21)) 22 (Bm 2 2 22)) 4 (Bm 2 2 4)) 5 (Bm 2 2 5)) 6 (Bm 2 2 6)) 7 (Bm 2 2 7)) 8 (Bm 2 2 8)) 9 (Bm 2 2 9)) 10 (Bm 2 2 10)) 11 (Bm 2 2 11)) 12 (Bm 2 2 12)) 13 (Bm 2 2 13)) 14 (Bm 2 2 14)) 15 (Bm 2 2 15)) 16 (Bm 2 2 16)) 17 (Bm 2 2 17)) 18 (Bm 2 2 18)) 19 (Bm 2 2 19)) 20 (Bm 2 2 20))) 3 (up (up (up (up (up (up (up (up (up (up (up (up (up (up (up (up (up (Bm 6 3) 0 (Bm 2 3 0)) 1 (Bm 2 3 1)) 21 (Bm 2 3 21)) 22 (Bm 2 3 22)) 4 (Bm 2 3 4)) 5 (Bm 2 3 5)) 6 (Bm 2 3 6)) 7 (Bm 2 3 7)) 8 (Bm 2 3 8)) 9 (Bm 2 3 9)) 10 (Bm 2 3 10)) 11 (Bm 2 3 11)) 12 (Bm 2 3 12)) 13 (Bm 2 3 13)) 14 (Bm 2 3 14)) 15 (Bm 2 3 15)) 16 (Bm 2 3 16)))) bk)) rfl ?_
  refine mB hT 40 rfl ?_
  refine mNf (lv2 := [(3, .int 33), (0, .ref 0), (1, .int 2), (2, .int 6)]) (st2 := [.int 105, .ref 7, .int 249, .ref 7]) rfl rfl ?_
  refine mB hT 40 rfl ?_
  refine mNf (lv2 := [(3, .int 35), (0, .ref 0), (1, .int 2), (2, .int 6)]) (st2 := [.int 72, .ref 7, .int 251, .ref 7]) rfl rfl ?_
  refine mB hT 9 rfl ?_
  exact hR _ (by decide) _ _ _ rfl rfl
set_option maxRecDepth 20000 in
theorem m_copy_3_6 {n vs : Int32} {wo un h : Int64} {bo : Nat → Int32} {ta tr ro ot : Nat → Int64} {Bm : Nat → Nat → Nat → Int32} {bk : Nat → Nat → Int32} : KX3_copy l D ca ad [.ref 0, .int 3, .int 6] (MW n vs wo un h bo ta tr ro ot Bm bk) none (MW n vs wo un h bo ta tr ro ot (up Bm 6 (Bm 3)) bk) := by
  refine PX3_copy (Nat.le_of_ble_eq_true rfl) ?_
  intro G hT hC hR
  refine mB hT 40 rfl ?_
  refine mB hT 40 rfl ?_
  refine mNf (lv2 := [(3, .int 1), (0, .ref 0), (1, .int 3), (2, .int 6)]) (st2 := [.int 1, .int 24, .ref 1]) rfl rfl ?_
  refine mB hT 40 rfl ?_
  refine mB hT 18 rfl ?_
  refine mWd (w2 := (MW n vs wo un h bo ta tr ro ot (up Bm 6 (up (up (Bm 6) 0 (up (up (up (up (Bm 6 0) 0 (Bm 3 0 0)) 1 (Bm 3 0 1)) 21 (Bm 3 0 21)) 22 (Bm 3 0 22))) 1 (up (up (up (up (Bm 6 1) 0 (Bm 3 1 0)) 1 (Bm 3 1 1)) 21 (Bm 3 1 21)) 22 (Bm 3 1 22)))) bk)) rfl ?_
  refine mB hT 40 rfl ?_
  refine mB hT 40 rfl ?_
  refine mNf (lv2 := [(3, .int 3), (0, .ref 0), (1, .int 3), (2, .int 6)]) (st2 := [.int 3, .int 24, .ref 1]) rfl rfl ?_
  refine mB hT 40 rfl ?_
  refine mB hT 18 rfl ?_
  refine mWd (w2 := (MW n vs wo un h bo ta tr ro ot (up Bm 6 (up (up (up (up (Bm 6) 0 (up (up (up (up (Bm 6 0) 0 (Bm 3 0 0)) 1 (Bm 3 0 1)) 21 (Bm 3 0 21)) 22 (Bm 3 0 22))) 1 (up (up (up (up (Bm 6 1) 0 (Bm 3 1 0)) 1 (Bm 3 1 1)) 21 (Bm 3 1 21)) 22 (Bm 3 1 22))) 2 (up (up (up (up (Bm 6 2) 0 (Bm 3 2 0)) 1 (Bm 3 2 1)) 21 (Bm 3 2 21)) 22 (Bm 3 2 22))) 3 (up (up (up (up (Bm 6 3) 0 (Bm 3 3 0)) 1 (Bm 3 3 1)) 21 (Bm 3 3 21)) 22 (Bm 3 3 22)))) bk)) rfl ?_
  refine mB hT 40 rfl ?_
  refine mNf (lv2 := [(3, .int 0), (0, .ref 0), (1, .int 3), (2, .int 6)]) (st2 := [.int 48, .ref 6, .int 96, .ref 6]) rfl rfl ?_
  refine mB hT 40 rfl ?_
  refine mNf (lv2 := [(3, .int 2), (0, .ref 0), (1, .int 3), (2, .int 6)]) (st2 := []) rfl rfl ?_
  refine mB hT 40 rfl ?_
  refine mB hT 33 rfl ?_
  refine mWd (w2 := (MW n vs wo un h bo ta tr ro ot (up Bm 6 (up (up (up (up (Bm 6) 0 (up (up (up (up (up (up (up (up (up (up (up (up (Bm 6 0) 0 (Bm 3 0 0)) 1 (Bm 3 0 1)) 21 (Bm 3 0 21)) 22 (Bm 3 0 22)) 4 (Bm 3 0 4)) 5 (Bm 3 0 5)) 6 (Bm 3 0 6)) 7 (Bm 3 0 7)) 8 (Bm 3 0 8)) 9 (Bm 3 0 9)) 10 (Bm 3 0 10)) 11 (Bm 3 0 11))) 1 (up (up (up (up (Bm 6 1) 0 (Bm 3 1 0)) 1 (Bm 3 1 1)) 21 (Bm 3 1 21)) 22 (Bm 3 1 22))) 2 (up (up (up (up (Bm 6 2) 0 (Bm 3 2 0)) 1 (Bm 3 2 1)) 21 (Bm 3 2 21)) 22 (Bm 3 2 22))) 3 (up (up (up (up (Bm 6 3) 0 (Bm 3 3 0)) 1 (Bm 3 3 1)) 21 (Bm 3 3 21)) 22 (Bm 3 3 22)))) bk)) rfl ?_
  refine mB hT 40 rfl ?_
  refine mNf (lv2 := [(3, .int 5), (0, .ref 0), (1, .int 3), (2, .int 6)]) (st2 := [.int 5]) rfl rfl ?_
  refine mB hT 40 rfl ?_
  refine mB hT 40 rfl ?_
  refine mNf (lv2 := [(3, .int 7), (0, .ref 0), (1, .int 3), (2, .int 6)]) (st2 := [.int 6, .int 16, .ref 5]) rfl rfl ?_
  refine mB hT 28 rfl ?_
  refine mWd (w2 := (MW n vs wo un h bo ta tr ro ot (up Bm 6 (up (up (up (up (Bm 6) 0 (up (up (up (up (up (up (up (up (up (up (up (up (Bm 6 0) 0 (Bm 3 0 0)) 1 (Bm 3 0 1)) 21 (Bm 3 0 21)) 22 (Bm 3 0 22)) 4 (Bm 3 0 4)) 5 (Bm 3 0 5)) 6 (Bm 3 0 6)) 7 (Bm 3 0 7)) 8 (Bm 3 0 8)) 9 (Bm 3 0 9)) 10 (Bm 3 0 10)) 11 (Bm 3 0 11))) 1 (up (up (up (up (up (up (up (up (up (up (up (up (Bm 6 1) 0 (Bm 3 1 0)) 1 (Bm 3 1 1)) 21 (Bm 3 1 21)) 22 (Bm 3 1 22)) 4 (Bm 3 1 4)) 5 (Bm 3 1 5)) 6 (Bm 3 1 6)) 7 (Bm 3 1 7)) 8 (Bm 3 1 8)) 9 (Bm 3 1 9)) 10 (Bm 3 1 10)) 11 (Bm 3 1 11))) 2 (up (up (up (up (Bm 6 2) 0 (Bm 3 2 0)) 1 (Bm 3 2 1)) 21 (Bm 3 2 21)) 22 (Bm 3 2 22))) 3 (up (up (up (up (Bm 6 3) 0 (Bm 3 3 0)) 1 (Bm 3 3 1)) 21 (Bm 3 3 21)) 22 (Bm 3 3 22)))) bk)) rfl ?_
  refine mB hT 40 rfl ?_
  refine mNf (lv2 := [(3, .int 9), (0, .ref 0), (1, .int 3), (2, .int 6)]) (st2 := [.int 9]) rfl rfl ?_
  refine mB hT 40 rfl ?_
  refine mB hT 40 rfl ?_
  refine mNf (lv2 := [(3, .int 11), (0, .ref 0), (1, .int 3), (2, .int 6)]) (st2 := [.int 6, .int 16, .ref 5]) rfl rfl ?_
  refine mB hT 28 rfl ?_
  refine mWd (w2 := (MW n vs wo un h bo ta tr ro ot (up Bm 6 (up (up (up (up (Bm 6) 0 (up (up (up (up (up (up (up (up (up (up (up (up (Bm 6 0) 0 (Bm 3 0 0)) 1 (Bm 3 0 1)) 21 (Bm 3 0 21)) 22 (Bm 3 0 22)) 4 (Bm 3 0 4)) 5 (Bm 3 0 5)) 6 (Bm 3 0 6)) 7 (Bm 3 0 7)) 8 (Bm 3 0 8)) 9 (Bm 3 0 9)) 10 (Bm 3 0 10)) 11 (Bm 3 0 11))) 1 (up (up (up (up (up (up (up (up (up (up (up (up (Bm 6 1) 0 (Bm 3 1 0)) 1 (Bm 3 1 1)) 21 (Bm 3 1 21)) 22 (Bm 3 1 22)) 4 (Bm 3 1 4)) 5 (Bm 3 1 5)) 6 (Bm 3 1 6)) 7 (Bm 3 1 7)) 8 (Bm 3 1 8)) 9 (Bm 3 1 9)) 10 (Bm 3 1 10)) 11 (Bm 3 1 11))) 2 (up (up (up (up (up (up (up (up (up (up (up (up (Bm 6 2) 0 (Bm 3 2 0)) 1 (Bm 3 2 1)) 21 (Bm 3 2 21)) 22 (Bm 3 2 22)) 4 (Bm 3 2 4)) 5 (Bm 3 2 5)) 6 (Bm 3 2 6)) 7 (Bm 3 2 7)) 8 (Bm 3 2 8)) 9 (Bm 3 2 9)) 10 (Bm 3 2 10)) 11 (Bm 3 2 11))) 3 (up (up (up (up (Bm 6 3) 0 (Bm 3 3 0)) 1 (Bm 3 3 1)) 21 (Bm 3 3 21)) 22 (Bm 3 3 22)))) bk)) rfl ?_
  refine mB hT 40 rfl ?_
  refine mNf (lv2 := [(3, .int 13), (0, .ref 0), (1, .int 3), (2, .int 6)]) (st2 := [.int 13]) rfl rfl ?_
  refine mB hT 40 rfl ?_
  refine mB hT 40 rfl ?_
  refine mNf (lv2 := [(3, .int 15), (0, .ref 0), (1, .int 3), (2, .int 6)]) (st2 := [.int 6, .int 16, .ref 5]) rfl rfl ?_
  refine mB hT 28 rfl ?_
  refine mWd (w2 := (MW n vs wo un h bo ta tr ro ot (up Bm 6 (up (up (up (up (Bm 6) 0 (up (up (up (up (up (up (up (up (up (up (up (up (Bm 6 0) 0 (Bm 3 0 0)) 1 (Bm 3 0 1)) 21 (Bm 3 0 21)) 22 (Bm 3 0 22)) 4 (Bm 3 0 4)) 5 (Bm 3 0 5)) 6 (Bm 3 0 6)) 7 (Bm 3 0 7)) 8 (Bm 3 0 8)) 9 (Bm 3 0 9)) 10 (Bm 3 0 10)) 11 (Bm 3 0 11))) 1 (up (up (up (up (up (up (up (up (up (up (up (up (Bm 6 1) 0 (Bm 3 1 0)) 1 (Bm 3 1 1)) 21 (Bm 3 1 21)) 22 (Bm 3 1 22)) 4 (Bm 3 1 4)) 5 (Bm 3 1 5)) 6 (Bm 3 1 6)) 7 (Bm 3 1 7)) 8 (Bm 3 1 8)) 9 (Bm 3 1 9)) 10 (Bm 3 1 10)) 11 (Bm 3 1 11))) 2 (up (up (up (up (up (up (up (up (up (up (up (up (Bm 6 2) 0 (Bm 3 2 0)) 1 (Bm 3 2 1)) 21 (Bm 3 2 21)) 22 (Bm 3 2 22)) 4 (Bm 3 2 4)) 5 (Bm 3 2 5)) 6 (Bm 3 2 6)) 7 (Bm 3 2 7)) 8 (Bm 3 2 8)) 9 (Bm 3 2 9)) 10 (Bm 3 2 10)) 11 (Bm 3 2 11))) 3 (up (up (up (up (up (up (up (up (up (up (up (up (Bm 6 3) 0 (Bm 3 3 0)) 1 (Bm 3 3 1)) 21 (Bm 3 3 21)) 22 (Bm 3 3 22)) 4 (Bm 3 3 4)) 5 (Bm 3 3 5)) 6 (Bm 3 3 6)) 7 (Bm 3 3 7)) 8 (Bm 3 3 8)) 9 (Bm 3 3 9)) 10 (Bm 3 3 10)) 11 (Bm 3 3 11)))) bk)) rfl ?_
  refine mB hT 40 rfl ?_
  refine mNf (lv2 := [(3, .int 1), (0, .ref 0), (1, .int 3), (2, .int 6)]) (st2 := [.ref 7, .int 217, .ref 7]) rfl rfl ?_
  refine mB hT 40 rfl ?_
  refine mNf (lv2 := [(3, .int 3), (0, .ref 0), (1, .int 3), (2, .int 6)]) (st2 := [.int 219, .ref 7]) rfl rfl ?_
  refine mB hT 40 rfl ?_
  refine mNf (lv2 := [(3, .int 5), (0, .ref 0), (1, .int 3), (2, .int 6)]) (st2 := [.int 216, .ref 7]) rfl rfl ?_
  refine mB hT 40 rfl ?_
  refine mNf (lv2 := [(3, .int 7), (0, .ref 0), (1, .int 3), (2, .int 6)]) (st2 := [.int 36, .ref 7]) rfl rfl ?_
  refine mB hT 13 rfl ?_
  refine mWd (w2 := (MW n vs wo un h bo ta tr ro ot (up Bm 6 (up (up (up (up (Bm 6) 0 (up (up (up (up (up (up (up (up (up (up (up (up (up (up (up (up (up (up (up (up (Bm 6 0) 0 (Bm 3 0 0)) 1 (Bm 3 0 1)) 21 (Bm 3 0 21)) 22 (Bm 3 0 22)) 4 (Bm 3 0 4)) 5 (Bm 3 0 5)) 6 (Bm 3 0 6)) 7 (Bm 3 0 7)) 8 (Bm 3 0 8)) 9 (Bm 3 0 9)) 10 (Bm 3 0 10)) 11 (Bm 3 0 11)) 12 (Bm 3 0 12)) 13 (Bm 3 0 13)) 14 (Bm 3 0 14)) 15 (Bm 3 0 15)) 16 (Bm 3 0 16)) 17 (Bm 3 0 17)) 18 (Bm 3 0 18)) 19 (Bm 3 0 19))) 1 (up (up (up (up (up (up (up (up (up (up (up (up (Bm 6 1) 0 (Bm 3 1 0)) 1 (Bm 3 1 1)) 21 (Bm 3 1 21)) 22 (Bm 3 1 22)) 4 (Bm 3 1 4)) 5 (Bm 3 1 5)) 6 (Bm 3 1 6)) 7 (Bm 3 1 7)) 8 (Bm 3 1 8)) 9 (Bm 3 1 9)) 10 (Bm 3 1 10)) 11 (Bm 3 1 11))) 2 (up (up (up (up (up (up (up (up (up (up (up (up (Bm 6 2) 0 (Bm 3 2 0)) 1 (Bm 3 2 1)) 21 (Bm 3 2 21)) 22 (Bm 3 2 22)) 4 (Bm 3 2 4)) 5 (Bm 3 2 5)) 6 (Bm 3 2 6)) 7 (Bm 3 2 7)) 8 (Bm 3 2 8)) 9 (Bm 3 2 9)) 10 (Bm 3 2 10)) 11 (Bm 3 2 11))) 3 (up (up (up (up (up (up (up (up (up (up (up (up (Bm 6 3) 0 (Bm 3 3 0)) 1 (Bm 3 3 1)) 21 (Bm 3 3 21)) 22 (Bm 3 3 22)) 4 (Bm 3 3 4)) 5 (Bm 3 3 5)) 6 (Bm 3 3 6)) 7 (Bm 3 3 7)) 8 (Bm 3 3 8)) 9 (Bm 3 3 9)) 10 (Bm 3 3 10)) 11 (Bm 3 3 11)))) bk)) rfl ?_
  refine mB hT 40 rfl ?_
  refine mNf (lv2 := [(3, .int 9), (0, .ref 0), (1, .int 3), (2, .int 6)]) (st2 := [.int 117, .ref 7, .int 225, .ref 7]) rfl rfl ?_
  refine mB hT 40 rfl ?_
  refine mNf (lv2 := [(3, .int 11), (0, .ref 0), (1, .int 3), (2, .int 6)]) (st2 := [.int 108, .ref 7, .int 227, .ref 7]) rfl rfl ?_
  refine mB hT 40 rfl ?_
  refine mNf (lv2 := [(3, .int 13), (0, .ref 0), (1, .int 3), (2, .int 6)]) (st2 := [.int 36, .ref 7, .int 229, .ref 7]) rfl rfl ?_
  refine mB hT 40 rfl ?_
  refine mNf (lv2 := [(3, .int 15), (0, .ref 0), (1, .int 3), (2, .int 6)]) (st2 := [.ref 0, .int 231, .ref 7]) rfl rfl ?_
  refine mB hT 8 rfl ?_
  refine mWd (w2 := (MW n vs wo un h bo ta tr ro ot (up Bm 6 (up (up (up (up (Bm 6) 0 (up (up (up (up (up (up (up (up (up (up (up (up (up (up (up (up (up (up (up (up (up (Bm 6 0) 0 (Bm 3 0 0)) 1 (Bm 3 0 1)) 21 (Bm 3 0 21)) 22 (Bm 3 0 22)) 4 (Bm 3 0 4)) 5 (Bm 3 0 5)) 6 (Bm 3 0 6)) 7 (Bm 3 0 7)) 8 (Bm 3 0 8)) 9 (Bm 3 0 9)) 10 (Bm 3 0 10)) 11 (Bm 3 0 11)) 12 (Bm 3 0 12)) 13 (Bm 3 0 13)) 14 (Bm 3 0 14)) 15 (Bm 3 0 15)) 16 (Bm 3 0 16)) 17 (Bm 3 0 17)) 18 (Bm 3 0 18)) 19 (Bm 3 0 19)) 20 (Bm 3 0 20))) 1 (up (up (up (up (up (up (up (up (up (up (up (up (up (up (up (up (up (up (up (Bm 6 1) 0 (Bm 3 1 0)) 1 (Bm 3 1 1)) 21 (Bm 3 1 21)) 22 (Bm 3 1 22)) 4 (Bm 3 1 4)) 5 (Bm 3 1 5)) 6 (Bm 3 1 6)) 7 (Bm 3 1 7)) 8 (Bm 3 1 8)) 9 (Bm 3 1 9)) 10 (Bm 3 1 10)) 11 (Bm 3 1 11)) 12 (Bm 3 1 12)) 13 (Bm 3 1 13)) 14 (Bm 3 1 14)) 15 (Bm 3 1 15)) 16 (Bm 3 1 16)) 17 (Bm 3 1 17)) 18 (Bm 3 1 18))) 2 (up (up (up (up (up (up (up (up (up (up (up (up (Bm 6 2) 0 (Bm 3 2 0)) 1 (Bm 3 2 1)) 21 (Bm 3 2 21)) 22 (Bm 3 2 22)) 4 (Bm 3 2 4)) 5 (Bm 3 2 5)) 6 (Bm 3 2 6)) 7 (Bm 3 2 7)) 8 (Bm 3 2 8)) 9 (Bm 3 2 9)) 10 (Bm 3 2 10)) 11 (Bm 3 2 11))) 3 (up (up (up (up (up (up (up (up (up (up (up (up (Bm 6 3) 0 (Bm 3 3 0)) 1 (Bm 3 3 1)) 21 (Bm 3 3 21)) 22 (Bm 3 3 22)) 4 (Bm 3 3 4)) 5 (Bm 3 3 5)) 6 (Bm 3 3 6)) 7 (Bm 3 3 7)) 8 (Bm 3 3 8)) 9 (Bm 3 3 9)) 10 (Bm 3 3 10)) 11 (Bm 3 3 11)))) bk)) rfl ?_
  refine mB hT 40 rfl ?_
  refine mNf (lv2 := [(3, .int 17), (0, .ref 0), (1, .int 3), (2, .int 6)]) (st2 := [.int 125, .ref 7, .int 233, .ref 7]) rfl rfl ?_
  refine mB hT 40 rfl ?_
  refine mNf (lv2 := [(3, .int 19), (0, .ref 0), (1, .int 3), (2, .int 6)]) (st2 := [.int 108, .ref 7, .int 235, .ref 7]) rfl rfl ?_
  refine mB hT 40 rfl ?_
  refine mNf (lv2 := [(3, .int 21), (0, .ref 0), (1, .int 3), (2, .int 6)]) (st2 := [.int 36, .ref 7, .int 237, .ref 7]) rfl rfl ?_
  refine mB hT 40 rfl ?_
  refine mNf (lv2 := [(3, .int 23), (0, .ref 0), (1, .int 3), (2, .int 6)]) (st2 := [.ref 0, .int 239, .ref 7]) rfl rfl ?_
  refine mB hT 8 rfl ?_
  refine mWd (w2 := (MW n vs wo un h bo ta tr ro ot (up Bm 6 (up (up (up (up (Bm 6) 0 (up (up (up (up (up (up (up (up (up (up (up (up (up (up (up (up (up (up (up (up (up (Bm 6 0) 0 (Bm 3 0 0)) 1 (Bm 3 0 1)) 21 (Bm 3 0 21)) 22 (Bm 3 0 22)) 4 (Bm 3 0 4)) 5 (Bm 3 0 5)) 6 (Bm 3 0 6)) 7 (Bm 3 0 7)) 8 (Bm 3 0 8)) 9 (Bm 3 0 9)) 10 (Bm 3 0 10)) 11 (Bm 3 0 11)) 12 (Bm 3 0 12)) 13 (Bm 3 0 13)) 14 (Bm 3 0 14)) 15 (Bm 3 0 15)) 16 (Bm 3 0 16)) 17 (Bm 3 0 17)) 18 (Bm 3 0 18)) 19 (Bm 3 0 19)) 20 (Bm 3 0 20))) 1 (up (up (up (up (up (up (up (up (up (up (up (up (up (up (up (up (up (up (up (up (up (Bm 6 1) 0 (Bm 3 1 0)) 1 (Bm 3 1 1)) 21 (Bm 3 1 21)) 22 (Bm 3 1 22)) 4 (Bm 3 1 4)) 5 (Bm 3 1 5)) 6 (Bm 3 1 6)) 7 (Bm 3 1 7)) 8 (Bm 3 1 8)) 9 (Bm 3 1 9)) 10 (Bm 3 1 10)) 11 (Bm 3 1 11)) 12 (Bm 3 1 12)) 13 (Bm 3 1 13)) 14 (Bm 3 1 14)) 15 (Bm 3 1 15)) 16 (Bm 3 1 16)) 17 (Bm 3 1 17)) 18 (Bm 3 1 18)) 19 (Bm 3 1 19)) 20 (Bm 3 1 20))) 2 (up (up (up (up (up (up (up (up (up (up (up (up (up (up (up (up (up (up (Bm 6 2) 0 (Bm 3 2 0)) 1 (Bm 3 2 1)) 21 (Bm 3 2 21)) 22 (Bm 3 2 22)) 4 (Bm 3 2 4)) 5 (Bm 3 2 5)) 6 (Bm 3 2 6)) 7 (Bm 3 2 7)) 8 (Bm 3 2 8)) 9 (Bm 3 2 9)) 10 (Bm 3 2 10)) 11 (Bm 3 2 11)) 12 (Bm 3 2 12)) 13 (Bm 3 2 13)) 14 (Bm 3 2 14)) 15 (Bm 3 2 15)) 16 (Bm 3 2 16)) 17 (Bm 3 2 17))) 3 (up (up (up (up (up (up (up (up (up (up (up (up (Bm 6 3) 0 (Bm 3 3 0)) 1 (Bm 3 3 1)) 21 (Bm 3 3 21)) 22 (Bm 3 3 22)) 4 (Bm 3 3 4)) 5 (Bm 3 3 5)) 6 (Bm 3 3 6)) 7 (Bm 3 3 7)) 8 (Bm 3 3 8)) 9 (Bm 3 3 9)) 10 (Bm 3 3 10)) 11 (Bm 3 3 11)))) bk)) rfl ?_
  refine mB hT 40 rfl ?_
  refine mNf (lv2 := [(3, .int 25), (0, .ref 0), (1, .int 3), (2, .int 6)]) (st2 := [.int 133, .ref 7, .int 241, .ref 7]) rfl rfl ?_
  refine mB hT 40 rfl ?_
  refine mNf (lv2 := [(3, .int 27), (0, .ref 0), (1, .int 3), (2, .int 6)]) (st2 := [.int 108, .ref 7, .int 243, .ref 7]) rfl rfl ?_
  refine mB hT 40 rfl ?_
  refine mNf (lv2 := [(3, .int 29), (0, .ref 0), (1, .int 3), (2, .int 6)]) (st2 := [.int 36, .ref 7, .int 245, .ref 7]) rfl rfl ?_
  refine mB hT 40 rfl ?_
  refine mNf (lv2 := [(3, .int 31), (0, .ref 0), (1, .int 3), (2, .int 6)]) (st2 := [.ref 0, .int 247, .ref 7]) rfl rfl ?_
  refine mB hT 8 rfl ?_
  refine mWd (w2 := (MW n vs wo un h bo ta tr ro ot (up Bm 6 (up (up (up (up (Bm 6) 0 (up (up (up (up (up (up (up (up (up (up (up (up (up (up (up (up (up (up (up (up (up (Bm 6 0) 0 (Bm 3 0 0)) 1 (Bm 3 0 1)) 21 (Bm 3 0 21)) 22 (Bm 3 0 22)) 4 (Bm 3 0 4)) 5 (Bm 3 0 5)) 6 (Bm 3 0 6)) 7 (Bm 3 0 7)) 8 (Bm 3 0 8)) 9 (Bm 3 0 9)) 10 (Bm 3 0 10)) 11 (Bm 3 0 11)) 12 (Bm 3 0 12)) 13 (Bm 3 0 13)) 14 (Bm 3 0 14)) 15 (Bm 3 0 15)) 16 (Bm 3 0 16)) 17 (Bm 3 0 17)) 18 (Bm 3 0 18)) 19 (Bm 3 0 19)) 20 (Bm 3 0 20))) 1 (up (up (up (up (up (up (up (up (up (up (up (up (up (up (up (up (up (up (up (up (up (Bm 6 1) 0 (Bm 3 1 0)) 1 (Bm 3 1 1)) 21 (Bm 3 1 21)) 22 (Bm 3 1 22)) 4 (Bm 3 1 4)) 5 (Bm 3 1 5)) 6 (Bm 3 1 6)) 7 (Bm 3 1 7)) 8 (Bm 3 1 8)) 9 (Bm 3 1 9)) 10 (Bm 3 1 10)) 11 (Bm 3 1 11)) 12 (Bm 3 1 12)) 13 (Bm 3 1 13)) 14 (Bm 3 1 14)) 15 (Bm 3 1 15)) 16 (Bm 3 1 16)) 17 (Bm 3 1 17)) 18 (Bm 3 1 18)) 19 (Bm 3 1 19)) 20 (Bm 3 1 20))) 2 (up (up (up (up (up (up (up (up (up (up (up (up (up (up (up (up (up (up (up (up (up (Bm 6 2) 0 (Bm 3 2 0)) 1 (Bm 3 2 1)) 21 (Bm 3 2 21)) 22 (Bm 3 2 22)) 4 (Bm 3 2 4)) 5 (Bm 3 2 5)) 6 (Bm 3 2 6)) 7 (Bm 3 2 7)) 8 (Bm 3 2 8)) 9 (Bm 3 2 9)) 10 (Bm 3 2 10)) 11 (Bm 3 2 11)) 12 (Bm 3 2 12)) 13 (Bm 3 2 13)) 14 (Bm 3 2 14)) 15 (Bm 3 2 15)) 16 (Bm 3 2 16)) 17 (Bm 3 2 17)) 18 (Bm 3 2 18)) 19 (Bm 3 2 19)) 20 (Bm 3 2 20))) 3 (up (up (up (up (up (up (up (up (up (up (up (up (up (up (up (up (up (Bm 6 3) 0 (Bm 3 3 0)) 1 (Bm 3 3 1)) 21 (Bm 3 3 21)) 22 (Bm 3 3 22)) 4 (Bm 3 3 4)) 5 (Bm 3 3 5)) 6 (Bm 3 3 6)) 7 (Bm 3 3 7)) 8 (Bm 3 3 8)) 9 (Bm 3 3 9)) 10 (Bm 3 3 10)) 11 (Bm 3 3 11)) 12 (Bm 3 3 12)) 13 (Bm 3 3 13)) 14 (Bm 3 3 14)) 15 (Bm 3 3 15)) 16 (Bm 3 3 16)))) bk)) rfl ?_
  refine mB hT 40 rfl ?_
  refine mNf (lv2 := [(3, .int 33), (0, .ref 0), (1, .int 3), (2, .int 6)]) (st2 := [.int 141, .ref 7, .int 249, .ref 7]) rfl rfl ?_
  refine mB hT 40 rfl ?_
  refine mNf (lv2 := [(3, .int 35), (0, .ref 0), (1, .int 3), (2, .int 6)]) (st2 := [.int 108, .ref 7, .int 251, .ref 7]) rfl rfl ?_
  refine mB hT 9 rfl ?_
  exact hR _ (by decide) _ _ _ rfl rfl
set_option maxRecDepth 20000 in
theorem m_copy_4_6 {n vs : Int32} {wo un h : Int64} {bo : Nat → Int32} {ta tr ro ot : Nat → Int64} {Bm : Nat → Nat → Nat → Int32} {bk : Nat → Nat → Int32} : KX3_copy l D ca ad [.ref 0, .int 4, .int 6] (MW n vs wo un h bo ta tr ro ot Bm bk) none (MW n vs wo un h bo ta tr ro ot (up Bm 6 (Bm 4)) bk) := by
  refine PX3_copy (Nat.le_of_ble_eq_true rfl) ?_
  intro G hT hC hR
  refine mB hT 40 rfl ?_
  refine mB hT 40 rfl ?_
  refine mNf (lv2 := [(3, .int 1), (0, .ref 0), (1, .int 4), (2, .int 6)]) (st2 := [.int 1, .int 24, .ref 1]) rfl rfl ?_
  refine mB hT 40 rfl ?_
  refine mB hT 18 rfl ?_
  refine mWd (w2 := (MW n vs wo un h bo ta tr ro ot (up Bm 6 (up (up (Bm 6) 0 (up (up (up (up (Bm 6 0) 0 (Bm 4 0 0)) 1 (Bm 4 0 1)) 21 (Bm 4 0 21)) 22 (Bm 4 0 22))) 1 (up (up (up (up (Bm 6 1) 0 (Bm 4 1 0)) 1 (Bm 4 1 1)) 21 (Bm 4 1 21)) 22 (Bm 4 1 22)))) bk)) rfl ?_
  refine mB hT 40 rfl ?_
  refine mB hT 40 rfl ?_
  refine mNf (lv2 := [(3, .int 3), (0, .ref 0), (1, .int 4), (2, .int 6)]) (st2 := [.int 3, .int 24, .ref 1]) rfl rfl ?_
  refine mB hT 40 rfl ?_
  refine mB hT 18 rfl ?_
  refine mWd (w2 := (MW n vs wo un h bo ta tr ro ot (up Bm 6 (up (up (up (up (Bm 6) 0 (up (up (up (up (Bm 6 0) 0 (Bm 4 0 0)) 1 (Bm 4 0 1)) 21 (Bm 4 0 21)) 22 (Bm 4 0 22))) 1 (up (up (up (up (Bm 6 1) 0 (Bm 4 1 0)) 1 (Bm 4 1 1)) 21 (Bm 4 1 21)) 22 (Bm 4 1 22))) 2 (up (up (up (up (Bm 6 2) 0 (Bm 4 2 0)) 1 (Bm 4 2 1)) 21 (Bm 4 2 21)) 22 (Bm 4 2 22))) 3 (up (up (up (up (Bm 6 3) 0 (Bm 4 3 0)) 1 (Bm 4 3 1)) 21 (Bm 4 3 21)) 22 (Bm 4 3 22)))) bk)) rfl ?_
  refine mB hT 40 rfl ?_
  refine mNf (lv2 := [(3, .int 0), (0, .ref 0), (1, .int 4), (2, .int 6)]) (st2 := [.int 64, .ref 6, .int 96, .ref 6]) rfl rfl ?_
  refine mB hT 40 rfl ?_
  refine mNf (lv2 := [(3, .int 2), (0, .ref 0), (1, .int 4), (2, .int 6)]) (st2 := []) rfl rfl ?_
  refine mB hT 40 rfl ?_
  refine mB hT 33 rfl ?_
  refine mWd (w2 := (MW n vs wo un h bo ta tr ro ot (up Bm 6 (up (up (up (up (Bm 6) 0 (up (up (up (up (up (up (up (up (up (up (up (up (Bm 6 0) 0 (Bm 4 0 0)) 1 (Bm 4 0 1)) 21 (Bm 4 0 21)) 22 (Bm 4 0 22)) 4 (Bm 4 0 4)) 5 (Bm 4 0 5)) 6 (Bm 4 0 6)) 7 (Bm 4 0 7)) 8 (Bm 4 0 8)) 9 (Bm 4 0 9)) 10 (Bm 4 0 10)) 11 (Bm 4 0 11))) 1 (up (up (up (up (Bm 6 1) 0 (Bm 4 1 0)) 1 (Bm 4 1 1)) 21 (Bm 4 1 21)) 22 (Bm 4 1 22))) 2 (up (up (up (up (Bm 6 2) 0 (Bm 4 2 0)) 1 (Bm 4 2 1)) 21 (Bm 4 2 21)) 22 (Bm 4 2 22))) 3 (up (up (up (up (Bm 6 3) 0 (Bm 4 3 0)) 1 (Bm 4 3 1)) 21 (Bm 4 3 21)) 22 (Bm 4 3 22)))) bk)) rfl ?_
  refine mB hT 40 rfl ?_
  refine mNf (lv2 := [(3, .int 5), (0, .ref 0), (1, .int 4), (2, .int 6)]) (st2 := [.int 5]) rfl rfl ?_
  refine mB hT 40 rfl ?_
  refine mB hT 40 rfl ?_
  refine mNf (lv2 := [(3, .int 7), (0, .ref 0), (1, .int 4), (2, .int 6)]) (st2 := [.int 6, .int 16, .ref 5]) rfl rfl ?_
  refine mB hT 28 rfl ?_
  refine mWd (w2 := (MW n vs wo un h bo ta tr ro ot (up Bm 6 (up (up (up (up (Bm 6) 0 (up (up (up (up (up (up (up (up (up (up (up (up (Bm 6 0) 0 (Bm 4 0 0)) 1 (Bm 4 0 1)) 21 (Bm 4 0 21)) 22 (Bm 4 0 22)) 4 (Bm 4 0 4)) 5 (Bm 4 0 5)) 6 (Bm 4 0 6)) 7 (Bm 4 0 7)) 8 (Bm 4 0 8)) 9 (Bm 4 0 9)) 10 (Bm 4 0 10)) 11 (Bm 4 0 11))) 1 (up (up (up (up (up (up (up (up (up (up (up (up (Bm 6 1) 0 (Bm 4 1 0)) 1 (Bm 4 1 1)) 21 (Bm 4 1 21)) 22 (Bm 4 1 22)) 4 (Bm 4 1 4)) 5 (Bm 4 1 5)) 6 (Bm 4 1 6)) 7 (Bm 4 1 7)) 8 (Bm 4 1 8)) 9 (Bm 4 1 9)) 10 (Bm 4 1 10)) 11 (Bm 4 1 11))) 2 (up (up (up (up (Bm 6 2) 0 (Bm 4 2 0)) 1 (Bm 4 2 1)) 21 (Bm 4 2 21)) 22 (Bm 4 2 22))) 3 (up (up (up (up (Bm 6 3) 0 (Bm 4 3 0)) 1 (Bm 4 3 1)) 21 (Bm 4 3 21)) 22 (Bm 4 3 22)))) bk)) rfl ?_
  refine mB hT 40 rfl ?_
  refine mNf (lv2 := [(3, .int 9), (0, .ref 0), (1, .int 4), (2, .int 6)]) (st2 := [.int 9]) rfl rfl ?_
  refine mB hT 40 rfl ?_
  refine mB hT 40 rfl ?_
  refine mNf (lv2 := [(3, .int 11), (0, .ref 0), (1, .int 4), (2, .int 6)]) (st2 := [.int 6, .int 16, .ref 5]) rfl rfl ?_
  refine mB hT 28 rfl ?_
  refine mWd (w2 := (MW n vs wo un h bo ta tr ro ot (up Bm 6 (up (up (up (up (Bm 6) 0 (up (up (up (up (up (up (up (up (up (up (up (up (Bm 6 0) 0 (Bm 4 0 0)) 1 (Bm 4 0 1)) 21 (Bm 4 0 21)) 22 (Bm 4 0 22)) 4 (Bm 4 0 4)) 5 (Bm 4 0 5)) 6 (Bm 4 0 6)) 7 (Bm 4 0 7)) 8 (Bm 4 0 8)) 9 (Bm 4 0 9)) 10 (Bm 4 0 10)) 11 (Bm 4 0 11))) 1 (up (up (up (up (up (up (up (up (up (up (up (up (Bm 6 1) 0 (Bm 4 1 0)) 1 (Bm 4 1 1)) 21 (Bm 4 1 21)) 22 (Bm 4 1 22)) 4 (Bm 4 1 4)) 5 (Bm 4 1 5)) 6 (Bm 4 1 6)) 7 (Bm 4 1 7)) 8 (Bm 4 1 8)) 9 (Bm 4 1 9)) 10 (Bm 4 1 10)) 11 (Bm 4 1 11))) 2 (up (up (up (up (up (up (up (up (up (up (up (up (Bm 6 2) 0 (Bm 4 2 0)) 1 (Bm 4 2 1)) 21 (Bm 4 2 21)) 22 (Bm 4 2 22)) 4 (Bm 4 2 4)) 5 (Bm 4 2 5)) 6 (Bm 4 2 6)) 7 (Bm 4 2 7)) 8 (Bm 4 2 8)) 9 (Bm 4 2 9)) 10 (Bm 4 2 10)) 11 (Bm 4 2 11))) 3 (up (up (up (up (Bm 6 3) 0 (Bm 4 3 0)) 1 (Bm 4 3 1)) 21 (Bm 4 3 21)) 22 (Bm 4 3 22)))) bk)) rfl ?_
  refine mB hT 40 rfl ?_
  refine mNf (lv2 := [(3, .int 13), (0, .ref 0), (1, .int 4), (2, .int 6)]) (st2 := [.int 13]) rfl rfl ?_
  refine mB hT 40 rfl ?_
  refine mB hT 40 rfl ?_
  refine mNf (lv2 := [(3, .int 15), (0, .ref 0), (1, .int 4), (2, .int 6)]) (st2 := [.int 6, .int 16, .ref 5]) rfl rfl ?_
  refine mB hT 28 rfl ?_
  refine mWd (w2 := (MW n vs wo un h bo ta tr ro ot (up Bm 6 (up (up (up (up (Bm 6) 0 (up (up (up (up (up (up (up (up (up (up (up (up (Bm 6 0) 0 (Bm 4 0 0)) 1 (Bm 4 0 1)) 21 (Bm 4 0 21)) 22 (Bm 4 0 22)) 4 (Bm 4 0 4)) 5 (Bm 4 0 5)) 6 (Bm 4 0 6)) 7 (Bm 4 0 7)) 8 (Bm 4 0 8)) 9 (Bm 4 0 9)) 10 (Bm 4 0 10)) 11 (Bm 4 0 11))) 1 (up (up (up (up (up (up (up (up (up (up (up (up (Bm 6 1) 0 (Bm 4 1 0)) 1 (Bm 4 1 1)) 21 (Bm 4 1 21)) 22 (Bm 4 1 22)) 4 (Bm 4 1 4)) 5 (Bm 4 1 5)) 6 (Bm 4 1 6)) 7 (Bm 4 1 7)) 8 (Bm 4 1 8)) 9 (Bm 4 1 9)) 10 (Bm 4 1 10)) 11 (Bm 4 1 11))) 2 (up (up (up (up (up (up (up (up (up (up (up (up (Bm 6 2) 0 (Bm 4 2 0)) 1 (Bm 4 2 1)) 21 (Bm 4 2 21)) 22 (Bm 4 2 22)) 4 (Bm 4 2 4)) 5 (Bm 4 2 5)) 6 (Bm 4 2 6)) 7 (Bm 4 2 7)) 8 (Bm 4 2 8)) 9 (Bm 4 2 9)) 10 (Bm 4 2 10)) 11 (Bm 4 2 11))) 3 (up (up (up (up (up (up (up (up (up (up (up (up (Bm 6 3) 0 (Bm 4 3 0)) 1 (Bm 4 3 1)) 21 (Bm 4 3 21)) 22 (Bm 4 3 22)) 4 (Bm 4 3 4)) 5 (Bm 4 3 5)) 6 (Bm 4 3 6)) 7 (Bm 4 3 7)) 8 (Bm 4 3 8)) 9 (Bm 4 3 9)) 10 (Bm 4 3 10)) 11 (Bm 4 3 11)))) bk)) rfl ?_
  refine mB hT 40 rfl ?_
  refine mNf (lv2 := [(3, .int 1), (0, .ref 0), (1, .int 4), (2, .int 6)]) (st2 := [.ref 7, .int 217, .ref 7]) rfl rfl ?_
  refine mB hT 40 rfl ?_
  refine mNf (lv2 := [(3, .int 3), (0, .ref 0), (1, .int 4), (2, .int 6)]) (st2 := [.int 219, .ref 7]) rfl rfl ?_
  refine mB hT 40 rfl ?_
  refine mNf (lv2 := [(3, .int 5), (0, .ref 0), (1, .int 4), (2, .int 6)]) (st2 := [.int 216, .ref 7]) rfl rfl ?_
  refine mB hT 40 rfl ?_
  refine mNf (lv2 := [(3, .int 7), (0, .ref 0), (1, .int 4), (2, .int 6)]) (st2 := [.int 36, .ref 7]) rfl rfl ?_
  refine mB hT 13 rfl ?_
  refine mWd (w2 := (MW n vs wo un h bo ta tr ro ot (up Bm 6 (up (up (up (up (Bm 6) 0 (up (up (up (up (up (up (up (up (up (up (up (up (up (up (up (up (up (up (up (up (Bm 6 0) 0 (Bm 4 0 0)) 1 (Bm 4 0 1)) 21 (Bm 4 0 21)) 22 (Bm 4 0 22)) 4 (Bm 4 0 4)) 5 (Bm 4 0 5)) 6 (Bm 4 0 6)) 7 (Bm 4 0 7)) 8 (Bm 4 0 8)) 9 (Bm 4 0 9)) 10 (Bm 4 0 10)) 11 (Bm 4 0 11)) 12 (Bm 4 0 12)) 13 (Bm 4 0 13)) 14 (Bm 4 0 14)) 15 (Bm 4 0 15)) 16 (Bm 4 0 16)) 17 (Bm 4 0 17)) 18 (Bm 4 0 18)) 19 (Bm 4 0 19))) 1 (up (up (up (up (up (up (up (up (up (up (up (up (Bm 6 1) 0 (Bm 4 1 0)) 1 (Bm 4 1 1)) 21 (Bm 4 1 21)) 22 (Bm 4 1 22)) 4 (Bm 4 1 4)) 5 (Bm 4 1 5)) 6 (Bm 4 1 6)) 7 (Bm 4 1 7)) 8 (Bm 4 1 8)) 9 (Bm 4 1 9)) 10 (Bm 4 1 10)) 11 (Bm 4 1 11))) 2 (up (up (up (up (up (up (up (up (up (up (up (up (Bm 6 2) 0 (Bm 4 2 0)) 1 (Bm 4 2 1)) 21 (Bm 4 2 21)) 22 (Bm 4 2 22)) 4 (Bm 4 2 4)) 5 (Bm 4 2 5)) 6 (Bm 4 2 6)) 7 (Bm 4 2 7)) 8 (Bm 4 2 8)) 9 (Bm 4 2 9)) 10 (Bm 4 2 10)) 11 (Bm 4 2 11))) 3 (up (up (up (up (up (up (up (up (up (up (up (up (Bm 6 3) 0 (Bm 4 3 0)) 1 (Bm 4 3 1)) 21 (Bm 4 3 21)) 22 (Bm 4 3 22)) 4 (Bm 4 3 4)) 5 (Bm 4 3 5)) 6 (Bm 4 3 6)) 7 (Bm 4 3 7)) 8 (Bm 4 3 8)) 9 (Bm 4 3 9)) 10 (Bm 4 3 10)) 11 (Bm 4 3 11)))) bk)) rfl ?_
  refine mB hT 40 rfl ?_
  refine mNf (lv2 := [(3, .int 9), (0, .ref 0), (1, .int 4), (2, .int 6)]) (st2 := [.int 153, .ref 7, .int 225, .ref 7]) rfl rfl ?_
  refine mB hT 40 rfl ?_
  refine mNf (lv2 := [(3, .int 11), (0, .ref 0), (1, .int 4), (2, .int 6)]) (st2 := [.int 144, .ref 7, .int 227, .ref 7]) rfl rfl ?_
  refine mB hT 40 rfl ?_
  refine mNf (lv2 := [(3, .int 13), (0, .ref 0), (1, .int 4), (2, .int 6)]) (st2 := [.int 36, .ref 7, .int 229, .ref 7]) rfl rfl ?_
  refine mB hT 40 rfl ?_
  refine mNf (lv2 := [(3, .int 15), (0, .ref 0), (1, .int 4), (2, .int 6)]) (st2 := [.ref 0, .int 231, .ref 7]) rfl rfl ?_
  refine mB hT 8 rfl ?_
  refine mWd (w2 := (MW n vs wo un h bo ta tr ro ot (up Bm 6 (up (up (up (up (Bm 6) 0 (up (up (up (up (up (up (up (up (up (up (up (up (up (up (up (up (up (up (up (up (up (Bm 6 0) 0 (Bm 4 0 0)) 1 (Bm 4 0 1)) 21 (Bm 4 0 21)) 22 (Bm 4 0 22)) 4 (Bm 4 0 4)) 5 (Bm 4 0 5)) 6 (Bm 4 0 6)) 7 (Bm 4 0 7)) 8 (Bm 4 0 8)) 9 (Bm 4 0 9)) 10 (Bm 4 0 10)) 11 (Bm 4 0 11)) 12 (Bm 4 0 12)) 13 (Bm 4 0 13)) 14 (Bm 4 0 14)) 15 (Bm 4 0 15)) 16 (Bm 4 0 16)) 17 (Bm 4 0 17)) 18 (Bm 4 0 18)) 19 (Bm 4 0 19)) 20 (Bm 4 0 20))) 1 (up (up (up (up (up (up (up (up (up (up (up (up (up (up (up (up (up (up (up (Bm 6 1) 0 (Bm 4 1 0)) 1 (Bm 4 1 1)) 21 (Bm 4 1 21)) 22 (Bm 4 1 22)) 4 (Bm 4 1 4)) 5 (Bm 4 1 5)) 6 (Bm 4 1 6)) 7 (Bm 4 1 7)) 8 (Bm 4 1 8)) 9 (Bm 4 1 9)) 10 (Bm 4 1 10)) 11 (Bm 4 1 11)) 12 (Bm 4 1 12)) 13 (Bm 4 1 13)) 14 (Bm 4 1 14)) 15 (Bm 4 1 15)) 16 (Bm 4 1 16)) 17 (Bm 4 1 17)) 18 (Bm 4 1 18))) 2 (up (up (up (up (up (up (up (up (up (up (up (up (Bm 6 2) 0 (Bm 4 2 0)) 1 (Bm 4 2 1)) 21 (Bm 4 2 21)) 22 (Bm 4 2 22)) 4 (Bm 4 2 4)) 5 (Bm 4 2 5)) 6 (Bm 4 2 6)) 7 (Bm 4 2 7)) 8 (Bm 4 2 8)) 9 (Bm 4 2 9)) 10 (Bm 4 2 10)) 11 (Bm 4 2 11))) 3 (up (up (up (up (up (up (up (up (up (up (up (up (Bm 6 3) 0 (Bm 4 3 0)) 1 (Bm 4 3 1)) 21 (Bm 4 3 21)) 22 (Bm 4 3 22)) 4 (Bm 4 3 4)) 5 (Bm 4 3 5)) 6 (Bm 4 3 6)) 7 (Bm 4 3 7)) 8 (Bm 4 3 8)) 9 (Bm 4 3 9)) 10 (Bm 4 3 10)) 11 (Bm 4 3 11)))) bk)) rfl ?_
  refine mB hT 40 rfl ?_
  refine mNf (lv2 := [(3, .int 17), (0, .ref 0), (1, .int 4), (2, .int 6)]) (st2 := [.int 161, .ref 7, .int 233, .ref 7]) rfl rfl ?_
  refine mB hT 40 rfl ?_
  refine mNf (lv2 := [(3, .int 19), (0, .ref 0), (1, .int 4), (2, .int 6)]) (st2 := [.int 144, .ref 7, .int 235, .ref 7]) rfl rfl ?_
  refine mB hT 40 rfl ?_
  refine mNf (lv2 := [(3, .int 21), (0, .ref 0), (1, .int 4), (2, .int 6)]) (st2 := [.int 36, .ref 7, .int 237, .ref 7]) rfl rfl ?_
  refine mB hT 40 rfl ?_
  refine mNf (lv2 := [(3, .int 23), (0, .ref 0), (1, .int 4), (2, .int 6)]) (st2 := [.ref 0, .int 239, .ref 7]) rfl rfl ?_
  refine mB hT 8 rfl ?_
  refine mWd (w2 := (MW n vs wo un h bo ta tr ro ot (up Bm 6 (up (up (up (up (Bm 6) 0 (up (up (up (up (up (up (up (up (up (up (up (up (up (up (up (up (up (up (up (up (up (Bm 6 0) 0 (Bm 4 0 0)) 1 (Bm 4 0 1)) 21 (Bm 4 0 21)) 22 (Bm 4 0 22)) 4 (Bm 4 0 4)) 5 (Bm 4 0 5)) 6 (Bm 4 0 6)) 7 (Bm 4 0 7)) 8 (Bm 4 0 8)) 9 (Bm 4 0 9)) 10 (Bm 4 0 10)) 11 (Bm 4 0 11)) 12 (Bm 4 0 12)) 13 (Bm 4 0 13)) 14 (Bm 4 0 14)) 15 (Bm 4 0 15)) 16 (Bm 4 0 16)) 17 (Bm 4 0 17)) 18 (Bm 4 0 18)) 19 (Bm 4 0 19)) 20 (Bm 4 0 20))) 1 (up (up (up (up (up (up (up (up (up (up (up (up (up (up (up (up (up (up (up (up (up (Bm 6 1) 0 (Bm 4 1 0)) 1 (Bm 4 1 1)) 21 (Bm 4 1 21)) 22 (Bm 4 1 22)) 4 (Bm 4 1 4)) 5 (Bm 4 1 5)) 6 (Bm 4 1 6)) 7 (Bm 4 1 7)) 8 (Bm 4 1 8)) 9 (Bm 4 1 9)) 10 (Bm 4 1 10)) 11 (Bm 4 1 11)) 12 (Bm 4 1 12)) 13 (Bm 4 1 13)) 14 (Bm 4 1 14)) 15 (Bm 4 1 15)) 16 (Bm 4 1 16)) 17 (Bm 4 1 17)) 18 (Bm 4 1 18)) 19 (Bm 4 1 19)) 20 (Bm 4 1 20))) 2 (up (up (up (up (up (up (up (up (up (up (up (up (up (up (up (up (up (up (Bm 6 2) 0 (Bm 4 2 0)) 1 (Bm 4 2 1)) 21 (Bm 4 2 21)) 22 (Bm 4 2 22)) 4 (Bm 4 2 4)) 5 (Bm 4 2 5)) 6 (Bm 4 2 6)) 7 (Bm 4 2 7)) 8 (Bm 4 2 8)) 9 (Bm 4 2 9)) 10 (Bm 4 2 10)) 11 (Bm 4 2 11)) 12 (Bm 4 2 12)) 13 (Bm 4 2 13)) 14 (Bm 4 2 14)) 15 (Bm 4 2 15)) 16 (Bm 4 2 16)) 17 (Bm 4 2 17))) 3 (up (up (up (up (up (up (up (up (up (up (up (up (Bm 6 3) 0 (Bm 4 3 0)) 1 (Bm 4 3 1)) 21 (Bm 4 3 21)) 22 (Bm 4 3 22)) 4 (Bm 4 3 4)) 5 (Bm 4 3 5)) 6 (Bm 4 3 6)) 7 (Bm 4 3 7)) 8 (Bm 4 3 8)) 9 (Bm 4 3 9)) 10 (Bm 4 3 10)) 11 (Bm 4 3 11)))) bk)) rfl ?_
  refine mB hT 40 rfl ?_
  refine mNf (lv2 := [(3, .int 25), (0, .ref 0), (1, .int 4), (2, .int 6)]) (st2 := [.int 169, .ref 7, .int 241, .ref 7]) rfl rfl ?_
  refine mB hT 40 rfl ?_
  refine mNf (lv2 := [(3, .int 27), (0, .ref 0), (1, .int 4), (2, .int 6)]) (st2 := [.int 144, .ref 7, .int 243, .ref 7]) rfl rfl ?_
  refine mB hT 40 rfl ?_
  refine mNf (lv2 := [(3, .int 29), (0, .ref 0), (1, .int 4), (2, .int 6)]) (st2 := [.int 36, .ref 7, .int 245, .ref 7]) rfl rfl ?_
  refine mB hT 40 rfl ?_
  refine mNf (lv2 := [(3, .int 31), (0, .ref 0), (1, .int 4), (2, .int 6)]) (st2 := [.ref 0, .int 247, .ref 7]) rfl rfl ?_
  refine mB hT 8 rfl ?_
  refine mWd (w2 := (MW n vs wo un h bo ta tr ro ot (up Bm 6 (up (up (up (up (Bm 6) 0 (up (up (up (up (up (up (up (up (up (up (up (up (up (up (up (up (up (up (up (up (up (Bm 6 0) 0 (Bm 4 0 0)) 1 (Bm 4 0 1)) 21 (Bm 4 0 21)) 22 (Bm 4 0 22)) 4 (Bm 4 0 4)) 5 (Bm 4 0 5)) 6 (Bm 4 0 6)) 7 (Bm 4 0 7)) 8 (Bm 4 0 8)) 9 (Bm 4 0 9)) 10 (Bm 4 0 10)) 11 (Bm 4 0 11)) 12 (Bm 4 0 12)) 13 (Bm 4 0 13)) 14 (Bm 4 0 14)) 15 (Bm 4 0 15)) 16 (Bm 4 0 16)) 17 (Bm 4 0 17)) 18 (Bm 4 0 18)) 19 (Bm 4 0 19)) 20 (Bm 4 0 20))) 1 (up (up (up (up (up (up (up (up (up (up (up (up (up (up (up (up (up (up (up (up (up (Bm 6 1) 0 (Bm 4 1 0)) 1 (Bm 4 1 1)) 21 (Bm 4 1 21)) 22 (Bm 4 1 22)) 4 (Bm 4 1 4)) 5 (Bm 4 1 5)) 6 (Bm 4 1 6)) 7 (Bm 4 1 7)) 8 (Bm 4 1 8)) 9 (Bm 4 1 9)) 10 (Bm 4 1 10)) 11 (Bm 4 1 11)) 12 (Bm 4 1 12)) 13 (Bm 4 1 13)) 14 (Bm 4 1 14)) 15 (Bm 4 1 15)) 16 (Bm 4 1 16)) 17 (Bm 4 1 17)) 18 (Bm 4 1 18)) 19 (Bm 4 1 19)) 20 (Bm 4 1 20))) 2 (up (up (up (up (up (up (up (up (up (up (up (up (up (up (up (up (up (up (up (up (up (Bm 6 2) 0 (Bm 4 2 0)) 1 (Bm 4 2 1)) 21 (Bm 4 2 21)) 22 (Bm 4 2 22)) 4 (Bm 4 2 4)) 5 (Bm 4 2 5)) 6 (Bm 4 2 6)) 7 (Bm 4 2 7)) 8 (Bm 4 2 8)) 9 (Bm 4 2 9)) 10 (Bm 4 2 10)) 11 (Bm 4 2 11)) 12 (Bm 4 2 12)) 13 (Bm 4 2 13)) 14 (Bm 4 2 14)) 15 (Bm 4 2 15)) 16 (Bm 4 2 16)) 17 (Bm 4 2 17)) 18 (Bm 4 2 18)) 19 (Bm 4 2 19)) 20 (Bm 4 2 20))) 3 (up (up (up (up (up (up (up (up (up (up (up (up (up (up (up (up (up (Bm 6 3) 0 (Bm 4 3 0)) 1 (Bm 4 3 1)) 21 (Bm 4 3 21)) 22 (Bm 4 3 22)) 4 (Bm 4 3 4)) 5 (Bm 4 3 5)) 6 (Bm 4 3 6)) 7 (Bm 4 3 7)) 8 (Bm 4 3 8)) 9 (Bm 4 3 9)) 10 (Bm 4 3 10)) 11 (Bm 4 3 11)) 12 (Bm 4 3 12)) 13 (Bm 4 3 13)) 14 (Bm 4 3 14)) 15 (Bm 4 3 15)) 16 (Bm 4 3 16)))) bk)) rfl ?_
  refine mB hT 40 rfl ?_
  refine mNf (lv2 := [(3, .int 33), (0, .ref 0), (1, .int 4), (2, .int 6)]) (st2 := [.int 177, .ref 7, .int 249, .ref 7]) rfl rfl ?_
  refine mB hT 40 rfl ?_
  refine mNf (lv2 := [(3, .int 35), (0, .ref 0), (1, .int 4), (2, .int 6)]) (st2 := [.int 144, .ref 7, .int 251, .ref 7]) rfl rfl ?_
  refine mB hT 9 rfl ?_
  exact hR _ (by decide) _ _ _ rfl rfl
set_option maxRecDepth 20000 in
theorem m_copy_5_6 {n vs : Int32} {wo un h : Int64} {bo : Nat → Int32} {ta tr ro ot : Nat → Int64} {Bm : Nat → Nat → Nat → Int32} {bk : Nat → Nat → Int32} : KX3_copy l D ca ad [.ref 0, .int 5, .int 6] (MW n vs wo un h bo ta tr ro ot Bm bk) none (MW n vs wo un h bo ta tr ro ot (up Bm 6 (Bm 5)) bk) := by
  refine PX3_copy (Nat.le_of_ble_eq_true rfl) ?_
  intro G hT hC hR
  refine mB hT 40 rfl ?_
  refine mB hT 40 rfl ?_
  refine mNf (lv2 := [(3, .int 1), (0, .ref 0), (1, .int 5), (2, .int 6)]) (st2 := [.int 1, .int 24, .ref 1]) rfl rfl ?_
  refine mB hT 40 rfl ?_
  refine mB hT 18 rfl ?_
  refine mWd (w2 := (MW n vs wo un h bo ta tr ro ot (up Bm 6 (up (up (Bm 6) 0 (up (up (up (up (Bm 6 0) 0 (Bm 5 0 0)) 1 (Bm 5 0 1)) 21 (Bm 5 0 21)) 22 (Bm 5 0 22))) 1 (up (up (up (up (Bm 6 1) 0 (Bm 5 1 0)) 1 (Bm 5 1 1)) 21 (Bm 5 1 21)) 22 (Bm 5 1 22)))) bk)) rfl ?_
  refine mB hT 40 rfl ?_
  refine mB hT 40 rfl ?_
  refine mNf (lv2 := [(3, .int 3), (0, .ref 0), (1, .int 5), (2, .int 6)]) (st2 := [.int 3, .int 24, .ref 1]) rfl rfl ?_
  refine mB hT 40 rfl ?_
  refine mB hT 18 rfl ?_
  refine mWd (w2 := (MW n vs wo un h bo ta tr ro ot (up Bm 6 (up (up (up (up (Bm 6) 0 (up (up (up (up (Bm 6 0) 0 (Bm 5 0 0)) 1 (Bm 5 0 1)) 21 (Bm 5 0 21)) 22 (Bm 5 0 22))) 1 (up (up (up (up (Bm 6 1) 0 (Bm 5 1 0)) 1 (Bm 5 1 1)) 21 (Bm 5 1 21)) 22 (Bm 5 1 22))) 2 (up (up (up (up (Bm 6 2) 0 (Bm 5 2 0)) 1 (Bm 5 2 1)) 21 (Bm 5 2 21)) 22 (Bm 5 2 22))) 3 (up (up (up (up (Bm 6 3) 0 (Bm 5 3 0)) 1 (Bm 5 3 1)) 21 (Bm 5 3 21)) 22 (Bm 5 3 22)))) bk)) rfl ?_
  refine mB hT 40 rfl ?_
  refine mNf (lv2 := [(3, .int 0), (0, .ref 0), (1, .int 5), (2, .int 6)]) (st2 := [.int 80, .ref 6, .int 96, .ref 6]) rfl rfl ?_
  refine mB hT 40 rfl ?_
  refine mNf (lv2 := [(3, .int 2), (0, .ref 0), (1, .int 5), (2, .int 6)]) (st2 := []) rfl rfl ?_
  refine mB hT 40 rfl ?_
  refine mB hT 33 rfl ?_
  refine mWd (w2 := (MW n vs wo un h bo ta tr ro ot (up Bm 6 (up (up (up (up (Bm 6) 0 (up (up (up (up (up (up (up (up (up (up (up (up (Bm 6 0) 0 (Bm 5 0 0)) 1 (Bm 5 0 1)) 21 (Bm 5 0 21)) 22 (Bm 5 0 22)) 4 (Bm 5 0 4)) 5 (Bm 5 0 5)) 6 (Bm 5 0 6)) 7 (Bm 5 0 7)) 8 (Bm 5 0 8)) 9 (Bm 5 0 9)) 10 (Bm 5 0 10)) 11 (Bm 5 0 11))) 1 (up (up (up (up (Bm 6 1) 0 (Bm 5 1 0)) 1 (Bm 5 1 1)) 21 (Bm 5 1 21)) 22 (Bm 5 1 22))) 2 (up (up (up (up (Bm 6 2) 0 (Bm 5 2 0)) 1 (Bm 5 2 1)) 21 (Bm 5 2 21)) 22 (Bm 5 2 22))) 3 (up (up (up (up (Bm 6 3) 0 (Bm 5 3 0)) 1 (Bm 5 3 1)) 21 (Bm 5 3 21)) 22 (Bm 5 3 22)))) bk)) rfl ?_
  refine mB hT 40 rfl ?_
  refine mNf (lv2 := [(3, .int 5), (0, .ref 0), (1, .int 5), (2, .int 6)]) (st2 := [.int 5]) rfl rfl ?_
  refine mB hT 40 rfl ?_
  refine mB hT 40 rfl ?_
  refine mNf (lv2 := [(3, .int 7), (0, .ref 0), (1, .int 5), (2, .int 6)]) (st2 := [.int 6, .int 16, .ref 5]) rfl rfl ?_
  refine mB hT 28 rfl ?_
  refine mWd (w2 := (MW n vs wo un h bo ta tr ro ot (up Bm 6 (up (up (up (up (Bm 6) 0 (up (up (up (up (up (up (up (up (up (up (up (up (Bm 6 0) 0 (Bm 5 0 0)) 1 (Bm 5 0 1)) 21 (Bm 5 0 21)) 22 (Bm 5 0 22)) 4 (Bm 5 0 4)) 5 (Bm 5 0 5)) 6 (Bm 5 0 6)) 7 (Bm 5 0 7)) 8 (Bm 5 0 8)) 9 (Bm 5 0 9)) 10 (Bm 5 0 10)) 11 (Bm 5 0 11))) 1 (up (up (up (up (up (up (up (up (up (up (up (up (Bm 6 1) 0 (Bm 5 1 0)) 1 (Bm 5 1 1)) 21 (Bm 5 1 21)) 22 (Bm 5 1 22)) 4 (Bm 5 1 4)) 5 (Bm 5 1 5)) 6 (Bm 5 1 6)) 7 (Bm 5 1 7)) 8 (Bm 5 1 8)) 9 (Bm 5 1 9)) 10 (Bm 5 1 10)) 11 (Bm 5 1 11))) 2 (up (up (up (up (Bm 6 2) 0 (Bm 5 2 0)) 1 (Bm 5 2 1)) 21 (Bm 5 2 21)) 22 (Bm 5 2 22))) 3 (up (up (up (up (Bm 6 3) 0 (Bm 5 3 0)) 1 (Bm 5 3 1)) 21 (Bm 5 3 21)) 22 (Bm 5 3 22)))) bk)) rfl ?_
  refine mB hT 40 rfl ?_
  refine mNf (lv2 := [(3, .int 9), (0, .ref 0), (1, .int 5), (2, .int 6)]) (st2 := [.int 9]) rfl rfl ?_
  refine mB hT 40 rfl ?_
  refine mB hT 40 rfl ?_
  refine mNf (lv2 := [(3, .int 11), (0, .ref 0), (1, .int 5), (2, .int 6)]) (st2 := [.int 6, .int 16, .ref 5]) rfl rfl ?_
  refine mB hT 28 rfl ?_
  refine mWd (w2 := (MW n vs wo un h bo ta tr ro ot (up Bm 6 (up (up (up (up (Bm 6) 0 (up (up (up (up (up (up (up (up (up (up (up (up (Bm 6 0) 0 (Bm 5 0 0)) 1 (Bm 5 0 1)) 21 (Bm 5 0 21)) 22 (Bm 5 0 22)) 4 (Bm 5 0 4)) 5 (Bm 5 0 5)) 6 (Bm 5 0 6)) 7 (Bm 5 0 7)) 8 (Bm 5 0 8)) 9 (Bm 5 0 9)) 10 (Bm 5 0 10)) 11 (Bm 5 0 11))) 1 (up (up (up (up (up (up (up (up (up (up (up (up (Bm 6 1) 0 (Bm 5 1 0)) 1 (Bm 5 1 1)) 21 (Bm 5 1 21)) 22 (Bm 5 1 22)) 4 (Bm 5 1 4)) 5 (Bm 5 1 5)) 6 (Bm 5 1 6)) 7 (Bm 5 1 7)) 8 (Bm 5 1 8)) 9 (Bm 5 1 9)) 10 (Bm 5 1 10)) 11 (Bm 5 1 11))) 2 (up (up (up (up (up (up (up (up (up (up (up (up (Bm 6 2) 0 (Bm 5 2 0)) 1 (Bm 5 2 1)) 21 (Bm 5 2 21)) 22 (Bm 5 2 22)) 4 (Bm 5 2 4)) 5 (Bm 5 2 5)) 6 (Bm 5 2 6)) 7 (Bm 5 2 7)) 8 (Bm 5 2 8)) 9 (Bm 5 2 9)) 10 (Bm 5 2 10)) 11 (Bm 5 2 11))) 3 (up (up (up (up (Bm 6 3) 0 (Bm 5 3 0)) 1 (Bm 5 3 1)) 21 (Bm 5 3 21)) 22 (Bm 5 3 22)))) bk)) rfl ?_
  refine mB hT 40 rfl ?_
  refine mNf (lv2 := [(3, .int 13), (0, .ref 0), (1, .int 5), (2, .int 6)]) (st2 := [.int 13]) rfl rfl ?_
  refine mB hT 40 rfl ?_
  refine mB hT 40 rfl ?_
  refine mNf (lv2 := [(3, .int 15), (0, .ref 0), (1, .int 5), (2, .int 6)]) (st2 := [.int 6, .int 16, .ref 5]) rfl rfl ?_
  refine mB hT 28 rfl ?_
  refine mWd (w2 := (MW n vs wo un h bo ta tr ro ot (up Bm 6 (up (up (up (up (Bm 6) 0 (up (up (up (up (up (up (up (up (up (up (up (up (Bm 6 0) 0 (Bm 5 0 0)) 1 (Bm 5 0 1)) 21 (Bm 5 0 21)) 22 (Bm 5 0 22)) 4 (Bm 5 0 4)) 5 (Bm 5 0 5)) 6 (Bm 5 0 6)) 7 (Bm 5 0 7)) 8 (Bm 5 0 8)) 9 (Bm 5 0 9)) 10 (Bm 5 0 10)) 11 (Bm 5 0 11))) 1 (up (up (up (up (up (up (up (up (up (up (up (up (Bm 6 1) 0 (Bm 5 1 0)) 1 (Bm 5 1 1)) 21 (Bm 5 1 21)) 22 (Bm 5 1 22)) 4 (Bm 5 1 4)) 5 (Bm 5 1 5)) 6 (Bm 5 1 6)) 7 (Bm 5 1 7)) 8 (Bm 5 1 8)) 9 (Bm 5 1 9)) 10 (Bm 5 1 10)) 11 (Bm 5 1 11))) 2 (up (up (up (up (up (up (up (up (up (up (up (up (Bm 6 2) 0 (Bm 5 2 0)) 1 (Bm 5 2 1)) 21 (Bm 5 2 21)) 22 (Bm 5 2 22)) 4 (Bm 5 2 4)) 5 (Bm 5 2 5)) 6 (Bm 5 2 6)) 7 (Bm 5 2 7)) 8 (Bm 5 2 8)) 9 (Bm 5 2 9)) 10 (Bm 5 2 10)) 11 (Bm 5 2 11))) 3 (up (up (up (up (up (up (up (up (up (up (up (up (Bm 6 3) 0 (Bm 5 3 0)) 1 (Bm 5 3 1)) 21 (Bm 5 3 21)) 22 (Bm 5 3 22)) 4 (Bm 5 3 4)) 5 (Bm 5 3 5)) 6 (Bm 5 3 6)) 7 (Bm 5 3 7)) 8 (Bm 5 3 8)) 9 (Bm 5 3 9)) 10 (Bm 5 3 10)) 11 (Bm 5 3 11)))) bk)) rfl ?_
  refine mB hT 40 rfl ?_
  refine mNf (lv2 := [(3, .int 1), (0, .ref 0), (1, .int 5), (2, .int 6)]) (st2 := [.ref 7, .int 217, .ref 7]) rfl rfl ?_
  refine mB hT 40 rfl ?_
  refine mNf (lv2 := [(3, .int 3), (0, .ref 0), (1, .int 5), (2, .int 6)]) (st2 := [.int 219, .ref 7]) rfl rfl ?_
  refine mB hT 40 rfl ?_
  refine mNf (lv2 := [(3, .int 5), (0, .ref 0), (1, .int 5), (2, .int 6)]) (st2 := [.int 216, .ref 7]) rfl rfl ?_
  refine mB hT 40 rfl ?_
  refine mNf (lv2 := [(3, .int 7), (0, .ref 0), (1, .int 5), (2, .int 6)]) (st2 := [.int 36, .ref 7]) rfl rfl ?_
  refine mB hT 13 rfl ?_
  refine mWd (w2 := (MW n vs wo un h bo ta tr ro ot (up Bm 6 (up (up (up (up (Bm 6) 0 (up (up (up (up (up (up (up (up (up (up (up (up (up (up (up (up (up (up (up (up (Bm 6 0) 0 (Bm 5 0 0)) 1 (Bm 5 0 1)) 21 (Bm 5 0 21)) 22 (Bm 5 0 22)) 4 (Bm 5 0 4)) 5 (Bm 5 0 5)) 6 (Bm 5 0 6)) 7 (Bm 5 0 7)) 8 (Bm 5 0 8)) 9 (Bm 5 0 9)) 10 (Bm 5 0 10)) 11 (Bm 5 0 11)) 12 (Bm 5 0 12)) 13 (Bm 5 0 13)) 14 (Bm 5 0 14)) 15 (Bm 5 0 15)) 16 (Bm 5 0 16)) 17 (Bm 5 0 17)) 18 (Bm 5 0 18)) 19 (Bm 5 0 19))) 1 (up (up (up (up (up (up (up (up (up (up (up (up (Bm 6 1) 0 (Bm 5 1 0)) 1 (Bm 5 1 1)) 21 (Bm 5 1 21)) 22 (Bm 5 1 22)) 4 (Bm 5 1 4)) 5 (Bm 5 1 5)) 6 (Bm 5 1 6)) 7 (Bm 5 1 7)) 8 (Bm 5 1 8)) 9 (Bm 5 1 9)) 10 (Bm 5 1 10)) 11 (Bm 5 1 11))) 2 (up (up (up (up (up (up (up (up (up (up (up (up (Bm 6 2) 0 (Bm 5 2 0)) 1 (Bm 5 2 1)) 21 (Bm 5 2 21)) 22 (Bm 5 2 22)) 4 (Bm 5 2 4)) 5 (Bm 5 2 5)) 6 (Bm 5 2 6)) 7 (Bm 5 2 7)) 8 (Bm 5 2 8)) 9 (Bm 5 2 9)) 10 (Bm 5 2 10)) 11 (Bm 5 2 11))) 3 (up (up (up (up (up (up (up (up (up (up (up (up (Bm 6 3) 0 (Bm 5 3 0)) 1 (Bm 5 3 1)) 21 (Bm 5 3 21)) 22 (Bm 5 3 22)) 4 (Bm 5 3 4)) 5 (Bm 5 3 5)) 6 (Bm 5 3 6)) 7 (Bm 5 3 7)) 8 (Bm 5 3 8)) 9 (Bm 5 3 9)) 10 (Bm 5 3 10)) 11 (Bm 5 3 11)))) bk)) rfl ?_
  refine mB hT 40 rfl ?_
  refine mNf (lv2 := [(3, .int 9), (0, .ref 0), (1, .int 5), (2, .int 6)]) (st2 := [.int 189, .ref 7, .int 225, .ref 7]) rfl rfl ?_
  refine mB hT 40 rfl ?_
  refine mNf (lv2 := [(3, .int 11), (0, .ref 0), (1, .int 5), (2, .int 6)]) (st2 := [.int 180, .ref 7, .int 227, .ref 7]) rfl rfl ?_
  refine mB hT 40 rfl ?_
  refine mNf (lv2 := [(3, .int 13), (0, .ref 0), (1, .int 5), (2, .int 6)]) (st2 := [.int 36, .ref 7, .int 229, .ref 7]) rfl rfl ?_
  refine mB hT 40 rfl ?_
  refine mNf (lv2 := [(3, .int 15), (0, .ref 0), (1, .int 5), (2, .int 6)]) (st2 := [.ref 0, .int 231, .ref 7]) rfl rfl ?_
  refine mB hT 8 rfl ?_
  refine mWd (w2 := (MW n vs wo un h bo ta tr ro ot (up Bm 6 (up (up (up (up (Bm 6) 0 (up (up (up (up (up (up (up (up (up (up (up (up (up (up (up (up (up (up (up (up (up (Bm 6 0) 0 (Bm 5 0 0)) 1 (Bm 5 0 1)) 21 (Bm 5 0 21)) 22 (Bm 5 0 22)) 4 (Bm 5 0 4)) 5 (Bm 5 0 5)) 6 (Bm 5 0 6)) 7 (Bm 5 0 7)) 8 (Bm 5 0 8)) 9 (Bm 5 0 9)) 10 (Bm 5 0 10)) 11 (Bm 5 0 11)) 12 (Bm 5 0 12)) 13 (Bm 5 0 13)) 14 (Bm 5 0 14)) 15 (Bm 5 0 15)) 16 (Bm 5 0 16)) 17 (Bm 5 0 17)) 18 (Bm 5 0 18)) 19 (Bm 5 0 19)) 20 (Bm 5 0 20))) 1 (up (up (up (up (up (up (up (up (up (up (up (up (up (up (up (up (up (up (up (Bm 6 1) 0 (Bm 5 1 0)) 1 (Bm 5 1 1)) 21 (Bm 5 1 21)) 22 (Bm 5 1 22)) 4 (Bm 5 1 4)) 5 (Bm 5 1 5)) 6 (Bm 5 1 6)) 7 (Bm 5 1 7)) 8 (Bm 5 1 8)) 9 (Bm 5 1 9)) 10 (Bm 5 1 10)) 11 (Bm 5 1 11)) 12 (Bm 5 1 12)) 13 (Bm 5 1 13)) 14 (Bm 5 1 14)) 15 (Bm 5 1 15)) 16 (Bm 5 1 16)) 17 (Bm 5 1 17)) 18 (Bm 5 1 18))) 2 (up (up (up (up (up (up (up (up (up (up (up (up (Bm 6 2) 0 (Bm 5 2 0)) 1 (Bm 5 2 1)) 21 (Bm 5 2 21)) 22 (Bm 5 2 22)) 4 (Bm 5 2 4)) 5 (Bm 5 2 5)) 6 (Bm 5 2 6)) 7 (Bm 5 2 7)) 8 (Bm 5 2 8)) 9 (Bm 5 2 9)) 10 (Bm 5 2 10)) 11 (Bm 5 2 11))) 3 (up (up (up (up (up (up (up (up (up (up (up (up (Bm 6 3) 0 (Bm 5 3 0)) 1 (Bm 5 3 1)) 21 (Bm 5 3 21)) 22 (Bm 5 3 22)) 4 (Bm 5 3 4)) 5 (Bm 5 3 5)) 6 (Bm 5 3 6)) 7 (Bm 5 3 7)) 8 (Bm 5 3 8)) 9 (Bm 5 3 9)) 10 (Bm 5 3 10)) 11 (Bm 5 3 11)))) bk)) rfl ?_
  refine mB hT 40 rfl ?_
  refine mNf (lv2 := [(3, .int 17), (0, .ref 0), (1, .int 5), (2, .int 6)]) (st2 := [.int 197, .ref 7, .int 233, .ref 7]) rfl rfl ?_
  refine mB hT 40 rfl ?_
  refine mNf (lv2 := [(3, .int 19), (0, .ref 0), (1, .int 5), (2, .int 6)]) (st2 := [.int 180, .ref 7, .int 235, .ref 7]) rfl rfl ?_
  refine mB hT 40 rfl ?_
  refine mNf (lv2 := [(3, .int 21), (0, .ref 0), (1, .int 5), (2, .int 6)]) (st2 := [.int 36, .ref 7, .int 237, .ref 7]) rfl rfl ?_
  refine mB hT 40 rfl ?_
  refine mNf (lv2 := [(3, .int 23), (0, .ref 0), (1, .int 5), (2, .int 6)]) (st2 := [.ref 0, .int 239, .ref 7]) rfl rfl ?_
  refine mB hT 8 rfl ?_
  refine mWd (w2 := (MW n vs wo un h bo ta tr ro ot (up Bm 6 (up (up (up (up (Bm 6) 0 (up (up (up (up (up (up (up (up (up (up (up (up (up (up (up (up (up (up (up (up (up (Bm 6 0) 0 (Bm 5 0 0)) 1 (Bm 5 0 1)) 21 (Bm 5 0 21)) 22 (Bm 5 0 22)) 4 (Bm 5 0 4)) 5 (Bm 5 0 5)) 6 (Bm 5 0 6)) 7 (Bm 5 0 7)) 8 (Bm 5 0 8)) 9 (Bm 5 0 9)) 10 (Bm 5 0 10)) 11 (Bm 5 0 11)) 12 (Bm 5 0 12)) 13 (Bm 5 0 13)) 14 (Bm 5 0 14)) 15 (Bm 5 0 15)) 16 (Bm 5 0 16)) 17 (Bm 5 0 17)) 18 (Bm 5 0 18)) 19 (Bm 5 0 19)) 20 (Bm 5 0 20))) 1 (up (up (up (up (up (up (up (up (up (up (up (up (up (up (up (up (up (up (up (up (up (Bm 6 1) 0 (Bm 5 1 0)) 1 (Bm 5 1 1)) 21 (Bm 5 1 21)) 22 (Bm 5 1 22)) 4 (Bm 5 1 4)) 5 (Bm 5 1 5)) 6 (Bm 5 1 6)) 7 (Bm 5 1 7)) 8 (Bm 5 1 8)) 9 (Bm 5 1 9)) 10 (Bm 5 1 10)) 11 (Bm 5 1 11)) 12 (Bm 5 1 12)) 13 (Bm 5 1 13)) 14 (Bm 5 1 14)) 15 (Bm 5 1 15)) 16 (Bm 5 1 16)) 17 (Bm 5 1 17)) 18 (Bm 5 1 18)) 19 (Bm 5 1 19)) 20 (Bm 5 1 20))) 2 (up (up (up (up (up (up (up (up (up (up (up (up (up (up (up (up (up (up (Bm 6 2) 0 (Bm 5 2 0)) 1 (Bm 5 2 1)) 21 (Bm 5 2 21)) 22 (Bm 5 2 22)) 4 (Bm 5 2 4)) 5 (Bm 5 2 5)) 6 (Bm 5 2 6)) 7 (Bm 5 2 7)) 8 (Bm 5 2 8)) 9 (Bm 5 2 9)) 10 (Bm 5 2 10)) 11 (Bm 5 2 11)) 12 (Bm 5 2 12)) 13 (Bm 5 2 13)) 14 (Bm 5 2 14)) 15 (Bm 5 2 15)) 16 (Bm 5 2 16)) 17 (Bm 5 2 17))) 3 (up (up (up (up (up (up (up (up (up (up (up (up (Bm 6 3) 0 (Bm 5 3 0)) 1 (Bm 5 3 1)) 21 (Bm 5 3 21)) 22 (Bm 5 3 22)) 4 (Bm 5 3 4)) 5 (Bm 5 3 5)) 6 (Bm 5 3 6)) 7 (Bm 5 3 7)) 8 (Bm 5 3 8)) 9 (Bm 5 3 9)) 10 (Bm 5 3 10)) 11 (Bm 5 3 11)))) bk)) rfl ?_
  refine mB hT 40 rfl ?_
  refine mNf (lv2 := [(3, .int 25), (0, .ref 0), (1, .int 5), (2, .int 6)]) (st2 := [.int 205, .ref 7, .int 241, .ref 7]) rfl rfl ?_
  refine mB hT 40 rfl ?_
  refine mNf (lv2 := [(3, .int 27), (0, .ref 0), (1, .int 5), (2, .int 6)]) (st2 := [.int 180, .ref 7, .int 243, .ref 7]) rfl rfl ?_
  refine mB hT 40 rfl ?_
  refine mNf (lv2 := [(3, .int 29), (0, .ref 0), (1, .int 5), (2, .int 6)]) (st2 := [.int 36, .ref 7, .int 245, .ref 7]) rfl rfl ?_
  refine mB hT 40 rfl ?_
  refine mNf (lv2 := [(3, .int 31), (0, .ref 0), (1, .int 5), (2, .int 6)]) (st2 := [.ref 0, .int 247, .ref 7]) rfl rfl ?_
  refine mB hT 8 rfl ?_
  refine mWd (w2 := (MW n vs wo un h bo ta tr ro ot (up Bm 6 (up (up (up (up (Bm 6) 0 (up (up (up (up (up (up (up (up (up (up (up (up (up (up (up (up (up (up (up (up (up (Bm 6 0) 0 (Bm 5 0 0)) 1 (Bm 5 0 1)) 21 (Bm 5 0 21)) 22 (Bm 5 0 22)) 4 (Bm 5 0 4)) 5 (Bm 5 0 5)) 6 (Bm 5 0 6)) 7 (Bm 5 0 7)) 8 (Bm 5 0 8)) 9 (Bm 5 0 9)) 10 (Bm 5 0 10)) 11 (Bm 5 0 11)) 12 (Bm 5 0 12)) 13 (Bm 5 0 13)) 14 (Bm 5 0 14)) 15 (Bm 5 0 15)) 16 (Bm 5 0 16)) 17 (Bm 5 0 17)) 18 (Bm 5 0 18)) 19 (Bm 5 0 19)) 20 (Bm 5 0 20))) 1 (up (up (up (up (up (up (up (up (up (up (up (up (up (up (up (up (up (up (up (up (up (Bm 6 1) 0 (Bm 5 1 0)) 1 (Bm 5 1 1)) 21 (Bm 5 1 21)) 22 (Bm 5 1 22)) 4 (Bm 5 1 4)) 5 (Bm 5 1 5)) 6 (Bm 5 1 6)) 7 (Bm 5 1 7)) 8 (Bm 5 1 8)) 9 (Bm 5 1 9)) 10 (Bm 5 1 10)) 11 (Bm 5 1 11)) 12 (Bm 5 1 12)) 13 (Bm 5 1 13)) 14 (Bm 5 1 14)) 15 (Bm 5 1 15)) 16 (Bm 5 1 16)) 17 (Bm 5 1 17)) 18 (Bm 5 1 18)) 19 (Bm 5 1 19)) 20 (Bm 5 1 20))) 2 (up (up (up (up (up (up (up (up (up (up (up (up (up (up (up (up (up (up (up (up (up (Bm 6 2) 0 (Bm 5 2 0)) 1 (Bm 5 2 1)) 21 (Bm 5 2 21)) 22 (Bm 5 2 22)) 4 (Bm 5 2 4)) 5 (Bm 5 2 5)) 6 (Bm 5 2 6)) 7 (Bm 5 2 7)) 8 (Bm 5 2 8)) 9 (Bm 5 2 9)) 10 (Bm 5 2 10)) 11 (Bm 5 2 11)) 12 (Bm 5 2 12)) 13 (Bm 5 2 13)) 14 (Bm 5 2 14)) 15 (Bm 5 2 15)) 16 (Bm 5 2 16)) 17 (Bm 5 2 17)) 18 (Bm 5 2 18)) 19 (Bm 5 2 19)) 20 (Bm 5 2 20))) 3 (up (up (up (up (up (up (up (up (up (up (up (up (up (up (up (up (up (Bm 6 3) 0 (Bm 5 3 0)) 1 (Bm 5 3 1)) 21 (Bm 5 3 21)) 22 (Bm 5 3 22)) 4 (Bm 5 3 4)) 5 (Bm 5 3 5)) 6 (Bm 5 3 6)) 7 (Bm 5 3 7)) 8 (Bm 5 3 8)) 9 (Bm 5 3 9)) 10 (Bm 5 3 10)) 11 (Bm 5 3 11)) 12 (Bm 5 3 12)) 13 (Bm 5 3 13)) 14 (Bm 5 3 14)) 15 (Bm 5 3 15)) 16 (Bm 5 3 16)))) bk)) rfl ?_
  refine mB hT 40 rfl ?_
  refine mNf (lv2 := [(3, .int 33), (0, .ref 0), (1, .int 5), (2, .int 6)]) (st2 := [.int 213, .ref 7, .int 249, .ref 7]) rfl rfl ?_
  refine mB hT 40 rfl ?_
  refine mNf (lv2 := [(3, .int 35), (0, .ref 0), (1, .int 5), (2, .int 6)]) (st2 := [.int 180, .ref 7, .int 251, .ref 7]) rfl rfl ?_
  refine mB hT 9 rfl ?_
  exact hR _ (by decide) _ _ _ rfl rfl
set_option maxRecDepth 20000 in
theorem m_keep_0 {n : Nat} {wo un h : Int64} {bo : Nat → Int32} {ta tr ro ot : Nat → Int64} {Bm : Nat → Nat → Nat → Int32} {bk : Nat → Nat → Int32} : KX3_keep l D ca ad [.ref 0] (MW (Int32.ofNat n) 0 wo un h bo ta tr ro ot Bm bk) (some (.int 0)) (MW (Int32.ofNat n) 1 wo un h bo ta tr ro ot (up Bm 0 (Bm 6)) bk) := by
  refine PX3_keep (Nat.le_of_ble_eq_true rfl) ?_
  intro G hT hC hR
  refine mB hT 8 rfl ?_
  refine hC _ 0 [_, _] _ _ _ _ _ (m_copy_6_0) rfl rfl (Nat.le_of_ble_eq_true rfl) rfl ?_
  refine mB hT 10 rfl ?_
  exact hR _ (by decide) _ _ _ rfl rfl
set_option maxRecDepth 20000 in
theorem m_recall_0 {n vs : Nat} {wo un h : Int64} {bo : Nat → Int32} {ta tr ro ot : Nat → Int64} {Bm : Nat → Nat → Nat → Int32} {bk : Nat → Nat → Int32} (hv : 0 < vs) (hvs : vs ≤ 6) : KX3_recall l D ca ad [.ref 0, .int 0] (MW (Int32.ofNat n) (Int32.ofNat vs) wo un h bo ta tr ro ot Bm bk) (some (.int 1)) (MW (Int32.ofNat n) (Int32.ofNat vs) wo un h bo ta tr ro ot (up Bm 6 (Bm 0)) bk) := by
  refine PX3_recall (Nat.le_of_ble_eq_true rfl) ?_
  intro G hT hC hR
  refine mB hT 6 rfl ?_
  refine hC.1 _ [_, _, _] _ _ _ _ (m_in_t (by decide) ((le_pred (by omega)).mpr (ofNat_lt (i := 0) hv (by omega)))) rfl (Nat.le_of_ble_eq_true rfl) rfl ?_
  refine mB hT 4 rfl ?_
  refine hC.2 _ 0 [_, _] _ _ _ _ _ (m_copy_0_6) rfl rfl (Nat.le_of_ble_eq_true rfl) rfl ?_
  refine mB hT 1 rfl ?_
  exact hR _ (by decide) _ _ _ rfl rfl
set_option maxRecDepth 20000 in
theorem m_keep_1 {n : Nat} {wo un h : Int64} {bo : Nat → Int32} {ta tr ro ot : Nat → Int64} {Bm : Nat → Nat → Nat → Int32} {bk : Nat → Nat → Int32} : KX3_keep l D ca ad [.ref 0] (MW (Int32.ofNat n) 1 wo un h bo ta tr ro ot Bm bk) (some (.int 1)) (MW (Int32.ofNat n) 2 wo un h bo ta tr ro ot (up Bm 1 (Bm 6)) bk) := by
  refine PX3_keep (Nat.le_of_ble_eq_true rfl) ?_
  intro G hT hC hR
  refine mB hT 8 rfl ?_
  refine hC _ 0 [_, _] _ _ _ _ _ (m_copy_6_1) rfl rfl (Nat.le_of_ble_eq_true rfl) rfl ?_
  refine mB hT 10 rfl ?_
  exact hR _ (by decide) _ _ _ rfl rfl
set_option maxRecDepth 20000 in
theorem m_recall_1 {n vs : Nat} {wo un h : Int64} {bo : Nat → Int32} {ta tr ro ot : Nat → Int64} {Bm : Nat → Nat → Nat → Int32} {bk : Nat → Nat → Int32} (hv : 1 < vs) (hvs : vs ≤ 6) : KX3_recall l D ca ad [.ref 0, .int 1] (MW (Int32.ofNat n) (Int32.ofNat vs) wo un h bo ta tr ro ot Bm bk) (some (.int 1)) (MW (Int32.ofNat n) (Int32.ofNat vs) wo un h bo ta tr ro ot (up Bm 6 (Bm 1)) bk) := by
  refine PX3_recall (Nat.le_of_ble_eq_true rfl) ?_
  intro G hT hC hR
  refine mB hT 6 rfl ?_
  refine hC.1 _ [_, _, _] _ _ _ _ (m_in_t (by decide) ((le_pred (by omega)).mpr (ofNat_lt (i := 1) hv (by omega)))) rfl (Nat.le_of_ble_eq_true rfl) rfl ?_
  refine mB hT 4 rfl ?_
  refine hC.2 _ 0 [_, _] _ _ _ _ _ (m_copy_1_6) rfl rfl (Nat.le_of_ble_eq_true rfl) rfl ?_
  refine mB hT 1 rfl ?_
  exact hR _ (by decide) _ _ _ rfl rfl
set_option maxRecDepth 20000 in
theorem m_keep_2 {n : Nat} {wo un h : Int64} {bo : Nat → Int32} {ta tr ro ot : Nat → Int64} {Bm : Nat → Nat → Nat → Int32} {bk : Nat → Nat → Int32} : KX3_keep l D ca ad [.ref 0] (MW (Int32.ofNat n) 2 wo un h bo ta tr ro ot Bm bk) (some (.int 2)) (MW (Int32.ofNat n) 3 wo un h bo ta tr ro ot (up Bm 2 (Bm 6)) bk) := by
  refine PX3_keep (Nat.le_of_ble_eq_true rfl) ?_
  intro G hT hC hR
  refine mB hT 8 rfl ?_
  refine hC _ 0 [_, _] _ _ _ _ _ (m_copy_6_2) rfl rfl (Nat.le_of_ble_eq_true rfl) rfl ?_
  refine mB hT 10 rfl ?_
  exact hR _ (by decide) _ _ _ rfl rfl
set_option maxRecDepth 20000 in
theorem m_recall_2 {n vs : Nat} {wo un h : Int64} {bo : Nat → Int32} {ta tr ro ot : Nat → Int64} {Bm : Nat → Nat → Nat → Int32} {bk : Nat → Nat → Int32} (hv : 2 < vs) (hvs : vs ≤ 6) : KX3_recall l D ca ad [.ref 0, .int 2] (MW (Int32.ofNat n) (Int32.ofNat vs) wo un h bo ta tr ro ot Bm bk) (some (.int 1)) (MW (Int32.ofNat n) (Int32.ofNat vs) wo un h bo ta tr ro ot (up Bm 6 (Bm 2)) bk) := by
  refine PX3_recall (Nat.le_of_ble_eq_true rfl) ?_
  intro G hT hC hR
  refine mB hT 6 rfl ?_
  refine hC.1 _ [_, _, _] _ _ _ _ (m_in_t (by decide) ((le_pred (by omega)).mpr (ofNat_lt (i := 2) hv (by omega)))) rfl (Nat.le_of_ble_eq_true rfl) rfl ?_
  refine mB hT 4 rfl ?_
  refine hC.2 _ 0 [_, _] _ _ _ _ _ (m_copy_2_6) rfl rfl (Nat.le_of_ble_eq_true rfl) rfl ?_
  refine mB hT 1 rfl ?_
  exact hR _ (by decide) _ _ _ rfl rfl
set_option maxRecDepth 20000 in
theorem m_keep_3 {n : Nat} {wo un h : Int64} {bo : Nat → Int32} {ta tr ro ot : Nat → Int64} {Bm : Nat → Nat → Nat → Int32} {bk : Nat → Nat → Int32} : KX3_keep l D ca ad [.ref 0] (MW (Int32.ofNat n) 3 wo un h bo ta tr ro ot Bm bk) (some (.int 3)) (MW (Int32.ofNat n) 4 wo un h bo ta tr ro ot (up Bm 3 (Bm 6)) bk) := by
  refine PX3_keep (Nat.le_of_ble_eq_true rfl) ?_
  intro G hT hC hR
  refine mB hT 8 rfl ?_
  refine hC _ 0 [_, _] _ _ _ _ _ (m_copy_6_3) rfl rfl (Nat.le_of_ble_eq_true rfl) rfl ?_
  refine mB hT 10 rfl ?_
  exact hR _ (by decide) _ _ _ rfl rfl
set_option maxRecDepth 20000 in
theorem m_recall_3 {n vs : Nat} {wo un h : Int64} {bo : Nat → Int32} {ta tr ro ot : Nat → Int64} {Bm : Nat → Nat → Nat → Int32} {bk : Nat → Nat → Int32} (hv : 3 < vs) (hvs : vs ≤ 6) : KX3_recall l D ca ad [.ref 0, .int 3] (MW (Int32.ofNat n) (Int32.ofNat vs) wo un h bo ta tr ro ot Bm bk) (some (.int 1)) (MW (Int32.ofNat n) (Int32.ofNat vs) wo un h bo ta tr ro ot (up Bm 6 (Bm 3)) bk) := by
  refine PX3_recall (Nat.le_of_ble_eq_true rfl) ?_
  intro G hT hC hR
  refine mB hT 6 rfl ?_
  refine hC.1 _ [_, _, _] _ _ _ _ (m_in_t (by decide) ((le_pred (by omega)).mpr (ofNat_lt (i := 3) hv (by omega)))) rfl (Nat.le_of_ble_eq_true rfl) rfl ?_
  refine mB hT 4 rfl ?_
  refine hC.2 _ 0 [_, _] _ _ _ _ _ (m_copy_3_6) rfl rfl (Nat.le_of_ble_eq_true rfl) rfl ?_
  refine mB hT 1 rfl ?_
  exact hR _ (by decide) _ _ _ rfl rfl
set_option maxRecDepth 20000 in
theorem m_keep_4 {n : Nat} {wo un h : Int64} {bo : Nat → Int32} {ta tr ro ot : Nat → Int64} {Bm : Nat → Nat → Nat → Int32} {bk : Nat → Nat → Int32} : KX3_keep l D ca ad [.ref 0] (MW (Int32.ofNat n) 4 wo un h bo ta tr ro ot Bm bk) (some (.int 4)) (MW (Int32.ofNat n) 5 wo un h bo ta tr ro ot (up Bm 4 (Bm 6)) bk) := by
  refine PX3_keep (Nat.le_of_ble_eq_true rfl) ?_
  intro G hT hC hR
  refine mB hT 8 rfl ?_
  refine hC _ 0 [_, _] _ _ _ _ _ (m_copy_6_4) rfl rfl (Nat.le_of_ble_eq_true rfl) rfl ?_
  refine mB hT 10 rfl ?_
  exact hR _ (by decide) _ _ _ rfl rfl
set_option maxRecDepth 20000 in
theorem m_recall_4 {n vs : Nat} {wo un h : Int64} {bo : Nat → Int32} {ta tr ro ot : Nat → Int64} {Bm : Nat → Nat → Nat → Int32} {bk : Nat → Nat → Int32} (hv : 4 < vs) (hvs : vs ≤ 6) : KX3_recall l D ca ad [.ref 0, .int 4] (MW (Int32.ofNat n) (Int32.ofNat vs) wo un h bo ta tr ro ot Bm bk) (some (.int 1)) (MW (Int32.ofNat n) (Int32.ofNat vs) wo un h bo ta tr ro ot (up Bm 6 (Bm 4)) bk) := by
  refine PX3_recall (Nat.le_of_ble_eq_true rfl) ?_
  intro G hT hC hR
  refine mB hT 6 rfl ?_
  refine hC.1 _ [_, _, _] _ _ _ _ (m_in_t (by decide) ((le_pred (by omega)).mpr (ofNat_lt (i := 4) hv (by omega)))) rfl (Nat.le_of_ble_eq_true rfl) rfl ?_
  refine mB hT 4 rfl ?_
  refine hC.2 _ 0 [_, _] _ _ _ _ _ (m_copy_4_6) rfl rfl (Nat.le_of_ble_eq_true rfl) rfl ?_
  refine mB hT 1 rfl ?_
  exact hR _ (by decide) _ _ _ rfl rfl
set_option maxRecDepth 20000 in
theorem m_keep_5 {n : Nat} {wo un h : Int64} {bo : Nat → Int32} {ta tr ro ot : Nat → Int64} {Bm : Nat → Nat → Nat → Int32} {bk : Nat → Nat → Int32} : KX3_keep l D ca ad [.ref 0] (MW (Int32.ofNat n) 5 wo un h bo ta tr ro ot Bm bk) (some (.int 5)) (MW (Int32.ofNat n) 6 wo un h bo ta tr ro ot (up Bm 5 (Bm 6)) bk) := by
  refine PX3_keep (Nat.le_of_ble_eq_true rfl) ?_
  intro G hT hC hR
  refine mB hT 8 rfl ?_
  refine hC _ 0 [_, _] _ _ _ _ _ (m_copy_6_5) rfl rfl (Nat.le_of_ble_eq_true rfl) rfl ?_
  refine mB hT 10 rfl ?_
  exact hR _ (by decide) _ _ _ rfl rfl
set_option maxRecDepth 20000 in
theorem m_recall_5 {n vs : Nat} {wo un h : Int64} {bo : Nat → Int32} {ta tr ro ot : Nat → Int64} {Bm : Nat → Nat → Nat → Int32} {bk : Nat → Nat → Int32} (hv : 5 < vs) (hvs : vs ≤ 6) : KX3_recall l D ca ad [.ref 0, .int 5] (MW (Int32.ofNat n) (Int32.ofNat vs) wo un h bo ta tr ro ot Bm bk) (some (.int 1)) (MW (Int32.ofNat n) (Int32.ofNat vs) wo un h bo ta tr ro ot (up Bm 6 (Bm 5)) bk) := by
  refine PX3_recall (Nat.le_of_ble_eq_true rfl) ?_
  intro G hT hC hR
  refine mB hT 6 rfl ?_
  refine hC.1 _ [_, _, _] _ _ _ _ (m_in_t (by decide) ((le_pred (by omega)).mpr (ofNat_lt (i := 5) hv (by omega)))) rfl (Nat.le_of_ble_eq_true rfl) rfl ?_
  refine mB hT 4 rfl ?_
  refine hC.2 _ 0 [_, _] _ _ _ _ _ (m_copy_5_6) rfl rfl (Nat.le_of_ble_eq_true rfl) rfl ?_
  refine mB hT 1 rfl ?_
  exact hR _ (by decide) _ _ _ rfl rfl
theorem m_keep {n vs : Nat} {wo un h : Int64} {bo : Nat → Int32} {ta tr ro ot : Nat → Int64} {Bm : Nat → Nat → Nat → Int32} {bk : Nat → Nat → Int32} (hv : vs < 6) : KX3_keep l D ca ad [.ref 0] (MW (Int32.ofNat n) (Int32.ofNat vs) wo un h bo ta tr ro ot Bm bk) (some (.int (Int32.ofNat vs))) (MW (Int32.ofNat n) (Int32.ofNat (vs + 1)) wo un h bo ta tr ro ot (up Bm vs (Bm 6)) bk) := by
  match vs, hv with
  | 0, _ => exact m_keep_0
  | 1, _ => exact m_keep_1
  | 2, _ => exact m_keep_2
  | 3, _ => exact m_keep_3
  | 4, _ => exact m_keep_4
  | 5, _ => exact m_keep_5
theorem m_recall {n vs : Nat} {wo un h : Int64} {bo : Nat → Int32} {ta tr ro ot : Nat → Int64} {Bm : Nat → Nat → Nat → Int32} {bk : Nat → Nat → Int32} {v : Nat} (hv : v < vs) (hvs : vs ≤ 6) : KX3_recall l D ca ad [.ref 0, .int (Int32.ofNat v)] (MW (Int32.ofNat n) (Int32.ofNat vs) wo un h bo ta tr ro ot Bm bk) (some (.int 1)) (MW (Int32.ofNat n) (Int32.ofNat vs) wo un h bo ta tr ro ot (up Bm 6 (Bm v)) bk) := by
  match v, hv with
  | 0, hv => exact m_recall_0 hv hvs
  | 1, hv => exact m_recall_1 hv hvs
  | 2, hv => exact m_recall_2 hv hvs
  | 3, hv => exact m_recall_3 hv hvs
  | 4, hv => exact m_recall_4 hv hvs
  | 5, hv => exact m_recall_5 hv hvs
  | v + 6, hv => omega
end
