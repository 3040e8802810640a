
def boX (m v : Nat) : Nat → Int32 := fun i => if i < m then 6 else Int32.ofNat v
def bkM (m v i : Nat) : Nat := if i < m then 6 else v
def taM (n : Nat) (c : Nat → Nat → Int64) : Nat → Int64 := fun k => if k / 4 < n then (if k % 4 < n then c (k / 4) (k % 4) else (if k / 4 = k % 4 then 1 else 0)) else (if k / 4 = k % 4 then 1 else 0)
def tsM (n : Nat) (ta : Nat → Int64) (i : Nat) (hh : Nat → Int64) : Nat → Int64 := fun k => if k % 4 = i then (if k / 4 < n then hh (k / 4) else 0) else ta k
def emM (row : Nat → Int32) (k s : Nat) : Int64 := (row (12 + 3 * s + k)).toInt64 * (mnM row).toInt64
def smM : Nat → (Nat → Nat → Int32) → (Nat → Int64) → Nat → Nat → Int64
  | 0, _, _, _, _ => 0
  | m + 1, rows, ro, k, s => smM m rows ro k s + emM (rows m) k (if s = 1 then 1 else sdX (ro m) s) * ro m
def flM (a b : Int64) : Int64 := if a - a / b * b < 0 then a / b - 1 else a / b
def thM (a b : Int64) : Int64 := 1000 * flM a b + flM (1000 * (a - flM a b * b)) b

section
variable {l : Launch} {D : va_G} {ca : Nat → ClassId} {ad : Nat → Nat}

set_option maxRecDepth 20000 in
theorem m_layG_0 {vs : Nat} {wo un h : Int64} {bo : Nat → Int32} {ta tr ro ot : Nat → Int64} {Bm : Nat → Nat → Nat → Int32} {bk : Nat → Nat → Int32} {e : Nat → Nat → Int32} {c : Nat → Nat → Int64} (hent : ∀ (ta9 : Nat → Int64) (j i : Nat), j < 4 → i < 4 → KX3_entryOf l D ca ad [.ref 0, .int (bo i), .int (Int32.ofNat j), .int (Int32.ofNat i)] (MW 0 (Int32.ofNat vs) wo un h bo ta9 tr ro ot Bm bk) (some (.int (e j i))) (MW 0 (Int32.ofNat vs) wo un h bo ta9 tr ro ot Bm bk)) (hc : ∀ j i : Nat, c j i = (e j i).toInt64) : KX3_lay l D ca ad [.ref 0] (MW 0 (Int32.ofNat vs) wo un h bo ta tr ro ot Bm bk) none (MW 0 (Int32.ofNat vs) (dtM (taM 0 c)) un h bo (taM 0 c) (taM 0 c) ro ot Bm bk) := by
  refine PX3_lay (Nat.le_of_ble_eq_true rfl) ?_
  intro G hT hC hR
  refine mB hT 26 rfl ?_
  refine mNf (lv2 := [(2, .int 0), (1, .int 0), (0, .ref 0)]) (st2 := [.long 1, .int 0, .ref 10]) rfl rfl ?_
  refine mB hT 21 rfl ?_
  refine mB hT 21 rfl ?_
  refine mNf (lv2 := [(2, .int 2), (1, .int 0), (0, .ref 0)]) (st2 := [.long 0, .int 2, .ref 10]) rfl rfl ?_
  refine mB hT 1 rfl ?_
  refine mWd (w2 := (MW 0 (Int32.ofNat vs) wo un h bo (up (up (up ta 0 1) 1 0) 2 0) tr ro ot Bm bk)) rfl ?_
  refine mB hT 20 rfl ?_
  refine mB hT 31 rfl ?_
  refine mNf (lv2 := [(2, .int 0), (1, .int 1), (0, .ref 0)]) (st2 := [.long 0, .int 4, .ref 10]) rfl rfl ?_
  refine mB hT 22 rfl ?_
  refine mB hT 1 rfl ?_
  refine mWd (w2 := (MW 0 (Int32.ofNat vs) wo un h bo (up (up (up (up (up (up ta 0 1) 1 0) 2 0) 3 0) 4 0) 5 1) tr ro ot Bm bk)) rfl ?_
  refine mB hT 20 rfl ?_
  refine mNf (lv2 := [(2, .int 2), (1, .int 1), (0, .ref 0)]) (st2 := [.long 0, .int 6, .ref 10]) rfl rfl ?_
  refine mB hT 21 rfl ?_
  refine mB hT 31 rfl ?_
  refine mNf (lv2 := [(2, .int 0), (1, .int 2), (0, .ref 0)]) (st2 := [.long 0, .int 8, .ref 10]) rfl rfl ?_
  refine mB hT 1 rfl ?_
  refine mWd (w2 := (MW 0 (Int32.ofNat vs) wo un h bo (up (up (up (up (up (up (up (up (up ta 0 1) 1 0) 2 0) 3 0) 4 0) 5 1) 6 0) 7 0) 8 0) tr ro ot Bm bk)) rfl ?_
  refine mB hT 20 rfl ?_
  refine mB hT 22 rfl ?_
  refine mNf (lv2 := [(2, .int 2), (1, .int 2), (0, .ref 0)]) (st2 := [.long 1, .int 10, .ref 10]) rfl rfl ?_
  refine mB hT 21 rfl ?_
  refine mB hT 1 rfl ?_
  refine mWd (w2 := (MW 0 (Int32.ofNat vs) wo un h bo (up (up (up (up (up (up (up (up (up (up (up (up ta 0 1) 1 0) 2 0) 3 0) 4 0) 5 1) 6 0) 7 0) 8 0) 9 0) 10 1) 11 0) tr ro ot Bm bk)) rfl ?_
  refine mB hT 30 rfl ?_
  refine mNf (lv2 := [(2, .int 0), (1, .int 3), (0, .ref 0)]) (st2 := [.long 0, .int 12, .ref 10]) rfl rfl ?_
  refine mB hT 21 rfl ?_
  refine mB hT 21 rfl ?_
  refine mNf (lv2 := [(2, .int 2), (1, .int 3), (0, .ref 0)]) (st2 := [.long 0, .int 14, .ref 10]) rfl rfl ?_
  refine mB hT 1 rfl ?_
  refine mWd (w2 := (MW 0 (Int32.ofNat vs) wo un h bo (up (up (up (up (up (up (up (up (up (up (up (up (up (up (up ta 0 1) 1 0) 2 0) 3 0) 4 0) 5 1) 6 0) 7 0) 8 0) 9 0) 10 1) 11 0) 12 0) 13 0) 14 0) tr ro ot Bm bk)) rfl ?_
  refine mB hT 21 rfl ?_
  refine mB hT 37 rfl ?_
  refine mNf (lv2 := [(1, .int 1), (2, .int 4), (0, .ref 0)]) (st2 := []) rfl rfl ?_
  refine mWd (w2 := (MW 0 (Int32.ofNat vs) wo un h bo (up (up (up (up (up (up (up (up (up (up (up (up (up (up (up (up ta 0 1) 1 0) 2 0) 3 0) 4 0) 5 1) 6 0) 7 0) 8 0) 9 0) 10 1) 11 0) 12 0) 13 0) 14 0) 15 1) (up (up tr 0 1) 1 0) ro ot Bm bk)) rfl ?_
  refine mB hT 39 rfl ?_
  refine mNf (lv2 := [(1, .int 4), (2, .int 4), (0, .ref 0)]) (st2 := []) rfl rfl ?_
  refine mWd (w2 := (MW 0 (Int32.ofNat vs) wo un h bo (up (up (up (up (up (up (up (up (up (up (up (up (up (up (up (up ta 0 1) 1 0) 2 0) 3 0) 4 0) 5 1) 6 0) 7 0) 8 0) 9 0) 10 1) 11 0) 12 0) 13 0) 14 0) 15 1) (up (up (up (up (up tr 0 1) 1 0) 2 0) 3 0) 4 0) ro ot Bm bk)) rfl ?_
  refine mB hT 39 rfl ?_
  refine mNf (lv2 := [(1, .int 7), (2, .int 4), (0, .ref 0)]) (st2 := []) rfl rfl ?_
  refine mWd (w2 := (MW 0 (Int32.ofNat vs) wo un h bo (up (up (up (up (up (up (up (up (up (up (up (up (up (up (up (up ta 0 1) 1 0) 2 0) 3 0) 4 0) 5 1) 6 0) 7 0) 8 0) 9 0) 10 1) 11 0) 12 0) 13 0) 14 0) 15 1) (up (up (up (up (up (up (up (up tr 0 1) 1 0) 2 0) 3 0) 4 0) 5 1) 6 0) 7 0) ro ot Bm bk)) rfl ?_
  refine mB hT 39 rfl ?_
  refine mNf (lv2 := [(1, .int 10), (2, .int 4), (0, .ref 0)]) (st2 := []) rfl rfl ?_
  refine mWd (w2 := (MW 0 (Int32.ofNat vs) wo un h bo (up (up (up (up (up (up (up (up (up (up (up (up (up (up (up (up ta 0 1) 1 0) 2 0) 3 0) 4 0) 5 1) 6 0) 7 0) 8 0) 9 0) 10 1) 11 0) 12 0) 13 0) 14 0) 15 1) (up (up (up (up (up (up (up (up (up (up (up tr 0 1) 1 0) 2 0) 3 0) 4 0) 5 1) 6 0) 7 0) 8 0) 9 0) 10 1) ro ot Bm bk)) rfl ?_
  refine mB hT 39 rfl ?_
  refine mNf (lv2 := [(1, .int 13), (2, .int 4), (0, .ref 0)]) (st2 := []) rfl rfl ?_
  refine mWd (w2 := (MW 0 (Int32.ofNat vs) wo un h bo (up (up (up (up (up (up (up (up (up (up (up (up (up (up (up (up ta 0 1) 1 0) 2 0) 3 0) 4 0) 5 1) 6 0) 7 0) 8 0) 9 0) 10 1) 11 0) 12 0) 13 0) 14 0) 15 1) (up (up (up (up (up (up (up (up (up (up (up (up (up (up tr 0 1) 1 0) 2 0) 3 0) 4 0) 5 1) 6 0) 7 0) 8 0) 9 0) 10 1) 11 0) 12 0) 13 0) ro ot Bm bk)) rfl ?_
  refine mB hT 33 rfl ?_
  refine mNf (lv2 := [(1, .int 16), (2, .int 4), (0, .ref 0)]) (st2 := [.ref 0, .ref 0]) rfl rfl ?_
  refine mWd (w2 := (MW 0 (Int32.ofNat vs) wo un h bo (up (up (up (up (up (up (up (up (up (up (up (up (up (up (up (up ta 0 1) 1 0) 2 0) 3 0) 4 0) 5 1) 6 0) 7 0) 8 0) 9 0) 10 1) 11 0) 12 0) 13 0) 14 0) 15 1) (up (up (up (up (up (up (up (up (up (up (up (up (up (up (up (up tr 0 1) 1 0) 2 0) 3 0) 4 0) 5 1) 6 0) 7 0) 8 0) 9 0) 10 1) 11 0) 12 0) 13 0) 14 0) 15 1) ro ot Bm bk)) rfl ?_
  refine mWd (w2 := (MW 0 (Int32.ofNat vs) wo un h bo (taM 0 c) (taM 0 c) ro ot Bm bk)) rfl ?_
  refine hC.2 _ 0 [] _ _ _ _ _ (m_det) rfl rfl (Nat.le_of_ble_eq_true rfl) rfl ?_
  refine mB hT 1 rfl ?_
  exact hR _ (by decide) _ _ _ rfl rfl
set_option maxRecDepth 20000 in
theorem m_layG_1 {vs : Nat} {wo un h : Int64} {bo : Nat → Int32} {ta tr ro ot : Nat → Int64} {Bm : Nat → Nat → Nat → Int32} {bk : Nat → Nat → Int32} {e : Nat → Nat → Int32} {c : Nat → Nat → Int64} (hent : ∀ (ta9 : Nat → Int64) (j i : Nat), j < 4 → i < 4 → KX3_entryOf l D ca ad [.ref 0, .int (bo i), .int (Int32.ofNat j), .int (Int32.ofNat i)] (MW 1 (Int32.ofNat vs) wo un h bo ta9 tr ro ot Bm bk) (some (.int (e j i))) (MW 1 (Int32.ofNat vs) wo un h bo ta9 tr ro ot Bm bk)) (hc : ∀ j i : Nat, c j i = (e j i).toInt64) : KX3_lay l D ca ad [.ref 0] (MW 1 (Int32.ofNat vs) wo un h bo ta tr ro ot Bm bk) none (MW 1 (Int32.ofNat vs) (dtM (taM 1 c)) un h bo (taM 1 c) (taM 1 c) ro ot Bm bk) := by
  refine PX3_lay (Nat.le_of_ble_eq_true rfl) ?_
  intro G hT hC hR
  refine mB hT 32 rfl ?_
  refine mNf (lv2 := [(2, .int 0), (1, .int 0), (0, .ref 0)]) (st2 := [.int 0, .int 0, .int (bo 0), .ref 0, .int 0, .ref 10]) rfl rfl ?_
  refine hC.1 _ 0 [_, _, _] _ _ _ _ _ (hent _ 0 0 (by decide) (by decide)) rfl rfl (Nat.le_of_ble_eq_true rfl) rfl ?_
  refine mB hT 2 rfl ?_
  refine mNf (lv2 := [(2, .int 0), (1, .int 0), (0, .ref 0)]) (st2 := [.long (c 0 0), .int 0, .ref 10]) rfl (by rw [hc 0 0] <;> rfl) ?_
  refine mB hT 25 rfl ?_
  refine mB hT 25 rfl ?_
  refine mNf (lv2 := [(2, .int 2), (1, .int 0), (0, .ref 0)]) (st2 := [.long 0, .int 2, .ref 10]) rfl rfl ?_
  refine mB hT 1 rfl ?_
  refine mWd (w2 := (MW 1 (Int32.ofNat vs) wo un h bo (up (up (up ta 0 (c 0 0)) 1 0) 2 0) tr ro ot Bm bk)) rfl ?_
  refine mB hT 24 rfl ?_
  refine mB hT 31 rfl ?_
  refine mNf (lv2 := [(2, .int 0), (1, .int 1), (0, .ref 0)]) (st2 := [.long 0, .int 4, .ref 10]) rfl rfl ?_
  refine mB hT 22 rfl ?_
  refine mB hT 1 rfl ?_
  refine mWd (w2 := (MW 1 (Int32.ofNat vs) wo un h bo (up (up (up (up (up (up ta 0 (c 0 0)) 1 0) 2 0) 3 0) 4 0) 5 1) tr ro ot Bm bk)) rfl ?_
  refine mB hT 20 rfl ?_
  refine mNf (lv2 := [(2, .int 2), (1, .int 1), (0, .ref 0)]) (st2 := [.long 0, .int 6, .ref 10]) rfl rfl ?_
  refine mB hT 21 rfl ?_
  refine mB hT 31 rfl ?_
  refine mNf (lv2 := [(2, .int 0), (1, .int 2), (0, .ref 0)]) (st2 := [.long 0, .int 8, .ref 10]) rfl rfl ?_
  refine mB hT 1 rfl ?_
  refine mWd (w2 := (MW 1 (Int32.ofNat vs) wo un h bo (up (up (up (up (up (up (up (up (up ta 0 (c 0 0)) 1 0) 2 0) 3 0) 4 0) 5 1) 6 0) 7 0) 8 0) tr ro ot Bm bk)) rfl ?_
  refine mB hT 20 rfl ?_
  refine mB hT 22 rfl ?_
  refine mNf (lv2 := [(2, .int 2), (1, .int 2), (0, .ref 0)]) (st2 := [.long 1, .int 10, .ref 10]) rfl rfl ?_
  refine mB hT 21 rfl ?_
  refine mB hT 1 rfl ?_
  refine mWd (w2 := (MW 1 (Int32.ofNat vs) wo un h bo (up (up (up (up (up (up (up (up (up (up (up (up ta 0 (c 0 0)) 1 0) 2 0) 3 0) 4 0) 5 1) 6 0) 7 0) 8 0) 9 0) 10 1) 11 0) tr ro ot Bm bk)) rfl ?_
  refine mB hT 30 rfl ?_
  refine mNf (lv2 := [(2, .int 0), (1, .int 3), (0, .ref 0)]) (st2 := [.long 0, .int 12, .ref 10]) rfl rfl ?_
  refine mB hT 21 rfl ?_
  refine mB hT 21 rfl ?_
  refine mNf (lv2 := [(2, .int 2), (1, .int 3), (0, .ref 0)]) (st2 := [.long 0, .int 14, .ref 10]) rfl rfl ?_
  refine mB hT 1 rfl ?_
  refine mWd (w2 := (MW 1 (Int32.ofNat vs) wo un h bo (up (up (up (up (up (up (up (up (up (up (up (up (up (up (up ta 0 (c 0 0)) 1 0) 2 0) 3 0) 4 0) 5 1) 6 0) 7 0) 8 0) 9 0) 10 1) 11 0) 12 0) 13 0) 14 0) tr ro ot Bm bk)) rfl ?_
  refine mB hT 21 rfl ?_
  refine mB hT 37 rfl ?_
  refine mNf (lv2 := [(1, .int 1), (2, .int 4), (0, .ref 0)]) (st2 := []) rfl rfl ?_
  refine mWd (w2 := (MW 1 (Int32.ofNat vs) wo un h bo (up (up (up (up (up (up (up (up (up (up (up (up (up (up (up (up ta 0 (c 0 0)) 1 0) 2 0) 3 0) 4 0) 5 1) 6 0) 7 0) 8 0) 9 0) 10 1) 11 0) 12 0) 13 0) 14 0) 15 1) (up (up tr 0 (c 0 0)) 1 0) ro ot Bm bk)) rfl ?_
  refine mB hT 39 rfl ?_
  refine mNf (lv2 := [(1, .int 4), (2, .int 4), (0, .ref 0)]) (st2 := []) rfl rfl ?_
  refine mWd (w2 := (MW 1 (Int32.ofNat vs) wo un h bo (up (up (up (up (up (up (up (up (up (up (up (up (up (up (up (up ta 0 (c 0 0)) 1 0) 2 0) 3 0) 4 0) 5 1) 6 0) 7 0) 8 0) 9 0) 10 1) 11 0) 12 0) 13 0) 14 0) 15 1) (up (up (up (up (up tr 0 (c 0 0)) 1 0) 2 0) 3 0) 4 0) ro ot Bm bk)) rfl ?_
  refine mB hT 39 rfl ?_
  refine mNf (lv2 := [(1, .int 7), (2, .int 4), (0, .ref 0)]) (st2 := []) rfl rfl ?_
  refine mWd (w2 := (MW 1 (Int32.ofNat vs) wo un h bo (up (up (up (up (up (up (up (up (up (up (up (up (up (up (up (up ta 0 (c 0 0)) 1 0) 2 0) 3 0) 4 0) 5 1) 6 0) 7 0) 8 0) 9 0) 10 1) 11 0) 12 0) 13 0) 14 0) 15 1) (up (up (up (up (up (up (up (up tr 0 (c 0 0)) 1 0) 2 0) 3 0) 4 0) 5 1) 6 0) 7 0) ro ot Bm bk)) rfl ?_
  refine mB hT 39 rfl ?_
  refine mNf (lv2 := [(1, .int 10), (2, .int 4), (0, .ref 0)]) (st2 := []) rfl rfl ?_
  refine mWd (w2 := (MW 1 (Int32.ofNat vs) wo un h bo (up (up (up (up (up (up (up (up (up (up (up (up (up (up (up (up ta 0 (c 0 0)) 1 0) 2 0) 3 0) 4 0) 5 1) 6 0) 7 0) 8 0) 9 0) 10 1) 11 0) 12 0) 13 0) 14 0) 15 1) (up (up (up (up (up (up (up (up (up (up (up tr 0 (c 0 0)) 1 0) 2 0) 3 0) 4 0) 5 1) 6 0) 7 0) 8 0) 9 0) 10 1) ro ot Bm bk)) rfl ?_
  refine mB hT 39 rfl ?_
  refine mNf (lv2 := [(1, .int 13), (2, .int 4), (0, .ref 0)]) (st2 := []) rfl rfl ?_
  refine mWd (w2 := (MW 1 (Int32.ofNat vs) wo un h bo (up (up (up (up (up (up (up (up (up (up (up (up (up (up (up (up ta 0 (c 0 0)) 1 0) 2 0) 3 0) 4 0) 5 1) 6 0) 7 0) 8 0) 9 0) 10 1) 11 0) 12 0) 13 0) 14 0) 15 1) (up (up (up (up (up (up (up (up (up (up (up (up (up (up tr 0 (c 0 0)) 1 0) 2 0) 3 0) 4 0) 5 1) 6 0) 7 0) 8 0) 9 0) 10 1) 11 0) 12 0) 13 0) ro ot Bm bk)) rfl ?_
  refine mB hT 33 rfl ?_
  refine mNf (lv2 := [(1, .int 16), (2, .int 4), (0, .ref 0)]) (st2 := [.ref 0, .ref 0]) rfl rfl ?_
  refine mWd (w2 := (MW 1 (Int32.ofNat vs) wo un h bo (up (up (up (up (up (up (up (up (up (up (up (up (up (up (up (up ta 0 (c 0 0)) 1 0) 2 0) 3 0) 4 0) 5 1) 6 0) 7 0) 8 0) 9 0) 10 1) 11 0) 12 0) 13 0) 14 0) 15 1) (up (up (up (up (up (up (up (up (up (up (up (up (up (up (up (up tr 0 (c 0 0)) 1 0) 2 0) 3 0) 4 0) 5 1) 6 0) 7 0) 8 0) 9 0) 10 1) 11 0) 12 0) 13 0) 14 0) 15 1) ro ot Bm bk)) rfl ?_
  refine mWd (w2 := (MW 1 (Int32.ofNat vs) wo un h bo (taM 1 c) (taM 1 c) ro ot Bm bk)) rfl ?_
  refine hC.2 _ 0 [] _ _ _ _ _ (m_det) rfl rfl (Nat.le_of_ble_eq_true rfl) rfl ?_
  refine mB hT 1 rfl ?_
  exact hR _ (by decide) _ _ _ rfl rfl
set_option maxRecDepth 20000 in
theorem m_layG_2 {vs : Nat} {wo un h : Int64} {bo : Nat → Int32} {ta tr ro ot : Nat → Int64} {Bm : Nat → Nat → Nat → Int32} {bk : Nat → Nat → Int32} {e : Nat → Nat → Int32} {c : Nat → Nat → Int64} (hent : ∀ (ta9 : Nat → Int64) (j i : Nat), j < 4 → i < 4 → KX3_entryOf l D ca ad [.ref 0, .int (bo i), .int (Int32.ofNat j), .int (Int32.ofNat i)] (MW 2 (Int32.ofNat vs) wo un h bo ta9 tr ro ot Bm bk) (some (.int (e j i))) (MW 2 (Int32.ofNat vs) wo un h bo ta9 tr ro ot Bm bk)) (hc : ∀ j i : Nat, c j i = (e j i).toInt64) : KX3_lay l D ca ad [.ref 0] (MW 2 (Int32.ofNat vs) wo un h bo ta tr ro ot Bm bk) none (MW 2 (Int32.ofNat vs) (dtM (taM 2 c)) un h bo (taM 2 c) (taM 2 c) ro ot Bm bk) := by
  refine PX3_lay (Nat.le_of_ble_eq_true rfl) ?_
  intro G hT hC hR
  refine mB hT 32 rfl ?_
  refine mNf (lv2 := [(2, .int 0), (1, .int 0), (0, .ref 0)]) (st2 := [.int 0, .int 0, .int (bo 0), .ref 0, .int 0, .ref 10]) rfl rfl ?_
  refine hC.1 _ 0 [_, _, _] _ _ _ _ _ (hent _ 0 0 (by decide) (by decide)) rfl rfl (Nat.le_of_ble_eq_true rfl) rfl ?_
  refine mB hT 2 rfl ?_
  refine mNf (lv2 := [(2, .int 0), (1, .int 0), (0, .ref 0)]) (st2 := [.long (c 0 0), .int 0, .ref 10]) rfl (by rw [hc 0 0] <;> rfl) ?_
  refine mB hT 28 rfl ?_
  refine mWd (w2 := (MW 2 (Int32.ofNat vs) wo un h bo (up ta 0 (c 0 0)) tr ro ot Bm bk)) rfl ?_
  refine hC.1 _ 0 [_, _, _] _ _ _ _ _ (hent _ 0 1 (by decide) (by decide)) rfl rfl (Nat.le_of_ble_eq_true rfl) rfl ?_
  refine mB hT 2 rfl ?_
  refine mNf (lv2 := [(2, .int 1), (1, .int 0), (0, .ref 0)]) (st2 := [.long (c 0 1), .int 1, .ref 10]) rfl (by rw [hc 0 1] <;> rfl) ?_
  refine mB hT 25 rfl ?_
  refine mB hT 25 rfl ?_
  refine mNf (lv2 := [(2, .int 3), (1, .int 0), (0, .ref 0)]) (st2 := [.long 0, .int 3, .ref 10]) rfl rfl ?_
  refine mB hT 1 rfl ?_
  refine mWd (w2 := (MW 2 (Int32.ofNat vs) wo un h bo (up (up (up (up ta 0 (c 0 0)) 1 (c 0 1)) 2 0) 3 0) tr ro ot Bm bk)) rfl ?_
  refine mB hT 37 rfl ?_
  refine mNf (lv2 := [(2, .int 0), (1, .int 1), (0, .ref 0)]) (st2 := [.int 0, .int 1, .int (bo 0), .ref 0, .int 4, .ref 10]) rfl rfl ?_
  refine hC.1 _ 0 [_, _, _] _ _ _ _ _ (hent _ 1 0 (by decide) (by decide)) rfl rfl (Nat.le_of_ble_eq_true rfl) rfl ?_
  refine mB hT 2 rfl ?_
  refine mNf (lv2 := [(2, .int 0), (1, .int 1), (0, .ref 0)]) (st2 := [.long (c 1 0), .int 4, .ref 10]) rfl (by rw [hc 1 0] <;> rfl) ?_
  refine mB hT 28 rfl ?_
  refine mWd (w2 := (MW 2 (Int32.ofNat vs) wo un h bo (up (up (up (up (up ta 0 (c 0 0)) 1 (c 0 1)) 2 0) 3 0) 4 (c 1 0)) tr ro ot Bm bk)) rfl ?_
  refine hC.1 _ 0 [_, _, _] _ _ _ _ _ (hent _ 1 1 (by decide) (by decide)) rfl rfl (Nat.le_of_ble_eq_true rfl) rfl ?_
  refine mB hT 2 rfl ?_
  refine mNf (lv2 := [(2, .int 1), (1, .int 1), (0, .ref 0)]) (st2 := [.long (c 1 1), .int 5, .ref 10]) rfl (by rw [hc 1 1] <;> rfl) ?_
  refine mB hT 25 rfl ?_
  refine mB hT 25 rfl ?_
  refine mNf (lv2 := [(2, .int 3), (1, .int 1), (0, .ref 0)]) (st2 := [.long 0, .int 7, .ref 10]) rfl rfl ?_
  refine mB hT 1 rfl ?_
  refine mWd (w2 := (MW 2 (Int32.ofNat vs) wo un h bo (up (up (up (up (up (up (up (up ta 0 (c 0 0)) 1 (c 0 1)) 2 0) 3 0) 4 (c 1 0)) 5 (c 1 1)) 6 0) 7 0) tr ro ot Bm bk)) rfl ?_
  refine mB hT 30 rfl ?_
  refine mNf (lv2 := [(2, .int 0), (1, .int 2), (0, .ref 0)]) (st2 := [.long 0, .int 8, .ref 10]) rfl rfl ?_
  refine mB hT 21 rfl ?_
  refine mB hT 22 rfl ?_
  refine mNf (lv2 := [(2, .int 2), (1, .int 2), (0, .ref 0)]) (st2 := [.long 1, .int 10, .ref 10]) rfl rfl ?_
  refine mB hT 1 rfl ?_
  refine mWd (w2 := (MW 2 (Int32.ofNat vs) wo un h bo (up (up (up (up (up (up (up (up (up (up (up ta 0 (c 0 0)) 1 (c 0 1)) 2 0) 3 0) 4 (c 1 0)) 5 (c 1 1)) 6 0) 7 0) 8 0) 9 0) 10 1) tr ro ot Bm bk)) rfl ?_
  refine mB hT 20 rfl ?_
  refine mB hT 31 rfl ?_
  refine mNf (lv2 := [(2, .int 0), (1, .int 3), (0, .ref 0)]) (st2 := [.long 0, .int 12, .ref 10]) rfl rfl ?_
  refine mB hT 21 rfl ?_
  refine mB hT 1 rfl ?_
  refine mWd (w2 := (MW 2 (Int32.ofNat vs) wo un h bo (up (up (up (up (up (up (up (up (up (up (up (up (up (up ta 0 (c 0 0)) 1 (c 0 1)) 2 0) 3 0) 4 (c 1 0)) 5 (c 1 1)) 6 0) 7 0) 8 0) 9 0) 10 1) 11 0) 12 0) 13 0) tr ro ot Bm bk)) rfl ?_
  refine mB hT 20 rfl ?_
  refine mNf (lv2 := [(2, .int 2), (1, .int 3), (0, .ref 0)]) (st2 := [.long 0, .int 14, .ref 10]) rfl rfl ?_
  refine mB hT 22 rfl ?_
  refine mB hT 24 rfl ?_
  refine mNf (lv2 := [(1, .int 0), (2, .int 4), (0, .ref 0)]) (st2 := []) rfl rfl ?_
  refine mWd (w2 := (MW 2 (Int32.ofNat vs) wo un h bo (up (up (up (up (up (up (up (up (up (up (up (up (up (up (up (up ta 0 (c 0 0)) 1 (c 0 1)) 2 0) 3 0) 4 (c 1 0)) 5 (c 1 1)) 6 0) 7 0) 8 0) 9 0) 10 1) 11 0) 12 0) 13 0) 14 0) 15 1) (up tr 0 (c 0 0)) ro ot Bm bk)) rfl ?_
  refine mB hT 39 rfl ?_
  refine mNf (lv2 := [(1, .int 3), (2, .int 4), (0, .ref 0)]) (st2 := []) rfl rfl ?_
  refine mWd (w2 := (MW 2 (Int32.ofNat vs) wo un h bo (up (up (up (up (up (up (up (up (up (up (up (up (up (up (up (up ta 0 (c 0 0)) 1 (c 0 1)) 2 0) 3 0) 4 (c 1 0)) 5 (c 1 1)) 6 0) 7 0) 8 0) 9 0) 10 1) 11 0) 12 0) 13 0) 14 0) 15 1) (up (up (up (up tr 0 (c 0 0)) 1 (c 0 1)) 2 0) 3 0) ro ot Bm bk)) rfl ?_
  refine mB hT 39 rfl ?_
  refine mNf (lv2 := [(1, .int 6), (2, .int 4), (0, .ref 0)]) (st2 := []) rfl rfl ?_
  refine mWd (w2 := (MW 2 (Int32.ofNat vs) wo un h bo (up (up (up (up (up (up (up (up (up (up (up (up (up (up (up (up ta 0 (c 0 0)) 1 (c 0 1)) 2 0) 3 0) 4 (c 1 0)) 5 (c 1 1)) 6 0) 7 0) 8 0) 9 0) 10 1) 11 0) 12 0) 13 0) 14 0) 15 1) (up (up (up (up (up (up (up tr 0 (c 0 0)) 1 (c 0 1)) 2 0) 3 0) 4 (c 1 0)) 5 (c 1 1)) 6 0) ro ot Bm bk)) rfl ?_
  refine mB hT 39 rfl ?_
  refine mNf (lv2 := [(1, .int 9), (2, .int 4), (0, .ref 0)]) (st2 := []) rfl rfl ?_
  refine mWd (w2 := (MW 2 (Int32.ofNat vs) wo un h bo (up (up (up (up (up (up (up (up (up (up (up (up (up (up (up (up ta 0 (c 0 0)) 1 (c 0 1)) 2 0) 3 0) 4 (c 1 0)) 5 (c 1 1)) 6 0) 7 0) 8 0) 9 0) 10 1) 11 0) 12 0) 13 0) 14 0) 15 1) (up (up (up (up (up (up (up (up (up (up tr 0 (c 0 0)) 1 (c 0 1)) 2 0) 3 0) 4 (c 1 0)) 5 (c 1 1)) 6 0) 7 0) 8 0) 9 0) ro ot Bm bk)) rfl ?_
  refine mB hT 39 rfl ?_
  refine mNf (lv2 := [(1, .int 12), (2, .int 4), (0, .ref 0)]) (st2 := []) rfl rfl ?_
  refine mWd (w2 := (MW 2 (Int32.ofNat vs) wo un h bo (up (up (up (up (up (up (up (up (up (up (up (up (up (up (up (up ta 0 (c 0 0)) 1 (c 0 1)) 2 0) 3 0) 4 (c 1 0)) 5 (c 1 1)) 6 0) 7 0) 8 0) 9 0) 10 1) 11 0) 12 0) 13 0) 14 0) 15 1) (up (up (up (up (up (up (up (up (up (up (up (up (up tr 0 (c 0 0)) 1 (c 0 1)) 2 0) 3 0) 4 (c 1 0)) 5 (c 1 1)) 6 0) 7 0) 8 0) 9 0) 10 1) 11 0) 12 0) ro ot Bm bk)) rfl ?_
  refine mB hT 39 rfl ?_
  refine mNf (lv2 := [(1, .int 15), (2, .int 4), (0, .ref 0)]) (st2 := []) rfl rfl ?_
  refine mWd (w2 := (MW 2 (Int32.ofNat vs) wo un h bo (up (up (up (up (up (up (up (up (up (up (up (up (up (up (up (up ta 0 (c 0 0)) 1 (c 0 1)) 2 0) 3 0) 4 (c 1 0)) 5 (c 1 1)) 6 0) 7 0) 8 0) 9 0) 10 1) 11 0) 12 0) 13 0) 14 0) 15 1) (up (up (up (up (up (up (up (up (up (up (up (up (up (up (up (up tr 0 (c 0 0)) 1 (c 0 1)) 2 0) 3 0) 4 (c 1 0)) 5 (c 1 1)) 6 0) 7 0) 8 0) 9 0) 10 1) 11 0) 12 0) 13 0) 14 0) 15 1) ro ot Bm bk)) rfl ?_
  refine mB hT 7 rfl ?_
  refine mWd (w2 := (MW 2 (Int32.ofNat vs) wo un h bo (taM 2 c) (taM 2 c) ro ot Bm bk)) rfl ?_
  refine hC.2 _ 0 [] _ _ _ _ _ (m_det) rfl rfl (Nat.le_of_ble_eq_true rfl) rfl ?_
  refine mB hT 1 rfl ?_
  exact hR _ (by decide) _ _ _ rfl rfl
set_option maxRecDepth 20000 in
theorem m_layG_3 {vs : Nat} {wo un h : Int64} {bo : Nat → Int32} {ta tr ro ot : Nat → Int64} {Bm : Nat → Nat → Nat → Int32} {bk : Nat → Nat → Int32} {e : Nat → Nat → Int32} {c : Nat → Nat → Int64} (hent : ∀ (ta9 : Nat → Int64) (j i : Nat), j < 4 → i < 4 → KX3_entryOf l D ca ad [.ref 0, .int (bo i), .int (Int32.ofNat j), .int (Int32.ofNat i)] (MW 3 (Int32.ofNat vs) wo un h bo ta9 tr ro ot Bm bk) (some (.int (e j i))) (MW 3 (Int32.ofNat vs) wo un h bo ta9 tr ro ot Bm bk)) (hc : ∀ j i : Nat, c j i = (e j i).toInt64) : KX3_lay l D ca ad [.ref 0] (MW 3 (Int32.ofNat vs) wo un h bo ta tr ro ot Bm bk) none (MW 3 (Int32.ofNat vs) (dtM (taM 3 c)) un h bo (taM 3 c) (taM 3 c) ro ot Bm bk) := by
  refine PX3_lay (Nat.le_of_ble_eq_true rfl) ?_
  intro G hT hC hR
  refine mB hT 32 rfl ?_
  refine mNf (lv2 := [(2, .int 0), (1, .int 0), (0, .ref 0)]) (st2 := [.int 0, .int 0, .int (bo 0), .ref 0, .int 0, .ref 10]) rfl rfl ?_
  refine hC.1 _ 0 [_, _, _] _ _ _ _ _ (hent _ 0 0 (by decide) (by decide)) rfl rfl (Nat.le_of_ble_eq_true rfl) rfl ?_
  refine mB hT 2 rfl ?_
  refine mNf (lv2 := [(2, .int 0), (1, .int 0), (0, .ref 0)]) (st2 := [.long (c 0 0), .int 0, .ref 10]) rfl (by rw [hc 0 0] <;> rfl) ?_
  refine mB hT 28 rfl ?_
  refine mWd (w2 := (MW 3 (Int32.ofNat vs) wo un h bo (up ta 0 (c 0 0)) tr ro ot Bm bk)) rfl ?_
  refine hC.1 _ 0 [_, _, _] _ _ _ _ _ (hent _ 0 1 (by decide) (by decide)) rfl rfl (Nat.le_of_ble_eq_true rfl) rfl ?_
  refine mB hT 2 rfl ?_
  refine mNf (lv2 := [(2, .int 1), (1, .int 0), (0, .ref 0)]) (st2 := [.long (c 0 1), .int 1, .ref 10]) rfl (by rw [hc 0 1] <;> rfl) ?_
  refine mB hT 28 rfl ?_
  refine mWd (w2 := (MW 3 (Int32.ofNat vs) wo un h bo (up (up ta 0 (c 0 0)) 1 (c 0 1)) tr ro ot Bm bk)) rfl ?_
  refine hC.1 _ 0 [_, _, _] _ _ _ _ _ (hent _ 0 2 (by decide) (by decide)) rfl rfl (Nat.le_of_ble_eq_true rfl) rfl ?_
  refine mB hT 2 rfl ?_
  refine mNf (lv2 := [(2, .int 2), (1, .int 0), (0, .ref 0)]) (st2 := [.long (c 0 2), .int 2, .ref 10]) rfl (by rw [hc 0 2] <;> rfl) ?_
  refine mB hT 25 rfl ?_
  refine mB hT 38 rfl ?_
  refine mNf (lv2 := [(2, .int 0), (1, .int 1), (0, .ref 0)]) (st2 := [.int 0, .int 1, .int (bo 0), .ref 0, .int 4, .ref 10]) rfl rfl ?_
  refine mWd (w2 := (MW 3 (Int32.ofNat vs) wo un h bo (up (up (up (up ta 0 (c 0 0)) 1 (c 0 1)) 2 (c 0 2)) 3 0) tr ro ot Bm bk)) rfl ?_
  refine hC.1 _ 0 [_, _, _] _ _ _ _ _ (hent _ 1 0 (by decide) (by decide)) rfl rfl (Nat.le_of_ble_eq_true rfl) rfl ?_
  refine mB hT 2 rfl ?_
  refine mNf (lv2 := [(2, .int 0), (1, .int 1), (0, .ref 0)]) (st2 := [.long (c 1 0), .int 4, .ref 10]) rfl (by rw [hc 1 0] <;> rfl) ?_
  refine mB hT 28 rfl ?_
  refine mWd (w2 := (MW 3 (Int32.ofNat vs) wo un h bo (up (up (up (up (up ta 0 (c 0 0)) 1 (c 0 1)) 2 (c 0 2)) 3 0) 4 (c 1 0)) tr ro ot Bm bk)) rfl ?_
  refine hC.1 _ 0 [_, _, _] _ _ _ _ _ (hent _ 1 1 (by decide) (by decide)) rfl rfl (Nat.le_of_ble_eq_true rfl) rfl ?_
  refine mB hT 2 rfl ?_
  refine mNf (lv2 := [(2, .int 1), (1, .int 1), (0, .ref 0)]) (st2 := [.long (c 1 1), .int 5, .ref 10]) rfl (by rw [hc 1 1] <;> rfl) ?_
  refine mB hT 28 rfl ?_
  refine mWd (w2 := (MW 3 (Int32.ofNat vs) wo un h bo (up (up (up (up (up (up ta 0 (c 0 0)) 1 (c 0 1)) 2 (c 0 2)) 3 0) 4 (c 1 0)) 5 (c 1 1)) tr ro ot Bm bk)) rfl ?_
  refine hC.1 _ 0 [_, _, _] _ _ _ _ _ (hent _ 1 2 (by decide) (by decide)) rfl rfl (Nat.le_of_ble_eq_true rfl) rfl ?_
  refine mB hT 2 rfl ?_
  refine mNf (lv2 := [(2, .int 2), (1, .int 1), (0, .ref 0)]) (st2 := [.long (c 1 2), .int 6, .ref 10]) rfl (by rw [hc 1 2] <;> rfl) ?_
  refine mB hT 25 rfl ?_
  refine mB hT 38 rfl ?_
  refine mNf (lv2 := [(2, .int 0), (1, .int 2), (0, .ref 0)]) (st2 := [.int 0, .int 2, .int (bo 0), .ref 0, .int 8, .ref 10]) rfl rfl ?_
  refine mWd (w2 := (MW 3 (Int32.ofNat vs) wo un h bo (up (up (up (up (up (up (up (up ta 0 (c 0 0)) 1 (c 0 1)) 2 (c 0 2)) 3 0) 4 (c 1 0)) 5 (c 1 1)) 6 (c 1 2)) 7 0) tr ro ot Bm bk)) rfl ?_
  refine hC.1 _ 0 [_, _, _] _ _ _ _ _ (hent _ 2 0 (by decide) (by decide)) rfl rfl (Nat.le_of_ble_eq_true rfl) rfl ?_
  refine mB hT 2 rfl ?_
  refine mNf (lv2 := [(2, .int 0), (1, .int 2), (0, .ref 0)]) (st2 := [.long (c 2 0), .int 8, .ref 10]) rfl (by rw [hc 2 0] <;> rfl) ?_
  refine mB hT 28 rfl ?_
  refine mWd (w2 := (MW 3 (Int32.ofNat vs) wo un h bo (up (up (up (up (up (up (up (up (up ta 0 (c 0 0)) 1 (c 0 1)) 2 (c 0 2)) 3 0) 4 (c 1 0)) 5 (c 1 1)) 6 (c 1 2)) 7 0) 8 (c 2 0)) tr ro ot Bm bk)) rfl ?_
  refine hC.1 _ 0 [_, _, _] _ _ _ _ _ (hent _ 2 1 (by decide) (by decide)) rfl rfl (Nat.le_of_ble_eq_true rfl) rfl ?_
  refine mB hT 2 rfl ?_
  refine mNf (lv2 := [(2, .int 1), (1, .int 2), (0, .ref 0)]) (st2 := [.long (c 2 1), .int 9, .ref 10]) rfl (by rw [hc 2 1] <;> rfl) ?_
  refine mB hT 28 rfl ?_
  refine mWd (w2 := (MW 3 (Int32.ofNat vs) wo un h bo (up (up (up (up (up (up (up (up (up (up ta 0 (c 0 0)) 1 (c 0 1)) 2 (c 0 2)) 3 0) 4 (c 1 0)) 5 (c 1 1)) 6 (c 1 2)) 7 0) 8 (c 2 0)) 9 (c 2 1)) tr ro ot Bm bk)) rfl ?_
  refine hC.1 _ 0 [_, _, _] _ _ _ _ _ (hent _ 2 2 (by decide) (by decide)) rfl rfl (Nat.le_of_ble_eq_true rfl) rfl ?_
  refine mB hT 2 rfl ?_
  refine mNf (lv2 := [(2, .int 2), (1, .int 2), (0, .ref 0)]) (st2 := [.long (c 2 2), .int 10, .ref 10]) rfl (by rw [hc 2 2] <;> rfl) ?_
  refine mB hT 25 rfl ?_
  refine mB hT 31 rfl ?_
  refine mNf (lv2 := [(2, .int 0), (1, .int 3), (0, .ref 0)]) (st2 := [.long 0, .int 12, .ref 10]) rfl rfl ?_
  refine mB hT 1 rfl ?_
  refine mWd (w2 := (MW 3 (Int32.ofNat vs) wo un h bo (up (up (up (up (up (up (up (up (up (up (up (up (up ta 0 (c 0 0)) 1 (c 0 1)) 2 (c 0 2)) 3 0) 4 (c 1 0)) 5 (c 1 1)) 6 (c 1 2)) 7 0) 8 (c 2 0)) 9 (c 2 1)) 10 (c 2 2)) 11 0) 12 0) tr ro ot Bm bk)) rfl ?_
  refine mB hT 20 rfl ?_
  refine mB hT 21 rfl ?_
  refine mNf (lv2 := [(2, .int 2), (1, .int 3), (0, .ref 0)]) (st2 := [.long 0, .int 14, .ref 10]) rfl rfl ?_
  refine mB hT 22 rfl ?_
  refine mB hT 1 rfl ?_
  refine mWd (w2 := (MW 3 (Int32.ofNat vs) wo un h bo (up (up (up (up (up (up (up (up (up (up (up (up (up (up (up (up ta 0 (c 0 0)) 1 (c 0 1)) 2 (c 0 2)) 3 0) 4 (c 1 0)) 5 (c 1 1)) 6 (c 1 2)) 7 0) 8 (c 2 0)) 9 (c 2 1)) 10 (c 2 2)) 11 0) 12 0) 13 0) 14 0) 15 1) tr ro ot Bm bk)) rfl ?_
  refine mB hT 40 rfl ?_
  refine mNf (lv2 := [(1, .int 2), (2, .int 4), (0, .ref 0)]) (st2 := [.int 16, .int 2]) rfl rfl ?_
  refine mB hT 9 rfl ?_
  refine mWd (w2 := (MW 3 (Int32.ofNat vs) wo un h bo (up (up (up (up (up (up (up (up (up (up (up (up (up (up (up (up ta 0 (c 0 0)) 1 (c 0 1)) 2 (c 0 2)) 3 0) 4 (c 1 0)) 5 (c 1 1)) 6 (c 1 2)) 7 0) 8 (c 2 0)) 9 (c 2 1)) 10 (c 2 2)) 11 0) 12 0) 13 0) 14 0) 15 1) (up (up (up tr 0 (c 0 0)) 1 (c 0 1)) 2 (c 0 2)) ro ot Bm bk)) rfl ?_
  refine mB hT 39 rfl ?_
  refine mNf (lv2 := [(1, .int 5), (2, .int 4), (0, .ref 0)]) (st2 := []) rfl rfl ?_
  refine mWd (w2 := (MW 3 (Int32.ofNat vs) wo un h bo (up (up (up (up (up (up (up (up (up (up (up (up (up (up (up (up ta 0 (c 0 0)) 1 (c 0 1)) 2 (c 0 2)) 3 0) 4 (c 1 0)) 5 (c 1 1)) 6 (c 1 2)) 7 0) 8 (c 2 0)) 9 (c 2 1)) 10 (c 2 2)) 11 0) 12 0) 13 0) 14 0) 15 1) (up (up (up (up (up (up tr 0 (c 0 0)) 1 (c 0 1)) 2 (c 0 2)) 3 0) 4 (c 1 0)) 5 (c 1 1)) ro ot Bm bk)) rfl ?_
  refine mB hT 39 rfl ?_
  refine mNf (lv2 := [(1, .int 8), (2, .int 4), (0, .ref 0)]) (st2 := []) rfl rfl ?_
  refine mWd (w2 := (MW 3 (Int32.ofNat vs) wo un h bo (up (up (up (up (up (up (up (up (up (up (up (up (up (up (up (up ta 0 (c 0 0)) 1 (c 0 1)) 2 (c 0 2)) 3 0) 4 (c 1 0)) 5 (c 1 1)) 6 (c 1 2)) 7 0) 8 (c 2 0)) 9 (c 2 1)) 10 (c 2 2)) 11 0) 12 0) 13 0) 14 0) 15 1) (up (up (up (up (up (up (up (up (up tr 0 (c 0 0)) 1 (c 0 1)) 2 (c 0 2)) 3 0) 4 (c 1 0)) 5 (c 1 1)) 6 (c 1 2)) 7 0) 8 (c 2 0)) ro ot Bm bk)) rfl ?_
  refine mB hT 39 rfl ?_
  refine mNf (lv2 := [(1, .int 11), (2, .int 4), (0, .ref 0)]) (st2 := []) rfl rfl ?_
  refine mWd (w2 := (MW 3 (Int32.ofNat vs) wo un h bo (up (up (up (up (up (up (up (up (up (up (up (up (up (up (up (up ta 0 (c 0 0)) 1 (c 0 1)) 2 (c 0 2)) 3 0) 4 (c 1 0)) 5 (c 1 1)) 6 (c 1 2)) 7 0) 8 (c 2 0)) 9 (c 2 1)) 10 (c 2 2)) 11 0) 12 0) 13 0) 14 0) 15 1) (up (up (up (up (up (up (up (up (up (up (up (up tr 0 (c 0 0)) 1 (c 0 1)) 2 (c 0 2)) 3 0) 4 (c 1 0)) 5 (c 1 1)) 6 (c 1 2)) 7 0) 8 (c 2 0)) 9 (c 2 1)) 10 (c 2 2)) 11 0) ro ot Bm bk)) rfl ?_
  refine mB hT 39 rfl ?_
  refine mNf (lv2 := [(1, .int 14), (2, .int 4), (0, .ref 0)]) (st2 := []) rfl rfl ?_
  refine mWd (w2 := (MW 3 (Int32.ofNat vs) wo un h bo (up (up (up (up (up (up (up (up (up (up (up (up (up (up (up (up ta 0 (c 0 0)) 1 (c 0 1)) 2 (c 0 2)) 3 0) 4 (c 1 0)) 5 (c 1 1)) 6 (c 1 2)) 7 0) 8 (c 2 0)) 9 (c 2 1)) 10 (c 2 2)) 11 0) 12 0) 13 0) 14 0) 15 1) (up (up (up (up (up (up (up (up (up (up (up (up (up (up (up tr 0 (c 0 0)) 1 (c 0 1)) 2 (c 0 2)) 3 0) 4 (c 1 0)) 5 (c 1 1)) 6 (c 1 2)) 7 0) 8 (c 2 0)) 9 (c 2 1)) 10 (c 2 2)) 11 0) 12 0) 13 0) 14 0) ro ot Bm bk)) rfl ?_
  refine mB hT 20 rfl ?_
  refine mNf (lv2 := [(1, .int 16), (2, .int 4), (0, .ref 0)]) (st2 := [.ref 0, .ref 0]) rfl rfl ?_
  refine mWd (w2 := (MW 3 (Int32.ofNat vs) wo un h bo (up (up (up (up (up (up (up (up (up (up (up (up (up (up (up (up ta 0 (c 0 0)) 1 (c 0 1)) 2 (c 0 2)) 3 0) 4 (c 1 0)) 5 (c 1 1)) 6 (c 1 2)) 7 0) 8 (c 2 0)) 9 (c 2 1)) 10 (c 2 2)) 11 0) 12 0) 13 0) 14 0) 15 1) (up (up (up (up (up (up (up (up (up (up (up (up (up (up (up (up tr 0 (c 0 0)) 1 (c 0 1)) 2 (c 0 2)) 3 0) 4 (c 1 0)) 5 (c 1 1)) 6 (c 1 2)) 7 0) 8 (c 2 0)) 9 (c 2 1)) 10 (c 2 2)) 11 0) 12 0) 13 0) 14 0) 15 1) ro ot Bm bk)) rfl ?_
  refine mWd (w2 := (MW 3 (Int32.ofNat vs) wo un h bo (taM 3 c) (taM 3 c) ro ot Bm bk)) rfl ?_
  refine hC.2 _ 0 [] _ _ _ _ _ (m_det) rfl rfl (Nat.le_of_ble_eq_true rfl) rfl ?_
  refine mB hT 1 rfl ?_
  exact hR _ (by decide) _ _ _ rfl rfl
set_option maxRecDepth 20000 in
theorem m_layG_4 {vs : Nat} {wo un h : Int64} {bo : Nat → Int32} {ta tr ro ot : Nat → Int64} {Bm : Nat → Nat → Nat → Int32} {bk : Nat → Nat → Int32} {e : Nat → Nat → Int32} {c : Nat → Nat → Int64} (hent : ∀ (ta9 : Nat → Int64) (j i : Nat), j < 4 → i < 4 → KX3_entryOf l D ca ad [.ref 0, .int (bo i), .int (Int32.ofNat j), .int (Int32.ofNat i)] (MW 4 (Int32.ofNat vs) wo un h bo ta9 tr ro ot Bm bk) (some (.int (e j i))) (MW 4 (Int32.ofNat vs) wo un h bo ta9 tr ro ot Bm bk)) (hc : ∀ j i : Nat, c j i = (e j i).toInt64) : KX3_lay l D ca ad [.ref 0] (MW 4 (Int32.ofNat vs) wo un h bo ta tr ro ot Bm bk) none (MW 4 (Int32.ofNat vs) (dtM (taM 4 c)) un h bo (taM 4 c) (taM 4 c) ro ot Bm bk) := by
  refine PX3_lay (Nat.le_of_ble_eq_true rfl) ?_
  intro G hT hC hR
  refine mB hT 32 rfl ?_
  refine mNf (lv2 := [(2, .int 0), (1, .int 0), (0, .ref 0)]) (st2 := [.int 0, .int 0, .int (bo 0), .ref 0, .int 0, .ref 10]) rfl rfl ?_
  refine hC.1 _ 0 [_, _, _] _ _ _ _ _ (hent _ 0 0 (by decide) (by decide)) rfl rfl (Nat.le_of_ble_eq_true rfl) rfl ?_
  refine mB hT 2 rfl ?_
  refine mNf (lv2 := [(2, .int 0), (1, .int 0), (0, .ref 0)]) (st2 := [.long (c 0 0), .int 0, .ref 10]) rfl (by rw [hc 0 0] <;> rfl) ?_
  refine mB hT 28 rfl ?_
  refine mWd (w2 := (MW 4 (Int32.ofNat vs) wo un h bo (up ta 0 (c 0 0)) tr ro ot Bm bk)) rfl ?_
  refine hC.1 _ 0 [_, _, _] _ _ _ _ _ (hent _ 0 1 (by decide) (by decide)) rfl rfl (Nat.le_of_ble_eq_true rfl) rfl ?_
  refine mB hT 2 rfl ?_
  refine mNf (lv2 := [(2, .int 1), (1, .int 0), (0, .ref 0)]) (st2 := [.long (c 0 1), .int 1, .ref 10]) rfl (by rw [hc 0 1] <;> rfl) ?_
  refine mB hT 28 rfl ?_
  refine mWd (w2 := (MW 4 (Int32.ofNat vs) wo un h bo (up (up ta 0 (c 0 0)) 1 (c 0 1)) tr ro ot Bm bk)) rfl ?_
  refine hC.1 _ 0 [_, _, _] _ _ _ _ _ (hent _ 0 2 (by decide) (by decide)) rfl rfl (Nat.le_of_ble_eq_true rfl) rfl ?_
  refine mB hT 2 rfl ?_
  refine mNf (lv2 := [(2, .int 2), (1, .int 0), (0, .ref 0)]) (st2 := [.long (c 0 2), .int 2, .ref 10]) rfl (by rw [hc 0 2] <;> rfl) ?_
  refine mB hT 28 rfl ?_
  refine mWd (w2 := (MW 4 (Int32.ofNat vs) wo un h bo (up (up (up ta 0 (c 0 0)) 1 (c 0 1)) 2 (c 0 2)) tr ro ot Bm bk)) rfl ?_
  refine hC.1 _ 0 [_, _, _] _ _ _ _ _ (hent _ 0 3 (by decide) (by decide)) rfl rfl (Nat.le_of_ble_eq_true rfl) rfl ?_
  refine mB hT 2 rfl ?_
  refine mNf (lv2 := [(2, .int 3), (1, .int 0), (0, .ref 0)]) (st2 := [.long (c 0 3), .int 3, .ref 10]) rfl (by rw [hc 0 3] <;> rfl) ?_
  refine mB hT 38 rfl ?_
  refine mNf (lv2 := [(2, .int 0), (1, .int 1), (0, .ref 0)]) (st2 := [.int 0, .int 1, .int (bo 0), .ref 0, .int 4, .ref 10]) rfl rfl ?_
  refine mWd (w2 := (MW 4 (Int32.ofNat vs) wo un h bo (up (up (up (up ta 0 (c 0 0)) 1 (c 0 1)) 2 (c 0 2)) 3 (c 0 3)) tr ro ot Bm bk)) rfl ?_
  refine hC.1 _ 0 [_, _, _] _ _ _ _ _ (hent _ 1 0 (by decide) (by decide)) rfl rfl (Nat.le_of_ble_eq_true rfl) rfl ?_
  refine mB hT 2 rfl ?_
  refine mNf (lv2 := [(2, .int 0), (1, .int 1), (0, .ref 0)]) (st2 := [.long (c 1 0), .int 4, .ref 10]) rfl (by rw [hc 1 0] <;> rfl) ?_
  refine mB hT 28 rfl ?_
  refine mWd (w2 := (MW 4 (Int32.ofNat vs) wo un h bo (up (up (up (up (up ta 0 (c 0 0)) 1 (c 0 1)) 2 (c 0 2)) 3 (c 0 3)) 4 (c 1 0)) tr ro ot Bm bk)) rfl ?_
  refine hC.1 _ 0 [_, _, _] _ _ _ _ _ (hent _ 1 1 (by decide) (by decide)) rfl rfl (Nat.le_of_ble_eq_true rfl) rfl ?_
  refine mB hT 2 rfl ?_
  refine mNf (lv2 := [(2, .int 1), (1, .int 1), (0, .ref 0)]) (st2 := [.long (c 1 1), .int 5, .ref 10]) rfl (by rw [hc 1 1] <;> rfl) ?_
  refine mB hT 28 rfl ?_
  refine mWd (w2 := (MW 4 (Int32.ofNat vs) wo un h bo (up (up (up (up (up (up ta 0 (c 0 0)) 1 (c 0 1)) 2 (c 0 2)) 3 (c 0 3)) 4 (c 1 0)) 5 (c 1 1)) tr ro ot Bm bk)) rfl ?_
  refine hC.1 _ 0 [_, _, _] _ _ _ _ _ (hent _ 1 2 (by decide) (by decide)) rfl rfl (Nat.le_of_ble_eq_true rfl) rfl ?_
  refine mB hT 2 rfl ?_
  refine mNf (lv2 := [(2, .int 2), (1, .int 1), (0, .ref 0)]) (st2 := [.long (c 1 2), .int 6, .ref 10]) rfl (by rw [hc 1 2] <;> rfl) ?_
  refine mB hT 28 rfl ?_
  refine mWd (w2 := (MW 4 (Int32.ofNat vs) wo un h bo (up (up (up (up (up (up (up ta 0 (c 0 0)) 1 (c 0 1)) 2 (c 0 2)) 3 (c 0 3)) 4 (c 1 0)) 5 (c 1 1)) 6 (c 1 2)) tr ro ot Bm bk)) rfl ?_
  refine hC.1 _ 0 [_, _, _] _ _ _ _ _ (hent _ 1 3 (by decide) (by decide)) rfl rfl (Nat.le_of_ble_eq_true rfl) rfl ?_
  refine mB hT 2 rfl ?_
  refine mNf (lv2 := [(2, .int 3), (1, .int 1), (0, .ref 0)]) (st2 := [.long (c 1 3), .int 7, .ref 10]) rfl (by rw [hc 1 3] <;> rfl) ?_
  refine mB hT 38 rfl ?_
  refine mNf (lv2 := [(2, .int 0), (1, .int 2), (0, .ref 0)]) (st2 := [.int 0, .int 2, .int (bo 0), .ref 0, .int 8, .ref 10]) rfl rfl ?_
  refine mWd (w2 := (MW 4 (Int32.ofNat vs) wo un h bo (up (up (up (up (up (up (up (up ta 0 (c 0 0)) 1 (c 0 1)) 2 (c 0 2)) 3 (c 0 3)) 4 (c 1 0)) 5 (c 1 1)) 6 (c 1 2)) 7 (c 1 3)) tr ro ot Bm bk)) rfl ?_
  refine hC.1 _ 0 [_, _, _] _ _ _ _ _ (hent _ 2 0 (by decide) (by decide)) rfl rfl (Nat.le_of_ble_eq_true rfl) rfl ?_
  refine mB hT 2 rfl ?_
  refine mNf (lv2 := [(2, .int 0), (1, .int 2), (0, .ref 0)]) (st2 := [.long (c 2 0), .int 8, .ref 10]) rfl (by rw [hc 2 0] <;> rfl) ?_
  refine mB hT 28 rfl ?_
  refine mWd (w2 := (MW 4 (Int32.ofNat vs) wo un h bo (up (up (up (up (up (up (up (up (up ta 0 (c 0 0)) 1 (c 0 1)) 2 (c 0 2)) 3 (c 0 3)) 4 (c 1 0)) 5 (c 1 1)) 6 (c 1 2)) 7 (c 1 3)) 8 (c 2 0)) tr ro ot Bm bk)) rfl ?_
  refine hC.1 _ 0 [_, _, _] _ _ _ _ _ (hent _ 2 1 (by decide) (by decide)) rfl rfl (Nat.le_of_ble_eq_true rfl) rfl ?_
  refine mB hT 2 rfl ?_
  refine mNf (lv2 := [(2, .int 1), (1, .int 2), (0, .ref 0)]) (st2 := [.long (c 2 1), .int 9, .ref 10]) rfl (by rw [hc 2 1] <;> rfl) ?_
  refine mB hT 28 rfl ?_
  refine mWd (w2 := (MW 4 (Int32.ofNat vs) wo un h bo (up (up (up (up (up (up (up (up (up (up ta 0 (c 0 0)) 1 (c 0 1)) 2 (c 0 2)) 3 (c 0 3)) 4 (c 1 0)) 5 (c 1 1)) 6 (c 1 2)) 7 (c 1 3)) 8 (c 2 0)) 9 (c 2 1)) tr ro ot Bm bk)) rfl ?_
  refine hC.1 _ 0 [_, _, _] _ _ _ _ _ (hent _ 2 2 (by decide) (by decide)) rfl rfl (Nat.le_of_ble_eq_true rfl) rfl ?_
  refine mB hT 2 rfl ?_
  refine mNf (lv2 := [(2, .int 2), (1, .int 2), (0, .ref 0)]) (st2 := [.long (c 2 2), .int 10, .ref 10]) rfl (by rw [hc 2 2] <;> rfl) ?_
  refine mB hT 28 rfl ?_
  refine mWd (w2 := (MW 4 (Int32.ofNat vs) wo un h bo (up (up (up (up (up (up (up (up (up (up (up ta 0 (c 0 0)) 1 (c 0 1)) 2 (c 0 2)) 3 (c 0 3)) 4 (c 1 0)) 5 (c 1 1)) 6 (c 1 2)) 7 (c 1 3)) 8 (c 2 0)) 9 (c 2 1)) 10 (c 2 2)) tr ro ot Bm bk)) rfl ?_
  refine hC.1 _ 0 [_, _, _] _ _ _ _ _ (hent _ 2 3 (by decide) (by decide)) rfl rfl (Nat.le_of_ble_eq_true rfl) rfl ?_
  refine mB hT 2 rfl ?_
  refine mNf (lv2 := [(2, .int 3), (1, .int 2), (0, .ref 0)]) (st2 := [.long (c 2 3), .int 11, .ref 10]) rfl (by rw [hc 2 3] <;> rfl) ?_
  refine mB hT 38 rfl ?_
  refine mNf (lv2 := [(2, .int 0), (1, .int 3), (0, .ref 0)]) (st2 := [.int 0, .int 3, .int (bo 0), .ref 0, .int 12, .ref 10]) rfl rfl ?_
  refine mWd (w2 := (MW 4 (Int32.ofNat vs) wo un h bo (up (up (up (up (up (up (up (up (up (up (up (up ta 0 (c 0 0)) 1 (c 0 1)) 2 (c 0 2)) 3 (c 0 3)) 4 (c 1 0)) 5 (c 1 1)) 6 (c 1 2)) 7 (c 1 3)) 8 (c 2 0)) 9 (c 2 1)) 10 (c 2 2)) 11 (c 2 3)) tr ro ot Bm bk)) rfl ?_
  refine hC.1 _ 0 [_, _, _] _ _ _ _ _ (hent _ 3 0 (by decide) (by decide)) rfl rfl (Nat.le_of_ble_eq_true rfl) rfl ?_
  refine mB hT 2 rfl ?_
  refine mNf (lv2 := [(2, .int 0), (1, .int 3), (0, .ref 0)]) (st2 := [.long (c 3 0), .int 12, .ref 10]) rfl (by rw [hc 3 0] <;> rfl) ?_
  refine mB hT 28 rfl ?_
  refine mWd (w2 := (MW 4 (Int32.ofNat vs) wo un h bo (up (up (up (up (up (up (up (up (up (up (up (up (up ta 0 (c 0 0)) 1 (c 0 1)) 2 (c 0 2)) 3 (c 0 3)) 4 (c 1 0)) 5 (c 1 1)) 6 (c 1 2)) 7 (c 1 3)) 8 (c 2 0)) 9 (c 2 1)) 10 (c 2 2)) 11 (c 2 3)) 12 (c 3 0)) tr ro ot Bm bk)) rfl ?_
  refine hC.1 _ 0 [_, _, _] _ _ _ _ _ (hent _ 3 1 (by decide) (by decide)) rfl rfl (Nat.le_of_ble_eq_true rfl) rfl ?_
  refine mB hT 2 rfl ?_
  refine mNf (lv2 := [(2, .int 1), (1, .int 3), (0, .ref 0)]) (st2 := [.long (c 3 1), .int 13, .ref 10]) rfl (by rw [hc 3 1] <;> rfl) ?_
  refine mB hT 28 rfl ?_
  refine mWd (w2 := (MW 4 (Int32.ofNat vs) wo un h bo (up (up (up (up (up (up (up (up (up (up (up (up (up (up ta 0 (c 0 0)) 1 (c 0 1)) 2 (c 0 2)) 3 (c 0 3)) 4 (c 1 0)) 5 (c 1 1)) 6 (c 1 2)) 7 (c 1 3)) 8 (c 2 0)) 9 (c 2 1)) 10 (c 2 2)) 11 (c 2 3)) 12 (c 3 0)) 13 (c 3 1)) tr ro ot Bm bk)) rfl ?_
  refine hC.1 _ 0 [_, _, _] _ _ _ _ _ (hent _ 3 2 (by decide) (by decide)) rfl rfl (Nat.le_of_ble_eq_true rfl) rfl ?_
  refine mB hT 2 rfl ?_
  refine mNf (lv2 := [(2, .int 2), (1, .int 3), (0, .ref 0)]) (st2 := [.long (c 3 2), .int 14, .ref 10]) rfl (by rw [hc 3 2] <;> rfl) ?_
  refine mB hT 28 rfl ?_
  refine mWd (w2 := (MW 4 (Int32.ofNat vs) wo un h bo (up (up (up (up (up (up (up (up (up (up (up (up (up (up (up ta 0 (c 0 0)) 1 (c 0 1)) 2 (c 0 2)) 3 (c 0 3)) 4 (c 1 0)) 5 (c 1 1)) 6 (c 1 2)) 7 (c 1 3)) 8 (c 2 0)) 9 (c 2 1)) 10 (c 2 2)) 11 (c 2 3)) 12 (c 3 0)) 13 (c 3 1)) 14 (c 3 2)) tr ro ot Bm bk)) rfl ?_
  refine hC.1 _ 0 [_, _, _] _ _ _ _ _ (hent _ 3 3 (by decide) (by decide)) rfl rfl (Nat.le_of_ble_eq_true rfl) rfl ?_
  refine mB hT 2 rfl ?_
  refine mNf (lv2 := [(2, .int 3), (1, .int 3), (0, .ref 0)]) (st2 := [.long (c 3 3), .int 15, .ref 10]) rfl (by rw [hc 3 3] <;> rfl) ?_
  refine mB hT 37 rfl ?_
  refine mNf (lv2 := [(1, .int 1), (2, .int 4), (0, .ref 0)]) (st2 := []) rfl rfl ?_
  refine mWd (w2 := (MW 4 (Int32.ofNat vs) wo un h bo (up (up (up (up (up (up (up (up (up (up (up (up (up (up (up (up ta 0 (c 0 0)) 1 (c 0 1)) 2 (c 0 2)) 3 (c 0 3)) 4 (c 1 0)) 5 (c 1 1)) 6 (c 1 2)) 7 (c 1 3)) 8 (c 2 0)) 9 (c 2 1)) 10 (c 2 2)) 11 (c 2 3)) 12 (c 3 0)) 13 (c 3 1)) 14 (c 3 2)) 15 (c 3 3)) (up (up tr 0 (c 0 0)) 1 (c 0 1)) ro ot Bm bk)) rfl ?_
  refine mB hT 39 rfl ?_
  refine mNf (lv2 := [(1, .int 4), (2, .int 4), (0, .ref 0)]) (st2 := []) rfl rfl ?_
  refine mWd (w2 := (MW 4 (Int32.ofNat vs) wo un h bo (up (up (up (up (up (up (up (up (up (up (up (up (up (up (up (up ta 0 (c 0 0)) 1 (c 0 1)) 2 (c 0 2)) 3 (c 0 3)) 4 (c 1 0)) 5 (c 1 1)) 6 (c 1 2)) 7 (c 1 3)) 8 (c 2 0)) 9 (c 2 1)) 10 (c 2 2)) 11 (c 2 3)) 12 (c 3 0)) 13 (c 3 1)) 14 (c 3 2)) 15 (c 3 3)) (up (up (up (up (up tr 0 (c 0 0)) 1 (c 0 1)) 2 (c 0 2)) 3 (c 0 3)) 4 (c 1 0)) ro ot Bm bk)) rfl ?_
  refine mB hT 39 rfl ?_
  refine mNf (lv2 := [(1, .int 7), (2, .int 4), (0, .ref 0)]) (st2 := []) rfl rfl ?_
  refine mWd (w2 := (MW 4 (Int32.ofNat vs) wo un h bo (up (up (up (up (up (up (up (up (up (up (up (up (up (up (up (up ta 0 (c 0 0)) 1 (c 0 1)) 2 (c 0 2)) 3 (c 0 3)) 4 (c 1 0)) 5 (c 1 1)) 6 (c 1 2)) 7 (c 1 3)) 8 (c 2 0)) 9 (c 2 1)) 10 (c 2 2)) 11 (c 2 3)) 12 (c 3 0)) 13 (c 3 1)) 14 (c 3 2)) 15 (c 3 3)) (up (up (up (up (up (up (up (up tr 0 (c 0 0)) 1 (c 0 1)) 2 (c 0 2)) 3 (c 0 3)) 4 (c 1 0)) 5 (c 1 1)) 6 (c 1 2)) 7 (c 1 3)) ro ot Bm bk)) rfl ?_
  refine mB hT 39 rfl ?_
  refine mNf (lv2 := [(1, .int 10), (2, .int 4), (0, .ref 0)]) (st2 := []) rfl rfl ?_
  refine mWd (w2 := (MW 4 (Int32.ofNat vs) wo un h bo (up (up (up (up (up (up (up (up (up (up (up (up (up (up (up (up ta 0 (c 0 0)) 1 (c 0 1)) 2 (c 0 2)) 3 (c 0 3)) 4 (c 1 0)) 5 (c 1 1)) 6 (c 1 2)) 7 (c 1 3)) 8 (c 2 0)) 9 (c 2 1)) 10 (c 2 2)) 11 (c 2 3)) 12 (c 3 0)) 13 (c 3 1)) 14 (c 3 2)) 15 (c 3 3)) (up (up (up (up (up (up (up (up (up (up (up tr 0 (c 0 0)) 1 (c 0 1)) 2 (c 0 2)) 3 (c 0 3)) 4 (c 1 0)) 5 (c 1 1)) 6 (c 1 2)) 7 (c 1 3)) 8 (c 2 0)) 9 (c 2 1)) 10 (c 2 2)) ro ot Bm bk)) rfl ?_
  refine mB hT 39 rfl ?_
  refine mNf (lv2 := [(1, .int 13), (2, .int 4), (0, .ref 0)]) (st2 := []) rfl rfl ?_
  refine mWd (w2 := (MW 4 (Int32.ofNat vs) wo un h bo (up (up (up (up (up (up (up (up (up (up (up (up (up (up (up (up ta 0 (c 0 0)) 1 (c 0 1)) 2 (c 0 2)) 3 (c 0 3)) 4 (c 1 0)) 5 (c 1 1)) 6 (c 1 2)) 7 (c 1 3)) 8 (c 2 0)) 9 (c 2 1)) 10 (c 2 2)) 11 (c 2 3)) 12 (c 3 0)) 13 (c 3 1)) 14 (c 3 2)) 15 (c 3 3)) (up (up (up (up (up (up (up (up (up (up (up (up (up (up tr 0 (c 0 0)) 1 (c 0 1)) 2 (c 0 2)) 3 (c 0 3)) 4 (c 1 0)) 5 (c 1 1)) 6 (c 1 2)) 7 (c 1 3)) 8 (c 2 0)) 9 (c 2 1)) 10 (c 2 2)) 11 (c 2 3)) 12 (c 3 0)) 13 (c 3 1)) ro ot Bm bk)) rfl ?_
  refine mB hT 33 rfl ?_
  refine mNf (lv2 := [(1, .int 16), (2, .int 4), (0, .ref 0)]) (st2 := [.ref 0, .ref 0]) rfl rfl ?_
  refine mWd (w2 := (MW 4 (Int32.ofNat vs) wo un h bo (up (up (up (up (up (up (up (up (up (up (up (up (up (up (up (up ta 0 (c 0 0)) 1 (c 0 1)) 2 (c 0 2)) 3 (c 0 3)) 4 (c 1 0)) 5 (c 1 1)) 6 (c 1 2)) 7 (c 1 3)) 8 (c 2 0)) 9 (c 2 1)) 10 (c 2 2)) 11 (c 2 3)) 12 (c 3 0)) 13 (c 3 1)) 14 (c 3 2)) 15 (c 3 3)) (up (up (up (up (up (up (up (up (up (up (up (up (up (up (up (up tr 0 (c 0 0)) 1 (c 0 1)) 2 (c 0 2)) 3 (c 0 3)) 4 (c 1 0)) 5 (c 1 1)) 6 (c 1 2)) 7 (c 1 3)) 8 (c 2 0)) 9 (c 2 1)) 10 (c 2 2)) 11 (c 2 3)) 12 (c 3 0)) 13 (c 3 1)) 14 (c 3 2)) 15 (c 3 3)) ro ot Bm bk)) rfl ?_
  refine mWd (w2 := (MW 4 (Int32.ofNat vs) wo un h bo (taM 4 c) (taM 4 c) ro ot Bm bk)) rfl ?_
  refine hC.2 _ 0 [] _ _ _ _ _ (m_det) rfl rfl (Nat.le_of_ble_eq_true rfl) rfl ?_
  refine mB hT 1 rfl ?_
  exact hR _ (by decide) _ _ _ rfl rfl
theorem m_layG {n vs : Nat} {wo un h : Int64} {bo : Nat → Int32} {ta tr ro ot : Nat → Int64} {Bm : Nat → Nat → Nat → Int32} {bk : Nat → Nat → Int32} (hn : n ≤ 4) {e : Nat → Nat → Int32} (hent : ∀ (ta9 : Nat → Int64) (j i : Nat), j < 4 → i < 4 → KX3_entryOf l D ca ad [.ref 0, .int (bo i), .int (Int32.ofNat j), .int (Int32.ofNat i)] (MW (Int32.ofNat n) (Int32.ofNat vs) wo un h bo ta9 tr ro ot Bm bk) (some (.int (e j i))) (MW (Int32.ofNat n) (Int32.ofNat vs) wo un h bo ta9 tr ro ot Bm bk)) : KX3_lay l D ca ad [.ref 0] (MW (Int32.ofNat n) (Int32.ofNat vs) wo un h bo ta tr ro ot Bm bk) none (MW (Int32.ofNat n) (Int32.ofNat vs) (dtM (taM n (fun j i => (e j i).toInt64))) un h bo (taM n (fun j i => (e j i).toInt64)) (taM n (fun j i => (e j i).toInt64)) ro ot Bm bk) := by
  match n, hn with
  | 0, _ => exact m_layG_0 (c := fun j i => (e j i).toInt64) hent (fun _ _ => rfl)
  | 1, _ => exact m_layG_1 (c := fun j i => (e j i).toInt64) hent (fun _ _ => rfl)
  | 2, _ => exact m_layG_2 (c := fun j i => (e j i).toInt64) hent (fun _ _ => rfl)
  | 3, _ => exact m_layG_3 (c := fun j i => (e j i).toInt64) hent (fun _ _ => rfl)
  | 4, _ => exact m_layG_4 (c := fun j i => (e j i).toInt64) hent (fun _ _ => rfl)
end
