def fn_Bk_byteOf (p0 : Int64) (p2 : Int32) (u : gk_St) : Option (Int32 × gk_St) := some ((Int64.toInt32 ((gj_lushr p0 (8 * p2)) &&& 255)), u)
def fn_Bk_allFit_2 : Nat → Int64 → Int32 → Int32 → gk_St → Option (Int32 × gk_St)
  | 0, _, _, _, _ => none
  | n + 1, x0, x2, x3, u => if x2 ≤ x3 then (some (1, u)) else ((fn_Bk_byteOf x0 x3 u).bind fun z1 => (if z1.1 < 33 then (some (0, z1.2)) else (if z1.1 ≤ 126 then (fn_Bk_allFit_2 n x0 x2 (x3 + 1) z1.2) else (some (0, z1.2)))))
def fn_Bk_allFit (p0 : Int64) (p2 : Int32) (u : gk_St) : Option (Int32 × gk_St) := fn_Bk_allFit_2 gk_fu p0 p2 0 u
def fn_Tx_append (k : Nat) (p1 : Int32) (u : gk_St) : Option (gk_St) := if 8 ≤ (u.1 0 k) then (if 16 ≤ (u.1 0 k) then (some u) else (some (gk_sI (gk_sL u 1 k ((u.2 1 k) ||| (gj_lshl (Int32.toInt64 p1) (8 * (15 - (u.1 0 k)))))) 0 k (((gk_sL u 1 k ((u.2 1 k) ||| (gj_lshl (Int32.toInt64 p1) (8 * (15 - (u.1 0 k)))))).1 0 k) + 1)))) else (some (gk_sI (gk_sL u 0 k ((u.2 0 k) ||| (gj_lshl (Int32.toInt64 p1) (8 * (7 - (u.1 0 k)))))) 0 k (((gk_sL u 0 k ((u.2 0 k) ||| (gj_lshl (Int32.toInt64 p1) (8 * (7 - (u.1 0 k)))))).1 0 k) + 1)))
def fn_Bk_type_43 : Nat → Int64 → Int32 → Int32 → gk_St → Option (Int32 × gk_St)
  | 0, _, _, _, _ => none
  | n + 1, x1, x3, x4, u => if x4 < 0 then (some ((u.1 0 100), u)) else ((fn_Bk_byteOf x1 x4 u).bind fun z3 => ((fn_Tx_append 100 z3.1 z3.2).bind fun z5 => (fn_Bk_type_43 n x1 x3 (x4 + (-1)) z5)))
def fn_Bk_type (p1 : Int64) (p3 : Int32) (u : gk_St) : Option (Int32 × gk_St) := if p3 < 1 then (some ((-1), u)) else (if 8 < p3 then (some ((-1), u)) else ((fn_Bk_allFit p1 p3 u).bind fun z1 => (if z1.1 = 0 then (some ((-1), z1.2)) else (if ((z1.2.1 0 100) + p3) ≤ 16 then (fn_Bk_type_43 gk_fu p1 p3 (p3 - 1) z1.2) else (some ((-3), z1.2))))))
def fn_Tx_empty (k : Nat) (u : gk_St) : Option (gk_St) := some (gk_sI (gk_sL (gk_sL u 0 k 0) 1 k 0) 0 k 0)
def fn_Bk_clear  (u : gk_St) : Option (Int32 × gk_St) := (fn_Tx_empty 100 u).bind fun z1 => (some ((u.1 0 100), z1))
def fn_Bk_isKind (p0 : Int32) (u : gk_St) : Option (Int32 × gk_St) := if p0 < 0 then (some (0, u)) else (if 4 ≤ p0 then (some (0, u)) else (some (1, u)))
def fn_Lv_numberAt (p1 : Int32) (u : gk_St) : Option (Int32 × gk_St) := if p1 < 0 then (some ((-1), u)) else (if (u.1 6 0) ≤ p1 then (some ((-1), u)) else (if 100 ≤ p1 then (some ((-1), u)) else (if gj_in p1 100 then some ((u.1 5 (Int32.toNatClampNeg p1)), u) else none)))
def fn_Bk_inBook (p1 : Int32) (u : gk_St) : Option (Option Nat × gk_St) := if p1 < 0 then (some (none, u)) else (if p1 < 100 then (if gj_in p1 100 then if (u.1 1 (Int32.toNatClampNeg p1)) = 0 then (some (none, u)) else (some (some (Int32.toNatClampNeg p1), u)) else none) else (some (none, u)))
def fn_Tx_compareWith (k : Nat) (q1 : Nat) (u : gk_St) : Option (Int32 × gk_St) := if (lg_cmp (u.2 0 k) (u.2 0 q1)) = 0 then (some ((fn_Lo_compare (u.2 1 k) (u.2 1 q1)), u)) else (some ((fn_Lo_compare (u.2 0 k) (u.2 0 q1)), u))
def fn_Tm_compareWith (k : Nat) (p1 : Int32) (q2 : Nat) (u : gk_St) : Option (Int32 × gk_St) := if (u.1 2 k) = p1 then ((fn_Tx_compareWith k q2 u).bind fun z1 => (some (z1.1, z1.2))) else (some ((fn_In_compare (u.1 2 k) p1), u))
def fn_Bk_isBeforeTape (p1 : Int32) (p2 : Int32) (u : gk_St) : Option (Int32 × gk_St) := (fn_Bk_inBook p1 u).bind fun z1 => match z1 with | (none, u4) => (some (0, u4)) | (some k5, u4) => ((fn_Tm_compareWith k5 p2 100 u4).bind fun z6 => (if 0 ≤ z6.1 then (some (0, z6.2)) else (some (1, z6.2))))
def fn_Bk_placeOfTape_2 : Nat → Int32 → Int32 → gk_St → Option (Int32 × gk_St)
  | 0, _, _, _ => none
  | n + 1, x1, x2, u => if (u.1 6 0) ≤ x2 then (some (x2, u)) else ((fn_Lv_numberAt x2 u).bind fun z1 => ((fn_Bk_isBeforeTape z1.1 x1 z1.2).bind fun z3 => (if z3.1 = 0 then (some (x2, z3.2)) else (fn_Bk_placeOfTape_2 n x1 (x2 + 1) z3.2))))
def fn_Bk_placeOfTape (p1 : Int32) (u : gk_St) : Option (Int32 × gk_St) := fn_Bk_placeOfTape_2 gk_fu p1 0 u
def fn_Bk_isTape (p1 : Int32) (p2 : Int32) (u : gk_St) : Option (Int32 × gk_St) := (fn_Bk_inBook p1 u).bind fun z1 => match z1 with | (none, u4) => (some (0, u4)) | (some k5, u4) => ((fn_Tm_compareWith k5 p2 100 u4).bind fun z6 => (if z6.1 = 0 then (some (1, z6.2)) else (some (0, z6.2))))
def fn_Bk_leastFree_2 : Nat → Int32 → gk_St → Option (Int32 × gk_St)
  | 0, _, _ => none
  | n + 1, x1, u => if 100 ≤ x1 then (some ((-1), u)) else ((fn_Bk_inBook x1 u).bind fun z1 => match z1 with | (none, u4) => (some (x1, u4)) | (some k5, u4) => (fn_Bk_leastFree_2 n (x1 + 1) u4))
def fn_Bk_leastFree  (u : gk_St) : Option (Int32 × gk_St) := fn_Bk_leastFree_2 gk_fu 0 u
def fn_Tx_copyOf (k : Nat) (q1 : Nat) (u : gk_St) : Option (gk_St) := some (gk_sI (gk_sL (gk_sL u 0 k (u.2 0 q1)) 1 k ((gk_sL u 0 k (u.2 0 q1)).2 1 q1)) 0 k ((gk_sL (gk_sL u 0 k (u.2 0 q1)) 1 k ((gk_sL u 0 k (u.2 0 q1)).2 1 q1)).1 0 q1))
def fn_Tm_comeAs (k : Nat) (p1 : Int32) (q2 : Nat) (u : gk_St) : Option (gk_St) := (fn_Tx_copyOf k q2 u).bind fun z1 => (some (gk_sI (gk_sI (gk_sI (gk_sI z1 2 k p1) 3 k 0) 4 k 0) 1 k 1))
def fn_Lv_sizeOf (p1 : Int32) (u : gk_St) : Option (Int32 × gk_St) := if p1 < 0 then (some (0, u)) else (if (u.1 8 0) ≤ p1 then (some (0, u)) else (if 100 ≤ p1 then (some (0, u)) else (if gj_in p1 100 then some ((u.1 7 (Int32.toNatClampNeg p1)), u) else none)))
def fn_Lv_leafOf_4 : Nat → Int32 → Int32 → Int32 → gk_St → Option (Int32 × gk_St)
  | 0, _, _, _, _ => none
  | n + 1, x1, x2, x3, u => if (u.1 8 0) ≤ x3 then (some ((fn_Ma_max ((u.1 8 0) - 1) 0), u)) else ((fn_Lv_sizeOf x3 u).bind fun z1 => (if (x2 + z1.1) ≤ x1 then (fn_Lv_leafOf_4 n x1 (x2 + z1.1) (x3 + 1) z1.2) else (some (x3, z1.2))))
def fn_Lv_leafOf (p1 : Int32) (u : gk_St) : Option (Int32 × gk_St) := fn_Lv_leafOf_4 gk_fu p1 0 0 u
def fn_Lv_resize (p1 : Int32) (p2 : Int32) (u : gk_St) : Option (gk_St) := if p1 < 0 then (some u) else (if (u.1 8 0) ≤ p1 then (some u) else (if 100 ≤ p1 then (some u) else (if gj_in p1 100 then if gj_in p1 100 then some (gk_sI u 7 (Int32.toNatClampNeg p1) ((u.1 7 (Int32.toNatClampNeg p1)) + p2)) else none else none)))
def fn_Lv_part_30 : Nat → Int32 → Int32 → gk_St → Option (gk_St)
  | 0, _, _, _ => none
  | n + 1, x1, x2, u => if x2 ≤ (x1 + 1) then (if gj_in x1 100 then if gj_in (x1 + 1) 100 then if gj_in x1 100 then some (gk_sI (gk_sI (gk_sI u 8 0 ((u.1 8 0) + 1)) 7 (Int32.toNatClampNeg (x1 + 1)) (((gk_sI u 8 0 ((u.1 8 0) + 1)).1 7 (Int32.toNatClampNeg x1)) - 4)) 7 (Int32.toNatClampNeg x1) 4) else none else none else none) else (if gj_in (x2 - 1) 100 then if gj_in x2 100 then fn_Lv_part_30 n x1 (x2 + (-1)) (gk_sI u 7 (Int32.toNatClampNeg x2) (u.1 7 (Int32.toNatClampNeg (x2 - 1)))) else none else none)
def fn_Lv_part (p1 : Int32) (u : gk_St) : Option (gk_St) := if p1 < 0 then (some u) else (if (u.1 8 0) ≤ p1 then (some u) else (if (u.1 8 0) < 100 then (fn_Lv_part_30 gk_fu p1 (u.1 8 0) u) else (some u)))
def fn_Lv_insert_37 : Nat → Int32 → Int32 → Int32 → Int32 → gk_St → Option (gk_St)
  | 0, _, _, _, _, _ => none
  | n + 1, x1, x2, x3, x4, u => if x4 ≤ x1 then (if gj_in x1 100 then if ((gk_sI (gk_sI u 5 (Int32.toNatClampNeg x1) x2) 6 0 (((gk_sI u 5 (Int32.toNatClampNeg x1) x2).1 6 0) + 1)).1 8 0) = 0 then ((fn_Lv_resize x3 1 (gk_sI (gk_sI (gk_sI u 5 (Int32.toNatClampNeg x1) x2) 6 0 (((gk_sI u 5 (Int32.toNatClampNeg x1) x2).1 6 0) + 1)) 8 0 1)).bind fun z11 => ((fn_Lv_sizeOf x3 z11).bind fun z13 => (if z13.1 ≤ 8 then (some z13.2) else ((fn_Lv_part x3 z13.2).bind fun z15 => (some z15))))) else ((fn_Lv_resize x3 1 (gk_sI (gk_sI u 5 (Int32.toNatClampNeg x1) x2) 6 0 (((gk_sI u 5 (Int32.toNatClampNeg x1) x2).1 6 0) + 1))).bind fun z4 => ((fn_Lv_sizeOf x3 z4).bind fun z6 => (if z6.1 ≤ 8 then (some z6.2) else ((fn_Lv_part x3 z6.2).bind fun z8 => (some z8))))) else none) else (if gj_in (x4 - 1) 100 then if gj_in x4 100 then fn_Lv_insert_37 n x1 x2 x3 (x4 + (-1)) (gk_sI u 5 (Int32.toNatClampNeg x4) (u.1 5 (Int32.toNatClampNeg (x4 - 1)))) else none else none)
def fn_Lv_insert (p1 : Int32) (p2 : Int32) (u : gk_St) : Option (gk_St) := if p1 < 0 then (some u) else (if (u.1 6 0) < p1 then (some u) else (if (u.1 6 0) < 100 then ((fn_Lv_leafOf p1 u).bind fun z1 => (fn_Lv_insert_37 gk_fu p1 p2 z1.1 (z1.2.1 6 0) z1.2)) else (some u)))
def fn_Bk_bringTape (p1 : Int32) (p2 : Int32) (u : gk_St) : Option (Int32 × gk_St) := (fn_Bk_leastFree u).bind fun z1 => (if z1.1 = (-1) then (some ((-1), z1.2)) else (if gj_in z1.1 100 then if gj_in z1.1 100 then (fn_Tm_comeAs (Int32.toNatClampNeg z1.1) p1 100 z1.2).bind fun z5 => ((fn_Lv_insert p2 z1.1 z5).bind fun z7 => (some (z1.1, z7))) else none else none))
def fn_Bk_useTape (p1 : Int32) (u : gk_St) : Option (Int32 × gk_St) := (fn_Bk_placeOfTape p1 u).bind fun z1 => ((fn_Lv_numberAt z1.1 z1.2).bind fun z3 => ((fn_Bk_isTape z3.1 p1 z3.2).bind fun z5 => (if z5.1 = 0 then ((fn_Bk_bringTape p1 z1.1 z5.2).bind fun z12 => ((fn_Bk_inBook z12.1 z12.2).bind fun z14 => match z14 with | (none, u17) => (some ((-3), u17)) | (some k18, u17) => (some (z12.1, (gk_sI u17 3 k18 ((u17.1 3 k18) + 1)))))) else ((fn_Bk_inBook z3.1 z5.2).bind fun z7 => match z7 with | (none, u10) => (some ((-3), u10)) | (some k11, u10) => (some (z3.1, (gk_sI u10 3 k11 ((u10.1 3 k11) + 1))))))))
def fn_Bk_add (p1 : Int32) (u : gk_St) : Option (Int32 × gk_St) := (fn_Bk_isKind p1 u).bind fun z1 => (if z1.1 = 0 then ((fn_Tx_empty 100 z1.2).bind fun z3 => (some ((-1), z3))) else (if (z1.2.1 0 100) ≤ 0 then ((fn_Tx_empty 100 z1.2).bind fun z5 => (some ((-1), z5))) else ((fn_Bk_useTape p1 z1.2).bind fun z7 => ((fn_Tx_empty 100 z7.2).bind fun z9 => (some (z7.1, z9))))))
def fn_Tm_isNeeded (k : Nat) (u : gk_St) : Option (Int32 × gk_St) := if 0 < (u.1 3 k) then (some (1, u)) else (if (u.1 4 k) = 0 then (some (0, u)) else (some (1, u)))
def fn_Lv_placeOf_2 : Nat → Int32 → Int32 → gk_St → Option (Int32 × gk_St)
  | 0, _, _, _ => none
  | n + 1, x1, x2, u => if (u.1 6 0) ≤ x2 then (some ((-1), u)) else ((fn_Lv_numberAt x2 u).bind fun z1 => (if z1.1 = x1 then (some (x2, z1.2)) else (fn_Lv_placeOf_2 n x1 (x2 + 1) z1.2)))
def fn_Lv_placeOf (p1 : Int32) (u : gk_St) : Option (Int32 × gk_St) := fn_Lv_placeOf_2 gk_fu p1 0 u
def fn_Lv_dropEmpty  (u : gk_St) : Option (gk_St) := if (u.1 6 0) = 0 then (some (gk_sI u 8 0 0)) else (some u)
def fn_Lv_joinNext_53 : Nat → Int32 → Int32 → gk_St → Option (gk_St)
  | 0, _, _, _ => none
  | n + 1, x1, x2, u => if (u.1 8 0) ≤ x2 then (some u) else (if gj_in (x2 + 1) 100 then if gj_in x2 100 then fn_Lv_joinNext_53 n x1 (x2 + 1) (gk_sI u 7 (Int32.toNatClampNeg x2) (u.1 7 (Int32.toNatClampNeg (x2 + 1)))) else none else none)
def fn_Lv_joinNext (p1 : Int32) (u : gk_St) : Option (gk_St) := if p1 < 0 then (some u) else (if (u.1 8 0) ≤ (p1 + 1) then (some u) else (if (u.1 8 0) ≤ 100 then ((fn_Lv_sizeOf (p1 + 1) u).bind fun z1 => ((fn_Lv_resize p1 z1.1 z1.2).bind fun z3 => (fn_Lv_joinNext_53 gk_fu p1 (p1 + 1) (gk_sI z3 8 0 ((z3.1 8 0) - 1))))) else (some u)))
def fn_Lv_mend (p1 : Int32) (u : gk_St) : Option (gk_St) := if 2 ≤ (u.1 8 0) then (if (u.1 8 0) ≤ (p1 + 1) then ((fn_Lv_sizeOf p1 u).bind fun z1 => ((fn_Lv_sizeOf (p1 - 1) z1.2).bind fun z3 => (if 8 < (z1.1 + z3.1) then ((fn_Lv_resize p1 1 z3.2).bind fun z5 => ((fn_Lv_resize (p1 - 1) (-1) z5).bind fun z7 => (some z7))) else ((fn_Lv_joinNext (fn_Ma_min p1 (p1 - 1)) z3.2).bind fun z9 => (some z9))))) else ((fn_Lv_sizeOf p1 u).bind fun z12 => ((fn_Lv_sizeOf (p1 + 1) z12.2).bind fun z14 => (if 8 < (z12.1 + z14.1) then ((fn_Lv_resize p1 1 z14.2).bind fun z16 => ((fn_Lv_resize (p1 + 1) (-1) z16).bind fun z18 => (some z18))) else ((fn_Lv_joinNext (fn_Ma_min p1 (p1 + 1)) z14.2).bind fun z20 => (some z20)))))) else ((fn_Lv_dropEmpty u).bind fun z24 => (some z24))
def fn_Lv_remove_43 : Nat → Int32 → Int32 → Int32 → gk_St → Option (gk_St)
  | 0, _, _, _, _ => none
  | n + 1, x1, x2, x3, u => if (u.1 6 0) ≤ x3 then ((fn_Lv_resize x2 (-1) u).bind fun z3 => ((fn_Lv_sizeOf x2 z3).bind fun z5 => (if 3 ≤ z5.1 then (some z5.2) else ((fn_Lv_mend x2 z5.2).bind fun z7 => (some z7))))) else (if gj_in (x3 + 1) 100 then if gj_in x3 100 then fn_Lv_remove_43 n x1 x2 (x3 + 1) (gk_sI u 5 (Int32.toNatClampNeg x3) (u.1 5 (Int32.toNatClampNeg (x3 + 1)))) else none else none)
def fn_Lv_remove (p1 : Int32) (u : gk_St) : Option (gk_St) := if p1 < 0 then (some u) else (if (u.1 6 0) ≤ p1 then (some u) else (if (u.1 6 0) ≤ 100 then ((fn_Lv_leafOf p1 u).bind fun z1 => (fn_Lv_remove_43 gk_fu p1 z1.1 p1 (gk_sI z1.2 6 0 ((z1.2.1 6 0) - 1)))) else (some u)))
def fn_Bk_takeOut (q1 : Nat) (p2 : Int32) (u : gk_St) : Option (gk_St) := (fn_Lv_remove p2 (gk_sI u 1 q1 0)).bind fun z1 => (some z1)
def fn_Bk_drop (p1 : Int32) (u : gk_St) : Option (Int32 × gk_St) := (fn_Bk_inBook p1 u).bind fun z1 => match z1 with | (none, u4) => (some ((-1), u4)) | (some k5, u4) => (if (u4.1 3 k5) = 0 then (some ((-1), u4)) else ((fn_Tm_isNeeded k5 (gk_sI u4 3 k5 ((u4.1 3 k5) - 1))).bind fun z6 => (if z6.1 = 0 then ((fn_Lv_placeOf p1 z6.2).bind fun z8 => ((fn_Bk_takeOut k5 z8.1 z8.2).bind fun z10 => (some ((z10.1 3 k5), z10)))) else (some ((z6.2.1 3 k5), z6.2)))))
def fn_Bk_find (p1 : Int32) (u : gk_St) : Option (Int32 × gk_St) := (fn_Bk_isKind p1 u).bind fun z1 => (if z1.1 = 0 then (some ((-1), z1.2)) else ((fn_Bk_placeOfTape p1 z1.2).bind fun z3 => ((fn_Lv_numberAt z3.1 z3.2).bind fun z5 => ((fn_Bk_isTape z5.1 p1 z5.2).bind fun z7 => (if z7.1 = 0 then (some ((-2), z7.2)) else (some (z5.1, z7.2)))))))
def fn_Tx_byteAt (k : Nat) (p1 : Int32) (u : gk_St) : Option (Int32 × gk_St) := if 8 ≤ p1 then ((fn_Bk_byteOf (u.2 1 k) (15 - p1) u).bind fun z1 => (some (z1.1, z1.2))) else ((fn_Bk_byteOf (u.2 0 k) (7 - p1) u).bind fun z3 => (some (z3.1, z3.2)))
def fn_Bk_term (p1 : Int32) (p2 : Int32) (u : gk_St) : Option (Int32 × gk_St) := (fn_Bk_inBook p1 u).bind fun z1 => match z1 with | (none, u4) => (some ((-1), u4)) | (some k5, u4) => (if 0 ≤ p2 then (if p2 = 0 then (some ((u4.1 2 k5), u4)) else if p2 = 1 then (some ((u4.1 3 k5), u4)) else if p2 = 2 then (some ((u4.1 0 k5), u4)) else (if (u4.1 0 k5) ≤ (p2 - 3) then (some ((-1), u4)) else ((fn_Tx_byteAt k5 (p2 - 3) u4).bind fun z9 => (some (z9.1, z9.2))))) else (some ((-1), u4)))
def fn_Bk_at (p1 : Int32) (u : gk_St) : Option (Int32 × gk_St) := (fn_Lv_numberAt p1 u).bind fun z1 => (if z1.1 = (-1) then (some ((-2), z1.2)) else (some (z1.1, z1.2)))
def fn_Bk_place (p1 : Int32) (u : gk_St) : Option (Int32 × gk_St) := (fn_Bk_inBook p1 u).bind fun z1 => match z1 with | (none, u4) => (some ((-1), u4)) | (some k5, u4) => ((fn_Lv_placeOf p1 u4).bind fun z6 => (some (z6.1, z6.2)))
def fn_Tx_sharedWith (k : Nat) (q1 : Nat) (u : gk_St) : Option (Int32 × gk_St) := if (lg_cmp (u.2 0 k) (u.2 0 q1)) = 0 then (some ((fn_Ma_min (8 + ((fn_Lo_numberOfLeadingZeros ((u.2 1 k) ^^^ (u.2 1 q1))) / 8)) (fn_Ma_min (u.1 0 k) (u.1 0 q1))), u)) else (some ((fn_Ma_min ((fn_Lo_numberOfLeadingZeros ((u.2 0 k) ^^^ (u.2 0 q1))) / 8) (fn_Ma_min (u.1 0 k) (u.1 0 q1))), u))
def fn_Tx_startsWith (k : Nat) (q1 : Nat) (u : gk_St) : Option (Int32 × gk_St) := (fn_Tx_sharedWith k q1 u).bind fun z1 => (if z1.1 = (z1.2.1 0 q1) then (some (1, z1.2)) else (some (0, z1.2)))
def fn_Bk_begins_13 : Nat → Int32 → Int32 → Int32 → gk_St → Option (Int32 × gk_St)
  | 0, _, _, _, _ => none
  | n + 1, x1, x2, x3, u => if 100 ≤ x3 then (some (x2, u)) else ((fn_Bk_inBook x3 u).bind fun z3 => match z3 with | (none, u6) => (fn_Bk_begins_13 n x1 x2 (x3 + 1) u6) | (some k7, u6) => (if (u6.1 2 k7) = x1 then ((fn_Tx_startsWith k7 100 u6).bind fun z8 => (if z8.1 = 0 then (fn_Bk_begins_13 n x1 x2 (x3 + 1) z8.2) else (fn_Bk_begins_13 n x1 (x2 + 1) (x3 + 1) z8.2))) else (fn_Bk_begins_13 n x1 x2 (x3 + 1) u6)))
def fn_Bk_begins (p1 : Int32) (u : gk_St) : Option (Int32 × gk_St) := (fn_Bk_isKind p1 u).bind fun z1 => (if z1.1 = 0 then (some ((-1), z1.2)) else (fn_Bk_begins_13 gk_fu p1 0 0 z1.2))
def fn_Bk_from (p1 : Int32) (u : gk_St) : Option (Int32 × gk_St) := (fn_Bk_isKind p1 u).bind fun z1 => (if z1.1 = 0 then (some ((-1), z1.2)) else ((fn_Bk_placeOfTape p1 z1.2).bind fun z3 => (some (z3.1, z3.2))))
def fn_Bk_slotOf_2 : Nat → Int32 → Int32 → gk_St → Option (Int32 × gk_St)
  | 0, _, _, _ => none
  | n + 1, x1, x2, u => if 6 ≤ x2 then (some ((-1), u)) else (if gj_in x2 6 then if (u.1 9 (Int32.toNatClampNeg x2)) = x1 then (some (x2, u)) else (fn_Bk_slotOf_2 n x1 (x2 + 1) u) else none)
def fn_Bk_slotOf (p1 : Int32) (u : gk_St) : Option (Int32 × gk_St) := fn_Bk_slotOf_2 gk_fu p1 0 u
def fn_Tm_keepFor (k : Nat) (p1 : Int32) (u : gk_St) : Option (gk_St) := some (gk_sI u 4 k ((u.1 4 k) ||| ((1 : Int32) <<< (p1 &&& 31))))
def fn_Bk_version_16 : Nat → Int32 → Int32 → gk_St → Option (Int32 × gk_St)
  | 0, _, _, _ => none
  | n + 1, x1, x2, u => if 100 ≤ x2 then (if gj_in x1 6 then if gj_in x1 6 then some (((gk_sI (gk_sI u 9 (Int32.toNatClampNeg x1) (u.1 10 0)) 10 0 (((gk_sI u 9 (Int32.toNatClampNeg x1) (u.1 10 0)).1 10 0) + 1)).1 9 (Int32.toNatClampNeg x1)), (gk_sI (gk_sI u 9 (Int32.toNatClampNeg x1) (u.1 10 0)) 10 0 (((gk_sI u 9 (Int32.toNatClampNeg x1) (u.1 10 0)).1 10 0) + 1))) else none else none) else ((fn_Bk_inBook x2 u).bind fun z5 => match z5 with | (none, u8) => (fn_Bk_version_16 n x1 (x2 + 1) u8) | (some k9, u8) => (if (u8.1 3 k9) ≤ 0 then (fn_Bk_version_16 n x1 (x2 + 1) u8) else ((fn_Tm_keepFor k9 x1 u8).bind fun z10 => (fn_Bk_version_16 n x1 (x2 + 1) z10))))
def fn_Bk_version  (u : gk_St) : Option (Int32 × gk_St) := (fn_Bk_slotOf (-1) u).bind fun z1 => (if z1.1 = (-1) then (some ((-3), z1.2)) else (fn_Bk_version_16 gk_fu z1.1 0 z1.2))
def fn_Bk_keptSlot (p1 : Int32) (u : gk_St) : Option (Int32 × gk_St) := if 0 ≤ p1 then ((fn_Bk_slotOf p1 u).bind fun z1 => (some (z1.1, z1.2))) else (some ((-1), u))
def fn_Tm_giveUpFor (k : Nat) (p1 : Int32) (u : gk_St) : Option (gk_St) := some (gk_sI u 4 k ((u.1 4 k) &&& (((1 : Int32) <<< (p1 &&& 31)) ^^^ (-1))))
def fn_Bk_takeOutUnneeded_12 : Nat → Int32 → Int32 → Int32 → gk_St → Option (Int32 × gk_St)
  | 0, _, _, _, _ => none
  | n + 1, x1, x2, x3, u => if x1 ≤ x3 then (some ((x1 - (u.1 6 0)), u)) else ((fn_Lv_numberAt x2 u).bind fun z1 => ((fn_Bk_inBook z1.1 z1.2).bind fun z3 => match z3 with | (none, u6) => (fn_Bk_takeOutUnneeded_12 n x1 (x2 + 1) (x3 + 1) u6) | (some k7, u6) => ((fn_Tm_isNeeded k7 u6).bind fun z8 => (if z8.1 = 0 then ((fn_Bk_takeOut k7 x2 z8.2).bind fun z10 => (fn_Bk_takeOutUnneeded_12 n x1 x2 (x3 + 1) z10)) else (fn_Bk_takeOutUnneeded_12 n x1 (x2 + 1) (x3 + 1) z8.2)))))
def fn_Bk_takeOutUnneeded  (u : gk_St) : Option (Int32 × gk_St) := fn_Bk_takeOutUnneeded_12 gk_fu (u.1 6 0) 0 0 u
def fn_Bk_release_22 : Nat → Int32 → Int32 → Int32 → gk_St → Option (Int32 × gk_St)
  | 0, _, _, _, _ => none
  | n + 1, x1, x2, x3, u => if 100 ≤ x3 then ((fn_Bk_takeOutUnneeded u).bind fun z4 => (some (z4.1, z4.2))) else ((fn_Bk_inBook x3 u).bind fun z6 => match z6 with | (none, u9) => (fn_Bk_release_22 n x1 x2 (x3 + 1) u9) | (some k10, u9) => ((fn_Tm_giveUpFor k10 x2 u9).bind fun z11 => (fn_Bk_release_22 n x1 x2 (x3 + 1) z11)))
def fn_Bk_release (p1 : Int32) (u : gk_St) : Option (Int32 × gk_St) := (fn_Bk_keptSlot p1 u).bind fun z1 => (if z1.1 = (-1) then (some ((-1), z1.2)) else (if gj_in z1.1 6 then fn_Bk_release_22 gk_fu p1 z1.1 0 (gk_sI z1.2 9 (Int32.toNatClampNeg z1.1) (-1)) else none))
def fn_Tm_isKeptFor (k : Nat) (p1 : Int32) (u : gk_St) : Option (Int32 × gk_St) := if ((u.1 4 k) &&& ((1 : Int32) <<< (p1 &&& 31))) = 0 then (some (0, u)) else (some (1, u))
def fn_Bk_countKeptFor_4 : Nat → Int32 → Int32 → Int32 → gk_St → Option (Int32 × gk_St)
  | 0, _, _, _, _ => none
  | n + 1, x1, x2, x3, u => if 100 ≤ x3 then (some (x2, u)) else ((fn_Bk_inBook x3 u).bind fun z1 => match z1 with | (none, u4) => (fn_Bk_countKeptFor_4 n x1 x2 (x3 + 1) u4) | (some k5, u4) => ((fn_Tm_isKeptFor k5 x1 u4).bind fun z6 => (if z6.1 = 0 then (fn_Bk_countKeptFor_4 n x1 x2 (x3 + 1) z6.2) else (fn_Bk_countKeptFor_4 n x1 (x2 + 1) (x3 + 1) z6.2))))
def fn_Bk_countKeptFor (p1 : Int32) (u : gk_St) : Option (Int32 × gk_St) := fn_Bk_countKeptFor_4 gk_fu p1 0 0 u
def fn_Bk_had (p1 : Int32) (p2 : Int32) (u : gk_St) : Option (Int32 × gk_St) := (fn_Bk_keptSlot p1 u).bind fun z1 => (if z1.1 = (-1) then (some ((-1), z1.2)) else (if p2 < (-1) then (some ((-1), z1.2)) else (if p2 < 100 then (if p2 = (-1) then ((fn_Bk_countKeptFor z1.1 z1.2).bind fun z11 => (some (z11.1, z11.2))) else ((fn_Bk_inBook p2 z1.2).bind fun z3 => match z3 with | (none, u6) => (some (0, u6)) | (some k7, u6) => ((fn_Tm_isKeptFor k7 z1.1 u6).bind fun z8 => (if z8.1 = 0 then (some (0, z8.2)) else (some (1, z8.2)))))) else (some ((-1), z1.2)))))
def fn_Lv_startOf_4 : Nat → Int32 → Int32 → Int32 → gk_St → Option (Int32 × gk_St)
  | 0, _, _, _, _ => none
  | n + 1, x1, x2, x3, u => if x1 ≤ x3 then (some (x2, u)) else (if (u.1 8 0) ≤ x3 then (some (x2, u)) else ((fn_Lv_sizeOf x3 u).bind fun z1 => (fn_Lv_startOf_4 n x1 (x2 + z1.1) (x3 + 1) z1.2)))
def fn_Lv_startOf (p1 : Int32) (u : gk_St) : Option (Int32 × gk_St) := fn_Lv_startOf_4 gk_fu p1 0 0 u
def fn_Bk_sharedIn (p1 : Int32) (u : gk_St) : Option (Int32 × gk_St) := (fn_Lv_startOf p1 u).bind fun z1 => ((fn_Lv_numberAt z1.1 z1.2).bind fun z3 => ((fn_Bk_inBook z3.1 z3.2).bind fun z5 => match z5 with | (none, u8) => ((fn_Lv_sizeOf p1 u8).bind fun z10 => ((fn_Lv_numberAt ((z1.1 + z10.1) - 1) z10.2).bind fun z12 => ((fn_Bk_inBook z12.1 z12.2).bind fun z14 => match z14 with | (none, u17) => (some (0, u17)) | (some k18, u17) => (some (0, u17))))) | (some k9, u8) => ((fn_Lv_sizeOf p1 u8).bind fun z19 => ((fn_Lv_numberAt ((z1.1 + z19.1) - 1) z19.2).bind fun z21 => ((fn_Bk_inBook z21.1 z21.2).bind fun z23 => match z23 with | (none, u26) => (some (0, u26)) | (some k27, u26) => (if (u26.1 2 k9) = (u26.1 2 k27) then ((fn_Tx_sharedWith k9 k27 u26).bind fun z28 => (some (z28.1, z28.2))) else (some (0, u26))))))))
def fn_Bk_costOf_33 : Nat → Int32 → Int32 → Int32 → Int32 → Int32 → Int32 → gk_St → Option (Int32 × gk_St)
  | 0, _, _, _, _, _, _, _ => none
  | n + 1, x1, x2, x3, x4, x5, x6, u => if x4 ≤ x6 then (some (x5, u)) else ((fn_Lv_numberAt x6 u).bind fun z7 => ((fn_Bk_inBook z7.1 z7.2).bind fun z9 => match z9 with | (none, u12) => (fn_Bk_costOf_33 n x1 x2 x3 x4 x5 (x6 + 1) u12) | (some k13, u12) => (fn_Bk_costOf_33 n x1 x2 x3 x4 (x5 + ((u12.1 0 k13) - x2)) (x6 + 1) u12)))
def fn_Bk_costOf (p1 : Int32) (u : gk_St) : Option (Int32 × gk_St) := (fn_Bk_sharedIn p1 u).bind fun z1 => ((fn_Lv_startOf p1 z1.2).bind fun z3 => ((fn_Lv_sizeOf p1 z3.2).bind fun z5 => (fn_Bk_costOf_33 gk_fu p1 z1.1 z3.1 (z3.1 + z5.1) z1.1 z3.1 z5.2)))
def fn_Bk_leaf (p1 : Int32) (p2 : Int32) (u : gk_St) : Option (Int32 × gk_St) := if p1 < 0 then (some ((-1), u)) else (if p1 < (u.1 8 0) then (if p2 = 0 then ((fn_Lv_sizeOf p1 u).bind fun z1 => (some (z1.1, z1.2))) else if p2 = 1 then ((fn_Bk_sharedIn p1 u).bind fun z4 => (some (z4.1, z4.2))) else if p2 = 2 then ((fn_Bk_costOf p1 u).bind fun z7 => (some (z7.1, z7.2))) else if p2 = 3 then ((fn_Lv_startOf p1 u).bind fun z10 => ((fn_Lv_numberAt z10.1 z10.2).bind fun z12 => (some (z12.1, z12.2)))) else (some ((-1), u))) else (some ((-1), u)))
def fn_Bk_countKeptVersions_4 : Nat → Int32 → Int32 → gk_St → Option (Int32 × gk_St)
  | 0, _, _, _ => none
  | n + 1, x1, x2, u => if 6 ≤ x2 then (some (x1, u)) else (if gj_in x2 6 then if (u.1 9 (Int32.toNatClampNeg x2)) = (-1) then (fn_Bk_countKeptVersions_4 n x1 (x2 + 1) u) else (fn_Bk_countKeptVersions_4 n (x1 + 1) (x2 + 1) u) else none)
def fn_Bk_countKeptVersions  (u : gk_St) : Option (Int32 × gk_St) := fn_Bk_countKeptVersions_4 gk_fu 0 0 u
def fn_Bk_countUnused_4 : Nat → Int32 → Int32 → gk_St → Option (Int32 × gk_St)
  | 0, _, _, _ => none
  | n + 1, x1, x2, u => if 100 ≤ x2 then (some (x1, u)) else ((fn_Bk_inBook x2 u).bind fun z1 => match z1 with | (none, u4) => (fn_Bk_countUnused_4 n x1 (x2 + 1) u4) | (some k5, u4) => (if (u4.1 3 k5) = 0 then (fn_Bk_countUnused_4 n (x1 + 1) (x2 + 1) u4) else (fn_Bk_countUnused_4 n x1 (x2 + 1) u4)))
def fn_Bk_countUnused  (u : gk_St) : Option (Int32 × gk_St) := fn_Bk_countUnused_4 gk_fu 0 0 u
def fn_Bk_costOfAll_4 : Nat → Int32 → Int32 → gk_St → Option (Int32 × gk_St)
  | 0, _, _, _ => none
  | n + 1, x1, x2, u => if (u.1 8 0) ≤ x2 then (some (x1, u)) else ((fn_Bk_costOf x2 u).bind fun z1 => (fn_Bk_costOfAll_4 n (x1 + z1.1) (x2 + 1) z1.2))
def fn_Bk_costOfAll  (u : gk_St) : Option (Int32 × gk_St) := fn_Bk_costOfAll_4 gk_fu 0 0 u
def fn_Bk_count (p1 : Int32) (u : gk_St) : Option (Int32 × gk_St) := if p1 = 0 then (some ((u.1 6 0), u)) else if p1 = 1 then (some ((u.1 8 0), u)) else if p1 = 2 then (some ((u.1 10 0), u)) else if p1 = 3 then ((fn_Bk_countKeptVersions u).bind fun z4 => (some (z4.1, z4.2))) else if p1 = 4 then ((fn_Bk_countUnused u).bind fun z7 => (some (z7.1, z7.2))) else if p1 = 5 then (some ((u.1 0 100), u)) else if p1 = 6 then ((fn_Bk_costOfAll u).bind fun z11 => (some (z11.1, z11.2))) else (some ((-1), u))
theorem ok_Bk_inBook {p1 : Int32} {u u' : gk_St} {k : Nat} (h : fn_Bk_inBook p1 u = some (some k, u')) : k < 100 := by
  unfold fn_Bk_inBook at h
  split at h
  · cases h
  · split at h
    · split at h
      · rename_i hg
        split at h
        · cases h
        · cases h; exact gj_in_lt hg
      · cases h
    · cases h
