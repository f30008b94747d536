def fX7_isWithin (x0 : Int) (x1 : Int) (x2 : Int) : Option (Int) := bl x0 x1 (some 0) (bl x2 x0 (some 0) (some 1))
def lX7_paceOf_2 (x0 : Int) : Nat → (Int) → Option (Int)
  | 0, _ => none
  | n + 1, x1 => be 11 x1 (some x1) (be x0 (jdv (x1 * (x1 + 1)) 2) (some x1) (nm (x1 + 1) (fun x1_1 => lX7_paceOf_2 x0 n x1_1)))
def fX7_paceOf (x0 : Int) : Option (Int) := lX7_paceOf_2 x0 FU 0
def fX7_flightOf (x0 : Int) : Option (Int) := bd (fX7_paceOf x0) (fun r_1 => some (2 * r_1))
def fX7_placeOf (x0 : Int) (x1 : Int) : Option (Int) := some (x0 + (100 * x1))
def fX7_cellOf (x0 : Int) (x1 : Int) : Option (Int) := some ((30 * x1) + x0)
def fX1_isCell (P : Ob) (x1 : Int) (x2 : Int) : Option (Int) := bl x1 0 (some 0) (be (P 1 0) x1 (some 0) (bl x2 0 (some 0) (be (P 2 0) x2 (some 0) (some 1))))
def jX1_placeHit_55 (P : Ob) (x1 : Int) (x2 : Int) : Option (Int) := bl x1 0 (some (-1)) (be (P 1 0) x1 (some (-1)) (bl x2 0 (some (-1)) (be (P 2 0) x2 (some (-1)) (some (x1 + (100 * x2))))))
def fX1_placeHit (P : Ob) (x1 : Int) (x2 : Int) : Option (Int) := bl x1 ((P 3 0) - (P 5 0)) (jX1_placeHit_55 P x1 x2) (bl ((P 3 0) + (P 5 0)) x1 (jX1_placeHit_55 P x1 x2) (bl x2 ((P 4 0) - (P 5 0)) (jX1_placeHit_55 P x1 x2) (bl ((P 4 0) + (P 5 0)) x2 (jX1_placeHit_55 P x1 x2) (some (-3)))))
def fX1_highLetBy (P : Ob) (x1 : Int) : Option (Int) := gd (inb x1 10) (some (jmi (P 6 0) (P 19 (ix x1))))
def fX1_steadyDrift (P : Ob) (x1 : Int) (x2 : Int) (x3 : Int) : Option (Int) := gd (inb x1 5) (some (((P 12 (ix x1)) * (jrm x3 10)) * x2))
def fX1_steadyPlace (P : Ob) (x1 : Int) (x2 : Int) (x3 : Int) : Option (Int) := bd (fX1_steadyDrift P x1 x2 x3) (fun r_1 => nm (jdv r_1 100) (fun x4_2 => gd (inb (jdv x3 10) 4) (gd (inb (jdv x3 10) 4) (bd (fX1_placeHit P ((P 3 0) + (x4_2 * (wayX (ix (jdv x3 10))))) ((P 4 0) + (x4_2 * (wayY (ix (jdv x3 10)))))) (fun r_3 => some r_3)))))
def lX1_sizesHitting_6 (P : Ob) (x1 : Int) (x2 : Int) (x3 : Int) : Nat → (Int) → (Int) → Option (Int)
  | 0, _, _ => none
  | n + 1, x4, x5 => be (P 11 0) x5 (some x4) (bd (fX1_steadyPlace P x5 x2 x3) (fun r_1 => bq r_1 x1 (nm (jor x4 (jsl 1 x5)) (fun x4_3 => nm (x5 + 1) (fun x5_4 => lX1_sizesHitting_6 P x1 x2 x3 n x4_3 x5_4))) (nm (x5 + 1) (fun x5_2 => lX1_sizesHitting_6 P x1 x2 x3 n x4 x5_2))))
def fX1_sizesHitting (P : Ob) (x1 : Int) (x2 : Int) (x3 : Int) : Option (Int) := lX1_sizesHitting_6 P x1 x2 x3 FU 0 0
def fX1_isBasin (P : Ob) (x1 : Int) (x2 : Int) : Option (Int) := bd (fX7_isWithin x1 ((P 3 0) - (P 5 0)) ((P 3 0) + (P 5 0))) (fun r_1 => bq r_1 0 (some 0) (bd (fX7_isWithin x2 ((P 4 0) - (P 5 0)) ((P 4 0) + (P 5 0))) (fun r_2 => bq r_2 0 (some 0) (some 1))))
def fX1_tablePlace (P : Ob) (x1 : Int) : Option (Int) := gd (inb x1 8) (gd (inb x1 8) (bd (fX7_placeOf (P 15 (ix x1)) (P 16 (ix x1))) (fun r_1 => some r_1)))
def lX1_hasRoomFor_3 (P : Ob) (x1 : Int) (x2 : Int) (x3 : Int) (kx0 : Option (Int)) : Nat → (Int) → Option (Int)
  | 0, _ => none
  | n + 1, x4 => be (P 14 0) x4 (kx0) (bq x4 x1 (nm (x4 + 1) (fun x4_1 => lX1_hasRoomFor_3 P x1 x2 x3 kx0 n x4_1)) (gd (inb x4 8) (bq (P 15 (ix x4)) x2 (gd (inb x4 8) (bq (P 16 (ix x4)) x3 (some 0) (nm (x4 + 1) (fun x4_3 => lX1_hasRoomFor_3 P x1 x2 x3 kx0 n x4_3)))) (nm (x4 + 1) (fun x4_2 => lX1_hasRoomFor_3 P x1 x2 x3 kx0 n x4_2)))))
def fX1_hasRoomFor (P : Ob) (x1 : Int) (x2 : Int) (x3 : Int) : Option (Int) := lX1_hasRoomFor_3 P x1 x2 x3 (bd (fX1_isBasin P x2 x3) (fun r_4 => bq r_4 0 (some 1) (some 0))) FU 0
def fX1_showsBow (P : Ob) (x1 : Int) (x2 : Int) (x3 : Int) : Option (Int) := gd (inb x3 4) (gd (inb x3 4) (nm ((((P 3 0) - x1) * (wayX (ix x3))) + (((P 4 0) - x2) * (wayY (ix x3)))) (fun x4_1 => gd (inb x3 4) (gd (inb x3 4) (nm ((jab (((P 3 0) - x1) * (wayY (ix x3)))) + (jab (((P 4 0) - x2) * (wayX (ix x3))))) (fun x5_2 => be x4_1 0 (some 0) (bl (jdv x4_1 2) x5_2 (some 0) (some 1))))))))
def lX1_strayFrom_11 (P : Ob) (x2 : Int) (x3 : Int) : Nat → (Int) → (Int) → Option (Int)
  | 0, _, _ => none
  | n + 1, x4, x5 => be (P 11 0) x5 (some x4) (bd (fX1_steadyPlace P x5 x3 x2) (fun r_2 => bq r_2 (-3) (nm (x5 + 1) (fun x5_3 => lX1_strayFrom_11 P x2 x3 n x4 x5_3)) (gd (inb x5 5) (nm (x4 + (P 13 (ix x5))) (fun x4_4 => nm (x5 + 1) (fun x5_5 => lX1_strayFrom_11 P x2 x3 n x4_4 x5_5))))))
def fX1_strayFrom (P : Ob) (x1 : Int) (x2 : Int) : Option (Int) := bd (fX7_flightOf x1) (fun r_1 => lX1_strayFrom_11 P x2 r_1 FU 0 0)
def lX1_addRule_12 (x2 : Int) : Nat → (Int) → (Ob) → Option (Ob)
  | 0, _, _ => none
  | n + 1, x3, P => be 10 x3 (some P) (gd (inb x3 10) (nm (up2 P 19 (ix x3) x2) (fun P_2 => nm (x3 + 1) (fun x3_3 => lX1_addRule_12 x2 n x3_3 P_2))))
def fX1_addRule (P : Ob) (x1 : Int) (x2 : Int) : Option (Ob) := nm (up2 P 18 0 ((P 18 0) + 1)) (fun P_1 => lX1_addRule_12 x2 FU x1 P_1)
