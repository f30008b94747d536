def oX0 (q : Nat → Nat) (P : Ob) : va_E := .inr (0, [vi (P 0 0), vi (P 1 0), vi (P 2 0), vi (P 3 0), vi (P 4 0), vi (P 5 0), vi (P 6 0), vi (P 7 0), .ref (q 8), .ref (q 9), .ref (q 10), .ref (q 11), .ref (q 12), .ref (q 13), .ref (q 14), .ref (q 15), .ref (q 16)])
def wX0 (G : GT) (q : Nat → Nat) (P : Ob) : va_W := [(q 31, oX0 q P), (q 8, aI G 32 (P 8)), (q 9, aI G 32 (P 9)), (q 10, aI G 32 (P 10)), (q 11, aI G 32 (P 11)), (q 12, aI G 5 (P 12)), (q 13, aI G 5 (P 13)), (q 14, aI G 160 (P 14)), (q 15, aI G 160 (P 15)), (q 16, aI G 900 (P 16))]
def oX1 (q : Nat → Nat) (P : Ob) : va_E := .inr (1, [vi (P 0 0), vi (P 1 0), vi (P 2 0), vi (P 3 0), vi (P 4 0), vi (P 5 0), vi (P 6 0), vi (P 7 0), vi (P 8 0), vi (P 9 0), vi (P 10 0), vi (P 11 0), .ref (q 12), .ref (q 13), vi (P 14 0), .ref (q 15), .ref (q 16), .ref (q 17), vi (P 18 0), .ref (q 19)])
def wX1 (G : GT) (q : Nat → Nat) (P : Ob) : va_W := [(q 31, oX1 q P), (q 12, aI G 5 (P 12)), (q 13, aI G 5 (P 13)), (q 15, aI G 8 (P 15)), (q 16, aI G 8 (P 16)), (q 17, aI G 8 (P 17)), (q 19, aI G 10 (P 19))]
def oX2 (q : Nat → Nat) (P : Ob) : va_E := .inr (2, [vi (P 0 0), vi (P 1 0), vi (P 2 0), .ref (q 3)])
def wX2 (G : GT) (q : Nat → Nat) (P : Ob) : va_W := [(q 31, oX2 q P), (q 3, aJ G 60 (P 3))]
def oX4 (q : Nat → Nat) (P : Ob) : va_E := .inr (4, [.ref (q 0), vi (P 1 0), vi (P 2 0), vi (P 3 0), vi (P 4 0)])
def wX4 (G : GT) (q : Nat → Nat) (P : Ob) : va_W := [(q 31, oX4 q P), (q 0, aB G 1600 (P 0))]
def oX6 (q : Nat → Nat) (P : Ob) : va_E := .inr (6, [.ref (q 0)])
def wX6 (G : GT) (q : Nat → Nat) (P : Ob) : va_W := [(q 31, oX6 q P), (q 0, aI G 900 (P 0))]
def oX8 (q : Nat → Nat) (P : Ob) : va_E := .inr (8, [vi (P 0 0), .ref (q 1), .ref (q 2), .ref (q 3), .ref (q 4), vi (P 5 0), .ref (q 6), vi (P 7 0), vi (P 8 0), vi (P 9 0), vi (P 10 0), vi (P 11 0), vi (P 12 0), vi (P 13 0), .ref (q 14), .ref (q 15), .ref (q 16), .ref (q 17), vi (P 18 0), vi (P 19 0), vi (P 20 0), vi (P 21 0), vi (P 22 0), .ref (q 23), vl (P 24 0), .ref (q 25), .ref (q 26), .ref (q 27), .ref (q 28)])
def wX8 (G : GT) (q : Nat → Nat) (P : Ob) : va_W := [(q 31, oX8 q P), (q 1, aI G 1419 (P 1)), (q 2, aI G 4257 (P 2)), (q 3, aZ G 3 (P 3)), (q 4, aB G 1600 (P 4)), (q 6, aI G 5 (P 6)), (q 14, aI G 1419 (P 14)), (q 15, aI G 1419 (P 15)), (q 16, aI G 6 (P 16)), (q 17, aI G 900 (P 17)), (q 23, aZ G 900 (P 23)), (q 25, aI G 4 (P 25)), (q 26, aI G 4 (P 26)), (q 27, aJ G 240 (P 27)), (q 28, aJ G 60 (P 28))]
def oX3 (qp qa : Nat → Nat) : va_E := .inr (3, [.ref (qp 31), .ref (qa 31)])
def oX5 (qy qp : Nat → Nat) (L : Ob) : va_E := .inr (5, [.ref (qy 31), .ref (qp 31), vi (L 2 0), vi (L 3 0), vi (L 4 0), vi (L 5 0), vi (L 6 0)])
def oX7 (q : Nat → Nat → Nat) : va_E := .inr (7, [.ref (q 0 31), .ref (q 1 31), .ref (q 12 31), .ref (q 13 31), .ref (q 11 4), .ref (q 11 5), .ref (q 10 31)])
def aR (G : GT) (q : Nat → Nat → Nat) : va_E := .inl (G.2.1 4, 4, .inr (.inr (.inr (.inr (fun j => some (q (6 + j) 31))))))
abbrev W_0 : va_W := []
def W_P (G : GT) (q : Nat → Nat) (P : Ob) : va_W := wX1 G q P
def W_A (G : GT) (q : Nat → Nat) (A : Ob) : va_W := wX0 G q A
def W_AP (G : GT) (qa qp : Nat → Nat) (A P : Ob) : va_W := wX0 G qa A ++ wX1 G qp P
def W_PP (G : GT) (q q2 : Nat → Nat) (P P2 : Ob) : va_W := wX1 G q P ++ wX1 G q2 P2
def W_AA (G : GT) (q q2 : Nat → Nat) (A A2 : Ob) : va_W := wX0 G q A ++ wX0 G q2 A2
def W_S (G : GT) (qs qp qa : Nat → Nat) (P A : Ob) : va_W := (qs 31, oX3 qp qa) :: (wX1 G qp P ++ wX0 G qa A)
def W_SS (G : GT) (qs qp qa rs rp ra : Nat → Nat) (P A P2 A2 : Ob) : va_W := W_S G qs qp qa P A ++ W_S G rs rp ra P2 A2
def W_R (G : GT) (q : Nat → Nat) (R : Ob) : va_W := wX2 G q R
def W_SR (G : GT) (qs qp qa qr : Nat → Nat) (P A R : Ob) : va_W := W_S G qs qp qa P A ++ wX2 G qr R
def W_Y (G : GT) (q : Nat → Nat) (Y : Ob) : va_W := wX4 G q Y
def W_L (G : GT) (ql qy qp : Nat → Nat) (L Y P : Ob) : va_W := (ql 31, oX5 qy qp L) :: (wX4 G qy Y ++ wX1 G qp P)
def W_K (G : GT) (qk qs qp qa : Nat → Nat) (K P A : Ob) : va_W := wX6 G qk K ++ W_S G qs qp qa P A
def W_T (G : GT) (q : Nat → Nat → Nat) (T : Nat → Ob) : va_W := (q 11 31, oX7 q) :: (q 11 5, aR G q) :: (wX4 G (q 0) (T 0) ++ ((q 1 31, oX5 (q 0) (q 4) (T 1)) :: (W_S G (q 12) (q 2) (q 3) (T 2) (T 3) ++ (W_S G (q 13) (q 4) (q 5) (T 4) (T 5) ++ (wX2 G (q 6) (T 6) ++ (wX2 G (q 7) (T 7) ++ (wX2 G (q 8) (T 8) ++ (wX2 G (q 9) (T 9) ++ wX6 G (q 10) (T 10)))))))))
def W_M (G : GT) (q : Nat → Nat) (M : Ob) : va_W := wX8 G q M
def wpick (ws : va_W) (is : List Nat) : va_W := is.filterMap (fun i => ws[i]?)
def FU : Nat := 5000
theorem row_o {G : GT} {q : Nat → Nat → Nat} {T : Nat → Ob} {j : Nat} (hj : j < 4) : (W_T G q T)[41 + 2 * j]? = some (q (6 + j) 31, oX2 (q (6 + j)) (T (6 + j))) := by
  rcases (show j = 0 ∨ j = 1 ∨ j = 2 ∨ j = 3 by omega) with rfl | rfl | rfl | rfl <;> rfl
theorem row_a {G : GT} {q : Nat → Nat → Nat} {T : Nat → Ob} {j : Nat} (hj : j < 4) : (W_T G q T)[42 + 2 * j]? = some (q (6 + j) 3, aJ G 60 (T (6 + j) 3)) := by
  rcases (show j = 0 ∨ j = 1 ∨ j = 2 ∨ j = 3 by omega) with rfl | rfl | rfl | rfl <;> rfl
