/-! keep and back: their walks -/
def rX7_img : Room := { frames := 3, cells := 0, slots := 0, locals := 102 }
def rX7_imgN : Room := { frames := 5, cells := 18, slots := 1441, locals := 103 }
theorem mX7_keep : MV yX7_keep cX7_keep 2 (some .int) 1 := ⟨cd_X7_keep, in_X7, ⟨⟨by decide, by decide⟩, by decide +kernel⟩, im_X7_keep, se_X7_keep⟩
theorem mX7_back : MV yX7_back cX7_back 2 (some .int) 1 := ⟨cd_X7_back, in_X7, ⟨⟨by decide, by decide⟩, by decide +kernel⟩, im_X7_back, se_X7_back⟩
section
variable {l : Launch} {G : GT} {q : Nat → Nat → Nat} {J : Nat → Bool} {T : Nat → Ob} {k : Nat}
theorem imR_t (hk : k < 3) (h : J k = true) : va_rf (imR q J (ix (k : Int))) = .ref (q (14 + 3 * k) 31) := by
  rw [ix_nat (by omega)]
  unfold imR
  rw [h]
  rfl
theorem imR_f (hk : k < 3) (h : J k = false) : va_rf (imR q J (ix (k : Int))) = .null := by
  rw [ix_nat (by omega)]
  unfold imR
  rw [h]
  rfl
theorem in3 (hk : k < 3) : inb (k : Int) 3 = true := inb_t (by omega) (by omega) (by omega)
theorem with3 (hk : k < 3) : bd (fX7_isWithin (k : Int) 0 2) (fun v => some v) = some 1 := by
  rw [within7r ⟨by omega, by omega⟩ ⟨by omega, by omega⟩ ⟨by omega, by omega⟩, bd_some, if_pos (by omega)]
theorem with0 {x : Int} (hx : R32 x) (h : ¬ (0 ≤ x ∧ x ≤ 2)) : bd (fX7_isWithin x 0 2) (fun v => some v) = some 0 := by
  rw [within7r hx ⟨by omega, by omega⟩ ⟨by omega, by omega⟩, bd_some, if_neg h]
theorem b10 : bq 1 0 (some (0 : Nat)) (some 1) = some 1 := bq_f (by decide) (by decide) (by decide) (by decide) (by decide)
set_option maxHeartbeats 4000000 in
set_option maxRecDepth 100000 in
theorem kX7_back_bad {x : Int} (hx : R32 x) (h : ¬ (0 ≤ x ∧ x ≤ 2)) : CTR l G yX7_back cX7_back 2 (some .int) rX7_img [.ref (q 11 31), vi x] (W_X G q J T) (fun W => W.Perm (W_X G q J T)) (some (vi (-2))) := by
  refine CTR.of (by decide) (Nat.le_of_ble_eq_true rfl) rfl (fun κ _ C => ?_)
  refine X.iload_n C dX7_back_0 rfl 1 rfl ?_
  refine X.iconst C dX7_back_1 ?_
  refine X.iconst C dX7_back_2 ?_
  refine X.callSi (As := [vi x, vi 0, vi 2]) (rest := []) (g := fun v => v) (W1 := fun _ => W_0) (ws2 := fun _ => W_X G q J T) C (with0 hx h) dX7_back_3 ml_X7_93 mX7_isWithin (fun v hv => kX7_isWithin x 0 2 v hv) (fun _ => Ln.nil _) rfl rfl rfl rfl rfl rfl (fun v h => ?_)
  cases h
  refine X.if_ne (T := some 1) (F := some 0) (r := some (0 : Nat)) (tgt := 12) C (bq_t rfl) dX7_back_6 (by decide) (fun c => absurd c (by decide)) (fun _ => ?_)
  refine X.bipush C dX7_back_9 (by decide) ?_
  exact X.iretR C (List.Perm.refl _) dX7_back_11 (Nat.zero_le _) (Nat.zero_le _)
set_option maxHeartbeats 4000000 in
set_option maxRecDepth 100000 in
theorem kX7_back_none (hk : k < 3) (hJ : J k = false) : CTR l G yX7_back cX7_back 2 (some .int) rX7_img [.ref (q 11 31), vi (k : Int)] (W_X G q J T) (fun W => W.Perm (W_X G q J T)) (some (vi (-6))) := by
  refine CTR.of (by decide) (Nat.le_of_ble_eq_true rfl) rfl (fun κ _ C => ?_)
  refine X.iload_n C dX7_back_0 rfl 1 rfl ?_
  refine X.iconst C dX7_back_1 ?_
  refine X.iconst C dX7_back_2 ?_
  refine X.callSi (As := [vi (k : Int), vi 0, vi 2]) (rest := []) (g := fun v => v) (W1 := fun _ => W_0) (ws2 := fun _ => W_X G q J T) C (with3 hk) dX7_back_3 ml_X7_93 mX7_isWithin (fun v hv => kX7_isWithin (k : Int) 0 2 v hv) (fun _ => Ln.nil _) rfl rfl rfl rfl rfl rfl (fun v h => ?_)
  cases h
  refine X.if_ne (T := some 1) (F := some 0) (r := some (1 : Nat)) (tgt := 12) C b10 dX7_back_6 (by decide) (fun _ => ?_) (fun c => absurd c (by decide))
  refine X.aload_n C dX7_back_12 rfl 0 rfl ?_
  refine X.get C dX7_back_13 lay_X7 0 rfl rfl 4 (by decide) fl_X7_39 rfl rfl ?_
  refine X.iload_n C dX7_back_16 rfl 1 rfl ?_
  refine X.aldQ (j := 5) (n := 3) (rf := imR q J) C (in3 hk) dX7_back_17 51 rfl rfl ?_
  rw [imR_f hk hJ]
  refine X.ifnnN C dX7_back_18 ?_
  refine X.bipush C dX7_back_21 (by decide) ?_
  exact X.iretR C (List.Perm.refl _) dX7_back_23 (Nat.zero_le _) (Nat.zero_le _)
theorem back_perm {P' A' : Ob} (hk : k < 3) (hJ : J k = true) : (W_SS G (q 12) (q 2) (q 3) (q (14 + 3 * k)) (q (15 + 3 * k)) (q (16 + 3 * k)) P' A' (T (15 + 3 * k)) (T (16 + 3 * k)) ++ (RT G q T ++ ((q 11 4, aQ (G.2.1 5) 3 (imR q J)) :: oth G q J T k))).Perm (W_X G q J (upO (upO T 2 P') 3 A')) := by
  have h := (pX' (G := G) (q := q) (J := J) (T := upO (upO T 2 P') 3 A') hk).symm
  rw [im_t hJ] at h
  rcases (show k = 0 ∨ k = 1 ∨ k = 2 by omega) with rfl | rfl | rfl <;> exact h
set_option maxHeartbeats 4000000 in
set_option maxRecDepth 100000 in
theorem kX7_back_ok {v : Ob × Ob} (hk : k < 3) (hJ : J k = true) (hc : fX3_copyFrom (T 2) (T 3) (T (15 + 3 * k)) (T (16 + 3 * k)) = some v) : CTR l G yX7_back cX7_back 2 (some .int) rX7_img [.ref (q 11 31), vi (k : Int)] (W_X G q J T) (fun W => W.Perm (W_X G q J (upO (upO T 2 v.1) 3 v.2))) (some (vi 0)) := by
  refine CTR.of (by decide) (Nat.le_of_ble_eq_true rfl) rfl (fun κ _ C => ?_)
  refine X.iload_n C dX7_back_0 rfl 1 rfl ?_
  refine X.iconst C dX7_back_1 ?_
  refine X.iconst C dX7_back_2 ?_
  refine X.callSi (As := [vi (k : Int), vi 0, vi 2]) (rest := []) (g := fun v => v) (W1 := fun _ => W_0) (ws2 := fun _ => W_X G q J T) C (with3 hk) dX7_back_3 ml_X7_93 mX7_isWithin (fun v hv => kX7_isWithin (k : Int) 0 2 v hv) (fun _ => Ln.nil _) rfl rfl rfl rfl rfl rfl (fun v h => ?_)
  cases h
  refine X.if_ne (T := some 1) (F := some 0) (r := some (1 : Nat)) (tgt := 12) C b10 dX7_back_6 (by decide) (fun _ => ?_) (fun c => absurd c (by decide))
  refine X.aload_n C dX7_back_12 rfl 0 rfl ?_
  refine X.get C dX7_back_13 lay_X7 0 rfl rfl 4 (by decide) fl_X7_39 rfl rfl ?_
  refine X.iload_n C dX7_back_16 rfl 1 rfl ?_
  refine X.aldQ (j := 5) (n := 3) (rf := imR q J) C (in3 hk) dX7_back_17 51 rfl rfl ?_
  rw [imR_t hk hJ]
  refine X.ifnn (tgt := 24) C dX7_back_18 (by decide) ?_
  refine X.aload_n C dX7_back_24 rfl 0 rfl ?_
  refine X.get C dX7_back_25 lay_X7 0 rfl rfl 2 (by decide) fl_X7_19 rfl rfl ?_
  refine X.aload_n C dX7_back_28 rfl 0 rfl ?_
  refine X.get C dX7_back_29 lay_X7 0 rfl rfl 4 (by decide) fl_X7_39 rfl rfl ?_
  refine X.iload_n C dX7_back_32 rfl 1 rfl ?_
  refine X.aldQ (j := 5) (n := 3) (rf := imR q J) C (in3 hk) dX7_back_33 51 rfl rfl ?_
  rw [imR_t hk hJ]
  refine X.permP (pX' hk) ?_
  rw [im_t hJ]
  refine X.callV0 (q0 := 0) (As := [.ref (q (14 + 3 * k) 31)]) (rest := []) (ws2 := W_SS G (q 12) (q 2) (q 3) (q (14 + 3 * k)) (q (15 + 3 * k)) (q (16 + 3 * k)) v.1 v.2 (T (15 + 3 * k)) (T (16 + 3 * k)) ++ (RT G q T ++ ((q 11 4, aQ (G.2.1 5) 3 (imR q J)) :: oth G q J T k))) C dX7_back_34 ml_X7_365 mX3_copyFrom (kX3_copyFrom (q 12) (q 2) (q 3) (q (14 + 3 * k)) (q (15 + 3 * k)) (q (16 + 3 * k)) (T 2) (T 3) (T (15 + 3 * k)) (T (16 + 3 * k)) v hc) (Ln.head _ _ _) rfl rfl rfl rfl (Nat.zero_le _) (RM.of rfl) ?_
  refine X.iconst C dX7_back_37 ?_
  exact X.iretR C (back_perm hk hJ) dX7_back_38 (Nat.zero_le _) (Nat.zero_le _)
set_option maxHeartbeats 4000000 in
set_option maxRecDepth 100000 in
theorem kX7_keep_bad {x : Int} (hx : R32 x) (h : ¬ (0 ≤ x ∧ x ≤ 2)) : CTR l G yX7_keep cX7_keep 2 (some .int) rX7_img [.ref (q 11 31), vi x] (W_X G q J T) (fun W => W.Perm (W_X G q J T)) (some (vi (-2))) := by
  refine CTR.of (by decide) (Nat.le_of_ble_eq_true rfl) rfl (fun κ _ C => ?_)
  refine X.iload_n C dX7_keep_0 rfl 1 rfl ?_
  refine X.iconst C dX7_keep_1 ?_
  refine X.iconst C dX7_keep_2 ?_
  refine X.callSi (As := [vi x, vi 0, vi 2]) (rest := []) (g := fun v => v) (W1 := fun _ => W_0) (ws2 := fun _ => W_X G q J T) C (with0 hx h) dX7_keep_3 ml_X7_93 mX7_isWithin (fun v hv => kX7_isWithin x 0 2 v hv) (fun _ => Ln.nil _) rfl rfl rfl rfl rfl rfl (fun v h => ?_)
  cases h
  refine X.if_ne (T := some 1) (F := some 0) (r := some (0 : Nat)) (tgt := 12) C (bq_t rfl) dX7_keep_6 (by decide) (fun c => absurd c (by decide)) (fun _ => ?_)
  refine X.bipush C dX7_keep_9 (by decide) ?_
  exact X.iretR C (List.Perm.refl _) dX7_keep_11 (Nat.zero_le _) (Nat.zero_le _)
theorem keep_perm {P' A' : Ob} (hk : k < 3) (hJ : J k = true) : (W_SS G (q (14 + 3 * k)) (q (15 + 3 * k)) (q (16 + 3 * k)) (q 12) (q 2) (q 3) P' A' (T 2) (T 3) ++ (RT G q T ++ ((q 11 4, aQ (G.2.1 5) 3 (imR q J)) :: oth G q J T k))).Perm (W_X G q J (upO (upO T (15 + 3 * k) P') (16 + 3 * k) A')) := by
  have h := (pX (G := G) (q := q) (J := J) (T := upO (upO T (15 + 3 * k) P') (16 + 3 * k) A') hk).symm
  rw [im_t hJ, upO_s, upO_n (show 15 + 3 * k ≠ 16 + 3 * k by omega), upO_s] at h
  rcases (show k = 0 ∨ k = 1 ∨ k = 2 by omega) with rfl | rfl | rfl <;> exact h
set_option maxHeartbeats 4000000 in
set_option maxRecDepth 100000 in
theorem keep_tail {κ : Kx} {rm : Room} {a b : Nat} {v : Ob × Ob} {post : va_W → Prop} (C : Cx κ G yX7_keep cX7_keep (some .int) 2 rm) (hk : k < 3) (hJ : J k = true) (hc : fX3_copyFrom (T (15 + 3 * k)) (T (16 + 3 * k)) (T 2) (T 3) = some v) (hR : RM rm rX3_copyFrom 2 a b) (ha : a ≤ rm.cells) (hb : b ≤ rm.slots) (hp : ∀ W : va_W, W.Perm (W_X G q J (upO (upO T (15 + 3 * k) v.1) (16 + 3 * k) v.2)) → post W) : X κ G 2 (W_X G q J T) 34 [(0, .ref (q 11 31)), (1, vi (k : Int))] [] a b (QMR κ G post (some (vi 0)) rm.cells rm.slots) := by
  refine X.aload_n C dX7_keep_34 rfl 0 rfl ?_
  refine X.get C dX7_keep_35 lay_X7 0 rfl rfl 4 (by decide) fl_X7_39 rfl rfl ?_
  refine X.iload_n C dX7_keep_38 rfl 1 rfl ?_
  refine X.aldQ (j := 5) (n := 3) (rf := imR q J) C (in3 hk) dX7_keep_39 51 rfl rfl ?_
  rw [imR_t hk hJ]
  refine X.aload_n C dX7_keep_40 rfl 0 rfl ?_
  refine X.get C dX7_keep_41 lay_X7 0 rfl rfl 2 (by decide) fl_X7_19 rfl rfl ?_
  refine X.permP (pX hk) ?_
  rw [im_t hJ]
  refine X.callV0 (q0 := 0) (As := [.ref (q 12 31)]) (rest := []) (ws2 := W_SS G (q (14 + 3 * k)) (q (15 + 3 * k)) (q (16 + 3 * k)) (q 12) (q 2) (q 3) v.1 v.2 (T 2) (T 3) ++ (RT G q T ++ ((q 11 4, aQ (G.2.1 5) 3 (imR q J)) :: oth G q J T k))) C dX7_keep_44 ml_X7_365 mX3_copyFrom (kX3_copyFrom (q (14 + 3 * k)) (q (15 + 3 * k)) (q (16 + 3 * k)) (q 12) (q 2) (q 3) (T (15 + 3 * k)) (T (16 + 3 * k)) (T 2) (T 3) v hc) (Ln.head _ _ _) rfl rfl rfl rfl (Nat.zero_le _) hR ?_
  refine X.iconst C dX7_keep_47 ?_
  exact X.iretR C (hp _ (keep_perm hk hJ)) dX7_keep_48 ha hb
set_option maxHeartbeats 4000000 in
set_option maxRecDepth 100000 in
theorem kX7_keep_old {v : Ob × Ob} (hk : k < 3) (hJ : J k = true) (hc : fX3_copyFrom (T (15 + 3 * k)) (T (16 + 3 * k)) (T 2) (T 3) = some v) : CTR l G yX7_keep cX7_keep 2 (some .int) rX7_img [.ref (q 11 31), vi (k : Int)] (W_X G q J T) (fun W => W.Perm (W_X G q J (upO (upO T (15 + 3 * k) v.1) (16 + 3 * k) v.2))) (some (vi 0)) := by
  refine CTR.of (by decide) (Nat.le_of_ble_eq_true rfl) rfl (fun κ _ C => ?_)
  refine X.iload_n C dX7_keep_0 rfl 1 rfl ?_
  refine X.iconst C dX7_keep_1 ?_
  refine X.iconst C dX7_keep_2 ?_
  refine X.callSi (As := [vi (k : Int), vi 0, vi 2]) (rest := []) (g := fun v => v) (W1 := fun _ => W_0) (ws2 := fun _ => W_X G q J T) C (with3 hk) dX7_keep_3 ml_X7_93 mX7_isWithin (fun v hv => kX7_isWithin (k : Int) 0 2 v hv) (fun _ => Ln.nil _) rfl rfl rfl rfl rfl rfl (fun v h => ?_)
  cases h
  refine X.if_ne (T := some 1) (F := some 0) (r := some (1 : Nat)) (tgt := 12) C b10 dX7_keep_6 (by decide) (fun _ => ?_) (fun c => absurd c (by decide))
  refine X.aload_n C dX7_keep_12 rfl 0 rfl ?_
  refine X.get C dX7_keep_13 lay_X7 0 rfl rfl 4 (by decide) fl_X7_39 rfl rfl ?_
  refine X.iload_n C dX7_keep_16 rfl 1 rfl ?_
  refine X.aldQ (j := 5) (n := 3) (rf := imR q J) C (in3 hk) dX7_keep_17 51 rfl rfl ?_
  rw [imR_t hk hJ]
  refine X.ifnn (tgt := 34) C dX7_keep_18 (by decide) ?_
  exact keep_tail C hk hJ hc (RM.of rfl) (Nat.zero_le _) (Nat.zero_le _) (fun W h => h)
/-- the addresses behind a new image -/
def qN (q : Nat → Nat → Nat) (k : Nat) (qs qp qa : Nat → Nat) : Nat → Nat → Nat := fun i => cond (Nat.beq i (14 + 3 * k)) qs (cond (Nat.beq i (15 + 3 * k)) qp (cond (Nat.beq i (16 + 3 * k)) qa (q i)))
def jN (J : Nat → Bool) (k : Nat) : Nat → Bool := fun i => cond (Nat.beq i k) true (J i)
theorem jN_s : jN J k k = true := by
  unfold jN
  rw [show Nat.beq k k = true from Nat.beq_refl k]
  rfl
theorem jN_n {i : Nat} (h : i ≠ k) : jN J k i = J i := by
  unfold jN
  rw [show Nat.beq i k = false from by
    cases e : Nat.beq i k with
    | false => rfl
    | true => exact absurd (Nat.eq_of_beq_eq_true e) h]
  rfl
def R3 (G : GT) (q : Nat → Nat → Nat) (T : Nat → Ob) : va_W := wX4 G (q 0) (T 0) ++ ((q 1 31, oX5 (q 0) (q 4) (T 1)) :: (W_S G (q 12) (q 2) (q 3) (T 2) (T 3) ++ (W_S G (q 13) (q 4) (q 5) (T 4) (T 5) ++ (wX2 G (q 6) (T 6) ++ (wX2 G (q 7) (T 7) ++ (wX2 G (q 8) (T 8) ++ (wX2 G (q 9) (T 9) ++ wX6 G (q 10) (T 10))))))))
theorem new_perm {qs qp qa : Nat → Nat} {P A : Ob} (hk : k < 3) (hJ : J k = false) : ((q 11 4, aQ (G.2.1 5) 3 (imR (qN q k qs qp qa) (jN J k))) :: (q 11 5, aR G (qN q k qs qp qa)) :: (W_S G qs qp qa P A ++ ((q 11 31, oX7 q) :: (R3 G q T ++ (im G q J T 0 ++ (im G q J T 1 ++ im G q J T 2)))))).Perm (W_X G (qN q k qs qp qa) (jN J k) (upO (upO T (15 + 3 * k) P) (16 + 3 * k) A)) := by
  rcases (show k = 0 ∨ k = 1 ∨ k = 2 by omega) with rfl | rfl | rfl
  · rw [im_f hJ, show W_X G (qN q 0 qs qp qa) (jN J 0) (upO (upO T (15 + 3 * 0) P) (16 + 3 * 0) A) = ((q 11 31, oX7 q) :: (q 11 5, aR G (qN q 0 qs qp qa)) :: R3 G q T) ++ ((q 11 4, aQ (G.2.1 5) 3 (imR (qN q 0 qs qp qa) (jN J 0))) :: (W_S G qs qp qa P A ++ (im G q J T 1 ++ im G q J T 2))) from rfl]
    exact perm_c (fun p => by simp only [List.countP_append, List.countP_cons, List.countP_nil]; omega)
  · rw [im_f hJ, show W_X G (qN q 1 qs qp qa) (jN J 1) (upO (upO T (15 + 3 * 1) P) (16 + 3 * 1) A) = ((q 11 31, oX7 q) :: (q 11 5, aR G (qN q 1 qs qp qa)) :: R3 G q T) ++ ((q 11 4, aQ (G.2.1 5) 3 (imR (qN q 1 qs qp qa) (jN J 1))) :: (im G q J T 0 ++ (W_S G qs qp qa P A ++ im G q J T 2))) from rfl]
    exact perm_c (fun p => by simp only [List.countP_append, List.countP_cons, List.countP_nil]; omega)
  · rw [im_f hJ, show W_X G (qN q 2 qs qp qa) (jN J 2) (upO (upO T (15 + 3 * 2) P) (16 + 3 * 2) A) = ((q 11 31, oX7 q) :: (q 11 5, aR G (qN q 2 qs qp qa)) :: R3 G q T) ++ ((q 11 4, aQ (G.2.1 5) 3 (imR (qN q 2 qs qp qa) (jN J 2))) :: (im G q J T 0 ++ (im G q J T 1 ++ W_S G qs qp qa P A))) from rfl]
    exact perm_c (fun p => by simp only [List.countP_append, List.countP_cons, List.countP_nil]; omega)
theorem aR_up {qs qp qa : Nat → Nat} : ∀ j, j < 4 → (fun j => some (q (6 + j) 31)) j = (fun j => some (qN q k qs qp qa (6 + j) 31)) j := by
  intro j hj
  have nb : ∀ x y : Nat, x ≠ y → Nat.beq x y = false := fun x y h => by
    cases e : Nat.beq x y with
    | false => rfl
    | true => exact absurd (Nat.eq_of_beq_eq_true e) h
  show some (q (6 + j) 31) = some (qN q k qs qp qa (6 + j) 31)
  unfold qN
  rw [nb (6 + j) (14 + 3 * k) (by omega), nb (6 + j) (15 + 3 * k) (by omega), nb (6 + j) (16 + 3 * k) (by omega)]
  rfl
theorem imR_up {qs qp qa : Nat → Nat} (hk : k < 3) : ∀ j, j < 3 → va_up (imR q J) (ix (k : Int)) (some (qs 31)) j = imR (qN q k qs qp qa) (jN J k) j := by
  intro j hj
  rw [ix_nat (by omega)]
  by_cases e : j = k
  · subst e
    rw [va_up_self]
    unfold imR
    rw [jN_s]
    show some (qs 31) = some (qN q j qs qp qa (14 + 3 * j) 31)
    unfold qN
    rw [show Nat.beq (14 + 3 * j) (14 + 3 * j) = true from Nat.beq_refl _]
    rfl
  · rw [va_up_ne _ _ e]
    unfold imR
    rw [jN_n e]
    rcases (show k = 0 ∨ k = 1 ∨ k = 2 by omega) with rfl | rfl | rfl <;> rcases (show j = 0 ∨ j = 1 ∨ j = 2 by omega) with rfl | rfl | rfl <;> first | rfl | exact absurd rfl e
set_option maxHeartbeats 4000000 in
set_option maxRecDepth 100000 in
theorem kX7_keep_new {v : Ob × Ob} (hk : k < 3) (hJ : J k = false) (hc : fX3_copyFrom plan0 air0 (T 2) (T 3) = some v) : CTR l G yX7_keep cX7_keep 2 (some .int) rX7_imgN [.ref (q 11 31), vi (k : Int)] (W_X G q J T) (fun W => ∃ qs qp qa : Nat → Nat, W.Perm (W_X G (qN q k qs qp qa) (jN J k) (upO (upO T (15 + 3 * k) v.1) (16 + 3 * k) v.2))) (some (vi 0)) := by
  refine CTR.of (by decide) (Nat.le_of_ble_eq_true rfl) rfl (fun κ _ C => ?_)
  refine X.iload_n C dX7_keep_0 rfl 1 rfl ?_
  refine X.iconst C dX7_keep_1 ?_
  refine X.iconst C dX7_keep_2 ?_
  refine X.callSi (As := [vi (k : Int), vi 0, vi 2]) (rest := []) (g := fun v => v) (W1 := fun _ => W_0) (ws2 := fun _ => W_X G q J T) C (with3 hk) dX7_keep_3 ml_X7_93 mX7_isWithin (fun v hv => kX7_isWithin (k : Int) 0 2 v hv) (fun _ => Ln.nil _) rfl rfl rfl rfl rfl rfl (fun v h => ?_)
  cases h
  refine X.if_ne (T := some 1) (F := some 0) (r := some (1 : Nat)) (tgt := 12) C b10 dX7_keep_6 (by decide) (fun _ => ?_) (fun c => absurd c (by decide))
  refine X.aload_n C dX7_keep_12 rfl 0 rfl ?_
  refine X.get C dX7_keep_13 lay_X7 0 rfl rfl 4 (by decide) fl_X7_39 rfl rfl ?_
  refine X.iload_n C dX7_keep_16 rfl 1 rfl ?_
  refine X.aldQ (j := 5) (n := 3) (rf := imR q J) C (in3 hk) dX7_keep_17 51 rfl rfl ?_
  rw [imR_f hk hJ]
  refine X.ifnnN C dX7_keep_18 ?_
  refine X.aload_n C dX7_keep_21 rfl 0 rfl ?_
  refine X.get C dX7_keep_22 lay_X7 0 rfl rfl 4 (by decide) fl_X7_39 rfl rfl ?_
  refine X.iload_n C dX7_keep_25 rfl 1 rfl ?_
  refine X.newO (ci := 3) (fs := [.null, .null]) C dX7_keep_26 lay_X3 tyX3_ok kl_X7_16 nw_X3 in_X3 rfl (fun j hj => by
    rcases (show j = 0 ∨ j = 1 by omega) with rfl | rfl <;> rfl) (Nat.le_of_ble_eq_true rfl) (Nat.le_of_ble_eq_true rfl) (fun p => ?_)
  refine X.dup C dX7_keep_29 rfl ?_
  refine X.callINT (As := []) (rest := [.ref p, vi (k : Int), .ref (q 11 4)]) C dX7_keep_30 mn_X7_18 mX3_init (kX3_init p) rfl rfl rfl rfl (fun W1 hW1 => ?_)
  obtain ⟨qs, qp, qa, hq, hp⟩ := hW1
  subst hq
  refine X.permP (List.Perm.append_left _ hp) ?_
  refine X.permP (ws2 := (q 11 5, aR G q) :: (q 11 4, aQ (G.2.1 5) 3 (imR q J)) :: (W_S G qs qp qa plan0 air0 ++ ((q 11 31, oX7 q) :: (R3 G q T ++ (im G q J T 0 ++ (im G q J T 1 ++ im G q J T 2)))))) (by
    rw [show W_X G q J T = ((q 11 31, oX7 q) :: (q 11 5, aR G q) :: R3 G q T) ++ ((q 11 4, aQ (G.2.1 5) 3 (imR q J)) :: (im G q J T 0 ++ (im G q J T 1 ++ im G q J T 2))) from rfl]
    exact perm_c (fun p => by simp only [List.countP_append, List.countP_cons, List.countP_nil]; omega)) ?_
  refine X.eqw (ws2 := (q 11 5, aQ (G.2.1 4) 4 (fun j => some (q (6 + j) 31))) :: (q 11 4, aQ (G.2.1 5) 3 (imR q J)) :: (W_S G qs qp qa plan0 air0 ++ ((q 11 31, oX7 q) :: (R3 G q T ++ (im G q J T 0 ++ (im G q J T 1 ++ im G q J T 2)))))) rfl ?_
  refine X.cellQ (rf2 := fun j => some (qN q k qs qp qa (6 + j) 31)) aR_up ?_
  refine X.permP (List.Perm.swap _ _ _) ?_
  refine X.astQ (cr := (RX3, TX3, 2)) (ci := 3) (j := 5) (ws2 := (q 11 4, aQ (G.2.1 5) 3 (va_up (imR q J) (ix (k : Int)) (some (qs 31)))) :: (q 11 5, aR G (qN q k qs qp qa)) :: (W_S G qs qp qa plan0 air0 ++ ((q 11 31, oX7 q) :: (R3 G q T ++ (im G q J T 0 ++ (im G q J T 1 ++ im G q J T 2)))))) C (in3 hk) dX7_keep_33 0 2 rfl rfl rfl rfl rfl ?_
  refine X.cellQ (rf2 := imR (qN q k qs qp qa) (jN J k)) (imR_up hk) ?_
  refine X.permP (new_perm hk hJ) ?_
  have e11 : qN q k qs qp qa 11 31 = q 11 31 := by
    rcases (show k = 0 ∨ k = 1 ∨ k = 2 by omega) with rfl | rfl | rfl <;> rfl
  have t2 : upO (upO T (15 + 3 * k) plan0) (16 + 3 * k) air0 2 = T 2 := by rw [upO_n (by omega), upO_n (by omega)]
  have t3 : upO (upO T (15 + 3 * k) plan0) (16 + 3 * k) air0 3 = T 3 := by rw [upO_n (by omega), upO_n (by omega)]
  have t15 : upO (upO T (15 + 3 * k) plan0) (16 + 3 * k) air0 (15 + 3 * k) = plan0 := by rw [upO_n (by omega), upO_s]
  have t16 : upO (upO T (15 + 3 * k) plan0) (16 + 3 * k) air0 (16 + 3 * k) = air0 := upO_s
  rw [← e11]
  refine keep_tail C hk jN_s (v := v) (by rw [t2, t3, t15, t16]; exact hc) (RM.of rfl) (Nat.le_of_ble_eq_true rfl) (Nat.le_of_ble_eq_true rfl) (fun W h => ⟨qs, qp, qa, ?_⟩)
  rw [show upO (upO (upO (upO T (15 + 3 * k) plan0) (16 + 3 * k) air0) (15 + 3 * k) v.1) (16 + 3 * k) v.2 = upO (upO T (15 + 3 * k) v.1) (16 + 3 * k) v.2 from by
    funext i
    by_cases h1 : i = 16 + 3 * k
    · rw [h1, upO_s, upO_s]
    · rw [upO_n h1, upO_n h1]
      by_cases h2 : i = 15 + 3 * k
      · rw [h2, upO_s, upO_s]
      · rw [upO_n h2, upO_n h2, upO_n h1, upO_n h2]] at h
  exact h
end
