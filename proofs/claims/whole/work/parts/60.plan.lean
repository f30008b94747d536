theorem ln_0_0__n : Ln W_0 W_0 W_0 W_0 := Ln.of [] [] [] (wpick W_0 []) rfl rfl rfl rfl (by decide) rfl rfl
theorem ln_P_P_p_n {G : GT} {q : Nat → Nat} {P : Ob} : Ln (W_P G q P) (W_P G q P) (W_P G q P) (W_P G q P) := Ln.of [0, 1, 2, 3, 4, 5, 6] [] [0, 1, 2, 3, 4, 5, 6] (wpick (W_P G q P) []) rfl rfl rfl rfl (by decide) rfl rfl
theorem ln_P_0__n {G : GT} {q : Nat → Nat} {P : Ob} : Ln (W_P G q P) W_0 W_0 (W_P G q P) := Ln.of [] [0, 1, 2, 3, 4, 5, 6] [0, 1, 2, 3, 4, 5, 6] (wpick (W_P G q P) [0, 1, 2, 3, 4, 5, 6]) rfl rfl rfl rfl (by decide) rfl rfl
def rX7_isWithin : Room := { frames := 0, cells := 0, slots := 0, locals := 0 }
theorem mX7_isWithin : MS yX7_isWithin cX7_isWithin 3 (some .boolean) 3 := ⟨cd_X7_isWithin, in_X7, ⟨⟨by decide, by decide⟩, by decide +kernel⟩, sm_X7_isWithin⟩
set_option maxHeartbeats 4000000 in
set_option maxRecDepth 100000 in
theorem kX7_isWithin {l : Launch} {G : GT} (x0 : Int) (x1 : Int) (x2 : Int) (v : (Int)) (h : fX7_isWithin x0 x1 x2 = some v) : CT l G yX7_isWithin cX7_isWithin 3 (some .boolean) rX7_isWithin [vi x0, vi x1, vi x2] W_0 W_0 (some (vi v)) := by
  unfold fX7_isWithin at h
  refine CT.of (by decide) (Nat.le_of_ble_eq_true rfl) rfl (fun κ _ C => ?_)
  refine X.iload_n C dX7_isWithin_0 rfl 0 rfl ?_
  refine X.iload_n C dX7_isWithin_1 rfl 1 rfl ?_
  refine X.icmp_lt (tgt := 14) C h dX7_isWithin_2 (by decide) (fun h => ?_) (fun h => ?_)
  · refine X.iconst C dX7_isWithin_14 ?_
    cases h
    exact X.zret C rfl dX7_isWithin_15 (Nat.zero_le _) (Nat.zero_le _)
  refine X.iload_n C dX7_isWithin_5 rfl 0 rfl ?_
  refine X.iload_n C dX7_isWithin_6 rfl 2 rfl ?_
  refine X.icmp_gt (tgt := 14) C h dX7_isWithin_7 (by decide) (fun h => ?_) (fun h => ?_)
  · refine X.iconst C dX7_isWithin_14 ?_
    cases h
    exact X.zret C rfl dX7_isWithin_15 (Nat.zero_le _) (Nat.zero_le _)
  refine X.iconst C dX7_isWithin_10 ?_
  refine X.goto (tgt := 15) C dX7_isWithin_11 (by decide) ?_
  cases h
  exact X.zret C rfl dX7_isWithin_15 (Nat.zero_le _) (Nat.zero_le _)
def rX7_paceOf : Room := { frames := 0, cells := 0, slots := 0, locals := 0 }
theorem mX7_paceOf : MS yX7_paceOf cX7_paceOf 2 (some .int) 1 := ⟨cd_X7_paceOf, in_X7, ⟨⟨by decide, by decide⟩, by decide +kernel⟩, sm_X7_paceOf⟩
set_option maxHeartbeats 4000000 in
set_option maxRecDepth 100000 in
theorem xX7_paceOf_2 {κ : Kx} {G : GT} (C : Cx κ G yX7_paceOf cX7_paceOf (some .int) 2 rX7_paceOf) (x0 : Int) (v : (Int)) : ∀ (n : Nat) (x1 : Int), lX7_paceOf_2 x0 n x1 = some v → X κ G 2 W_0 2 [(0, vi x0), (1, vi x1)] [] 0 0 (QM κ G W_0 (some (vi v)) rX7_paceOf.cells rX7_paceOf.slots) := by
  intro n
  induction n with
  | zero => intro _ h; exact absurd h (fun h => nomatch h)
  | succ n ih =>
    intro x1 h
    rw [lX7_paceOf_2] at h
    refine X.iload_n C dX7_paceOf_2 rfl 1 rfl ?_
    refine X.bipush C dX7_paceOf_3 (by decide) ?_
    refine X.icmp_ge (tgt := 25) C h dX7_paceOf_5 (by decide) (fun h => ?_) (fun h => ?_)
    · refine X.iload_n C dX7_paceOf_25 rfl 1 rfl ?_
      cases h
      exact X.iret C dX7_paceOf_26 (Nat.zero_le _) (Nat.zero_le _)
    refine X.iload_n C dX7_paceOf_8 rfl 1 rfl ?_
    refine X.iload_n C dX7_paceOf_9 rfl 1 rfl ?_
    refine X.iconst C dX7_paceOf_10 ?_
    refine X.iadd C dX7_paceOf_11 ?_
    refine X.imul C dX7_paceOf_12 ?_
    refine X.iconst C dX7_paceOf_13 ?_
    refine X.idiv C (by decide) dX7_paceOf_14 ?_
    refine X.iload_n C dX7_paceOf_15 rfl 0 rfl ?_
    refine X.icmp_ge (tgt := 25) C h dX7_paceOf_16 (by decide) (fun h => ?_) (fun h => ?_)
    · refine X.iload_n C dX7_paceOf_25 rfl 1 rfl ?_
      cases h
      exact X.iret C dX7_paceOf_26 (Nat.zero_le _) (Nat.zero_le _)
    refine X.iincN (lv2 := fun x1_1 => [(1, vi x1_1), (0, vi x0)]) C h dX7_paceOf_19 1 rfl (by decide) (fun _ => rfl) (fun x1_1 h => ?_)
    refine X.goto (tgt := 2) C dX7_paceOf_22 (by decide) ?_
    refine X.sub [1, 0] rfl ?_
    exact ih x1_1 h
set_option maxHeartbeats 4000000 in
set_option maxRecDepth 100000 in
theorem kX7_paceOf {l : Launch} {G : GT} (x0 : Int) (v : (Int)) (h : fX7_paceOf x0 = some v) : CT l G yX7_paceOf cX7_paceOf 2 (some .int) rX7_paceOf [vi x0] W_0 W_0 (some (vi v)) := by
  unfold fX7_paceOf at h
  refine CT.of (by decide) (Nat.le_of_ble_eq_true rfl) rfl (fun κ _ C => ?_)
  refine X.iconst C dX7_paceOf_0 ?_
  refine X.istore_n (lv2 := [(1, vi 0), (0, vi x0)]) C dX7_paceOf_1 rfl (by decide) rfl ?_
  refine X.sub [1, 0] rfl ?_
  refine xX7_paceOf_2 C x0 v FU 0 h
def rX7_flightOf : Room := { frames := 1, cells := 0, slots := 0, locals := 21 }
theorem mX7_flightOf : MS yX7_flightOf cX7_flightOf 1 (some .int) 1 := ⟨cd_X7_flightOf, in_X7, ⟨⟨by decide, by decide⟩, by decide +kernel⟩, sm_X7_flightOf⟩
set_option maxHeartbeats 4000000 in
set_option maxRecDepth 100000 in
theorem kX7_flightOf {l : Launch} {G : GT} (x0 : Int) (v : (Int)) (h : fX7_flightOf x0 = some v) : CT l G yX7_flightOf cX7_flightOf 1 (some .int) rX7_flightOf [vi x0] W_0 W_0 (some (vi v)) := by
  unfold fX7_flightOf at h
  refine CT.of (by decide) (Nat.le_of_ble_eq_true rfl) rfl (fun κ _ C => ?_)
  refine X.iconst C dX7_flightOf_0 ?_
  refine X.iload_n C dX7_flightOf_1 rfl 0 rfl ?_
  refine X.callSi (As := [vi x0]) (rest := [vi 2]) (g := fun r_1 => r_1) (W1 := fun r_1 => W_0) (ws2 := fun r_1 => W_0) C h dX7_flightOf_2 ml_X7_97 mX7_paceOf (fun v hv => kX7_paceOf x0 v hv) (fun _ => ln_0_0__n) rfl rfl rfl rfl rfl rfl (fun r_1 h => ?_)
  refine X.imul C dX7_flightOf_5 ?_
  cases h
  exact X.iret C dX7_flightOf_6 (Nat.zero_le _) (Nat.zero_le _)
def rX7_placeOf : Room := { frames := 0, cells := 0, slots := 0, locals := 0 }
theorem mX7_placeOf : MS yX7_placeOf cX7_placeOf 2 (some .int) 2 := ⟨cd_X7_placeOf, in_X7, ⟨⟨by decide, by decide⟩, by decide +kernel⟩, sm_X7_placeOf⟩
set_option maxHeartbeats 4000000 in
set_option maxRecDepth 100000 in
theorem kX7_placeOf {l : Launch} {G : GT} (x0 : Int) (x1 : Int) (v : (Int)) (h : fX7_placeOf x0 x1 = some v) : CT l G yX7_placeOf cX7_placeOf 2 (some .int) rX7_placeOf [vi x0, vi x1] W_0 W_0 (some (vi v)) := by
  unfold fX7_placeOf at h
  refine CT.of (by decide) (Nat.le_of_ble_eq_true rfl) rfl (fun κ _ C => ?_)
  refine X.iload_n C dX7_placeOf_0 rfl 0 rfl ?_
  refine X.bipush C dX7_placeOf_1 (by decide) ?_
  refine X.iload_n C dX7_placeOf_3 rfl 1 rfl ?_
  refine X.imul C dX7_placeOf_4 ?_
  refine X.iadd C dX7_placeOf_5 ?_
  cases h
  exact X.iret C dX7_placeOf_6 (Nat.zero_le _) (Nat.zero_le _)
def rX7_cellOf : Room := { frames := 0, cells := 0, slots := 0, locals := 0 }
theorem mX7_cellOf : MS yX7_cellOf cX7_cellOf 2 (some .int) 2 := ⟨cd_X7_cellOf, in_X7, ⟨⟨by decide, by decide⟩, by decide +kernel⟩, sm_X7_cellOf⟩
set_option maxHeartbeats 4000000 in
set_option maxRecDepth 100000 in
theorem kX7_cellOf {l : Launch} {G : GT} (x0 : Int) (x1 : Int) (v : (Int)) (h : fX7_cellOf x0 x1 = some v) : CT l G yX7_cellOf cX7_cellOf 2 (some .int) rX7_cellOf [vi x0, vi x1] W_0 W_0 (some (vi v)) := by
  unfold fX7_cellOf at h
  refine CT.of (by decide) (Nat.le_of_ble_eq_true rfl) rfl (fun κ _ C => ?_)
  refine X.bipush C dX7_cellOf_0 (by decide) ?_
  refine X.iload_n C dX7_cellOf_2 rfl 1 rfl ?_
  refine X.imul C dX7_cellOf_3 ?_
  refine X.iload_n C dX7_cellOf_4 rfl 0 rfl ?_
  refine X.iadd C dX7_cellOf_5 ?_
  cases h
  exact X.iret C dX7_cellOf_6 (Nat.zero_le _) (Nat.zero_le _)
def rX1_isCell : Room := { frames := 0, cells := 0, slots := 0, locals := 0 }
theorem mX1_isCell : MV yX1_isCell cX1_isCell 3 (some .boolean) 2 := ⟨cd_X1_isCell, in_X1, ⟨⟨by decide, by decide⟩, by decide +kernel⟩, im_X1_isCell, se_X1_isCell⟩
set_option maxHeartbeats 4000000 in
set_option maxRecDepth 100000 in
theorem kX1_isCell {l : Launch} {G : GT} (q : Nat → Nat) (P : Ob) (x1 : Int) (x2 : Int) (v : (Int)) (h : fX1_isCell P x1 x2 = some v) : CT l G yX1_isCell cX1_isCell 3 (some .boolean) rX1_isCell [.ref (q 31), vi x1, vi x2] (W_P G q P) (W_P G q P) (some (vi v)) := by
  unfold fX1_isCell at h
  refine CT.of (by decide) (Nat.le_of_ble_eq_true rfl) rfl (fun κ _ C => ?_)
  refine X.iload_n C dX1_isCell_0 rfl 1 rfl ?_
  refine X.if_lt (tgt := 28) C h dX1_isCell_1 (by decide) (fun h => ?_) (fun h => ?_)
  · refine X.iconst C dX1_isCell_28 ?_
    cases h
    exact X.zret C rfl dX1_isCell_29 (Nat.zero_le _) (Nat.zero_le _)
  refine X.iload_n C dX1_isCell_4 rfl 1 rfl ?_
  refine X.aload_n C dX1_isCell_5 rfl 0 rfl ?_
  refine X.get C dX1_isCell_6 lay_X1 0 rfl rfl 1 (by decide) fl_X1_37 rfl rfl ?_
  refine X.icmp_ge (tgt := 28) C h dX1_isCell_9 (by decide) (fun h => ?_) (fun h => ?_)
  · refine X.iconst C dX1_isCell_28 ?_
    cases h
    exact X.zret C rfl dX1_isCell_29 (Nat.zero_le _) (Nat.zero_le _)
  refine X.iload_n C dX1_isCell_12 rfl 2 rfl ?_
  refine X.if_lt (tgt := 28) C h dX1_isCell_13 (by decide) (fun h => ?_) (fun h => ?_)
  · refine X.iconst C dX1_isCell_28 ?_
    cases h
    exact X.zret C rfl dX1_isCell_29 (Nat.zero_le _) (Nat.zero_le _)
  refine X.iload_n C dX1_isCell_16 rfl 2 rfl ?_
  refine X.aload_n C dX1_isCell_17 rfl 0 rfl ?_
  refine X.get C dX1_isCell_18 lay_X1 0 rfl rfl 2 (by decide) fl_X1_40 rfl rfl ?_
  refine X.icmp_ge (tgt := 28) C h dX1_isCell_21 (by decide) (fun h => ?_) (fun h => ?_)
  · refine X.iconst C dX1_isCell_28 ?_
    cases h
    exact X.zret C rfl dX1_isCell_29 (Nat.zero_le _) (Nat.zero_le _)
  refine X.iconst C dX1_isCell_24 ?_
  refine X.goto (tgt := 29) C dX1_isCell_25 (by decide) ?_
  cases h
  exact X.zret C rfl dX1_isCell_29 (Nat.zero_le _) (Nat.zero_le _)
def rX1_placeHit : Room := { frames := 0, cells := 0, slots := 0, locals := 0 }
theorem mX1_placeHit : MV yX1_placeHit cX1_placeHit 3 (some .int) 2 := ⟨cd_X1_placeHit, in_X1, ⟨⟨by decide, by decide⟩, by decide +kernel⟩, im_X1_placeHit, se_X1_placeHit⟩
set_option maxHeartbeats 4000000 in
set_option maxRecDepth 100000 in
theorem xX1_placeHit_55 {κ : Kx} {G : GT} (C : Cx κ G yX1_placeHit cX1_placeHit (some .int) 3 rX1_placeHit) (q : Nat → Nat) (P : Ob) (x1 : Int) (x2 : Int) (v : (Int)) (h : jX1_placeHit_55 P x1 x2 = some v) : X κ G 3 (W_P G q P) 55 [(0, .ref (q 31)), (1, vi x1), (2, vi x2)] [] 0 0 (QM κ G (W_P G q P) (some (vi v)) rX1_placeHit.cells rX1_placeHit.slots) := by
  unfold jX1_placeHit_55 at h
  refine X.iload_n C dX1_placeHit_55 rfl 1 rfl ?_
  refine X.if_lt (tgt := 88) C h dX1_placeHit_56 (by decide) (fun h => ?_) (fun h => ?_)
  · refine X.iconst C dX1_placeHit_88 ?_
    cases h
    exact X.iret C dX1_placeHit_89 (Nat.zero_le _) (Nat.zero_le _)
  refine X.iload_n C dX1_placeHit_59 rfl 1 rfl ?_
  refine X.aload_n C dX1_placeHit_60 rfl 0 rfl ?_
  refine X.get C dX1_placeHit_61 lay_X1 0 rfl rfl 1 (by decide) fl_X1_37 rfl rfl ?_
  refine X.icmp_ge (tgt := 88) C h dX1_placeHit_64 (by decide) (fun h => ?_) (fun h => ?_)
  · refine X.iconst C dX1_placeHit_88 ?_
    cases h
    exact X.iret C dX1_placeHit_89 (Nat.zero_le _) (Nat.zero_le _)
  refine X.iload_n C dX1_placeHit_67 rfl 2 rfl ?_
  refine X.if_lt (tgt := 88) C h dX1_placeHit_68 (by decide) (fun h => ?_) (fun h => ?_)
  · refine X.iconst C dX1_placeHit_88 ?_
    cases h
    exact X.iret C dX1_placeHit_89 (Nat.zero_le _) (Nat.zero_le _)
  refine X.iload_n C dX1_placeHit_71 rfl 2 rfl ?_
  refine X.aload_n C dX1_placeHit_72 rfl 0 rfl ?_
  refine X.get C dX1_placeHit_73 lay_X1 0 rfl rfl 2 (by decide) fl_X1_40 rfl rfl ?_
  refine X.icmp_ge (tgt := 88) C h dX1_placeHit_76 (by decide) (fun h => ?_) (fun h => ?_)
  · refine X.iconst C dX1_placeHit_88 ?_
    cases h
    exact X.iret C dX1_placeHit_89 (Nat.zero_le _) (Nat.zero_le _)
  refine X.iload_n C dX1_placeHit_79 rfl 1 rfl ?_
  refine X.bipush C dX1_placeHit_80 (by decide) ?_
  refine X.iload_n C dX1_placeHit_82 rfl 2 rfl ?_
  refine X.imul C dX1_placeHit_83 ?_
  refine X.iadd C dX1_placeHit_84 ?_
  refine X.goto (tgt := 89) C dX1_placeHit_85 (by decide) ?_
  cases h
  exact X.iret C dX1_placeHit_89 (Nat.zero_le _) (Nat.zero_le _)
set_option maxHeartbeats 4000000 in
set_option maxRecDepth 100000 in
theorem kX1_placeHit {l : Launch} {G : GT} (q : Nat → Nat) (P : Ob) (x1 : Int) (x2 : Int) (v : (Int)) (h : fX1_placeHit P x1 x2 = some v) : CT l G yX1_placeHit cX1_placeHit 3 (some .int) rX1_placeHit [.ref (q 31), vi x1, vi x2] (W_P G q P) (W_P G q P) (some (vi v)) := by
  unfold fX1_placeHit at h
  refine CT.of (by decide) (Nat.le_of_ble_eq_true rfl) rfl (fun κ _ C => ?_)
  refine X.iload_n C dX1_placeHit_0 rfl 1 rfl ?_
  refine X.aload_n C dX1_placeHit_1 rfl 0 rfl ?_
  refine X.get C dX1_placeHit_2 lay_X1 0 rfl rfl 3 (by decide) fl_X1_43 rfl rfl ?_
  refine X.aload_n C dX1_placeHit_5 rfl 0 rfl ?_
  refine X.get C dX1_placeHit_6 lay_X1 0 rfl rfl 5 (by decide) fl_X1_49 rfl rfl ?_
  refine X.isub C dX1_placeHit_9 ?_
  refine X.icmp_lt (tgt := 55) C h dX1_placeHit_10 (by decide) (fun h => ?_) (fun h => ?_)
  · refine X.sub [0, 1, 2] rfl ?_
    exact xX1_placeHit_55 C q P x1 x2 v h
  refine X.iload_n C dX1_placeHit_13 rfl 1 rfl ?_
  refine X.aload_n C dX1_placeHit_14 rfl 0 rfl ?_
  refine X.get C dX1_placeHit_15 lay_X1 0 rfl rfl 3 (by decide) fl_X1_43 rfl rfl ?_
  refine X.aload_n C dX1_placeHit_18 rfl 0 rfl ?_
  refine X.get C dX1_placeHit_19 lay_X1 0 rfl rfl 5 (by decide) fl_X1_49 rfl rfl ?_
  refine X.iadd C dX1_placeHit_22 ?_
  refine X.icmp_gt (tgt := 55) C h dX1_placeHit_23 (by decide) (fun h => ?_) (fun h => ?_)
  · refine X.sub [0, 1, 2] rfl ?_
    exact xX1_placeHit_55 C q P x1 x2 v h
  refine X.iload_n C dX1_placeHit_26 rfl 2 rfl ?_
  refine X.aload_n C dX1_placeHit_27 rfl 0 rfl ?_
  refine X.get C dX1_placeHit_28 lay_X1 0 rfl rfl 4 (by decide) fl_X1_46 rfl rfl ?_
  refine X.aload_n C dX1_placeHit_31 rfl 0 rfl ?_
  refine X.get C dX1_placeHit_32 lay_X1 0 rfl rfl 5 (by decide) fl_X1_49 rfl rfl ?_
  refine X.isub C dX1_placeHit_35 ?_
  refine X.icmp_lt (tgt := 55) C h dX1_placeHit_36 (by decide) (fun h => ?_) (fun h => ?_)
  · refine X.sub [0, 1, 2] rfl ?_
    exact xX1_placeHit_55 C q P x1 x2 v h
  refine X.iload_n C dX1_placeHit_39 rfl 2 rfl ?_
  refine X.aload_n C dX1_placeHit_40 rfl 0 rfl ?_
  refine X.get C dX1_placeHit_41 lay_X1 0 rfl rfl 4 (by decide) fl_X1_46 rfl rfl ?_
  refine X.aload_n C dX1_placeHit_44 rfl 0 rfl ?_
  refine X.get C dX1_placeHit_45 lay_X1 0 rfl rfl 5 (by decide) fl_X1_49 rfl rfl ?_
  refine X.iadd C dX1_placeHit_48 ?_
  refine X.icmp_gt (tgt := 55) C h dX1_placeHit_49 (by decide) (fun h => ?_) (fun h => ?_)
  · refine X.sub [0, 1, 2] rfl ?_
    exact xX1_placeHit_55 C q P x1 x2 v h
  refine X.bipush C dX1_placeHit_52 (by decide) ?_
  cases h
  exact X.iret C dX1_placeHit_54 (Nat.zero_le _) (Nat.zero_le _)
def rX1_highLetBy : Room := { frames := 1, cells := 0, slots := 0, locals := 30 }
theorem mX1_highLetBy : MV yX1_highLetBy cX1_highLetBy 2 (some .int) 1 := ⟨cd_X1_highLetBy, in_X1, ⟨⟨by decide, by decide⟩, by decide +kernel⟩, im_X1_highLetBy, se_X1_highLetBy⟩
set_option maxHeartbeats 4000000 in
set_option maxRecDepth 100000 in
theorem kX1_highLetBy {l : Launch} {G : GT} (q : Nat → Nat) (P : Ob) (x1 : Int) (v : (Int)) (h : fX1_highLetBy P x1 = some v) : CT l G yX1_highLetBy cX1_highLetBy 2 (some .int) rX1_highLetBy [.ref (q 31), vi x1] (W_P G q P) (W_P G q P) (some (vi v)) := by
  unfold fX1_highLetBy at h
  refine CT.of (by decide) (Nat.le_of_ble_eq_true rfl) rfl (fun κ _ C => ?_)
  refine X.aload_n C dX1_highLetBy_0 rfl 0 rfl ?_
  refine X.get C dX1_highLetBy_1 lay_X1 0 rfl rfl 6 (by decide) fl_X1_52 rfl rfl ?_
  refine X.aload_n C dX1_highLetBy_4 rfl 0 rfl ?_
  refine X.get C dX1_highLetBy_5 lay_X1 0 rfl rfl 19 (by decide) fl_X1_27 rfl rfl ?_
  refine X.iload_n C dX1_highLetBy_8 rfl 1 rfl ?_
  refine X.iald C h dX1_highLetBy_9 6 rfl (fun h => ?_)
  refine X.mmin C dX1_highLetBy_10 ml_X1_95 sm_J9_min_7cf53 in_java_lang_Math cd_J9_min_7cf53 (Nat.le_of_ble_eq_true rfl) (Nat.le_of_ble_eq_true rfl) (Nat.zero_le _) (Nat.zero_le _) ?_
  cases h
  exact X.iret C dX1_highLetBy_13 (Nat.zero_le _) (Nat.zero_le _)
def rX1_steadyDrift : Room := { frames := 0, cells := 0, slots := 0, locals := 0 }
theorem mX1_steadyDrift : MV yX1_steadyDrift cX1_steadyDrift 4 (some .int) 3 := ⟨cd_X1_steadyDrift, in_X1, ⟨⟨by decide, by decide⟩, by decide +kernel⟩, im_X1_steadyDrift, se_X1_steadyDrift⟩
set_option maxHeartbeats 4000000 in
set_option maxRecDepth 100000 in
theorem kX1_steadyDrift {l : Launch} {G : GT} (q : Nat → Nat) (P : Ob) (x1 : Int) (x2 : Int) (x3 : Int) (v : (Int)) (h : fX1_steadyDrift P x1 x2 x3 = some v) : CT l G yX1_steadyDrift cX1_steadyDrift 4 (some .int) rX1_steadyDrift [.ref (q 31), vi x1, vi x2, vi x3] (W_P G q P) (W_P G q P) (some (vi v)) := by
  unfold fX1_steadyDrift at h
  refine CT.of (by decide) (Nat.le_of_ble_eq_true rfl) rfl (fun κ _ C => ?_)
  refine X.aload_n C dX1_steadyDrift_0 rfl 0 rfl ?_
  refine X.get C dX1_steadyDrift_1 lay_X1 0 rfl rfl 12 (by decide) fl_X1_9 rfl rfl ?_
  refine X.iload_n C dX1_steadyDrift_4 rfl 1 rfl ?_
  refine X.iald C h dX1_steadyDrift_5 1 rfl (fun h => ?_)
  refine X.iload_n C dX1_steadyDrift_6 rfl 3 rfl ?_
  refine X.bipush C dX1_steadyDrift_7 (by decide) ?_
  refine X.irem C (by decide) dX1_steadyDrift_9 ?_
  refine X.imul C dX1_steadyDrift_10 ?_
  refine X.iload_n C dX1_steadyDrift_11 rfl 2 rfl ?_
  refine X.imul C dX1_steadyDrift_12 ?_
  cases h
  exact X.iret C dX1_steadyDrift_13 (Nat.zero_le _) (Nat.zero_le _)
def rX1_steadyPlace : Room := { frames := 1, cells := 0, slots := 0, locals := 23 }
theorem mX1_steadyPlace : MV yX1_steadyPlace cX1_steadyPlace 5 (some .int) 3 := ⟨cd_X1_steadyPlace, in_X1, ⟨⟨by decide, by decide⟩, by decide +kernel⟩, im_X1_steadyPlace, se_X1_steadyPlace⟩
set_option maxHeartbeats 4000000 in
set_option maxRecDepth 100000 in
theorem kX1_steadyPlace {l : Launch} {G : GT} (q : Nat → Nat) (P : Ob) (x1 : Int) (x2 : Int) (x3 : Int) (v : (Int)) (h : fX1_steadyPlace P x1 x2 x3 = some v) : CT l G yX1_steadyPlace cX1_steadyPlace 5 (some .int) rX1_steadyPlace [.ref (q 31), vi x1, vi x2, vi x3] (W_P G q P) (W_P G q P) (some (vi v)) := by
  unfold fX1_steadyPlace at h
  refine CT.of (by decide) (Nat.le_of_ble_eq_true rfl) rfl (fun κ _ C => ?_)
  refine X.aload_n C dX1_steadyPlace_0 rfl 0 rfl ?_
  refine X.iload_n C dX1_steadyPlace_1 rfl 1 rfl ?_
  refine X.iload_n C dX1_steadyPlace_2 rfl 2 rfl ?_
  refine X.iload_n C dX1_steadyPlace_3 rfl 3 rfl ?_
  refine X.callVi (q0 := 0) (As := [vi x1, vi x2, vi x3]) (rest := []) (g := fun r_1 => r_1) (W1 := fun r_1 => (W_P G q P)) (ws2 := fun r_1 => (W_P G q P)) C h dX1_steadyPlace_4 ml_X1_101 mX1_steadyDrift (fun v hv => kX1_steadyDrift q P x1 x2 x3 v hv) (fun _ => ln_P_P_p_n) rfl rfl rfl rfl rfl rfl rfl rfl (fun r_1 h => ?_)
  refine X.bipush C dX1_steadyPlace_7 (by decide) ?_
  refine X.idiv C (by decide) dX1_steadyPlace_9 ?_
  refine X.istoreN (lv2 := fun x4_2 => [(4, vi x4_2), (0, .ref (q 31)), (1, vi x1), (2, vi x2), (3, vi x3)]) C h dX1_steadyPlace_10 (by decide) (fun _ => rfl) (fun x4_2 h => ?_)
  refine X.aload_n C dX1_steadyPlace_12 rfl 1 rfl ?_
  refine X.aload_n C dX1_steadyPlace_13 rfl 1 rfl ?_
  refine X.get C dX1_steadyPlace_14 lay_X1 0 rfl rfl 3 (by decide) fl_X1_43 rfl rfl ?_
  refine X.iload C dX1_steadyPlace_17 0 rfl ?_
  refine X.getsNX C dX1_steadyPlace_19 fn_X1_105 ?_
  refine X.iload_n C dX1_steadyPlace_22 rfl 4 rfl ?_
  refine X.bipush C dX1_steadyPlace_23 (by decide) ?_
  refine X.idiv C (by decide) dX1_steadyPlace_25 ?_
  refine X.aldX C h dX1_steadyPlace_26 (fun h => ?_)
  refine X.imul C dX1_steadyPlace_27 ?_
  refine X.iadd C dX1_steadyPlace_28 ?_
  refine X.aload_n C dX1_steadyPlace_29 rfl 1 rfl ?_
  refine X.get C dX1_steadyPlace_30 lay_X1 0 rfl rfl 4 (by decide) fl_X1_46 rfl rfl ?_
  refine X.iload C dX1_steadyPlace_33 0 rfl ?_
  refine X.getsNY C dX1_steadyPlace_35 fn_X1_108 ?_
  refine X.iload_n C dX1_steadyPlace_38 rfl 4 rfl ?_
  refine X.bipush C dX1_steadyPlace_39 (by decide) ?_
  refine X.idiv C (by decide) dX1_steadyPlace_41 ?_
  refine X.aldY C h dX1_steadyPlace_42 (fun h => ?_)
  refine X.imul C dX1_steadyPlace_43 ?_
  refine X.iadd C dX1_steadyPlace_44 ?_
  refine X.callVi (q0 := 0) (As := [vi ((P 3 0) + (x4_2 * (wayX (ix (jdv x3 10))))), vi ((P 4 0) + (x4_2 * (wayY (ix (jdv x3 10)))))]) (rest := []) (g := fun r_3 => r_3) (W1 := fun r_3 => (W_P G q P)) (ws2 := fun r_3 => (W_P G q P)) C h dX1_steadyPlace_45 ml_X1_111 mX1_placeHit (fun v hv => kX1_placeHit q P ((P 3 0) + (x4_2 * (wayX (ix (jdv x3 10))))) ((P 4 0) + (x4_2 * (wayY (ix (jdv x3 10))))) v hv) (fun _ => ln_P_P_p_n) rfl rfl rfl rfl rfl rfl rfl rfl (fun r_3 h => ?_)
  cases h
  exact X.iret C dX1_steadyPlace_48 (Nat.zero_le _) (Nat.zero_le _)
def rX1_sizesHitting : Room := { frames := 2, cells := 0, slots := 0, locals := 47 }
theorem mX1_sizesHitting : MV yX1_sizesHitting cX1_sizesHitting 6 (some .int) 3 := ⟨cd_X1_sizesHitting, in_X1, ⟨⟨by decide, by decide⟩, by decide +kernel⟩, im_X1_sizesHitting, se_X1_sizesHitting⟩
set_option maxHeartbeats 4000000 in
set_option maxRecDepth 100000 in
theorem xX1_sizesHitting_6 {κ : Kx} {G : GT} (C : Cx κ G yX1_sizesHitting cX1_sizesHitting (some .int) 6 rX1_sizesHitting) (q : Nat → Nat) (P : Ob) (x1 : Int) (x2 : Int) (x3 : Int) (v : (Int)) : ∀ (n : Nat) (x4 : Int) (x5 : Int), lX1_sizesHitting_6 P x1 x2 x3 n x4 x5 = some v → X κ G 6 (W_P G q P) 6 [(0, .ref (q 31)), (1, vi x1), (2, vi x2), (3, vi x3), (4, vi x4), (5, vi x5)] [] 0 0 (QM κ G (W_P G q P) (some (vi v)) rX1_sizesHitting.cells rX1_sizesHitting.slots) := by
  intro n
  induction n with
  | zero => intro _ _ h; exact absurd h (fun h => nomatch h)
  | succ n ih =>
    intro x4 x5 h
    rw [lX1_sizesHitting_6] at h
    refine X.iload C dX1_sizesHitting_6 5 rfl ?_
    refine X.aload_n C dX1_sizesHitting_8 rfl 0 rfl ?_
    refine X.get C dX1_sizesHitting_9 lay_X1 0 rfl rfl 11 (by decide) fl_X1_67 rfl rfl ?_
    refine X.icmp_ge (tgt := 42) C h dX1_sizesHitting_12 (by decide) (fun h => ?_) (fun h => ?_)
    · refine X.iload C dX1_sizesHitting_42 4 rfl ?_
      cases h
      exact X.iret C dX1_sizesHitting_44 (Nat.zero_le _) (Nat.zero_le _)
    refine X.aload_n C dX1_sizesHitting_15 rfl 0 rfl ?_
    refine X.iload C dX1_sizesHitting_16 5 rfl ?_
    refine X.iload_n C dX1_sizesHitting_18 rfl 2 rfl ?_
    refine X.iload_n C dX1_sizesHitting_19 rfl 3 rfl ?_
    refine X.callVi (q0 := 0) (As := [vi x5, vi x2, vi x3]) (rest := []) (g := fun r_1 => r_1) (W1 := fun r_1 => (W_P G q P)) (ws2 := fun r_1 => (W_P G q P)) C h dX1_sizesHitting_20 ml_X1_114 mX1_steadyPlace (fun v hv => kX1_steadyPlace q P x5 x2 x3 v hv) (fun _ => ln_P_P_p_n) rfl rfl rfl rfl rfl rfl rfl rfl (fun r_1 h => ?_)
    refine X.iload_n C dX1_sizesHitting_23 rfl 1 rfl ?_
    refine X.icmp_ne (tgt := 36) C h dX1_sizesHitting_24 (by decide) (fun h => ?_) (fun h => ?_)
    · refine X.iincN (lv2 := fun x5_2 => [(5, vi x5_2), (0, .ref (q 31)), (1, vi x1), (2, vi x2), (3, vi x3), (4, vi x4)]) C h dX1_sizesHitting_36 5 rfl (by decide) (fun _ => rfl) (fun x5_2 h => ?_)
      refine X.goto (tgt := 6) C dX1_sizesHitting_39 (by decide) ?_
      refine X.sub [1, 2, 3, 4, 5, 0] rfl ?_
      exact ih x4 x5_2 h
    refine X.iload C dX1_sizesHitting_27 4 rfl ?_
    refine X.iconst C dX1_sizesHitting_29 ?_
    refine X.iload C dX1_sizesHitting_30 5 rfl ?_
    refine X.ishl C dX1_sizesHitting_32 ?_
    refine X.ior C dX1_sizesHitting_33 ?_
    refine X.istoreN (lv2 := fun x4_3 => [(4, vi x4_3), (0, .ref (q 31)), (1, vi x1), (2, vi x2), (3, vi x3), (5, vi x5)]) C h dX1_sizesHitting_34 (by decide) (fun _ => rfl) (fun x4_3 h => ?_)
    refine X.iincN (lv2 := fun x5_4 => [(5, vi x5_4), (4, vi x4_3), (0, .ref (q 31)), (1, vi x1), (2, vi x2), (3, vi x3)]) C h dX1_sizesHitting_36 5 rfl (by decide) (fun _ => rfl) (fun x5_4 h => ?_)
    refine X.goto (tgt := 6) C dX1_sizesHitting_39 (by decide) ?_
    refine X.sub [2, 3, 4, 5, 1, 0] rfl ?_
    exact ih x4_3 x5_4 h
set_option maxHeartbeats 4000000 in
set_option maxRecDepth 100000 in
theorem kX1_sizesHitting {l : Launch} {G : GT} (q : Nat → Nat) (P : Ob) (x1 : Int) (x2 : Int) (x3 : Int) (v : (Int)) (h : fX1_sizesHitting P x1 x2 x3 = some v) : CT l G yX1_sizesHitting cX1_sizesHitting 6 (some .int) rX1_sizesHitting [.ref (q 31), vi x1, vi x2, vi x3] (W_P G q P) (W_P G q P) (some (vi v)) := by
  unfold fX1_sizesHitting at h
  refine CT.of (by decide) (Nat.le_of_ble_eq_true rfl) rfl (fun κ _ C => ?_)
  refine X.iconst C dX1_sizesHitting_0 ?_
  refine X.istore (lv2 := [(4, vi 0), (0, .ref (q 31)), (1, vi x1), (2, vi x2), (3, vi x3)]) C dX1_sizesHitting_1 (by decide) rfl ?_
  refine X.iconst C dX1_sizesHitting_3 ?_
  refine X.istore (lv2 := [(5, vi 0), (4, vi 0), (0, .ref (q 31)), (1, vi x1), (2, vi x2), (3, vi x3)]) C dX1_sizesHitting_4 (by decide) rfl ?_
  refine X.sub [2, 3, 4, 5, 1, 0] rfl ?_
  refine xX1_sizesHitting_6 C q P x1 x2 x3 v FU 0 0 h
def rX1_isBasin : Room := { frames := 1, cells := 0, slots := 0, locals := 22 }
theorem mX1_isBasin : MV yX1_isBasin cX1_isBasin 3 (some .boolean) 2 := ⟨cd_X1_isBasin, in_X1, ⟨⟨by decide, by decide⟩, by decide +kernel⟩, im_X1_isBasin, se_X1_isBasin⟩
set_option maxHeartbeats 4000000 in
set_option maxRecDepth 100000 in
theorem kX1_isBasin {l : Launch} {G : GT} (q : Nat → Nat) (P : Ob) (x1 : Int) (x2 : Int) (v : (Int)) (h : fX1_isBasin P x1 x2 = some v) : CT l G yX1_isBasin cX1_isBasin 3 (some .boolean) rX1_isBasin [.ref (q 31), vi x1, vi x2] (W_P G q P) (W_P G q P) (some (vi v)) := by
  unfold fX1_isBasin at h
  refine CT.of (by decide) (Nat.le_of_ble_eq_true rfl) rfl (fun κ _ C => ?_)
  refine X.iload_n C dX1_isBasin_0 rfl 1 rfl ?_
  refine X.aload_n C dX1_isBasin_1 rfl 0 rfl ?_
  refine X.get C dX1_isBasin_2 lay_X1 0 rfl rfl 3 (by decide) fl_X1_43 rfl rfl ?_
  refine X.aload_n C dX1_isBasin_5 rfl 0 rfl ?_
  refine X.get C dX1_isBasin_6 lay_X1 0 rfl rfl 5 (by decide) fl_X1_49 rfl rfl ?_
  refine X.isub C dX1_isBasin_9 ?_
  refine X.aload_n C dX1_isBasin_10 rfl 0 rfl ?_
  refine X.get C dX1_isBasin_11 lay_X1 0 rfl rfl 3 (by decide) fl_X1_43 rfl rfl ?_
  refine X.aload_n C dX1_isBasin_14 rfl 0 rfl ?_
  refine X.get C dX1_isBasin_15 lay_X1 0 rfl rfl 5 (by decide) fl_X1_49 rfl rfl ?_
  refine X.iadd C dX1_isBasin_18 ?_
  refine X.callSNi (As := [vi x1, vi ((P 3 0) - (P 5 0)), vi ((P 3 0) + (P 5 0))]) (rest := []) (g := fun r_1 => r_1) (W1 := fun r_1 => W_0) (ws2 := fun r_1 => (W_P G q P)) C h dX1_isBasin_19 mn_X1_91 mX7_isWithin (fun v hv => kX7_isWithin x1 ((P 3 0) - (P 5 0)) ((P 3 0) + (P 5 0)) v hv) (fun _ => ln_P_0__n) rfl rfl rfl rfl rfl rfl (fun r_1 h => ?_)
  refine X.if_eq (tgt := 54) C h dX1_isBasin_22 (by decide) (fun h => ?_) (fun h => ?_)
  · refine X.iconst C dX1_isBasin_54 ?_
    cases h
    exact X.zret C rfl dX1_isBasin_55 (Nat.zero_le _) (Nat.zero_le _)
  refine X.iload_n C dX1_isBasin_25 rfl 2 rfl ?_
  refine X.aload_n C dX1_isBasin_26 rfl 0 rfl ?_
  refine X.get C dX1_isBasin_27 lay_X1 0 rfl rfl 4 (by decide) fl_X1_46 rfl rfl ?_
  refine X.aload_n C dX1_isBasin_30 rfl 0 rfl ?_
  refine X.get C dX1_isBasin_31 lay_X1 0 rfl rfl 5 (by decide) fl_X1_49 rfl rfl ?_
  refine X.isub C dX1_isBasin_34 ?_
  refine X.aload_n C dX1_isBasin_35 rfl 0 rfl ?_
  refine X.get C dX1_isBasin_36 lay_X1 0 rfl rfl 4 (by decide) fl_X1_46 rfl rfl ?_
  refine X.aload_n C dX1_isBasin_39 rfl 0 rfl ?_
  refine X.get C dX1_isBasin_40 lay_X1 0 rfl rfl 5 (by decide) fl_X1_49 rfl rfl ?_
  refine X.iadd C dX1_isBasin_43 ?_
  refine X.callSNi (As := [vi x2, vi ((P 4 0) - (P 5 0)), vi ((P 4 0) + (P 5 0))]) (rest := []) (g := fun r_2 => r_2) (W1 := fun r_2 => W_0) (ws2 := fun r_2 => (W_P G q P)) C h dX1_isBasin_44 mn_X1_91 mX7_isWithin (fun v hv => kX7_isWithin x2 ((P 4 0) - (P 5 0)) ((P 4 0) + (P 5 0)) v hv) (fun _ => ln_P_0__n) rfl rfl rfl rfl rfl rfl (fun r_2 h => ?_)
  refine X.if_eq (tgt := 54) C h dX1_isBasin_47 (by decide) (fun h => ?_) (fun h => ?_)
  · refine X.iconst C dX1_isBasin_54 ?_
    cases h
    exact X.zret C rfl dX1_isBasin_55 (Nat.zero_le _) (Nat.zero_le _)
  refine X.iconst C dX1_isBasin_50 ?_
  refine X.goto (tgt := 55) C dX1_isBasin_51 (by decide) ?_
  cases h
  exact X.zret C rfl dX1_isBasin_55 (Nat.zero_le _) (Nat.zero_le _)
def rX1_tablePlace : Room := { frames := 1, cells := 0, slots := 0, locals := 21 }
theorem mX1_tablePlace : MV yX1_tablePlace cX1_tablePlace 2 (some .int) 1 := ⟨cd_X1_tablePlace, in_X1, ⟨⟨by decide, by decide⟩, by decide +kernel⟩, im_X1_tablePlace, se_X1_tablePlace⟩
set_option maxHeartbeats 4000000 in
set_option maxRecDepth 100000 in
theorem kX1_tablePlace {l : Launch} {G : GT} (q : Nat → Nat) (P : Ob) (x1 : Int) (v : (Int)) (h : fX1_tablePlace P x1 = some v) : CT l G yX1_tablePlace cX1_tablePlace 2 (some .int) rX1_tablePlace [.ref (q 31), vi x1] (W_P G q P) (W_P G q P) (some (vi v)) := by
  unfold fX1_tablePlace at h
  refine CT.of (by decide) (Nat.le_of_ble_eq_true rfl) rfl (fun κ _ C => ?_)
  refine X.aload_n C dX1_tablePlace_0 rfl 0 rfl ?_
  refine X.get C dX1_tablePlace_1 lay_X1 0 rfl rfl 15 (by decide) fl_X1_18 rfl rfl ?_
  refine X.iload_n C dX1_tablePlace_4 rfl 1 rfl ?_
  refine X.iald C h dX1_tablePlace_5 3 rfl (fun h => ?_)
  refine X.aload_n C dX1_tablePlace_6 rfl 0 rfl ?_
  refine X.get C dX1_tablePlace_7 lay_X1 0 rfl rfl 16 (by decide) fl_X1_21 rfl rfl ?_
  refine X.iload_n C dX1_tablePlace_10 rfl 1 rfl ?_
  refine X.iald C h dX1_tablePlace_11 4 rfl (fun h => ?_)
  refine X.callSNi (As := [vi (P 15 (ix x1)), vi (P 16 (ix x1))]) (rest := []) (g := fun r_1 => r_1) (W1 := fun r_1 => W_0) (ws2 := fun r_1 => (W_P G q P)) C h dX1_tablePlace_12 mn_X1_121 mX7_placeOf (fun v hv => kX7_placeOf (P 15 (ix x1)) (P 16 (ix x1)) v hv) (fun _ => ln_P_0__n) rfl rfl rfl rfl rfl rfl (fun r_1 h => ?_)
  cases h
  exact X.iret C dX1_tablePlace_15 (Nat.zero_le _) (Nat.zero_le _)
def rX1_hasRoomFor : Room := { frames := 2, cells := 0, slots := 0, locals := 44 }
theorem mX1_hasRoomFor : MV yX1_hasRoomFor cX1_hasRoomFor 5 (some .boolean) 3 := ⟨cd_X1_hasRoomFor, in_X1, ⟨⟨by decide, by decide⟩, by decide +kernel⟩, im_X1_hasRoomFor, se_X1_hasRoomFor⟩
set_option maxHeartbeats 4000000 in
set_option maxRecDepth 100000 in
theorem xX1_hasRoomFor_3 {κ : Kx} {G : GT} (C : Cx κ G yX1_hasRoomFor cX1_hasRoomFor (some .boolean) 5 rX1_hasRoomFor) (q : Nat → Nat) (P : Ob) (x1 : Int) (x2 : Int) (x3 : Int) (kx0 : Option (Int)) (v : (Int)) (hk0 : kx0 = some v → X κ G 5 (W_P G q P) 48 [(0, .ref (q 31)), (2, vi x2), (3, vi x3)] [] 0 0 (QM κ G (W_P G q P) (some (vi v)) rX1_hasRoomFor.cells rX1_hasRoomFor.slots)) : ∀ (n : Nat) (x4 : Int), lX1_hasRoomFor_3 P x1 x2 x3 kx0 n x4 = some v → X κ G 5 (W_P G q P) 3 [(0, .ref (q 31)), (1, vi x1), (2, vi x2), (3, vi x3), (4, vi x4)] [] 0 0 (QM κ G (W_P G q P) (some (vi v)) rX1_hasRoomFor.cells rX1_hasRoomFor.slots) := by
  intro n
  induction n with
  | zero => intro _ h; exact absurd h (fun h => nomatch h)
  | succ n ih =>
    intro x4 h
    rw [lX1_hasRoomFor_3] at h
    refine X.iload C dX1_hasRoomFor_3 4 rfl ?_
    refine X.aload_n C dX1_hasRoomFor_5 rfl 0 rfl ?_
    refine X.get C dX1_hasRoomFor_6 lay_X1 0 rfl rfl 14 (by decide) fl_X1_70 rfl rfl ?_
    refine X.icmp_ge (tgt := 48) C h dX1_hasRoomFor_9 (by decide) (fun h => ?_) (fun h => ?_)
    · refine X.sub [0, 2, 3] rfl ?_
      exact hk0 h
    refine X.iload C dX1_hasRoomFor_12 4 rfl ?_
    refine X.iload_n C dX1_hasRoomFor_14 rfl 1 rfl ?_
    refine X.icmp_eq (tgt := 42) C h dX1_hasRoomFor_15 (by decide) (fun h => ?_) (fun h => ?_)
    · refine X.iincN (lv2 := fun x4_1 => [(4, vi x4_1), (0, .ref (q 31)), (1, vi x1), (2, vi x2), (3, vi x3)]) C h dX1_hasRoomFor_42 4 rfl (by decide) (fun _ => rfl) (fun x4_1 h => ?_)
      refine X.goto (tgt := 3) C dX1_hasRoomFor_45 (by decide) ?_
      refine X.sub [1, 2, 3, 4, 0] rfl ?_
      exact ih x4_1 h
    refine X.aload_n C dX1_hasRoomFor_18 rfl 0 rfl ?_
    refine X.get C dX1_hasRoomFor_19 lay_X1 0 rfl rfl 15 (by decide) fl_X1_18 rfl rfl ?_
    refine X.iload C dX1_hasRoomFor_22 4 rfl ?_
    refine X.iald C h dX1_hasRoomFor_24 3 rfl (fun h => ?_)
    refine X.iload_n C dX1_hasRoomFor_25 rfl 2 rfl ?_
    refine X.icmp_ne (tgt := 42) C h dX1_hasRoomFor_26 (by decide) (fun h => ?_) (fun h => ?_)
    · refine X.iincN (lv2 := fun x4_2 => [(4, vi x4_2), (0, .ref (q 31)), (1, vi x1), (2, vi x2), (3, vi x3)]) C h dX1_hasRoomFor_42 4 rfl (by decide) (fun _ => rfl) (fun x4_2 h => ?_)
      refine X.goto (tgt := 3) C dX1_hasRoomFor_45 (by decide) ?_
      refine X.sub [1, 2, 3, 4, 0] rfl ?_
      exact ih x4_2 h
    refine X.aload_n C dX1_hasRoomFor_29 rfl 0 rfl ?_
    refine X.get C dX1_hasRoomFor_30 lay_X1 0 rfl rfl 16 (by decide) fl_X1_21 rfl rfl ?_
    refine X.iload C dX1_hasRoomFor_33 4 rfl ?_
    refine X.iald C h dX1_hasRoomFor_35 4 rfl (fun h => ?_)
    refine X.iload_n C dX1_hasRoomFor_36 rfl 3 rfl ?_
    refine X.icmp_ne (tgt := 42) C h dX1_hasRoomFor_37 (by decide) (fun h => ?_) (fun h => ?_)
    · refine X.iincN (lv2 := fun x4_3 => [(4, vi x4_3), (0, .ref (q 31)), (1, vi x1), (2, vi x2), (3, vi x3)]) C h dX1_hasRoomFor_42 4 rfl (by decide) (fun _ => rfl) (fun x4_3 h => ?_)
      refine X.goto (tgt := 3) C dX1_hasRoomFor_45 (by decide) ?_
      refine X.sub [1, 2, 3, 4, 0] rfl ?_
      exact ih x4_3 h
    refine X.iconst C dX1_hasRoomFor_40 ?_
    cases h
    exact X.zret C rfl dX1_hasRoomFor_41 (Nat.zero_le _) (Nat.zero_le _)
set_option maxHeartbeats 4000000 in
set_option maxRecDepth 100000 in
theorem kX1_hasRoomFor {l : Launch} {G : GT} (q : Nat → Nat) (P : Ob) (x1 : Int) (x2 : Int) (x3 : Int) (v : (Int)) (h : fX1_hasRoomFor P x1 x2 x3 = some v) : CT l G yX1_hasRoomFor cX1_hasRoomFor 5 (some .boolean) rX1_hasRoomFor [.ref (q 31), vi x1, vi x2, vi x3] (W_P G q P) (W_P G q P) (some (vi v)) := by
  unfold fX1_hasRoomFor at h
  refine CT.of (by decide) (Nat.le_of_ble_eq_true rfl) rfl (fun κ _ C => ?_)
  refine X.iconst C dX1_hasRoomFor_0 ?_
  refine X.istore (lv2 := [(4, vi 0), (0, .ref (q 31)), (1, vi x1), (2, vi x2), (3, vi x3)]) C dX1_hasRoomFor_1 (by decide) rfl ?_
  refine X.sub [1, 2, 3, 4, 0] rfl ?_
  refine xX1_hasRoomFor_3 C q P x1 x2 x3 _ v (fun h => ?_) FU 0 h
  · refine X.aload_n C dX1_hasRoomFor_48 rfl 0 rfl ?_
    refine X.iload_n C dX1_hasRoomFor_49 rfl 1 rfl ?_
    refine X.iload_n C dX1_hasRoomFor_50 rfl 2 rfl ?_
    refine X.callVi (q0 := 0) (As := [vi x2, vi x3]) (rest := []) (g := fun r_4 => r_4) (W1 := fun r_4 => (W_P G q P)) (ws2 := fun r_4 => (W_P G q P)) C h dX1_hasRoomFor_51 ml_X1_124 mX1_isBasin (fun v hv => kX1_isBasin q P x2 x3 v hv) (fun _ => ln_P_P_p_n) rfl rfl rfl rfl rfl rfl rfl rfl (fun r_4 h => ?_)
    refine X.if_ne (tgt := 61) C h dX1_hasRoomFor_54 (by decide) (fun h => ?_) (fun h => ?_)
    · refine X.iconst C dX1_hasRoomFor_61 ?_
      cases h
      exact X.zret C rfl dX1_hasRoomFor_62 (Nat.zero_le _) (Nat.zero_le _)
    refine X.iconst C dX1_hasRoomFor_57 ?_
    refine X.goto (tgt := 62) C dX1_hasRoomFor_58 (by decide) ?_
    cases h
    exact X.zret C rfl dX1_hasRoomFor_62 (Nat.zero_le _) (Nat.zero_le _)
def rX1_showsBow : Room := { frames := 1, cells := 0, slots := 0, locals := 30 }
theorem mX1_showsBow : MV yX1_showsBow cX1_showsBow 6 (some .boolean) 3 := ⟨cd_X1_showsBow, in_X1, ⟨⟨by decide, by decide⟩, by decide +kernel⟩, im_X1_showsBow, se_X1_showsBow⟩
set_option maxHeartbeats 4000000 in
set_option maxRecDepth 100000 in
theorem kX1_showsBow {l : Launch} {G : GT} (q : Nat → Nat) (P : Ob) (x1 : Int) (x2 : Int) (x3 : Int) (v : (Int)) (h : fX1_showsBow P x1 x2 x3 = some v) : CT l G yX1_showsBow cX1_showsBow 6 (some .boolean) rX1_showsBow [.ref (q 31), vi x1, vi x2, vi x3] (W_P G q P) (W_P G q P) (some (vi v)) := by
  unfold fX1_showsBow at h
  refine CT.of (by decide) (Nat.le_of_ble_eq_true rfl) rfl (fun κ _ C => ?_)
  refine X.aload_n C dX1_showsBow_0 rfl 0 rfl ?_
  refine X.get C dX1_showsBow_1 lay_X1 0 rfl rfl 3 (by decide) fl_X1_43 rfl rfl ?_
  refine X.iload_n C dX1_showsBow_4 rfl 1 rfl ?_
  refine X.isub C dX1_showsBow_5 ?_
  refine X.getsNX C dX1_showsBow_6 fn_X1_105 ?_
  refine X.iload_n C dX1_showsBow_9 rfl 3 rfl ?_
  refine X.aldX C h dX1_showsBow_10 (fun h => ?_)
  refine X.imul C dX1_showsBow_11 ?_
  refine X.aload_n C dX1_showsBow_12 rfl 0 rfl ?_
  refine X.get C dX1_showsBow_13 lay_X1 0 rfl rfl 4 (by decide) fl_X1_46 rfl rfl ?_
  refine X.iload_n C dX1_showsBow_16 rfl 2 rfl ?_
  refine X.isub C dX1_showsBow_17 ?_
  refine X.getsNY C dX1_showsBow_18 fn_X1_108 ?_
  refine X.iload_n C dX1_showsBow_21 rfl 3 rfl ?_
  refine X.aldY C h dX1_showsBow_22 (fun h => ?_)
  refine X.imul C dX1_showsBow_23 ?_
  refine X.iadd C dX1_showsBow_24 ?_
  refine X.istoreN (lv2 := fun x4_1 => [(4, vi x4_1), (0, .ref (q 31)), (1, vi x1), (2, vi x2), (3, vi x3)]) C h dX1_showsBow_25 (by decide) (fun _ => rfl) (fun x4_1 h => ?_)
  refine X.aload_n C dX1_showsBow_27 rfl 1 rfl ?_
  refine X.get C dX1_showsBow_28 lay_X1 0 rfl rfl 3 (by decide) fl_X1_43 rfl rfl ?_
  refine X.iload_n C dX1_showsBow_31 rfl 2 rfl ?_
  refine X.isub C dX1_showsBow_32 ?_
  refine X.getsNY C dX1_showsBow_33 fn_X1_108 ?_
  refine X.iload_n C dX1_showsBow_36 rfl 4 rfl ?_
  refine X.aldY C h dX1_showsBow_37 (fun h => ?_)
  refine X.imul C dX1_showsBow_38 ?_
  refine X.mabs C dX1_showsBow_39 ml_X1_128 sm_J9_abs_0f7a4 in_java_lang_Math cd_J9_abs_0f7a4 (Nat.le_of_ble_eq_true rfl) (Nat.le_of_ble_eq_true rfl) (Nat.zero_le _) (Nat.zero_le _) ?_
  refine X.aload_n C dX1_showsBow_42 rfl 1 rfl ?_
  refine X.get C dX1_showsBow_43 lay_X1 0 rfl rfl 4 (by decide) fl_X1_46 rfl rfl ?_
  refine X.iload_n C dX1_showsBow_46 rfl 3 rfl ?_
  refine X.isub C dX1_showsBow_47 ?_
  refine X.getsNX C dX1_showsBow_48 fn_X1_105 ?_
  refine X.iload_n C dX1_showsBow_51 rfl 4 rfl ?_
  refine X.aldX C h dX1_showsBow_52 (fun h => ?_)
  refine X.imul C dX1_showsBow_53 ?_
  refine X.mabs C dX1_showsBow_54 ml_X1_128 sm_J9_abs_0f7a4 in_java_lang_Math cd_J9_abs_0f7a4 (Nat.le_of_ble_eq_true rfl) (Nat.le_of_ble_eq_true rfl) (Nat.zero_le _) (Nat.zero_le _) ?_
  refine X.iadd C dX1_showsBow_57 ?_
  refine X.istoreN (lv2 := fun x5_2 => [(5, vi x5_2), (4, vi x4_1), (0, .ref (q 31)), (1, vi x1), (2, vi x2), (3, vi x3)]) C h dX1_showsBow_58 (by decide) (fun _ => rfl) (fun x5_2 h => ?_)
  refine X.iload C dX1_showsBow_60 1 rfl ?_
  refine X.if_le (tgt := 78) C h dX1_showsBow_62 (by decide) (fun h => ?_) (fun h => ?_)
  · refine X.iconst C dX1_showsBow_78 ?_
    cases h
    exact X.zret C rfl dX1_showsBow_79 (Nat.zero_le _) (Nat.zero_le _)
  refine X.iload C dX1_showsBow_65 0 rfl ?_
  refine X.iload C dX1_showsBow_67 1 rfl ?_
  refine X.iconst C dX1_showsBow_69 ?_
  refine X.idiv C (by decide) dX1_showsBow_70 ?_
  refine X.icmp_gt (tgt := 78) C h dX1_showsBow_71 (by decide) (fun h => ?_) (fun h => ?_)
  · refine X.iconst C dX1_showsBow_78 ?_
    cases h
    exact X.zret C rfl dX1_showsBow_79 (Nat.zero_le _) (Nat.zero_le _)
  refine X.iconst C dX1_showsBow_74 ?_
  refine X.goto (tgt := 79) C dX1_showsBow_75 (by decide) ?_
  cases h
  exact X.zret C rfl dX1_showsBow_79 (Nat.zero_le _) (Nat.zero_le _)
def rX1_strayFrom : Room := { frames := 2, cells := 0, slots := 0, locals := 47 }
theorem mX1_strayFrom : MV yX1_strayFrom cX1_strayFrom 6 (some .int) 2 := ⟨cd_X1_strayFrom, in_X1, ⟨⟨by decide, by decide⟩, by decide +kernel⟩, im_X1_strayFrom, se_X1_strayFrom⟩
set_option maxHeartbeats 4000000 in
set_option maxRecDepth 100000 in
theorem xX1_strayFrom_11 {κ : Kx} {G : GT} (C : Cx κ G yX1_strayFrom cX1_strayFrom (some .int) 6 rX1_strayFrom) (q : Nat → Nat) (P : Ob) (x2 : Int) (x3 : Int) (v : (Int)) : ∀ (n : Nat) (x4 : Int) (x5 : Int), lX1_strayFrom_11 P x2 x3 n x4 x5 = some v → X κ G 6 (W_P G q P) 11 [(0, .ref (q 31)), (2, vi x2), (3, vi x3), (4, vi x4), (5, vi x5)] [] 0 0 (QM κ G (W_P G q P) (some (vi v)) rX1_strayFrom.cells rX1_strayFrom.slots) := by
  intro n
  induction n with
  | zero => intro _ _ h; exact absurd h (fun h => nomatch h)
  | succ n ih =>
    intro x4 x5 h
    rw [lX1_strayFrom_11] at h
    refine X.iload C dX1_strayFrom_11 4 rfl ?_
    refine X.aload_n C dX1_strayFrom_13 rfl 0 rfl ?_
    refine X.get C dX1_strayFrom_14 lay_X1 0 rfl rfl 11 (by decide) fl_X1_67 rfl rfl ?_
    refine X.icmp_ge (tgt := 51) C h dX1_strayFrom_17 (by decide) (fun h => ?_) (fun h => ?_)
    · refine X.iload C dX1_strayFrom_51 3 rfl ?_
      cases h
      exact X.iret C dX1_strayFrom_53 (Nat.zero_le _) (Nat.zero_le _)
    refine X.aload_n C dX1_strayFrom_20 rfl 0 rfl ?_
    refine X.iload C dX1_strayFrom_21 4 rfl ?_
    refine X.iload_n C dX1_strayFrom_23 rfl 2 rfl ?_
    refine X.iload_n C dX1_strayFrom_24 rfl 1 rfl ?_
    refine X.callVi (q0 := 0) (As := [vi x5, vi x3, vi x2]) (rest := []) (g := fun r_2 => r_2) (W1 := fun r_2 => (W_P G q P)) (ws2 := fun r_2 => (W_P G q P)) C h dX1_strayFrom_25 ml_X1_114 mX1_steadyPlace (fun v hv => kX1_steadyPlace q P x5 x3 x2 v hv) (fun _ => ln_P_P_p_n) rfl rfl rfl rfl rfl rfl rfl rfl (fun r_2 h => ?_)
    refine X.bipush C dX1_strayFrom_28 (by decide) ?_
    refine X.icmp_eq (tgt := 45) C h dX1_strayFrom_30 (by decide) (fun h => ?_) (fun h => ?_)
    · refine X.iincN (lv2 := fun x5_3 => [(5, vi x5_3), (0, .ref (q 31)), (2, vi x2), (3, vi x3), (4, vi x4)]) C h dX1_strayFrom_45 4 rfl (by decide) (fun _ => rfl) (fun x5_3 h => ?_)
      refine X.goto (tgt := 11) C dX1_strayFrom_48 (by decide) ?_
      refine X.sub [1, 2, 3, 4, 0] rfl ?_
      exact ih x4 x5_3 h
    refine X.iload C dX1_strayFrom_33 3 rfl ?_
    refine X.aload_n C dX1_strayFrom_35 rfl 0 rfl ?_
    refine X.get C dX1_strayFrom_36 lay_X1 0 rfl rfl 13 (by decide) fl_X1_15 rfl rfl ?_
    refine X.iload C dX1_strayFrom_39 4 rfl ?_
    refine X.iald C h dX1_strayFrom_41 2 rfl (fun h => ?_)
    refine X.iadd C dX1_strayFrom_42 ?_
    refine X.istoreN (lv2 := fun x4_4 => [(4, vi x4_4), (0, .ref (q 31)), (2, vi x2), (3, vi x3), (5, vi x5)]) C h dX1_strayFrom_43 (by decide) (fun _ => rfl) (fun x4_4 h => ?_)
    refine X.iincN (lv2 := fun x5_5 => [(5, vi x5_5), (4, vi x4_4), (0, .ref (q 31)), (2, vi x2), (3, vi x3)]) C h dX1_strayFrom_45 4 rfl (by decide) (fun _ => rfl) (fun x5_5 h => ?_)
    refine X.goto (tgt := 11) C dX1_strayFrom_48 (by decide) ?_
    refine X.sub [2, 3, 4, 1, 0] rfl ?_
    exact ih x4_4 x5_5 h
set_option maxHeartbeats 4000000 in
set_option maxRecDepth 100000 in
theorem kX1_strayFrom {l : Launch} {G : GT} (q : Nat → Nat) (P : Ob) (x1 : Int) (x2 : Int) (v : (Int)) (h : fX1_strayFrom P x1 x2 = some v) : CT l G yX1_strayFrom cX1_strayFrom 6 (some .int) rX1_strayFrom [.ref (q 31), vi x1, vi x2] (W_P G q P) (W_P G q P) (some (vi v)) := by
  unfold fX1_strayFrom at h
  refine CT.of (by decide) (Nat.le_of_ble_eq_true rfl) rfl (fun κ _ C => ?_)
  refine X.iload_n C dX1_strayFrom_0 rfl 1 rfl ?_
  refine X.callSNi (As := [vi x1]) (rest := []) (g := fun r_1 => r_1) (W1 := fun r_1 => W_0) (ws2 := fun r_1 => (W_P G q P)) C h dX1_strayFrom_1 mn_X1_117 mX7_flightOf (fun v hv => kX7_flightOf x1 v hv) (fun _ => ln_P_0__n) rfl rfl rfl rfl rfl rfl (fun r_1 h => ?_)
  refine X.istore_n (lv2 := [(3, vi r_1), (0, .ref (q 31)), (1, vi x1), (2, vi x2)]) C dX1_strayFrom_4 rfl (by decide) rfl ?_
  refine X.iconst C dX1_strayFrom_5 ?_
  refine X.istore (lv2 := [(4, vi 0), (3, vi r_1), (0, .ref (q 31)), (1, vi x1), (2, vi x2)]) C dX1_strayFrom_6 (by decide) rfl ?_
  refine X.iconst C dX1_strayFrom_8 ?_
  refine X.istore (lv2 := [(5, vi 0), (4, vi 0), (3, vi r_1), (0, .ref (q 31)), (1, vi x1), (2, vi x2)]) C dX1_strayFrom_9 (by decide) rfl ?_
  refine X.sub [3, 5, 2, 1, 0] rfl ?_
  refine xX1_strayFrom_11 C q P x2 r_1 v FU 0 0 h
def rX1_addRule : Room := { frames := 0, cells := 0, slots := 0, locals := 0 }
theorem mX1_addRule : MV yX1_addRule cX1_addRule 4 none 2 := ⟨cd_X1_addRule, in_X1, ⟨⟨by decide, by decide⟩, by decide +kernel⟩, im_X1_addRule, se_X1_addRule⟩
set_option maxHeartbeats 4000000 in
set_option maxRecDepth 100000 in
theorem xX1_addRule_12 {κ : Kx} {G : GT} (C : Cx κ G yX1_addRule cX1_addRule none 4 rX1_addRule) (q : Nat → Nat) (x2 : Int) (v : (Ob)) : ∀ (n : Nat) (x3 : Int) (P : Ob), lX1_addRule_12 x2 n x3 P = some v → X κ G 4 (W_P G q P) 12 [(0, .ref (q 31)), (2, vi x2), (3, vi x3)] [] 0 0 (QM κ G (W_P G q v) none rX1_addRule.cells rX1_addRule.slots) := by
  intro n
  induction n with
  | zero => intro _ _ h; exact absurd h (fun h => nomatch h)
  | succ n ih =>
    intro x3 P h
    rw [lX1_addRule_12] at h
    refine X.iload_n C dX1_addRule_12 rfl 2 rfl ?_
    refine X.bipush C dX1_addRule_13 (by decide) ?_
    refine X.icmp_ge (tgt := 31) C h dX1_addRule_15 (by decide) (fun h => ?_) (fun h => ?_)
    · cases h
      exact X.vret C dX1_addRule_31 (Nat.zero_le _) (Nat.zero_le _)
    refine X.aload_n C dX1_addRule_18 rfl 0 rfl ?_
    refine X.get C dX1_addRule_19 lay_X1 0 rfl rfl 19 (by decide) fl_X1_27 rfl rfl ?_
    refine X.iload_n C dX1_addRule_22 rfl 2 rfl ?_
    refine X.iload_n C dX1_addRule_23 rfl 1 rfl ?_
    refine X.iast (ws2 := (W_P G q (up2 P 19 (ix x3) x2))) C h dX1_addRule_24 6 rfl rfl (fun h => ?_)
    refine X.nameS (ws := fun P_2 => (W_P G q P_2)) h (fun P_2 h => ?_)
    refine X.iincN (lv2 := fun x3_3 => [(3, vi x3_3), (0, .ref (q 31)), (2, vi x2)]) C h dX1_addRule_25 2 rfl (by decide) (fun _ => rfl) (fun x3_3 h => ?_)
    refine X.goto (tgt := 12) C dX1_addRule_28 (by decide) ?_
    refine X.sub [1, 2, 0] rfl ?_
    exact ih x3_3 P_2 h
set_option maxHeartbeats 4000000 in
set_option maxRecDepth 100000 in
theorem kX1_addRule {l : Launch} {G : GT} (q : Nat → Nat) (P : Ob) (x1 : Int) (x2 : Int) (v : (Ob)) (h : fX1_addRule P x1 x2 = some v) : CT l G yX1_addRule cX1_addRule 4 none rX1_addRule [.ref (q 31), vi x1, vi x2] (W_P G q P) (W_P G q v) none := by
  unfold fX1_addRule at h
  refine CT.of (by decide) (Nat.le_of_ble_eq_true rfl) rfl (fun κ _ C => ?_)
  refine X.aload_n C dX1_addRule_0 rfl 0 rfl ?_
  refine X.dup C dX1_addRule_1 rfl ?_
  refine X.get C dX1_addRule_2 lay_X1 0 rfl rfl 18 (by decide) fl_X1_76 rfl rfl ?_
  refine X.iconst C dX1_addRule_5 ?_
  refine X.iadd C dX1_addRule_6 ?_
  refine X.put (ws2 := (W_P G q (up2 P 18 0 ((P 18 0) + 1)))) (ty := .int) C dX1_addRule_7 lay_X1 tyX1_ok nmX1 0 rfl rfl 18 (by decide) fl_X1_76 rfl rfl (by decide +kernel) rfl rfl (Nat.le_of_ble_eq_true rfl) rfl ?_
  refine X.nameS (ws := fun P_1 => (W_P G q P_1)) h (fun P_1 h => ?_)
  refine X.iload_n C dX1_addRule_10 rfl 1 rfl ?_
  refine X.istore_n (lv2 := [(3, vi x1), (0, .ref (q 31)), (1, vi x1), (2, vi x2)]) C dX1_addRule_11 rfl (by decide) rfl ?_
  refine X.sub [1, 3, 0] rfl ?_
  refine xX1_addRule_12 C q x2 v FU x1 P_1 h
