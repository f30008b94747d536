def rX7_pays : Room := { frames := 6, cells := 0, slots := 0, locals := 145 }
theorem mX7_pays : MV yX7_pays cX7_pays 8 (some .int) 2 := ⟨cd_X7_pays, in_X7, ⟨⟨by decide, by decide⟩, by decide +kernel⟩, im_X7_pays, se_X7_pays⟩
set_option maxHeartbeats 4000000 in
set_option maxRecDepth 100000 in
theorem xX7_pays_34 {κ : Kx} {G : GT} (C : Cx κ G yX7_pays cX7_pays (some .int) 8 rX7_pays) (q : Nat → Nat → Nat) (lx1 : Int) (lx2 : Int) (v : (Int × (Nat → Ob))) : ∀ (n : Nat) (lx4 : Int) (lx5 : Int) (lx6 : Int) (T : Nat → Ob), lX7_pays_34 lx1 lx2 n lx4 lx5 lx6 T = some v → X κ G 8 (W_T G q T) 34 [(0, .ref ((q 11) 31)), (1, vi lx1), (2, vi lx2), (4, vi lx4), (5, vi lx5), (6, vi lx6)] [] 0 0 (QM κ G (W_T G q v.2) (some (vi v.1)) rX7_pays.cells rX7_pays.slots) := by
  intro n
  induction n with
  | zero => intro _ _ _ _ h; exact absurd h (fun h => nomatch h)
  | succ n ih =>
    intro lx4 lx5 lx6 T h
    rw [lX7_pays_34] at h
    refine X.iload C dX7_pays_34 5 rfl ?_
    refine X.bipush C dX7_pays_36 (by decide) ?_
    refine X.icmp_gt (tgt := 90) C h dX7_pays_38 (by decide) (fun h => ?_) (fun h => ?_)
    · refine X.iload C dX7_pays_90 3 rfl ?_
      cases h
      exact X.iret C dX7_pays_92 (Nat.zero_le _) (Nat.zero_le _)
    refine X.aload_n C dX7_pays_41 rfl 0 rfl ?_
    refine X.iload_n C dX7_pays_42 rfl 1 rfl ?_
    refine X.iload C dX7_pays_43 5 rfl ?_
    refine X.callVv (q0 := 0) (As := [vi lx1, vi lx6]) (rest := []) (W1 := fun rr_3 => (W_T G q rr_3)) (ws2 := fun rr_3 => (W_T G q rr_3)) C h dX7_pays_45 ml_X7_317 mX7_dreamByHigh (fun v hv => kX7_dreamByHigh q T lx1 lx6 v hv) (fun rr_3 => ln_T_T_id_T (G := G) (q := q) (T := T) (NT := rr_3)) rfl rfl rfl rfl rfl rfl rfl rfl (fun rr_3 h => ?_)
    refine X.aload_n C dX7_pays_48 rfl 0 rfl ?_
    refine X.iconst C dX7_pays_49 ?_
    refine X.callVi (q0 := 0) (As := [vi 0]) (rest := []) (g := fun rr_4 => rr_4) (W1 := fun rr_4 => (W_T G q rr_3)) (ws2 := fun rr_4 => (W_T G q rr_3)) C h dX7_pays_50 ml_X7_305 mX7_gainOf (fun v hv => kX7_gainOf q rr_3 0 v hv) (fun rr_4 => ln_T_T_id_n (G := G) (q := q) (T := rr_3)) rfl rfl rfl rfl rfl rfl rfl rfl (fun rr_4 h => ?_)
    refine X.iload_n C dX7_pays_53 rfl 2 rfl ?_
    refine X.aload_n C dX7_pays_54 rfl 0 rfl ?_
    refine X.iconst C dX7_pays_55 ?_
    refine X.callVi (q0 := 0) (As := [vi 1]) (rest := [vi lx2, vi rr_4]) (g := fun rr_5 => rr_5) (W1 := fun rr_5 => (W_T G q rr_3)) (ws2 := fun rr_5 => (W_T G q rr_3)) C h dX7_pays_56 ml_X7_305 mX7_gainOf (fun v hv => kX7_gainOf q rr_3 1 v hv) (fun rr_5 => ln_T_T_id_n (G := G) (q := q) (T := rr_3)) rfl rfl rfl rfl rfl rfl rfl rfl (fun rr_5 h => ?_)
    refine X.imul C dX7_pays_59 ?_
    refine X.isub C dX7_pays_60 ?_
    refine X.istoreN (lv2 := fun lx7_6 => [(7, vi lx7_6), (0, .ref ((q 11) 31)), (1, vi lx1), (2, vi lx2), (4, vi lx4), (5, vi lx5), (6, vi lx6)]) C h dX7_pays_61 (by decide) (fun _ => rfl) (fun lx7_6 h => ?_)
    refine X.iload C dX7_pays_63 4 rfl ?_
    refine X.iconst C dX7_pays_65 ?_
    refine X.icmp_eq (tgt := 76) C h dX7_pays_66 (by decide) (fun h => ?_) (fun h => ?_)
    · refine X.iload C dX7_pays_76 0 rfl ?_
      refine X.istore (lv2 := [(5, vi lx7_6), (7, vi lx7_6), (0, .ref ((q 11) 31)), (1, vi lx1), (2, vi lx2), (4, vi lx4), (6, vi lx6)]) C dX7_pays_78 (by decide) rfl ?_
      refine X.iload C dX7_pays_80 6 rfl ?_
      refine X.istore (lv2 := [(4, vi lx6), (5, vi lx7_6), (7, vi lx7_6), (0, .ref ((q 11) 31)), (1, vi lx1), (2, vi lx2), (6, vi lx6)]) C dX7_pays_82 (by decide) rfl ?_
      refine X.iincN (lv2 := fun lx6_7 => [(6, vi lx6_7), (4, vi lx6), (5, vi lx7_6), (7, vi lx7_6), (0, .ref ((q 11) 31)), (1, vi lx1), (2, vi lx2)]) C h dX7_pays_84 6 rfl (by decide) (fun _ => rfl) (fun lx6_7 h => ?_)
      refine X.goto (tgt := 34) C dX7_pays_87 (by decide) ?_
      refine X.sub [4, 5, 6, 1, 2, 0] rfl ?_
      exact ih lx6 lx7_6 lx6_7 rr_3 h
    refine X.iload C dX7_pays_69 0 rfl ?_
    refine X.iload C dX7_pays_71 5 rfl ?_
    refine X.icmp_le (tgt := 84) C h dX7_pays_73 (by decide) (fun h => ?_) (fun h => ?_)
    · refine X.iincN (lv2 := fun lx6_8 => [(6, vi lx6_8), (7, vi lx7_6), (0, .ref ((q 11) 31)), (1, vi lx1), (2, vi lx2), (4, vi lx4), (5, vi lx5)]) C h dX7_pays_84 6 rfl (by decide) (fun _ => rfl) (fun lx6_8 h => ?_)
      refine X.goto (tgt := 34) C dX7_pays_87 (by decide) ?_
      refine X.sub [2, 3, 4, 5, 6, 0] rfl ?_
      exact ih lx4 lx5 lx6_8 rr_3 h
    refine X.iload C dX7_pays_76 0 rfl ?_
    refine X.istore (lv2 := [(5, vi lx7_6), (7, vi lx7_6), (0, .ref ((q 11) 31)), (1, vi lx1), (2, vi lx2), (4, vi lx4), (6, vi lx6)]) C dX7_pays_78 (by decide) rfl ?_
    refine X.iload C dX7_pays_80 6 rfl ?_
    refine X.istore (lv2 := [(4, vi lx6), (5, vi lx7_6), (7, vi lx7_6), (0, .ref ((q 11) 31)), (1, vi lx1), (2, vi lx2), (6, vi lx6)]) C dX7_pays_82 (by decide) rfl ?_
    refine X.iincN (lv2 := fun lx6_9 => [(6, vi lx6_9), (4, vi lx6), (5, vi lx7_6), (7, vi lx7_6), (0, .ref ((q 11) 31)), (1, vi lx1), (2, vi lx2)]) C h dX7_pays_84 6 rfl (by decide) (fun _ => rfl) (fun lx6_9 h => ?_)
    refine X.goto (tgt := 34) C dX7_pays_87 (by decide) ?_
    refine X.sub [4, 5, 6, 1, 2, 0] rfl ?_
    exact ih lx6 lx7_6 lx6_9 rr_3 h
set_option maxHeartbeats 4000000 in
set_option maxRecDepth 100000 in
theorem kX7_pays {l : Launch} {G : GT} (q : Nat → Nat → Nat) (T : Nat → Ob) (lx1 : Int) (lx2 : Int) (v : (Int × (Nat → Ob))) (h : fX7_pays T lx1 lx2 = some v) : CT l G yX7_pays cX7_pays 8 (some .int) rX7_pays [.ref ((q 11) 31), vi lx1, vi lx2] (W_T G q T) (W_T G q v.2) (some (vi v.1)) := by
  unfold fX7_pays at h
  refine CT.of (by decide) (Nat.le_of_ble_eq_true rfl) rfl (fun κ _ C => ?_)
  refine X.iload_n C dX7_pays_0 rfl 2 rfl ?_
  refine X.iconst C dX7_pays_1 ?_
  refine X.bipush C dX7_pays_2 (by decide) ?_
  refine X.callSi (As := [vi lx2, vi 0, vi 99]) (rest := []) (g := fun rr_1 => rr_1) (W1 := fun rr_1 => W_0) (ws2 := fun rr_1 => (W_T G q T)) C h dX7_pays_4 ml_X7_93 mX7_isWithin (fun v hv => kX7_isWithin lx2 0 99 v hv) (fun rr_1 => ln_T_0__n (G := G) (q := q) (T := T)) rfl rfl rfl rfl rfl rfl (fun rr_1 h => ?_)
  refine X.if_ne (tgt := 13) C h dX7_pays_7 (by decide) (fun h => ?_) (fun h => ?_)
  · refine X.aload_n C dX7_pays_13 rfl 0 rfl ?_
    refine X.iload_n C dX7_pays_14 rfl 1 rfl ?_
    refine X.callVi (q0 := 0) (As := [vi lx1]) (rest := []) (g := fun rr_2 => rr_2) (W1 := fun rr_2 => (W_T G q T)) (ws2 := fun rr_2 => (W_T G q T)) C h dX7_pays_15 ml_X7_105 mX7_refusalOf (fun v hv => kX7_refusalOf q T lx1 v hv) (fun rr_2 => ln_T_T_id_n (G := G) (q := q) (T := T)) rfl rfl rfl rfl rfl rfl rfl rfl (fun rr_2 h => ?_)
    refine X.istore_n (lv2 := [(3, vi rr_2), (0, .ref ((q 11) 31)), (1, vi lx1), (2, vi lx2)]) C dX7_pays_18 rfl (by decide) rfl ?_
    refine X.iload_n C dX7_pays_19 rfl 0 rfl ?_
    refine X.if_eq (tgt := 25) C h dX7_pays_20 (by decide) (fun h => ?_) (fun h => ?_)
    · refine X.iconst C dX7_pays_25 ?_
      refine X.istore (lv2 := [(4, vi (-1)), (3, vi rr_2), (0, .ref ((q 11) 31)), (1, vi lx1), (2, vi lx2)]) C dX7_pays_26 (by decide) rfl ?_
      refine X.iconst C dX7_pays_28 ?_
      refine X.istore (lv2 := [(5, vi 0), (4, vi (-1)), (3, vi rr_2), (0, .ref ((q 11) 31)), (1, vi lx1), (2, vi lx2)]) C dX7_pays_29 (by decide) rfl ?_
      refine X.iconst C dX7_pays_31 ?_
      refine X.istore (lv2 := [(6, vi 0), (5, vi 0), (4, vi (-1)), (3, vi rr_2), (0, .ref ((q 11) 31)), (1, vi lx1), (2, vi lx2)]) C dX7_pays_32 (by decide) rfl ?_
      refine X.sub [4, 5, 6, 2, 1, 0] rfl ?_
      refine xX7_pays_34 C q lx1 lx2 v FU (-1) 0 0 T h
    refine X.iload_n C dX7_pays_23 rfl 0 rfl ?_
    cases h
    exact X.iret C dX7_pays_24 (Nat.zero_le _) (Nat.zero_le _)
  refine X.bipush C dX7_pays_10 (by decide) ?_
  cases h
  exact X.iret C dX7_pays_12 (Nat.zero_le _) (Nat.zero_le _)
def rX7_dreamByStand : Room := { frames := 5, cells := 0, slots := 0, locals := 123 }
theorem mX7_dreamByStand : MV yX7_dreamByStand cX7_dreamByStand 4 (some .int) 3 := ⟨cd_X7_dreamByStand, in_X7, ⟨⟨by decide, by decide⟩, by decide +kernel⟩, im_X7_dreamByStand, se_X7_dreamByStand⟩
set_option maxHeartbeats 4000000 in
set_option maxRecDepth 100000 in
theorem kX7_dreamByStand {l : Launch} {G : GT} (q : Nat → Nat → Nat) (T : Nat → Ob) (lx1 : Int) (lx2 : Int) (lx3 : Int) (v : (Int × (Nat → Ob))) (h : fX7_dreamByStand T lx1 lx2 lx3 = some v) : CT l G yX7_dreamByStand cX7_dreamByStand 4 (some .int) rX7_dreamByStand [.ref ((q 11) 31), vi lx1, vi lx2, vi lx3] (W_T G q T) (W_T G q v.2) (some (vi v.1)) := by
  unfold fX7_dreamByStand at h
  refine CT.of (by decide) (Nat.le_of_ble_eq_true rfl) rfl (fun κ _ C => ?_)
  refine X.aload_n C dX7_dreamByStand_0 rfl 0 rfl ?_
  refine X.callVv (q0 := 0) (As := []) (rest := []) (W1 := fun rr_1 => (W_T G q rr_1)) (ws2 := fun rr_1 => (W_T G q rr_1)) C h dX7_dreamByStand_1 ml_X7_299 mX7_beginDream (fun v hv => kX7_beginDream q T v hv) (fun rr_1 => ln_T_T_id_T (G := G) (q := q) (T := T) (NT := rr_1)) rfl rfl rfl rfl rfl rfl rfl rfl (fun rr_1 h => ?_)
  refine X.aload_n C dX7_dreamByStand_4 rfl 0 rfl ?_
  refine X.get C dX7_dreamByStand_5 lay_X7 0 rfl rfl 3 (by decide) fl_X7_23 rfl rfl ?_
  refine X.get C dX7_dreamByStand_8 lay_X3 23 rfl rfl 0 (by decide) fl_X7_28 rfl rfl ?_
  refine X.iload_n C dX7_dreamByStand_11 rfl 2 rfl ?_
  refine X.put (ws2 := (W_T G q (upO rr_1 4 (up2 (rr_1 4) 3 0 lx2)))) (ty := .int) C dX7_dreamByStand_12 lay_X1 tyX1_ok nmX1 24 rfl rfl 3 (by decide) fl_X7_234 rfl rfl (by decide +kernel) rfl rfl (Nat.le_of_ble_eq_true rfl) rfl ?_
  refine X.nameS (ws := fun T_2 => (W_T G q T_2)) h (fun T_2 h => ?_)
  refine X.aload_n C dX7_dreamByStand_15 rfl 0 rfl ?_
  refine X.get C dX7_dreamByStand_16 lay_X7 0 rfl rfl 3 (by decide) fl_X7_23 rfl rfl ?_
  refine X.get C dX7_dreamByStand_19 lay_X3 23 rfl rfl 0 (by decide) fl_X7_28 rfl rfl ?_
  refine X.iload_n C dX7_dreamByStand_22 rfl 3 rfl ?_
  refine X.put (ws2 := (W_T G q (upO T_2 4 (up2 (T_2 4) 4 0 lx3)))) (ty := .int) C dX7_dreamByStand_23 lay_X1 tyX1_ok nmX1 24 rfl rfl 4 (by decide) fl_X7_240 rfl rfl (by decide +kernel) rfl rfl (Nat.le_of_ble_eq_true rfl) rfl ?_
  refine X.nameS (ws := fun T_3 => (W_T G q T_3)) h (fun T_3 h => ?_)
  refine X.aload_n C dX7_dreamByStand_26 rfl 0 rfl ?_
  refine X.iload_n C dX7_dreamByStand_27 rfl 1 rfl ?_
  refine X.callVv (q0 := 0) (As := [vi lx1]) (rest := []) (W1 := fun rr_4 => (W_T G q rr_4)) (ws2 := fun rr_4 => (W_T G q rr_4)) C h dX7_dreamByStand_28 ml_X7_302 mX7_dreamDay (fun v hv => kX7_dreamDay q T_3 lx1 v hv) (fun rr_4 => ln_T_T_id_T (G := G) (q := q) (T := T_3) (NT := rr_4)) rfl rfl rfl rfl rfl rfl rfl rfl (fun rr_4 h => ?_)
  refine X.aload_n C dX7_dreamByStand_31 rfl 0 rfl ?_
  refine X.iconst C dX7_dreamByStand_32 ?_
  refine X.callVi (q0 := 0) (As := [vi 4]) (rest := []) (g := fun rr_5 => rr_5) (W1 := fun rr_5 => (W_T G q rr_4)) (ws2 := fun rr_5 => (W_T G q rr_4)) C h dX7_dreamByStand_33 ml_X7_305 mX7_gainOf (fun v hv => kX7_gainOf q rr_4 4 v hv) (fun rr_5 => ln_T_T_id_n (G := G) (q := q) (T := rr_4)) rfl rfl rfl rfl rfl rfl rfl rfl (fun rr_5 h => ?_)
  cases h
  exact X.iret C dX7_dreamByStand_36 (Nat.zero_le _) (Nat.zero_le _)
def rX7_stand : Room := { frames := 6, cells := 0, slots := 0, locals := 146 }
theorem mX7_stand : MV yX7_stand cX7_stand 9 (some .int) 2 := ⟨cd_X7_stand, in_X7, ⟨⟨by decide, by decide⟩, by decide +kernel⟩, im_X7_stand, se_X7_stand⟩
set_option maxHeartbeats 4000000 in
set_option maxRecDepth 100000 in
theorem xX7_stand_133 {κ : Kx} {G : GT} (C : Cx κ G yX7_stand cX7_stand (some .int) 9 rX7_stand) (q : Nat → Nat → Nat) (kc0 : Int → Int → Int → (Nat → Ob) → Option (Int × (Nat → Ob))) (T : Nat → Ob) (lx1 : Int) (lx2 : Int) (lx6 : Int) (lx7 : Int) (lx8 : Int) (v : (Int × (Nat → Ob))) (hc0 : ∀ (lx4 : Int) (lx5 : Int) (lx7 : Int) (T : Nat → Ob), kc0 lx4 lx5 lx7 T = some v → X κ G 9 (W_T G q T) 75 [(0, .ref ((q 11) 31)), (1, vi lx1), (2, vi lx2), (4, vi lx4), (5, vi lx5), (6, vi lx6), (7, vi lx7)] [] 0 0 (QM κ G (W_T G q v.2) (some (vi v.1)) rX7_stand.cells rX7_stand.slots)) (h : jX7_stand_133 kc0 T lx1 lx2 lx6 lx7 lx8 = some v) : X κ G 9 (W_T G q T) 133 [(0, .ref ((q 11) 31)), (1, vi lx1), (2, vi lx2), (6, vi lx6), (7, vi lx7), (8, vi lx8)] [] 0 0 (QM κ G (W_T G q v.2) (some (vi v.1)) rX7_stand.cells rX7_stand.slots) := by
  unfold jX7_stand_133 at h
  refine X.iload C dX7_stand_133 5 rfl ?_
  refine X.istore (lv2 := [(5, vi lx8), (0, .ref ((q 11) 31)), (1, vi lx1), (2, vi lx2), (6, vi lx6), (7, vi lx7), (8, vi lx8)]) C dX7_stand_135 (by decide) rfl ?_
  refine X.iload C dX7_stand_137 5 rfl ?_
  refine X.iload C dX7_stand_139 4 rfl ?_
  refine X.callSi (As := [vi lx7, vi lx6]) (rest := []) (g := fun rr_9 => rr_9) (W1 := fun rr_9 => W_0) (ws2 := fun rr_9 => (W_T G q T)) C h dX7_stand_141 ml_X7_196 mX7_placeOf (fun v hv => kX7_placeOf lx7 lx6 v hv) (fun rr_9 => ln_T_0__n (G := G) (q := q) (T := T)) rfl rfl rfl rfl rfl rfl (fun rr_9 h => ?_)
  refine X.istore (lv2 := [(4, vi rr_9), (5, vi lx8), (0, .ref ((q 11) 31)), (1, vi lx1), (2, vi lx2), (6, vi lx6), (7, vi lx7), (8, vi lx8)]) C dX7_stand_144 (by decide) rfl ?_
  refine X.iincN (lv2 := fun lx7_10 => [(7, vi lx7_10), (4, vi rr_9), (5, vi lx8), (0, .ref ((q 11) 31)), (1, vi lx1), (2, vi lx2), (6, vi lx6), (8, vi lx8)]) C h dX7_stand_146 6 rfl (by decide) (fun _ => rfl) (fun lx7_10 h => ?_)
  refine X.goto (tgt := 75) C dX7_stand_149 (by decide) ?_
  refine X.sub [3, 4, 5, 1, 2, 6, 0] rfl ?_
  exact hc0 rr_9 lx8 lx7_10 T h
set_option maxHeartbeats 4000000 in
set_option maxRecDepth 100000 in
theorem xX7_stand_75 {κ : Kx} {G : GT} (C : Cx κ G yX7_stand cX7_stand (some .int) 9 rX7_stand) (q : Nat → Nat → Nat) (lx1 : Int) (lx2 : Int) (lx6 : Int) (kx0 : Int → Int → (Nat → Ob) → Option (Int × (Nat → Ob))) (v : (Int × (Nat → Ob))) (hk0 : ∀ (lx4 : Int) (lx5 : Int) (T : Nat → Ob), kx0 lx4 lx5 T = some v → X κ G 9 (W_T G q T) 152 [(0, .ref ((q 11) 31)), (1, vi lx1), (2, vi lx2), (4, vi lx4), (5, vi lx5), (6, vi lx6)] [] 0 0 (QM κ G (W_T G q v.2) (some (vi v.1)) rX7_stand.cells rX7_stand.slots)) : ∀ (n : Nat) (lx4 : Int) (lx5 : Int) (lx7 : Int) (T : Nat → Ob), lX7_stand_75 lx1 lx2 lx6 kx0 n lx4 lx5 lx7 T = some v → X κ G 9 (W_T G q T) 75 [(0, .ref ((q 11) 31)), (1, vi lx1), (2, vi lx2), (4, vi lx4), (5, vi lx5), (6, vi lx6), (7, vi lx7)] [] 0 0 (QM κ G (W_T G q v.2) (some (vi v.1)) rX7_stand.cells rX7_stand.slots) := by
  intro n
  induction n with
  | zero => intro _ _ _ _ h; exact absurd h (fun h => nomatch h)
  | succ n ih =>
    intro lx4 lx5 lx7 T h
    rw [lX7_stand_75] at h
    refine X.iload C dX7_stand_75 6 rfl ?_
    refine X.aload_n C dX7_stand_77 rfl 0 rfl ?_
    refine X.get C dX7_stand_78 lay_X7 0 rfl rfl 2 (by decide) fl_X7_19 rfl rfl ?_
    refine X.get C dX7_stand_81 lay_X3 5 rfl rfl 0 (by decide) fl_X7_28 rfl rfl ?_
    refine X.get C dX7_stand_84 lay_X1 6 rfl rfl 3 (by decide) fl_X7_234 rfl rfl ?_
    refine X.iload_n C dX7_stand_87 rfl 2 rfl ?_
    refine X.iadd C dX7_stand_88 ?_
    refine X.icmp_gt (tgt := 152) C h dX7_stand_89 (by decide) (fun h => ?_) (fun h => ?_)
    · refine X.sub [0, 1, 2, 3, 4, 5] rfl ?_
      exact hk0 lx4 lx5 T h
    refine X.aload_n C dX7_stand_92 rfl 0 rfl ?_
    refine X.get C dX7_stand_93 lay_X7 0 rfl rfl 2 (by decide) fl_X7_19 rfl rfl ?_
    refine X.get C dX7_stand_96 lay_X3 5 rfl rfl 0 (by decide) fl_X7_28 rfl rfl ?_
    refine X.iload C dX7_stand_99 6 rfl ?_
    refine X.iload C dX7_stand_101 5 rfl ?_
    refine X.callVi (q0 := 6) (As := [vi lx7, vi lx6]) (rest := []) (g := fun rr_5 => rr_5) (W1 := fun rr_5 => (W_P G (q 2) (T 2))) (ws2 := fun rr_5 => (W_T G q T)) C h dX7_stand_103 ml_X7_120 mX1_isCell (fun v hv => kX1_isCell (q 2) (T 2) lx7 lx6 v hv) (fun rr_5 => ln_T_P_np_n (G := G) (q := q) (T := T)) rfl rfl rfl rfl rfl rfl rfl rfl (fun rr_5 h => ?_)
    refine X.if_eq (tgt := 146) C h dX7_stand_106 (by decide) (fun h => ?_) (fun h => ?_)
    · refine X.iincN (lv2 := fun lx7_6 => [(7, vi lx7_6), (0, .ref ((q 11) 31)), (1, vi lx1), (2, vi lx2), (4, vi lx4), (5, vi lx5), (6, vi lx6)]) C h dX7_stand_146 6 rfl (by decide) (fun _ => rfl) (fun lx7_6 h => ?_)
      refine X.goto (tgt := 75) C dX7_stand_149 (by decide) ?_
      refine X.sub [1, 2, 3, 4, 5, 6, 0] rfl ?_
      exact ih lx4 lx5 lx7_6 T h
    refine X.aload_n C dX7_stand_109 rfl 0 rfl ?_
    refine X.iload_n C dX7_stand_110 rfl 1 rfl ?_
    refine X.iload C dX7_stand_111 6 rfl ?_
    refine X.iload C dX7_stand_113 5 rfl ?_
    refine X.callVi (q0 := 0) (As := [vi lx1, vi lx7, vi lx6]) (rest := []) (g := fun rr_7 => rr_7.1) (W1 := fun rr_7 => (W_T G q rr_7.2)) (ws2 := fun rr_7 => (W_T G q rr_7.2)) C h dX7_stand_115 ml_X7_330 mX7_dreamByStand (fun v hv => kX7_dreamByStand q T lx1 lx7 lx6 v hv) (fun rr_7 => ln_T_T_id_T (G := G) (q := q) (T := T) (NT := rr_7.2)) rfl rfl rfl rfl rfl rfl rfl rfl (fun rr_7 h => ?_)
    refine X.istoreN (lv2 := fun lx8_8 => [(8, vi lx8_8), (0, .ref ((q 11) 31)), (1, vi lx1), (2, vi lx2), (4, vi lx4), (5, vi lx5), (6, vi lx6), (7, vi lx7)]) C h dX7_stand_118 (by decide) (fun _ => rfl) (fun lx8_8 h => ?_)
    refine X.iload C dX7_stand_120 4 rfl ?_
    refine X.iconst C dX7_stand_122 ?_
    refine X.icmp_eq (tgt := 133) C h dX7_stand_123 (by decide) (fun h => ?_) (fun h => ?_)
    · refine X.sub [1, 2, 3, 6, 7, 0] rfl ?_
      exact xX7_stand_133 C q (lX7_stand_75 lx1 lx2 lx6 kx0 n) rr_7.2 lx1 lx2 lx6 lx7 lx8_8 v ih h
    refine X.iload C dX7_stand_126 0 rfl ?_
    refine X.iload C dX7_stand_128 5 rfl ?_
    refine X.icmp_ge (tgt := 146) C h dX7_stand_130 (by decide) (fun h => ?_) (fun h => ?_)
    · refine X.iincN (lv2 := fun lx7_11 => [(7, vi lx7_11), (8, vi lx8_8), (0, .ref ((q 11) 31)), (1, vi lx1), (2, vi lx2), (4, vi lx4), (5, vi lx5), (6, vi lx6)]) C h dX7_stand_146 7 rfl (by decide) (fun _ => rfl) (fun lx7_11 h => ?_)
      refine X.goto (tgt := 75) C dX7_stand_149 (by decide) ?_
      refine X.sub [2, 3, 4, 5, 6, 7, 0] rfl ?_
      exact ih lx4 lx5 lx7_11 rr_7.2 h
    refine X.sub [1, 2, 3, 6, 7, 0] rfl ?_
    exact xX7_stand_133 C q (lX7_stand_75 lx1 lx2 lx6 kx0 n) rr_7.2 lx1 lx2 lx6 lx7 lx8_8 v ih h
set_option maxHeartbeats 4000000 in
set_option maxRecDepth 100000 in
theorem xX7_stand_44 {κ : Kx} {G : GT} (C : Cx κ G yX7_stand cX7_stand (some .int) 9 rX7_stand) (q : Nat → Nat → Nat) (lx1 : Int) (lx2 : Int) (v : (Int × (Nat → Ob))) : ∀ (n : Nat) (lx4 : Int) (lx5 : Int) (lx6 : Int) (T : Nat → Ob), lX7_stand_44 lx1 lx2 n lx4 lx5 lx6 T = some v → X κ G 9 (W_T G q T) 44 [(0, .ref ((q 11) 31)), (1, vi lx1), (2, vi lx2), (4, vi lx4), (5, vi lx5), (6, vi lx6)] [] 0 0 (QM κ G (W_T G q v.2) (some (vi v.1)) rX7_stand.cells rX7_stand.slots) := by
  intro n
  induction n with
  | zero => intro _ _ _ _ h; exact absurd h (fun h => nomatch h)
  | succ n ih =>
    intro lx4 lx5 lx6 T h
    rw [lX7_stand_44] at h
    refine X.iload C dX7_stand_44 5 rfl ?_
    refine X.aload_n C dX7_stand_46 rfl 0 rfl ?_
    refine X.get C dX7_stand_47 lay_X7 0 rfl rfl 2 (by decide) fl_X7_19 rfl rfl ?_
    refine X.get C dX7_stand_50 lay_X3 5 rfl rfl 0 (by decide) fl_X7_28 rfl rfl ?_
    refine X.get C dX7_stand_53 lay_X1 6 rfl rfl 4 (by decide) fl_X7_240 rfl rfl ?_
    refine X.iload_n C dX7_stand_56 rfl 2 rfl ?_
    refine X.iadd C dX7_stand_57 ?_
    refine X.icmp_gt (tgt := 158) C h dX7_stand_58 (by decide) (fun h => ?_) (fun h => ?_)
    · refine X.iload C dX7_stand_158 3 rfl ?_
      cases h
      exact X.iret C dX7_stand_160 (Nat.zero_le _) (Nat.zero_le _)
    refine X.aload_n C dX7_stand_61 rfl 0 rfl ?_
    refine X.get C dX7_stand_62 lay_X7 0 rfl rfl 2 (by decide) fl_X7_19 rfl rfl ?_
    refine X.get C dX7_stand_65 lay_X3 5 rfl rfl 0 (by decide) fl_X7_28 rfl rfl ?_
    refine X.get C dX7_stand_68 lay_X1 6 rfl rfl 3 (by decide) fl_X7_234 rfl rfl ?_
    refine X.iload_n C dX7_stand_71 rfl 2 rfl ?_
    refine X.isub C dX7_stand_72 ?_
    refine X.istoreN (lv2 := fun lx7_4 => [(7, vi lx7_4), (0, .ref ((q 11) 31)), (1, vi lx1), (2, vi lx2), (4, vi lx4), (5, vi lx5), (6, vi lx6)]) C h dX7_stand_73 (by decide) (fun _ => rfl) (fun lx7_4 h => ?_)
    refine X.sub [1, 2, 3, 4, 5, 6, 0] rfl ?_
    refine xX7_stand_75 C q lx1 lx2 lx6 _ v (fun lx4_12 lx5_13 T_14 h => ?_) FU lx4 lx5 lx7_4 T h
    · refine X.iincN (lv2 := fun lx6_15 => [(6, vi lx6_15), (0, .ref ((q 11) 31)), (1, vi lx1), (2, vi lx2), (4, vi lx4_12), (5, vi lx5_13)]) C h dX7_stand_152 5 rfl (by decide) (fun _ => rfl) (fun lx6_15 h => ?_)
      refine X.goto (tgt := 44) C dX7_stand_155 (by decide) ?_
      refine X.sub [1, 2, 3, 4, 5, 0] rfl ?_
      exact ih lx4_12 lx5_13 lx6_15 T_14 h
set_option maxHeartbeats 4000000 in
set_option maxRecDepth 100000 in
theorem kX7_stand {l : Launch} {G : GT} (q : Nat → Nat → Nat) (T : Nat → Ob) (lx1 : Int) (lx2 : Int) (v : (Int × (Nat → Ob))) (h : fX7_stand T lx1 lx2 = some v) : CT l G yX7_stand cX7_stand 9 (some .int) rX7_stand [.ref ((q 11) 31), vi lx1, vi lx2] (W_T G q T) (W_T G q v.2) (some (vi v.1)) := by
  unfold fX7_stand at h
  refine CT.of (by decide) (Nat.le_of_ble_eq_true rfl) rfl (fun κ _ C => ?_)
  refine X.iload_n C dX7_stand_0 rfl 2 rfl ?_
  refine X.iconst C dX7_stand_1 ?_
  refine X.iconst C dX7_stand_2 ?_
  refine X.callSi (As := [vi lx2, vi 0, vi 3]) (rest := []) (g := fun rr_1 => rr_1) (W1 := fun rr_1 => W_0) (ws2 := fun rr_1 => (W_T G q T)) C h dX7_stand_3 ml_X7_93 mX7_isWithin (fun v hv => kX7_isWithin lx2 0 3 v hv) (fun rr_1 => ln_T_0__n (G := G) (q := q) (T := T)) rfl rfl rfl rfl rfl rfl (fun rr_1 h => ?_)
  refine X.if_ne (tgt := 12) C h dX7_stand_6 (by decide) (fun h => ?_) (fun h => ?_)
  · refine X.aload_n C dX7_stand_12 rfl 0 rfl ?_
    refine X.iload_n C dX7_stand_13 rfl 1 rfl ?_
    refine X.callVi (q0 := 0) (As := [vi lx1]) (rest := []) (g := fun rr_2 => rr_2) (W1 := fun rr_2 => (W_T G q T)) (ws2 := fun rr_2 => (W_T G q T)) C h dX7_stand_14 ml_X7_105 mX7_refusalOf (fun v hv => kX7_refusalOf q T lx1 v hv) (fun rr_2 => ln_T_T_id_n (G := G) (q := q) (T := T)) rfl rfl rfl rfl rfl rfl rfl rfl (fun rr_2 h => ?_)
    refine X.istore_n (lv2 := [(3, vi rr_2), (0, .ref ((q 11) 31)), (1, vi lx1), (2, vi lx2)]) C dX7_stand_17 rfl (by decide) rfl ?_
    refine X.iload_n C dX7_stand_18 rfl 0 rfl ?_
    refine X.if_eq (tgt := 24) C h dX7_stand_19 (by decide) (fun h => ?_) (fun h => ?_)
    · refine X.iconst C dX7_stand_24 ?_
      refine X.istore (lv2 := [(4, vi (-1)), (3, vi rr_2), (0, .ref ((q 11) 31)), (1, vi lx1), (2, vi lx2)]) C dX7_stand_25 (by decide) rfl ?_
      refine X.iconst C dX7_stand_27 ?_
      refine X.istore (lv2 := [(5, vi 0), (4, vi (-1)), (3, vi rr_2), (0, .ref ((q 11) 31)), (1, vi lx1), (2, vi lx2)]) C dX7_stand_28 (by decide) rfl ?_
      refine X.aload_n C dX7_stand_30 rfl 3 rfl ?_
      refine X.get C dX7_stand_31 lay_X7 0 rfl rfl 2 (by decide) fl_X7_19 rfl rfl ?_
      refine X.get C dX7_stand_34 lay_X3 5 rfl rfl 0 (by decide) fl_X7_28 rfl rfl ?_
      refine X.get C dX7_stand_37 lay_X1 6 rfl rfl 4 (by decide) fl_X7_240 rfl rfl ?_
      refine X.iload_n C dX7_stand_40 rfl 5 rfl ?_
      refine X.isub C dX7_stand_41 ?_
      refine X.istoreN (lv2 := fun lx6_3 => [(6, vi lx6_3), (5, vi 0), (4, vi (-1)), (3, vi rr_2), (0, .ref ((q 11) 31)), (1, vi lx1), (2, vi lx2)]) C h dX7_stand_42 (by decide) (fun _ => rfl) (fun lx6_3 h => ?_)
      refine X.sub [4, 5, 6, 2, 1, 0] rfl ?_
      refine xX7_stand_44 C q lx1 lx2 v FU (-1) 0 lx6_3 T h
    refine X.iload_n C dX7_stand_22 rfl 0 rfl ?_
    cases h
    exact X.iret C dX7_stand_23 (Nat.zero_le _) (Nat.zero_le _)
  refine X.bipush C dX7_stand_9 (by decide) ?_
  cases h
  exact X.iret C dX7_stand_11 (Nat.zero_le _) (Nat.zero_le _)
def rX7_dry : Room := { frames := 5, cells := 0, slots := 0, locals := 123 }
theorem mX7_dry : MV yX7_dry cX7_dry 5 (some .int) 1 := ⟨cd_X7_dry, in_X7, ⟨⟨by decide, by decide⟩, by decide +kernel⟩, im_X7_dry, se_X7_dry⟩
set_option maxHeartbeats 4000000 in
set_option maxRecDepth 100000 in
theorem xX7_dry_26 {κ : Kx} {G : GT} (C : Cx κ G yX7_dry cX7_dry (some .int) 5 rX7_dry) (q : Nat → Nat → Nat) (T : Nat → Ob) (v : (Int × (Nat → Ob))) : ∀ (n : Nat) (lx3 : Int) (lx4 : Int), lX7_dry_26 T n lx3 lx4 = some v → X κ G 5 (W_T G q T) 26 [(0, .ref ((q 11) 31)), (3, vi lx3), (4, vi lx4)] [] 0 0 (QM κ G (W_T G q v.2) (some (vi v.1)) rX7_dry.cells rX7_dry.slots) := by
  intro n
  induction n with
  | zero => intro _ _ h; exact absurd h (fun h => nomatch h)
  | succ n ih =>
    intro lx3 lx4 h
    rw [lX7_dry_26] at h
    refine X.iload C dX7_dry_26 2 rfl ?_
    refine X.aload_n C dX7_dry_28 rfl 0 rfl ?_
    refine X.get C dX7_dry_29 lay_X7 0 rfl rfl 2 (by decide) fl_X7_19 rfl rfl ?_
    refine X.get C dX7_dry_32 lay_X3 5 rfl rfl 0 (by decide) fl_X7_28 rfl rfl ?_
    refine X.get C dX7_dry_35 lay_X1 6 rfl rfl 14 (by decide) fl_X7_202 rfl rfl ?_
    refine X.icmp_ge (tgt := 75) C h dX7_dry_38 (by decide) (fun h => ?_) (fun h => ?_)
    · refine X.iload_n C dX7_dry_75 rfl 1 rfl ?_
      cases h
      exact X.iret C dX7_dry_76 (Nat.zero_le _) (Nat.zero_le _)
    refine X.aload_n C dX7_dry_41 rfl 0 rfl ?_
    refine X.get C dX7_dry_42 lay_X7 0 rfl rfl 3 (by decide) fl_X7_23 rfl rfl ?_
    refine X.iload C dX7_dry_45 2 rfl ?_
    refine X.callVi (q0 := 23) (As := [vi lx4]) (rest := []) (g := fun rr_4 => rr_4) (W1 := fun rr_4 => (W_S G (q 13) (q 4) (q 5) (T 4) (T 5))) (ws2 := fun rr_4 => (W_T G q T)) C h dX7_dry_47 ml_X7_141 mX3_tableWet (fun v hv => kX3_tableWet (q 13) (q 4) (q 5) (T 4) (T 5) lx4 v hv) (fun rr_4 => ln_T_S_ds_dp_da_n (G := G) (q := q) (T := T)) rfl rfl rfl rfl rfl rfl rfl rfl (fun rr_4 h => ?_)
    refine X.aload_n C dX7_dry_50 rfl 0 rfl ?_
    refine X.get C dX7_dry_51 lay_X7 0 rfl rfl 2 (by decide) fl_X7_19 rfl rfl ?_
    refine X.iload C dX7_dry_54 2 rfl ?_
    refine X.callVi (q0 := 5) (As := [vi lx4]) (rest := [vi rr_4]) (g := fun rr_5 => rr_5) (W1 := fun rr_5 => (W_S G (q 12) (q 2) (q 3) (T 2) (T 3))) (ws2 := fun rr_5 => (W_T G q T)) C h dX7_dry_56 ml_X7_141 mX3_tableWet (fun v hv => kX3_tableWet (q 12) (q 2) (q 3) (T 2) (T 3) lx4 v hv) (fun rr_5 => ln_T_S_ns_np_na_n (G := G) (q := q) (T := T)) rfl rfl rfl rfl rfl rfl rfl rfl (fun rr_5 h => ?_)
    refine X.icmp_gt (tgt := 69) C h dX7_dry_59 (by decide) (fun h => ?_) (fun h => ?_)
    · refine X.iincN (lv2 := fun lx4_6 => [(4, vi lx4_6), (0, .ref ((q 11) 31)), (3, vi lx3)]) C h dX7_dry_69 2 rfl (by decide) (fun _ => rfl) (fun lx4_6 h => ?_)
      refine X.goto (tgt := 26) C dX7_dry_72 (by decide) ?_
      refine X.sub [1, 2, 0] rfl ?_
      exact ih lx3 lx4_6 h
    refine X.iload_n C dX7_dry_62 rfl 1 rfl ?_
    refine X.iconst C dX7_dry_63 ?_
    refine X.iload C dX7_dry_64 2 rfl ?_
    refine X.ishl C dX7_dry_66 ?_
    refine X.ior C dX7_dry_67 ?_
    refine X.istoreN_n (lv2 := fun lx3_7 => [(3, vi lx3_7), (0, .ref ((q 11) 31)), (4, vi lx4)]) C h dX7_dry_68 rfl (by decide) (fun _ => rfl) (fun lx3_7 h => ?_)
    refine X.iincN (lv2 := fun lx4_8 => [(4, vi lx4_8), (3, vi lx3_7), (0, .ref ((q 11) 31))]) C h dX7_dry_69 2 rfl (by decide) (fun _ => rfl) (fun lx4_8 h => ?_)
    refine X.goto (tgt := 26) C dX7_dry_72 (by decide) ?_
    refine X.sub [2, 1, 0] rfl ?_
    exact ih lx3_7 lx4_8 h
set_option maxHeartbeats 4000000 in
set_option maxRecDepth 100000 in
theorem kX7_dry {l : Launch} {G : GT} (q : Nat → Nat → Nat) (T : Nat → Ob) (lx1 : Int) (v : (Int × (Nat → Ob))) (h : fX7_dry T lx1 = some v) : CT l G yX7_dry cX7_dry 5 (some .int) rX7_dry [.ref ((q 11) 31), vi lx1] (W_T G q T) (W_T G q v.2) (some (vi v.1)) := by
  unfold fX7_dry at h
  refine CT.of (by decide) (Nat.le_of_ble_eq_true rfl) rfl (fun κ _ C => ?_)
  refine X.aload_n C dX7_dry_0 rfl 0 rfl ?_
  refine X.iload_n C dX7_dry_1 rfl 1 rfl ?_
  refine X.callVi (q0 := 0) (As := [vi lx1]) (rest := []) (g := fun rr_1 => rr_1) (W1 := fun rr_1 => (W_T G q T)) (ws2 := fun rr_1 => (W_T G q T)) C h dX7_dry_2 ml_X7_105 mX7_refusalOf (fun v hv => kX7_refusalOf q T lx1 v hv) (fun rr_1 => ln_T_T_id_n (G := G) (q := q) (T := T)) rfl rfl rfl rfl rfl rfl rfl rfl (fun rr_1 h => ?_)
  refine X.istore_n (lv2 := [(2, vi rr_1), (0, .ref ((q 11) 31)), (1, vi lx1)]) C dX7_dry_5 rfl (by decide) rfl ?_
  refine X.iload_n C dX7_dry_6 rfl 0 rfl ?_
  refine X.if_eq (tgt := 12) C h dX7_dry_7 (by decide) (fun h => ?_) (fun h => ?_)
  · refine X.aload_n C dX7_dry_12 rfl 1 rfl ?_
    refine X.callVv (q0 := 0) (As := []) (rest := []) (W1 := fun rr_2 => (W_T G q rr_2)) (ws2 := fun rr_2 => (W_T G q rr_2)) C h dX7_dry_13 ml_X7_299 mX7_beginDream (fun v hv => kX7_beginDream q T v hv) (fun rr_2 => ln_T_T_id_T (G := G) (q := q) (T := T) (NT := rr_2)) rfl rfl rfl rfl rfl rfl rfl rfl (fun rr_2 h => ?_)
    refine X.aload_n C dX7_dry_16 rfl 1 rfl ?_
    refine X.iload_n C dX7_dry_17 rfl 2 rfl ?_
    refine X.callVv (q0 := 0) (As := [vi lx1]) (rest := []) (W1 := fun rr_3 => (W_T G q rr_3)) (ws2 := fun rr_3 => (W_T G q rr_3)) C h dX7_dry_18 ml_X7_302 mX7_dreamDay (fun v hv => kX7_dreamDay q rr_2 lx1 v hv) (fun rr_3 => ln_T_T_id_T (G := G) (q := q) (T := rr_2) (NT := rr_3)) rfl rfl rfl rfl rfl rfl rfl rfl (fun rr_3 h => ?_)
    refine X.iconst C dX7_dry_21 ?_
    refine X.istore_n (lv2 := [(3, vi 0), (2, vi rr_1), (0, .ref ((q 11) 31)), (1, vi lx1)]) C dX7_dry_22 rfl (by decide) rfl ?_
    refine X.iconst C dX7_dry_23 ?_
    refine X.istore (lv2 := [(4, vi 0), (3, vi 0), (2, vi rr_1), (0, .ref ((q 11) 31)), (1, vi lx1)]) C dX7_dry_24 (by decide) rfl ?_
    refine X.sub [3, 1, 0] rfl ?_
    refine xX7_dry_26 C q rr_3 v FU 0 0 h
  refine X.iload_n C dX7_dry_10 rfl 0 rfl ?_
  cases h
  exact X.iret C dX7_dry_11 (Nat.zero_le _) (Nat.zero_le _)
def rX7_shut : Room := { frames := 4, cells := 0, slots := 0, locals := 122 }
theorem mX7_shut : MV yX7_shut cX7_shut 5 (some .int) 2 := ⟨cd_X7_shut, in_X7, ⟨⟨by decide, by decide⟩, by decide +kernel⟩, im_X7_shut, se_X7_shut⟩
set_option maxHeartbeats 4000000 in
set_option maxRecDepth 100000 in
theorem xX7_shut_46 {κ : Kx} {G : GT} (C : Cx κ G yX7_shut cX7_shut (some .int) 5 rX7_shut) (q : Nat → Nat → Nat) (lx1 : Int) (lx2 : Int) (v : (Int × (Nat → Ob))) : ∀ (n : Nat) (lx4 : Int) (T : Nat → Ob), lX7_shut_46 lx1 lx2 n lx4 T = some v → X κ G 5 (W_T G q T) 46 [(0, .ref ((q 11) 31)), (1, vi lx1), (2, vi lx2), (4, vi lx4)] [] 0 0 (QM κ G (W_T G q v.2) (some (vi v.1)) rX7_shut.cells rX7_shut.slots) := by
  intro n
  induction n with
  | zero => intro _ _ h; exact absurd h (fun h => nomatch h)
  | succ n ih =>
    intro lx4 T h
    rw [lX7_shut_46] at h
    refine X.iload C dX7_shut_46 3 rfl ?_
    refine X.aload_n C dX7_shut_48 rfl 0 rfl ?_
    refine X.get C dX7_shut_49 lay_X7 0 rfl rfl 5 (by decide) fl_X7_45 rfl rfl ?_
    refine X.iload_n C dX7_shut_52 rfl 1 rfl ?_
    refine X.aldR C h dX7_shut_53 1 rfl (fun h hj_5 => ?_)
    refine X.get C dX7_shut_54 lay_X2 (41 + 2 * (ix lx1)) (row_o hj_5) rfl 2 (by decide) fl_X7_333 rfl rfl ?_
    refine X.icmp_ge (tgt := 101) C h dX7_shut_57 (by decide) (fun h => ?_) (fun h => ?_)
    · refine X.iconst C dX7_shut_101 ?_
      cases h
      exact X.iret C dX7_shut_102 (Nat.zero_le _) (Nat.zero_le _)
    refine X.aload_n C dX7_shut_60 rfl 0 rfl ?_
    refine X.get C dX7_shut_61 lay_X7 0 rfl rfl 3 (by decide) fl_X7_23 rfl rfl ?_
    refine X.aload_n C dX7_shut_64 rfl 0 rfl ?_
    refine X.get C dX7_shut_65 lay_X7 0 rfl rfl 5 (by decide) fl_X7_45 rfl rfl ?_
    refine X.iload_n C dX7_shut_68 rfl 1 rfl ?_
    refine X.aldR C h dX7_shut_69 1 rfl (fun h hj_6 => ?_)
    refine X.iload C dX7_shut_70 3 rfl ?_
    refine X.callVi (q0 := (41 + 2 * (ix lx1))) (As := [vi lx4]) (rest := [.ref ((q 13) 31)]) (g := fun rr_7 => rr_7) (W1 := fun rr_7 => (W_R G (q (6 + (ix lx1))) (T (6 + (ix lx1))))) (ws2 := fun rr_7 => (W_T G q T)) C h dX7_shut_72 ml_X7_334 mX2_windAt (fun v hv => kX2_windAt (q (6 + (ix lx1))) (T (6 + (ix lx1))) lx4 v hv) (fun rr_7 => ln_T_R_row_n (G := G) (q := q) (T := T) hj_6) (row_o hj_6) rfl rfl rfl rfl rfl rfl rfl (fun rr_7 h => ?_)
    refine X.callVi (q0 := 23) (As := [vi rr_7]) (rest := []) (g := fun rr_8 => rr_8.1) (W1 := fun rr_8 => (W_S G (q 13) (q 4) (q 5) (T 4) rr_8.2)) (ws2 := fun rr_8 => (W_T G q (upO T 5 rr_8.2))) C h dX7_shut_75 ml_X7_337 mX3_playWind (fun v hv => kX3_playWind (q 13) (q 4) (q 5) (T 4) (T 5) rr_7 v hv) (fun rr_8 => ln_T_S_ds_dp_da_A (G := G) (q := q) (T := T) (NA := rr_8.2)) rfl rfl rfl rfl rfl rfl rfl rfl (fun rr_8 h => ?_)
    refine X.nameS (ws := fun T_9 => (W_T G q T_9)) h (fun T_9 h => ?_)
    refine X.pop C dX7_shut_78 rfl ?_
    refine X.aload_n C dX7_shut_79 rfl 0 rfl ?_
    refine X.get C dX7_shut_80 lay_X7 0 rfl rfl 3 (by decide) fl_X7_23 rfl rfl ?_
    refine X.callVi (q0 := 23) (As := []) (rest := []) (g := fun rr_10 => rr_10) (W1 := fun rr_10 => (W_S G (q 13) (q 4) (q 5) (T_9 4) (T_9 5))) (ws2 := fun rr_10 => (W_T G q T_9)) C h dX7_shut_83 ml_X7_184 mX3_roadWet (fun v hv => kX3_roadWet (q 13) (q 4) (q 5) (T_9 4) (T_9 5) v hv) (fun rr_10 => ln_T_S_ds_dp_da_n (G := G) (q := q) (T := T_9)) rfl rfl rfl rfl rfl rfl rfl rfl (fun rr_10 h => ?_)
    refine X.iload_n C dX7_shut_86 rfl 2 rfl ?_
    refine X.icmp_lt (tgt := 95) C h dX7_shut_87 (by decide) (fun h => ?_) (fun h => ?_)
    · refine X.iincN (lv2 := fun lx4_11 => [(4, vi lx4_11), (0, .ref ((q 11) 31)), (1, vi lx1), (2, vi lx2)]) C h dX7_shut_95 3 rfl (by decide) (fun _ => rfl) (fun lx4_11 h => ?_)
      refine X.goto (tgt := 46) C dX7_shut_98 (by decide) ?_
      refine X.sub [1, 2, 3, 0] rfl ?_
      exact ih lx4_11 T_9 h
    refine X.iload C dX7_shut_90 3 rfl ?_
    refine X.iconst C dX7_shut_92 ?_
    refine X.iadd C dX7_shut_93 ?_
    cases h
    exact X.iret C dX7_shut_94 (Nat.zero_le _) (Nat.zero_le _)
set_option maxHeartbeats 4000000 in
set_option maxRecDepth 100000 in
theorem kX7_shut {l : Launch} {G : GT} (q : Nat → Nat → Nat) (T : Nat → Ob) (lx1 : Int) (lx2 : Int) (v : (Int × (Nat → Ob))) (h : fX7_shut T lx1 lx2 = some v) : CT l G yX7_shut cX7_shut 5 (some .int) rX7_shut [.ref ((q 11) 31), vi lx1, vi lx2] (W_T G q T) (W_T G q v.2) (some (vi v.1)) := by
  unfold fX7_shut at h
  refine CT.of (by decide) (Nat.le_of_ble_eq_true rfl) rfl (fun κ _ C => ?_)
  refine X.iload_n C dX7_shut_0 rfl 2 rfl ?_
  refine X.iconst C dX7_shut_1 ?_
  refine X.sipush C dX7_shut_2 (by decide) ?_
  refine X.callSi (As := [vi lx2, vi 1, vi 9999]) (rest := []) (g := fun rr_1 => rr_1) (W1 := fun rr_1 => W_0) (ws2 := fun rr_1 => (W_T G q T)) C h dX7_shut_5 ml_X7_93 mX7_isWithin (fun v hv => kX7_isWithin lx2 1 9999 v hv) (fun rr_1 => ln_T_0__n (G := G) (q := q) (T := T)) rfl rfl rfl rfl rfl rfl (fun rr_1 h => ?_)
  refine X.if_ne (tgt := 14) C h dX7_shut_8 (by decide) (fun h => ?_) (fun h => ?_)
  · refine X.aload_n C dX7_shut_14 rfl 0 rfl ?_
    refine X.iload_n C dX7_shut_15 rfl 1 rfl ?_
    refine X.callVi (q0 := 0) (As := [vi lx1]) (rest := []) (g := fun rr_2 => rr_2) (W1 := fun rr_2 => (W_T G q T)) (ws2 := fun rr_2 => (W_T G q T)) C h dX7_shut_16 ml_X7_105 mX7_refusalOf (fun v hv => kX7_refusalOf q T lx1 v hv) (fun rr_2 => ln_T_T_id_n (G := G) (q := q) (T := T)) rfl rfl rfl rfl rfl rfl rfl rfl (fun rr_2 h => ?_)
    refine X.istore_n (lv2 := [(3, vi rr_2), (0, .ref ((q 11) 31)), (1, vi lx1), (2, vi lx2)]) C dX7_shut_19 rfl (by decide) rfl ?_
    refine X.iload_n C dX7_shut_20 rfl 0 rfl ?_
    refine X.if_eq (tgt := 26) C h dX7_shut_21 (by decide) (fun h => ?_) (fun h => ?_)
    · refine X.aload_n C dX7_shut_26 rfl 1 rfl ?_
      refine X.get C dX7_shut_27 lay_X7 0 rfl rfl 2 (by decide) fl_X7_19 rfl rfl ?_
      refine X.callVi (q0 := 5) (As := []) (rest := []) (g := fun rr_3 => rr_3) (W1 := fun rr_3 => (W_S G (q 12) (q 2) (q 3) (T 2) (T 3))) (ws2 := fun rr_3 => (W_T G q T)) C h dX7_shut_30 ml_X7_184 mX3_roadWet (fun v hv => kX3_roadWet (q 12) (q 2) (q 3) (T 2) (T 3) v hv) (fun rr_3 => ln_T_S_ns_np_na_n (G := G) (q := q) (T := T)) rfl rfl rfl rfl rfl rfl rfl rfl (fun rr_3 h => ?_)
      refine X.iload_n C dX7_shut_33 rfl 3 rfl ?_
      refine X.icmp_lt (tgt := 39) C h dX7_shut_34 (by decide) (fun h => ?_) (fun h => ?_)
      · refine X.aload_n C dX7_shut_39 rfl 1 rfl ?_
        refine X.callVv (q0 := 0) (As := []) (rest := []) (W1 := fun rr_4 => (W_T G q rr_4)) (ws2 := fun rr_4 => (W_T G q rr_4)) C h dX7_shut_40 ml_X7_299 mX7_beginDream (fun v hv => kX7_beginDream q T v hv) (fun rr_4 => ln_T_T_id_T (G := G) (q := q) (T := T) (NT := rr_4)) rfl rfl rfl rfl rfl rfl rfl rfl (fun rr_4 h => ?_)
        refine X.iconst C dX7_shut_43 ?_
        refine X.istore (lv2 := [(4, vi 0), (3, vi rr_2), (0, .ref ((q 11) 31)), (1, vi lx1), (2, vi lx2)]) C dX7_shut_44 (by decide) rfl ?_
        refine X.sub [2, 3, 4, 0] rfl ?_
        refine xX7_shut_46 C q lx1 lx2 v FU 0 rr_4 h
      refine X.iconst C dX7_shut_37 ?_
      cases h
      exact X.iret C dX7_shut_38 (Nat.zero_le _) (Nat.zero_le _)
    refine X.iload_n C dX7_shut_24 rfl 0 rfl ?_
    cases h
    exact X.iret C dX7_shut_25 (Nat.zero_le _) (Nat.zero_le _)
  refine X.bipush C dX7_shut_11 (by decide) ?_
  cases h
  exact X.iret C dX7_shut_13 (Nat.zero_le _) (Nat.zero_le _)
def rX7_first : Room := { frames := 4, cells := 0, slots := 0, locals := 122 }
theorem mX7_first : MV yX7_first cX7_first 5 (some .int) 2 := ⟨cd_X7_first, in_X7, ⟨⟨by decide, by decide⟩, by decide +kernel⟩, im_X7_first, se_X7_first⟩
set_option maxHeartbeats 4000000 in
set_option maxRecDepth 100000 in
theorem xX7_first_30 {κ : Kx} {G : GT} (C : Cx κ G yX7_first cX7_first (some .int) 5 rX7_first) (q : Nat → Nat → Nat) (lx1 : Int) (lx2 : Int) (v : (Int × (Nat → Ob))) : ∀ (n : Nat) (lx4 : Int) (T : Nat → Ob), lX7_first_30 lx1 lx2 n lx4 T = some v → X κ G 5 (W_T G q T) 30 [(0, .ref ((q 11) 31)), (1, vi lx1), (2, vi lx2), (4, vi lx4)] [] 0 0 (QM κ G (W_T G q v.2) (some (vi v.1)) rX7_first.cells rX7_first.slots) := by
  intro n
  induction n with
  | zero => intro _ _ h; exact absurd h (fun h => nomatch h)
  | succ n ih =>
    intro lx4 T h
    rw [lX7_first_30] at h
    refine X.iload C dX7_first_30 3 rfl ?_
    refine X.aload_n C dX7_first_32 rfl 0 rfl ?_
    refine X.get C dX7_first_33 lay_X7 0 rfl rfl 5 (by decide) fl_X7_45 rfl rfl ?_
    refine X.iload_n C dX7_first_36 rfl 1 rfl ?_
    refine X.aldR C h dX7_first_37 1 rfl (fun h hj_4 => ?_)
    refine X.get C dX7_first_38 lay_X2 (41 + 2 * (ix lx1)) (row_o hj_4) rfl 2 (by decide) fl_X7_333 rfl rfl ?_
    refine X.icmp_ge (tgt := 93) C h dX7_first_41 (by decide) (fun h => ?_) (fun h => ?_)
    · refine X.iconst C dX7_first_93 ?_
      cases h
      exact X.iret C dX7_first_94 (Nat.zero_le _) (Nat.zero_le _)
    refine X.aload_n C dX7_first_44 rfl 0 rfl ?_
    refine X.get C dX7_first_45 lay_X7 0 rfl rfl 3 (by decide) fl_X7_23 rfl rfl ?_
    refine X.aload_n C dX7_first_48 rfl 0 rfl ?_
    refine X.get C dX7_first_49 lay_X7 0 rfl rfl 5 (by decide) fl_X7_45 rfl rfl ?_
    refine X.iload_n C dX7_first_52 rfl 1 rfl ?_
    refine X.aldR C h dX7_first_53 1 rfl (fun h hj_5 => ?_)
    refine X.iload C dX7_first_54 3 rfl ?_
    refine X.callVi (q0 := (41 + 2 * (ix lx1))) (As := [vi lx4]) (rest := [.ref ((q 13) 31)]) (g := fun rr_6 => rr_6) (W1 := fun rr_6 => (W_R G (q (6 + (ix lx1))) (T (6 + (ix lx1))))) (ws2 := fun rr_6 => (W_T G q T)) C h dX7_first_56 ml_X7_334 mX2_windAt (fun v hv => kX2_windAt (q (6 + (ix lx1))) (T (6 + (ix lx1))) lx4 v hv) (fun rr_6 => ln_T_R_row_n (G := G) (q := q) (T := T) hj_5) (row_o hj_5) rfl rfl rfl rfl rfl rfl rfl (fun rr_6 h => ?_)
    refine X.callVi (q0 := 23) (As := [vi rr_6]) (rest := []) (g := fun rr_7 => rr_7.1) (W1 := fun rr_7 => (W_S G (q 13) (q 4) (q 5) (T 4) rr_7.2)) (ws2 := fun rr_7 => (W_T G q (upO T 5 rr_7.2))) C h dX7_first_59 ml_X7_337 mX3_playWind (fun v hv => kX3_playWind (q 13) (q 4) (q 5) (T 4) (T 5) rr_6 v hv) (fun rr_7 => ln_T_S_ds_dp_da_A (G := G) (q := q) (T := T) (NA := rr_7.2)) rfl rfl rfl rfl rfl rfl rfl rfl (fun rr_7 h => ?_)
    refine X.nameS (ws := fun T_8 => (W_T G q T_8)) h (fun T_8 h => ?_)
    refine X.pop C dX7_first_62 rfl ?_
    refine X.aload_n C dX7_first_63 rfl 0 rfl ?_
    refine X.get C dX7_first_64 lay_X7 0 rfl rfl 3 (by decide) fl_X7_23 rfl rfl ?_
    refine X.iload_n C dX7_first_67 rfl 2 rfl ?_
    refine X.callVi (q0 := 23) (As := [vi lx2]) (rest := []) (g := fun rr_9 => rr_9) (W1 := fun rr_9 => (W_S G (q 13) (q 4) (q 5) (T_8 4) (T_8 5))) (ws2 := fun rr_9 => (W_T G q T_8)) C h dX7_first_68 ml_X7_141 mX3_tableWet (fun v hv => kX3_tableWet (q 13) (q 4) (q 5) (T_8 4) (T_8 5) lx2 v hv) (fun rr_9 => ln_T_S_ds_dp_da_n (G := G) (q := q) (T := T_8)) rfl rfl rfl rfl rfl rfl rfl rfl (fun rr_9 h => ?_)
    refine X.aload_n C dX7_first_71 rfl 0 rfl ?_
    refine X.get C dX7_first_72 lay_X7 0 rfl rfl 2 (by decide) fl_X7_19 rfl rfl ?_
    refine X.iload_n C dX7_first_75 rfl 2 rfl ?_
    refine X.callVi (q0 := 5) (As := [vi lx2]) (rest := [vi rr_9]) (g := fun rr_10 => rr_10) (W1 := fun rr_10 => (W_S G (q 12) (q 2) (q 3) (T_8 2) (T_8 3))) (ws2 := fun rr_10 => (W_T G q T_8)) C h dX7_first_76 ml_X7_141 mX3_tableWet (fun v hv => kX3_tableWet (q 12) (q 2) (q 3) (T_8 2) (T_8 3) lx2 v hv) (fun rr_10 => ln_T_S_ns_np_na_n (G := G) (q := q) (T := T_8)) rfl rfl rfl rfl rfl rfl rfl rfl (fun rr_10 h => ?_)
    refine X.icmp_le (tgt := 87) C h dX7_first_79 (by decide) (fun h => ?_) (fun h => ?_)
    · refine X.iincN (lv2 := fun lx4_11 => [(4, vi lx4_11), (0, .ref ((q 11) 31)), (1, vi lx1), (2, vi lx2)]) C h dX7_first_87 3 rfl (by decide) (fun _ => rfl) (fun lx4_11 h => ?_)
      refine X.goto (tgt := 30) C dX7_first_90 (by decide) ?_
      refine X.sub [1, 2, 3, 0] rfl ?_
      exact ih lx4_11 T_8 h
    refine X.iload C dX7_first_82 3 rfl ?_
    refine X.iconst C dX7_first_84 ?_
    refine X.iadd C dX7_first_85 ?_
    cases h
    exact X.iret C dX7_first_86 (Nat.zero_le _) (Nat.zero_le _)
set_option maxHeartbeats 4000000 in
set_option maxRecDepth 100000 in
theorem kX7_first {l : Launch} {G : GT} (q : Nat → Nat → Nat) (T : Nat → Ob) (lx1 : Int) (lx2 : Int) (v : (Int × (Nat → Ob))) (h : fX7_first T lx1 lx2 = some v) : CT l G yX7_first cX7_first 5 (some .int) rX7_first [.ref ((q 11) 31), vi lx1, vi lx2] (W_T G q T) (W_T G q v.2) (some (vi v.1)) := by
  unfold fX7_first at h
  refine CT.of (by decide) (Nat.le_of_ble_eq_true rfl) rfl (fun κ _ C => ?_)
  refine X.aload_n C dX7_first_0 rfl 0 rfl ?_
  refine X.iload_n C dX7_first_1 rfl 2 rfl ?_
  refine X.callVi (q0 := 0) (As := [vi lx2]) (rest := []) (g := fun rr_1 => rr_1) (W1 := fun rr_1 => (W_T G q T)) (ws2 := fun rr_1 => (W_T G q T)) C h dX7_first_2 ml_X7_127 mX7_isTable (fun v hv => kX7_isTable q T lx2 v hv) (fun rr_1 => ln_T_T_id_n (G := G) (q := q) (T := T)) rfl rfl rfl rfl rfl rfl rfl rfl (fun rr_1 h => ?_)
  refine X.if_ne (tgt := 11) C h dX7_first_5 (by decide) (fun h => ?_) (fun h => ?_)
  · refine X.aload_n C dX7_first_11 rfl 0 rfl ?_
    refine X.iload_n C dX7_first_12 rfl 1 rfl ?_
    refine X.callVi (q0 := 0) (As := [vi lx1]) (rest := []) (g := fun rr_2 => rr_2) (W1 := fun rr_2 => (W_T G q T)) (ws2 := fun rr_2 => (W_T G q T)) C h dX7_first_13 ml_X7_105 mX7_refusalOf (fun v hv => kX7_refusalOf q T lx1 v hv) (fun rr_2 => ln_T_T_id_n (G := G) (q := q) (T := T)) rfl rfl rfl rfl rfl rfl rfl rfl (fun rr_2 h => ?_)
    refine X.istore_n (lv2 := [(3, vi rr_2), (0, .ref ((q 11) 31)), (1, vi lx1), (2, vi lx2)]) C dX7_first_16 rfl (by decide) rfl ?_
    refine X.iload_n C dX7_first_17 rfl 0 rfl ?_
    refine X.if_eq (tgt := 23) C h dX7_first_18 (by decide) (fun h => ?_) (fun h => ?_)
    · refine X.aload_n C dX7_first_23 rfl 1 rfl ?_
      refine X.callVv (q0 := 0) (As := []) (rest := []) (W1 := fun rr_3 => (W_T G q rr_3)) (ws2 := fun rr_3 => (W_T G q rr_3)) C h dX7_first_24 ml_X7_299 mX7_beginDream (fun v hv => kX7_beginDream q T v hv) (fun rr_3 => ln_T_T_id_T (G := G) (q := q) (T := T) (NT := rr_3)) rfl rfl rfl rfl rfl rfl rfl rfl (fun rr_3 h => ?_)
      refine X.iconst C dX7_first_27 ?_
      refine X.istore (lv2 := [(4, vi 0), (3, vi rr_2), (0, .ref ((q 11) 31)), (1, vi lx1), (2, vi lx2)]) C dX7_first_28 (by decide) rfl ?_
      refine X.sub [2, 3, 4, 0] rfl ?_
      refine xX7_first_30 C q lx1 lx2 v FU 0 rr_3 h
    refine X.iload_n C dX7_first_21 rfl 0 rfl ?_
    cases h
    exact X.iret C dX7_first_22 (Nat.zero_le _) (Nat.zero_le _)
  refine X.bipush C dX7_first_8 (by decide) ?_
  cases h
  exact X.iret C dX7_first_10 (Nat.zero_le _) (Nat.zero_le _)
def rX7_wear : Room := { frames := 4, cells := 0, slots := 0, locals := 122 }
theorem mX7_wear : MV yX7_wear cX7_wear 6 (some .int) 1 := ⟨cd_X7_wear, in_X7, ⟨⟨by decide, by decide⟩, by decide +kernel⟩, im_X7_wear, se_X7_wear⟩
set_option maxHeartbeats 4000000 in
set_option maxRecDepth 100000 in
theorem xX7_wear_21 {κ : Kx} {G : GT} (C : Cx κ G yX7_wear cX7_wear (some .int) 6 rX7_wear) (q : Nat → Nat → Nat) (lx1 : Int) (v : (Int × (Nat → Ob))) : ∀ (n : Nat) (lx3 : Int) (lx4 : Int) (T : Nat → Ob), lX7_wear_21 lx1 n lx3 lx4 T = some v → X κ G 6 (W_T G q T) 21 [(0, .ref ((q 11) 31)), (1, vi lx1), (3, vi lx3), (4, vi lx4)] [] 0 0 (QM κ G (W_T G q v.2) (some (vi v.1)) rX7_wear.cells rX7_wear.slots) := by
  intro n
  induction n with
  | zero => intro _ _ _ h; exact absurd h (fun h => nomatch h)
  | succ n ih =>
    intro lx3 lx4 T h
    rw [lX7_wear_21] at h
    refine X.iload C dX7_wear_21 3 rfl ?_
    refine X.aload_n C dX7_wear_23 rfl 0 rfl ?_
    refine X.get C dX7_wear_24 lay_X7 0 rfl rfl 5 (by decide) fl_X7_45 rfl rfl ?_
    refine X.iload_n C dX7_wear_27 rfl 1 rfl ?_
    refine X.aldR C h dX7_wear_28 1 rfl (fun h hj_3 => ?_)
    refine X.get C dX7_wear_29 lay_X2 (41 + 2 * (ix lx1)) (row_o hj_3) rfl 2 (by decide) fl_X7_333 rfl rfl ?_
    refine X.icmp_ge (tgt := 91) C h dX7_wear_32 (by decide) (fun h => ?_) (fun h => ?_)
    · refine X.iload_n C dX7_wear_91 rfl 2 rfl ?_
      cases h
      exact X.iret C dX7_wear_92 (Nat.zero_le _) (Nat.zero_le _)
    refine X.aload_n C dX7_wear_35 rfl 0 rfl ?_
    refine X.get C dX7_wear_36 lay_X7 0 rfl rfl 3 (by decide) fl_X7_23 rfl rfl ?_
    refine X.get C dX7_wear_39 lay_X3 23 rfl rfl 1 (by decide) fl_X7_75 rfl rfl ?_
    refine X.get C dX7_wear_42 lay_X0 31 rfl rfl 1 (by decide) fl_X7_166 rfl rfl ?_
    refine X.istoreN (lv2 := fun lx5_4 => [(5, vi lx5_4), (0, .ref ((q 11) 31)), (1, vi lx1), (3, vi lx3), (4, vi lx4)]) C h dX7_wear_45 (by decide) (fun _ => rfl) (fun lx5_4 h => ?_)
    refine X.aload_n C dX7_wear_47 rfl 1 rfl ?_
    refine X.get C dX7_wear_48 lay_X7 0 rfl rfl 3 (by decide) fl_X7_23 rfl rfl ?_
    refine X.aload_n C dX7_wear_51 rfl 1 rfl ?_
    refine X.get C dX7_wear_52 lay_X7 0 rfl rfl 5 (by decide) fl_X7_45 rfl rfl ?_
    refine X.iload_n C dX7_wear_55 rfl 2 rfl ?_
    refine X.aldR C h dX7_wear_56 1 rfl (fun h hj_5 => ?_)
    refine X.iload C dX7_wear_57 4 rfl ?_
    refine X.callVi (q0 := (41 + 2 * (ix lx1))) (As := [vi lx4]) (rest := [.ref ((q 13) 31)]) (g := fun rr_6 => rr_6) (W1 := fun rr_6 => (W_R G (q (6 + (ix lx1))) (T (6 + (ix lx1))))) (ws2 := fun rr_6 => (W_T G q T)) C h dX7_wear_59 ml_X7_334 mX2_windAt (fun v hv => kX2_windAt (q (6 + (ix lx1))) (T (6 + (ix lx1))) lx4 v hv) (fun rr_6 => ln_T_R_row_n (G := G) (q := q) (T := T) hj_5) (row_o hj_5) rfl rfl rfl rfl rfl rfl rfl (fun rr_6 h => ?_)
    refine X.callVi (q0 := 23) (As := [vi rr_6]) (rest := []) (g := fun rr_7 => rr_7.1) (W1 := fun rr_7 => (W_S G (q 13) (q 4) (q 5) (T 4) rr_7.2)) (ws2 := fun rr_7 => (W_T G q (upO T 5 rr_7.2))) C h dX7_wear_62 ml_X7_337 mX3_playWind (fun v hv => kX3_playWind (q 13) (q 4) (q 5) (T 4) (T 5) rr_6 v hv) (fun rr_7 => ln_T_S_ds_dp_da_A (G := G) (q := q) (T := T) (NA := rr_7.2)) rfl rfl rfl rfl rfl rfl rfl rfl (fun rr_7 h => ?_)
    refine X.nameS (ws := fun T_8 => (W_T G q T_8)) h (fun T_8 h => ?_)
    refine X.pop C dX7_wear_65 rfl ?_
    refine X.iload_n C dX7_wear_66 rfl 3 rfl ?_
    refine X.aload_n C dX7_wear_67 rfl 1 rfl ?_
    refine X.get C dX7_wear_68 lay_X7 0 rfl rfl 3 (by decide) fl_X7_23 rfl rfl ?_
    refine X.get C dX7_wear_71 lay_X3 23 rfl rfl 1 (by decide) fl_X7_75 rfl rfl ?_
    refine X.get C dX7_wear_74 lay_X0 31 rfl rfl 1 (by decide) fl_X7_166 rfl rfl ?_
    refine X.iload C dX7_wear_77 0 rfl ?_
    refine X.isub C dX7_wear_79 ?_
    refine X.mabs C dX7_wear_80 ml_X7_340 sm_J9_abs_0f7a4 in_java_lang_Math cd_J9_abs_0f7a4 (Nat.le_of_ble_eq_true rfl) (Nat.le_of_ble_eq_true rfl) (Nat.zero_le _) (Nat.zero_le _) ?_
    refine X.iadd C dX7_wear_83 ?_
    refine X.istoreN_n (lv2 := fun lx3_9 => [(3, vi lx3_9), (5, vi lx5_4), (0, .ref ((q 11) 31)), (1, vi lx1), (4, vi lx4)]) C h dX7_wear_84 rfl (by decide) (fun _ => rfl) (fun lx3_9 h => ?_)
    refine X.iincN (lv2 := fun lx4_10 => [(4, vi lx4_10), (3, vi lx3_9), (5, vi lx5_4), (0, .ref ((q 11) 31)), (1, vi lx1)]) C h dX7_wear_85 4 rfl (by decide) (fun _ => rfl) (fun lx4_10 h => ?_)
    refine X.goto (tgt := 21) C dX7_wear_88 (by decide) ?_
    refine X.sub [3, 4, 1, 0] rfl ?_
    exact ih lx3_9 lx4_10 T_8 h
set_option maxHeartbeats 4000000 in
set_option maxRecDepth 100000 in
theorem kX7_wear {l : Launch} {G : GT} (q : Nat → Nat → Nat) (T : Nat → Ob) (lx1 : Int) (v : (Int × (Nat → Ob))) (h : fX7_wear T lx1 = some v) : CT l G yX7_wear cX7_wear 6 (some .int) rX7_wear [.ref ((q 11) 31), vi lx1] (W_T G q T) (W_T G q v.2) (some (vi v.1)) := by
  unfold fX7_wear at h
  refine CT.of (by decide) (Nat.le_of_ble_eq_true rfl) rfl (fun κ _ C => ?_)
  refine X.aload_n C dX7_wear_0 rfl 0 rfl ?_
  refine X.iload_n C dX7_wear_1 rfl 1 rfl ?_
  refine X.callVi (q0 := 0) (As := [vi lx1]) (rest := []) (g := fun rr_1 => rr_1) (W1 := fun rr_1 => (W_T G q T)) (ws2 := fun rr_1 => (W_T G q T)) C h dX7_wear_2 ml_X7_105 mX7_refusalOf (fun v hv => kX7_refusalOf q T lx1 v hv) (fun rr_1 => ln_T_T_id_n (G := G) (q := q) (T := T)) rfl rfl rfl rfl rfl rfl rfl rfl (fun rr_1 h => ?_)
  refine X.istore_n (lv2 := [(2, vi rr_1), (0, .ref ((q 11) 31)), (1, vi lx1)]) C dX7_wear_5 rfl (by decide) rfl ?_
  refine X.iload_n C dX7_wear_6 rfl 0 rfl ?_
  refine X.if_eq (tgt := 12) C h dX7_wear_7 (by decide) (fun h => ?_) (fun h => ?_)
  · refine X.aload_n C dX7_wear_12 rfl 1 rfl ?_
    refine X.callVv (q0 := 0) (As := []) (rest := []) (W1 := fun rr_2 => (W_T G q rr_2)) (ws2 := fun rr_2 => (W_T G q rr_2)) C h dX7_wear_13 ml_X7_299 mX7_beginDream (fun v hv => kX7_beginDream q T v hv) (fun rr_2 => ln_T_T_id_T (G := G) (q := q) (T := T) (NT := rr_2)) rfl rfl rfl rfl rfl rfl rfl rfl (fun rr_2 h => ?_)
    refine X.iconst C dX7_wear_16 ?_
    refine X.istore_n (lv2 := [(3, vi 0), (2, vi rr_1), (0, .ref ((q 11) 31)), (1, vi lx1)]) C dX7_wear_17 rfl (by decide) rfl ?_
    refine X.iconst C dX7_wear_18 ?_
    refine X.istore (lv2 := [(4, vi 0), (3, vi 0), (2, vi rr_1), (0, .ref ((q 11) 31)), (1, vi lx1)]) C dX7_wear_19 (by decide) rfl ?_
    refine X.sub [3, 4, 1, 0] rfl ?_
    refine xX7_wear_21 C q lx1 v FU 0 0 rr_2 h
  refine X.iload_n C dX7_wear_10 rfl 0 rfl ?_
  cases h
  exact X.iret C dX7_wear_11 (Nat.zero_le _) (Nat.zero_le _)
def rX7_idle : Room := { frames := 4, cells := 0, slots := 0, locals := 122 }
theorem mX7_idle : MV yX7_idle cX7_idle 5 (some .int) 1 := ⟨cd_X7_idle, in_X7, ⟨⟨by decide, by decide⟩, by decide +kernel⟩, im_X7_idle, se_X7_idle⟩
set_option maxHeartbeats 4000000 in
set_option maxRecDepth 100000 in
theorem xX7_idle_21 {κ : Kx} {G : GT} (C : Cx κ G yX7_idle cX7_idle (some .int) 5 rX7_idle) (q : Nat → Nat → Nat) (lx1 : Int) (v : (Int × (Nat → Ob))) : ∀ (n : Nat) (lx3 : Int) (lx4 : Int) (T : Nat → Ob), lX7_idle_21 lx1 n lx3 lx4 T = some v → X κ G 5 (W_T G q T) 21 [(0, .ref ((q 11) 31)), (1, vi lx1), (3, vi lx3), (4, vi lx4)] [] 0 0 (QM κ G (W_T G q v.2) (some (vi v.1)) rX7_idle.cells rX7_idle.slots) := by
  intro n
  induction n with
  | zero => intro _ _ _ h; exact absurd h (fun h => nomatch h)
  | succ n ih =>
    intro lx3 lx4 T h
    rw [lX7_idle_21] at h
    refine X.iload C dX7_idle_21 3 rfl ?_
    refine X.aload_n C dX7_idle_23 rfl 0 rfl ?_
    refine X.get C dX7_idle_24 lay_X7 0 rfl rfl 5 (by decide) fl_X7_45 rfl rfl ?_
    refine X.iload_n C dX7_idle_27 rfl 1 rfl ?_
    refine X.aldR C h dX7_idle_28 1 rfl (fun h hj_3 => ?_)
    refine X.get C dX7_idle_29 lay_X2 (41 + 2 * (ix lx1)) (row_o hj_3) rfl 2 (by decide) fl_X7_333 rfl rfl ?_
    refine X.icmp_ge (tgt := 76) C h dX7_idle_32 (by decide) (fun h => ?_) (fun h => ?_)
    · refine X.iload_n C dX7_idle_76 rfl 2 rfl ?_
      cases h
      exact X.iret C dX7_idle_77 (Nat.zero_le _) (Nat.zero_le _)
    refine X.aload_n C dX7_idle_35 rfl 0 rfl ?_
    refine X.get C dX7_idle_36 lay_X7 0 rfl rfl 3 (by decide) fl_X7_23 rfl rfl ?_
    refine X.aload_n C dX7_idle_39 rfl 0 rfl ?_
    refine X.get C dX7_idle_40 lay_X7 0 rfl rfl 5 (by decide) fl_X7_45 rfl rfl ?_
    refine X.iload_n C dX7_idle_43 rfl 1 rfl ?_
    refine X.aldR C h dX7_idle_44 1 rfl (fun h hj_4 => ?_)
    refine X.iload C dX7_idle_45 3 rfl ?_
    refine X.callVi (q0 := (41 + 2 * (ix lx1))) (As := [vi lx4]) (rest := [.ref ((q 13) 31)]) (g := fun rr_5 => rr_5) (W1 := fun rr_5 => (W_R G (q (6 + (ix lx1))) (T (6 + (ix lx1))))) (ws2 := fun rr_5 => (W_T G q T)) C h dX7_idle_47 ml_X7_334 mX2_windAt (fun v hv => kX2_windAt (q (6 + (ix lx1))) (T (6 + (ix lx1))) lx4 v hv) (fun rr_5 => ln_T_R_row_n (G := G) (q := q) (T := T) hj_4) (row_o hj_4) rfl rfl rfl rfl rfl rfl rfl (fun rr_5 h => ?_)
    refine X.callVi (q0 := 23) (As := [vi rr_5]) (rest := []) (g := fun rr_6 => rr_6.1) (W1 := fun rr_6 => (W_S G (q 13) (q 4) (q 5) (T 4) rr_6.2)) (ws2 := fun rr_6 => (W_T G q (upO T 5 rr_6.2))) C h dX7_idle_50 ml_X7_337 mX3_playWind (fun v hv => kX3_playWind (q 13) (q 4) (q 5) (T 4) (T 5) rr_5 v hv) (fun rr_6 => ln_T_S_ds_dp_da_A (G := G) (q := q) (T := T) (NA := rr_6.2)) rfl rfl rfl rfl rfl rfl rfl rfl (fun rr_6 h => ?_)
    refine X.nameS (ws := fun T_7 => (W_T G q T_7)) h (fun T_7 h => ?_)
    refine X.pop C dX7_idle_53 rfl ?_
    refine X.aload_n C dX7_idle_54 rfl 0 rfl ?_
    refine X.get C dX7_idle_55 lay_X7 0 rfl rfl 3 (by decide) fl_X7_23 rfl rfl ?_
    refine X.get C dX7_idle_58 lay_X3 23 rfl rfl 1 (by decide) fl_X7_75 rfl rfl ?_
    refine X.get C dX7_idle_61 lay_X0 31 rfl rfl 1 (by decide) fl_X7_166 rfl rfl ?_
    refine X.if_ne (tgt := 70) C h dX7_idle_64 (by decide) (fun h => ?_) (fun h => ?_)
    · refine X.iincN (lv2 := fun lx4_8 => [(4, vi lx4_8), (0, .ref ((q 11) 31)), (1, vi lx1), (3, vi lx3)]) C h dX7_idle_70 3 rfl (by decide) (fun _ => rfl) (fun lx4_8 h => ?_)
      refine X.goto (tgt := 21) C dX7_idle_73 (by decide) ?_
      refine X.sub [1, 2, 3, 0] rfl ?_
      exact ih lx3 lx4_8 T_7 h
    refine X.iincN (lv2 := fun lx3_9 => [(3, vi lx3_9), (0, .ref ((q 11) 31)), (1, vi lx1), (4, vi lx4)]) C h dX7_idle_67 2 rfl (by decide) (fun _ => rfl) (fun lx3_9 h => ?_)
    refine X.iincN (lv2 := fun lx4_10 => [(4, vi lx4_10), (3, vi lx3_9), (0, .ref ((q 11) 31)), (1, vi lx1)]) C h dX7_idle_70 3 rfl (by decide) (fun _ => rfl) (fun lx4_10 h => ?_)
    refine X.goto (tgt := 21) C dX7_idle_73 (by decide) ?_
    refine X.sub [2, 3, 1, 0] rfl ?_
    exact ih lx3_9 lx4_10 T_7 h
set_option maxHeartbeats 4000000 in
set_option maxRecDepth 100000 in
theorem kX7_idle {l : Launch} {G : GT} (q : Nat → Nat → Nat) (T : Nat → Ob) (lx1 : Int) (v : (Int × (Nat → Ob))) (h : fX7_idle T lx1 = some v) : CT l G yX7_idle cX7_idle 5 (some .int) rX7_idle [.ref ((q 11) 31), vi lx1] (W_T G q T) (W_T G q v.2) (some (vi v.1)) := by
  unfold fX7_idle at h
  refine CT.of (by decide) (Nat.le_of_ble_eq_true rfl) rfl (fun κ _ C => ?_)
  refine X.aload_n C dX7_idle_0 rfl 0 rfl ?_
  refine X.iload_n C dX7_idle_1 rfl 1 rfl ?_
  refine X.callVi (q0 := 0) (As := [vi lx1]) (rest := []) (g := fun rr_1 => rr_1) (W1 := fun rr_1 => (W_T G q T)) (ws2 := fun rr_1 => (W_T G q T)) C h dX7_idle_2 ml_X7_105 mX7_refusalOf (fun v hv => kX7_refusalOf q T lx1 v hv) (fun rr_1 => ln_T_T_id_n (G := G) (q := q) (T := T)) rfl rfl rfl rfl rfl rfl rfl rfl (fun rr_1 h => ?_)
  refine X.istore_n (lv2 := [(2, vi rr_1), (0, .ref ((q 11) 31)), (1, vi lx1)]) C dX7_idle_5 rfl (by decide) rfl ?_
  refine X.iload_n C dX7_idle_6 rfl 0 rfl ?_
  refine X.if_eq (tgt := 12) C h dX7_idle_7 (by decide) (fun h => ?_) (fun h => ?_)
  · refine X.aload_n C dX7_idle_12 rfl 1 rfl ?_
    refine X.callVv (q0 := 0) (As := []) (rest := []) (W1 := fun rr_2 => (W_T G q rr_2)) (ws2 := fun rr_2 => (W_T G q rr_2)) C h dX7_idle_13 ml_X7_299 mX7_beginDream (fun v hv => kX7_beginDream q T v hv) (fun rr_2 => ln_T_T_id_T (G := G) (q := q) (T := T) (NT := rr_2)) rfl rfl rfl rfl rfl rfl rfl rfl (fun rr_2 h => ?_)
    refine X.iconst C dX7_idle_16 ?_
    refine X.istore_n (lv2 := [(3, vi 0), (2, vi rr_1), (0, .ref ((q 11) 31)), (1, vi lx1)]) C dX7_idle_17 rfl (by decide) rfl ?_
    refine X.iconst C dX7_idle_18 ?_
    refine X.istore (lv2 := [(4, vi 0), (3, vi 0), (2, vi rr_1), (0, .ref ((q 11) 31)), (1, vi lx1)]) C dX7_idle_19 (by decide) rfl ?_
    refine X.sub [3, 4, 1, 0] rfl ?_
    refine xX7_idle_21 C q lx1 v FU 0 0 rr_2 h
  refine X.iload_n C dX7_idle_10 rfl 0 rfl ?_
  cases h
  exact X.iret C dX7_idle_11 (Nat.zero_le _) (Nat.zero_le _)
def rX7_often : Room := { frames := 5, cells := 0, slots := 0, locals := 130 }
theorem mX7_often : MV yX7_often cX7_often 9 (some .int) 6 := ⟨cd_X7_often, in_X7, ⟨⟨by decide, by decide⟩, by decide +kernel⟩, im_X7_often, se_X7_often⟩
set_option maxHeartbeats 4000000 in
set_option maxRecDepth 100000 in
theorem xX7_often_41 {κ : Kx} {G : GT} (C : Cx κ G yX7_often cX7_often (some .int) 9 rX7_often) (q : Nat → Nat → Nat) (lx1 : Int) (lx2 : Int) (lx3 : Int) (lx4 : Int) (lx5 : Int) (lx6 : Int) (v : (Int × (Nat → Ob))) : ∀ (n : Nat) (lx7 : Int) (lx8 : Int) (T : Nat → Ob), lX7_often_41 lx1 lx2 lx3 lx4 lx5 lx6 n lx7 lx8 T = some v → X κ G 9 (W_T G q T) 41 [(0, .ref ((q 11) 31)), (1, vi lx1), (2, vi lx2), (3, vi lx3), (4, vi lx4), (5, vi lx5), (6, vi lx6), (7, vi lx7), (8, vi lx8)] [] 0 0 (QM κ G (W_T G q v.2) (some (vi v.1)) rX7_often.cells rX7_often.slots) := by
  intro n
  induction n with
  | zero => intro _ _ _ h; exact absurd h (fun h => nomatch h)
  | succ n ih =>
    intro lx7 lx8 T h
    rw [lX7_often_41] at h
    refine X.iload C dX7_often_41 8 rfl ?_
    refine X.iload_n C dX7_often_43 rfl 3 rfl ?_
    refine X.icmp_ge (tgt := 89) C h dX7_often_44 (by decide) (fun h => ?_) (fun h => ?_)
    · refine X.iload C dX7_often_89 7 rfl ?_
      cases h
      exact X.iret C dX7_often_91 (Nat.zero_le _) (Nat.zero_le _)
    refine X.aload_n C dX7_often_47 rfl 0 rfl ?_
    refine X.callVv (q0 := 0) (As := []) (rest := []) (W1 := fun rr_4 => (W_T G q rr_4)) (ws2 := fun rr_4 => (W_T G q rr_4)) C h dX7_often_48 ml_X7_299 mX7_beginDream (fun v hv => kX7_beginDream q T v hv) (fun rr_4 => ln_T_T_id_T (G := G) (q := q) (T := T) (NT := rr_4)) rfl rfl rfl rfl rfl rfl rfl rfl (fun rr_4 h => ?_)
    refine X.aload_n C dX7_often_51 rfl 0 rfl ?_
    refine X.get C dX7_often_52 lay_X7 0 rfl rfl 3 (by decide) fl_X7_23 rfl rfl ?_
    refine X.iload_n C dX7_often_55 rfl 2 rfl ?_
    refine X.iload C dX7_often_56 8 rfl ?_
    refine X.iadd C dX7_often_58 ?_
    refine X.iload C dX7_often_59 4 rfl ?_
    refine X.iload C dX7_often_61 5 rfl ?_
    refine X.iload C dX7_often_63 6 rfl ?_
    refine X.callVi (q0 := 23) (As := [vi (lx2 + lx8), vi lx4, vi lx5, vi lx6]) (rest := []) (g := fun rr_5 => rr_5.1) (W1 := fun rr_5 => (W_S G (q 13) (q 4) (q 5) (rr_4 4) rr_5.2)) (ws2 := fun rr_5 => (W_T G q (upO rr_4 5 rr_5.2))) C h dX7_often_65 ml_X7_116 mX3_playGusts (fun v hv => kX3_playGusts (q 13) (q 4) (q 5) (rr_4 4) (rr_4 5) (lx2 + lx8) lx4 lx5 lx6 v hv) (fun rr_5 => ln_T_S_ds_dp_da_A (G := G) (q := q) (T := rr_4) (NA := rr_5.2)) rfl rfl rfl rfl rfl rfl rfl rfl (fun rr_5 h => ?_)
    refine X.nameS (ws := fun T_6 => (W_T G q T_6)) h (fun T_6 h => ?_)
    refine X.pop C dX7_often_68 rfl ?_
    refine X.aload_n C dX7_often_69 rfl 0 rfl ?_
    refine X.get C dX7_often_70 lay_X7 0 rfl rfl 3 (by decide) fl_X7_23 rfl rfl ?_
    refine X.iload_n C dX7_often_73 rfl 1 rfl ?_
    refine X.callVi (q0 := 23) (As := [vi lx1]) (rest := []) (g := fun rr_7 => rr_7) (W1 := fun rr_7 => (W_S G (q 13) (q 4) (q 5) (T_6 4) (T_6 5))) (ws2 := fun rr_7 => (W_T G q T_6)) C h dX7_often_74 ml_X7_343 mX3_isOver (fun v hv => kX3_isOver (q 13) (q 4) (q 5) (T_6 4) (T_6 5) lx1 v hv) (fun rr_7 => ln_T_S_ds_dp_da_n (G := G) (q := q) (T := T_6)) rfl rfl rfl rfl rfl rfl rfl rfl (fun rr_7 h => ?_)
    refine X.if_eq (tgt := 83) C h dX7_often_77 (by decide) (fun h => ?_) (fun h => ?_)
    · refine X.iincN (lv2 := fun lx8_8 => [(8, vi lx8_8), (0, .ref ((q 11) 31)), (1, vi lx1), (2, vi lx2), (3, vi lx3), (4, vi lx4), (5, vi lx5), (6, vi lx6), (7, vi lx7)]) C h dX7_often_83 8 rfl (by decide) (fun _ => rfl) (fun lx8_8 h => ?_)
      refine X.goto (tgt := 41) C dX7_often_86 (by decide) ?_
      refine X.sub [1, 2, 3, 4, 5, 6, 7, 8, 0] rfl ?_
      exact ih lx7 lx8_8 T_6 h
    refine X.iincN (lv2 := fun lx7_9 => [(7, vi lx7_9), (0, .ref ((q 11) 31)), (1, vi lx1), (2, vi lx2), (3, vi lx3), (4, vi lx4), (5, vi lx5), (6, vi lx6), (8, vi lx8)]) C h dX7_often_80 7 rfl (by decide) (fun _ => rfl) (fun lx7_9 h => ?_)
    refine X.iincN (lv2 := fun lx8_10 => [(8, vi lx8_10), (7, vi lx7_9), (0, .ref ((q 11) 31)), (1, vi lx1), (2, vi lx2), (3, vi lx3), (4, vi lx4), (5, vi lx5), (6, vi lx6)]) C h dX7_often_83 8 rfl (by decide) (fun _ => rfl) (fun lx8_10 h => ?_)
    refine X.goto (tgt := 41) C dX7_often_86 (by decide) ?_
    refine X.sub [2, 3, 4, 5, 6, 7, 8, 1, 0] rfl ?_
    exact ih lx7_9 lx8_10 T_6 h
set_option maxHeartbeats 4000000 in
set_option maxRecDepth 100000 in
theorem kX7_often {l : Launch} {G : GT} (q : Nat → Nat → Nat) (T : Nat → Ob) (lx1 : Int) (lx2 : Int) (lx3 : Int) (lx4 : Int) (lx5 : Int) (lx6 : Int) (v : (Int × (Nat → Ob))) (h : fX7_often T lx1 lx2 lx3 lx4 lx5 lx6 = some v) : CT l G yX7_often cX7_often 9 (some .int) rX7_often [.ref ((q 11) 31), vi lx1, vi lx2, vi lx3, vi lx4, vi lx5, vi lx6] (W_T G q T) (W_T G q v.2) (some (vi v.1)) := by
  unfold fX7_often at h
  refine CT.of (by decide) (Nat.le_of_ble_eq_true rfl) rfl (fun κ _ C => ?_)
  refine X.aload_n C dX7_often_0 rfl 0 rfl ?_
  refine X.iload_n C dX7_often_1 rfl 1 rfl ?_
  refine X.callVi (q0 := 0) (As := [vi lx1]) (rest := []) (g := fun rr_1 => rr_1) (W1 := fun rr_1 => (W_T G q T)) (ws2 := fun rr_1 => (W_T G q T)) C h dX7_often_2 ml_X7_127 mX7_isTable (fun v hv => kX7_isTable q T lx1 v hv) (fun rr_1 => ln_T_T_id_n (G := G) (q := q) (T := T)) rfl rfl rfl rfl rfl rfl rfl rfl (fun rr_1 h => ?_)
  refine X.if_eq (tgt := 32) C h dX7_often_5 (by decide) (fun h => ?_) (fun h => ?_)
  · refine X.bipush C dX7_often_32 (by decide) ?_
    cases h
    exact X.iret C dX7_often_34 (Nat.zero_le _) (Nat.zero_le _)
  refine X.iload_n C dX7_often_8 rfl 3 rfl ?_
  refine X.iconst C dX7_often_9 ?_
  refine X.bipush C dX7_often_10 (by decide) ?_
  refine X.callSi (As := [vi lx3, vi 1, vi 20]) (rest := []) (g := fun rr_2 => rr_2) (W1 := fun rr_2 => W_0) (ws2 := fun rr_2 => (W_T G q T)) C h dX7_often_12 ml_X7_93 mX7_isWithin (fun v hv => kX7_isWithin lx3 1 20 v hv) (fun rr_2 => ln_T_0__n (G := G) (q := q) (T := T)) rfl rfl rfl rfl rfl rfl (fun rr_2 h => ?_)
  refine X.if_eq (tgt := 32) C h dX7_often_15 (by decide) (fun h => ?_) (fun h => ?_)
  · refine X.bipush C dX7_often_32 (by decide) ?_
    cases h
    exact X.iret C dX7_often_34 (Nat.zero_le _) (Nat.zero_le _)
  refine X.aload_n C dX7_often_18 rfl 0 rfl ?_
  refine X.iload_n C dX7_often_19 rfl 2 rfl ?_
  refine X.iload C dX7_often_20 4 rfl ?_
  refine X.iload C dX7_often_22 5 rfl ?_
  refine X.iload C dX7_often_24 6 rfl ?_
  refine X.callVi (q0 := 0) (As := [vi lx2, vi lx4, vi lx5, vi lx6]) (rest := []) (g := fun rr_3 => rr_3) (W1 := fun rr_3 => (W_T G q T)) (ws2 := fun rr_3 => (W_T G q T)) C h dX7_often_26 ml_X7_112 mX7_areGusts (fun v hv => kX7_areGusts q T lx2 lx4 lx5 lx6 v hv) (fun rr_3 => ln_T_T_id_n (G := G) (q := q) (T := T)) rfl rfl rfl rfl rfl rfl rfl rfl (fun rr_3 h => ?_)
  refine X.if_ne (tgt := 35) C h dX7_often_29 (by decide) (fun h => ?_) (fun h => ?_)
  · refine X.iconst C dX7_often_35 ?_
    refine X.istore (lv2 := [(7, vi 0), (0, .ref ((q 11) 31)), (1, vi lx1), (2, vi lx2), (3, vi lx3), (4, vi lx4), (5, vi lx5), (6, vi lx6)]) C dX7_often_36 (by decide) rfl ?_
    refine X.iconst C dX7_often_38 ?_
    refine X.istore (lv2 := [(8, vi 0), (7, vi 0), (0, .ref ((q 11) 31)), (1, vi lx1), (2, vi lx2), (3, vi lx3), (4, vi lx4), (5, vi lx5), (6, vi lx6)]) C dX7_often_39 (by decide) rfl ?_
    refine X.sub [2, 3, 4, 5, 6, 7, 8, 1, 0] rfl ?_
    refine xX7_often_41 C q lx1 lx2 lx3 lx4 lx5 lx6 v FU 0 0 T h
  refine X.bipush C dX7_often_32 (by decide) ?_
  cases h
  exact X.iret C dX7_often_34 (Nat.zero_le _) (Nat.zero_le _)
def rX7_where : Room := { frames := 3, cells := 0, slots := 0, locals := 68 }
theorem mX7_where : MV yX7_where cX7_where 9 (some .int) 2 := ⟨cd_X7_where, in_X7, ⟨⟨by decide, by decide⟩, by decide +kernel⟩, im_X7_where, se_X7_where⟩
set_option maxHeartbeats 4000000 in
set_option maxRecDepth 100000 in
theorem xX7_where_142 {κ : Kx} {G : GT} (C : Cx κ G yX7_where cX7_where (some .int) 9 rX7_where) (q : Nat → Nat → Nat) (kc0 : Int → Int → Int → Option (Int)) (T : Nat → Ob) (lx1 : Int) (lx2 : Int) (lx3 : Int) (lx4 : Int) (lx7 : Int) (lx8 : Int) (v : (Int)) (hc0 : ∀ (lx5 : Int) (lx6 : Int) (lx8 : Int), kc0 lx5 lx6 lx8 = some v → X κ G 9 (W_T G q T) 74 [(0, .ref ((q 11) 31)), (1, vi lx1), (2, vi lx2), (3, vi lx3), (4, vi lx4), (5, vi lx5), (6, vi lx6), (7, vi lx7), (8, vi lx8)] [] 0 0 (QM κ G (W_T G q T) (some (vi v)) rX7_where.cells rX7_where.slots)) (h : jX7_where_142 kc0 T lx1 lx2 lx3 lx4 lx7 lx8 = some v) : X κ G 9 (W_T G q T) 142 [(0, .ref ((q 11) 31)), (1, vi lx1), (2, vi lx2), (3, vi lx3), (4, vi lx4), (7, vi lx7), (8, vi lx8)] [] 0 0 (QM κ G (W_T G q T) (some (vi v)) rX7_where.cells rX7_where.slots) := by
  unfold jX7_where_142 at h
  refine X.aload_n C dX7_where_142 rfl 0 rfl ?_
  refine X.get C dX7_where_143 lay_X7 0 rfl rfl 2 (by decide) fl_X7_19 rfl rfl ?_
  refine X.get C dX7_where_146 lay_X3 5 rfl rfl 1 (by decide) fl_X7_75 rfl rfl ?_
  refine X.iload C dX7_where_149 6 rfl ?_
  refine X.iload C dX7_where_151 5 rfl ?_
  refine X.callVi (q0 := 13) (As := [vi lx8, vi lx7]) (rest := []) (g := fun rr_11 => rr_11) (W1 := fun rr_11 => (W_A G (q 3) (T 3))) (ws2 := fun rr_11 => (W_T G q T)) C h dX7_where_153 ml_X7_124 mX0_wetAt (fun v hv => kX0_wetAt (q 3) (T 3) lx8 lx7 v hv) (fun rr_11 => ln_T_A_na_n (G := G) (q := q) (T := T)) rfl rfl rfl rfl rfl rfl rfl rfl (fun rr_11 h => ?_)
  refine X.istore (lv2 := [(6, vi rr_11), (0, .ref ((q 11) 31)), (1, vi lx1), (2, vi lx2), (3, vi lx3), (4, vi lx4), (7, vi lx7), (8, vi lx8)]) C dX7_where_156 (by decide) rfl ?_
  refine X.iload C dX7_where_158 7 rfl ?_
  refine X.iload C dX7_where_160 6 rfl ?_
  refine X.callSi (As := [vi lx8, vi lx7]) (rest := []) (g := fun rr_12 => rr_12) (W1 := fun rr_12 => W_0) (ws2 := fun rr_12 => (W_T G q T)) C h dX7_where_162 ml_X7_196 mX7_placeOf (fun v hv => kX7_placeOf lx8 lx7 v hv) (fun rr_12 => ln_T_0__n (G := G) (q := q) (T := T)) rfl rfl rfl rfl rfl rfl (fun rr_12 h => ?_)
  refine X.istore (lv2 := [(5, vi rr_12), (6, vi rr_11), (0, .ref ((q 11) 31)), (1, vi lx1), (2, vi lx2), (3, vi lx3), (4, vi lx4), (7, vi lx7), (8, vi lx8)]) C dX7_where_165 (by decide) rfl ?_
  refine X.iincN (lv2 := fun lx8_13 => [(8, vi lx8_13), (5, vi rr_12), (6, vi rr_11), (0, .ref ((q 11) 31)), (1, vi lx1), (2, vi lx2), (3, vi lx3), (4, vi lx4), (7, vi lx7)]) C h dX7_where_167 8 rfl (by decide) (fun _ => rfl) (fun lx8_13 h => ?_)
  refine X.goto (tgt := 74) C dX7_where_170 (by decide) ?_
  refine X.sub [3, 4, 5, 6, 7, 1, 2, 8, 0] rfl ?_
  exact hc0 rr_12 rr_11 lx8_13 h
set_option maxHeartbeats 4000000 in
set_option maxRecDepth 100000 in
theorem xX7_where_74 {κ : Kx} {G : GT} (C : Cx κ G yX7_where cX7_where (some .int) 9 rX7_where) (q : Nat → Nat → Nat) (T : Nat → Ob) (lx1 : Int) (lx2 : Int) (lx3 : Int) (lx4 : Int) (lx7 : Int) (kx0 : Int → Int → Option (Int)) (v : (Int)) (hk0 : ∀ (lx5 : Int) (lx6 : Int), kx0 lx5 lx6 = some v → X κ G 9 (W_T G q T) 173 [(0, .ref ((q 11) 31)), (1, vi lx1), (2, vi lx2), (3, vi lx3), (4, vi lx4), (5, vi lx5), (6, vi lx6), (7, vi lx7)] [] 0 0 (QM κ G (W_T G q T) (some (vi v)) rX7_where.cells rX7_where.slots)) : ∀ (n : Nat) (lx5 : Int) (lx6 : Int) (lx8 : Int), lX7_where_74 T lx1 lx2 lx3 lx4 lx7 kx0 n lx5 lx6 lx8 = some v → X κ G 9 (W_T G q T) 74 [(0, .ref ((q 11) 31)), (1, vi lx1), (2, vi lx2), (3, vi lx3), (4, vi lx4), (5, vi lx5), (6, vi lx6), (7, vi lx7), (8, vi lx8)] [] 0 0 (QM κ G (W_T G q T) (some (vi v)) rX7_where.cells rX7_where.slots) := by
  intro n
  induction n with
  | zero => intro _ _ _ h; exact absurd h (fun h => nomatch h)
  | succ n ih =>
    intro lx5 lx6 lx8 h
    rw [lX7_where_74] at h
    refine X.iload C dX7_where_74 8 rfl ?_
    refine X.iload_n C dX7_where_76 rfl 3 rfl ?_
    refine X.iload_n C dX7_where_77 rfl 2 rfl ?_
    refine X.iadd C dX7_where_78 ?_
    refine X.icmp_gt (tgt := 173) C h dX7_where_79 (by decide) (fun h => ?_) (fun h => ?_)
    · refine X.sub [0, 1, 2, 3, 4, 5, 6, 7] rfl ?_
      exact hk0 lx5 lx6 h
    refine X.aload_n C dX7_where_82 rfl 0 rfl ?_
    refine X.get C dX7_where_83 lay_X7 0 rfl rfl 2 (by decide) fl_X7_19 rfl rfl ?_
    refine X.get C dX7_where_86 lay_X3 5 rfl rfl 0 (by decide) fl_X7_28 rfl rfl ?_
    refine X.iload C dX7_where_89 8 rfl ?_
    refine X.iload C dX7_where_91 7 rfl ?_
    refine X.callVi (q0 := 6) (As := [vi lx8, vi lx7]) (rest := []) (g := fun rr_7 => rr_7) (W1 := fun rr_7 => (W_P G (q 2) (T 2))) (ws2 := fun rr_7 => (W_T G q T)) C h dX7_where_93 ml_X7_120 mX1_isCell (fun v hv => kX1_isCell (q 2) (T 2) lx8 lx7 v hv) (fun rr_7 => ln_T_P_np_n (G := G) (q := q) (T := T)) rfl rfl rfl rfl rfl rfl rfl rfl (fun rr_7 h => ?_)
    refine X.if_eq (tgt := 167) C h dX7_where_96 (by decide) (fun h => ?_) (fun h => ?_)
    · refine X.iincN (lv2 := fun lx8_8 => [(8, vi lx8_8), (0, .ref ((q 11) 31)), (1, vi lx1), (2, vi lx2), (3, vi lx3), (4, vi lx4), (5, vi lx5), (6, vi lx6), (7, vi lx7)]) C h dX7_where_167 8 rfl (by decide) (fun _ => rfl) (fun lx8_8 h => ?_)
      refine X.goto (tgt := 74) C dX7_where_170 (by decide) ?_
      refine X.sub [1, 2, 3, 4, 5, 6, 7, 8, 0] rfl ?_
      exact ih lx5 lx6 lx8_8 h
    refine X.aload_n C dX7_where_99 rfl 0 rfl ?_
    refine X.get C dX7_where_100 lay_X7 0 rfl rfl 2 (by decide) fl_X7_19 rfl rfl ?_
    refine X.get C dX7_where_103 lay_X3 5 rfl rfl 0 (by decide) fl_X7_28 rfl rfl ?_
    refine X.iload_n C dX7_where_106 rfl 1 rfl ?_
    refine X.iload C dX7_where_107 8 rfl ?_
    refine X.iload C dX7_where_109 7 rfl ?_
    refine X.callVi (q0 := 6) (As := [vi lx1, vi lx8, vi lx7]) (rest := []) (g := fun rr_9 => rr_9) (W1 := fun rr_9 => (W_P G (q 2) (T 2))) (ws2 := fun rr_9 => (W_T G q T)) C h dX7_where_111 ml_X7_346 mX1_hasRoomFor (fun v hv => kX1_hasRoomFor (q 2) (T 2) lx1 lx8 lx7 v hv) (fun rr_9 => ln_T_P_np_n (G := G) (q := q) (T := T)) rfl rfl rfl rfl rfl rfl rfl rfl (fun rr_9 h => ?_)
    refine X.if_eq (tgt := 167) C h dX7_where_114 (by decide) (fun h => ?_) (fun h => ?_)
    · refine X.iincN (lv2 := fun lx8_10 => [(8, vi lx8_10), (0, .ref ((q 11) 31)), (1, vi lx1), (2, vi lx2), (3, vi lx3), (4, vi lx4), (5, vi lx5), (6, vi lx6), (7, vi lx7)]) C h dX7_where_167 8 rfl (by decide) (fun _ => rfl) (fun lx8_10 h => ?_)
      refine X.goto (tgt := 74) C dX7_where_170 (by decide) ?_
      refine X.sub [1, 2, 3, 4, 5, 6, 7, 8, 0] rfl ?_
      exact ih lx5 lx6 lx8_10 h
    refine X.iload C dX7_where_117 5 rfl ?_
    refine X.iconst C dX7_where_119 ?_
    refine X.icmp_eq (tgt := 142) C h dX7_where_120 (by decide) (fun h => ?_) (fun h => ?_)
    · refine X.sub [0, 1, 2, 3, 4, 7, 8] rfl ?_
      exact xX7_where_142 C q (lX7_where_74 T lx1 lx2 lx3 lx4 lx7 kx0 n) T lx1 lx2 lx3 lx4 lx7 lx8 v ih h
    refine X.aload_n C dX7_where_123 rfl 0 rfl ?_
    refine X.get C dX7_where_124 lay_X7 0 rfl rfl 2 (by decide) fl_X7_19 rfl rfl ?_
    refine X.get C dX7_where_127 lay_X3 5 rfl rfl 1 (by decide) fl_X7_75 rfl rfl ?_
    refine X.iload C dX7_where_130 8 rfl ?_
    refine X.iload C dX7_where_132 7 rfl ?_
    refine X.callVi (q0 := 13) (As := [vi lx8, vi lx7]) (rest := []) (g := fun rr_14 => rr_14) (W1 := fun rr_14 => (W_A G (q 3) (T 3))) (ws2 := fun rr_14 => (W_T G q T)) C h dX7_where_134 ml_X7_124 mX0_wetAt (fun v hv => kX0_wetAt (q 3) (T 3) lx8 lx7 v hv) (fun rr_14 => ln_T_A_na_n (G := G) (q := q) (T := T)) rfl rfl rfl rfl rfl rfl rfl rfl (fun rr_14 h => ?_)
    refine X.iload C dX7_where_137 6 rfl ?_
    refine X.icmp_ge (tgt := 167) C h dX7_where_139 (by decide) (fun h => ?_) (fun h => ?_)
    · refine X.iincN (lv2 := fun lx8_15 => [(8, vi lx8_15), (0, .ref ((q 11) 31)), (1, vi lx1), (2, vi lx2), (3, vi lx3), (4, vi lx4), (5, vi lx5), (6, vi lx6), (7, vi lx7)]) C h dX7_where_167 8 rfl (by decide) (fun _ => rfl) (fun lx8_15 h => ?_)
      refine X.goto (tgt := 74) C dX7_where_170 (by decide) ?_
      refine X.sub [1, 2, 3, 4, 5, 6, 7, 8, 0] rfl ?_
      exact ih lx5 lx6 lx8_15 h
    refine X.sub [0, 1, 2, 3, 4, 7, 8] rfl ?_
    exact xX7_where_142 C q (lX7_where_74 T lx1 lx2 lx3 lx4 lx7 kx0 n) T lx1 lx2 lx3 lx4 lx7 lx8 v ih h
set_option maxHeartbeats 4000000 in
set_option maxRecDepth 100000 in
theorem xX7_where_60 {κ : Kx} {G : GT} (C : Cx κ G yX7_where cX7_where (some .int) 9 rX7_where) (q : Nat → Nat → Nat) (T : Nat → Ob) (lx1 : Int) (lx2 : Int) (lx3 : Int) (lx4 : Int) (v : (Int)) : ∀ (n : Nat) (lx5 : Int) (lx6 : Int) (lx7 : Int), lX7_where_60 T lx1 lx2 lx3 lx4 n lx5 lx6 lx7 = some v → X κ G 9 (W_T G q T) 60 [(0, .ref ((q 11) 31)), (1, vi lx1), (2, vi lx2), (3, vi lx3), (4, vi lx4), (5, vi lx5), (6, vi lx6), (7, vi lx7)] [] 0 0 (QM κ G (W_T G q T) (some (vi v)) rX7_where.cells rX7_where.slots) := by
  intro n
  induction n with
  | zero => intro _ _ _ h; exact absurd h (fun h => nomatch h)
  | succ n ih =>
    intro lx5 lx6 lx7 h
    rw [lX7_where_60] at h
    refine X.iload C dX7_where_60 7 rfl ?_
    refine X.iload C dX7_where_62 4 rfl ?_
    refine X.iload_n C dX7_where_64 rfl 2 rfl ?_
    refine X.iadd C dX7_where_65 ?_
    refine X.icmp_gt (tgt := 179) C h dX7_where_66 (by decide) (fun h => ?_) (fun h => ?_)
    · refine X.iload C dX7_where_179 5 rfl ?_
      cases h
      exact X.iret C dX7_where_181 (Nat.zero_le _) (Nat.zero_le _)
    refine X.iload_n C dX7_where_69 rfl 3 rfl ?_
    refine X.iload_n C dX7_where_70 rfl 2 rfl ?_
    refine X.isub C dX7_where_71 ?_
    refine X.istoreN (lv2 := fun lx8_6 => [(8, vi lx8_6), (0, .ref ((q 11) 31)), (1, vi lx1), (2, vi lx2), (3, vi lx3), (4, vi lx4), (5, vi lx5), (6, vi lx6), (7, vi lx7)]) C h dX7_where_72 (by decide) (fun _ => rfl) (fun lx8_6 h => ?_)
    refine X.sub [1, 2, 3, 4, 5, 6, 7, 8, 0] rfl ?_
    refine xX7_where_74 C q T lx1 lx2 lx3 lx4 lx7 _ v (fun lx5_16 lx6_17 h => ?_) FU lx5 lx6 lx8_6 h
    · refine X.iincN (lv2 := fun lx7_18 => [(7, vi lx7_18), (0, .ref ((q 11) 31)), (1, vi lx1), (2, vi lx2), (3, vi lx3), (4, vi lx4), (5, vi lx5_16), (6, vi lx6_17)]) C h dX7_where_173 7 rfl (by decide) (fun _ => rfl) (fun lx7_18 h => ?_)
      refine X.goto (tgt := 60) C dX7_where_176 (by decide) ?_
      refine X.sub [1, 2, 3, 4, 5, 6, 7, 0] rfl ?_
      exact ih lx5_16 lx6_17 lx7_18 h
set_option maxHeartbeats 4000000 in
set_option maxRecDepth 100000 in
theorem kX7_where {l : Launch} {G : GT} (q : Nat → Nat → Nat) (T : Nat → Ob) (lx1 : Int) (lx2 : Int) (v : (Int)) (h : fX7_where T lx1 lx2 = some v) : CT l G yX7_where cX7_where 9 (some .int) rX7_where [.ref ((q 11) 31), vi lx1, vi lx2] (W_T G q T) (W_T G q T) (some (vi v)) := by
  unfold fX7_where at h
  refine CT.of (by decide) (Nat.le_of_ble_eq_true rfl) rfl (fun κ _ C => ?_)
  refine X.aload_n C dX7_where_0 rfl 0 rfl ?_
  refine X.iload_n C dX7_where_1 rfl 1 rfl ?_
  refine X.callVi (q0 := 0) (As := [vi lx1]) (rest := []) (g := fun rr_1 => rr_1) (W1 := fun rr_1 => (W_T G q T)) (ws2 := fun rr_1 => (W_T G q T)) C h dX7_where_2 ml_X7_127 mX7_isTable (fun v hv => kX7_isTable q T lx1 v hv) (fun rr_1 => ln_T_T_id_n (G := G) (q := q) (T := T)) rfl rfl rfl rfl rfl rfl rfl rfl (fun rr_1 h => ?_)
  refine X.if_eq (tgt := 18) C h dX7_where_5 (by decide) (fun h => ?_) (fun h => ?_)
  · refine X.bipush C dX7_where_18 (by decide) ?_
    cases h
    exact X.iret C dX7_where_20 (Nat.zero_le _) (Nat.zero_le _)
  refine X.iload_n C dX7_where_8 rfl 2 rfl ?_
  refine X.iconst C dX7_where_9 ?_
  refine X.bipush C dX7_where_10 (by decide) ?_
  refine X.callSi (As := [vi lx2, vi 0, vi 9]) (rest := []) (g := fun rr_2 => rr_2) (W1 := fun rr_2 => W_0) (ws2 := fun rr_2 => (W_T G q T)) C h dX7_where_12 ml_X7_93 mX7_isWithin (fun v hv => kX7_isWithin lx2 0 9 v hv) (fun rr_2 => ln_T_0__n (G := G) (q := q) (T := T)) rfl rfl rfl rfl rfl rfl (fun rr_2 h => ?_)
  refine X.if_ne (tgt := 21) C h dX7_where_15 (by decide) (fun h => ?_) (fun h => ?_)
  · refine X.aload_n C dX7_where_21 rfl 0 rfl ?_
    refine X.get C dX7_where_22 lay_X7 0 rfl rfl 2 (by decide) fl_X7_19 rfl rfl ?_
    refine X.get C dX7_where_25 lay_X3 5 rfl rfl 0 (by decide) fl_X7_28 rfl rfl ?_
    refine X.get C dX7_where_28 lay_X1 6 rfl rfl 15 (by decide) fl_X7_131 rfl rfl ?_
    refine X.iload_n C dX7_where_31 rfl 1 rfl ?_
    refine X.iald C h dX7_where_32 9 rfl (fun h => ?_)
    refine X.istoreN_n (lv2 := fun lx3_3 => [(3, vi lx3_3), (0, .ref ((q 11) 31)), (1, vi lx1), (2, vi lx2)]) C h dX7_where_33 rfl (by decide) (fun _ => rfl) (fun lx3_3 h => ?_)
    refine X.aload_n C dX7_where_34 rfl 1 rfl ?_
    refine X.get C dX7_where_35 lay_X7 0 rfl rfl 2 (by decide) fl_X7_19 rfl rfl ?_
    refine X.get C dX7_where_38 lay_X3 5 rfl rfl 0 (by decide) fl_X7_28 rfl rfl ?_
    refine X.get C dX7_where_41 lay_X1 6 rfl rfl 16 (by decide) fl_X7_135 rfl rfl ?_
    refine X.iload_n C dX7_where_44 rfl 2 rfl ?_
    refine X.iald C h dX7_where_45 10 rfl (fun h => ?_)
    refine X.istoreN (lv2 := fun lx4_4 => [(4, vi lx4_4), (3, vi lx3_3), (0, .ref ((q 11) 31)), (1, vi lx1), (2, vi lx2)]) C h dX7_where_46 (by decide) (fun _ => rfl) (fun lx4_4 h => ?_)
    refine X.iconst C dX7_where_48 ?_
    refine X.istore (lv2 := [(5, vi (-1)), (4, vi lx4_4), (3, vi lx3_3), (0, .ref ((q 11) 31)), (1, vi lx1), (2, vi lx2)]) C dX7_where_49 (by decide) rfl ?_
    refine X.iconst C dX7_where_51 ?_
    refine X.istore (lv2 := [(6, vi 0), (5, vi (-1)), (4, vi lx4_4), (3, vi lx3_3), (0, .ref ((q 11) 31)), (1, vi lx1), (2, vi lx2)]) C dX7_where_52 (by decide) rfl ?_
    refine X.iload C dX7_where_54 2 rfl ?_
    refine X.iload_n C dX7_where_56 rfl 6 rfl ?_
    refine X.isub C dX7_where_57 ?_
    refine X.istoreN (lv2 := fun lx7_5 => [(7, vi lx7_5), (6, vi 0), (5, vi (-1)), (4, vi lx4_4), (3, vi lx3_3), (0, .ref ((q 11) 31)), (1, vi lx1), (2, vi lx2)]) C h dX7_where_58 (by decide) (fun _ => rfl) (fun lx7_5 h => ?_)
    refine X.sub [5, 6, 7, 4, 3, 2, 1, 0] rfl ?_
    refine xX7_where_60 C q T lx1 lx2 lx3_3 lx4_4 v FU (-1) 0 lx7_5 h
  refine X.bipush C dX7_where_18 (by decide) ?_
  cases h
  exact X.iret C dX7_where_20 (Nat.zero_le _) (Nat.zero_le _)
def rX7_move : Room := { frames := 3, cells := 0, slots := 0, locals := 68 }
theorem mX7_move : MV yX7_move cX7_move 5 (some .int) 3 := ⟨cd_X7_move, in_X7, ⟨⟨by decide, by decide⟩, by decide +kernel⟩, im_X7_move, se_X7_move⟩
set_option maxHeartbeats 4000000 in
set_option maxRecDepth 100000 in
theorem kX7_move {l : Launch} {G : GT} (q : Nat → Nat → Nat) (T : Nat → Ob) (lx1 : Int) (lx2 : Int) (lx3 : Int) (v : (Int × (Nat → Ob))) (h : fX7_move T lx1 lx2 lx3 = some v) : CT l G yX7_move cX7_move 5 (some .int) rX7_move [.ref ((q 11) 31), vi lx1, vi lx2, vi lx3] (W_T G q T) (W_T G q v.2) (some (vi v.1)) := by
  unfold fX7_move at h
  refine CT.of (by decide) (Nat.le_of_ble_eq_true rfl) rfl (fun κ _ C => ?_)
  refine X.aload_n C dX7_move_0 rfl 0 rfl ?_
  refine X.iload_n C dX7_move_1 rfl 1 rfl ?_
  refine X.callVi (q0 := 0) (As := [vi lx1]) (rest := []) (g := fun rr_1 => rr_1) (W1 := fun rr_1 => (W_T G q T)) (ws2 := fun rr_1 => (W_T G q T)) C h dX7_move_2 ml_X7_127 mX7_isTable (fun v hv => kX7_isTable q T lx1 v hv) (fun rr_1 => ln_T_T_id_n (G := G) (q := q) (T := T)) rfl rfl rfl rfl rfl rfl rfl rfl (fun rr_1 h => ?_)
  refine X.if_eq (tgt := 23) C h dX7_move_5 (by decide) (fun h => ?_) (fun h => ?_)
  · refine X.bipush C dX7_move_23 (by decide) ?_
    cases h
    exact X.iret C dX7_move_25 (Nat.zero_le _) (Nat.zero_le _)
  refine X.aload_n C dX7_move_8 rfl 0 rfl ?_
  refine X.get C dX7_move_9 lay_X7 0 rfl rfl 2 (by decide) fl_X7_19 rfl rfl ?_
  refine X.get C dX7_move_12 lay_X3 5 rfl rfl 0 (by decide) fl_X7_28 rfl rfl ?_
  refine X.iload_n C dX7_move_15 rfl 2 rfl ?_
  refine X.iload_n C dX7_move_16 rfl 3 rfl ?_
  refine X.callVi (q0 := 6) (As := [vi lx2, vi lx3]) (rest := []) (g := fun rr_2 => rr_2) (W1 := fun rr_2 => (W_P G (q 2) (T 2))) (ws2 := fun rr_2 => (W_T G q T)) C h dX7_move_17 ml_X7_120 mX1_isCell (fun v hv => kX1_isCell (q 2) (T 2) lx2 lx3 v hv) (fun rr_2 => ln_T_P_np_n (G := G) (q := q) (T := T)) rfl rfl rfl rfl rfl rfl rfl rfl (fun rr_2 h => ?_)
  refine X.if_ne (tgt := 26) C h dX7_move_20 (by decide) (fun h => ?_) (fun h => ?_)
  · refine X.aload_n C dX7_move_26 rfl 0 rfl ?_
    refine X.get C dX7_move_27 lay_X7 0 rfl rfl 2 (by decide) fl_X7_19 rfl rfl ?_
    refine X.get C dX7_move_30 lay_X3 5 rfl rfl 0 (by decide) fl_X7_28 rfl rfl ?_
    refine X.iload_n C dX7_move_33 rfl 1 rfl ?_
    refine X.iload_n C dX7_move_34 rfl 2 rfl ?_
    refine X.iload_n C dX7_move_35 rfl 3 rfl ?_
    refine X.callVi (q0 := 6) (As := [vi lx1, vi lx2, vi lx3]) (rest := []) (g := fun rr_3 => rr_3) (W1 := fun rr_3 => (W_P G (q 2) (T 2))) (ws2 := fun rr_3 => (W_T G q T)) C h dX7_move_36 ml_X7_346 mX1_hasRoomFor (fun v hv => kX1_hasRoomFor (q 2) (T 2) lx1 lx2 lx3 v hv) (fun rr_3 => ln_T_P_np_n (G := G) (q := q) (T := T)) rfl rfl rfl rfl rfl rfl rfl rfl (fun rr_3 h => ?_)
    refine X.if_ne (tgt := 45) C h dX7_move_39 (by decide) (fun h => ?_) (fun h => ?_)
    · refine X.aload_n C dX7_move_45 rfl 0 rfl ?_
      refine X.get C dX7_move_46 lay_X7 0 rfl rfl 2 (by decide) fl_X7_19 rfl rfl ?_
      refine X.get C dX7_move_49 lay_X3 5 rfl rfl 0 (by decide) fl_X7_28 rfl rfl ?_
      refine X.iload_n C dX7_move_52 rfl 1 rfl ?_
      refine X.callVi (q0 := 6) (As := [vi lx1]) (rest := []) (g := fun rr_4 => rr_4) (W1 := fun rr_4 => (W_P G (q 2) (T 2))) (ws2 := fun rr_4 => (W_T G q T)) C h dX7_move_53 ml_X7_349 mX1_tablePlace (fun v hv => kX1_tablePlace (q 2) (T 2) lx1 v hv) (fun rr_4 => ln_T_P_np_n (G := G) (q := q) (T := T)) rfl rfl rfl rfl rfl rfl rfl rfl (fun rr_4 h => ?_)
      refine X.istore (lv2 := [(4, vi rr_4), (0, .ref ((q 11) 31)), (1, vi lx1), (2, vi lx2), (3, vi lx3)]) C dX7_move_56 (by decide) rfl ?_
      refine X.aload_n C dX7_move_58 rfl 1 rfl ?_
      refine X.get C dX7_move_59 lay_X7 0 rfl rfl 2 (by decide) fl_X7_19 rfl rfl ?_
      refine X.get C dX7_move_62 lay_X3 5 rfl rfl 0 (by decide) fl_X7_28 rfl rfl ?_
      refine X.get C dX7_move_65 lay_X1 6 rfl rfl 15 (by decide) fl_X7_131 rfl rfl ?_
      refine X.iload_n C dX7_move_68 rfl 2 rfl ?_
      refine X.iload_n C dX7_move_69 rfl 3 rfl ?_
      refine X.iast (ws2 := (W_T G q (upO T 2 (up2 (T 2) 15 (ix lx1) lx2)))) C h dX7_move_70 9 rfl rfl (fun h => ?_)
      refine X.nameS (ws := fun T_5 => (W_T G q T_5)) h (fun T_5 h => ?_)
      refine X.aload_n C dX7_move_71 rfl 1 rfl ?_
      refine X.get C dX7_move_72 lay_X7 0 rfl rfl 2 (by decide) fl_X7_19 rfl rfl ?_
      refine X.get C dX7_move_75 lay_X3 5 rfl rfl 0 (by decide) fl_X7_28 rfl rfl ?_
      refine X.get C dX7_move_78 lay_X1 6 rfl rfl 16 (by decide) fl_X7_135 rfl rfl ?_
      refine X.iload_n C dX7_move_81 rfl 2 rfl ?_
      refine X.iload_n C dX7_move_82 rfl 4 rfl ?_
      refine X.iast (ws2 := (W_T G q (upO T_5 2 (up2 (T_5 2) 16 (ix lx1) lx3)))) C h dX7_move_83 10 rfl rfl (fun h => ?_)
      refine X.nameS (ws := fun T_6 => (W_T G q T_6)) h (fun T_6 h => ?_)
      refine X.iload C dX7_move_84 0 rfl ?_
      cases h
      exact X.iret C dX7_move_86 (Nat.zero_le _) (Nat.zero_le _)
    refine X.bipush C dX7_move_42 (by decide) ?_
    cases h
    exact X.iret C dX7_move_44 (Nat.zero_le _) (Nat.zero_le _)
  refine X.bipush C dX7_move_23 (by decide) ?_
  cases h
  exact X.iret C dX7_move_25 (Nat.zero_le _) (Nat.zero_le _)
def rX7_bow : Room := { frames := 2, cells := 0, slots := 0, locals := 55 }
theorem mX7_bow : MV yX7_bow cX7_bow 4 (some .int) 3 := ⟨cd_X7_bow, in_X7, ⟨⟨by decide, by decide⟩, by decide +kernel⟩, im_X7_bow, se_X7_bow⟩
set_option maxHeartbeats 4000000 in
set_option maxRecDepth 100000 in
theorem kX7_bow {l : Launch} {G : GT} (q : Nat → Nat → Nat) (T : Nat → Ob) (lx1 : Int) (lx2 : Int) (lx3 : Int) (v : (Int)) (h : fX7_bow T lx1 lx2 lx3 = some v) : CT l G yX7_bow cX7_bow 4 (some .int) rX7_bow [.ref ((q 11) 31), vi lx1, vi lx2, vi lx3] (W_T G q T) (W_T G q T) (some (vi v)) := by
  unfold fX7_bow at h
  refine CT.of (by decide) (Nat.le_of_ble_eq_true rfl) rfl (fun κ _ C => ?_)
  refine X.aload_n C dX7_bow_0 rfl 0 rfl ?_
  refine X.get C dX7_bow_1 lay_X7 0 rfl rfl 2 (by decide) fl_X7_19 rfl rfl ?_
  refine X.get C dX7_bow_4 lay_X3 5 rfl rfl 0 (by decide) fl_X7_28 rfl rfl ?_
  refine X.iload_n C dX7_bow_7 rfl 1 rfl ?_
  refine X.iload_n C dX7_bow_8 rfl 2 rfl ?_
  refine X.callVi (q0 := 6) (As := [vi lx1, vi lx2]) (rest := []) (g := fun rr_1 => rr_1) (W1 := fun rr_1 => (W_P G (q 2) (T 2))) (ws2 := fun rr_1 => (W_T G q T)) C h dX7_bow_9 ml_X7_120 mX1_isCell (fun v hv => kX1_isCell (q 2) (T 2) lx1 lx2 v hv) (fun rr_1 => ln_T_P_np_n (G := G) (q := q) (T := T)) rfl rfl rfl rfl rfl rfl rfl rfl (fun rr_1 h => ?_)
  refine X.if_eq (tgt := 22) C h dX7_bow_12 (by decide) (fun h => ?_) (fun h => ?_)
  · refine X.bipush C dX7_bow_22 (by decide) ?_
    cases h
    exact X.iret C dX7_bow_24 (Nat.zero_le _) (Nat.zero_le _)
  refine X.iload_n C dX7_bow_15 rfl 3 rfl ?_
  refine X.callSi (As := [vi lx3]) (rest := []) (g := fun rr_2 => rr_2) (W1 := fun rr_2 => W_0) (ws2 := fun rr_2 => (W_T G q T)) C h dX7_bow_16 ml_X7_255 mX7_isWay (fun v hv => kX7_isWay lx3 v hv) (fun rr_2 => ln_T_0__n (G := G) (q := q) (T := T)) rfl rfl rfl rfl rfl rfl (fun rr_2 h => ?_)
  refine X.if_ne (tgt := 25) C h dX7_bow_19 (by decide) (fun h => ?_) (fun h => ?_)
  · refine X.aload_n C dX7_bow_25 rfl 0 rfl ?_
    refine X.get C dX7_bow_26 lay_X7 0 rfl rfl 2 (by decide) fl_X7_19 rfl rfl ?_
    refine X.get C dX7_bow_29 lay_X3 5 rfl rfl 0 (by decide) fl_X7_28 rfl rfl ?_
    refine X.iload_n C dX7_bow_32 rfl 1 rfl ?_
    refine X.iload_n C dX7_bow_33 rfl 2 rfl ?_
    refine X.iload_n C dX7_bow_34 rfl 3 rfl ?_
    refine X.callVi (q0 := 6) (As := [vi lx1, vi lx2, vi lx3]) (rest := []) (g := fun rr_3 => rr_3) (W1 := fun rr_3 => (W_P G (q 2) (T 2))) (ws2 := fun rr_3 => (W_T G q T)) C h dX7_bow_35 ml_X7_352 mX1_showsBow (fun v hv => kX1_showsBow (q 2) (T 2) lx1 lx2 lx3 v hv) (fun rr_3 => ln_T_P_np_n (G := G) (q := q) (T := T)) rfl rfl rfl rfl rfl rfl rfl rfl (fun rr_3 h => ?_)
    refine X.if_eq (tgt := 45) C h dX7_bow_38 (by decide) (fun h => ?_) (fun h => ?_)
    · refine X.iconst C dX7_bow_45 ?_
      cases h
      exact X.iret C dX7_bow_46 (Nat.zero_le _) (Nat.zero_le _)
    refine X.iconst C dX7_bow_41 ?_
    refine X.goto (tgt := 46) C dX7_bow_42 (by decide) ?_
    cases h
    exact X.iret C dX7_bow_46 (Nat.zero_le _) (Nat.zero_le _)
  refine X.bipush C dX7_bow_22 (by decide) ?_
  cases h
  exact X.iret C dX7_bow_24 (Nat.zero_le _) (Nat.zero_le _)
def rX7_bows : Room := { frames := 2, cells := 0, slots := 0, locals := 55 }
theorem mX7_bows : MV yX7_bows cX7_bows 5 (some .int) 1 := ⟨cd_X7_bows, in_X7, ⟨⟨by decide, by decide⟩, by decide +kernel⟩, im_X7_bows, se_X7_bows⟩
set_option maxHeartbeats 4000000 in
set_option maxRecDepth 100000 in
theorem xX7_bows_38 {κ : Kx} {G : GT} (C : Cx κ G yX7_bows cX7_bows (some .int) 5 rX7_bows) (q : Nat → Nat → Nat) (T : Nat → Ob) (lx1 : Int) (lx3 : Int) (kx0 : Int → Option (Int)) (v : (Int)) (hk0 : ∀ (lx2 : Int), kx0 lx2 = some v → X κ G 5 (W_T G q T) 95 [(0, .ref ((q 11) 31)), (1, vi lx1), (2, vi lx2), (3, vi lx3)] [] 0 0 (QM κ G (W_T G q T) (some (vi v)) rX7_bows.cells rX7_bows.slots)) : ∀ (n : Nat) (lx2 : Int) (lx4 : Int), lX7_bows_38 T lx1 lx3 kx0 n lx2 lx4 = some v → X κ G 5 (W_T G q T) 38 [(0, .ref ((q 11) 31)), (1, vi lx1), (2, vi lx2), (3, vi lx3), (4, vi lx4)] [] 0 0 (QM κ G (W_T G q T) (some (vi v)) rX7_bows.cells rX7_bows.slots) := by
  intro n
  induction n with
  | zero => intro _ _ h; exact absurd h (fun h => nomatch h)
  | succ n ih =>
    intro lx2 lx4 h
    rw [lX7_bows_38] at h
    refine X.iload C dX7_bows_38 4 rfl ?_
    refine X.aload_n C dX7_bows_40 rfl 0 rfl ?_
    refine X.get C dX7_bows_41 lay_X7 0 rfl rfl 2 (by decide) fl_X7_19 rfl rfl ?_
    refine X.get C dX7_bows_44 lay_X3 5 rfl rfl 0 (by decide) fl_X7_28 rfl rfl ?_
    refine X.get C dX7_bows_47 lay_X1 6 rfl rfl 1 (by decide) fl_X7_187 rfl rfl ?_
    refine X.icmp_ge (tgt := 95) C h dX7_bows_50 (by decide) (fun h => ?_) (fun h => ?_)
    · refine X.sub [0, 1, 2, 3] rfl ?_
      exact hk0 lx2 h
    refine X.aload_n C dX7_bows_53 rfl 0 rfl ?_
    refine X.get C dX7_bows_54 lay_X7 0 rfl rfl 2 (by decide) fl_X7_19 rfl rfl ?_
    refine X.get C dX7_bows_57 lay_X3 5 rfl rfl 0 (by decide) fl_X7_28 rfl rfl ?_
    refine X.iload C dX7_bows_60 4 rfl ?_
    refine X.iload_n C dX7_bows_62 rfl 3 rfl ?_
    refine X.callVi (q0 := 6) (As := [vi lx4, vi lx3]) (rest := []) (g := fun rr_3 => rr_3) (W1 := fun rr_3 => (W_P G (q 2) (T 2))) (ws2 := fun rr_3 => (W_T G q T)) C h dX7_bows_63 ml_X7_355 mX1_isBasin (fun v hv => kX1_isBasin (q 2) (T 2) lx4 lx3 v hv) (fun rr_3 => ln_T_P_np_n (G := G) (q := q) (T := T)) rfl rfl rfl rfl rfl rfl rfl rfl (fun rr_3 h => ?_)
    refine X.if_ne (tgt := 89) C h dX7_bows_66 (by decide) (fun h => ?_) (fun h => ?_)
    · refine X.iincN (lv2 := fun lx4_4 => [(4, vi lx4_4), (0, .ref ((q 11) 31)), (1, vi lx1), (2, vi lx2), (3, vi lx3)]) C h dX7_bows_89 4 rfl (by decide) (fun _ => rfl) (fun lx4_4 h => ?_)
      refine X.goto (tgt := 38) C dX7_bows_92 (by decide) ?_
      refine X.sub [1, 2, 3, 4, 0] rfl ?_
      exact ih lx2 lx4_4 h
    refine X.aload_n C dX7_bows_69 rfl 0 rfl ?_
    refine X.get C dX7_bows_70 lay_X7 0 rfl rfl 2 (by decide) fl_X7_19 rfl rfl ?_
    refine X.get C dX7_bows_73 lay_X3 5 rfl rfl 0 (by decide) fl_X7_28 rfl rfl ?_
    refine X.iload C dX7_bows_76 4 rfl ?_
    refine X.iload_n C dX7_bows_78 rfl 3 rfl ?_
    refine X.iload_n C dX7_bows_79 rfl 1 rfl ?_
    refine X.callVi (q0 := 6) (As := [vi lx4, vi lx3, vi lx1]) (rest := []) (g := fun rr_5 => rr_5) (W1 := fun rr_5 => (W_P G (q 2) (T 2))) (ws2 := fun rr_5 => (W_T G q T)) C h dX7_bows_80 ml_X7_352 mX1_showsBow (fun v hv => kX1_showsBow (q 2) (T 2) lx4 lx3 lx1 v hv) (fun rr_5 => ln_T_P_np_n (G := G) (q := q) (T := T)) rfl rfl rfl rfl rfl rfl rfl rfl (fun rr_5 h => ?_)
    refine X.if_eq (tgt := 89) C h dX7_bows_83 (by decide) (fun h => ?_) (fun h => ?_)
    · refine X.iincN (lv2 := fun lx4_6 => [(4, vi lx4_6), (0, .ref ((q 11) 31)), (1, vi lx1), (2, vi lx2), (3, vi lx3)]) C h dX7_bows_89 4 rfl (by decide) (fun _ => rfl) (fun lx4_6 h => ?_)
      refine X.goto (tgt := 38) C dX7_bows_92 (by decide) ?_
      refine X.sub [1, 2, 3, 4, 0] rfl ?_
      exact ih lx2 lx4_6 h
    refine X.iincN (lv2 := fun lx2_7 => [(2, vi lx2_7), (0, .ref ((q 11) 31)), (1, vi lx1), (3, vi lx3), (4, vi lx4)]) C h dX7_bows_86 2 rfl (by decide) (fun _ => rfl) (fun lx2_7 h => ?_)
    refine X.iincN (lv2 := fun lx4_8 => [(4, vi lx4_8), (2, vi lx2_7), (0, .ref ((q 11) 31)), (1, vi lx1), (3, vi lx3)]) C h dX7_bows_89 4 rfl (by decide) (fun _ => rfl) (fun lx4_8 h => ?_)
    refine X.goto (tgt := 38) C dX7_bows_92 (by decide) ?_
    refine X.sub [2, 3, 1, 4, 0] rfl ?_
    exact ih lx2_7 lx4_8 h
set_option maxHeartbeats 4000000 in
set_option maxRecDepth 100000 in
theorem xX7_bows_21 {κ : Kx} {G : GT} (C : Cx κ G yX7_bows cX7_bows (some .int) 5 rX7_bows) (q : Nat → Nat → Nat) (T : Nat → Ob) (lx1 : Int) (v : (Int)) : ∀ (n : Nat) (lx2 : Int) (lx3 : Int), lX7_bows_21 T lx1 n lx2 lx3 = some v → X κ G 5 (W_T G q T) 21 [(0, .ref ((q 11) 31)), (1, vi lx1), (2, vi lx2), (3, vi lx3)] [] 0 0 (QM κ G (W_T G q T) (some (vi v)) rX7_bows.cells rX7_bows.slots) := by
  intro n
  induction n with
  | zero => intro _ _ h; exact absurd h (fun h => nomatch h)
  | succ n ih =>
    intro lx2 lx3 h
    rw [lX7_bows_21] at h
    refine X.iload_n C dX7_bows_21 rfl 3 rfl ?_
    refine X.aload_n C dX7_bows_22 rfl 0 rfl ?_
    refine X.get C dX7_bows_23 lay_X7 0 rfl rfl 2 (by decide) fl_X7_19 rfl rfl ?_
    refine X.get C dX7_bows_26 lay_X3 5 rfl rfl 0 (by decide) fl_X7_28 rfl rfl ?_
    refine X.get C dX7_bows_29 lay_X1 6 rfl rfl 2 (by decide) fl_X7_195 rfl rfl ?_
    refine X.icmp_ge (tgt := 101) C h dX7_bows_32 (by decide) (fun h => ?_) (fun h => ?_)
    · refine X.iload_n C dX7_bows_101 rfl 2 rfl ?_
      cases h
      exact X.iret C dX7_bows_102 (Nat.zero_le _) (Nat.zero_le _)
    refine X.iconst C dX7_bows_35 ?_
    refine X.istore (lv2 := [(4, vi 0), (0, .ref ((q 11) 31)), (1, vi lx1), (2, vi lx2), (3, vi lx3)]) C dX7_bows_36 (by decide) rfl ?_
    refine X.sub [1, 2, 3, 4, 0] rfl ?_
    refine xX7_bows_38 C q T lx1 lx3 _ v (fun lx2_9 h => ?_) FU lx2 0 h
    · refine X.iincN (lv2 := fun lx3_10 => [(3, vi lx3_10), (0, .ref ((q 11) 31)), (1, vi lx1), (2, vi lx2_9)]) C h dX7_bows_95 3 rfl (by decide) (fun _ => rfl) (fun lx3_10 h => ?_)
      refine X.goto (tgt := 21) C dX7_bows_98 (by decide) ?_
      refine X.sub [1, 2, 3, 0] rfl ?_
      exact ih lx2_9 lx3_10 h
set_option maxHeartbeats 4000000 in
set_option maxRecDepth 100000 in
theorem kX7_bows {l : Launch} {G : GT} (q : Nat → Nat → Nat) (T : Nat → Ob) (lx1 : Int) (v : (Int)) (h : fX7_bows T lx1 = some v) : CT l G yX7_bows cX7_bows 5 (some .int) rX7_bows [.ref ((q 11) 31), vi lx1] (W_T G q T) (W_T G q T) (some (vi v)) := by
  unfold fX7_bows at h
  refine CT.of (by decide) (Nat.le_of_ble_eq_true rfl) rfl (fun κ _ C => ?_)
  refine X.aload_n C dX7_bows_0 rfl 0 rfl ?_
  refine X.callVi (q0 := 0) (As := []) (rest := []) (g := fun rr_1 => rr_1) (W1 := fun rr_1 => (W_T G q T)) (ws2 := fun rr_1 => (W_T G q T)) C h dX7_bows_1 ml_X7_178 mX7_hasSquare (fun v hv => kX7_hasSquare q T v hv) (fun rr_1 => ln_T_T_id_n (G := G) (q := q) (T := T)) rfl rfl rfl rfl rfl rfl rfl rfl (fun rr_1 h => ?_)
  refine X.if_eq (tgt := 14) C h dX7_bows_4 (by decide) (fun h => ?_) (fun h => ?_)
  · refine X.bipush C dX7_bows_14 (by decide) ?_
    cases h
    exact X.iret C dX7_bows_16 (Nat.zero_le _) (Nat.zero_le _)
  refine X.iload_n C dX7_bows_7 rfl 1 rfl ?_
  refine X.callSi (As := [vi lx1]) (rest := []) (g := fun rr_2 => rr_2) (W1 := fun rr_2 => W_0) (ws2 := fun rr_2 => (W_T G q T)) C h dX7_bows_8 ml_X7_255 mX7_isWay (fun v hv => kX7_isWay lx1 v hv) (fun rr_2 => ln_T_0__n (G := G) (q := q) (T := T)) rfl rfl rfl rfl rfl rfl (fun rr_2 h => ?_)
  refine X.if_ne (tgt := 17) C h dX7_bows_11 (by decide) (fun h => ?_) (fun h => ?_)
  · refine X.iconst C dX7_bows_17 ?_
    refine X.istore_n (lv2 := [(2, vi 0), (0, .ref ((q 11) 31)), (1, vi lx1)]) C dX7_bows_18 rfl (by decide) rfl ?_
    refine X.iconst C dX7_bows_19 ?_
    refine X.istore_n (lv2 := [(3, vi 0), (2, vi 0), (0, .ref ((q 11) 31)), (1, vi lx1)]) C dX7_bows_20 rfl (by decide) rfl ?_
    refine X.sub [2, 3, 1, 0] rfl ?_
    refine xX7_bows_21 C q T lx1 v FU 0 0 h
  refine X.bipush C dX7_bows_14 (by decide) ?_
  cases h
  exact X.iret C dX7_bows_16 (Nat.zero_le _) (Nat.zero_le _)
def rX7_way : Room := { frames := 4, cells := 0, slots := 0, locals := 111 }
theorem mX7_way : MV yX7_way cX7_way 5 (some .int) 4 := ⟨cd_X7_way, in_X7, ⟨⟨by decide, by decide⟩, by decide +kernel⟩, im_X7_way, se_X7_way⟩
set_option maxHeartbeats 4000000 in
set_option maxRecDepth 100000 in
theorem kX7_way {l : Launch} {G : GT} (q : Nat → Nat → Nat) (T : Nat → Ob) (lx1 : Int) (lx2 : Int) (lx3 : Int) (lx4 : Int) (v : (Int × (Nat → Ob))) (h : fX7_way T lx1 lx2 lx3 lx4 = some v) : CT l G yX7_way cX7_way 5 (some .int) rX7_way [.ref ((q 11) 31), vi lx1, vi lx2, vi lx3, vi lx4] (W_T G q T) (W_T G q v.2) (some (vi v.1)) := by
  unfold fX7_way at h
  refine CT.of (by decide) (Nat.le_of_ble_eq_true rfl) rfl (fun κ _ C => ?_)
  refine X.aload_n C dX7_way_0 rfl 0 rfl ?_
  refine X.get C dX7_way_1 lay_X7 0 rfl rfl 2 (by decide) fl_X7_19 rfl rfl ?_
  refine X.get C dX7_way_4 lay_X3 5 rfl rfl 0 (by decide) fl_X7_28 rfl rfl ?_
  refine X.iload_n C dX7_way_7 rfl 1 rfl ?_
  refine X.iload_n C dX7_way_8 rfl 2 rfl ?_
  refine X.callVi (q0 := 6) (As := [vi lx1, vi lx2]) (rest := []) (g := fun rr_1 => rr_1) (W1 := fun rr_1 => (W_P G (q 2) (T 2))) (ws2 := fun rr_1 => (W_T G q T)) C h dX7_way_9 ml_X7_120 mX1_isCell (fun v hv => kX1_isCell (q 2) (T 2) lx1 lx2 v hv) (fun rr_1 => ln_T_P_np_n (G := G) (q := q) (T := T)) rfl rfl rfl rfl rfl rfl rfl rfl (fun rr_1 h => ?_)
  refine X.if_eq (tgt := 31) C h dX7_way_12 (by decide) (fun h => ?_) (fun h => ?_)
  · refine X.bipush C dX7_way_31 (by decide) ?_
    cases h
    exact X.iret C dX7_way_33 (Nat.zero_le _) (Nat.zero_le _)
  refine X.aload_n C dX7_way_15 rfl 0 rfl ?_
  refine X.get C dX7_way_16 lay_X7 0 rfl rfl 2 (by decide) fl_X7_19 rfl rfl ?_
  refine X.get C dX7_way_19 lay_X3 5 rfl rfl 0 (by decide) fl_X7_28 rfl rfl ?_
  refine X.iload_n C dX7_way_22 rfl 3 rfl ?_
  refine X.iload C dX7_way_23 4 rfl ?_
  refine X.callVi (q0 := 6) (As := [vi lx3, vi lx4]) (rest := []) (g := fun rr_2 => rr_2) (W1 := fun rr_2 => (W_P G (q 2) (T 2))) (ws2 := fun rr_2 => (W_T G q T)) C h dX7_way_25 ml_X7_120 mX1_isCell (fun v hv => kX1_isCell (q 2) (T 2) lx3 lx4 v hv) (fun rr_2 => ln_T_P_np_n (G := G) (q := q) (T := T)) rfl rfl rfl rfl rfl rfl rfl rfl (fun rr_2 h => ?_)
  refine X.if_ne (tgt := 34) C h dX7_way_28 (by decide) (fun h => ?_) (fun h => ?_)
  · refine X.aload_n C dX7_way_34 rfl 0 rfl ?_
    refine X.get C dX7_way_35 lay_X7 0 rfl rfl 2 (by decide) fl_X7_19 rfl rfl ?_
    refine X.get C dX7_way_38 lay_X3 5 rfl rfl 0 (by decide) fl_X7_28 rfl rfl ?_
    refine X.iload_n C dX7_way_41 rfl 1 rfl ?_
    refine X.iload_n C dX7_way_42 rfl 2 rfl ?_
    refine X.callVi (q0 := 6) (As := [vi lx1, vi lx2]) (rest := []) (g := fun rr_3 => rr_3) (W1 := fun rr_3 => (W_P G (q 2) (T 2))) (ws2 := fun rr_3 => (W_T G q T)) C h dX7_way_43 ml_X7_355 mX1_isBasin (fun v hv => kX1_isBasin (q 2) (T 2) lx1 lx2 v hv) (fun rr_3 => ln_T_P_np_n (G := G) (q := q) (T := T)) rfl rfl rfl rfl rfl rfl rfl rfl (fun rr_3 h => ?_)
    refine X.if_ne (tgt := 65) C h dX7_way_46 (by decide) (fun h => ?_) (fun h => ?_)
    · refine X.iconst C dX7_way_65 ?_
      cases h
      exact X.iret C dX7_way_66 (Nat.zero_le _) (Nat.zero_le _)
    refine X.aload_n C dX7_way_49 rfl 0 rfl ?_
    refine X.get C dX7_way_50 lay_X7 0 rfl rfl 2 (by decide) fl_X7_19 rfl rfl ?_
    refine X.get C dX7_way_53 lay_X3 5 rfl rfl 0 (by decide) fl_X7_28 rfl rfl ?_
    refine X.iload_n C dX7_way_56 rfl 3 rfl ?_
    refine X.iload C dX7_way_57 4 rfl ?_
    refine X.callVi (q0 := 6) (As := [vi lx3, vi lx4]) (rest := []) (g := fun rr_4 => rr_4) (W1 := fun rr_4 => (W_P G (q 2) (T 2))) (ws2 := fun rr_4 => (W_T G q T)) C h dX7_way_59 ml_X7_355 mX1_isBasin (fun v hv => kX1_isBasin (q 2) (T 2) lx3 lx4 v hv) (fun rr_4 => ln_T_P_np_n (G := G) (q := q) (T := T)) rfl rfl rfl rfl rfl rfl rfl rfl (fun rr_4 h => ?_)
    refine X.if_eq (tgt := 67) C h dX7_way_62 (by decide) (fun h => ?_) (fun h => ?_)
    · refine X.aload_n C dX7_way_67 rfl 0 rfl ?_
      refine X.get C dX7_way_68 lay_X7 0 rfl rfl 6 (by decide) fl_X7_53 rfl rfl ?_
      refine X.aload_n C dX7_way_71 rfl 0 rfl ?_
      refine X.get C dX7_way_72 lay_X7 0 rfl rfl 2 (by decide) fl_X7_19 rfl rfl ?_
      refine X.iload_n C dX7_way_75 rfl 1 rfl ?_
      refine X.iload_n C dX7_way_76 rfl 2 rfl ?_
      refine X.callSi (As := [vi lx1, vi lx2]) (rest := [.ref ((q 12) 31), .ref ((q 10) 31)]) (g := fun rr_5 => rr_5) (W1 := fun rr_5 => W_0) (ws2 := fun rr_5 => (W_T G q T)) C h dX7_way_77 ml_X7_358 mX7_cellOf (fun v hv => kX7_cellOf lx1 lx2 v hv) (fun rr_5 => ln_T_0__n (G := G) (q := q) (T := T)) rfl rfl rfl rfl rfl rfl (fun rr_5 h => ?_)
      refine X.iload_n C dX7_way_80 rfl 3 rfl ?_
      refine X.iload C dX7_way_81 4 rfl ?_
      refine X.callSi (As := [vi lx3, vi lx4]) (rest := [vi rr_5, .ref ((q 12) 31), .ref ((q 10) 31)]) (g := fun rr_6 => rr_6) (W1 := fun rr_6 => W_0) (ws2 := fun rr_6 => (W_T G q T)) C h dX7_way_83 ml_X7_358 mX7_cellOf (fun v hv => kX7_cellOf lx3 lx4 v hv) (fun rr_6 => ln_T_0__n (G := G) (q := q) (T := T)) rfl rfl rfl rfl rfl rfl (fun rr_6 h => ?_)
      refine X.callVi (q0 := 49) (As := [.ref ((q 12) 31), vi rr_5, vi rr_6]) (rest := []) (g := fun rr_7 => rr_7.1) (W1 := fun rr_7 => (W_K G (q 10) (q 12) (q 2) (q 3) rr_7.2 (T 2) (T 3))) (ws2 := fun rr_7 => (W_T G q (upO T 10 rr_7.2))) C h dX7_way_86 ml_X7_361 mX6_driest (fun v hv => kX6_driest (q 10) (q 12) (q 2) (q 3) (T 10) (T 2) (T 3) rr_5 rr_6 v hv) (fun rr_7 => ln_T_K_k_ns_np_na_K (G := G) (q := q) (T := T) (NK := rr_7.2)) rfl rfl rfl rfl rfl rfl rfl rfl (fun rr_7 h => ?_)
      refine X.nameS (ws := fun T_8 => (W_T G q T_8)) h (fun T_8 h => ?_)
      cases h
      exact X.iret C dX7_way_89 (Nat.zero_le _) (Nat.zero_le _)
    refine X.iconst C dX7_way_65 ?_
    cases h
    exact X.iret C dX7_way_66 (Nat.zero_le _) (Nat.zero_le _)
  refine X.bipush C dX7_way_31 (by decide) ?_
  cases h
  exact X.iret C dX7_way_33 (Nat.zero_le _) (Nat.zero_le _)
def rX7_row : Room := { frames := 2, cells := 0, slots := 0, locals := 46 }
theorem mX7_row : MV yX7_row cX7_row 4 (some .int) 3 := ⟨cd_X7_row, in_X7, ⟨⟨by decide, by decide⟩, by decide +kernel⟩, im_X7_row, se_X7_row⟩
set_option maxHeartbeats 4000000 in
set_option maxRecDepth 100000 in
theorem kX7_row {l : Launch} {G : GT} (q : Nat → Nat → Nat) (T : Nat → Ob) (lx1 : Int) (lx2 : Int) (lx3 : Int) (v : (Int × (Nat → Ob))) (h : fX7_row T lx1 lx2 lx3 = some v) : CT l G yX7_row cX7_row 4 (some .int) rX7_row [.ref ((q 11) 31), vi lx1, vi lx2, vi lx3] (W_T G q T) (W_T G q v.2) (some (vi v.1)) := by
  unfold fX7_row at h
  refine CT.of (by decide) (Nat.le_of_ble_eq_true rfl) rfl (fun κ _ C => ?_)
  refine X.iload_n C dX7_row_0 rfl 1 rfl ?_
  refine X.callSi (As := [vi lx1]) (rest := []) (g := fun rr_1 => rr_1) (W1 := fun rr_1 => W_0) (ws2 := fun rr_1 => (W_T G q T)) C h dX7_row_1 ml_X7_275 mX7_isSlot (fun v hv => kX7_isSlot lx1 v hv) (fun rr_1 => ln_T_0__n (G := G) (q := q) (T := T)) rfl rfl rfl rfl rfl rfl (fun rr_1 h => ?_)
  refine X.if_eq (tgt := 22) C h dX7_row_4 (by decide) (fun h => ?_) (fun h => ?_)
  · refine X.bipush C dX7_row_22 (by decide) ?_
    cases h
    exact X.iret C dX7_row_24 (Nat.zero_le _) (Nat.zero_le _)
  refine X.iload_n C dX7_row_7 rfl 2 rfl ?_
  refine X.iconst C dX7_row_8 ?_
  refine X.iconst C dX7_row_9 ?_
  refine X.callSi (As := [vi lx2, vi 0, vi 3]) (rest := []) (g := fun rr_2 => rr_2) (W1 := fun rr_2 => W_0) (ws2 := fun rr_2 => (W_T G q T)) C h dX7_row_10 ml_X7_93 mX7_isWithin (fun v hv => kX7_isWithin lx2 0 3 v hv) (fun rr_2 => ln_T_0__n (G := G) (q := q) (T := T)) rfl rfl rfl rfl rfl rfl (fun rr_2 h => ?_)
  refine X.if_eq (tgt := 22) C h dX7_row_13 (by decide) (fun h => ?_) (fun h => ?_)
  · refine X.bipush C dX7_row_22 (by decide) ?_
    cases h
    exact X.iret C dX7_row_24 (Nat.zero_le _) (Nat.zero_le _)
  refine X.iload_n C dX7_row_16 rfl 3 rfl ?_
  refine X.bipush C dX7_row_17 (by decide) ?_
  refine X.icmp_le (tgt := 25) C h dX7_row_19 (by decide) (fun h => ?_) (fun h => ?_)
  · refine X.iload_n C dX7_row_25 rfl 3 rfl ?_
    refine X.if_ge (tgt := 32) C h dX7_row_26 (by decide) (fun h => ?_) (fun h => ?_)
    · refine X.aload_n C dX7_row_32 rfl 0 rfl ?_
      refine X.get C dX7_row_33 lay_X7 0 rfl rfl 5 (by decide) fl_X7_45 rfl rfl ?_
      refine X.iload_n C dX7_row_36 rfl 1 rfl ?_
      refine X.aldR C h dX7_row_37 1 rfl (fun h hj_3 => ?_)
      refine X.iload_n C dX7_row_38 rfl 2 rfl ?_
      refine X.iload_n C dX7_row_39 rfl 3 rfl ?_
      refine X.callVv (q0 := (41 + 2 * (ix lx1))) (As := [vi lx2, vi lx3]) (rest := []) (W1 := fun rr_4 => (W_R G (q (6 + (ix lx1))) rr_4)) (ws2 := fun rr_4 => (W_T G q (upO T (6 + (ix lx1)) rr_4))) C h dX7_row_40 ml_X7_368 mX2_begin (fun v hv => kX2_begin (q (6 + (ix lx1))) (T (6 + (ix lx1))) lx2 lx3 v hv) (fun rr_4 => ln_T_R_row_R (G := G) (q := q) (T := T) (NR := rr_4) hj_3) (row_o hj_3) rfl rfl rfl rfl rfl rfl rfl (fun rr_4 h => ?_)
      refine X.nameS (ws := fun T_5 => (W_T G q T_5)) h (fun T_5 h => ?_)
      refine X.iconst C dX7_row_43 ?_
      cases h
      exact X.iret C dX7_row_44 (Nat.zero_le _) (Nat.zero_le _)
    refine X.bipush C dX7_row_29 (by decide) ?_
    cases h
    exact X.iret C dX7_row_31 (Nat.zero_le _) (Nat.zero_le _)
  refine X.bipush C dX7_row_22 (by decide) ?_
  cases h
  exact X.iret C dX7_row_24 (Nat.zero_le _) (Nat.zero_le _)
def rX7_write : Room := { frames := 2, cells := 0, slots := 0, locals := 42 }
theorem mX7_write : MV yX7_write cX7_write 5 (some .int) 3 := ⟨cd_X7_write, in_X7, ⟨⟨by decide, by decide⟩, by decide +kernel⟩, im_X7_write, se_X7_write⟩
set_option maxHeartbeats 4000000 in
set_option maxRecDepth 100000 in
theorem kX7_write {l : Launch} {G : GT} (q : Nat → Nat → Nat) (T : Nat → Ob) (lx1 : Int) (lx2 : Int) (lx3 : Int) (v : (Int × (Nat → Ob))) (h : fX7_write T lx1 lx2 lx3 = some v) : CT l G yX7_write cX7_write 5 (some .int) rX7_write [.ref ((q 11) 31), vi lx1, vi lx2, vl lx3] (W_T G q T) (W_T G q v.2) (some (vi v.1)) := by
  unfold fX7_write at h
  refine CT.of (by decide) (Nat.le_of_ble_eq_true rfl) rfl (fun κ _ C => ?_)
  refine X.iload_n C dX7_write_0 rfl 1 rfl ?_
  refine X.callSi (As := [vi lx1]) (rest := []) (g := fun rr_1 => rr_1) (W1 := fun rr_1 => W_0) (ws2 := fun rr_1 => (W_T G q T)) C h dX7_write_1 ml_X7_275 mX7_isSlot (fun v hv => kX7_isSlot lx1 v hv) (fun rr_1 => ln_T_0__n (G := G) (q := q) (T := T)) rfl rfl rfl rfl rfl rfl (fun rr_1 h => ?_)
  refine X.if_ne (tgt := 10) C h dX7_write_4 (by decide) (fun h => ?_) (fun h => ?_)
  · refine X.aload_n C dX7_write_10 rfl 0 rfl ?_
    refine X.get C dX7_write_11 lay_X7 0 rfl rfl 5 (by decide) fl_X7_45 rfl rfl ?_
    refine X.iload_n C dX7_write_14 rfl 1 rfl ?_
    refine X.aldR C h dX7_write_15 1 rfl (fun h hj_2 => ?_)
    refine X.get C dX7_write_16 lay_X2 (41 + 2 * (ix lx1)) (row_o hj_2) rfl 0 (by decide) fl_X7_278 rfl rfl ?_
    refine X.if_ne (tgt := 25) C h dX7_write_19 (by decide) (fun h => ?_) (fun h => ?_)
    · refine X.iload_n C dX7_write_25 rfl 2 rfl ?_
      refine X.if_lt (tgt := 42) C h dX7_write_26 (by decide) (fun h => ?_) (fun h => ?_)
      · refine X.bipush C dX7_write_42 (by decide) ?_
        cases h
        exact X.iret C dX7_write_44 (Nat.zero_le _) (Nat.zero_le _)
      refine X.iload_n C dX7_write_29 rfl 2 rfl ?_
      refine X.aload_n C dX7_write_30 rfl 0 rfl ?_
      refine X.get C dX7_write_31 lay_X7 0 rfl rfl 5 (by decide) fl_X7_45 rfl rfl ?_
      refine X.iload_n C dX7_write_34 rfl 1 rfl ?_
      refine X.aldR C h dX7_write_35 1 rfl (fun h hj_3 => ?_)
      refine X.get C dX7_write_36 lay_X2 (41 + 2 * (ix lx1)) (row_o hj_3) rfl 2 (by decide) fl_X7_333 rfl rfl ?_
      refine X.icmp_lt (tgt := 45) C h dX7_write_39 (by decide) (fun h => ?_) (fun h => ?_)
      · refine X.aload_n C dX7_write_45 rfl 0 rfl ?_
        refine X.get C dX7_write_46 lay_X7 0 rfl rfl 5 (by decide) fl_X7_45 rfl rfl ?_
        refine X.iload_n C dX7_write_49 rfl 1 rfl ?_
        refine X.aldR C h dX7_write_50 1 rfl (fun h hj_4 => ?_)
        refine X.get C dX7_write_51 lay_X2 (41 + 2 * (ix lx1)) (row_o hj_4) rfl 3 (by decide) fl_X7_371 rfl rfl ?_
        refine X.iload_n C dX7_write_54 rfl 2 rfl ?_
        refine X.aload_n C dX7_write_55 rfl 0 rfl ?_
        refine X.get C dX7_write_56 lay_X7 0 rfl rfl 5 (by decide) fl_X7_45 rfl rfl ?_
        refine X.iload_n C dX7_write_59 rfl 1 rfl ?_
        refine X.aldR C h dX7_write_60 1 rfl (fun h hj_5 => ?_)
        refine X.lload_n C dX7_write_61 rfl 3 rfl ?_
        refine X.callVl (q0 := (41 + 2 * (ix lx1))) (As := [vl lx3]) (rest := [vi lx2, .ref ((q (6 + (ix lx1))) 3)]) (g := fun rr_6 => rr_6) (W1 := fun rr_6 => (W_R G (q (6 + (ix lx1))) (T (6 + (ix lx1))))) (ws2 := fun rr_6 => (W_T G q T)) C h dX7_write_62 ml_X7_375 mX2_cut (fun v hv => kX2_cut (q (6 + (ix lx1))) (T (6 + (ix lx1))) lx3 v hv) (fun rr_6 => ln_T_R_row_n (G := G) (q := q) (T := T) hj_5) (row_o hj_5) rfl rfl rfl rfl rfl rfl rfl (fun rr_6 h => ?_)
        refine X.last (ws2 := (W_T G q (upO T (6 + (ix lx1)) (up2 (T (6 + (ix lx1))) 3 (ix lx2) rr_6)))) C h dX7_write_65 (42 + 2 * (ix lx1)) (row_a hj_5) (row_set hj_5) (fun h => ?_)
        refine X.nameS (ws := fun T_7 => (W_T G q T_7)) h (fun T_7 h => ?_)
        refine X.iconst C dX7_write_66 ?_
        cases h
        exact X.iret C dX7_write_67 (Nat.zero_le _) (Nat.zero_le _)
      refine X.bipush C dX7_write_42 (by decide) ?_
      cases h
      exact X.iret C dX7_write_44 (Nat.zero_le _) (Nat.zero_le _)
    refine X.bipush C dX7_write_22 (by decide) ?_
    cases h
    exact X.iret C dX7_write_24 (Nat.zero_le _) (Nat.zero_le _)
  refine X.bipush C dX7_write_7 (by decide) ?_
  cases h
  exact X.iret C dX7_write_9 (Nat.zero_le _) (Nat.zero_le _)
def rX7_paste : Room := { frames := 2, cells := 0, slots := 0, locals := 60 }
theorem mX7_paste : MV yX7_paste cX7_paste 8 (some .int) 5 := ⟨cd_X7_paste, in_X7, ⟨⟨by decide, by decide⟩, by decide +kernel⟩, im_X7_paste, se_X7_paste⟩
set_option maxHeartbeats 4000000 in
set_option maxRecDepth 100000 in
theorem kX7_paste {l : Launch} {G : GT} (q : Nat → Nat → Nat) (T : Nat → Ob) (lx1 : Int) (lx2 : Int) (lx3 : Int) (lx4 : Int) (lx5 : Int) (v : (Int × (Nat → Ob))) (h : fX7_paste T lx1 lx2 lx3 lx4 lx5 = some v) : CT l G yX7_paste cX7_paste 8 (some .int) rX7_paste [.ref ((q 11) 31), vi lx1, vi lx2, vi lx3, vi lx4, vi lx5] (W_T G q T) (W_T G q v.2) (some (vi v.1)) := by
  unfold fX7_paste at h
  refine CT.of (by decide) (Nat.le_of_ble_eq_true rfl) rfl (fun κ _ C => ?_)
  refine X.iload_n C dX7_paste_0 rfl 1 rfl ?_
  refine X.callSi (As := [vi lx1]) (rest := []) (g := fun rr_1 => rr_1) (W1 := fun rr_1 => W_0) (ws2 := fun rr_1 => (W_T G q T)) C h dX7_paste_1 ml_X7_275 mX7_isSlot (fun v hv => kX7_isSlot lx1 v hv) (fun rr_1 => ln_T_0__n (G := G) (q := q) (T := T)) rfl rfl rfl rfl rfl rfl (fun rr_1 h => ?_)
  refine X.if_eq (tgt := 14) C h dX7_paste_4 (by decide) (fun h => ?_) (fun h => ?_)
  · refine X.bipush C dX7_paste_14 (by decide) ?_
    cases h
    exact X.iret C dX7_paste_16 (Nat.zero_le _) (Nat.zero_le _)
  refine X.iload_n C dX7_paste_7 rfl 3 rfl ?_
  refine X.callSi (As := [vi lx3]) (rest := []) (g := fun rr_2 => rr_2) (W1 := fun rr_2 => W_0) (ws2 := fun rr_2 => (W_T G q T)) C h dX7_paste_8 ml_X7_275 mX7_isSlot (fun v hv => kX7_isSlot lx3 v hv) (fun rr_2 => ln_T_0__n (G := G) (q := q) (T := T)) rfl rfl rfl rfl rfl rfl (fun rr_2 h => ?_)
  refine X.if_ne (tgt := 17) C h dX7_paste_11 (by decide) (fun h => ?_) (fun h => ?_)
  · refine X.aload_n C dX7_paste_17 rfl 0 rfl ?_
    refine X.get C dX7_paste_18 lay_X7 0 rfl rfl 5 (by decide) fl_X7_45 rfl rfl ?_
    refine X.iload_n C dX7_paste_21 rfl 1 rfl ?_
    refine X.aldR C h dX7_paste_22 1 rfl (fun h hj_3 => ?_)
    refine X.astore (lv2 := [(6, .ref ((q (6 + (ix lx1))) 31)), (0, .ref ((q 11) 31)), (1, vi lx1), (2, vi lx2), (3, vi lx3), (4, vi lx4), (5, vi lx5)]) C dX7_paste_23 (by decide) rfl ?_
    refine X.aload_n C dX7_paste_25 rfl 1 rfl ?_
    refine X.get C dX7_paste_26 lay_X7 0 rfl rfl 5 (by decide) fl_X7_45 rfl rfl ?_
    refine X.iload_n C dX7_paste_29 rfl 4 rfl ?_
    refine X.aldR C h dX7_paste_30 1 rfl (fun h hj_4 => ?_)
    refine X.astore (lv2 := [(7, .ref ((q (6 + (ix lx3))) 31)), (6, .ref ((q (6 + (ix lx1))) 31)), (0, .ref ((q 11) 31)), (1, vi lx1), (2, vi lx2), (3, vi lx3), (4, vi lx4), (5, vi lx5)]) C dX7_paste_31 (by decide) rfl ?_
    refine X.aload C dX7_paste_33 1 rfl ?_
    refine X.get C dX7_paste_35 lay_X2 (41 + 2 * (ix lx1)) (row_o hj_3) rfl 0 (by decide) fl_X7_278 rfl rfl ?_
    refine X.if_eq (tgt := 49) C h dX7_paste_38 (by decide) (fun h => ?_) (fun h => ?_)
    · refine X.bipush C dX7_paste_49 (by decide) ?_
      cases h
      exact X.iret C dX7_paste_51 (Nat.zero_le _) (Nat.zero_le _)
    refine X.aload C dX7_paste_41 0 rfl ?_
    refine X.get C dX7_paste_43 lay_X2 (41 + 2 * (ix lx3)) (row_o hj_4) rfl 0 (by decide) fl_X7_278 rfl rfl ?_
    refine X.if_ne (tgt := 52) C h dX7_paste_46 (by decide) (fun h => ?_) (fun h => ?_)
    · refine X.aload C dX7_paste_52 1 rfl ?_
      refine X.get C dX7_paste_54 lay_X2 (41 + 2 * (ix lx1)) (row_o hj_3) rfl 1 (by decide) fl_X7_379 rfl rfl ?_
      refine X.aload C dX7_paste_57 0 rfl ?_
      refine X.get C dX7_paste_59 lay_X2 (41 + 2 * (ix lx3)) (row_o hj_4) rfl 1 (by decide) fl_X7_379 rfl rfl ?_
      refine X.icmp_eq (tgt := 68) C h dX7_paste_62 (by decide) (fun h => ?_) (fun h => ?_)
      · refine X.aload C dX7_paste_68 1 rfl ?_
        refine X.iload_n C dX7_paste_70 rfl 4 rfl ?_
        refine X.iload C dX7_paste_71 7 rfl ?_
        refine X.callVi (q0 := (41 + 2 * (ix lx1))) (As := [vi lx2, vi lx5]) (rest := []) (g := fun rr_5 => rr_5) (W1 := fun rr_5 => (W_R G (q (6 + (ix lx1))) (T (6 + (ix lx1))))) (ws2 := fun rr_5 => (W_T G q T)) C h dX7_paste_73 ml_X7_382 mX2_holds (fun v hv => kX2_holds (q (6 + (ix lx1))) (T (6 + (ix lx1))) lx2 lx5 v hv) (fun rr_5 => ln_T_R_row_n (G := G) (q := q) (T := T) hj_3) (row_o hj_3) rfl rfl rfl rfl rfl rfl rfl (fun rr_5 h => ?_)
        refine X.if_eq (tgt := 91) C h dX7_paste_76 (by decide) (fun h => ?_) (fun h => ?_)
        · refine X.bipush C dX7_paste_91 (by decide) ?_
          cases h
          exact X.iret C dX7_paste_93 (Nat.zero_le _) (Nat.zero_le _)
        refine X.aload C dX7_paste_79 0 rfl ?_
        refine X.iload C dX7_paste_81 6 rfl ?_
        refine X.iload C dX7_paste_83 7 rfl ?_
        refine X.callVi (q0 := (41 + 2 * (ix lx3))) (As := [vi lx4, vi lx5]) (rest := []) (g := fun rr_6 => rr_6) (W1 := fun rr_6 => (W_R G (q (6 + (ix lx3))) (T (6 + (ix lx3))))) (ws2 := fun rr_6 => (W_T G q T)) C h dX7_paste_85 ml_X7_382 mX2_holds (fun v hv => kX2_holds (q (6 + (ix lx3))) (T (6 + (ix lx3))) lx4 lx5 v hv) (fun rr_6 => ln_T_R_row_n (G := G) (q := q) (T := T) hj_4) (row_o hj_4) rfl rfl rfl rfl rfl rfl rfl (fun rr_6 h => ?_)
        refine X.if_ne (tgt := 94) C h dX7_paste_88 (by decide) (fun h => ?_) (fun h => ?_)
        · refine X.aload C dX7_paste_94 1 rfl ?_
          refine X.get C dX7_paste_96 lay_X2 (41 + 2 * (ix lx1)) (row_o hj_3) rfl 3 (by decide) fl_X7_371 rfl rfl ?_
          refine X.iload_n C dX7_paste_99 rfl 4 rfl ?_
          refine X.aload C dX7_paste_100 0 rfl ?_
          refine X.get C dX7_paste_102 lay_X2 (41 + 2 * (ix lx3)) (row_o hj_4) rfl 3 (by decide) fl_X7_371 rfl rfl ?_
          refine X.iload C dX7_paste_105 6 rfl ?_
          refine X.iload C dX7_paste_107 7 rfl ?_
          refine X.cpL (ws2 := (W_T G q (upO T (6 + (ix lx3)) (upA (T (6 + (ix lx3))) 3 (cpf ((T (6 + (ix lx1))) 3) ((T (6 + (ix lx3))) 3) lx2 lx4 lx5))))) C h dX7_paste_109 ml_X7_385 (42 + 2 * (ix lx1)) (42 + 2 * (ix lx3)) (row_a hj_3) (row_a hj_4) (Nat.le_of_ble_eq_true rfl) (Nat.le_of_ble_eq_true rfl) (row_setA hj_4) (fun h => ?_)
          refine X.nameS (ws := fun T_7 => (W_T G q T_7)) h (fun T_7 h => ?_)
          refine X.iconst C dX7_paste_112 ?_
          cases h
          exact X.iret C dX7_paste_113 (Nat.zero_le _) (Nat.zero_le _)
        refine X.bipush C dX7_paste_91 (by decide) ?_
        cases h
        exact X.iret C dX7_paste_93 (Nat.zero_le _) (Nat.zero_le _)
      refine X.bipush C dX7_paste_65 (by decide) ?_
      cases h
      exact X.iret C dX7_paste_67 (Nat.zero_le _) (Nat.zero_le _)
    refine X.bipush C dX7_paste_49 (by decide) ?_
    cases h
    exact X.iret C dX7_paste_51 (Nat.zero_le _) (Nat.zero_le _)
  refine X.bipush C dX7_paste_14 (by decide) ?_
  cases h
  exact X.iret C dX7_paste_16 (Nat.zero_le _) (Nat.zero_le _)
def rX8_in : Room := { frames := 0, cells := 0, slots := 0, locals := 0 }
theorem mX8_in : MS yX8_in cX8_in 6 (some .boolean) 3 := ⟨cd_X8_in, in_X8, ⟨⟨by decide, by decide⟩, by decide +kernel⟩, sm_X8_in⟩
set_option maxHeartbeats 4000000 in
set_option maxRecDepth 100000 in
theorem kX8_in {l : Launch} {G : GT} (lx0 : Int) (lx2 : Int) (lx4 : Int) (v : (Int)) (h : fX8_in lx0 lx2 lx4 = some v) : CT l G yX8_in cX8_in 6 (some .boolean) rX8_in [vl lx0, vl lx2, vl lx4] W_0 W_0 (some (vi v)) := by
  unfold fX8_in at h
  refine CT.of (by decide) (Nat.le_of_ble_eq_true rfl) rfl (fun κ _ C => ?_)
  refine X.lload_n C dX8_in_0 rfl 0 rfl ?_
  refine X.lload_n C dX8_in_1 rfl 1 rfl ?_
  refine X.lcmp C dX8_in_2 ?_
  refine X.if_lt (tgt := 17) C h dX8_in_3 (by decide) (fun h => ?_) (fun h => ?_)
  · refine X.iconst C dX8_in_17 ?_
    cases h
    exact X.zret C rfl dX8_in_18 (Nat.zero_le _) (Nat.zero_le _)
  refine X.lload_n C dX8_in_6 rfl 0 rfl ?_
  refine X.lload C dX8_in_7 2 rfl ?_
  refine X.lcmp C dX8_in_9 ?_
  refine X.if_gt (tgt := 17) C h dX8_in_10 (by decide) (fun h => ?_) (fun h => ?_)
  · refine X.iconst C dX8_in_17 ?_
    cases h
    exact X.zret C rfl dX8_in_18 (Nat.zero_le _) (Nat.zero_le _)
  refine X.iconst C dX8_in_13 ?_
  refine X.goto (tgt := 18) C dX8_in_14 (by decide) ?_
  cases h
  exact X.zret C rfl dX8_in_18 (Nat.zero_le _) (Nat.zero_le _)
def rX8_keep : Room := { frames := 1, cells := 0, slots := 0, locals := 25 }
theorem mX8_keep : MV yX8_keep cX8_keep 3 (some .int) 1 := ⟨cd_X8_keep, in_X8, ⟨⟨by decide, by decide⟩, by decide +kernel⟩, im_X8_keep, se_X8_keep⟩
set_option maxHeartbeats 4000000 in
set_option maxRecDepth 100000 in
theorem xX8_keep_17 {κ : Kx} {G : GT} (C : Cx κ G yX8_keep cX8_keep (some .int) 3 rX8_keep) (q : Nat → Nat) (lx1 : Int) (kx0 : Ob → Option (Int × Ob)) (v : (Int × Ob)) (hk0 : ∀ (M : Ob), kx0 M = some v → X κ G 3 (W_M G q M) 48 [(0, .ref (q 31)), (1, vi lx1)] [] 0 0 (QM κ G (W_M G q v.2) (some (vi v.1)) rX8_keep.cells rX8_keep.slots)) : ∀ (n : Nat) (lx2 : Int) (M : Ob), lX8_keep_17 lx1 kx0 n lx2 M = some v → X κ G 3 (W_M G q M) 17 [(0, .ref (q 31)), (1, vi lx1), (2, vi lx2)] [] 0 0 (QM κ G (W_M G q v.2) (some (vi v.1)) rX8_keep.cells rX8_keep.slots) := by
  intro n
  induction n with
  | zero => intro _ _ h; exact absurd h (fun h => nomatch h)
  | succ n ih =>
    intro lx2 M h
    rw [lX8_keep_17] at h
    refine X.iload_n C dX8_keep_17 rfl 2 rfl ?_
    refine X.sipush C dX8_keep_18 (by decide) ?_
    refine X.icmp_ge (tgt := 48) C h dX8_keep_21 (by decide) (fun h => ?_) (fun h => ?_)
    · refine X.sub [0, 1] rfl ?_
      exact hk0 M h
    refine X.aload_n C dX8_keep_24 rfl 0 rfl ?_
    refine X.get C dX8_keep_25 lay_X8 0 rfl rfl 2 (by decide) fl_X8_17 rfl rfl ?_
    refine X.sipush C dX8_keep_28 (by decide) ?_
    refine X.iload_n C dX8_keep_31 rfl 1 rfl ?_
    refine X.imul C dX8_keep_32 ?_
    refine X.iload_n C dX8_keep_33 rfl 2 rfl ?_
    refine X.iadd C dX8_keep_34 ?_
    refine X.aload_n C dX8_keep_35 rfl 0 rfl ?_
    refine X.get C dX8_keep_36 lay_X8 0 rfl rfl 1 (by decide) fl_X8_13 rfl rfl ?_
    refine X.iload_n C dX8_keep_39 rfl 2 rfl ?_
    refine X.iald C h dX8_keep_40 1 rfl (fun h => ?_)
    refine X.iast (ws2 := (W_M G q (up2 M 2 (ix ((1419 * lx1) + lx2)) (M 1 (ix lx2))))) C h dX8_keep_41 2 rfl rfl (fun h => ?_)
    refine X.nameS (ws := fun M_2 => (W_M G q M_2)) h (fun M_2 h => ?_)
    refine X.iincN (lv2 := fun lx2_3 => [(2, vi lx2_3), (0, .ref (q 31)), (1, vi lx1)]) C h dX8_keep_42 2 rfl (by decide) (fun _ => rfl) (fun lx2_3 h => ?_)
    refine X.goto (tgt := 17) C dX8_keep_45 (by decide) ?_
    refine X.sub [1, 2, 0] rfl ?_
    exact ih lx2_3 M_2 h
set_option maxHeartbeats 4000000 in
set_option maxRecDepth 100000 in
theorem kX8_keep {l : Launch} {G : GT} (q : Nat → Nat) (M : Ob) (lx1 : Int) (v : (Int × Ob)) (h : fX8_keep M lx1 = some v) : CT l G yX8_keep cX8_keep 3 (some .int) rX8_keep [.ref (q 31), vi lx1] (W_M G q M) (W_M G q v.2) (some (vi v.1)) := by
  unfold fX8_keep at h
  refine CT.of (by decide) (Nat.le_of_ble_eq_true rfl) rfl (fun κ _ C => ?_)
  refine X.iload_n C dX8_keep_0 rfl 1 rfl ?_
  refine X.i2l C dX8_keep_1 ?_
  refine X.lconst (z := 0) C dX8_keep_2 (by decide) ?_
  refine X.ldc2 (z := 2) C cl_X8_66 (by decide) dX8_keep_3 ?_
  refine X.callSi (As := [vl (jwl lx1), vl 0, vl 2]) (rest := []) (g := fun rr_1 => rr_1) (W1 := fun rr_1 => W_0) (ws2 := fun rr_1 => (W_M G q M)) C h dX8_keep_6 ml_X8_68 mX8_in (fun v hv => kX8_in (jwl lx1) 0 2 v hv) (fun rr_1 => ln_M_0__n (G := G) (q := q) (M := M)) rfl rfl rfl rfl rfl rfl (fun rr_1 h => ?_)
  refine X.if_ne (tgt := 15) C h dX8_keep_9 (by decide) (fun h => ?_) (fun h => ?_)
  · refine X.iconst C dX8_keep_15 ?_
    refine X.istore_n (lv2 := [(2, vi 0), (0, .ref (q 31)), (1, vi lx1)]) C dX8_keep_16 rfl (by decide) rfl ?_
    refine X.sub [1, 2, 0] rfl ?_
    refine xX8_keep_17 C q lx1 _ v (fun M_4 h => ?_) FU 0 M h
    · refine X.aload_n C dX8_keep_48 rfl 0 rfl ?_
      refine X.get C dX8_keep_49 lay_X8 0 rfl rfl 3 (by decide) fl_X8_20 rfl rfl ?_
      refine X.iload_n C dX8_keep_52 rfl 1 rfl ?_
      refine X.iconst C dX8_keep_53 ?_
      refine X.zast (ws2 := (W_M G q (up2 M_4 3 (ix lx1) (jzb 1)))) C h dX8_keep_54 3 rfl rfl (fun h => ?_)
      refine X.nameS (ws := fun M_5 => (W_M G q M_5)) h (fun M_5 h => ?_)
      refine X.iconst C dX8_keep_55 ?_
      cases h
      exact X.iret C dX8_keep_56 (Nat.zero_le _) (Nat.zero_le _)
  refine X.bipush C dX8_keep_12 (by decide) ?_
  cases h
  exact X.iret C dX8_keep_14 (Nat.zero_le _) (Nat.zero_le _)
def rX8_back : Room := { frames := 1, cells := 0, slots := 0, locals := 25 }
theorem mX8_back : MV yX8_back cX8_back 3 (some .int) 1 := ⟨cd_X8_back, in_X8, ⟨⟨by decide, by decide⟩, by decide +kernel⟩, im_X8_back, se_X8_back⟩
set_option maxHeartbeats 4000000 in
set_option maxRecDepth 100000 in
theorem xX8_back_29 {κ : Kx} {G : GT} (C : Cx κ G yX8_back cX8_back (some .int) 3 rX8_back) (q : Nat → Nat) (lx1 : Int) (v : (Int × Ob)) : ∀ (n : Nat) (lx2 : Int) (M : Ob), lX8_back_29 lx1 n lx2 M = some v → X κ G 3 (W_M G q M) 29 [(0, .ref (q 31)), (1, vi lx1), (2, vi lx2)] [] 0 0 (QM κ G (W_M G q v.2) (some (vi v.1)) rX8_back.cells rX8_back.slots) := by
  intro n
  induction n with
  | zero => intro _ _ h; exact absurd h (fun h => nomatch h)
  | succ n ih =>
    intro lx2 M h
    rw [lX8_back_29] at h
    refine X.iload_n C dX8_back_29 rfl 2 rfl ?_
    refine X.sipush C dX8_back_30 (by decide) ?_
    refine X.icmp_ge (tgt := 60) C h dX8_back_33 (by decide) (fun h => ?_) (fun h => ?_)
    · refine X.iconst C dX8_back_60 ?_
      cases h
      exact X.iret C dX8_back_61 (Nat.zero_le _) (Nat.zero_le _)
    refine X.aload_n C dX8_back_36 rfl 0 rfl ?_
    refine X.get C dX8_back_37 lay_X8 0 rfl rfl 1 (by decide) fl_X8_13 rfl rfl ?_
    refine X.iload_n C dX8_back_40 rfl 2 rfl ?_
    refine X.aload_n C dX8_back_41 rfl 0 rfl ?_
    refine X.get C dX8_back_42 lay_X8 0 rfl rfl 2 (by decide) fl_X8_17 rfl rfl ?_
    refine X.sipush C dX8_back_45 (by decide) ?_
    refine X.iload_n C dX8_back_48 rfl 1 rfl ?_
    refine X.imul C dX8_back_49 ?_
    refine X.iload_n C dX8_back_50 rfl 2 rfl ?_
    refine X.iadd C dX8_back_51 ?_
    refine X.iald C h dX8_back_52 2 rfl (fun h => ?_)
    refine X.iast (ws2 := (W_M G q (up2 M 1 (ix lx2) (M 2 (ix ((1419 * lx1) + lx2)))))) C h dX8_back_53 1 rfl rfl (fun h => ?_)
    refine X.nameS (ws := fun M_2 => (W_M G q M_2)) h (fun M_2 h => ?_)
    refine X.iincN (lv2 := fun lx2_3 => [(2, vi lx2_3), (0, .ref (q 31)), (1, vi lx1)]) C h dX8_back_54 2 rfl (by decide) (fun _ => rfl) (fun lx2_3 h => ?_)
    refine X.goto (tgt := 29) C dX8_back_57 (by decide) ?_
    refine X.sub [1, 2, 0] rfl ?_
    exact ih lx2_3 M_2 h
set_option maxHeartbeats 4000000 in
set_option maxRecDepth 100000 in
theorem kX8_back {l : Launch} {G : GT} (q : Nat → Nat) (M : Ob) (lx1 : Int) (v : (Int × Ob)) (h : fX8_back M lx1 = some v) : CT l G yX8_back cX8_back 3 (some .int) rX8_back [.ref (q 31), vi lx1] (W_M G q M) (W_M G q v.2) (some (vi v.1)) := by
  unfold fX8_back at h
  refine CT.of (by decide) (Nat.le_of_ble_eq_true rfl) rfl (fun κ _ C => ?_)
  refine X.iload_n C dX8_back_0 rfl 1 rfl ?_
  refine X.i2l C dX8_back_1 ?_
  refine X.lconst (z := 0) C dX8_back_2 (by decide) ?_
  refine X.ldc2 (z := 2) C cl_X8_66 (by decide) dX8_back_3 ?_
  refine X.callSi (As := [vl (jwl lx1), vl 0, vl 2]) (rest := []) (g := fun rr_1 => rr_1) (W1 := fun rr_1 => W_0) (ws2 := fun rr_1 => (W_M G q M)) C h dX8_back_6 ml_X8_68 mX8_in (fun v hv => kX8_in (jwl lx1) 0 2 v hv) (fun rr_1 => ln_M_0__n (G := G) (q := q) (M := M)) rfl rfl rfl rfl rfl rfl (fun rr_1 h => ?_)
  refine X.if_ne (tgt := 15) C h dX8_back_9 (by decide) (fun h => ?_) (fun h => ?_)
  · refine X.aload_n C dX8_back_15 rfl 0 rfl ?_
    refine X.get C dX8_back_16 lay_X8 0 rfl rfl 3 (by decide) fl_X8_20 rfl rfl ?_
    refine X.iload_n C dX8_back_19 rfl 1 rfl ?_
    refine X.zald C h dX8_back_20 3 rfl (fun h => ?_)
    refine X.if_ne (tgt := 27) C h dX8_back_21 (by decide) (fun h => ?_) (fun h => ?_)
    · refine X.iconst C dX8_back_27 ?_
      refine X.istore_n (lv2 := [(2, vi 0), (0, .ref (q 31)), (1, vi lx1)]) C dX8_back_28 rfl (by decide) rfl ?_
      refine X.sub [1, 2, 0] rfl ?_
      refine xX8_back_29 C q lx1 v FU 0 M h
    refine X.bipush C dX8_back_24 (by decide) ?_
    cases h
    exact X.iret C dX8_back_26 (Nat.zero_le _) (Nat.zero_le _)
  refine X.bipush C dX8_back_12 (by decide) ?_
  cases h
  exact X.iret C dX8_back_14 (Nat.zero_le _) (Nat.zero_le _)
def rX8_isSquare : Room := { frames := 0, cells := 0, slots := 0, locals := 0 }
theorem mX8_isSquare : MV yX8_isSquare cX8_isSquare 1 (some .boolean) 0 := ⟨cd_X8_isSquare, in_X8, ⟨⟨by decide, by decide⟩, by decide +kernel⟩, im_X8_isSquare, se_X8_isSquare⟩
set_option maxHeartbeats 4000000 in
set_option maxRecDepth 100000 in
theorem kX8_isSquare {l : Launch} {G : GT} (q : Nat → Nat) (M : Ob) (v : (Int)) (h : fX8_isSquare M = some v) : CT l G yX8_isSquare cX8_isSquare 1 (some .boolean) rX8_isSquare [.ref (q 31)] (W_M G q M) (W_M G q M) (some (vi v)) := by
  unfold fX8_isSquare at h
  refine CT.of (by decide) (Nat.le_of_ble_eq_true rfl) rfl (fun κ _ C => ?_)
  refine X.aload_n C dX8_isSquare_0 rfl 0 rfl ?_
  refine X.get C dX8_isSquare_1 lay_X8 0 rfl rfl 1 (by decide) fl_X8_13 rfl rfl ?_
  refine X.iconst C dX8_isSquare_4 ?_
  refine X.iald C h dX8_isSquare_5 1 rfl (fun h => ?_)
  refine X.if_le (tgt := 13) C h dX8_isSquare_6 (by decide) (fun h => ?_) (fun h => ?_)
  · refine X.iconst C dX8_isSquare_13 ?_
    cases h
    exact X.zret C rfl dX8_isSquare_14 (Nat.zero_le _) (Nat.zero_le _)
  refine X.iconst C dX8_isSquare_9 ?_
  refine X.goto (tgt := 14) C dX8_isSquare_10 (by decide) ?_
  cases h
  exact X.zret C rfl dX8_isSquare_14 (Nat.zero_le _) (Nat.zero_le _)
def rX8_isSize : Room := { frames := 1, cells := 0, slots := 0, locals := 25 }
theorem mX8_isSize : MV yX8_isSize cX8_isSize 2 (some .boolean) 1 := ⟨cd_X8_isSize, in_X8, ⟨⟨by decide, by decide⟩, by decide +kernel⟩, im_X8_isSize, se_X8_isSize⟩
set_option maxHeartbeats 4000000 in
set_option maxRecDepth 100000 in
theorem kX8_isSize {l : Launch} {G : GT} (q : Nat → Nat) (M : Ob) (lx1 : Int) (v : (Int)) (h : fX8_isSize M lx1 = some v) : CT l G yX8_isSize cX8_isSize 2 (some .boolean) rX8_isSize [.ref (q 31), vi lx1] (W_M G q M) (W_M G q M) (some (vi v)) := by
  unfold fX8_isSize at h
  refine CT.of (by decide) (Nat.le_of_ble_eq_true rfl) rfl (fun κ _ C => ?_)
  refine X.iload_n C dX8_isSize_0 rfl 1 rfl ?_
  refine X.i2l C dX8_isSize_1 ?_
  refine X.lconst (z := 0) C dX8_isSize_2 (by decide) ?_
  refine X.aload_n C dX8_isSize_3 rfl 0 rfl ?_
  refine X.get C dX8_isSize_4 lay_X8 0 rfl rfl 1 (by decide) fl_X8_13 rfl rfl ?_
  refine X.bipush C dX8_isSize_7 (by decide) ?_
  refine X.iald C h dX8_isSize_9 1 rfl (fun h => ?_)
  refine X.iconst C dX8_isSize_10 ?_
  refine X.isub C dX8_isSize_11 ?_
  refine X.i2l C dX8_isSize_12 ?_
  refine X.callSi (As := [vl (jwl lx1), vl 0, vl (jwl ((M 1 (ix 10)) - 1))]) (rest := []) (g := fun rr_1 => rr_1) (W1 := fun rr_1 => W_0) (ws2 := fun rr_1 => (W_M G q M)) C h dX8_isSize_13 ml_X8_68 mX8_in (fun v hv => kX8_in (jwl lx1) 0 (jwl ((M 1 (ix 10)) - 1)) v hv) (fun rr_1 => ln_M_0__n (G := G) (q := q) (M := M)) rfl rfl rfl rfl rfl rfl (fun rr_1 h => ?_)
  obtain ⟨hz, h⟩ := gd_out h
  cases h
  exact X.zret C hz dX8_isSize_16 (Nat.zero_le _) (Nat.zero_le _)
def rX8_isTable : Room := { frames := 1, cells := 0, slots := 0, locals := 25 }
theorem mX8_isTable : MV yX8_isTable cX8_isTable 2 (some .boolean) 1 := ⟨cd_X8_isTable, in_X8, ⟨⟨by decide, by decide⟩, by decide +kernel⟩, im_X8_isTable, se_X8_isTable⟩
set_option maxHeartbeats 4000000 in
set_option maxRecDepth 100000 in
theorem kX8_isTable {l : Launch} {G : GT} (q : Nat → Nat) (M : Ob) (lx1 : Int) (v : (Int)) (h : fX8_isTable M lx1 = some v) : CT l G yX8_isTable cX8_isTable 2 (some .boolean) rX8_isTable [.ref (q 31), vi lx1] (W_M G q M) (W_M G q M) (some (vi v)) := by
  unfold fX8_isTable at h
  refine CT.of (by decide) (Nat.le_of_ble_eq_true rfl) rfl (fun κ _ C => ?_)
  refine X.iload_n C dX8_isTable_0 rfl 1 rfl ?_
  refine X.i2l C dX8_isTable_1 ?_
  refine X.lconst (z := 0) C dX8_isTable_2 (by decide) ?_
  refine X.aload_n C dX8_isTable_3 rfl 0 rfl ?_
  refine X.get C dX8_isTable_4 lay_X8 0 rfl rfl 1 (by decide) fl_X8_13 rfl rfl ?_
  refine X.bipush C dX8_isTable_7 (by decide) ?_
  refine X.iald C h dX8_isTable_9 1 rfl (fun h => ?_)
  refine X.iconst C dX8_isTable_10 ?_
  refine X.isub C dX8_isTable_11 ?_
  refine X.i2l C dX8_isTable_12 ?_
  refine X.callSi (As := [vl (jwl lx1), vl 0, vl (jwl ((M 1 (ix 11)) - 1))]) (rest := []) (g := fun rr_1 => rr_1) (W1 := fun rr_1 => W_0) (ws2 := fun rr_1 => (W_M G q M)) C h dX8_isTable_13 ml_X8_68 mX8_in (fun v hv => kX8_in (jwl lx1) 0 (jwl ((M 1 (ix 11)) - 1)) v hv) (fun rr_1 => ln_M_0__n (G := G) (q := q) (M := M)) rfl rfl rfl rfl rfl rfl (fun rr_1 h => ?_)
  obtain ⟨hz, h⟩ := gd_out h
  cases h
  exact X.zret C hz dX8_isTable_16 (Nat.zero_le _) (Nat.zero_le _)
def rX8_isCell : Room := { frames := 1, cells := 0, slots := 0, locals := 25 }
theorem mX8_isCell : MV yX8_isCell cX8_isCell 3 (some .boolean) 2 := ⟨cd_X8_isCell, in_X8, ⟨⟨by decide, by decide⟩, by decide +kernel⟩, im_X8_isCell, se_X8_isCell⟩
set_option maxHeartbeats 4000000 in
set_option maxRecDepth 100000 in
theorem kX8_isCell {l : Launch} {G : GT} (q : Nat → Nat) (M : Ob) (lx1 : Int) (lx2 : Int) (v : (Int)) (h : fX8_isCell M lx1 lx2 = some v) : CT l G yX8_isCell cX8_isCell 3 (some .boolean) rX8_isCell [.ref (q 31), vi lx1, vi lx2] (W_M G q M) (W_M G q M) (some (vi v)) := by
  unfold fX8_isCell at h
  refine CT.of (by decide) (Nat.le_of_ble_eq_true rfl) rfl (fun κ _ C => ?_)
  refine X.iload_n C dX8_isCell_0 rfl 1 rfl ?_
  refine X.i2l C dX8_isCell_1 ?_
  refine X.lconst (z := 0) C dX8_isCell_2 (by decide) ?_
  refine X.aload_n C dX8_isCell_3 rfl 0 rfl ?_
  refine X.get C dX8_isCell_4 lay_X8 0 rfl rfl 1 (by decide) fl_X8_13 rfl rfl ?_
  refine X.iconst C dX8_isCell_7 ?_
  refine X.iald C h dX8_isCell_8 1 rfl (fun h => ?_)
  refine X.iconst C dX8_isCell_9 ?_
  refine X.isub C dX8_isCell_10 ?_
  refine X.i2l C dX8_isCell_11 ?_
  refine X.callSi (As := [vl (jwl lx1), vl 0, vl (jwl ((M 1 (ix 1)) - 1))]) (rest := []) (g := fun rr_1 => rr_1) (W1 := fun rr_1 => W_0) (ws2 := fun rr_1 => (W_M G q M)) C h dX8_isCell_12 ml_X8_68 mX8_in (fun v hv => kX8_in (jwl lx1) 0 (jwl ((M 1 (ix 1)) - 1)) v hv) (fun rr_1 => ln_M_0__n (G := G) (q := q) (M := M)) rfl rfl rfl rfl rfl rfl (fun rr_1 h => ?_)
  refine X.if_eq (tgt := 40) C h dX8_isCell_15 (by decide) (fun h => ?_) (fun h => ?_)
  · refine X.iconst C dX8_isCell_40 ?_
    cases h
    exact X.zret C rfl dX8_isCell_41 (Nat.zero_le _) (Nat.zero_le _)
  refine X.iload_n C dX8_isCell_18 rfl 2 rfl ?_
  refine X.i2l C dX8_isCell_19 ?_
  refine X.lconst (z := 0) C dX8_isCell_20 (by decide) ?_
  refine X.aload_n C dX8_isCell_21 rfl 0 rfl ?_
  refine X.get C dX8_isCell_22 lay_X8 0 rfl rfl 1 (by decide) fl_X8_13 rfl rfl ?_
  refine X.iconst C dX8_isCell_25 ?_
  refine X.iald C h dX8_isCell_26 1 rfl (fun h => ?_)
  refine X.iconst C dX8_isCell_27 ?_
  refine X.isub C dX8_isCell_28 ?_
  refine X.i2l C dX8_isCell_29 ?_
  refine X.callSi (As := [vl (jwl lx2), vl 0, vl (jwl ((M 1 (ix 2)) - 1))]) (rest := []) (g := fun rr_2 => rr_2) (W1 := fun rr_2 => W_0) (ws2 := fun rr_2 => (W_M G q M)) C h dX8_isCell_30 ml_X8_68 mX8_in (fun v hv => kX8_in (jwl lx2) 0 (jwl ((M 1 (ix 2)) - 1)) v hv) (fun rr_2 => ln_M_0__n (G := G) (q := q) (M := M)) rfl rfl rfl rfl rfl rfl (fun rr_2 h => ?_)
  refine X.if_eq (tgt := 40) C h dX8_isCell_33 (by decide) (fun h => ?_) (fun h => ?_)
  · refine X.iconst C dX8_isCell_40 ?_
    cases h
    exact X.zret C rfl dX8_isCell_41 (Nat.zero_le _) (Nat.zero_le _)
  refine X.iconst C dX8_isCell_36 ?_
  refine X.goto (tgt := 41) C dX8_isCell_37 (by decide) ?_
  cases h
  exact X.zret C rfl dX8_isCell_41 (Nat.zero_le _) (Nat.zero_le _)
def rX8_dragOf : Room := { frames := 0, cells := 0, slots := 0, locals := 0 }
theorem mX8_dragOf : MV yX8_dragOf cX8_dragOf 2 (some .int) 1 := ⟨cd_X8_dragOf, in_X8, ⟨⟨by decide, by decide⟩, by decide +kernel⟩, im_X8_dragOf, se_X8_dragOf⟩
set_option maxHeartbeats 4000000 in
set_option maxRecDepth 100000 in
theorem kX8_dragOf {l : Launch} {G : GT} (q : Nat → Nat) (M : Ob) (lx1 : Int) (v : (Int)) (h : fX8_dragOf M lx1 = some v) : CT l G yX8_dragOf cX8_dragOf 2 (some .int) rX8_dragOf [.ref (q 31), vi lx1] (W_M G q M) (W_M G q M) (some (vi v)) := by
  unfold fX8_dragOf at h
  refine CT.of (by decide) (Nat.le_of_ble_eq_true rfl) rfl (fun κ _ C => ?_)
  refine X.aload_n C dX8_dragOf_0 rfl 0 rfl ?_
  refine X.get C dX8_dragOf_1 lay_X8 0 rfl rfl 1 (by decide) fl_X8_13 rfl rfl ?_
  refine X.bipush C dX8_dragOf_4 (by decide) ?_
  refine X.iconst C dX8_dragOf_6 ?_
  refine X.iload_n C dX8_dragOf_7 rfl 1 rfl ?_
  refine X.imul C dX8_dragOf_8 ?_
  refine X.iadd C dX8_dragOf_9 ?_
  refine X.iald C h dX8_dragOf_10 1 rfl (fun h => ?_)
  cases h
  exact X.iret C dX8_dragOf_11 (Nat.zero_le _) (Nat.zero_le _)
def rX8_shareOf : Room := { frames := 0, cells := 0, slots := 0, locals := 0 }
theorem mX8_shareOf : MV yX8_shareOf cX8_shareOf 2 (some .int) 1 := ⟨cd_X8_shareOf, in_X8, ⟨⟨by decide, by decide⟩, by decide +kernel⟩, im_X8_shareOf, se_X8_shareOf⟩
set_option maxHeartbeats 4000000 in
set_option maxRecDepth 100000 in
theorem kX8_shareOf {l : Launch} {G : GT} (q : Nat → Nat) (M : Ob) (lx1 : Int) (v : (Int)) (h : fX8_shareOf M lx1 = some v) : CT l G yX8_shareOf cX8_shareOf 2 (some .int) rX8_shareOf [.ref (q 31), vi lx1] (W_M G q M) (W_M G q M) (some (vi v)) := by
  unfold fX8_shareOf at h
  refine CT.of (by decide) (Nat.le_of_ble_eq_true rfl) rfl (fun κ _ C => ?_)
  refine X.aload_n C dX8_shareOf_0 rfl 0 rfl ?_
  refine X.get C dX8_shareOf_1 lay_X8 0 rfl rfl 1 (by decide) fl_X8_13 rfl rfl ?_
  refine X.bipush C dX8_shareOf_4 (by decide) ?_
  refine X.iconst C dX8_shareOf_6 ?_
  refine X.iload_n C dX8_shareOf_7 rfl 1 rfl ?_
  refine X.imul C dX8_shareOf_8 ?_
  refine X.iadd C dX8_shareOf_9 ?_
  refine X.iconst C dX8_shareOf_10 ?_
  refine X.iadd C dX8_shareOf_11 ?_
  refine X.iald C h dX8_shareOf_12 1 rfl (fun h => ?_)
  cases h
  exact X.iret C dX8_shareOf_13 (Nat.zero_le _) (Nat.zero_le _)
def rX8_ofTable : Room := { frames := 0, cells := 0, slots := 0, locals := 0 }
theorem mX8_ofTable : MV yX8_ofTable cX8_ofTable 3 (some .int) 2 := ⟨cd_X8_ofTable, in_X8, ⟨⟨by decide, by decide⟩, by decide +kernel⟩, im_X8_ofTable, se_X8_ofTable⟩
set_option maxHeartbeats 4000000 in
set_option maxRecDepth 100000 in
theorem kX8_ofTable {l : Launch} {G : GT} (q : Nat → Nat) (M : Ob) (lx1 : Int) (lx2 : Int) (v : (Int)) (h : fX8_ofTable M lx1 lx2 = some v) : CT l G yX8_ofTable cX8_ofTable 3 (some .int) rX8_ofTable [.ref (q 31), vi lx1, vi lx2] (W_M G q M) (W_M G q M) (some (vi v)) := by
  unfold fX8_ofTable at h
  refine CT.of (by decide) (Nat.le_of_ble_eq_true rfl) rfl (fun κ _ C => ?_)
  refine X.aload_n C dX8_ofTable_0 rfl 0 rfl ?_
  refine X.get C dX8_ofTable_1 lay_X8 0 rfl rfl 1 (by decide) fl_X8_13 rfl rfl ?_
  refine X.bipush C dX8_ofTable_4 (by decide) ?_
  refine X.iconst C dX8_ofTable_6 ?_
  refine X.iload_n C dX8_ofTable_7 rfl 1 rfl ?_
  refine X.imul C dX8_ofTable_8 ?_
  refine X.iadd C dX8_ofTable_9 ?_
  refine X.iload_n C dX8_ofTable_10 rfl 2 rfl ?_
  refine X.iadd C dX8_ofTable_11 ?_
  refine X.iald C h dX8_ofTable_12 1 rfl (fun h => ?_)
  cases h
  exact X.iret C dX8_ofTable_13 (Nat.zero_le _) (Nat.zero_le _)
def rX8_wetOf : Room := { frames := 0, cells := 0, slots := 0, locals := 0 }
theorem mX8_wetOf : MV yX8_wetOf cX8_wetOf 3 (some .int) 2 := ⟨cd_X8_wetOf, in_X8, ⟨⟨by decide, by decide⟩, by decide +kernel⟩, im_X8_wetOf, se_X8_wetOf⟩
set_option maxHeartbeats 4000000 in
set_option maxRecDepth 100000 in
theorem kX8_wetOf {l : Launch} {G : GT} (q : Nat → Nat) (M : Ob) (lx1 : Int) (lx2 : Int) (v : (Int)) (h : fX8_wetOf M lx1 lx2 = some v) : CT l G yX8_wetOf cX8_wetOf 3 (some .int) rX8_wetOf [.ref (q 31), vi lx1, vi lx2] (W_M G q M) (W_M G q M) (some (vi v)) := by
  unfold fX8_wetOf at h
  refine CT.of (by decide) (Nat.le_of_ble_eq_true rfl) rfl (fun κ _ C => ?_)
  refine X.aload_n C dX8_wetOf_0 rfl 0 rfl ?_
  refine X.get C dX8_wetOf_1 lay_X8 0 rfl rfl 1 (by decide) fl_X8_13 rfl rfl ?_
  refine X.sipush C dX8_wetOf_4 (by decide) ?_
  refine X.bipush C dX8_wetOf_7 (by decide) ?_
  refine X.iload_n C dX8_wetOf_9 rfl 2 rfl ?_
  refine X.imul C dX8_wetOf_10 ?_
  refine X.iadd C dX8_wetOf_11 ?_
  refine X.iload_n C dX8_wetOf_12 rfl 1 rfl ?_
  refine X.iadd C dX8_wetOf_13 ?_
  refine X.iald C h dX8_wetOf_14 1 rfl (fun h => ?_)
  cases h
  exact X.iret C dX8_wetOf_15 (Nat.zero_le _) (Nat.zero_le _)
def rX8_wetAt : Room := { frames := 1, cells := 0, slots := 0, locals := 22 }
theorem mX8_wetAt : MV yX8_wetAt cX8_wetAt 2 (some .int) 1 := ⟨cd_X8_wetAt, in_X8, ⟨⟨by decide, by decide⟩, by decide +kernel⟩, im_X8_wetAt, se_X8_wetAt⟩
set_option maxHeartbeats 4000000 in
set_option maxRecDepth 100000 in
theorem kX8_wetAt {l : Launch} {G : GT} (q : Nat → Nat) (M : Ob) (lx1 : Int) (v : (Int)) (h : fX8_wetAt M lx1 = some v) : CT l G yX8_wetAt cX8_wetAt 2 (some .int) rX8_wetAt [.ref (q 31), vi lx1] (W_M G q M) (W_M G q M) (some (vi v)) := by
  unfold fX8_wetAt at h
  refine CT.of (by decide) (Nat.le_of_ble_eq_true rfl) rfl (fun κ _ C => ?_)
  refine X.aload_n C dX8_wetAt_0 rfl 0 rfl ?_
  refine X.aload_n C dX8_wetAt_1 rfl 0 rfl ?_
  refine X.iload_n C dX8_wetAt_2 rfl 1 rfl ?_
  refine X.iconst C dX8_wetAt_3 ?_
  refine X.callVi (q0 := 0) (As := [vi lx1, vi 0]) (rest := [.ref (q 31)]) (g := fun rr_1 => rr_1) (W1 := fun rr_1 => (W_M G q M)) (ws2 := fun rr_1 => (W_M G q M)) C h dX8_wetAt_4 ml_X8_72 mX8_ofTable (fun v hv => kX8_ofTable q M lx1 0 v hv) (fun rr_1 => ln_M_M_m_n (G := G) (q := q) (M := M)) rfl rfl rfl rfl rfl rfl rfl rfl (fun rr_1 h => ?_)
  refine X.aload_n C dX8_wetAt_7 rfl 0 rfl ?_
  refine X.iload_n C dX8_wetAt_8 rfl 1 rfl ?_
  refine X.iconst C dX8_wetAt_9 ?_
  refine X.callVi (q0 := 0) (As := [vi lx1, vi 1]) (rest := [vi rr_1, .ref (q 31)]) (g := fun rr_2 => rr_2) (W1 := fun rr_2 => (W_M G q M)) (ws2 := fun rr_2 => (W_M G q M)) C h dX8_wetAt_10 ml_X8_72 mX8_ofTable (fun v hv => kX8_ofTable q M lx1 1 v hv) (fun rr_2 => ln_M_M_m_n (G := G) (q := q) (M := M)) rfl rfl rfl rfl rfl rfl rfl rfl (fun rr_2 h => ?_)
  refine X.callVi (q0 := 0) (As := [vi rr_1, vi rr_2]) (rest := []) (g := fun rr_3 => rr_3) (W1 := fun rr_3 => (W_M G q M)) (ws2 := fun rr_3 => (W_M G q M)) C h dX8_wetAt_13 ml_X8_76 mX8_wetOf (fun v hv => kX8_wetOf q M rr_1 rr_2 v hv) (fun rr_3 => ln_M_M_m_n (G := G) (q := q) (M := M)) rfl rfl rfl rfl rfl rfl rfl rfl (fun rr_3 h => ?_)
  cases h
  exact X.iret C dX8_wetAt_16 (Nat.zero_le _) (Nat.zero_le _)
def rX8_feed : Room := { frames := 0, cells := 0, slots := 0, locals := 0 }
theorem mX8_feed : MV yX8_feed cX8_feed 7 (some .int) 5 := ⟨cd_X8_feed, in_X8, ⟨⟨by decide, by decide⟩, by decide +kernel⟩, im_X8_feed, se_X8_feed⟩
set_option maxHeartbeats 4000000 in
set_option maxRecDepth 100000 in
theorem xX8_feed_55 {κ : Kx} {G : GT} (C : Cx κ G yX8_feed cX8_feed (some .int) 7 rX8_feed) (q : Nat → Nat) (kx0 : Ob → Option (Int × Ob)) (v : (Int × Ob)) (hk0 : ∀ (M : Ob), kx0 M = some v → X κ G 7 (W_M G q M) 101 [(0, .ref (q 31))] [] 0 0 (QM κ G (W_M G q v.2) (some (vi v.1)) rX8_feed.cells rX8_feed.slots)) : ∀ (n : Nat) (lx6 : Int) (M : Ob), lX8_feed_55 kx0 n lx6 M = some v → X κ G 7 (W_M G q M) 55 [(0, .ref (q 31)), (6, vi lx6)] [] 0 0 (QM κ G (W_M G q v.2) (some (vi v.1)) rX8_feed.cells rX8_feed.slots) := by
  intro n
  induction n with
  | zero => intro _ _ h; exact absurd h (fun h => nomatch h)
  | succ n ih =>
    intro lx6 M h
    rw [lX8_feed_55] at h
    refine X.iload C dX8_feed_55 1 rfl ?_
    refine X.bipush C dX8_feed_57 (by decide) ?_
    refine X.icmp_ge (tgt := 101) C h dX8_feed_59 (by decide) (fun h => ?_) (fun h => ?_)
    · refine X.sub [0] rfl ?_
      exact hk0 M h
    refine X.aload_n C dX8_feed_62 rfl 0 rfl ?_
    refine X.get C dX8_feed_63 lay_X8 0 rfl rfl 4 (by decide) fl_X8_24 rfl rfl ?_
    refine X.aload_n C dX8_feed_66 rfl 0 rfl ?_
    refine X.get C dX8_feed_67 lay_X8 0 rfl rfl 5 (by decide) fl_X8_79 rfl rfl ?_
    refine X.iload C dX8_feed_70 1 rfl ?_
    refine X.iadd C dX8_feed_72 ?_
    refine X.aload_n C dX8_feed_73 rfl 0 rfl ?_
    refine X.get C dX8_feed_74 lay_X8 0 rfl rfl 6 (by decide) fl_X8_28 rfl rfl ?_
    refine X.iload C dX8_feed_77 1 rfl ?_
    refine X.iconst C dX8_feed_79 ?_
    refine X.idiv C (by decide) dX8_feed_80 ?_
    refine X.iald C h dX8_feed_81 5 rfl (fun h => ?_)
    refine X.bipush C dX8_feed_82 (by decide) ?_
    refine X.bipush C dX8_feed_84 (by decide) ?_
    refine X.iload C dX8_feed_86 1 rfl ?_
    refine X.iconst C dX8_feed_88 ?_
    refine X.irem C (by decide) dX8_feed_89 ?_
    refine X.imul C dX8_feed_90 ?_
    refine X.isub C dX8_feed_91 ?_
    refine X.ishr C dX8_feed_92 ?_
    refine X.i2b C dX8_feed_93 ?_
    refine X.bast (ws2 := (W_M G q (up2 M 4 (ix ((M 5 0) + lx6)) (jnb (jb8 (jsr (M 6 (ix (jdv lx6 4))) (24 - (8 * (jrm lx6 4))))))))) C h dX8_feed_94 4 rfl rfl (fun h => ?_)
    refine X.nameS (ws := fun M_6 => (W_M G q M_6)) h (fun M_6 h => ?_)
    refine X.iincN (lv2 := fun lx6_7 => [(6, vi lx6_7), (0, .ref (q 31))]) C h dX8_feed_95 1 rfl (by decide) (fun _ => rfl) (fun lx6_7 h => ?_)
    refine X.goto (tgt := 55) C dX8_feed_98 (by decide) ?_
    refine X.sub [1, 0] rfl ?_
    exact ih lx6_7 M_6 h
set_option maxHeartbeats 4000000 in
set_option maxRecDepth 100000 in
theorem kX8_feed {l : Launch} {G : GT} (q : Nat → Nat) (M : Ob) (lx1 : Int) (lx2 : Int) (lx3 : Int) (lx4 : Int) (lx5 : Int) (v : (Int × Ob)) (h : fX8_feed M lx1 lx2 lx3 lx4 lx5 = some v) : CT l G yX8_feed cX8_feed 7 (some .int) rX8_feed [.ref (q 31), vi lx1, vi lx2, vi lx3, vi lx4, vi lx5] (W_M G q M) (W_M G q v.2) (some (vi v.1)) := by
  unfold fX8_feed at h
  refine CT.of (by decide) (Nat.le_of_ble_eq_true rfl) rfl (fun κ _ C => ?_)
  refine X.aload_n C dX8_feed_0 rfl 0 rfl ?_
  refine X.get C dX8_feed_1 lay_X8 0 rfl rfl 5 (by decide) fl_X8_79 rfl rfl ?_
  refine X.bipush C dX8_feed_4 (by decide) ?_
  refine X.iadd C dX8_feed_6 ?_
  refine X.sipush C dX8_feed_7 (by decide) ?_
  refine X.icmp_le (tgt := 15) C h dX8_feed_10 (by decide) (fun h => ?_) (fun h => ?_)
  · refine X.aload_n C dX8_feed_15 rfl 0 rfl ?_
    refine X.get C dX8_feed_16 lay_X8 0 rfl rfl 6 (by decide) fl_X8_28 rfl rfl ?_
    refine X.iconst C dX8_feed_19 ?_
    refine X.iload_n C dX8_feed_20 rfl 1 rfl ?_
    refine X.iast (ws2 := (W_M G q (up2 M 6 (ix 0) lx1))) C h dX8_feed_21 5 rfl rfl (fun h => ?_)
    refine X.nameS (ws := fun M_1 => (W_M G q M_1)) h (fun M_1 h => ?_)
    refine X.aload_n C dX8_feed_22 rfl 0 rfl ?_
    refine X.get C dX8_feed_23 lay_X8 0 rfl rfl 6 (by decide) fl_X8_28 rfl rfl ?_
    refine X.iconst C dX8_feed_26 ?_
    refine X.iload_n C dX8_feed_27 rfl 2 rfl ?_
    refine X.iast (ws2 := (W_M G q (up2 M_1 6 (ix 1) lx2))) C h dX8_feed_28 5 rfl rfl (fun h => ?_)
    refine X.nameS (ws := fun M_2 => (W_M G q M_2)) h (fun M_2 h => ?_)
    refine X.aload_n C dX8_feed_29 rfl 0 rfl ?_
    refine X.get C dX8_feed_30 lay_X8 0 rfl rfl 6 (by decide) fl_X8_28 rfl rfl ?_
    refine X.iconst C dX8_feed_33 ?_
    refine X.iload_n C dX8_feed_34 rfl 3 rfl ?_
    refine X.iast (ws2 := (W_M G q (up2 M_2 6 (ix 2) lx3))) C h dX8_feed_35 5 rfl rfl (fun h => ?_)
    refine X.nameS (ws := fun M_3 => (W_M G q M_3)) h (fun M_3 h => ?_)
    refine X.aload_n C dX8_feed_36 rfl 0 rfl ?_
    refine X.get C dX8_feed_37 lay_X8 0 rfl rfl 6 (by decide) fl_X8_28 rfl rfl ?_
    refine X.iconst C dX8_feed_40 ?_
    refine X.iload C dX8_feed_41 4 rfl ?_
    refine X.iast (ws2 := (W_M G q (up2 M_3 6 (ix 3) lx4))) C h dX8_feed_43 5 rfl rfl (fun h => ?_)
    refine X.nameS (ws := fun M_4 => (W_M G q M_4)) h (fun M_4 h => ?_)
    refine X.aload_n C dX8_feed_44 rfl 0 rfl ?_
    refine X.get C dX8_feed_45 lay_X8 0 rfl rfl 6 (by decide) fl_X8_28 rfl rfl ?_
    refine X.iconst C dX8_feed_48 ?_
    refine X.iload C dX8_feed_49 5 rfl ?_
    refine X.iast (ws2 := (W_M G q (up2 M_4 6 (ix 4) lx5))) C h dX8_feed_51 5 rfl rfl (fun h => ?_)
    refine X.nameS (ws := fun M_5 => (W_M G q M_5)) h (fun M_5 h => ?_)
    refine X.iconst C dX8_feed_52 ?_
    refine X.istore (lv2 := [(6, vi 0), (0, .ref (q 31)), (1, vi lx1), (2, vi lx2), (3, vi lx3), (4, vi lx4), (5, vi lx5)]) C dX8_feed_53 (by decide) rfl ?_
    refine X.sub [1, 0] rfl ?_
    refine xX8_feed_55 C q _ v (fun M_8 h => ?_) FU 0 M_5 h
    · refine X.aload_n C dX8_feed_101 rfl 0 rfl ?_
      refine X.dup C dX8_feed_102 rfl ?_
      refine X.get C dX8_feed_103 lay_X8 0 rfl rfl 5 (by decide) fl_X8_79 rfl rfl ?_
      refine X.bipush C dX8_feed_106 (by decide) ?_
      refine X.iadd C dX8_feed_108 ?_
      refine X.put (ws2 := (W_M G q (up2 M_8 5 0 ((M_8 5 0) + 20)))) (ty := .int) C dX8_feed_109 lay_X8 tyX8_ok nmX8 0 rfl rfl 5 (by decide) fl_X8_79 rfl rfl (by decide +kernel) rfl rfl (Nat.le_of_ble_eq_true rfl) rfl ?_
      refine X.nameS (ws := fun M_9 => (W_M G q M_9)) h (fun M_9 h => ?_)
      refine X.aload_n C dX8_feed_112 rfl 0 rfl ?_
      refine X.get C dX8_feed_113 lay_X8 0 rfl rfl 5 (by decide) fl_X8_79 rfl rfl ?_
      cases h
      exact X.iret C dX8_feed_116 (Nat.zero_le _) (Nat.zero_le _)
  refine X.iconst C dX8_feed_13 ?_
  cases h
  exact X.iret C dX8_feed_14 (Nat.zero_le _) (Nat.zero_le _)
def rX8_end : Room := { frames := 1, cells := 0, slots := 0, locals := 25 }
theorem mX8_end : MV yX8_end cX8_end 2 (some .int) 1 := ⟨cd_X8_end, in_X8, ⟨⟨by decide, by decide⟩, by decide +kernel⟩, im_X8_end, se_X8_end⟩
set_option maxHeartbeats 4000000 in
set_option maxRecDepth 100000 in
theorem kX8_end {l : Launch} {G : GT} (q : Nat → Nat) (M : Ob) (lx1 : Int) (v : (Int × Ob)) (h : fX8_end M lx1 = some v) : CT l G yX8_end cX8_end 2 (some .int) rX8_end [.ref (q 31), vi lx1] (W_M G q M) (W_M G q v.2) (some (vi v.1)) := by
  unfold fX8_end at h
  refine CT.of (by decide) (Nat.le_of_ble_eq_true rfl) rfl (fun κ _ C => ?_)
  refine X.iload_n C dX8_end_0 rfl 1 rfl ?_
  refine X.i2l C dX8_end_1 ?_
  refine X.lconst (z := 0) C dX8_end_2 (by decide) ?_
  refine X.aload_n C dX8_end_3 rfl 0 rfl ?_
  refine X.get C dX8_end_4 lay_X8 0 rfl rfl 5 (by decide) fl_X8_79 rfl rfl ?_
  refine X.i2l C dX8_end_7 ?_
  refine X.callSi (As := [vl (jwl lx1), vl 0, vl (jwl (M 5 0))]) (rest := []) (g := fun rr_1 => rr_1) (W1 := fun rr_1 => W_0) (ws2 := fun rr_1 => (W_M G q M)) C h dX8_end_8 ml_X8_68 mX8_in (fun v hv => kX8_in (jwl lx1) 0 (jwl (M 5 0)) v hv) (fun rr_1 => ln_M_0__n (G := G) (q := q) (M := M)) rfl rfl rfl rfl rfl rfl (fun rr_1 h => ?_)
  refine X.if_ne (tgt := 16) C h dX8_end_11 (by decide) (fun h => ?_) (fun h => ?_)
  · refine X.aload_n C dX8_end_16 rfl 0 rfl ?_
    refine X.iload_n C dX8_end_17 rfl 1 rfl ?_
    refine X.put (ws2 := (W_M G q (up2 M 5 0 lx1))) (ty := .int) C dX8_end_18 lay_X8 tyX8_ok nmX8 0 rfl rfl 5 (by decide) fl_X8_79 rfl rfl (by decide +kernel) rfl rfl (Nat.le_of_ble_eq_true rfl) rfl ?_
    refine X.nameS (ws := fun M_2 => (W_M G q M_2)) h (fun M_2 h => ?_)
    refine X.iload_n C dX8_end_21 rfl 1 rfl ?_
    cases h
    exact X.iret C dX8_end_22 (Nat.zero_le _) (Nat.zero_le _)
  refine X.iconst C dX8_end_14 ?_
  cases h
  exact X.iret C dX8_end_15 (Nat.zero_le _) (Nat.zero_le _)
def rX8_see : Room := { frames := 0, cells := 0, slots := 0, locals := 0 }
theorem mX8_see : MV yX8_see cX8_see 2 (some .int) 1 := ⟨cd_X8_see, in_X8, ⟨⟨by decide, by decide⟩, by decide +kernel⟩, im_X8_see, se_X8_see⟩
set_option maxHeartbeats 4000000 in
set_option maxRecDepth 100000 in
theorem kX8_see {l : Launch} {G : GT} (q : Nat → Nat) (M : Ob) (lx1 : Int) (v : (Int)) (h : fX8_see M lx1 = some v) : CT l G yX8_see cX8_see 2 (some .int) rX8_see [.ref (q 31), vi lx1] (W_M G q M) (W_M G q M) (some (vi v)) := by
  unfold fX8_see at h
  refine CT.of (by decide) (Nat.le_of_ble_eq_true rfl) rfl (fun κ _ C => ?_)
  refine X.iload_n C dX8_see_0 rfl 1 rfl ?_
  refine X.aload_n C dX8_see_1 rfl 0 rfl ?_
  refine X.get C dX8_see_2 lay_X8 0 rfl rfl 7 (by decide) fl_X8_82 rfl rfl ?_
  refine X.icmp_ge (tgt := 21) C h dX8_see_5 (by decide) (fun h => ?_) (fun h => ?_)
  · refine X.iconst C dX8_see_21 ?_
    cases h
    exact X.iret C dX8_see_22 (Nat.zero_le _) (Nat.zero_le _)
  refine X.aload_n C dX8_see_8 rfl 0 rfl ?_
  refine X.get C dX8_see_9 lay_X8 0 rfl rfl 4 (by decide) fl_X8_24 rfl rfl ?_
  refine X.iload_n C dX8_see_12 rfl 1 rfl ?_
  refine X.bald C h dX8_see_13 4 rfl (fun h => ?_)
  refine X.sipush C dX8_see_14 (by decide) ?_
  refine X.iand C dX8_see_17 ?_
  refine X.goto (tgt := 22) C dX8_see_18 (by decide) ?_
  cases h
  exact X.iret C dX8_see_22 (Nat.zero_le _) (Nat.zero_le _)
