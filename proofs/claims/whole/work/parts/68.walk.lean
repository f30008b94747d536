def rX8_dueY : Room := { frames := 1, cells := 0, slots := 0, locals := 21 }
theorem mX8_dueY : MV yX8_dueY cX8_dueY 5 (some .int) 3 := ⟨cd_X8_dueY, in_X8, ⟨⟨by decide, by decide⟩, by decide +kernel⟩, im_X8_dueY, se_X8_dueY⟩
set_option maxHeartbeats 4000000 in
set_option maxRecDepth 100000 in
theorem kX8_dueY {l : Launch} {G : GT} (q : Nat → Nat) (M : Ob) (lx1 : Int) (lx2 : Int) (lx3 : Int) (v : (Int)) (h : fX8_dueY M lx1 lx2 lx3 = some v) : CT l G yX8_dueY cX8_dueY 5 (some .int) rX8_dueY [.ref (q 31), vi lx1, vi lx2, vi lx3] (W_M G q M) (W_M G q M) (some (vi v)) := by
  unfold fX8_dueY at h
  refine CT.of (by decide) (Nat.le_of_ble_eq_true rfl) rfl (fun κ _ C => ?_)
  refine X.aload_n C dX8_dueY_0 rfl 0 rfl ?_
  refine X.iload_n C dX8_dueY_1 rfl 1 rfl ?_
  refine X.callVi (q0 := 0) (As := [vi lx1]) (rest := []) (g := fun rr_1 => rr_1) (W1 := fun rr_1 => (W_M G q M)) (ws2 := fun rr_1 => (W_M G q M)) C h dX8_dueY_2 ml_X8_239 mX8_lump (fun v hv => kX8_lump q M lx1 v hv) (fun rr_1 => ln_M_M_m_n (G := G) (q := q) (M := M)) rfl rfl rfl rfl rfl rfl rfl rfl (fun rr_1 h => ?_)
  refine X.istore (lv2 := [(4, vi rr_1), (0, .ref (q 31)), (1, vi lx1), (2, vi lx2), (3, vi lx3)]) C dX8_dueY_5 (by decide) rfl ?_
  refine X.aload_n C dX8_dueY_7 rfl 1 rfl ?_
  refine X.get C dX8_dueY_8 lay_X8 0 rfl rfl 1 (by decide) fl_X8_13 rfl rfl ?_
  refine X.iload C dX8_dueY_11 0 rfl ?_
  refine X.iconst C dX8_dueY_13 ?_
  refine X.iadd C dX8_dueY_14 ?_
  refine X.iald C h dX8_dueY_15 1 rfl (fun h => ?_)
  refine X.aload_n C dX8_dueY_16 rfl 1 rfl ?_
  refine X.get C dX8_dueY_17 lay_X8 0 rfl rfl 1 (by decide) fl_X8_13 rfl rfl ?_
  refine X.iload C dX8_dueY_20 0 rfl ?_
  refine X.iconst C dX8_dueY_22 ?_
  refine X.iadd C dX8_dueY_23 ?_
  refine X.iconst C dX8_dueY_24 ?_
  refine X.iload_n C dX8_dueY_25 rfl 3 rfl ?_
  refine X.imul C dX8_dueY_26 ?_
  refine X.iadd C dX8_dueY_27 ?_
  refine X.iald C h dX8_dueY_28 1 rfl (fun h => ?_)
  refine X.aload_n C dX8_dueY_29 rfl 1 rfl ?_
  refine X.iload_n C dX8_dueY_30 rfl 3 rfl ?_
  refine X.callVi (q0 := 0) (As := [vi lx2]) (rest := [vi (M 1 (ix ((rr_1 + 4) + (2 * lx2)))), vi (M 1 (ix (rr_1 + 2)))]) (g := fun rr_2 => rr_2) (W1 := fun rr_2 => (W_M G q M)) (ws2 := fun rr_2 => (W_M G q M)) C h dX8_dueY_31 ml_X8_257 mX8_dragOf (fun v hv => kX8_dragOf q M lx2 v hv) (fun rr_2 => ln_M_M_m_n (G := G) (q := q) (M := M)) rfl rfl rfl rfl rfl rfl rfl rfl (fun rr_2 h => ?_)
  refine X.iload_n C dX8_dueY_34 rfl 4 rfl ?_
  refine X.callSi (As := [vi lx3]) (rest := [vi rr_2, vi (M 1 (ix ((rr_1 + 4) + (2 * lx2)))), vi (M 1 (ix (rr_1 + 2)))]) (g := fun rr_3 => rr_3) (W1 := fun rr_3 => W_0) (ws2 := fun rr_3 => (W_M G q M)) C h dX8_dueY_35 ml_X8_263 mX8_southBy (fun v hv => kX8_southBy lx3 v hv) (fun rr_3 => ln_M_0__n (G := G) (q := q) (M := M)) rfl rfl rfl rfl rfl rfl (fun rr_3 h => ?_)
  refine X.imul C dX8_dueY_38 ?_
  refine X.aload_n C dX8_dueY_39 rfl 1 rfl ?_
  refine X.get C dX8_dueY_40 lay_X8 0 rfl rfl 1 (by decide) fl_X8_13 rfl rfl ?_
  refine X.iload C dX8_dueY_43 0 rfl ?_
  refine X.iald C h dX8_dueY_45 1 rfl (fun h => ?_)
  refine X.aload_n C dX8_dueY_46 rfl 1 rfl ?_
  refine X.get C dX8_dueY_47 lay_X8 0 rfl rfl 1 (by decide) fl_X8_13 rfl rfl ?_
  refine X.bipush C dX8_dueY_50 (by decide) ?_
  refine X.iald C h dX8_dueY_52 1 rfl (fun h => ?_)
  refine X.isub C dX8_dueY_53 ?_
  refine X.imul C dX8_dueY_54 ?_
  refine X.iadd C dX8_dueY_55 ?_
  refine X.bipush C dX8_dueY_56 (by decide) ?_
  refine X.idiv C (by decide) dX8_dueY_58 ?_
  refine X.iadd C dX8_dueY_59 ?_
  cases h
  exact X.iret C dX8_dueY_60 (Nat.zero_le _) (Nat.zero_le _)
def rX8_isDueOn : Room := { frames := 2, cells := 0, slots := 0, locals := 52 }
theorem mX8_isDueOn : MV yX8_isDueOn cX8_isDueOn 6 (some .boolean) 5 := ⟨cd_X8_isDueOn, in_X8, ⟨⟨by decide, by decide⟩, by decide +kernel⟩, im_X8_isDueOn, se_X8_isDueOn⟩
set_option maxHeartbeats 4000000 in
set_option maxRecDepth 100000 in
theorem kX8_isDueOn {l : Launch} {G : GT} (q : Nat → Nat) (M : Ob) (lx1 : Int) (lx2 : Int) (lx3 : Int) (lx4 : Int) (lx5 : Int) (v : (Int)) (h : fX8_isDueOn M lx1 lx2 lx3 lx4 lx5 = some v) : CT l G yX8_isDueOn cX8_isDueOn 6 (some .boolean) rX8_isDueOn [.ref (q 31), vi lx1, vi lx2, vi lx3, vi lx4, vi lx5] (W_M G q M) (W_M G q M) (some (vi v)) := by
  unfold fX8_isDueOn at h
  refine CT.of (by decide) (Nat.le_of_ble_eq_true rfl) rfl (fun κ _ C => ?_)
  refine X.aload_n C dX8_isDueOn_0 rfl 0 rfl ?_
  refine X.iload_n C dX8_isDueOn_1 rfl 1 rfl ?_
  refine X.iload_n C dX8_isDueOn_2 rfl 2 rfl ?_
  refine X.iload_n C dX8_isDueOn_3 rfl 3 rfl ?_
  refine X.callVi (q0 := 0) (As := [vi lx1, vi lx2, vi lx3]) (rest := []) (g := fun rr_1 => rr_1) (W1 := fun rr_1 => (W_M G q M)) (ws2 := fun rr_1 => (W_M G q M)) C h dX8_isDueOn_4 ml_X8_354 mX8_dueX (fun v hv => kX8_dueX q M lx1 lx2 lx3 v hv) (fun rr_1 => ln_M_M_m_n (G := G) (q := q) (M := M)) rfl rfl rfl rfl rfl rfl rfl rfl (fun rr_1 h => ?_)
  refine X.iload C dX8_isDueOn_7 4 rfl ?_
  refine X.icmp_ne (tgt := 39) C h dX8_isDueOn_9 (by decide) (fun h => ?_) (fun h => ?_)
  · refine X.iconst C dX8_isDueOn_39 ?_
    cases h
    exact X.zret C rfl dX8_isDueOn_40 (Nat.zero_le _) (Nat.zero_le _)
  refine X.aload_n C dX8_isDueOn_12 rfl 0 rfl ?_
  refine X.iload_n C dX8_isDueOn_13 rfl 1 rfl ?_
  refine X.iload_n C dX8_isDueOn_14 rfl 2 rfl ?_
  refine X.iload_n C dX8_isDueOn_15 rfl 3 rfl ?_
  refine X.callVi (q0 := 0) (As := [vi lx1, vi lx2, vi lx3]) (rest := []) (g := fun rr_2 => rr_2) (W1 := fun rr_2 => (W_M G q M)) (ws2 := fun rr_2 => (W_M G q M)) C h dX8_isDueOn_16 ml_X8_357 mX8_dueY (fun v hv => kX8_dueY q M lx1 lx2 lx3 v hv) (fun rr_2 => ln_M_M_m_n (G := G) (q := q) (M := M)) rfl rfl rfl rfl rfl rfl rfl rfl (fun rr_2 h => ?_)
  refine X.iload C dX8_isDueOn_19 5 rfl ?_
  refine X.icmp_ne (tgt := 39) C h dX8_isDueOn_21 (by decide) (fun h => ?_) (fun h => ?_)
  · refine X.iconst C dX8_isDueOn_39 ?_
    cases h
    exact X.zret C rfl dX8_isDueOn_40 (Nat.zero_le _) (Nat.zero_le _)
  refine X.aload_n C dX8_isDueOn_24 rfl 0 rfl ?_
  refine X.iload C dX8_isDueOn_25 4 rfl ?_
  refine X.iload C dX8_isDueOn_27 5 rfl ?_
  refine X.callVi (q0 := 0) (As := [vi lx4, vi lx5]) (rest := []) (g := fun rr_3 => rr_3) (W1 := fun rr_3 => (W_M G q M)) (ws2 := fun rr_3 => (W_M G q M)) C h dX8_isDueOn_29 ml_X8_232 mX8_isBasin (fun v hv => kX8_isBasin q M lx4 lx5 v hv) (fun rr_3 => ln_M_M_m_n (G := G) (q := q) (M := M)) rfl rfl rfl rfl rfl rfl rfl rfl (fun rr_3 h => ?_)
  refine X.if_ne (tgt := 39) C h dX8_isDueOn_32 (by decide) (fun h => ?_) (fun h => ?_)
  · refine X.iconst C dX8_isDueOn_39 ?_
    cases h
    exact X.zret C rfl dX8_isDueOn_40 (Nat.zero_le _) (Nat.zero_le _)
  refine X.iconst C dX8_isDueOn_35 ?_
  refine X.goto (tgt := 40) C dX8_isDueOn_36 (by decide) ?_
  cases h
  exact X.zret C rfl dX8_isDueOn_40 (Nat.zero_le _) (Nat.zero_le _)
def rX8_alreadyOn : Room := { frames := 3, cells := 0, slots := 0, locals := 77 }
theorem mX8_alreadyOn : MV yX8_alreadyOn cX8_alreadyOn 7 (some .int) 3 := ⟨cd_X8_alreadyOn, in_X8, ⟨⟨by decide, by decide⟩, by decide +kernel⟩, im_X8_alreadyOn, se_X8_alreadyOn⟩
set_option maxHeartbeats 4000000 in
set_option maxRecDepth 100000 in
theorem xX8_alreadyOn_24 {κ : Kx} {G : GT} (C : Cx κ G yX8_alreadyOn cX8_alreadyOn (some .int) 7 rX8_alreadyOn) (q : Nat → Nat) (M : Ob) (lx1 : Int) (lx2 : Int) (lx3 : Int) (lx5 : Int) (kx0 : Int → Option (Int)) (v : (Int)) (hk0 : ∀ (lx4 : Int), kx0 lx4 = some v → X κ G 7 (W_M G q M) 80 [(0, .ref (q 31)), (1, vi lx1), (2, vi lx2), (3, vi lx3), (4, vi lx4), (5, vi lx5)] [] 0 0 (QM κ G (W_M G q M) (some (vi v)) rX8_alreadyOn.cells rX8_alreadyOn.slots)) : ∀ (n : Nat) (lx4 : Int) (lx6 : Int), lX8_alreadyOn_24 M lx1 lx2 lx3 lx5 kx0 n lx4 lx6 = some v → X κ G 7 (W_M G q M) 24 [(0, .ref (q 31)), (1, vi lx1), (2, vi lx2), (3, vi lx3), (4, vi lx4), (5, vi lx5), (6, vi lx6)] [] 0 0 (QM κ G (W_M G q M) (some (vi v)) rX8_alreadyOn.cells rX8_alreadyOn.slots) := by
  intro n
  induction n with
  | zero => intro _ _ h; exact absurd h (fun h => nomatch h)
  | succ n ih =>
    intro lx4 lx6 h
    rw [lX8_alreadyOn_24] at h
    refine X.iload C dX8_alreadyOn_24 6 rfl ?_
    refine X.aload_n C dX8_alreadyOn_26 rfl 0 rfl ?_
    refine X.get C dX8_alreadyOn_27 lay_X8 0 rfl rfl 1 (by decide) fl_X8_13 rfl rfl ?_
    refine X.bipush C dX8_alreadyOn_30 (by decide) ?_
    refine X.iald C h dX8_alreadyOn_32 1 rfl (fun h => ?_)
    refine X.icmp_ge (tgt := 80) C h dX8_alreadyOn_33 (by decide) (fun h => ?_) (fun h => ?_)
    · refine X.sub [0, 1, 2, 3, 4, 5] rfl ?_
      exact hk0 lx4 h
    refine X.aload_n C dX8_alreadyOn_36 rfl 0 rfl ?_
    refine X.iload C dX8_alreadyOn_37 5 rfl ?_
    refine X.callVi (q0 := 0) (As := [vi lx5]) (rest := []) (g := fun rr_2 => rr_2) (W1 := fun rr_2 => (W_M G q M)) (ws2 := fun rr_2 => (W_M G q M)) C h dX8_alreadyOn_39 ml_X8_254 mX8_isUp (fun v hv => kX8_isUp q M lx5 v hv) (fun rr_2 => ln_M_M_m_n (G := G) (q := q) (M := M)) rfl rfl rfl rfl rfl rfl rfl rfl (fun rr_2 h => ?_)
    refine X.if_eq (tgt := 80) C h dX8_alreadyOn_42 (by decide) (fun h => ?_) (fun h => ?_)
    · refine X.sub [0, 1, 2, 3, 4, 5] rfl ?_
      exact hk0 lx4 h
    refine X.iload C dX8_alreadyOn_45 4 rfl ?_
    refine X.aload_n C dX8_alreadyOn_47 rfl 0 rfl ?_
    refine X.iload C dX8_alreadyOn_48 5 rfl ?_
    refine X.iload C dX8_alreadyOn_50 6 rfl ?_
    refine X.iload_n C dX8_alreadyOn_52 rfl 3 rfl ?_
    refine X.iload_n C dX8_alreadyOn_53 rfl 1 rfl ?_
    refine X.iload_n C dX8_alreadyOn_54 rfl 2 rfl ?_
    refine X.callVi (q0 := 0) (As := [vi lx5, vi lx6, vi lx3, vi lx1, vi lx2]) (rest := [vi lx4]) (g := fun rr_3 => rr_3) (W1 := fun rr_3 => (W_M G q M)) (ws2 := fun rr_3 => (W_M G q M)) C h dX8_alreadyOn_55 ml_X8_360 mX8_isDueOn (fun v hv => kX8_isDueOn q M lx5 lx6 lx3 lx1 lx2 v hv) (fun rr_3 => ln_M_M_m_n (G := G) (q := q) (M := M)) rfl rfl rfl rfl rfl rfl rfl rfl (fun rr_3 h => ?_)
    refine X.if_eq (tgt := 70) C h dX8_alreadyOn_58 (by decide) (fun h => ?_) (fun h => ?_)
    · refine X.iconst C dX8_alreadyOn_70 ?_
      refine X.iadd C dX8_alreadyOn_71 ?_
      refine X.istoreN (lv2 := fun lx4_4 => [(4, vi lx4_4), (0, .ref (q 31)), (1, vi lx1), (2, vi lx2), (3, vi lx3), (5, vi lx5), (6, vi lx6)]) C h dX8_alreadyOn_72 (by decide) (fun _ => rfl) (fun lx4_4 h => ?_)
      refine X.iincN (lv2 := fun lx6_5 => [(6, vi lx6_5), (4, vi lx4_4), (0, .ref (q 31)), (1, vi lx1), (2, vi lx2), (3, vi lx3), (5, vi lx5)]) C h dX8_alreadyOn_74 6 rfl (by decide) (fun _ => rfl) (fun lx6_5 h => ?_)
      refine X.goto (tgt := 24) C dX8_alreadyOn_77 (by decide) ?_
      refine X.sub [2, 3, 4, 5, 1, 6, 0] rfl ?_
      exact ih lx4_4 lx6_5 h
    refine X.aload_n C dX8_alreadyOn_61 rfl 0 rfl ?_
    refine X.iload C dX8_alreadyOn_62 6 rfl ?_
    refine X.callVi (q0 := 0) (As := [vi lx6]) (rest := [vi lx4]) (g := fun rr_6 => rr_6) (W1 := fun rr_6 => (W_M G q M)) (ws2 := fun rr_6 => (W_M G q M)) C h dX8_alreadyOn_64 ml_X8_245 mX8_shareOf (fun v hv => kX8_shareOf q M lx6 v hv) (fun rr_6 => ln_M_M_m_n (G := G) (q := q) (M := M)) rfl rfl rfl rfl rfl rfl rfl rfl (fun rr_6 h => ?_)
    refine X.goto (tgt := 71) C dX8_alreadyOn_67 (by decide) ?_
    refine X.iadd C dX8_alreadyOn_71 ?_
    refine X.istoreN (lv2 := fun lx4_7 => [(4, vi lx4_7), (0, .ref (q 31)), (1, vi lx1), (2, vi lx2), (3, vi lx3), (5, vi lx5), (6, vi lx6)]) C h dX8_alreadyOn_72 (by decide) (fun _ => rfl) (fun lx4_7 h => ?_)
    refine X.iincN (lv2 := fun lx6_8 => [(6, vi lx6_8), (4, vi lx4_7), (0, .ref (q 31)), (1, vi lx1), (2, vi lx2), (3, vi lx3), (5, vi lx5)]) C h dX8_alreadyOn_74 6 rfl (by decide) (fun _ => rfl) (fun lx6_8 h => ?_)
    refine X.goto (tgt := 24) C dX8_alreadyOn_77 (by decide) ?_
    refine X.sub [2, 3, 4, 5, 1, 6, 0] rfl ?_
    exact ih lx4_7 lx6_8 h
set_option maxHeartbeats 4000000 in
set_option maxRecDepth 100000 in
theorem xX8_alreadyOn_9 {κ : Kx} {G : GT} (C : Cx κ G yX8_alreadyOn cX8_alreadyOn (some .int) 7 rX8_alreadyOn) (q : Nat → Nat) (M : Ob) (lx1 : Int) (lx2 : Int) (lx3 : Int) (v : (Int)) : ∀ (n : Nat) (lx4 : Int) (lx5 : Int), lX8_alreadyOn_9 M lx1 lx2 lx3 n lx4 lx5 = some v → X κ G 7 (W_M G q M) 9 [(0, .ref (q 31)), (1, vi lx1), (2, vi lx2), (3, vi lx3), (4, vi lx4), (5, vi lx5)] [] 0 0 (QM κ G (W_M G q M) (some (vi v)) rX8_alreadyOn.cells rX8_alreadyOn.slots) := by
  intro n
  induction n with
  | zero => intro _ _ h; exact absurd h (fun h => nomatch h)
  | succ n ih =>
    intro lx4 lx5 h
    rw [lX8_alreadyOn_9] at h
    refine X.iload C dX8_alreadyOn_9 5 rfl ?_
    refine X.aload_n C dX8_alreadyOn_11 rfl 0 rfl ?_
    refine X.get C dX8_alreadyOn_12 lay_X8 0 rfl rfl 1 (by decide) fl_X8_13 rfl rfl ?_
    refine X.bipush C dX8_alreadyOn_15 (by decide) ?_
    refine X.iald C h dX8_alreadyOn_17 1 rfl (fun h => ?_)
    refine X.icmp_gt (tgt := 86) C h dX8_alreadyOn_18 (by decide) (fun h => ?_) (fun h => ?_)
    · refine X.iload C dX8_alreadyOn_86 4 rfl ?_
      cases h
      exact X.iret C dX8_alreadyOn_88 (Nat.zero_le _) (Nat.zero_le _)
    refine X.iconst C dX8_alreadyOn_21 ?_
    refine X.istore (lv2 := [(6, vi 0), (0, .ref (q 31)), (1, vi lx1), (2, vi lx2), (3, vi lx3), (4, vi lx4), (5, vi lx5)]) C dX8_alreadyOn_22 (by decide) rfl ?_
    refine X.sub [1, 2, 3, 4, 5, 6, 0] rfl ?_
    refine xX8_alreadyOn_24 C q M lx1 lx2 lx3 lx5 _ v (fun lx4_9 h => ?_) FU lx4 0 h
    · refine X.iincN (lv2 := fun lx5_10 => [(5, vi lx5_10), (0, .ref (q 31)), (1, vi lx1), (2, vi lx2), (3, vi lx3), (4, vi lx4_9)]) C h dX8_alreadyOn_80 5 rfl (by decide) (fun _ => rfl) (fun lx5_10 h => ?_)
      refine X.goto (tgt := 9) C dX8_alreadyOn_83 (by decide) ?_
      refine X.sub [1, 2, 3, 4, 5, 0] rfl ?_
      exact ih lx4_9 lx5_10 h
set_option maxHeartbeats 4000000 in
set_option maxRecDepth 100000 in
theorem kX8_alreadyOn {l : Launch} {G : GT} (q : Nat → Nat) (M : Ob) (lx1 : Int) (lx2 : Int) (lx3 : Int) (v : (Int)) (h : fX8_alreadyOn M lx1 lx2 lx3 = some v) : CT l G yX8_alreadyOn cX8_alreadyOn 7 (some .int) rX8_alreadyOn [.ref (q 31), vi lx1, vi lx2, vi lx3] (W_M G q M) (W_M G q M) (some (vi v)) := by
  unfold fX8_alreadyOn at h
  refine CT.of (by decide) (Nat.le_of_ble_eq_true rfl) rfl (fun κ _ C => ?_)
  refine X.iconst C dX8_alreadyOn_0 ?_
  refine X.istore (lv2 := [(4, vi 0), (0, .ref (q 31)), (1, vi lx1), (2, vi lx2), (3, vi lx3)]) C dX8_alreadyOn_1 (by decide) rfl ?_
  refine X.aload_n C dX8_alreadyOn_3 rfl 1 rfl ?_
  refine X.callVi (q0 := 0) (As := []) (rest := []) (g := fun rr_1 => rr_1) (W1 := fun rr_1 => (W_M G q M)) (ws2 := fun rr_1 => (W_M G q M)) C h dX8_alreadyOn_4 ml_X8_251 mX8_firstBeat (fun v hv => kX8_firstBeat q M v hv) (fun rr_1 => ln_M_M_m_n (G := G) (q := q) (M := M)) rfl rfl rfl rfl rfl rfl rfl rfl (fun rr_1 h => ?_)
  refine X.istore (lv2 := [(5, vi rr_1), (4, vi 0), (0, .ref (q 31)), (1, vi lx1), (2, vi lx2), (3, vi lx3)]) C dX8_alreadyOn_7 (by decide) rfl ?_
  refine X.sub [2, 3, 4, 5, 1, 0] rfl ?_
  refine xX8_alreadyOn_9 C q M lx1 lx2 lx3 v FU 0 rr_1 h
def rX8_already : Room := { frames := 4, cells := 0, slots := 0, locals := 103 }
theorem mX8_already : MV yX8_already cX8_already 3 (some .int) 2 := ⟨cd_X8_already, in_X8, ⟨⟨by decide, by decide⟩, by decide +kernel⟩, im_X8_already, se_X8_already⟩
set_option maxHeartbeats 4000000 in
set_option maxRecDepth 100000 in
theorem kX8_already {l : Launch} {G : GT} (q : Nat → Nat) (M : Ob) (lx1 : Int) (lx2 : Int) (v : (Int)) (h : fX8_already M lx1 lx2 = some v) : CT l G yX8_already cX8_already 3 (some .int) rX8_already [.ref (q 31), vi lx1, vi lx2] (W_M G q M) (W_M G q M) (some (vi v)) := by
  unfold fX8_already at h
  refine CT.of (by decide) (Nat.le_of_ble_eq_true rfl) rfl (fun κ _ C => ?_)
  refine X.aload_n C dX8_already_0 rfl 0 rfl ?_
  refine X.iload_n C dX8_already_1 rfl 1 rfl ?_
  refine X.callVi (q0 := 0) (As := [vi lx1]) (rest := []) (g := fun rr_1 => rr_1) (W1 := fun rr_1 => (W_M G q M)) (ws2 := fun rr_1 => (W_M G q M)) C h dX8_already_2 ml_X8_302 mX8_isTable (fun v hv => kX8_isTable q M lx1 v hv) (fun rr_1 => ln_M_M_m_n (G := G) (q := q) (M := M)) rfl rfl rfl rfl rfl rfl rfl rfl (fun rr_1 h => ?_)
  refine X.if_eq (tgt := 36) C h dX8_already_5 (by decide) (fun h => ?_) (fun h => ?_)
  · refine X.bipush C dX8_already_36 (by decide) ?_
    cases h
    exact X.iret C dX8_already_38 (Nat.zero_le _) (Nat.zero_le _)
  refine X.iload_n C dX8_already_8 rfl 2 rfl ?_
  refine X.i2l C dX8_already_9 ?_
  refine X.callSi (As := [vl (jwl lx2)]) (rest := []) (g := fun rr_2 => rr_2) (W1 := fun rr_2 => W_0) (ws2 := fun rr_2 => (W_M G q M)) C h dX8_already_10 ml_X8_281 mX8_isWind (fun v hv => kX8_isWind (jwl lx2) v hv) (fun rr_2 => ln_M_0__n (G := G) (q := q) (M := M)) rfl rfl rfl rfl rfl rfl (fun rr_2 h => ?_)
  refine X.if_eq (tgt := 36) C h dX8_already_13 (by decide) (fun h => ?_) (fun h => ?_)
  · refine X.bipush C dX8_already_36 (by decide) ?_
    cases h
    exact X.iret C dX8_already_38 (Nat.zero_le _) (Nat.zero_le _)
  refine X.aload_n C dX8_already_16 rfl 0 rfl ?_
  refine X.aload_n C dX8_already_17 rfl 0 rfl ?_
  refine X.iload_n C dX8_already_18 rfl 1 rfl ?_
  refine X.iconst C dX8_already_19 ?_
  refine X.callVi (q0 := 0) (As := [vi lx1, vi 0]) (rest := [.ref (q 31)]) (g := fun rr_3 => rr_3) (W1 := fun rr_3 => (W_M G q M)) (ws2 := fun rr_3 => (W_M G q M)) C h dX8_already_20 ml_X8_72 mX8_ofTable (fun v hv => kX8_ofTable q M lx1 0 v hv) (fun rr_3 => ln_M_M_m_n (G := G) (q := q) (M := M)) rfl rfl rfl rfl rfl rfl rfl rfl (fun rr_3 h => ?_)
  refine X.aload_n C dX8_already_23 rfl 0 rfl ?_
  refine X.iload_n C dX8_already_24 rfl 1 rfl ?_
  refine X.iconst C dX8_already_25 ?_
  refine X.callVi (q0 := 0) (As := [vi lx1, vi 1]) (rest := [vi rr_3, .ref (q 31)]) (g := fun rr_4 => rr_4) (W1 := fun rr_4 => (W_M G q M)) (ws2 := fun rr_4 => (W_M G q M)) C h dX8_already_26 ml_X8_72 mX8_ofTable (fun v hv => kX8_ofTable q M lx1 1 v hv) (fun rr_4 => ln_M_M_m_n (G := G) (q := q) (M := M)) rfl rfl rfl rfl rfl rfl rfl rfl (fun rr_4 h => ?_)
  refine X.iload_n C dX8_already_29 rfl 2 rfl ?_
  refine X.callVi (q0 := 0) (As := [vi rr_3, vi rr_4, vi lx2]) (rest := []) (g := fun rr_5 => rr_5) (W1 := fun rr_5 => (W_M G q M)) (ws2 := fun rr_5 => (W_M G q M)) C h dX8_already_30 ml_X8_363 mX8_alreadyOn (fun v hv => kX8_alreadyOn q M rr_3 rr_4 lx2 v hv) (fun rr_5 => ln_M_M_m_n (G := G) (q := q) (M := M)) rfl rfl rfl rfl rfl rfl rfl rfl (fun rr_5 h => ?_)
  refine X.goto (tgt := 38) C dX8_already_33 (by decide) ?_
  cases h
  exact X.iret C dX8_already_38 (Nat.zero_le _) (Nat.zero_le _)
def rX8_coming : Room := { frames := 2, cells := 0, slots := 0, locals := 52 }
theorem mX8_coming : MV yX8_coming cX8_coming 5 (some .int) 1 := ⟨cd_X8_coming, in_X8, ⟨⟨by decide, by decide⟩, by decide +kernel⟩, im_X8_coming, se_X8_coming⟩
set_option maxHeartbeats 4000000 in
set_option maxRecDepth 100000 in
theorem xX8_coming_39 {κ : Kx} {G : GT} (C : Cx κ G yX8_coming cX8_coming (some .int) 5 rX8_coming) (q : Nat → Nat) (M : Ob) (lx1 : Int) (lx3 : Int) (kx0 : Int → Option (Int)) (v : (Int)) (hk0 : ∀ (lx2 : Int), kx0 lx2 = some v → X κ G 5 (W_M G q M) 101 [(0, .ref (q 31)), (1, vi lx1), (2, vi lx2), (3, vi lx3)] [] 0 0 (QM κ G (W_M G q M) (some (vi v)) rX8_coming.cells rX8_coming.slots)) : ∀ (n : Nat) (lx2 : Int) (lx4 : Int), lX8_coming_39 M lx1 lx3 kx0 n lx2 lx4 = some v → X κ G 5 (W_M G q M) 39 [(0, .ref (q 31)), (1, vi lx1), (2, vi lx2), (3, vi lx3), (4, vi lx4)] [] 0 0 (QM κ G (W_M G q M) (some (vi v)) rX8_coming.cells rX8_coming.slots) := by
  intro n
  induction n with
  | zero => intro _ _ h; exact absurd h (fun h => nomatch h)
  | succ n ih =>
    intro lx2 lx4 h
    rw [lX8_coming_39] at h
    refine X.iload C dX8_coming_39 4 rfl ?_
    refine X.aload_n C dX8_coming_41 rfl 0 rfl ?_
    refine X.get C dX8_coming_42 lay_X8 0 rfl rfl 1 (by decide) fl_X8_13 rfl rfl ?_
    refine X.bipush C dX8_coming_45 (by decide) ?_
    refine X.iald C h dX8_coming_47 1 rfl (fun h => ?_)
    refine X.icmp_ge (tgt := 101) C h dX8_coming_48 (by decide) (fun h => ?_) (fun h => ?_)
    · refine X.sub [0, 1, 2, 3] rfl ?_
      exact hk0 lx2 h
    refine X.aload_n C dX8_coming_51 rfl 0 rfl ?_
    refine X.iload_n C dX8_coming_52 rfl 3 rfl ?_
    refine X.callVi (q0 := 0) (As := [vi lx3]) (rest := []) (g := fun rr_4 => rr_4) (W1 := fun rr_4 => (W_M G q M)) (ws2 := fun rr_4 => (W_M G q M)) C h dX8_coming_53 ml_X8_254 mX8_isUp (fun v hv => kX8_isUp q M lx3 v hv) (fun rr_4 => ln_M_M_m_n (G := G) (q := q) (M := M)) rfl rfl rfl rfl rfl rfl rfl rfl (fun rr_4 h => ?_)
    refine X.if_eq (tgt := 101) C h dX8_coming_56 (by decide) (fun h => ?_) (fun h => ?_)
    · refine X.sub [0, 1, 2, 3] rfl ?_
      exact hk0 lx2 h
    refine X.iload_n C dX8_coming_59 rfl 2 rfl ?_
    refine X.aload_n C dX8_coming_60 rfl 0 rfl ?_
    refine X.aload_n C dX8_coming_61 rfl 0 rfl ?_
    refine X.iload_n C dX8_coming_62 rfl 3 rfl ?_
    refine X.iload C dX8_coming_63 4 rfl ?_
    refine X.iload_n C dX8_coming_65 rfl 1 rfl ?_
    refine X.callVi (q0 := 0) (As := [vi lx3, vi lx4, vi lx1]) (rest := [.ref (q 31), vi lx2]) (g := fun rr_5 => rr_5) (W1 := fun rr_5 => (W_M G q M)) (ws2 := fun rr_5 => (W_M G q M)) C h dX8_coming_66 ml_X8_354 mX8_dueX (fun v hv => kX8_dueX q M lx3 lx4 lx1 v hv) (fun rr_5 => ln_M_M_m_n (G := G) (q := q) (M := M)) rfl rfl rfl rfl rfl rfl rfl rfl (fun rr_5 h => ?_)
    refine X.aload_n C dX8_coming_69 rfl 0 rfl ?_
    refine X.iload_n C dX8_coming_70 rfl 3 rfl ?_
    refine X.iload C dX8_coming_71 4 rfl ?_
    refine X.iload_n C dX8_coming_73 rfl 1 rfl ?_
    refine X.callVi (q0 := 0) (As := [vi lx3, vi lx4, vi lx1]) (rest := [vi rr_5, .ref (q 31), vi lx2]) (g := fun rr_6 => rr_6) (W1 := fun rr_6 => (W_M G q M)) (ws2 := fun rr_6 => (W_M G q M)) C h dX8_coming_74 ml_X8_357 mX8_dueY (fun v hv => kX8_dueY q M lx3 lx4 lx1 v hv) (fun rr_6 => ln_M_M_m_n (G := G) (q := q) (M := M)) rfl rfl rfl rfl rfl rfl rfl rfl (fun rr_6 h => ?_)
    refine X.callVi (q0 := 0) (As := [vi rr_5, vi rr_6]) (rest := [vi lx2]) (g := fun rr_7 => rr_7) (W1 := fun rr_7 => (W_M G q M)) (ws2 := fun rr_7 => (W_M G q M)) C h dX8_coming_77 ml_X8_232 mX8_isBasin (fun v hv => kX8_isBasin q M rr_5 rr_6 v hv) (fun rr_7 => ln_M_M_m_n (G := G) (q := q) (M := M)) rfl rfl rfl rfl rfl rfl rfl rfl (fun rr_7 h => ?_)
    refine X.if_eq (tgt := 87) C h dX8_coming_80 (by decide) (fun h => ?_) (fun h => ?_)
    · refine X.aload_n C dX8_coming_87 rfl 0 rfl ?_
      refine X.iload C dX8_coming_88 4 rfl ?_
      refine X.callVi (q0 := 0) (As := [vi lx4]) (rest := [vi lx2]) (g := fun rr_8 => rr_8) (W1 := fun rr_8 => (W_M G q M)) (ws2 := fun rr_8 => (W_M G q M)) C h dX8_coming_90 ml_X8_245 mX8_shareOf (fun v hv => kX8_shareOf q M lx4 v hv) (fun rr_8 => ln_M_M_m_n (G := G) (q := q) (M := M)) rfl rfl rfl rfl rfl rfl rfl rfl (fun rr_8 h => ?_)
      refine X.iadd C dX8_coming_93 ?_
      refine X.istoreN_n (lv2 := fun lx2_9 => [(2, vi lx2_9), (0, .ref (q 31)), (1, vi lx1), (3, vi lx3), (4, vi lx4)]) C h dX8_coming_94 rfl (by decide) (fun _ => rfl) (fun lx2_9 h => ?_)
      refine X.iincN (lv2 := fun lx4_10 => [(4, vi lx4_10), (2, vi lx2_9), (0, .ref (q 31)), (1, vi lx1), (3, vi lx3)]) C h dX8_coming_95 4 rfl (by decide) (fun _ => rfl) (fun lx4_10 h => ?_)
      refine X.goto (tgt := 39) C dX8_coming_98 (by decide) ?_
      refine X.sub [2, 3, 1, 4, 0] rfl ?_
      exact ih lx2_9 lx4_10 h
    refine X.iconst C dX8_coming_83 ?_
    refine X.goto (tgt := 93) C dX8_coming_84 (by decide) ?_
    refine X.iadd C dX8_coming_93 ?_
    refine X.istoreN_n (lv2 := fun lx2_11 => [(2, vi lx2_11), (0, .ref (q 31)), (1, vi lx1), (3, vi lx3), (4, vi lx4)]) C h dX8_coming_94 rfl (by decide) (fun _ => rfl) (fun lx2_11 h => ?_)
    refine X.iincN (lv2 := fun lx4_12 => [(4, vi lx4_12), (2, vi lx2_11), (0, .ref (q 31)), (1, vi lx1), (3, vi lx3)]) C h dX8_coming_95 4 rfl (by decide) (fun _ => rfl) (fun lx4_12 h => ?_)
    refine X.goto (tgt := 39) C dX8_coming_98 (by decide) ?_
    refine X.sub [2, 3, 1, 4, 0] rfl ?_
    exact ih lx2_11 lx4_12 h
set_option maxHeartbeats 4000000 in
set_option maxRecDepth 100000 in
theorem xX8_coming_25 {κ : Kx} {G : GT} (C : Cx κ G yX8_coming cX8_coming (some .int) 5 rX8_coming) (q : Nat → Nat) (M : Ob) (lx1 : Int) (v : (Int)) : ∀ (n : Nat) (lx2 : Int) (lx3 : Int), lX8_coming_25 M lx1 n lx2 lx3 = some v → X κ G 5 (W_M G q M) 25 [(0, .ref (q 31)), (1, vi lx1), (2, vi lx2), (3, vi lx3)] [] 0 0 (QM κ G (W_M G q M) (some (vi v)) rX8_coming.cells rX8_coming.slots) := by
  intro n
  induction n with
  | zero => intro _ _ h; exact absurd h (fun h => nomatch h)
  | succ n ih =>
    intro lx2 lx3 h
    rw [lX8_coming_25] at h
    refine X.iload_n C dX8_coming_25 rfl 3 rfl ?_
    refine X.aload_n C dX8_coming_26 rfl 0 rfl ?_
    refine X.get C dX8_coming_27 lay_X8 0 rfl rfl 1 (by decide) fl_X8_13 rfl rfl ?_
    refine X.bipush C dX8_coming_30 (by decide) ?_
    refine X.iald C h dX8_coming_32 1 rfl (fun h => ?_)
    refine X.icmp_gt (tgt := 107) C h dX8_coming_33 (by decide) (fun h => ?_) (fun h => ?_)
    · refine X.iload_n C dX8_coming_107 rfl 2 rfl ?_
      cases h
      exact X.iret C dX8_coming_108 (Nat.zero_le _) (Nat.zero_le _)
    refine X.iconst C dX8_coming_36 ?_
    refine X.istore (lv2 := [(4, vi 0), (0, .ref (q 31)), (1, vi lx1), (2, vi lx2), (3, vi lx3)]) C dX8_coming_37 (by decide) rfl ?_
    refine X.sub [1, 2, 3, 4, 0] rfl ?_
    refine xX8_coming_39 C q M lx1 lx3 _ v (fun lx2_13 h => ?_) FU lx2 0 h
    · refine X.iincN (lv2 := fun lx3_14 => [(3, vi lx3_14), (0, .ref (q 31)), (1, vi lx1), (2, vi lx2_13)]) C h dX8_coming_101 3 rfl (by decide) (fun _ => rfl) (fun lx3_14 h => ?_)
      refine X.goto (tgt := 25) C dX8_coming_104 (by decide) ?_
      refine X.sub [1, 2, 3, 0] rfl ?_
      exact ih lx2_13 lx3_14 h
set_option maxHeartbeats 4000000 in
set_option maxRecDepth 100000 in
theorem kX8_coming {l : Launch} {G : GT} (q : Nat → Nat) (M : Ob) (lx1 : Int) (v : (Int)) (h : fX8_coming M lx1 = some v) : CT l G yX8_coming cX8_coming 5 (some .int) rX8_coming [.ref (q 31), vi lx1] (W_M G q M) (W_M G q M) (some (vi v)) := by
  unfold fX8_coming at h
  refine CT.of (by decide) (Nat.le_of_ble_eq_true rfl) rfl (fun κ _ C => ?_)
  refine X.aload_n C dX8_coming_0 rfl 0 rfl ?_
  refine X.callVi (q0 := 0) (As := []) (rest := []) (g := fun rr_1 => rr_1) (W1 := fun rr_1 => (W_M G q M)) (ws2 := fun rr_1 => (W_M G q M)) C h dX8_coming_1 ml_X8_278 mX8_isSquare (fun v hv => kX8_isSquare q M v hv) (fun rr_1 => ln_M_M_m_n (G := G) (q := q) (M := M)) rfl rfl rfl rfl rfl rfl rfl rfl (fun rr_1 h => ?_)
  refine X.if_eq (tgt := 15) C h dX8_coming_4 (by decide) (fun h => ?_) (fun h => ?_)
  · refine X.bipush C dX8_coming_15 (by decide) ?_
    cases h
    exact X.iret C dX8_coming_17 (Nat.zero_le _) (Nat.zero_le _)
  refine X.iload_n C dX8_coming_7 rfl 1 rfl ?_
  refine X.i2l C dX8_coming_8 ?_
  refine X.callSi (As := [vl (jwl lx1)]) (rest := []) (g := fun rr_2 => rr_2) (W1 := fun rr_2 => W_0) (ws2 := fun rr_2 => (W_M G q M)) C h dX8_coming_9 ml_X8_281 mX8_isWind (fun v hv => kX8_isWind (jwl lx1) v hv) (fun rr_2 => ln_M_0__n (G := G) (q := q) (M := M)) rfl rfl rfl rfl rfl rfl (fun rr_2 h => ?_)
  refine X.if_ne (tgt := 18) C h dX8_coming_12 (by decide) (fun h => ?_) (fun h => ?_)
  · refine X.iconst C dX8_coming_18 ?_
    refine X.istore_n (lv2 := [(2, vi 0), (0, .ref (q 31)), (1, vi lx1)]) C dX8_coming_19 rfl (by decide) rfl ?_
    refine X.aload_n C dX8_coming_20 rfl 1 rfl ?_
    refine X.callVi (q0 := 0) (As := []) (rest := []) (g := fun rr_3 => rr_3) (W1 := fun rr_3 => (W_M G q M)) (ws2 := fun rr_3 => (W_M G q M)) C h dX8_coming_21 ml_X8_251 mX8_firstBeat (fun v hv => kX8_firstBeat q M v hv) (fun rr_3 => ln_M_M_m_n (G := G) (q := q) (M := M)) rfl rfl rfl rfl rfl rfl rfl rfl (fun rr_3 h => ?_)
    refine X.istore_n (lv2 := [(3, vi rr_3), (2, vi 0), (0, .ref (q 31)), (1, vi lx1)]) C dX8_coming_24 rfl (by decide) rfl ?_
    refine X.sub [2, 3, 1, 0] rfl ?_
    refine xX8_coming_25 C q M lx1 v FU 0 rr_3 h
  refine X.bipush C dX8_coming_15 (by decide) ?_
  cases h
  exact X.iret C dX8_coming_17 (Nat.zero_le _) (Nat.zero_le _)
def rX8_worst : Room := { frames := 4, cells := 0, slots := 0, locals := 103 }
theorem mX8_worst : MV yX8_worst cX8_worst 6 (some .int) 1 := ⟨cd_X8_worst, in_X8, ⟨⟨by decide, by decide⟩, by decide +kernel⟩, im_X8_worst, se_X8_worst⟩
set_option maxHeartbeats 4000000 in
set_option maxRecDepth 100000 in
theorem xX8_worst_18 {κ : Kx} {G : GT} (C : Cx κ G yX8_worst cX8_worst (some .int) 6 rX8_worst) (q : Nat → Nat) (M : Ob) (lx1 : Int) (v : (Int)) : ∀ (n : Nat) (lx2 : Int) (lx3 : Int) (lx4 : Int), lX8_worst_18 M lx1 n lx2 lx3 lx4 = some v → X κ G 6 (W_M G q M) 18 [(0, .ref (q 31)), (1, vi lx1), (2, vi lx2), (3, vi lx3), (4, vi lx4)] [] 0 0 (QM κ G (W_M G q M) (some (vi v)) rX8_worst.cells rX8_worst.slots) := by
  intro n
  induction n with
  | zero => intro _ _ _ h; exact absurd h (fun h => nomatch h)
  | succ n ih =>
    intro lx2 lx3 lx4 h
    rw [lX8_worst_18] at h
    refine X.iload C dX8_worst_18 4 rfl ?_
    refine X.bipush C dX8_worst_20 (by decide) ?_
    refine X.icmp_ge (tgt := 66) C h dX8_worst_22 (by decide) (fun h => ?_) (fun h => ?_)
    · refine X.iload_n C dX8_worst_66 rfl 2 rfl ?_
      cases h
      exact X.iret C dX8_worst_67 (Nat.zero_le _) (Nat.zero_le _)
    refine X.aload_n C dX8_worst_25 rfl 0 rfl ?_
    refine X.aload_n C dX8_worst_26 rfl 0 rfl ?_
    refine X.iload_n C dX8_worst_27 rfl 1 rfl ?_
    refine X.iconst C dX8_worst_28 ?_
    refine X.callVi (q0 := 0) (As := [vi lx1, vi 0]) (rest := [.ref (q 31)]) (g := fun rr_2 => rr_2) (W1 := fun rr_2 => (W_M G q M)) (ws2 := fun rr_2 => (W_M G q M)) C h dX8_worst_29 ml_X8_72 mX8_ofTable (fun v hv => kX8_ofTable q M lx1 0 v hv) (fun rr_2 => ln_M_M_m_n (G := G) (q := q) (M := M)) rfl rfl rfl rfl rfl rfl rfl rfl (fun rr_2 h => ?_)
    refine X.aload_n C dX8_worst_32 rfl 0 rfl ?_
    refine X.iload_n C dX8_worst_33 rfl 1 rfl ?_
    refine X.iconst C dX8_worst_34 ?_
    refine X.callVi (q0 := 0) (As := [vi lx1, vi 1]) (rest := [vi rr_2, .ref (q 31)]) (g := fun rr_3 => rr_3) (W1 := fun rr_3 => (W_M G q M)) (ws2 := fun rr_3 => (W_M G q M)) C h dX8_worst_35 ml_X8_72 mX8_ofTable (fun v hv => kX8_ofTable q M lx1 1 v hv) (fun rr_3 => ln_M_M_m_n (G := G) (q := q) (M := M)) rfl rfl rfl rfl rfl rfl rfl rfl (fun rr_3 h => ?_)
    refine X.iload C dX8_worst_38 4 rfl ?_
    refine X.callVi (q0 := 0) (As := [vi rr_2, vi rr_3, vi lx4]) (rest := []) (g := fun rr_4 => rr_4) (W1 := fun rr_4 => (W_M G q M)) (ws2 := fun rr_4 => (W_M G q M)) C h dX8_worst_40 ml_X8_363 mX8_alreadyOn (fun v hv => kX8_alreadyOn q M rr_2 rr_3 lx4 v hv) (fun rr_4 => ln_M_M_m_n (G := G) (q := q) (M := M)) rfl rfl rfl rfl rfl rfl rfl rfl (fun rr_4 h => ?_)
    refine X.istore (lv2 := [(5, vi rr_4), (0, .ref (q 31)), (1, vi lx1), (2, vi lx2), (3, vi lx3), (4, vi lx4)]) C dX8_worst_43 (by decide) rfl ?_
    refine X.iload C dX8_worst_45 0 rfl ?_
    refine X.iload_n C dX8_worst_47 rfl 4 rfl ?_
    refine X.icmp_gt (tgt := 54) C h dX8_worst_48 (by decide) (fun h => ?_) (fun h => ?_)
    · refine X.iload C dX8_worst_54 5 rfl ?_
      refine X.istore_n (lv2 := [(2, vi lx4), (5, vi rr_4), (0, .ref (q 31)), (1, vi lx1), (3, vi lx3), (4, vi lx4)]) C dX8_worst_56 rfl (by decide) rfl ?_
      refine X.iload C dX8_worst_57 1 rfl ?_
      refine X.istore_n (lv2 := [(3, vi rr_4), (2, vi lx4), (5, vi rr_4), (0, .ref (q 31)), (1, vi lx1), (4, vi lx4)]) C dX8_worst_59 rfl (by decide) rfl ?_
      refine X.iincN (lv2 := fun lx4_5 => [(4, vi lx4_5), (3, vi rr_4), (2, vi lx4), (5, vi rr_4), (0, .ref (q 31)), (1, vi lx1)]) C h dX8_worst_60 5 rfl (by decide) (fun _ => rfl) (fun lx4_5 h => ?_)
      refine X.goto (tgt := 18) C dX8_worst_63 (by decide) ?_
      refine X.sub [4, 5, 2, 1, 0] rfl ?_
      exact ih lx4 rr_4 lx4_5 h
    refine X.goto (tgt := 60) C dX8_worst_51 (by decide) ?_
    refine X.iincN (lv2 := fun lx4_6 => [(4, vi lx4_6), (5, vi rr_4), (0, .ref (q 31)), (1, vi lx1), (2, vi lx2), (3, vi lx3)]) C h dX8_worst_60 5 rfl (by decide) (fun _ => rfl) (fun lx4_6 h => ?_)
    refine X.goto (tgt := 18) C dX8_worst_63 (by decide) ?_
    refine X.sub [2, 3, 4, 5, 0] rfl ?_
    exact ih lx2 lx3 lx4_6 h
set_option maxHeartbeats 4000000 in
set_option maxRecDepth 100000 in
theorem kX8_worst {l : Launch} {G : GT} (q : Nat → Nat) (M : Ob) (lx1 : Int) (v : (Int)) (h : fX8_worst M lx1 = some v) : CT l G yX8_worst cX8_worst 6 (some .int) rX8_worst [.ref (q 31), vi lx1] (W_M G q M) (W_M G q M) (some (vi v)) := by
  unfold fX8_worst at h
  refine CT.of (by decide) (Nat.le_of_ble_eq_true rfl) rfl (fun κ _ C => ?_)
  refine X.aload_n C dX8_worst_0 rfl 0 rfl ?_
  refine X.iload_n C dX8_worst_1 rfl 1 rfl ?_
  refine X.callVi (q0 := 0) (As := [vi lx1]) (rest := []) (g := fun rr_1 => rr_1) (W1 := fun rr_1 => (W_M G q M)) (ws2 := fun rr_1 => (W_M G q M)) C h dX8_worst_2 ml_X8_302 mX8_isTable (fun v hv => kX8_isTable q M lx1 v hv) (fun rr_1 => ln_M_M_m_n (G := G) (q := q) (M := M)) rfl rfl rfl rfl rfl rfl rfl rfl (fun rr_1 h => ?_)
  refine X.if_ne (tgt := 11) C h dX8_worst_5 (by decide) (fun h => ?_) (fun h => ?_)
  · refine X.iconst C dX8_worst_11 ?_
    refine X.istore_n (lv2 := [(2, vi (-1)), (0, .ref (q 31)), (1, vi lx1)]) C dX8_worst_12 rfl (by decide) rfl ?_
    refine X.iconst C dX8_worst_13 ?_
    refine X.istore_n (lv2 := [(3, vi 0), (2, vi (-1)), (0, .ref (q 31)), (1, vi lx1)]) C dX8_worst_14 rfl (by decide) rfl ?_
    refine X.iconst C dX8_worst_15 ?_
    refine X.istore (lv2 := [(4, vi 0), (3, vi 0), (2, vi (-1)), (0, .ref (q 31)), (1, vi lx1)]) C dX8_worst_16 (by decide) rfl ?_
    refine X.sub [3, 4, 2, 1, 0] rfl ?_
    refine xX8_worst_18 C q M lx1 v FU (-1) 0 0 h
  refine X.bipush C dX8_worst_8 (by decide) ?_
  cases h
  exact X.iret C dX8_worst_10 (Nat.zero_le _) (Nat.zero_le _)
def rX8_last : Room := { frames := 3, cells := 0, slots := 0, locals := 77 }
theorem mX8_last : MV yX8_last cX8_last 7 (some .int) 2 := ⟨cd_X8_last, in_X8, ⟨⟨by decide, by decide⟩, by decide +kernel⟩, im_X8_last, se_X8_last⟩
set_option maxHeartbeats 4000000 in
set_option maxRecDepth 100000 in
theorem xX8_last_42 {κ : Kx} {G : GT} (C : Cx κ G yX8_last cX8_last (some .int) 7 rX8_last) (q : Nat → Nat) (M : Ob) (lx1 : Int) (lx2 : Int) (lx4 : Int) (kx0 : Int → Option (Int)) (v : (Int)) (hk0 : ∀ (lx3 : Int), kx0 lx3 = some v → X κ G 7 (W_M G q M) 125 [(0, .ref (q 31)), (1, vi lx1), (2, vi lx2), (3, vi lx3), (4, vi lx4)] [] 0 0 (QM κ G (W_M G q M) (some (vi v)) rX8_last.cells rX8_last.slots)) : ∀ (n : Nat) (lx3 : Int) (lx5 : Int), lX8_last_42 M lx1 lx2 lx4 kx0 n lx3 lx5 = some v → X κ G 7 (W_M G q M) 42 [(0, .ref (q 31)), (1, vi lx1), (2, vi lx2), (3, vi lx3), (4, vi lx4), (5, vi lx5)] [] 0 0 (QM κ G (W_M G q M) (some (vi v)) rX8_last.cells rX8_last.slots) := by
  intro n
  induction n with
  | zero => intro _ _ h; exact absurd h (fun h => nomatch h)
  | succ n ih =>
    intro lx3 lx5 h
    rw [lX8_last_42] at h
    refine X.iload C dX8_last_42 5 rfl ?_
    refine X.aload_n C dX8_last_44 rfl 0 rfl ?_
    refine X.get C dX8_last_45 lay_X8 0 rfl rfl 1 (by decide) fl_X8_13 rfl rfl ?_
    refine X.bipush C dX8_last_48 (by decide) ?_
    refine X.iald C h dX8_last_50 1 rfl (fun h => ?_)
    refine X.icmp_ge (tgt := 125) C h dX8_last_51 (by decide) (fun h => ?_) (fun h => ?_)
    · refine X.sub [0, 1, 2, 3, 4] rfl ?_
      exact hk0 lx3 h
    refine X.aload_n C dX8_last_54 rfl 0 rfl ?_
    refine X.iload C dX8_last_55 4 rfl ?_
    refine X.callVi (q0 := 0) (As := [vi lx4]) (rest := []) (g := fun rr_4 => rr_4) (W1 := fun rr_4 => (W_M G q M)) (ws2 := fun rr_4 => (W_M G q M)) C h dX8_last_57 ml_X8_254 mX8_isUp (fun v hv => kX8_isUp q M lx4 v hv) (fun rr_4 => ln_M_M_m_n (G := G) (q := q) (M := M)) rfl rfl rfl rfl rfl rfl rfl rfl (fun rr_4 h => ?_)
    refine X.if_eq (tgt := 125) C h dX8_last_60 (by decide) (fun h => ?_) (fun h => ?_)
    · refine X.sub [0, 1, 2, 3, 4] rfl ?_
      exact hk0 lx3 h
    refine X.aload_n C dX8_last_63 rfl 0 rfl ?_
    refine X.iload C dX8_last_64 4 rfl ?_
    refine X.iload C dX8_last_66 5 rfl ?_
    refine X.iload_n C dX8_last_68 rfl 2 rfl ?_
    refine X.aload_n C dX8_last_69 rfl 0 rfl ?_
    refine X.iload_n C dX8_last_70 rfl 1 rfl ?_
    refine X.iconst C dX8_last_71 ?_
    refine X.callVi (q0 := 0) (As := [vi lx1, vi 0]) (rest := [vi lx2, vi lx5, vi lx4, .ref (q 31)]) (g := fun rr_5 => rr_5) (W1 := fun rr_5 => (W_M G q M)) (ws2 := fun rr_5 => (W_M G q M)) C h dX8_last_72 ml_X8_72 mX8_ofTable (fun v hv => kX8_ofTable q M lx1 0 v hv) (fun rr_5 => ln_M_M_m_n (G := G) (q := q) (M := M)) rfl rfl rfl rfl rfl rfl rfl rfl (fun rr_5 h => ?_)
    refine X.aload_n C dX8_last_75 rfl 0 rfl ?_
    refine X.iload_n C dX8_last_76 rfl 1 rfl ?_
    refine X.iconst C dX8_last_77 ?_
    refine X.callVi (q0 := 0) (As := [vi lx1, vi 1]) (rest := [vi rr_5, vi lx2, vi lx5, vi lx4, .ref (q 31)]) (g := fun rr_6 => rr_6) (W1 := fun rr_6 => (W_M G q M)) (ws2 := fun rr_6 => (W_M G q M)) C h dX8_last_78 ml_X8_72 mX8_ofTable (fun v hv => kX8_ofTable q M lx1 1 v hv) (fun rr_6 => ln_M_M_m_n (G := G) (q := q) (M := M)) rfl rfl rfl rfl rfl rfl rfl rfl (fun rr_6 h => ?_)
    refine X.callVi (q0 := 0) (As := [vi lx4, vi lx5, vi lx2, vi rr_5, vi rr_6]) (rest := []) (g := fun rr_7 => rr_7) (W1 := fun rr_7 => (W_M G q M)) (ws2 := fun rr_7 => (W_M G q M)) C h dX8_last_81 ml_X8_360 mX8_isDueOn (fun v hv => kX8_isDueOn q M lx4 lx5 lx2 rr_5 rr_6 v hv) (fun rr_7 => ln_M_M_m_n (G := G) (q := q) (M := M)) rfl rfl rfl rfl rfl rfl rfl rfl (fun rr_7 h => ?_)
    refine X.istore (lv2 := [(6, vi rr_7), (0, .ref (q 31)), (1, vi lx1), (2, vi lx2), (3, vi lx3), (4, vi lx4), (5, vi lx5)]) C dX8_last_84 (by decide) rfl ?_
    refine X.iload C dX8_last_86 0 rfl ?_
    refine X.if_eq (tgt := 117) C h dX8_last_88 (by decide) (fun h => ?_) (fun h => ?_)
    · refine X.iload_n C dX8_last_117 rfl 4 rfl ?_
      refine X.istore_n (lv2 := [(3, vi lx3), (6, vi rr_7), (0, .ref (q 31)), (1, vi lx1), (2, vi lx2), (4, vi lx4), (5, vi lx5)]) C dX8_last_118 rfl (by decide) rfl ?_
      refine X.iincN (lv2 := fun lx5_8 => [(5, vi lx5_8), (3, vi lx3), (6, vi rr_7), (0, .ref (q 31)), (1, vi lx1), (2, vi lx2), (4, vi lx4)]) C h dX8_last_119 6 rfl (by decide) (fun _ => rfl) (fun lx5_8 h => ?_)
      refine X.goto (tgt := 42) C dX8_last_122 (by decide) ?_
      refine X.sub [3, 4, 5, 1, 6, 0] rfl ?_
      exact ih lx3 lx5_8 h
    refine X.iload_n C dX8_last_91 rfl 4 rfl ?_
    refine X.aload_n C dX8_last_92 rfl 1 rfl ?_
    refine X.get C dX8_last_93 lay_X8 0 rfl rfl 1 (by decide) fl_X8_13 rfl rfl ?_
    refine X.aload_n C dX8_last_96 rfl 1 rfl ?_
    refine X.iload C dX8_last_97 5 rfl ?_
    refine X.callVi (q0 := 0) (As := [vi lx4]) (rest := [.ref (q 1), vi lx3]) (g := fun rr_9 => rr_9) (W1 := fun rr_9 => (W_M G q M)) (ws2 := fun rr_9 => (W_M G q M)) C h dX8_last_99 ml_X8_239 mX8_lump (fun v hv => kX8_lump q M lx4 v hv) (fun rr_9 => ln_M_M_m_n (G := G) (q := q) (M := M)) rfl rfl rfl rfl rfl rfl rfl rfl (fun rr_9 h => ?_)
    refine X.iald C h dX8_last_102 1 rfl (fun h => ?_)
    refine X.aload_n C dX8_last_103 rfl 1 rfl ?_
    refine X.get C dX8_last_104 lay_X8 0 rfl rfl 1 (by decide) fl_X8_13 rfl rfl ?_
    refine X.bipush C dX8_last_107 (by decide) ?_
    refine X.iald C h dX8_last_109 1 rfl (fun h => ?_)
    refine X.isub C dX8_last_110 ?_
    refine X.mmax C dX8_last_111 ml_X8_242 sm_J9_max_7cf53 in_java_lang_Math cd_J9_max_7cf53 (Nat.le_of_ble_eq_true rfl) (Nat.le_of_ble_eq_true rfl) (Nat.zero_le _) (Nat.zero_le _) ?_
    refine X.goto (tgt := 118) C dX8_last_114 (by decide) ?_
    refine X.istoreN_n (lv2 := fun lx3_10 => [(3, vi lx3_10), (6, vi rr_7), (0, .ref (q 31)), (1, vi lx1), (2, vi lx2), (4, vi lx4), (5, vi lx5)]) C h dX8_last_118 rfl (by decide) (fun _ => rfl) (fun lx3_10 h => ?_)
    refine X.iincN (lv2 := fun lx5_11 => [(5, vi lx5_11), (3, vi lx3_10), (6, vi rr_7), (0, .ref (q 31)), (1, vi lx1), (2, vi lx2), (4, vi lx4)]) C h dX8_last_119 6 rfl (by decide) (fun _ => rfl) (fun lx5_11 h => ?_)
    refine X.goto (tgt := 42) C dX8_last_122 (by decide) ?_
    refine X.sub [3, 4, 5, 1, 6, 0] rfl ?_
    exact ih lx3_10 lx5_11 h
set_option maxHeartbeats 4000000 in
set_option maxRecDepth 100000 in
theorem xX8_last_27 {κ : Kx} {G : GT} (C : Cx κ G yX8_last cX8_last (some .int) 7 rX8_last) (q : Nat → Nat) (M : Ob) (lx1 : Int) (lx2 : Int) (v : (Int)) : ∀ (n : Nat) (lx3 : Int) (lx4 : Int), lX8_last_27 M lx1 lx2 n lx3 lx4 = some v → X κ G 7 (W_M G q M) 27 [(0, .ref (q 31)), (1, vi lx1), (2, vi lx2), (3, vi lx3), (4, vi lx4)] [] 0 0 (QM κ G (W_M G q M) (some (vi v)) rX8_last.cells rX8_last.slots) := by
  intro n
  induction n with
  | zero => intro _ _ h; exact absurd h (fun h => nomatch h)
  | succ n ih =>
    intro lx3 lx4 h
    rw [lX8_last_27] at h
    refine X.iload C dX8_last_27 4 rfl ?_
    refine X.aload_n C dX8_last_29 rfl 0 rfl ?_
    refine X.get C dX8_last_30 lay_X8 0 rfl rfl 1 (by decide) fl_X8_13 rfl rfl ?_
    refine X.bipush C dX8_last_33 (by decide) ?_
    refine X.iald C h dX8_last_35 1 rfl (fun h => ?_)
    refine X.icmp_gt (tgt := 131) C h dX8_last_36 (by decide) (fun h => ?_) (fun h => ?_)
    · refine X.iload_n C dX8_last_131 rfl 3 rfl ?_
      cases h
      exact X.iret C dX8_last_132 (Nat.zero_le _) (Nat.zero_le _)
    refine X.iconst C dX8_last_39 ?_
    refine X.istore (lv2 := [(5, vi 0), (0, .ref (q 31)), (1, vi lx1), (2, vi lx2), (3, vi lx3), (4, vi lx4)]) C dX8_last_40 (by decide) rfl ?_
    refine X.sub [1, 2, 3, 4, 5, 0] rfl ?_
    refine xX8_last_42 C q M lx1 lx2 lx4 _ v (fun lx3_12 h => ?_) FU lx3 0 h
    · refine X.iincN (lv2 := fun lx4_13 => [(4, vi lx4_13), (0, .ref (q 31)), (1, vi lx1), (2, vi lx2), (3, vi lx3_12)]) C h dX8_last_125 4 rfl (by decide) (fun _ => rfl) (fun lx4_13 h => ?_)
      refine X.goto (tgt := 27) C dX8_last_128 (by decide) ?_
      refine X.sub [1, 2, 3, 4, 0] rfl ?_
      exact ih lx3_12 lx4_13 h
set_option maxHeartbeats 4000000 in
set_option maxRecDepth 100000 in
theorem kX8_last {l : Launch} {G : GT} (q : Nat → Nat) (M : Ob) (lx1 : Int) (lx2 : Int) (v : (Int)) (h : fX8_last M lx1 lx2 = some v) : CT l G yX8_last cX8_last 7 (some .int) rX8_last [.ref (q 31), vi lx1, vi lx2] (W_M G q M) (W_M G q M) (some (vi v)) := by
  unfold fX8_last at h
  refine CT.of (by decide) (Nat.le_of_ble_eq_true rfl) rfl (fun κ _ C => ?_)
  refine X.aload_n C dX8_last_0 rfl 0 rfl ?_
  refine X.iload_n C dX8_last_1 rfl 1 rfl ?_
  refine X.callVi (q0 := 0) (As := [vi lx1]) (rest := []) (g := fun rr_1 => rr_1) (W1 := fun rr_1 => (W_M G q M)) (ws2 := fun rr_1 => (W_M G q M)) C h dX8_last_2 ml_X8_302 mX8_isTable (fun v hv => kX8_isTable q M lx1 v hv) (fun rr_1 => ln_M_M_m_n (G := G) (q := q) (M := M)) rfl rfl rfl rfl rfl rfl rfl rfl (fun rr_1 h => ?_)
  refine X.if_eq (tgt := 16) C h dX8_last_5 (by decide) (fun h => ?_) (fun h => ?_)
  · refine X.bipush C dX8_last_16 (by decide) ?_
    cases h
    exact X.iret C dX8_last_18 (Nat.zero_le _) (Nat.zero_le _)
  refine X.iload_n C dX8_last_8 rfl 2 rfl ?_
  refine X.i2l C dX8_last_9 ?_
  refine X.callSi (As := [vl (jwl lx2)]) (rest := []) (g := fun rr_2 => rr_2) (W1 := fun rr_2 => W_0) (ws2 := fun rr_2 => (W_M G q M)) C h dX8_last_10 ml_X8_281 mX8_isWind (fun v hv => kX8_isWind (jwl lx2) v hv) (fun rr_2 => ln_M_0__n (G := G) (q := q) (M := M)) rfl rfl rfl rfl rfl rfl (fun rr_2 h => ?_)
  refine X.if_ne (tgt := 19) C h dX8_last_13 (by decide) (fun h => ?_) (fun h => ?_)
  · refine X.iconst C dX8_last_19 ?_
    refine X.istore_n (lv2 := [(3, vi 0), (0, .ref (q 31)), (1, vi lx1), (2, vi lx2)]) C dX8_last_20 rfl (by decide) rfl ?_
    refine X.aload_n C dX8_last_21 rfl 1 rfl ?_
    refine X.callVi (q0 := 0) (As := []) (rest := []) (g := fun rr_3 => rr_3) (W1 := fun rr_3 => (W_M G q M)) (ws2 := fun rr_3 => (W_M G q M)) C h dX8_last_22 ml_X8_251 mX8_firstBeat (fun v hv => kX8_firstBeat q M v hv) (fun rr_3 => ln_M_M_m_n (G := G) (q := q) (M := M)) rfl rfl rfl rfl rfl rfl rfl rfl (fun rr_3 h => ?_)
    refine X.istore (lv2 := [(4, vi rr_3), (3, vi 0), (0, .ref (q 31)), (1, vi lx1), (2, vi lx2)]) C dX8_last_25 (by decide) rfl ?_
    refine X.sub [2, 3, 4, 1, 0] rfl ?_
    refine xX8_last_27 C q M lx1 lx2 v FU 0 rr_3 h
  refine X.bipush C dX8_last_16 (by decide) ?_
  cases h
  exact X.iret C dX8_last_18 (Nat.zero_le _) (Nat.zero_le _)
def rX8_thinks : Room := { frames := 0, cells := 0, slots := 0, locals := 0 }
theorem mX8_thinks : MV yX8_thinks cX8_thinks 2 none 0 := ⟨cd_X8_thinks, in_X8, ⟨⟨by decide, by decide⟩, by decide +kernel⟩, im_X8_thinks, se_X8_thinks⟩
set_option maxHeartbeats 4000000 in
set_option maxRecDepth 100000 in
theorem xX8_thinks_2 {κ : Kx} {G : GT} (C : Cx κ G yX8_thinks cX8_thinks none 2 rX8_thinks) (q : Nat → Nat) (v : (Ob)) : ∀ (n : Nat) (lx1 : Int) (M : Ob), lX8_thinks_2 n lx1 M = some v → X κ G 2 (W_M G q M) 2 [(0, .ref (q 31)), (1, vi lx1)] [] 0 0 (QM κ G (W_M G q v) none rX8_thinks.cells rX8_thinks.slots) := by
  intro n
  induction n with
  | zero => intro _ _ h; exact absurd h (fun h => nomatch h)
  | succ n ih =>
    intro lx1 M h
    rw [lX8_thinks_2] at h
    refine X.iload_n C dX8_thinks_2 rfl 1 rfl ?_
    refine X.sipush C dX8_thinks_3 (by decide) ?_
    refine X.icmp_ge (tgt := 27) C h dX8_thinks_6 (by decide) (fun h => ?_) (fun h => ?_)
    · cases h
      exact X.vret C dX8_thinks_27 (Nat.zero_le _) (Nat.zero_le _)
    refine X.aload_n C dX8_thinks_9 rfl 0 rfl ?_
    refine X.get C dX8_thinks_10 lay_X8 0 rfl rfl 15 (by decide) fl_X8_37 rfl rfl ?_
    refine X.iload_n C dX8_thinks_13 rfl 1 rfl ?_
    refine X.aload_n C dX8_thinks_14 rfl 0 rfl ?_
    refine X.get C dX8_thinks_15 lay_X8 0 rfl rfl 1 (by decide) fl_X8_13 rfl rfl ?_
    refine X.iload_n C dX8_thinks_18 rfl 1 rfl ?_
    refine X.iald C h dX8_thinks_19 1 rfl (fun h => ?_)
    refine X.iast (ws2 := (W_M G q (up2 M 15 (ix lx1) (M 1 (ix lx1))))) C h dX8_thinks_20 7 rfl rfl (fun h => ?_)
    refine X.nameS (ws := fun M_1 => (W_M G q M_1)) h (fun M_1 h => ?_)
    refine X.iincN (lv2 := fun lx1_2 => [(1, vi lx1_2), (0, .ref (q 31))]) C h dX8_thinks_21 1 rfl (by decide) (fun _ => rfl) (fun lx1_2 h => ?_)
    refine X.goto (tgt := 2) C dX8_thinks_24 (by decide) ?_
    refine X.sub [1, 0] rfl ?_
    exact ih lx1_2 M_1 h
set_option maxHeartbeats 4000000 in
set_option maxRecDepth 100000 in
theorem kX8_thinks {l : Launch} {G : GT} (q : Nat → Nat) (M : Ob) (v : (Ob)) (h : fX8_thinks M = some v) : CT l G yX8_thinks cX8_thinks 2 none rX8_thinks [.ref (q 31)] (W_M G q M) (W_M G q v) none := by
  unfold fX8_thinks at h
  refine CT.of (by decide) (Nat.le_of_ble_eq_true rfl) rfl (fun κ _ C => ?_)
  refine X.iconst C dX8_thinks_0 ?_
  refine X.istore_n (lv2 := [(1, vi 0), (0, .ref (q 31))]) C dX8_thinks_1 rfl (by decide) rfl ?_
  refine X.sub [1, 0] rfl ?_
  refine xX8_thinks_2 C q v FU 0 M h
def rX8_wakes : Room := { frames := 0, cells := 0, slots := 0, locals := 0 }
theorem mX8_wakes : MV yX8_wakes cX8_wakes 2 none 0 := ⟨cd_X8_wakes, in_X8, ⟨⟨by decide, by decide⟩, by decide +kernel⟩, im_X8_wakes, se_X8_wakes⟩
set_option maxHeartbeats 4000000 in
set_option maxRecDepth 100000 in
theorem xX8_wakes_2 {κ : Kx} {G : GT} (C : Cx κ G yX8_wakes cX8_wakes none 2 rX8_wakes) (q : Nat → Nat) (v : (Ob)) : ∀ (n : Nat) (lx1 : Int) (M : Ob), lX8_wakes_2 n lx1 M = some v → X κ G 2 (W_M G q M) 2 [(0, .ref (q 31)), (1, vi lx1)] [] 0 0 (QM κ G (W_M G q v) none rX8_wakes.cells rX8_wakes.slots) := by
  intro n
  induction n with
  | zero => intro _ _ h; exact absurd h (fun h => nomatch h)
  | succ n ih =>
    intro lx1 M h
    rw [lX8_wakes_2] at h
    refine X.iload_n C dX8_wakes_2 rfl 1 rfl ?_
    refine X.sipush C dX8_wakes_3 (by decide) ?_
    refine X.icmp_ge (tgt := 27) C h dX8_wakes_6 (by decide) (fun h => ?_) (fun h => ?_)
    · cases h
      exact X.vret C dX8_wakes_27 (Nat.zero_le _) (Nat.zero_le _)
    refine X.aload_n C dX8_wakes_9 rfl 0 rfl ?_
    refine X.get C dX8_wakes_10 lay_X8 0 rfl rfl 1 (by decide) fl_X8_13 rfl rfl ?_
    refine X.iload_n C dX8_wakes_13 rfl 1 rfl ?_
    refine X.aload_n C dX8_wakes_14 rfl 0 rfl ?_
    refine X.get C dX8_wakes_15 lay_X8 0 rfl rfl 15 (by decide) fl_X8_37 rfl rfl ?_
    refine X.iload_n C dX8_wakes_18 rfl 1 rfl ?_
    refine X.iald C h dX8_wakes_19 7 rfl (fun h => ?_)
    refine X.iast (ws2 := (W_M G q (up2 M 1 (ix lx1) (M 15 (ix lx1))))) C h dX8_wakes_20 1 rfl rfl (fun h => ?_)
    refine X.nameS (ws := fun M_1 => (W_M G q M_1)) h (fun M_1 h => ?_)
    refine X.iincN (lv2 := fun lx1_2 => [(1, vi lx1_2), (0, .ref (q 31))]) C h dX8_wakes_21 1 rfl (by decide) (fun _ => rfl) (fun lx1_2 h => ?_)
    refine X.goto (tgt := 2) C dX8_wakes_24 (by decide) ?_
    refine X.sub [1, 0] rfl ?_
    exact ih lx1_2 M_1 h
set_option maxHeartbeats 4000000 in
set_option maxRecDepth 100000 in
theorem kX8_wakes {l : Launch} {G : GT} (q : Nat → Nat) (M : Ob) (v : (Ob)) (h : fX8_wakes M = some v) : CT l G yX8_wakes cX8_wakes 2 none rX8_wakes [.ref (q 31)] (W_M G q M) (W_M G q v) none := by
  unfold fX8_wakes at h
  refine CT.of (by decide) (Nat.le_of_ble_eq_true rfl) rfl (fun κ _ C => ?_)
  refine X.iconst C dX8_wakes_0 ?_
  refine X.istore_n (lv2 := [(1, vi 0), (0, .ref (q 31))]) C dX8_wakes_1 rfl (by decide) rfl ?_
  refine X.sub [1, 0] rfl ?_
  refine xX8_wakes_2 C q v FU 0 M h
def rX8_wetOfTables : Room := { frames := 2, cells := 0, slots := 0, locals := 43 }
theorem mX8_wetOfTables : MV yX8_wetOfTables cX8_wetOfTables 3 (some .int) 0 := ⟨cd_X8_wetOfTables, in_X8, ⟨⟨by decide, by decide⟩, by decide +kernel⟩, im_X8_wetOfTables, se_X8_wetOfTables⟩
set_option maxHeartbeats 4000000 in
set_option maxRecDepth 100000 in
theorem xX8_wetOfTables_4 {κ : Kx} {G : GT} (C : Cx κ G yX8_wetOfTables cX8_wetOfTables (some .int) 3 rX8_wetOfTables) (q : Nat → Nat) (M : Ob) (v : (Int)) : ∀ (n : Nat) (lx1 : Int) (lx2 : Int), lX8_wetOfTables_4 M n lx1 lx2 = some v → X κ G 3 (W_M G q M) 4 [(0, .ref (q 31)), (1, vi lx1), (2, vi lx2)] [] 0 0 (QM κ G (W_M G q M) (some (vi v)) rX8_wetOfTables.cells rX8_wetOfTables.slots) := by
  intro n
  induction n with
  | zero => intro _ _ h; exact absurd h (fun h => nomatch h)
  | succ n ih =>
    intro lx1 lx2 h
    rw [lX8_wetOfTables_4] at h
    refine X.iload_n C dX8_wetOfTables_4 rfl 2 rfl ?_
    refine X.aload_n C dX8_wetOfTables_5 rfl 0 rfl ?_
    refine X.get C dX8_wetOfTables_6 lay_X8 0 rfl rfl 1 (by decide) fl_X8_13 rfl rfl ?_
    refine X.bipush C dX8_wetOfTables_9 (by decide) ?_
    refine X.iald C h dX8_wetOfTables_11 1 rfl (fun h => ?_)
    refine X.icmp_ge (tgt := 29) C h dX8_wetOfTables_12 (by decide) (fun h => ?_) (fun h => ?_)
    · refine X.iload_n C dX8_wetOfTables_29 rfl 1 rfl ?_
      cases h
      exact X.iret C dX8_wetOfTables_30 (Nat.zero_le _) (Nat.zero_le _)
    refine X.iload_n C dX8_wetOfTables_15 rfl 1 rfl ?_
    refine X.aload_n C dX8_wetOfTables_16 rfl 0 rfl ?_
    refine X.iload_n C dX8_wetOfTables_17 rfl 2 rfl ?_
    refine X.callVi (q0 := 0) (As := [vi lx2]) (rest := [vi lx1]) (g := fun rr_1 => rr_1) (W1 := fun rr_1 => (W_M G q M)) (ws2 := fun rr_1 => (W_M G q M)) C h dX8_wetOfTables_18 ml_X8_307 mX8_wetAt (fun v hv => kX8_wetAt q M lx2 v hv) (fun rr_1 => ln_M_M_m_n (G := G) (q := q) (M := M)) rfl rfl rfl rfl rfl rfl rfl rfl (fun rr_1 h => ?_)
    refine X.iadd C dX8_wetOfTables_21 ?_
    refine X.istoreN_n (lv2 := fun lx1_2 => [(1, vi lx1_2), (0, .ref (q 31)), (2, vi lx2)]) C h dX8_wetOfTables_22 rfl (by decide) (fun _ => rfl) (fun lx1_2 h => ?_)
    refine X.iincN (lv2 := fun lx2_3 => [(2, vi lx2_3), (1, vi lx1_2), (0, .ref (q 31))]) C h dX8_wetOfTables_23 2 rfl (by decide) (fun _ => rfl) (fun lx2_3 h => ?_)
    refine X.goto (tgt := 4) C dX8_wetOfTables_26 (by decide) ?_
    refine X.sub [2, 1, 0] rfl ?_
    exact ih lx1_2 lx2_3 h
set_option maxHeartbeats 4000000 in
set_option maxRecDepth 100000 in
theorem kX8_wetOfTables {l : Launch} {G : GT} (q : Nat → Nat) (M : Ob) (v : (Int)) (h : fX8_wetOfTables M = some v) : CT l G yX8_wetOfTables cX8_wetOfTables 3 (some .int) rX8_wetOfTables [.ref (q 31)] (W_M G q M) (W_M G q M) (some (vi v)) := by
  unfold fX8_wetOfTables at h
  refine CT.of (by decide) (Nat.le_of_ble_eq_true rfl) rfl (fun κ _ C => ?_)
  refine X.iconst C dX8_wetOfTables_0 ?_
  refine X.istore_n (lv2 := [(1, vi 0), (0, .ref (q 31))]) C dX8_wetOfTables_1 rfl (by decide) rfl ?_
  refine X.iconst C dX8_wetOfTables_2 ?_
  refine X.istore_n (lv2 := [(2, vi 0), (1, vi 0), (0, .ref (q 31))]) C dX8_wetOfTables_3 rfl (by decide) rfl ?_
  refine X.sub [2, 1, 0] rfl ?_
  refine xX8_wetOfTables_4 C q M v FU 0 0 h
def rX8_goesDown : Room := { frames := 6, cells := 0, slots := 0, locals := 153 }
theorem mX8_goesDown : MV yX8_goesDown cX8_goesDown 9 none 1 := ⟨cd_X8_goesDown, in_X8, ⟨⟨by decide, by decide⟩, by decide +kernel⟩, im_X8_goesDown, se_X8_goesDown⟩
set_option maxHeartbeats 4000000 in
set_option maxRecDepth 100000 in
theorem xX8_goesDown_46 {κ : Kx} {G : GT} (C : Cx κ G yX8_goesDown cX8_goesDown none 9 rX8_goesDown) (q : Nat → Nat) (lx1 : Int) (lx2 : Int) (lx3 : Int) (lx4 : Int) (lx5 : Int) (lx6 : Int) (kx0 : Int → Ob → Option (Ob)) (v : (Ob)) (hk0 : ∀ (lx7 : Int) (M : Ob), kx0 lx7 M = some v → X κ G 9 (W_M G q M) 74 [(0, .ref (q 31)), (2, vi lx2), (3, vi lx3), (4, vi lx4), (5, vi lx5), (6, vi lx6), (7, vi lx7)] [] 0 0 (QM κ G (W_M G q v) none rX8_goesDown.cells rX8_goesDown.slots)) : ∀ (n : Nat) (lx7 : Int) (lx8 : Int) (M : Ob), lX8_goesDown_46 lx1 lx2 lx3 lx4 lx5 lx6 kx0 n lx7 lx8 M = some v → X κ G 9 (W_M G q M) 46 [(0, .ref (q 31)), (1, vi lx1), (2, vi lx2), (3, vi lx3), (4, vi lx4), (5, vi lx5), (6, vi lx6), (7, vi lx7), (8, vi lx8)] [] 0 0 (QM κ G (W_M G q v) none rX8_goesDown.cells rX8_goesDown.slots) := by
  intro n
  induction n with
  | zero => intro _ _ _ h; exact absurd h (fun h => nomatch h)
  | succ n ih =>
    intro lx7 lx8 M h
    rw [lX8_goesDown_46] at h
    refine X.iload C dX8_goesDown_46 8 rfl ?_
    refine X.aload_n C dX8_goesDown_48 rfl 0 rfl ?_
    refine X.get C dX8_goesDown_49 lay_X8 0 rfl rfl 1 (by decide) fl_X8_13 rfl rfl ?_
    refine X.bipush C dX8_goesDown_52 (by decide) ?_
    refine X.iald C h dX8_goesDown_54 1 rfl (fun h => ?_)
    refine X.icmp_ge (tgt := 74) C h dX8_goesDown_55 (by decide) (fun h => ?_) (fun h => ?_)
    · refine X.sub [0, 2, 3, 4, 5, 6, 7] rfl ?_
      exact hk0 lx7 M h
    refine X.iload C dX8_goesDown_58 7 rfl ?_
    refine X.aload_n C dX8_goesDown_60 rfl 0 rfl ?_
    refine X.iload_n C dX8_goesDown_61 rfl 1 rfl ?_
    refine X.callVi (q0 := 0) (As := [vi lx1]) (rest := [vi lx7]) (g := fun rr_6 => rr_6.1) (W1 := fun rr_6 => (W_M G q rr_6.2)) (ws2 := fun rr_6 => (W_M G q rr_6.2)) C h dX8_goesDown_62 ml_X8_299 mX8_days (fun v hv => kX8_days q M lx1 v hv) (fun rr_6 => ln_M_M_m_M (G := G) (q := q) (M := M) (NM := rr_6.2)) rfl rfl rfl rfl rfl rfl rfl rfl (fun rr_6 h => ?_)
    refine X.iadd C dX8_goesDown_65 ?_
    refine X.istoreN (lv2 := fun lx7_7 => [(7, vi lx7_7), (0, .ref (q 31)), (1, vi lx1), (2, vi lx2), (3, vi lx3), (4, vi lx4), (5, vi lx5), (6, vi lx6), (8, vi lx8)]) C h dX8_goesDown_66 (by decide) (fun _ => rfl) (fun lx7_7 h => ?_)
    refine X.iincN (lv2 := fun lx8_8 => [(8, vi lx8_8), (7, vi lx7_7), (0, .ref (q 31)), (1, vi lx1), (2, vi lx2), (3, vi lx3), (4, vi lx4), (5, vi lx5), (6, vi lx6)]) C h dX8_goesDown_68 8 rfl (by decide) (fun _ => rfl) (fun lx8_8 h => ?_)
    refine X.goto (tgt := 46) C dX8_goesDown_71 (by decide) ?_
    refine X.sub [2, 3, 4, 5, 6, 7, 8, 1, 0] rfl ?_
    exact ih lx7_7 lx8_8 rr_6.2 h
set_option maxHeartbeats 4000000 in
set_option maxRecDepth 100000 in
theorem xX8_goesDown_82 {κ : Kx} {G : GT} (C : Cx κ G yX8_goesDown cX8_goesDown none 9 rX8_goesDown) (q : Nat → Nat) (lx2 : Int) (lx3 : Int) (lx4 : Int) (lx5 : Int) (lx6 : Int) (kx0 : Int → Ob → Option (Ob)) (v : (Ob)) (hk0 : ∀ (lx7 : Int) (M : Ob), kx0 lx7 M = some v → X κ G 9 (W_M G q M) 102 [(0, .ref (q 31)), (2, vi lx2), (3, vi lx3), (4, vi lx4), (5, vi lx5), (6, vi lx6), (7, vi lx7)] [] 0 0 (QM κ G (W_M G q v) none rX8_goesDown.cells rX8_goesDown.slots)) : ∀ (n : Nat) (lx7 : Int) (M : Ob), lX8_goesDown_82 lx2 lx3 lx4 lx5 lx6 kx0 n lx7 M = some v → X κ G 9 (W_M G q M) 82 [(0, .ref (q 31)), (2, vi lx2), (3, vi lx3), (4, vi lx4), (5, vi lx5), (6, vi lx6), (7, vi lx7)] [] 0 0 (QM κ G (W_M G q v) none rX8_goesDown.cells rX8_goesDown.slots) := by
  intro n
  induction n with
  | zero => intro _ _ h; exact absurd h (fun h => nomatch h)
  | succ n ih =>
    intro lx7 M h
    rw [lX8_goesDown_82] at h
    refine X.aload_n C dX8_goesDown_82 rfl 0 rfl ?_
    refine X.callVi (q0 := 0) (As := []) (rest := []) (g := fun rr_12 => rr_12) (W1 := fun rr_12 => (W_M G q M)) (ws2 := fun rr_12 => (W_M G q M)) C h dX8_goesDown_83 ml_X8_313 mX8_lumpsUp (fun v hv => kX8_lumpsUp q M v hv) (fun rr_12 => ln_M_M_m_n (G := G) (q := q) (M := M)) rfl rfl rfl rfl rfl rfl rfl rfl (fun rr_12 h => ?_)
    refine X.if_le (tgt := 102) C h dX8_goesDown_86 (by decide) (fun h => ?_) (fun h => ?_)
    · refine X.sub [0, 1, 2, 3, 4, 5, 6] rfl ?_
      exact hk0 lx7 M h
    refine X.iload C dX8_goesDown_89 6 rfl ?_
    refine X.aload_n C dX8_goesDown_91 rfl 0 rfl ?_
    refine X.iconst C dX8_goesDown_92 ?_
    refine X.callVi (q0 := 0) (As := [vi 0]) (rest := [vi lx7]) (g := fun rr_13 => rr_13.1) (W1 := fun rr_13 => (W_M G q rr_13.2)) (ws2 := fun rr_13 => (W_M G q rr_13.2)) C h dX8_goesDown_93 ml_X8_285 mX8_beat (fun v hv => kX8_beat q M 0 v hv) (fun rr_13 => ln_M_M_m_M (G := G) (q := q) (M := M) (NM := rr_13.2)) rfl rfl rfl rfl rfl rfl rfl rfl (fun rr_13 h => ?_)
    refine X.iadd C dX8_goesDown_96 ?_
    refine X.istoreN (lv2 := fun lx7_14 => [(7, vi lx7_14), (0, .ref (q 31)), (2, vi lx2), (3, vi lx3), (4, vi lx4), (5, vi lx5), (6, vi lx6)]) C h dX8_goesDown_97 (by decide) (fun _ => rfl) (fun lx7_14 h => ?_)
    refine X.goto (tgt := 82) C dX8_goesDown_99 (by decide) ?_
    refine X.sub [1, 2, 3, 4, 5, 6, 0] rfl ?_
    exact ih lx7_14 rr_13.2 h
set_option maxHeartbeats 4000000 in
set_option maxRecDepth 100000 in
theorem kX8_goesDown {l : Launch} {G : GT} (q : Nat → Nat) (M : Ob) (lx1 : Int) (v : (Ob)) (h : fX8_goesDown M lx1 = some v) : CT l G yX8_goesDown cX8_goesDown 9 none rX8_goesDown [.ref (q 31), vi lx1] (W_M G q M) (W_M G q v) none := by
  unfold fX8_goesDown at h
  refine CT.of (by decide) (Nat.le_of_ble_eq_true rfl) rfl (fun κ _ C => ?_)
  refine X.aload_n C dX8_goesDown_0 rfl 0 rfl ?_
  refine X.get C dX8_goesDown_1 lay_X8 0 rfl rfl 1 (by decide) fl_X8_13 rfl rfl ?_
  refine X.bipush C dX8_goesDown_4 (by decide) ?_
  refine X.iald C h dX8_goesDown_6 1 rfl (fun h => ?_)
  refine X.istoreN_n (lv2 := fun lx2_1 => [(2, vi lx2_1), (0, .ref (q 31)), (1, vi lx1)]) C h dX8_goesDown_7 rfl (by decide) (fun _ => rfl) (fun lx2_1 h => ?_)
  refine X.aload_n C dX8_goesDown_8 rfl 1 rfl ?_
  refine X.get C dX8_goesDown_9 lay_X8 0 rfl rfl 1 (by decide) fl_X8_13 rfl rfl ?_
  refine X.bipush C dX8_goesDown_12 (by decide) ?_
  refine X.iald C h dX8_goesDown_14 1 rfl (fun h => ?_)
  refine X.istoreN_n (lv2 := fun lx3_2 => [(3, vi lx3_2), (2, vi lx2_1), (0, .ref (q 31)), (1, vi lx1)]) C h dX8_goesDown_15 rfl (by decide) (fun _ => rfl) (fun lx3_2 h => ?_)
  refine X.aload_n C dX8_goesDown_16 rfl 2 rfl ?_
  refine X.get C dX8_goesDown_17 lay_X8 0 rfl rfl 1 (by decide) fl_X8_13 rfl rfl ?_
  refine X.bipush C dX8_goesDown_20 (by decide) ?_
  refine X.iald C h dX8_goesDown_22 1 rfl (fun h => ?_)
  refine X.istoreN (lv2 := fun lx4_3 => [(4, vi lx4_3), (3, vi lx3_2), (2, vi lx2_1), (0, .ref (q 31)), (1, vi lx1)]) C h dX8_goesDown_23 (by decide) (fun _ => rfl) (fun lx4_3 h => ?_)
  refine X.aload_n C dX8_goesDown_25 rfl 3 rfl ?_
  refine X.callVi (q0 := 0) (As := []) (rest := []) (g := fun rr_4 => rr_4) (W1 := fun rr_4 => (W_M G q M)) (ws2 := fun rr_4 => (W_M G q M)) C h dX8_goesDown_26 ml_X8_366 mX8_wetOfTables (fun v hv => kX8_wetOfTables q M v hv) (fun rr_4 => ln_M_M_m_n (G := G) (q := q) (M := M)) rfl rfl rfl rfl rfl rfl rfl rfl (fun rr_4 h => ?_)
  refine X.istore (lv2 := [(5, vi rr_4), (4, vi lx4_3), (3, vi lx3_2), (2, vi lx2_1), (0, .ref (q 31)), (1, vi lx1)]) C dX8_goesDown_29 (by decide) rfl ?_
  refine X.aload_n C dX8_goesDown_31 rfl 4 rfl ?_
  refine X.get C dX8_goesDown_32 lay_X8 0 rfl rfl 1 (by decide) fl_X8_13 rfl rfl ?_
  refine X.bipush C dX8_goesDown_35 (by decide) ?_
  refine X.iald C h dX8_goesDown_37 1 rfl (fun h => ?_)
  refine X.istoreN (lv2 := fun lx6_5 => [(6, vi lx6_5), (5, vi rr_4), (4, vi lx4_3), (3, vi lx3_2), (2, vi lx2_1), (0, .ref (q 31)), (1, vi lx1)]) C h dX8_goesDown_38 (by decide) (fun _ => rfl) (fun lx6_5 h => ?_)
  refine X.iconst C dX8_goesDown_40 ?_
  refine X.istore (lv2 := [(7, vi 0), (6, vi lx6_5), (5, vi rr_4), (4, vi lx4_3), (3, vi lx3_2), (2, vi lx2_1), (0, .ref (q 31)), (1, vi lx1)]) C dX8_goesDown_41 (by decide) rfl ?_
  refine X.iconst C dX8_goesDown_43 ?_
  refine X.istore (lv2 := [(8, vi 0), (7, vi 0), (6, vi lx6_5), (5, vi rr_4), (4, vi lx4_3), (3, vi lx3_2), (2, vi lx2_1), (0, .ref (q 31)), (1, vi lx1)]) C dX8_goesDown_44 (by decide) rfl ?_
  refine X.sub [7, 8, 6, 5, 4, 3, 2, 1, 0] rfl ?_
  refine xX8_goesDown_46 C q lx1 lx2_1 lx3_2 lx4_3 rr_4 lx6_5 _ v (fun lx7_9 M_10 h => ?_) FU 0 0 M h
  · refine X.aload_n C dX8_goesDown_74 rfl 0 rfl ?_
    refine X.get C dX8_goesDown_75 lay_X8 0 rfl rfl 1 (by decide) fl_X8_13 rfl rfl ?_
    refine X.bipush C dX8_goesDown_78 (by decide) ?_
    refine X.iconst C dX8_goesDown_80 ?_
    refine X.iast (ws2 := (W_M G q (up2 M_10 1 (ix 23) 1))) C h dX8_goesDown_81 1 rfl rfl (fun h => ?_)
    refine X.nameS (ws := fun M_11 => (W_M G q M_11)) h (fun M_11 h => ?_)
    refine X.sub [0, 1, 2, 3, 4, 5, 6] rfl ?_
    refine xX8_goesDown_82 C q lx2_1 lx3_2 lx4_3 rr_4 lx6_5 _ v (fun lx7_15 M_16 h => ?_) FU lx7_9 M_11 h
    · refine X.aload_n C dX8_goesDown_102 rfl 0 rfl ?_
      refine X.get C dX8_goesDown_103 lay_X8 0 rfl rfl 16 (by decide) fl_X8_40 rfl rfl ?_
      refine X.iconst C dX8_goesDown_106 ?_
      refine X.aload_n C dX8_goesDown_107 rfl 0 rfl ?_
      refine X.get C dX8_goesDown_108 lay_X8 0 rfl rfl 1 (by decide) fl_X8_13 rfl rfl ?_
      refine X.bipush C dX8_goesDown_111 (by decide) ?_
      refine X.iald C h dX8_goesDown_113 1 rfl (fun h => ?_)
      refine X.iload_n C dX8_goesDown_114 rfl 1 rfl ?_
      refine X.isub C dX8_goesDown_115 ?_
      refine X.iast (ws2 := (W_M G q (up2 M_16 16 (ix 0) ((M_16 1 (ix 16)) - lx2_1)))) C h dX8_goesDown_116 8 rfl rfl (fun h => ?_)
      refine X.nameS (ws := fun M_17 => (W_M G q M_17)) h (fun M_17 h => ?_)
      refine X.aload_n C dX8_goesDown_117 rfl 0 rfl ?_
      refine X.get C dX8_goesDown_118 lay_X8 0 rfl rfl 16 (by decide) fl_X8_40 rfl rfl ?_
      refine X.iconst C dX8_goesDown_121 ?_
      refine X.aload_n C dX8_goesDown_122 rfl 0 rfl ?_
      refine X.get C dX8_goesDown_123 lay_X8 0 rfl rfl 1 (by decide) fl_X8_13 rfl rfl ?_
      refine X.bipush C dX8_goesDown_126 (by decide) ?_
      refine X.iald C h dX8_goesDown_128 1 rfl (fun h => ?_)
      refine X.iload_n C dX8_goesDown_129 rfl 2 rfl ?_
      refine X.isub C dX8_goesDown_130 ?_
      refine X.iast (ws2 := (W_M G q (up2 M_17 16 (ix 1) ((M_17 1 (ix 19)) - lx3_2)))) C h dX8_goesDown_131 8 rfl rfl (fun h => ?_)
      refine X.nameS (ws := fun M_18 => (W_M G q M_18)) h (fun M_18 h => ?_)
      refine X.aload_n C dX8_goesDown_132 rfl 0 rfl ?_
      refine X.get C dX8_goesDown_133 lay_X8 0 rfl rfl 16 (by decide) fl_X8_40 rfl rfl ?_
      refine X.iconst C dX8_goesDown_136 ?_
      refine X.aload_n C dX8_goesDown_137 rfl 0 rfl ?_
      refine X.get C dX8_goesDown_138 lay_X8 0 rfl rfl 1 (by decide) fl_X8_13 rfl rfl ?_
      refine X.bipush C dX8_goesDown_141 (by decide) ?_
      refine X.iald C h dX8_goesDown_143 1 rfl (fun h => ?_)
      refine X.iload C dX8_goesDown_144 3 rfl ?_
      refine X.isub C dX8_goesDown_146 ?_
      refine X.iast (ws2 := (W_M G q (up2 M_18 16 (ix 2) ((M_18 1 (ix 20)) - lx4_3)))) C h dX8_goesDown_147 8 rfl rfl (fun h => ?_)
      refine X.nameS (ws := fun M_19 => (W_M G q M_19)) h (fun M_19 h => ?_)
      refine X.aload_n C dX8_goesDown_148 rfl 0 rfl ?_
      refine X.get C dX8_goesDown_149 lay_X8 0 rfl rfl 16 (by decide) fl_X8_40 rfl rfl ?_
      refine X.iconst C dX8_goesDown_152 ?_
      refine X.aload_n C dX8_goesDown_153 rfl 0 rfl ?_
      refine X.callVi (q0 := 0) (As := []) (rest := [vi 3, .ref (q 16)]) (g := fun rr_20 => rr_20) (W1 := fun rr_20 => (W_M G q M_19)) (ws2 := fun rr_20 => (W_M G q M_19)) C h dX8_goesDown_154 ml_X8_310 mX8_overSet (fun v hv => kX8_overSet q M_19 v hv) (fun rr_20 => ln_M_M_m_n (G := G) (q := q) (M := M_19)) rfl rfl rfl rfl rfl rfl rfl rfl (fun rr_20 h => ?_)
      refine X.iast (ws2 := (W_M G q (up2 M_19 16 (ix 3) rr_20))) C h dX8_goesDown_157 8 rfl rfl (fun h => ?_)
      refine X.nameS (ws := fun M_21 => (W_M G q M_21)) h (fun M_21 h => ?_)
      refine X.aload_n C dX8_goesDown_158 rfl 0 rfl ?_
      refine X.get C dX8_goesDown_159 lay_X8 0 rfl rfl 16 (by decide) fl_X8_40 rfl rfl ?_
      refine X.iconst C dX8_goesDown_162 ?_
      refine X.aload_n C dX8_goesDown_163 rfl 0 rfl ?_
      refine X.callVi (q0 := 0) (As := []) (rest := [vi 4, .ref (q 16)]) (g := fun rr_22 => rr_22) (W1 := fun rr_22 => (W_M G q M_21)) (ws2 := fun rr_22 => (W_M G q M_21)) C h dX8_goesDown_164 ml_X8_366 mX8_wetOfTables (fun v hv => kX8_wetOfTables q M_21 v hv) (fun rr_22 => ln_M_M_m_n (G := G) (q := q) (M := M_21)) rfl rfl rfl rfl rfl rfl rfl rfl (fun rr_22 h => ?_)
      refine X.iload C dX8_goesDown_167 4 rfl ?_
      refine X.isub C dX8_goesDown_169 ?_
      refine X.iast (ws2 := (W_M G q (up2 M_21 16 (ix 4) (rr_22 - rr_4)))) C h dX8_goesDown_170 8 rfl rfl (fun h => ?_)
      refine X.nameS (ws := fun M_23 => (W_M G q M_23)) h (fun M_23 h => ?_)
      refine X.aload_n C dX8_goesDown_171 rfl 0 rfl ?_
      refine X.get C dX8_goesDown_172 lay_X8 0 rfl rfl 16 (by decide) fl_X8_40 rfl rfl ?_
      refine X.iconst C dX8_goesDown_175 ?_
      refine X.aload_n C dX8_goesDown_176 rfl 0 rfl ?_
      refine X.get C dX8_goesDown_177 lay_X8 0 rfl rfl 1 (by decide) fl_X8_13 rfl rfl ?_
      refine X.bipush C dX8_goesDown_180 (by decide) ?_
      refine X.iald C h dX8_goesDown_182 1 rfl (fun h => ?_)
      refine X.iload C dX8_goesDown_183 5 rfl ?_
      refine X.isub C dX8_goesDown_185 ?_
      refine X.iast (ws2 := (W_M G q (up2 M_23 16 (ix 5) ((M_23 1 (ix 18)) - lx6_5)))) C h dX8_goesDown_186 8 rfl rfl (fun h => ?_)
      refine X.nameS (ws := fun M_24 => (W_M G q M_24)) h (fun M_24 h => ?_)
      refine X.iload C dX8_goesDown_187 6 rfl ?_
      refine X.if_ge (tgt := 201) C h dX8_goesDown_189 (by decide) (fun h => ?_) (fun h => ?_)
      · cases h
        exact X.vret C dX8_goesDown_201 (Nat.zero_le _) (Nat.zero_le _)
      refine X.aload_n C dX8_goesDown_192 rfl 0 rfl ?_
      refine X.get C dX8_goesDown_193 lay_X8 0 rfl rfl 16 (by decide) fl_X8_40 rfl rfl ?_
      refine X.iconst C dX8_goesDown_196 ?_
      refine X.ldc_w (z := (-1000000)) C ct_X8_369 (by decide) dX8_goesDown_197 ?_
      refine X.iast (ws2 := (W_M G q (up2 M_24 16 (ix 0) (-1000000)))) C h dX8_goesDown_200 8 rfl rfl (fun h => ?_)
      refine X.nameS (ws := fun M_25 => (W_M G q M_25)) h (fun M_25 h => ?_)
      cases h
      exact X.vret C dX8_goesDown_201 (Nat.zero_le _) (Nat.zero_le _)
def rX8_thinksBy : Room := { frames := 7, cells := 0, slots := 0, locals := 181 }
theorem mX8_thinksBy : MV yX8_thinksBy cX8_thinksBy 4 none 3 := ⟨cd_X8_thinksBy, in_X8, ⟨⟨by decide, by decide⟩, by decide +kernel⟩, im_X8_thinksBy, se_X8_thinksBy⟩
set_option maxHeartbeats 4000000 in
set_option maxRecDepth 100000 in
theorem kX8_thinksBy {l : Launch} {G : GT} (q : Nat → Nat) (M : Ob) (lx1 : Int) (lx2 : Int) (lx3 : Int) (v : (Ob)) (h : fX8_thinksBy M lx1 lx2 lx3 = some v) : CT l G yX8_thinksBy cX8_thinksBy 4 none rX8_thinksBy [.ref (q 31), vi lx1, vi lx2, vi lx3] (W_M G q M) (W_M G q v) none := by
  unfold fX8_thinksBy at h
  refine CT.of (by decide) (Nat.le_of_ble_eq_true rfl) rfl (fun κ _ C => ?_)
  refine X.aload_n C dX8_thinksBy_0 rfl 0 rfl ?_
  refine X.callVv (q0 := 0) (As := []) (rest := []) (W1 := fun rr_1 => (W_M G q rr_1)) (ws2 := fun rr_1 => (W_M G q rr_1)) C h dX8_thinksBy_1 ml_X8_370 mX8_thinks (fun v hv => kX8_thinks q M v hv) (fun rr_1 => ln_M_M_m_M (G := G) (q := q) (M := M) (NM := rr_1)) rfl rfl rfl rfl rfl rfl rfl rfl (fun rr_1 h => ?_)
  refine X.aload_n C dX8_thinksBy_4 rfl 0 rfl ?_
  refine X.get C dX8_thinksBy_5 lay_X8 0 rfl rfl 1 (by decide) fl_X8_13 rfl rfl ?_
  refine X.iload_n C dX8_thinksBy_8 rfl 2 rfl ?_
  refine X.iload_n C dX8_thinksBy_9 rfl 3 rfl ?_
  refine X.iast (ws2 := (W_M G q (up2 rr_1 1 (ix lx2) lx3))) C h dX8_thinksBy_10 1 rfl rfl (fun h => ?_)
  refine X.nameS (ws := fun M_2 => (W_M G q M_2)) h (fun M_2 h => ?_)
  refine X.aload_n C dX8_thinksBy_11 rfl 0 rfl ?_
  refine X.iload_n C dX8_thinksBy_12 rfl 1 rfl ?_
  refine X.callVv (q0 := 0) (As := [vi lx1]) (rest := []) (W1 := fun rr_3 => (W_M G q rr_3)) (ws2 := fun rr_3 => (W_M G q rr_3)) C h dX8_thinksBy_13 ml_X8_373 mX8_goesDown (fun v hv => kX8_goesDown q M_2 lx1 v hv) (fun rr_3 => ln_M_M_m_M (G := G) (q := q) (M := M_2) (NM := rr_3)) rfl rfl rfl rfl rfl rfl rfl rfl (fun rr_3 h => ?_)
  refine X.aload_n C dX8_thinksBy_16 rfl 0 rfl ?_
  refine X.callVv (q0 := 0) (As := []) (rest := []) (W1 := fun rr_4 => (W_M G q rr_4)) (ws2 := fun rr_4 => (W_M G q rr_4)) C h dX8_thinksBy_17 ml_X8_376 mX8_wakes (fun v hv => kX8_wakes q rr_3 v hv) (fun rr_4 => ln_M_M_m_M (G := G) (q := q) (M := rr_3) (NM := rr_4)) rfl rfl rfl rfl rfl rfl rfl rfl (fun rr_4 h => ?_)
  cases h
  exact X.vret C dX8_thinksBy_20 (Nat.zero_le _) (Nat.zero_le _)
def rX8_isThought : Room := { frames := 3, cells := 0, slots := 0, locals := 68 }
theorem mX8_isThought : MV yX8_isThought cX8_isThought 3 (some .boolean) 2 := ⟨cd_X8_isThought, in_X8, ⟨⟨by decide, by decide⟩, by decide +kernel⟩, im_X8_isThought, se_X8_isThought⟩
set_option maxHeartbeats 4000000 in
set_option maxRecDepth 100000 in
theorem kX8_isThought {l : Launch} {G : GT} (q : Nat → Nat) (M : Ob) (lx1 : Int) (lx2 : Int) (v : (Int)) (h : fX8_isThought M lx1 lx2 = some v) : CT l G yX8_isThought cX8_isThought 3 (some .boolean) rX8_isThought [.ref (q 31), vi lx1, vi lx2] (W_M G q M) (W_M G q M) (some (vi v)) := by
  unfold fX8_isThought at h
  refine CT.of (by decide) (Nat.le_of_ble_eq_true rfl) rfl (fun κ _ C => ?_)
  refine X.aload_n C dX8_isThought_0 rfl 0 rfl ?_
  refine X.iload_n C dX8_isThought_1 rfl 1 rfl ?_
  refine X.callVi (q0 := 0) (As := [vi lx1]) (rest := []) (g := fun rr_1 => rr_1) (W1 := fun rr_1 => (W_M G q M)) (ws2 := fun rr_1 => (W_M G q M)) C h dX8_isThought_2 ml_X8_296 mX8_asks (fun v hv => kX8_asks q M lx1 v hv) (fun rr_1 => ln_M_M_m_n (G := G) (q := q) (M := M)) rfl rfl rfl rfl rfl rfl rfl rfl (fun rr_1 h => ?_)
  refine X.if_ne (tgt := 24) C h dX8_isThought_5 (by decide) (fun h => ?_) (fun h => ?_)
  · refine X.iconst C dX8_isThought_24 ?_
    cases h
    exact X.zret C rfl dX8_isThought_25 (Nat.zero_le _) (Nat.zero_le _)
  refine X.iload_n C dX8_isThought_8 rfl 2 rfl ?_
  refine X.i2l C dX8_isThought_9 ?_
  refine X.lconst (z := 0) C dX8_isThought_10 (by decide) ?_
  refine X.ldc2 (z := 5) C cl_X8_379 (by decide) dX8_isThought_11 ?_
  refine X.callSi (As := [vl (jwl lx2), vl 0, vl 5]) (rest := []) (g := fun rr_2 => rr_2) (W1 := fun rr_2 => W_0) (ws2 := fun rr_2 => (W_M G q M)) C h dX8_isThought_14 ml_X8_68 mX8_in (fun v hv => kX8_in (jwl lx2) 0 5 v hv) (fun rr_2 => ln_M_0__n (G := G) (q := q) (M := M)) rfl rfl rfl rfl rfl rfl (fun rr_2 h => ?_)
  refine X.if_eq (tgt := 24) C h dX8_isThought_17 (by decide) (fun h => ?_) (fun h => ?_)
  · refine X.iconst C dX8_isThought_24 ?_
    cases h
    exact X.zret C rfl dX8_isThought_25 (Nat.zero_le _) (Nat.zero_le _)
  refine X.iconst C dX8_isThought_20 ?_
  refine X.goto (tgt := 25) C dX8_isThought_21 (by decide) ?_
  cases h
  exact X.zret C rfl dX8_isThought_25 (Nat.zero_le _) (Nat.zero_le _)
def rX8_thought : Room := { frames := 8, cells := 0, slots := 0, locals := 204 }
theorem mX8_thought : MV yX8_thought cX8_thought 3 (some .int) 2 := ⟨cd_X8_thought, in_X8, ⟨⟨by decide, by decide⟩, by decide +kernel⟩, im_X8_thought, se_X8_thought⟩
set_option maxHeartbeats 4000000 in
set_option maxRecDepth 100000 in
theorem kX8_thought {l : Launch} {G : GT} (q : Nat → Nat) (M : Ob) (lx1 : Int) (lx2 : Int) (v : (Int × Ob)) (h : fX8_thought M lx1 lx2 = some v) : CT l G yX8_thought cX8_thought 3 (some .int) rX8_thought [.ref (q 31), vi lx1, vi lx2] (W_M G q M) (W_M G q v.2) (some (vi v.1)) := by
  unfold fX8_thought at h
  refine CT.of (by decide) (Nat.le_of_ble_eq_true rfl) rfl (fun κ _ C => ?_)
  refine X.aload_n C dX8_thought_0 rfl 0 rfl ?_
  refine X.iload_n C dX8_thought_1 rfl 1 rfl ?_
  refine X.iload_n C dX8_thought_2 rfl 2 rfl ?_
  refine X.callVi (q0 := 0) (As := [vi lx1, vi lx2]) (rest := []) (g := fun rr_1 => rr_1) (W1 := fun rr_1 => (W_M G q M)) (ws2 := fun rr_1 => (W_M G q M)) C h dX8_thought_3 ml_X8_381 mX8_isThought (fun v hv => kX8_isThought q M lx1 lx2 v hv) (fun rr_1 => ln_M_M_m_n (G := G) (q := q) (M := M)) rfl rfl rfl rfl rfl rfl rfl rfl (fun rr_1 h => ?_)
  refine X.if_ne (tgt := 13) C h dX8_thought_6 (by decide) (fun h => ?_) (fun h => ?_)
  · refine X.aload_n C dX8_thought_13 rfl 0 rfl ?_
    refine X.iload_n C dX8_thought_14 rfl 1 rfl ?_
    refine X.bipush C dX8_thought_15 (by decide) ?_
    refine X.aload_n C dX8_thought_17 rfl 0 rfl ?_
    refine X.get C dX8_thought_18 lay_X8 0 rfl rfl 1 (by decide) fl_X8_13 rfl rfl ?_
    refine X.bipush C dX8_thought_21 (by decide) ?_
    refine X.iald C h dX8_thought_23 1 rfl (fun h => ?_)
    refine X.callVv (q0 := 0) (As := [vi lx1, vi 8, vi (M 1 (ix 8))]) (rest := []) (W1 := fun rr_2 => (W_M G q rr_2)) (ws2 := fun rr_2 => (W_M G q rr_2)) C h dX8_thought_24 ml_X8_384 mX8_thinksBy (fun v hv => kX8_thinksBy q M lx1 8 (M 1 (ix 8)) v hv) (fun rr_2 => ln_M_M_m_M (G := G) (q := q) (M := M) (NM := rr_2)) rfl rfl rfl rfl rfl rfl rfl rfl (fun rr_2 h => ?_)
    refine X.aload_n C dX8_thought_27 rfl 0 rfl ?_
    refine X.get C dX8_thought_28 lay_X8 0 rfl rfl 16 (by decide) fl_X8_40 rfl rfl ?_
    refine X.iload_n C dX8_thought_31 rfl 2 rfl ?_
    refine X.iald C h dX8_thought_32 8 rfl (fun h => ?_)
    cases h
    exact X.iret C dX8_thought_33 (Nat.zero_le _) (Nat.zero_le _)
  refine X.ldc_w (z := (-1000000)) C ct_X8_369 (by decide) dX8_thought_9 ?_
  cases h
  exact X.iret C dX8_thought_12 (Nat.zero_le _) (Nat.zero_le _)
def rX8_lagged : Room := { frames := 8, cells := 0, slots := 0, locals := 204 }
theorem mX8_lagged : MV yX8_lagged cX8_lagged 4 (some .int) 3 := ⟨cd_X8_lagged, in_X8, ⟨⟨by decide, by decide⟩, by decide +kernel⟩, im_X8_lagged, se_X8_lagged⟩
set_option maxHeartbeats 4000000 in
set_option maxRecDepth 100000 in
theorem kX8_lagged {l : Launch} {G : GT} (q : Nat → Nat) (M : Ob) (lx1 : Int) (lx2 : Int) (lx3 : Int) (v : (Int × Ob)) (h : fX8_lagged M lx1 lx2 lx3 = some v) : CT l G yX8_lagged cX8_lagged 4 (some .int) rX8_lagged [.ref (q 31), vi lx1, vi lx2, vi lx3] (W_M G q M) (W_M G q v.2) (some (vi v.1)) := by
  unfold fX8_lagged at h
  refine CT.of (by decide) (Nat.le_of_ble_eq_true rfl) rfl (fun κ _ C => ?_)
  refine X.aload_n C dX8_lagged_0 rfl 0 rfl ?_
  refine X.iload_n C dX8_lagged_1 rfl 1 rfl ?_
  refine X.iload_n C dX8_lagged_2 rfl 3 rfl ?_
  refine X.callVi (q0 := 0) (As := [vi lx1, vi lx3]) (rest := []) (g := fun rr_1 => rr_1) (W1 := fun rr_1 => (W_M G q M)) (ws2 := fun rr_1 => (W_M G q M)) C h dX8_lagged_3 ml_X8_381 mX8_isThought (fun v hv => kX8_isThought q M lx1 lx3 v hv) (fun rr_1 => ln_M_M_m_n (G := G) (q := q) (M := M)) rfl rfl rfl rfl rfl rfl rfl rfl (fun rr_1 h => ?_)
  refine X.if_eq (tgt := 21) C h dX8_lagged_6 (by decide) (fun h => ?_) (fun h => ?_)
  · refine X.ldc_w (z := (-1000000)) C ct_X8_369 (by decide) dX8_lagged_21 ?_
    cases h
    exact X.iret C dX8_lagged_24 (Nat.zero_le _) (Nat.zero_le _)
  refine X.iload_n C dX8_lagged_9 rfl 2 rfl ?_
  refine X.i2l C dX8_lagged_10 ?_
  refine X.lconst (z := 0) C dX8_lagged_11 (by decide) ?_
  refine X.ldc2 (z := 20) C cl_X8_388 (by decide) dX8_lagged_12 ?_
  refine X.callSi (As := [vl (jwl lx2), vl 0, vl 20]) (rest := []) (g := fun rr_2 => rr_2) (W1 := fun rr_2 => W_0) (ws2 := fun rr_2 => (W_M G q M)) C h dX8_lagged_15 ml_X8_68 mX8_in (fun v hv => kX8_in (jwl lx2) 0 20 v hv) (fun rr_2 => ln_M_0__n (G := G) (q := q) (M := M)) rfl rfl rfl rfl rfl rfl (fun rr_2 h => ?_)
  refine X.if_ne (tgt := 25) C h dX8_lagged_18 (by decide) (fun h => ?_) (fun h => ?_)
  · refine X.aload_n C dX8_lagged_25 rfl 0 rfl ?_
    refine X.iload_n C dX8_lagged_26 rfl 1 rfl ?_
    refine X.bipush C dX8_lagged_27 (by decide) ?_
    refine X.iload_n C dX8_lagged_29 rfl 2 rfl ?_
    refine X.callVv (q0 := 0) (As := [vi lx1, vi 8, vi lx2]) (rest := []) (W1 := fun rr_3 => (W_M G q rr_3)) (ws2 := fun rr_3 => (W_M G q rr_3)) C h dX8_lagged_30 ml_X8_384 mX8_thinksBy (fun v hv => kX8_thinksBy q M lx1 8 lx2 v hv) (fun rr_3 => ln_M_M_m_M (G := G) (q := q) (M := M) (NM := rr_3)) rfl rfl rfl rfl rfl rfl rfl rfl (fun rr_3 h => ?_)
    refine X.aload_n C dX8_lagged_33 rfl 0 rfl ?_
    refine X.get C dX8_lagged_34 lay_X8 0 rfl rfl 16 (by decide) fl_X8_40 rfl rfl ?_
    refine X.iload_n C dX8_lagged_37 rfl 3 rfl ?_
    refine X.iald C h dX8_lagged_38 8 rfl (fun h => ?_)
    cases h
    exact X.iret C dX8_lagged_39 (Nat.zero_le _) (Nat.zero_le _)
  refine X.ldc_w (z := (-1000000)) C ct_X8_369 (by decide) dX8_lagged_21 ?_
  cases h
  exact X.iret C dX8_lagged_24 (Nat.zero_le _) (Nat.zero_le _)
def rX8_worth : Room := { frames := 8, cells := 0, slots := 0, locals := 204 }
theorem mX8_worth : MV yX8_worth cX8_worth 3 (some .int) 1 := ⟨cd_X8_worth, in_X8, ⟨⟨by decide, by decide⟩, by decide +kernel⟩, im_X8_worth, se_X8_worth⟩
set_option maxHeartbeats 4000000 in
set_option maxRecDepth 100000 in
theorem kX8_worth {l : Launch} {G : GT} (q : Nat → Nat) (M : Ob) (lx1 : Int) (v : (Int × Ob)) (h : fX8_worth M lx1 = some v) : CT l G yX8_worth cX8_worth 3 (some .int) rX8_worth [.ref (q 31), vi lx1] (W_M G q M) (W_M G q v.2) (some (vi v.1)) := by
  unfold fX8_worth at h
  refine CT.of (by decide) (Nat.le_of_ble_eq_true rfl) rfl (fun κ _ C => ?_)
  refine X.aload_n C dX8_worth_0 rfl 0 rfl ?_
  refine X.iload_n C dX8_worth_1 rfl 1 rfl ?_
  refine X.callVi (q0 := 0) (As := [vi lx1]) (rest := []) (g := fun rr_1 => rr_1) (W1 := fun rr_1 => (W_M G q M)) (ws2 := fun rr_1 => (W_M G q M)) C h dX8_worth_2 ml_X8_296 mX8_asks (fun v hv => kX8_asks q M lx1 v hv) (fun rr_1 => ln_M_M_m_n (G := G) (q := q) (M := M)) rfl rfl rfl rfl rfl rfl rfl rfl (fun rr_1 h => ?_)
  refine X.if_eq (tgt := 12) C h dX8_worth_5 (by decide) (fun h => ?_) (fun h => ?_)
  · refine X.aload_n C dX8_worth_12 rfl 0 rfl ?_
    refine X.iload_n C dX8_worth_13 rfl 1 rfl ?_
    refine X.bipush C dX8_worth_14 (by decide) ?_
    refine X.iconst C dX8_worth_16 ?_
    refine X.callVv (q0 := 0) (As := [vi lx1, vi 8, vi 0]) (rest := []) (W1 := fun rr_2 => (W_M G q rr_2)) (ws2 := fun rr_2 => (W_M G q rr_2)) C h dX8_worth_17 ml_X8_384 mX8_thinksBy (fun v hv => kX8_thinksBy q M lx1 8 0 v hv) (fun rr_2 => ln_M_M_m_M (G := G) (q := q) (M := M) (NM := rr_2)) rfl rfl rfl rfl rfl rfl rfl rfl (fun rr_2 h => ?_)
    refine X.aload_n C dX8_worth_20 rfl 0 rfl ?_
    refine X.get C dX8_worth_21 lay_X8 0 rfl rfl 16 (by decide) fl_X8_40 rfl rfl ?_
    refine X.iconst C dX8_worth_24 ?_
    refine X.iald C h dX8_worth_25 8 rfl (fun h => ?_)
    refine X.aload_n C dX8_worth_26 rfl 0 rfl ?_
    refine X.get C dX8_worth_27 lay_X8 0 rfl rfl 16 (by decide) fl_X8_40 rfl rfl ?_
    refine X.iconst C dX8_worth_30 ?_
    refine X.iald C h dX8_worth_31 8 rfl (fun h => ?_)
    refine X.isub C dX8_worth_32 ?_
    refine X.istoreN_n (lv2 := fun lx2_3 => [(2, vi lx2_3), (0, .ref (q 31)), (1, vi lx1)]) C h dX8_worth_33 rfl (by decide) (fun _ => rfl) (fun lx2_3 h => ?_)
    refine X.aload_n C dX8_worth_34 rfl 1 rfl ?_
    refine X.iload_n C dX8_worth_35 rfl 2 rfl ?_
    refine X.bipush C dX8_worth_36 (by decide) ?_
    refine X.aload_n C dX8_worth_38 rfl 1 rfl ?_
    refine X.get C dX8_worth_39 lay_X8 0 rfl rfl 1 (by decide) fl_X8_13 rfl rfl ?_
    refine X.bipush C dX8_worth_42 (by decide) ?_
    refine X.iald C h dX8_worth_44 1 rfl (fun h => ?_)
    refine X.callVv (q0 := 0) (As := [vi lx1, vi 8, vi (rr_2 1 (ix 8))]) (rest := []) (W1 := fun rr_4 => (W_M G q rr_4)) (ws2 := fun rr_4 => (W_M G q rr_4)) C h dX8_worth_45 ml_X8_384 mX8_thinksBy (fun v hv => kX8_thinksBy q rr_2 lx1 8 (rr_2 1 (ix 8)) v hv) (fun rr_4 => ln_M_M_m_M (G := G) (q := q) (M := rr_2) (NM := rr_4)) rfl rfl rfl rfl rfl rfl rfl rfl (fun rr_4 h => ?_)
    refine X.iload_n C dX8_worth_48 rfl 0 rfl ?_
    refine X.aload_n C dX8_worth_49 rfl 1 rfl ?_
    refine X.get C dX8_worth_50 lay_X8 0 rfl rfl 16 (by decide) fl_X8_40 rfl rfl ?_
    refine X.iconst C dX8_worth_53 ?_
    refine X.iald C h dX8_worth_54 8 rfl (fun h => ?_)
    refine X.aload_n C dX8_worth_55 rfl 1 rfl ?_
    refine X.get C dX8_worth_56 lay_X8 0 rfl rfl 16 (by decide) fl_X8_40 rfl rfl ?_
    refine X.iconst C dX8_worth_59 ?_
    refine X.iald C h dX8_worth_60 8 rfl (fun h => ?_)
    refine X.isub C dX8_worth_61 ?_
    refine X.isub C dX8_worth_62 ?_
    cases h
    exact X.iret C dX8_worth_63 (Nat.zero_le _) (Nat.zero_le _)
  refine X.ldc_w (z := (-1000000)) C ct_X8_369 (by decide) dX8_worth_8 ?_
  cases h
  exact X.iret C dX8_worth_11 (Nat.zero_le _) (Nat.zero_le _)
def rX8_two : Room := { frames := 8, cells := 0, slots := 0, locals := 204 }
theorem mX8_two : MV yX8_two cX8_two 4 (some .int) 3 := ⟨cd_X8_two, in_X8, ⟨⟨by decide, by decide⟩, by decide +kernel⟩, im_X8_two, se_X8_two⟩
set_option maxHeartbeats 4000000 in
set_option maxRecDepth 100000 in
theorem kX8_two {l : Launch} {G : GT} (q : Nat → Nat) (M : Ob) (lx1 : Int) (lx2 : Int) (lx3 : Int) (v : (Int × Ob)) (h : fX8_two M lx1 lx2 lx3 = some v) : CT l G yX8_two cX8_two 4 (some .int) rX8_two [.ref (q 31), vi lx1, vi lx2, vi lx3] (W_M G q M) (W_M G q v.2) (some (vi v.1)) := by
  unfold fX8_two at h
  refine CT.of (by decide) (Nat.le_of_ble_eq_true rfl) rfl (fun κ _ C => ?_)
  refine X.aload_n C dX8_two_0 rfl 0 rfl ?_
  refine X.iload_n C dX8_two_1 rfl 1 rfl ?_
  refine X.iload_n C dX8_two_2 rfl 3 rfl ?_
  refine X.callVi (q0 := 0) (As := [vi lx1, vi lx3]) (rest := []) (g := fun rr_1 => rr_1) (W1 := fun rr_1 => (W_M G q M)) (ws2 := fun rr_1 => (W_M G q M)) C h dX8_two_3 ml_X8_381 mX8_isThought (fun v hv => kX8_isThought q M lx1 lx3 v hv) (fun rr_1 => ln_M_M_m_n (G := G) (q := q) (M := M)) rfl rfl rfl rfl rfl rfl rfl rfl (fun rr_1 h => ?_)
  refine X.if_eq (tgt := 21) C h dX8_two_6 (by decide) (fun h => ?_) (fun h => ?_)
  · refine X.ldc_w (z := (-1000000)) C ct_X8_369 (by decide) dX8_two_21 ?_
    cases h
    exact X.iret C dX8_two_24 (Nat.zero_le _) (Nat.zero_le _)
  refine X.iload_n C dX8_two_9 rfl 2 rfl ?_
  refine X.i2l C dX8_two_10 ?_
  refine X.lconst (z := 0) C dX8_two_11 (by decide) ?_
  refine X.ldc2 (z := 20) C cl_X8_388 (by decide) dX8_two_12 ?_
  refine X.callSi (As := [vl (jwl lx2), vl 0, vl 20]) (rest := []) (g := fun rr_2 => rr_2) (W1 := fun rr_2 => W_0) (ws2 := fun rr_2 => (W_M G q M)) C h dX8_two_15 ml_X8_68 mX8_in (fun v hv => kX8_in (jwl lx2) 0 20 v hv) (fun rr_2 => ln_M_0__n (G := G) (q := q) (M := M)) rfl rfl rfl rfl rfl rfl (fun rr_2 h => ?_)
  refine X.if_ne (tgt := 25) C h dX8_two_18 (by decide) (fun h => ?_) (fun h => ?_)
  · refine X.aload_n C dX8_two_25 rfl 0 rfl ?_
    refine X.iload_n C dX8_two_26 rfl 1 rfl ?_
    refine X.bipush C dX8_two_27 (by decide) ?_
    refine X.iload_n C dX8_two_29 rfl 2 rfl ?_
    refine X.callVv (q0 := 0) (As := [vi lx1, vi 22, vi lx2]) (rest := []) (W1 := fun rr_3 => (W_M G q rr_3)) (ws2 := fun rr_3 => (W_M G q rr_3)) C h dX8_two_30 ml_X8_384 mX8_thinksBy (fun v hv => kX8_thinksBy q M lx1 22 lx2 v hv) (fun rr_3 => ln_M_M_m_M (G := G) (q := q) (M := M) (NM := rr_3)) rfl rfl rfl rfl rfl rfl rfl rfl (fun rr_3 h => ?_)
    refine X.aload_n C dX8_two_33 rfl 0 rfl ?_
    refine X.get C dX8_two_34 lay_X8 0 rfl rfl 16 (by decide) fl_X8_40 rfl rfl ?_
    refine X.iload_n C dX8_two_37 rfl 3 rfl ?_
    refine X.iald C h dX8_two_38 8 rfl (fun h => ?_)
    cases h
    exact X.iret C dX8_two_39 (Nat.zero_le _) (Nat.zero_le _)
  refine X.ldc_w (z := (-1000000)) C ct_X8_369 (by decide) dX8_two_21 ?_
  cases h
  exact X.iret C dX8_two_24 (Nat.zero_le _) (Nat.zero_le _)
def rX8_climbs : Room := { frames := 8, cells := 0, slots := 0, locals := 204 }
theorem mX8_climbs : MV yX8_climbs cX8_climbs 4 (some .int) 3 := ⟨cd_X8_climbs, in_X8, ⟨⟨by decide, by decide⟩, by decide +kernel⟩, im_X8_climbs, se_X8_climbs⟩
set_option maxHeartbeats 4000000 in
set_option maxRecDepth 100000 in
theorem kX8_climbs {l : Launch} {G : GT} (q : Nat → Nat) (M : Ob) (lx1 : Int) (lx2 : Int) (lx3 : Int) (v : (Int × Ob)) (h : fX8_climbs M lx1 lx2 lx3 = some v) : CT l G yX8_climbs cX8_climbs 4 (some .int) rX8_climbs [.ref (q 31), vi lx1, vi lx2, vi lx3] (W_M G q M) (W_M G q v.2) (some (vi v.1)) := by
  unfold fX8_climbs at h
  refine CT.of (by decide) (Nat.le_of_ble_eq_true rfl) rfl (fun κ _ C => ?_)
  refine X.aload_n C dX8_climbs_0 rfl 0 rfl ?_
  refine X.iload_n C dX8_climbs_1 rfl 1 rfl ?_
  refine X.iload_n C dX8_climbs_2 rfl 3 rfl ?_
  refine X.callVi (q0 := 0) (As := [vi lx1, vi lx3]) (rest := []) (g := fun rr_1 => rr_1) (W1 := fun rr_1 => (W_M G q M)) (ws2 := fun rr_1 => (W_M G q M)) C h dX8_climbs_3 ml_X8_381 mX8_isThought (fun v hv => kX8_isThought q M lx1 lx3 v hv) (fun rr_1 => ln_M_M_m_n (G := G) (q := q) (M := M)) rfl rfl rfl rfl rfl rfl rfl rfl (fun rr_1 h => ?_)
  refine X.if_eq (tgt := 21) C h dX8_climbs_6 (by decide) (fun h => ?_) (fun h => ?_)
  · refine X.ldc_w (z := (-1000000)) C ct_X8_369 (by decide) dX8_climbs_21 ?_
    cases h
    exact X.iret C dX8_climbs_24 (Nat.zero_le _) (Nat.zero_le _)
  refine X.iload_n C dX8_climbs_9 rfl 2 rfl ?_
  refine X.i2l C dX8_climbs_10 ?_
  refine X.lconst (z := 1) C dX8_climbs_11 (by decide) ?_
  refine X.ldc2 (z := 60) C cl_X8_214 (by decide) dX8_climbs_12 ?_
  refine X.callSi (As := [vl (jwl lx2), vl 1, vl 60]) (rest := []) (g := fun rr_2 => rr_2) (W1 := fun rr_2 => W_0) (ws2 := fun rr_2 => (W_M G q M)) C h dX8_climbs_15 ml_X8_68 mX8_in (fun v hv => kX8_in (jwl lx2) 1 60 v hv) (fun rr_2 => ln_M_0__n (G := G) (q := q) (M := M)) rfl rfl rfl rfl rfl rfl (fun rr_2 h => ?_)
  refine X.if_ne (tgt := 25) C h dX8_climbs_18 (by decide) (fun h => ?_) (fun h => ?_)
  · refine X.aload_n C dX8_climbs_25 rfl 0 rfl ?_
    refine X.iload_n C dX8_climbs_26 rfl 1 rfl ?_
    refine X.bipush C dX8_climbs_27 (by decide) ?_
    refine X.iload_n C dX8_climbs_29 rfl 2 rfl ?_
    refine X.callVv (q0 := 0) (As := [vi lx1, vi 9, vi lx2]) (rest := []) (W1 := fun rr_3 => (W_M G q rr_3)) (ws2 := fun rr_3 => (W_M G q rr_3)) C h dX8_climbs_30 ml_X8_384 mX8_thinksBy (fun v hv => kX8_thinksBy q M lx1 9 lx2 v hv) (fun rr_3 => ln_M_M_m_M (G := G) (q := q) (M := M) (NM := rr_3)) rfl rfl rfl rfl rfl rfl rfl rfl (fun rr_3 h => ?_)
    refine X.aload_n C dX8_climbs_33 rfl 0 rfl ?_
    refine X.get C dX8_climbs_34 lay_X8 0 rfl rfl 16 (by decide) fl_X8_40 rfl rfl ?_
    refine X.iload_n C dX8_climbs_37 rfl 3 rfl ?_
    refine X.iald C h dX8_climbs_38 8 rfl (fun h => ?_)
    cases h
    exact X.iret C dX8_climbs_39 (Nat.zero_le _) (Nat.zero_le _)
  refine X.ldc_w (z := (-1000000)) C ct_X8_369 (by decide) dX8_climbs_21 ?_
  cases h
  exact X.iret C dX8_climbs_24 (Nat.zero_le _) (Nat.zero_le _)
def rX8_most : Room := { frames := 7, cells := 0, slots := 0, locals := 181 }
theorem mX8_most : MV yX8_most cX8_most 7 (some .int) 2 := ⟨cd_X8_most, in_X8, ⟨⟨by decide, by decide⟩, by decide +kernel⟩, im_X8_most, se_X8_most⟩
set_option maxHeartbeats 4000000 in
set_option maxRecDepth 100000 in
theorem xX8_most_34 {κ : Kx} {G : GT} (C : Cx κ G yX8_most cX8_most (some .int) 7 rX8_most) (q : Nat → Nat) (lx1 : Int) (lx2 : Int) (lx4 : Int) (v : (Int × Ob)) : ∀ (n : Nat) (lx5 : Int) (M : Ob), lX8_most_34 lx1 lx2 lx4 n lx5 M = some v → X κ G 7 (W_M G q M) 34 [(0, .ref (q 31)), (1, vi lx1), (2, vi lx2), (4, vi lx4), (5, vi lx5)] [] 0 0 (QM κ G (W_M G q v.2) (some (vi v.1)) rX8_most.cells rX8_most.slots) := by
  intro n
  induction n with
  | zero => intro _ _ h; exact absurd h (fun h => nomatch h)
  | succ n ih =>
    intro lx5 M h
    rw [lX8_most_34] at h
    refine X.iload C dX8_most_34 4 rfl ?_
    refine X.if_lt (tgt := 95) C h dX8_most_36 (by decide) (fun h => ?_) (fun h => ?_)
    · refine X.iconst C dX8_most_95 ?_
      cases h
      exact X.iret C dX8_most_96 (Nat.zero_le _) (Nat.zero_le _)
    refine X.aload_n C dX8_most_39 rfl 0 rfl ?_
    refine X.callVv (q0 := 0) (As := []) (rest := []) (W1 := fun rr_4 => (W_M G q rr_4)) (ws2 := fun rr_4 => (W_M G q rr_4)) C h dX8_most_40 ml_X8_370 mX8_thinks (fun v hv => kX8_thinks q M v hv) (fun rr_4 => ln_M_M_m_M (G := G) (q := q) (M := M) (NM := rr_4)) rfl rfl rfl rfl rfl rfl rfl rfl (fun rr_4 h => ?_)
    refine X.aload_n C dX8_most_43 rfl 0 rfl ?_
    refine X.get C dX8_most_44 lay_X8 0 rfl rfl 1 (by decide) fl_X8_13 rfl rfl ?_
    refine X.bipush C dX8_most_47 (by decide) ?_
    refine X.iload C dX8_most_49 4 rfl ?_
    refine X.iast (ws2 := (W_M G q (up2 rr_4 1 (ix 6) lx5))) C h dX8_most_51 1 rfl rfl (fun h => ?_)
    refine X.nameS (ws := fun M_5 => (W_M G q M_5)) h (fun M_5 h => ?_)
    refine X.aload_n C dX8_most_52 rfl 0 rfl ?_
    refine X.iload_n C dX8_most_53 rfl 1 rfl ?_
    refine X.callVv (q0 := 0) (As := [vi lx1]) (rest := []) (W1 := fun rr_6 => (W_M G q rr_6)) (ws2 := fun rr_6 => (W_M G q rr_6)) C h dX8_most_54 ml_X8_373 mX8_goesDown (fun v hv => kX8_goesDown q M_5 lx1 v hv) (fun rr_6 => ln_M_M_m_M (G := G) (q := q) (M := M_5) (NM := rr_6)) rfl rfl rfl rfl rfl rfl rfl rfl (fun rr_6 h => ?_)
    refine X.aload_n C dX8_most_57 rfl 0 rfl ?_
    refine X.iload_n C dX8_most_58 rfl 2 rfl ?_
    refine X.callVi (q0 := 0) (As := [vi lx2]) (rest := []) (g := fun rr_7 => rr_7) (W1 := fun rr_7 => (W_M G q rr_6)) (ws2 := fun rr_7 => (W_M G q rr_6)) C h dX8_most_59 ml_X8_307 mX8_wetAt (fun v hv => kX8_wetAt q rr_6 lx2 v hv) (fun rr_7 => ln_M_M_m_n (G := G) (q := q) (M := rr_6)) rfl rfl rfl rfl rfl rfl rfl rfl (fun rr_7 h => ?_)
    refine X.istore (lv2 := [(6, vi rr_7), (0, .ref (q 31)), (1, vi lx1), (2, vi lx2), (4, vi lx4), (5, vi lx5)]) C dX8_most_62 (by decide) rfl ?_
    refine X.aload_n C dX8_most_64 rfl 1 rfl ?_
    refine X.callVv (q0 := 0) (As := []) (rest := []) (W1 := fun rr_8 => (W_M G q rr_8)) (ws2 := fun rr_8 => (W_M G q rr_8)) C h dX8_most_65 ml_X8_376 mX8_wakes (fun v hv => kX8_wakes q rr_6 v hv) (fun rr_8 => ln_M_M_m_M (G := G) (q := q) (M := rr_6) (NM := rr_8)) rfl rfl rfl rfl rfl rfl rfl rfl (fun rr_8 h => ?_)
    refine X.iload C dX8_most_68 0 rfl ?_
    refine X.aload_n C dX8_most_70 rfl 1 rfl ?_
    refine X.iload_n C dX8_most_71 rfl 3 rfl ?_
    refine X.iconst C dX8_most_72 ?_
    refine X.callVi (q0 := 0) (As := [vi lx2, vi 2]) (rest := [vi rr_7]) (g := fun rr_9 => rr_9) (W1 := fun rr_9 => (W_M G q rr_8)) (ws2 := fun rr_9 => (W_M G q rr_8)) C h dX8_most_73 ml_X8_72 mX8_ofTable (fun v hv => kX8_ofTable q rr_8 lx2 2 v hv) (fun rr_9 => ln_M_M_m_n (G := G) (q := q) (M := rr_8)) rfl rfl rfl rfl rfl rfl rfl rfl (fun rr_9 h => ?_)
    refine X.icmp_le (tgt := 86) C h dX8_most_76 (by decide) (fun h => ?_) (fun h => ?_)
    · refine X.iload C dX8_most_86 5 rfl ?_
      cases h
      exact X.iret C dX8_most_88 (Nat.zero_le _) (Nat.zero_le _)
    refine X.iload C dX8_most_79 0 rfl ?_
    refine X.iload C dX8_most_81 4 rfl ?_
    refine X.icmp_ne (tgt := 89) C h dX8_most_83 (by decide) (fun h => ?_) (fun h => ?_)
    · refine X.iincN (lv2 := fun lx5_10 => [(5, vi lx5_10), (6, vi rr_7), (0, .ref (q 31)), (1, vi lx1), (2, vi lx2), (4, vi lx4)]) C h dX8_most_89 5 rfl (by decide) (fun _ => rfl) (fun lx5_10 h => ?_)
      refine X.goto (tgt := 34) C dX8_most_92 (by decide) ?_
      refine X.sub [2, 3, 4, 5, 0] rfl ?_
      exact ih lx5_10 rr_8 h
    refine X.iload C dX8_most_86 5 rfl ?_
    cases h
    exact X.iret C dX8_most_88 (Nat.zero_le _) (Nat.zero_le _)
set_option maxHeartbeats 4000000 in
set_option maxRecDepth 100000 in
theorem kX8_most {l : Launch} {G : GT} (q : Nat → Nat) (M : Ob) (lx1 : Int) (lx2 : Int) (v : (Int × Ob)) (h : fX8_most M lx1 lx2 = some v) : CT l G yX8_most cX8_most 7 (some .int) rX8_most [.ref (q 31), vi lx1, vi lx2] (W_M G q M) (W_M G q v.2) (some (vi v.1)) := by
  unfold fX8_most at h
  refine CT.of (by decide) (Nat.le_of_ble_eq_true rfl) rfl (fun κ _ C => ?_)
  refine X.aload_n C dX8_most_0 rfl 0 rfl ?_
  refine X.iload_n C dX8_most_1 rfl 2 rfl ?_
  refine X.callVi (q0 := 0) (As := [vi lx2]) (rest := []) (g := fun rr_1 => rr_1) (W1 := fun rr_1 => (W_M G q M)) (ws2 := fun rr_1 => (W_M G q M)) C h dX8_most_2 ml_X8_302 mX8_isTable (fun v hv => kX8_isTable q M lx2 v hv) (fun rr_1 => ln_M_M_m_n (G := G) (q := q) (M := M)) rfl rfl rfl rfl rfl rfl rfl rfl (fun rr_1 h => ?_)
  refine X.if_ne (tgt := 11) C h dX8_most_5 (by decide) (fun h => ?_) (fun h => ?_)
  · refine X.aload_n C dX8_most_11 rfl 0 rfl ?_
    refine X.iload_n C dX8_most_12 rfl 1 rfl ?_
    refine X.callVi (q0 := 0) (As := [vi lx1]) (rest := []) (g := fun rr_2 => rr_2) (W1 := fun rr_2 => (W_M G q M)) (ws2 := fun rr_2 => (W_M G q M)) C h dX8_most_13 ml_X8_296 mX8_asks (fun v hv => kX8_asks q M lx1 v hv) (fun rr_2 => ln_M_M_m_n (G := G) (q := q) (M := M)) rfl rfl rfl rfl rfl rfl rfl rfl (fun rr_2 h => ?_)
    refine X.istore_n (lv2 := [(3, vi rr_2), (0, .ref (q 31)), (1, vi lx1), (2, vi lx2)]) C dX8_most_16 rfl (by decide) rfl ?_
    refine X.iload_n C dX8_most_17 rfl 0 rfl ?_
    refine X.if_ge (tgt := 23) C h dX8_most_18 (by decide) (fun h => ?_) (fun h => ?_)
    · refine X.aload_n C dX8_most_23 rfl 1 rfl ?_
      refine X.iload_n C dX8_most_24 rfl 3 rfl ?_
      refine X.callVi (q0 := 0) (As := [vi lx2]) (rest := []) (g := fun rr_3 => rr_3) (W1 := fun rr_3 => (W_M G q M)) (ws2 := fun rr_3 => (W_M G q M)) C h dX8_most_25 ml_X8_307 mX8_wetAt (fun v hv => kX8_wetAt q M lx2 v hv) (fun rr_3 => ln_M_M_m_n (G := G) (q := q) (M := M)) rfl rfl rfl rfl rfl rfl rfl rfl (fun rr_3 h => ?_)
      refine X.istore (lv2 := [(4, vi rr_3), (3, vi rr_2), (0, .ref (q 31)), (1, vi lx1), (2, vi lx2)]) C dX8_most_28 (by decide) rfl ?_
      refine X.bipush C dX8_most_30 (by decide) ?_
      refine X.istore (lv2 := [(5, vi 60), (4, vi rr_3), (3, vi rr_2), (0, .ref (q 31)), (1, vi lx1), (2, vi lx2)]) C dX8_most_32 (by decide) rfl ?_
      refine X.sub [3, 4, 5, 1, 0] rfl ?_
      refine xX8_most_34 C q lx1 lx2 rr_3 v FU 60 M h
    refine X.iload_n C dX8_most_21 rfl 0 rfl ?_
    cases h
    exact X.iret C dX8_most_22 (Nat.zero_le _) (Nat.zero_le _)
  refine X.bipush C dX8_most_8 (by decide) ?_
  cases h
  exact X.iret C dX8_most_10 (Nat.zero_le _) (Nat.zero_le _)
def rX8_rule : Room := { frames := 7, cells := 0, slots := 0, locals := 181 }
theorem mX8_rule : MV yX8_rule cX8_rule 7 (some .int) 1 := ⟨cd_X8_rule, in_X8, ⟨⟨by decide, by decide⟩, by decide +kernel⟩, im_X8_rule, se_X8_rule⟩
set_option maxHeartbeats 4000000 in
set_option maxRecDepth 100000 in
theorem xX8_rule_104 {κ : Kx} {G : GT} (C : Cx κ G yX8_rule cX8_rule (some .int) 7 rX8_rule) (q : Nat → Nat) (kc0 : Int → Int → Int → Ob → Option (Int × Ob)) (M : Ob) (lx1 : Int) (lx5 : Int) (lx6 : Int) (v : (Int × Ob)) (hc0 : ∀ (lx3 : Int) (lx4 : Int) (lx6 : Int) (M : Ob), kc0 lx3 lx4 lx6 M = some v → X κ G 7 (W_M G q M) 30 [(0, .ref (q 31)), (1, vi lx1), (3, vi lx3), (4, vi lx4), (5, vi lx5), (6, vi lx6)] [] 0 0 (QM κ G (W_M G q v.2) (some (vi v.1)) rX8_rule.cells rX8_rule.slots)) (h : jX8_rule_104 kc0 M lx1 lx5 lx6 = some v) : X κ G 7 (W_M G q M) 104 [(0, .ref (q 31)), (1, vi lx1), (5, vi lx5), (6, vi lx6)] [] 0 0 (QM κ G (W_M G q v.2) (some (vi v.1)) rX8_rule.cells rX8_rule.slots) := by
  unfold jX8_rule_104 at h
  refine X.bipush C dX8_rule_104 (by decide) ?_
  refine X.iload C dX8_rule_106 2 rfl ?_
  refine X.imul C dX8_rule_108 ?_
  refine X.iload C dX8_rule_109 3 rfl ?_
  refine X.iadd C dX8_rule_111 ?_
  refine X.istoreN_n (lv2 := fun lx3_9 => [(3, vi lx3_9), (0, .ref (q 31)), (1, vi lx1), (5, vi lx5), (6, vi lx6)]) C h dX8_rule_112 rfl (by decide) (fun _ => rfl) (fun lx3_9 h => ?_)
  refine X.aload_n C dX8_rule_113 rfl 1 rfl ?_
  refine X.get C dX8_rule_114 lay_X8 0 rfl rfl 16 (by decide) fl_X8_40 rfl rfl ?_
  refine X.iconst C dX8_rule_117 ?_
  refine X.iald C h dX8_rule_118 8 rfl (fun h => ?_)
  refine X.istoreN (lv2 := fun lx4_10 => [(4, vi lx4_10), (3, vi lx3_9), (0, .ref (q 31)), (1, vi lx1), (5, vi lx5), (6, vi lx6)]) C h dX8_rule_119 (by decide) (fun _ => rfl) (fun lx4_10 h => ?_)
  refine X.iincN (lv2 := fun lx6_11 => [(6, vi lx6_11), (4, vi lx4_10), (3, vi lx3_9), (0, .ref (q 31)), (1, vi lx1), (5, vi lx5)]) C h dX8_rule_121 5 rfl (by decide) (fun _ => rfl) (fun lx6_11 h => ?_)
  refine X.goto (tgt := 30) C dX8_rule_124 (by decide) ?_
  refine X.sub [3, 4, 2, 1, 5, 0] rfl ?_
  exact hc0 lx3_9 lx4_10 lx6_11 M h
set_option maxHeartbeats 4000000 in
set_option maxRecDepth 100000 in
theorem xX8_rule_30 {κ : Kx} {G : GT} (C : Cx κ G yX8_rule cX8_rule (some .int) 7 rX8_rule) (q : Nat → Nat) (lx1 : Int) (lx5 : Int) (kx0 : Int → Int → Ob → Option (Int × Ob)) (v : (Int × Ob)) (hk0 : ∀ (lx3 : Int) (lx4 : Int) (M : Ob), kx0 lx3 lx4 M = some v → X κ G 7 (W_M G q M) 127 [(0, .ref (q 31)), (1, vi lx1), (3, vi lx3), (4, vi lx4), (5, vi lx5)] [] 0 0 (QM κ G (W_M G q v.2) (some (vi v.1)) rX8_rule.cells rX8_rule.slots)) : ∀ (n : Nat) (lx3 : Int) (lx4 : Int) (lx6 : Int) (M : Ob), lX8_rule_30 lx1 lx5 kx0 n lx3 lx4 lx6 M = some v → X κ G 7 (W_M G q M) 30 [(0, .ref (q 31)), (1, vi lx1), (3, vi lx3), (4, vi lx4), (5, vi lx5), (6, vi lx6)] [] 0 0 (QM κ G (W_M G q v.2) (some (vi v.1)) rX8_rule.cells rX8_rule.slots) := by
  intro n
  induction n with
  | zero => intro _ _ _ _ h; exact absurd h (fun h => nomatch h)
  | succ n ih =>
    intro lx3 lx4 lx6 M h
    rw [lX8_rule_30] at h
    refine X.iload C dX8_rule_30 5 rfl ?_
    refine X.bipush C dX8_rule_32 (by decide) ?_
    refine X.icmp_gt (tgt := 127) C h dX8_rule_34 (by decide) (fun h => ?_) (fun h => ?_)
    · refine X.sub [0, 1, 2, 3, 4] rfl ?_
      exact hk0 lx3 lx4 M h
    refine X.aload_n C dX8_rule_37 rfl 0 rfl ?_
    refine X.callVv (q0 := 0) (As := []) (rest := []) (W1 := fun rr_2 => (W_M G q rr_2)) (ws2 := fun rr_2 => (W_M G q rr_2)) C h dX8_rule_38 ml_X8_370 mX8_thinks (fun v hv => kX8_thinks q M v hv) (fun rr_2 => ln_M_M_m_M (G := G) (q := q) (M := M) (NM := rr_2)) rfl rfl rfl rfl rfl rfl rfl rfl (fun rr_2 h => ?_)
    refine X.aload_n C dX8_rule_41 rfl 0 rfl ?_
    refine X.get C dX8_rule_42 lay_X8 0 rfl rfl 1 (by decide) fl_X8_13 rfl rfl ?_
    refine X.bipush C dX8_rule_45 (by decide) ?_
    refine X.iconst C dX8_rule_47 ?_
    refine X.iast (ws2 := (W_M G q (up2 rr_2 1 (ix 12) 1))) C h dX8_rule_48 1 rfl rfl (fun h => ?_)
    refine X.nameS (ws := fun M_3 => (W_M G q M_3)) h (fun M_3 h => ?_)
    refine X.aload_n C dX8_rule_49 rfl 0 rfl ?_
    refine X.get C dX8_rule_50 lay_X8 0 rfl rfl 1 (by decide) fl_X8_13 rfl rfl ?_
    refine X.bipush C dX8_rule_53 (by decide) ?_
    refine X.iload C dX8_rule_55 4 rfl ?_
    refine X.iast (ws2 := (W_M G q (up2 M_3 1 (ix 59) lx5))) C h dX8_rule_57 1 rfl rfl (fun h => ?_)
    refine X.nameS (ws := fun M_4 => (W_M G q M_4)) h (fun M_4 h => ?_)
    refine X.aload_n C dX8_rule_58 rfl 0 rfl ?_
    refine X.get C dX8_rule_59 lay_X8 0 rfl rfl 1 (by decide) fl_X8_13 rfl rfl ?_
    refine X.bipush C dX8_rule_62 (by decide) ?_
    refine X.iload C dX8_rule_64 5 rfl ?_
    refine X.iast (ws2 := (W_M G q (up2 M_4 1 (ix 60) lx6))) C h dX8_rule_66 1 rfl rfl (fun h => ?_)
    refine X.nameS (ws := fun M_5 => (W_M G q M_5)) h (fun M_5 h => ?_)
    refine X.aload_n C dX8_rule_67 rfl 0 rfl ?_
    refine X.iload_n C dX8_rule_68 rfl 1 rfl ?_
    refine X.callVv (q0 := 0) (As := [vi lx1]) (rest := []) (W1 := fun rr_6 => (W_M G q rr_6)) (ws2 := fun rr_6 => (W_M G q rr_6)) C h dX8_rule_69 ml_X8_373 mX8_goesDown (fun v hv => kX8_goesDown q M_5 lx1 v hv) (fun rr_6 => ln_M_M_m_M (G := G) (q := q) (M := M_5) (NM := rr_6)) rfl rfl rfl rfl rfl rfl rfl rfl (fun rr_6 h => ?_)
    refine X.aload_n C dX8_rule_72 rfl 0 rfl ?_
    refine X.callVv (q0 := 0) (As := []) (rest := []) (W1 := fun rr_7 => (W_M G q rr_7)) (ws2 := fun rr_7 => (W_M G q rr_7)) C h dX8_rule_73 ml_X8_376 mX8_wakes (fun v hv => kX8_wakes q rr_6 v hv) (fun rr_7 => ln_M_M_m_M (G := G) (q := q) (M := rr_6) (NM := rr_7)) rfl rfl rfl rfl rfl rfl rfl rfl (fun rr_7 h => ?_)
    refine X.aload_n C dX8_rule_76 rfl 0 rfl ?_
    refine X.get C dX8_rule_77 lay_X8 0 rfl rfl 16 (by decide) fl_X8_40 rfl rfl ?_
    refine X.iconst C dX8_rule_80 ?_
    refine X.iald C h dX8_rule_81 8 rfl (fun h => ?_)
    refine X.if_ne (tgt := 121) C h dX8_rule_82 (by decide) (fun h => ?_) (fun h => ?_)
    · refine X.iincN (lv2 := fun lx6_8 => [(6, vi lx6_8), (0, .ref (q 31)), (1, vi lx1), (3, vi lx3), (4, vi lx4), (5, vi lx5)]) C h dX8_rule_121 5 rfl (by decide) (fun _ => rfl) (fun lx6_8 h => ?_)
      refine X.goto (tgt := 30) C dX8_rule_124 (by decide) ?_
      refine X.sub [1, 2, 3, 4, 5, 0] rfl ?_
      exact ih lx3 lx4 lx6_8 rr_7 h
    refine X.iload_n C dX8_rule_85 rfl 2 rfl ?_
    refine X.iconst C dX8_rule_86 ?_
    refine X.icmp_eq (tgt := 104) C h dX8_rule_87 (by decide) (fun h => ?_) (fun h => ?_)
    · refine X.sub [0, 1, 4, 5] rfl ?_
      exact xX8_rule_104 C q (lX8_rule_30 lx1 lx5 kx0 n) rr_7 lx1 lx5 lx6 v ih h
    refine X.aload_n C dX8_rule_90 rfl 0 rfl ?_
    refine X.get C dX8_rule_91 lay_X8 0 rfl rfl 16 (by decide) fl_X8_40 rfl rfl ?_
    refine X.iconst C dX8_rule_94 ?_
    refine X.iald C h dX8_rule_95 8 rfl (fun h => ?_)
    refine X.iload C dX8_rule_96 3 rfl ?_
    refine X.icmp_gt (tgt := 104) C h dX8_rule_98 (by decide) (fun h => ?_) (fun h => ?_)
    · refine X.sub [0, 1, 4, 5] rfl ?_
      exact xX8_rule_104 C q (lX8_rule_30 lx1 lx5 kx0 n) rr_7 lx1 lx5 lx6 v ih h
    refine X.goto (tgt := 121) C dX8_rule_101 (by decide) ?_
    refine X.iincN (lv2 := fun lx6_12 => [(6, vi lx6_12), (0, .ref (q 31)), (1, vi lx1), (3, vi lx3), (4, vi lx4), (5, vi lx5)]) C h dX8_rule_121 5 rfl (by decide) (fun _ => rfl) (fun lx6_12 h => ?_)
    refine X.goto (tgt := 30) C dX8_rule_124 (by decide) ?_
    refine X.sub [1, 2, 3, 4, 5, 0] rfl ?_
    exact ih lx3 lx4 lx6_12 rr_7 h
set_option maxHeartbeats 4000000 in
set_option maxRecDepth 100000 in
theorem xX8_rule_20 {κ : Kx} {G : GT} (C : Cx κ G yX8_rule cX8_rule (some .int) 7 rX8_rule) (q : Nat → Nat) (lx1 : Int) (v : (Int × Ob)) : ∀ (n : Nat) (lx3 : Int) (lx4 : Int) (lx5 : Int) (M : Ob), lX8_rule_20 lx1 n lx3 lx4 lx5 M = some v → X κ G 7 (W_M G q M) 20 [(0, .ref (q 31)), (1, vi lx1), (3, vi lx3), (4, vi lx4), (5, vi lx5)] [] 0 0 (QM κ G (W_M G q v.2) (some (vi v.1)) rX8_rule.cells rX8_rule.slots) := by
  intro n
  induction n with
  | zero => intro _ _ _ _ h; exact absurd h (fun h => nomatch h)
  | succ n ih =>
    intro lx3 lx4 lx5 M h
    rw [lX8_rule_20] at h
    refine X.iload C dX8_rule_20 4 rfl ?_
    refine X.bipush C dX8_rule_22 (by decide) ?_
    refine X.icmp_ge (tgt := 133) C h dX8_rule_24 (by decide) (fun h => ?_) (fun h => ?_)
    · refine X.iload_n C dX8_rule_133 rfl 2 rfl ?_
      cases h
      exact X.iret C dX8_rule_134 (Nat.zero_le _) (Nat.zero_le _)
    refine X.iconst C dX8_rule_27 ?_
    refine X.istore (lv2 := [(6, vi 0), (0, .ref (q 31)), (1, vi lx1), (3, vi lx3), (4, vi lx4), (5, vi lx5)]) C dX8_rule_28 (by decide) rfl ?_
    refine X.sub [1, 2, 3, 4, 5, 0] rfl ?_
    refine xX8_rule_30 C q lx1 lx5 _ v (fun lx3_13 lx4_14 M_15 h => ?_) FU lx3 lx4 0 M h
    · refine X.iincN (lv2 := fun lx5_16 => [(5, vi lx5_16), (0, .ref (q 31)), (1, vi lx1), (3, vi lx3_13), (4, vi lx4_14)]) C h dX8_rule_127 4 rfl (by decide) (fun _ => rfl) (fun lx5_16 h => ?_)
      refine X.goto (tgt := 20) C dX8_rule_130 (by decide) ?_
      refine X.sub [1, 2, 3, 4, 0] rfl ?_
      exact ih lx3_13 lx4_14 lx5_16 M_15 h
set_option maxHeartbeats 4000000 in
set_option maxRecDepth 100000 in
theorem kX8_rule {l : Launch} {G : GT} (q : Nat → Nat) (M : Ob) (lx1 : Int) (v : (Int × Ob)) (h : fX8_rule M lx1 = some v) : CT l G yX8_rule cX8_rule 7 (some .int) rX8_rule [.ref (q 31), vi lx1] (W_M G q M) (W_M G q v.2) (some (vi v.1)) := by
  unfold fX8_rule at h
  refine CT.of (by decide) (Nat.le_of_ble_eq_true rfl) rfl (fun κ _ C => ?_)
  refine X.aload_n C dX8_rule_0 rfl 0 rfl ?_
  refine X.iload_n C dX8_rule_1 rfl 1 rfl ?_
  refine X.callVi (q0 := 0) (As := [vi lx1]) (rest := []) (g := fun rr_1 => rr_1) (W1 := fun rr_1 => (W_M G q M)) (ws2 := fun rr_1 => (W_M G q M)) C h dX8_rule_2 ml_X8_296 mX8_asks (fun v hv => kX8_asks q M lx1 v hv) (fun rr_1 => ln_M_M_m_n (G := G) (q := q) (M := M)) rfl rfl rfl rfl rfl rfl rfl rfl (fun rr_1 h => ?_)
  refine X.istore_n (lv2 := [(2, vi rr_1), (0, .ref (q 31)), (1, vi lx1)]) C dX8_rule_5 rfl (by decide) rfl ?_
  refine X.iload_n C dX8_rule_6 rfl 0 rfl ?_
  refine X.if_ge (tgt := 12) C h dX8_rule_7 (by decide) (fun h => ?_) (fun h => ?_)
  · refine X.iconst C dX8_rule_12 ?_
    refine X.istore_n (lv2 := [(3, vi (-1)), (2, vi rr_1), (0, .ref (q 31)), (1, vi lx1)]) C dX8_rule_13 rfl (by decide) rfl ?_
    refine X.iconst C dX8_rule_14 ?_
    refine X.istore (lv2 := [(4, vi 0), (3, vi (-1)), (2, vi rr_1), (0, .ref (q 31)), (1, vi lx1)]) C dX8_rule_15 (by decide) rfl ?_
    refine X.iconst C dX8_rule_17 ?_
    refine X.istore (lv2 := [(5, vi 0), (4, vi 0), (3, vi (-1)), (2, vi rr_1), (0, .ref (q 31)), (1, vi lx1)]) C dX8_rule_18 (by decide) rfl ?_
    refine X.sub [4, 5, 2, 1, 0] rfl ?_
    refine xX8_rule_20 C q lx1 v FU (-1) 0 0 M h
  refine X.iload_n C dX8_rule_10 rfl 0 rfl ?_
  cases h
  exact X.iret C dX8_rule_11 (Nat.zero_le _) (Nat.zero_le _)
def rX8_half : Room := { frames := 8, cells := 0, slots := 0, locals := 204 }
theorem mX8_half : MV yX8_half cX8_half 5 (some .int) 2 := ⟨cd_X8_half, in_X8, ⟨⟨by decide, by decide⟩, by decide +kernel⟩, im_X8_half, se_X8_half⟩
set_option maxHeartbeats 4000000 in
set_option maxRecDepth 100000 in
theorem xX8_half_30 {κ : Kx} {G : GT} (C : Cx κ G yX8_half cX8_half (some .int) 5 rX8_half) (q : Nat → Nat) (lx1 : Int) (lx2 : Int) (v : (Int × Ob)) : ∀ (n : Nat) (lx4 : Int) (M : Ob), lX8_half_30 lx1 lx2 n lx4 M = some v → X κ G 5 (W_M G q M) 30 [(0, .ref (q 31)), (1, vi lx1), (2, vi lx2), (4, vi lx4)] [] 0 0 (QM κ G (W_M G q v.2) (some (vi v.1)) rX8_half.cells rX8_half.slots) := by
  intro n
  induction n with
  | zero => intro _ _ h; exact absurd h (fun h => nomatch h)
  | succ n ih =>
    intro lx4 M h
    rw [lX8_half_30] at h
    refine X.iload C dX8_half_30 3 rfl ?_
    refine X.bipush C dX8_half_32 (by decide) ?_
    refine X.icmp_ge (tgt := 71) C h dX8_half_34 (by decide) (fun h => ?_) (fun h => ?_)
    · refine X.iconst C dX8_half_71 ?_
      cases h
      exact X.iret C dX8_half_72 (Nat.zero_le _) (Nat.zero_le _)
    refine X.aload_n C dX8_half_37 rfl 0 rfl ?_
    refine X.iload_n C dX8_half_38 rfl 1 rfl ?_
    refine X.iconst C dX8_half_39 ?_
    refine X.iload C dX8_half_40 3 rfl ?_
    refine X.callVv (q0 := 0) (As := [vi lx1, vi 5, vi lx4]) (rest := []) (W1 := fun rr_3 => (W_M G q rr_3)) (ws2 := fun rr_3 => (W_M G q rr_3)) C h dX8_half_42 ml_X8_384 mX8_thinksBy (fun v hv => kX8_thinksBy q M lx1 5 lx4 v hv) (fun rr_3 => ln_M_M_m_M (G := G) (q := q) (M := M) (NM := rr_3)) rfl rfl rfl rfl rfl rfl rfl rfl (fun rr_3 h => ?_)
    refine X.aload_n C dX8_half_45 rfl 0 rfl ?_
    refine X.get C dX8_half_46 lay_X8 0 rfl rfl 16 (by decide) fl_X8_40 rfl rfl ?_
    refine X.iconst C dX8_half_49 ?_
    refine X.iald C h dX8_half_50 8 rfl (fun h => ?_)
    refine X.aload_n C dX8_half_51 rfl 0 rfl ?_
    refine X.get C dX8_half_52 lay_X8 0 rfl rfl 16 (by decide) fl_X8_40 rfl rfl ?_
    refine X.iconst C dX8_half_55 ?_
    refine X.iald C h dX8_half_56 8 rfl (fun h => ?_)
    refine X.iadd C dX8_half_57 ?_
    refine X.iload_n C dX8_half_58 rfl 2 rfl ?_
    refine X.icmp_gt (tgt := 65) C h dX8_half_59 (by decide) (fun h => ?_) (fun h => ?_)
    · refine X.iincN (lv2 := fun lx4_4 => [(4, vi lx4_4), (0, .ref (q 31)), (1, vi lx1), (2, vi lx2)]) C h dX8_half_65 3 rfl (by decide) (fun _ => rfl) (fun lx4_4 h => ?_)
      refine X.goto (tgt := 30) C dX8_half_68 (by decide) ?_
      refine X.sub [1, 2, 3, 0] rfl ?_
      exact ih lx4_4 rr_3 h
    refine X.iload C dX8_half_62 3 rfl ?_
    cases h
    exact X.iret C dX8_half_64 (Nat.zero_le _) (Nat.zero_le _)
set_option maxHeartbeats 4000000 in
set_option maxRecDepth 100000 in
theorem kX8_half {l : Launch} {G : GT} (q : Nat → Nat) (M : Ob) (lx1 : Int) (lx2 : Int) (v : (Int × Ob)) (h : fX8_half M lx1 lx2 = some v) : CT l G yX8_half cX8_half 5 (some .int) rX8_half [.ref (q 31), vi lx1, vi lx2] (W_M G q M) (W_M G q v.2) (some (vi v.1)) := by
  unfold fX8_half at h
  refine CT.of (by decide) (Nat.le_of_ble_eq_true rfl) rfl (fun κ _ C => ?_)
  refine X.iload_n C dX8_half_0 rfl 2 rfl ?_
  refine X.i2l C dX8_half_1 ?_
  refine X.lconst (z := 0) C dX8_half_2 (by decide) ?_
  refine X.ldc2 (z := 9999) C cl_X8_390 (by decide) dX8_half_3 ?_
  refine X.callSi (As := [vl (jwl lx2), vl 0, vl 9999]) (rest := []) (g := fun rr_1 => rr_1) (W1 := fun rr_1 => W_0) (ws2 := fun rr_1 => (W_M G q M)) C h dX8_half_6 ml_X8_68 mX8_in (fun v hv => kX8_in (jwl lx2) 0 9999 v hv) (fun rr_1 => ln_M_0__n (G := G) (q := q) (M := M)) rfl rfl rfl rfl rfl rfl (fun rr_1 h => ?_)
  refine X.if_ne (tgt := 15) C h dX8_half_9 (by decide) (fun h => ?_) (fun h => ?_)
  · refine X.aload_n C dX8_half_15 rfl 0 rfl ?_
    refine X.iload_n C dX8_half_16 rfl 1 rfl ?_
    refine X.callVi (q0 := 0) (As := [vi lx1]) (rest := []) (g := fun rr_2 => rr_2) (W1 := fun rr_2 => (W_M G q M)) (ws2 := fun rr_2 => (W_M G q M)) C h dX8_half_17 ml_X8_296 mX8_asks (fun v hv => kX8_asks q M lx1 v hv) (fun rr_2 => ln_M_M_m_n (G := G) (q := q) (M := M)) rfl rfl rfl rfl rfl rfl rfl rfl (fun rr_2 h => ?_)
    refine X.istore_n (lv2 := [(3, vi rr_2), (0, .ref (q 31)), (1, vi lx1), (2, vi lx2)]) C dX8_half_20 rfl (by decide) rfl ?_
    refine X.iload_n C dX8_half_21 rfl 0 rfl ?_
    refine X.if_ge (tgt := 27) C h dX8_half_22 (by decide) (fun h => ?_) (fun h => ?_)
    · refine X.iconst C dX8_half_27 ?_
      refine X.istore (lv2 := [(4, vi 0), (3, vi rr_2), (0, .ref (q 31)), (1, vi lx1), (2, vi lx2)]) C dX8_half_28 (by decide) rfl ?_
      refine X.sub [2, 3, 4, 0] rfl ?_
      refine xX8_half_30 C q lx1 lx2 v FU 0 M h
    refine X.iload_n C dX8_half_25 rfl 0 rfl ?_
    cases h
    exact X.iret C dX8_half_26 (Nat.zero_le _) (Nat.zero_le _)
  refine X.bipush C dX8_half_12 (by decide) ?_
  cases h
  exact X.iret C dX8_half_14 (Nat.zero_le _) (Nat.zero_le _)
def rX8_wear : Room := { frames := 5, cells := 0, slots := 0, locals := 130 }
theorem mX8_wear : MV yX8_wear cX8_wear 7 (some .int) 1 := ⟨cd_X8_wear, in_X8, ⟨⟨by decide, by decide⟩, by decide +kernel⟩, im_X8_wear, se_X8_wear⟩
set_option maxHeartbeats 4000000 in
set_option maxRecDepth 100000 in
theorem xX8_wear_21 {κ : Kx} {G : GT} (C : Cx κ G yX8_wear cX8_wear (some .int) 7 rX8_wear) (q : Nat → Nat) (lx1 : Int) (kx0 : Int → Ob → Option (Int × Ob)) (v : (Int × Ob)) (hk0 : ∀ (lx3 : Int) (M : Ob), kx0 lx3 M = some v → X κ G 7 (W_M G q M) 85 [(0, .ref (q 31)), (3, vi lx3)] [] 0 0 (QM κ G (W_M G q v.2) (some (vi v.1)) rX8_wear.cells rX8_wear.slots)) : ∀ (n : Nat) (lx3 : Int) (lx4 : Int) (M : Ob), lX8_wear_21 lx1 kx0 n lx3 lx4 M = some v → X κ G 7 (W_M G q M) 21 [(0, .ref (q 31)), (1, vi lx1), (3, vi lx3), (4, vi lx4)] [] 0 0 (QM κ G (W_M G q v.2) (some (vi v.1)) rX8_wear.cells rX8_wear.slots) := by
  intro n
  induction n with
  | zero => intro _ _ _ h; exact absurd h (fun h => nomatch h)
  | succ n ih =>
    intro lx3 lx4 M h
    rw [lX8_wear_21] at h
    refine X.iload C dX8_wear_21 3 rfl ?_
    refine X.aload_n C dX8_wear_23 rfl 0 rfl ?_
    refine X.get C dX8_wear_24 lay_X8 0 rfl rfl 25 (by decide) fl_X8_49 rfl rfl ?_
    refine X.iload_n C dX8_wear_27 rfl 1 rfl ?_
    refine X.iald C h dX8_wear_28 11 rfl (fun h => ?_)
    refine X.icmp_ge (tgt := 85) C h dX8_wear_29 (by decide) (fun h => ?_) (fun h => ?_)
    · refine X.sub [0, 2] rfl ?_
      exact hk0 lx3 M h
    refine X.aload_n C dX8_wear_32 rfl 0 rfl ?_
    refine X.get C dX8_wear_33 lay_X8 0 rfl rfl 1 (by decide) fl_X8_13 rfl rfl ?_
    refine X.bipush C dX8_wear_36 (by decide) ?_
    refine X.iald C h dX8_wear_38 1 rfl (fun h => ?_)
    refine X.istoreN (lv2 := fun lx5_3 => [(5, vi lx5_3), (0, .ref (q 31)), (1, vi lx1), (3, vi lx3), (4, vi lx4)]) C h dX8_wear_39 (by decide) (fun _ => rfl) (fun lx5_3 h => ?_)
    refine X.aload_n C dX8_wear_41 rfl 1 rfl ?_
    refine X.aload_n C dX8_wear_42 rfl 1 rfl ?_
    refine X.iload_n C dX8_wear_43 rfl 2 rfl ?_
    refine X.iload C dX8_wear_44 4 rfl ?_
    refine X.callVi (q0 := 0) (As := [vi lx1, vi lx4]) (rest := [.ref (q 31)]) (g := fun rr_4 => rr_4) (W1 := fun rr_4 => (W_M G q M)) (ws2 := fun rr_4 => (W_M G q M)) C h dX8_wear_46 ml_X8_293 mX8_windOf (fun v hv => kX8_windOf q M lx1 lx4 v hv) (fun rr_4 => ln_M_M_m_n (G := G) (q := q) (M := M)) rfl rfl rfl rfl rfl rfl rfl rfl (fun rr_4 h => ?_)
    refine X.callVi (q0 := 0) (As := [vi rr_4]) (rest := []) (g := fun rr_5 => rr_5.1) (W1 := fun rr_5 => (W_M G q rr_5.2)) (ws2 := fun rr_5 => (W_M G q rr_5.2)) C h dX8_wear_49 ml_X8_285 mX8_beat (fun v hv => kX8_beat q M rr_4 v hv) (fun rr_5 => ln_M_M_m_M (G := G) (q := q) (M := M) (NM := rr_5.2)) rfl rfl rfl rfl rfl rfl rfl rfl (fun rr_5 h => ?_)
    refine X.istoreN (lv2 := fun lx6_6 => [(6, vi lx6_6), (5, vi lx5_3), (0, .ref (q 31)), (1, vi lx1), (3, vi lx3), (4, vi lx4)]) C h dX8_wear_52 (by decide) (fun _ => rfl) (fun lx6_6 h => ?_)
    refine X.iload_n C dX8_wear_54 rfl 4 rfl ?_
    refine X.iload C dX8_wear_55 0 rfl ?_
    refine X.if_ge (tgt := 64) C h dX8_wear_57 (by decide) (fun h => ?_) (fun h => ?_)
    · refine X.aload_n C dX8_wear_64 rfl 2 rfl ?_
      refine X.get C dX8_wear_65 lay_X8 0 rfl rfl 1 (by decide) fl_X8_13 rfl rfl ?_
      refine X.bipush C dX8_wear_68 (by decide) ?_
      refine X.iald C h dX8_wear_70 1 rfl (fun h => ?_)
      refine X.iload C dX8_wear_71 1 rfl ?_
      refine X.isub C dX8_wear_73 ?_
      refine X.mabs C dX8_wear_74 ml_X8_223 sm_J9_abs_0f7a4 in_java_lang_Math cd_J9_abs_0f7a4 (Nat.le_of_ble_eq_true rfl) (Nat.le_of_ble_eq_true rfl) (Nat.zero_le _) (Nat.zero_le _) ?_
      refine X.iadd C dX8_wear_77 ?_
      refine X.istoreN_n (lv2 := fun lx3_7 => [(3, vi lx3_7), (6, vi lx6_6), (5, vi lx5_3), (0, .ref (q 31)), (1, vi lx1), (4, vi lx4)]) C h dX8_wear_78 rfl (by decide) (fun _ => rfl) (fun lx3_7 h => ?_)
      refine X.iincN (lv2 := fun lx4_8 => [(4, vi lx4_8), (3, vi lx3_7), (6, vi lx6_6), (5, vi lx5_3), (0, .ref (q 31)), (1, vi lx1)]) C h dX8_wear_79 5 rfl (by decide) (fun _ => rfl) (fun lx4_8 h => ?_)
      refine X.goto (tgt := 21) C dX8_wear_82 (by decide) ?_
      refine X.sub [4, 5, 1, 0] rfl ?_
      exact ih lx3_7 lx4_8 rr_5.2 h
    refine X.iconst C dX8_wear_60 ?_
    refine X.goto (tgt := 77) C dX8_wear_61 (by decide) ?_
    refine X.iadd C dX8_wear_77 ?_
    refine X.istoreN_n (lv2 := fun lx3_9 => [(3, vi lx3_9), (6, vi lx6_6), (5, vi lx5_3), (0, .ref (q 31)), (1, vi lx1), (4, vi lx4)]) C h dX8_wear_78 rfl (by decide) (fun _ => rfl) (fun lx3_9 h => ?_)
    refine X.iincN (lv2 := fun lx4_10 => [(4, vi lx4_10), (3, vi lx3_9), (6, vi lx6_6), (5, vi lx5_3), (0, .ref (q 31)), (1, vi lx1)]) C h dX8_wear_79 5 rfl (by decide) (fun _ => rfl) (fun lx4_10 h => ?_)
    refine X.goto (tgt := 21) C dX8_wear_82 (by decide) ?_
    refine X.sub [4, 5, 1, 0] rfl ?_
    exact ih lx3_9 lx4_10 rr_5.2 h
set_option maxHeartbeats 4000000 in
set_option maxRecDepth 100000 in
theorem kX8_wear {l : Launch} {G : GT} (q : Nat → Nat) (M : Ob) (lx1 : Int) (v : (Int × Ob)) (h : fX8_wear M lx1 = some v) : CT l G yX8_wear cX8_wear 7 (some .int) rX8_wear [.ref (q 31), vi lx1] (W_M G q M) (W_M G q v.2) (some (vi v.1)) := by
  unfold fX8_wear at h
  refine CT.of (by decide) (Nat.le_of_ble_eq_true rfl) rfl (fun κ _ C => ?_)
  refine X.aload_n C dX8_wear_0 rfl 0 rfl ?_
  refine X.iload_n C dX8_wear_1 rfl 1 rfl ?_
  refine X.callVi (q0 := 0) (As := [vi lx1]) (rest := []) (g := fun rr_1 => rr_1) (W1 := fun rr_1 => (W_M G q M)) (ws2 := fun rr_1 => (W_M G q M)) C h dX8_wear_2 ml_X8_296 mX8_asks (fun v hv => kX8_asks q M lx1 v hv) (fun rr_1 => ln_M_M_m_n (G := G) (q := q) (M := M)) rfl rfl rfl rfl rfl rfl rfl rfl (fun rr_1 h => ?_)
  refine X.istore_n (lv2 := [(2, vi rr_1), (0, .ref (q 31)), (1, vi lx1)]) C dX8_wear_5 rfl (by decide) rfl ?_
  refine X.iload_n C dX8_wear_6 rfl 0 rfl ?_
  refine X.if_ge (tgt := 12) C h dX8_wear_7 (by decide) (fun h => ?_) (fun h => ?_)
  · refine X.aload_n C dX8_wear_12 rfl 1 rfl ?_
    refine X.callVv (q0 := 0) (As := []) (rest := []) (W1 := fun rr_2 => (W_M G q rr_2)) (ws2 := fun rr_2 => (W_M G q rr_2)) C h dX8_wear_13 ml_X8_370 mX8_thinks (fun v hv => kX8_thinks q M v hv) (fun rr_2 => ln_M_M_m_M (G := G) (q := q) (M := M) (NM := rr_2)) rfl rfl rfl rfl rfl rfl rfl rfl (fun rr_2 h => ?_)
    refine X.iconst C dX8_wear_16 ?_
    refine X.istore_n (lv2 := [(3, vi 0), (2, vi rr_1), (0, .ref (q 31)), (1, vi lx1)]) C dX8_wear_17 rfl (by decide) rfl ?_
    refine X.iconst C dX8_wear_18 ?_
    refine X.istore (lv2 := [(4, vi 0), (3, vi 0), (2, vi rr_1), (0, .ref (q 31)), (1, vi lx1)]) C dX8_wear_19 (by decide) rfl ?_
    refine X.sub [3, 4, 1, 0] rfl ?_
    refine xX8_wear_21 C q lx1 _ v (fun lx3_11 M_12 h => ?_) FU 0 0 rr_2 h
    · refine X.aload_n C dX8_wear_85 rfl 0 rfl ?_
      refine X.callVv (q0 := 0) (As := []) (rest := []) (W1 := fun rr_13 => (W_M G q rr_13)) (ws2 := fun rr_13 => (W_M G q rr_13)) C h dX8_wear_86 ml_X8_376 mX8_wakes (fun v hv => kX8_wakes q M_12 v hv) (fun rr_13 => ln_M_M_m_M (G := G) (q := q) (M := M_12) (NM := rr_13)) rfl rfl rfl rfl rfl rfl rfl rfl (fun rr_13 h => ?_)
      refine X.iload_n C dX8_wear_89 rfl 1 rfl ?_
      cases h
      exact X.iret C dX8_wear_90 (Nat.zero_le _) (Nat.zero_le _)
  refine X.iload_n C dX8_wear_10 rfl 0 rfl ?_
  cases h
  exact X.iret C dX8_wear_11 (Nat.zero_le _) (Nat.zero_le _)
def rX8_idle : Room := { frames := 5, cells := 0, slots := 0, locals := 130 }
theorem mX8_idle : MV yX8_idle cX8_idle 5 (some .int) 1 := ⟨cd_X8_idle, in_X8, ⟨⟨by decide, by decide⟩, by decide +kernel⟩, im_X8_idle, se_X8_idle⟩
set_option maxHeartbeats 4000000 in
set_option maxRecDepth 100000 in
theorem xX8_idle_21 {κ : Kx} {G : GT} (C : Cx κ G yX8_idle cX8_idle (some .int) 5 rX8_idle) (q : Nat → Nat) (lx1 : Int) (kx0 : Int → Ob → Option (Int × Ob)) (v : (Int × Ob)) (hk0 : ∀ (lx3 : Int) (M : Ob), kx0 lx3 M = some v → X κ G 5 (W_M G q M) 70 [(0, .ref (q 31)), (3, vi lx3)] [] 0 0 (QM κ G (W_M G q v.2) (some (vi v.1)) rX8_idle.cells rX8_idle.slots)) : ∀ (n : Nat) (lx3 : Int) (lx4 : Int) (M : Ob), lX8_idle_21 lx1 kx0 n lx3 lx4 M = some v → X κ G 5 (W_M G q M) 21 [(0, .ref (q 31)), (1, vi lx1), (3, vi lx3), (4, vi lx4)] [] 0 0 (QM κ G (W_M G q v.2) (some (vi v.1)) rX8_idle.cells rX8_idle.slots) := by
  intro n
  induction n with
  | zero => intro _ _ _ h; exact absurd h (fun h => nomatch h)
  | succ n ih =>
    intro lx3 lx4 M h
    rw [lX8_idle_21] at h
    refine X.iload C dX8_idle_21 3 rfl ?_
    refine X.aload_n C dX8_idle_23 rfl 0 rfl ?_
    refine X.get C dX8_idle_24 lay_X8 0 rfl rfl 25 (by decide) fl_X8_49 rfl rfl ?_
    refine X.iload_n C dX8_idle_27 rfl 1 rfl ?_
    refine X.iald C h dX8_idle_28 11 rfl (fun h => ?_)
    refine X.icmp_ge (tgt := 70) C h dX8_idle_29 (by decide) (fun h => ?_) (fun h => ?_)
    · refine X.sub [0, 2] rfl ?_
      exact hk0 lx3 M h
    refine X.iload_n C dX8_idle_32 rfl 2 rfl ?_
    refine X.aload_n C dX8_idle_33 rfl 0 rfl ?_
    refine X.aload_n C dX8_idle_34 rfl 0 rfl ?_
    refine X.iload_n C dX8_idle_35 rfl 1 rfl ?_
    refine X.iload C dX8_idle_36 3 rfl ?_
    refine X.callVi (q0 := 0) (As := [vi lx1, vi lx4]) (rest := [.ref (q 31), vi lx3]) (g := fun rr_3 => rr_3) (W1 := fun rr_3 => (W_M G q M)) (ws2 := fun rr_3 => (W_M G q M)) C h dX8_idle_38 ml_X8_293 mX8_windOf (fun v hv => kX8_windOf q M lx1 lx4 v hv) (fun rr_3 => ln_M_M_m_n (G := G) (q := q) (M := M)) rfl rfl rfl rfl rfl rfl rfl rfl (fun rr_3 h => ?_)
    refine X.callVi (q0 := 0) (As := [vi rr_3]) (rest := [vi lx3]) (g := fun rr_4 => rr_4.1) (W1 := fun rr_4 => (W_M G q rr_4.2)) (ws2 := fun rr_4 => (W_M G q rr_4.2)) C h dX8_idle_41 ml_X8_285 mX8_beat (fun v hv => kX8_beat q M rr_3 v hv) (fun rr_4 => ln_M_M_m_M (G := G) (q := q) (M := M) (NM := rr_4.2)) rfl rfl rfl rfl rfl rfl rfl rfl (fun rr_4 h => ?_)
    refine X.if_lt (tgt := 61) C h dX8_idle_44 (by decide) (fun h => ?_) (fun h => ?_)
    · refine X.iconst C dX8_idle_61 ?_
      refine X.iadd C dX8_idle_62 ?_
      refine X.istoreN_n (lv2 := fun lx3_5 => [(3, vi lx3_5), (0, .ref (q 31)), (1, vi lx1), (4, vi lx4)]) C h dX8_idle_63 rfl (by decide) (fun _ => rfl) (fun lx3_5 h => ?_)
      refine X.iincN (lv2 := fun lx4_6 => [(4, vi lx4_6), (3, vi lx3_5), (0, .ref (q 31)), (1, vi lx1)]) C h dX8_idle_64 3 rfl (by decide) (fun _ => rfl) (fun lx4_6 h => ?_)
      refine X.goto (tgt := 21) C dX8_idle_67 (by decide) ?_
      refine X.sub [2, 3, 1, 0] rfl ?_
      exact ih lx3_5 lx4_6 rr_4.2 h
    refine X.aload_n C dX8_idle_47 rfl 0 rfl ?_
    refine X.get C dX8_idle_48 lay_X8 0 rfl rfl 1 (by decide) fl_X8_13 rfl rfl ?_
    refine X.bipush C dX8_idle_51 (by decide) ?_
    refine X.iald C h dX8_idle_53 1 rfl (fun h => ?_)
    refine X.if_ne (tgt := 61) C h dX8_idle_54 (by decide) (fun h => ?_) (fun h => ?_)
    · refine X.iconst C dX8_idle_61 ?_
      refine X.iadd C dX8_idle_62 ?_
      refine X.istoreN_n (lv2 := fun lx3_7 => [(3, vi lx3_7), (0, .ref (q 31)), (1, vi lx1), (4, vi lx4)]) C h dX8_idle_63 rfl (by decide) (fun _ => rfl) (fun lx3_7 h => ?_)
      refine X.iincN (lv2 := fun lx4_8 => [(4, vi lx4_8), (3, vi lx3_7), (0, .ref (q 31)), (1, vi lx1)]) C h dX8_idle_64 3 rfl (by decide) (fun _ => rfl) (fun lx4_8 h => ?_)
      refine X.goto (tgt := 21) C dX8_idle_67 (by decide) ?_
      refine X.sub [2, 3, 1, 0] rfl ?_
      exact ih lx3_7 lx4_8 rr_4.2 h
    refine X.iconst C dX8_idle_57 ?_
    refine X.goto (tgt := 62) C dX8_idle_58 (by decide) ?_
    refine X.iadd C dX8_idle_62 ?_
    refine X.istoreN_n (lv2 := fun lx3_9 => [(3, vi lx3_9), (0, .ref (q 31)), (1, vi lx1), (4, vi lx4)]) C h dX8_idle_63 rfl (by decide) (fun _ => rfl) (fun lx3_9 h => ?_)
    refine X.iincN (lv2 := fun lx4_10 => [(4, vi lx4_10), (3, vi lx3_9), (0, .ref (q 31)), (1, vi lx1)]) C h dX8_idle_64 3 rfl (by decide) (fun _ => rfl) (fun lx4_10 h => ?_)
    refine X.goto (tgt := 21) C dX8_idle_67 (by decide) ?_
    refine X.sub [2, 3, 1, 0] rfl ?_
    exact ih lx3_9 lx4_10 rr_4.2 h
set_option maxHeartbeats 4000000 in
set_option maxRecDepth 100000 in
theorem kX8_idle {l : Launch} {G : GT} (q : Nat → Nat) (M : Ob) (lx1 : Int) (v : (Int × Ob)) (h : fX8_idle M lx1 = some v) : CT l G yX8_idle cX8_idle 5 (some .int) rX8_idle [.ref (q 31), vi lx1] (W_M G q M) (W_M G q v.2) (some (vi v.1)) := by
  unfold fX8_idle at h
  refine CT.of (by decide) (Nat.le_of_ble_eq_true rfl) rfl (fun κ _ C => ?_)
  refine X.aload_n C dX8_idle_0 rfl 0 rfl ?_
  refine X.iload_n C dX8_idle_1 rfl 1 rfl ?_
  refine X.callVi (q0 := 0) (As := [vi lx1]) (rest := []) (g := fun rr_1 => rr_1) (W1 := fun rr_1 => (W_M G q M)) (ws2 := fun rr_1 => (W_M G q M)) C h dX8_idle_2 ml_X8_296 mX8_asks (fun v hv => kX8_asks q M lx1 v hv) (fun rr_1 => ln_M_M_m_n (G := G) (q := q) (M := M)) rfl rfl rfl rfl rfl rfl rfl rfl (fun rr_1 h => ?_)
  refine X.istore_n (lv2 := [(2, vi rr_1), (0, .ref (q 31)), (1, vi lx1)]) C dX8_idle_5 rfl (by decide) rfl ?_
  refine X.iload_n C dX8_idle_6 rfl 0 rfl ?_
  refine X.if_ge (tgt := 12) C h dX8_idle_7 (by decide) (fun h => ?_) (fun h => ?_)
  · refine X.aload_n C dX8_idle_12 rfl 1 rfl ?_
    refine X.callVv (q0 := 0) (As := []) (rest := []) (W1 := fun rr_2 => (W_M G q rr_2)) (ws2 := fun rr_2 => (W_M G q rr_2)) C h dX8_idle_13 ml_X8_370 mX8_thinks (fun v hv => kX8_thinks q M v hv) (fun rr_2 => ln_M_M_m_M (G := G) (q := q) (M := M) (NM := rr_2)) rfl rfl rfl rfl rfl rfl rfl rfl (fun rr_2 h => ?_)
    refine X.iconst C dX8_idle_16 ?_
    refine X.istore_n (lv2 := [(3, vi 0), (2, vi rr_1), (0, .ref (q 31)), (1, vi lx1)]) C dX8_idle_17 rfl (by decide) rfl ?_
    refine X.iconst C dX8_idle_18 ?_
    refine X.istore (lv2 := [(4, vi 0), (3, vi 0), (2, vi rr_1), (0, .ref (q 31)), (1, vi lx1)]) C dX8_idle_19 (by decide) rfl ?_
    refine X.sub [3, 4, 1, 0] rfl ?_
    refine xX8_idle_21 C q lx1 _ v (fun lx3_11 M_12 h => ?_) FU 0 0 rr_2 h
    · refine X.aload_n C dX8_idle_70 rfl 0 rfl ?_
      refine X.callVv (q0 := 0) (As := []) (rest := []) (W1 := fun rr_13 => (W_M G q rr_13)) (ws2 := fun rr_13 => (W_M G q rr_13)) C h dX8_idle_71 ml_X8_376 mX8_wakes (fun v hv => kX8_wakes q M_12 v hv) (fun rr_13 => ln_M_M_m_M (G := G) (q := q) (M := M_12) (NM := rr_13)) rfl rfl rfl rfl rfl rfl rfl rfl (fun rr_13 h => ?_)
      refine X.iload_n C dX8_idle_74 rfl 1 rfl ?_
      cases h
      exact X.iret C dX8_idle_75 (Nat.zero_le _) (Nat.zero_le _)
  refine X.iload_n C dX8_idle_10 rfl 0 rfl ?_
  cases h
  exact X.iret C dX8_idle_11 (Nat.zero_le _) (Nat.zero_le _)
def rX8_first : Room := { frames := 5, cells := 0, slots := 0, locals := 130 }
theorem mX8_first : MV yX8_first cX8_first 7 (some .int) 2 := ⟨cd_X8_first, in_X8, ⟨⟨by decide, by decide⟩, by decide +kernel⟩, im_X8_first, se_X8_first⟩
set_option maxHeartbeats 4000000 in
set_option maxRecDepth 100000 in
theorem xX8_first_40 {κ : Kx} {G : GT} (C : Cx κ G yX8_first cX8_first (some .int) 7 rX8_first) (q : Nat → Nat) (lx1 : Int) (lx2 : Int) (lx4 : Int) (kx0 : Int → Ob → Option (Int × Ob)) (v : (Int × Ob)) (hk0 : ∀ (lx5 : Int) (M : Ob), kx0 lx5 M = some v → X κ G 7 (W_M G q M) 97 [(0, .ref (q 31)), (5, vi lx5)] [] 0 0 (QM κ G (W_M G q v.2) (some (vi v.1)) rX8_first.cells rX8_first.slots)) : ∀ (n : Nat) (lx5 : Int) (lx6 : Int) (M : Ob), lX8_first_40 lx1 lx2 lx4 kx0 n lx5 lx6 M = some v → X κ G 7 (W_M G q M) 40 [(0, .ref (q 31)), (1, vi lx1), (2, vi lx2), (4, vi lx4), (5, vi lx5), (6, vi lx6)] [] 0 0 (QM κ G (W_M G q v.2) (some (vi v.1)) rX8_first.cells rX8_first.slots) := by
  intro n
  induction n with
  | zero => intro _ _ _ h; exact absurd h (fun h => nomatch h)
  | succ n ih =>
    intro lx5 lx6 M h
    rw [lX8_first_40] at h
    refine X.iload C dX8_first_40 5 rfl ?_
    refine X.aload_n C dX8_first_42 rfl 0 rfl ?_
    refine X.get C dX8_first_43 lay_X8 0 rfl rfl 25 (by decide) fl_X8_49 rfl rfl ?_
    refine X.iload_n C dX8_first_46 rfl 1 rfl ?_
    refine X.iald C h dX8_first_47 11 rfl (fun h => ?_)
    refine X.icmp_ge (tgt := 97) C h dX8_first_48 (by decide) (fun h => ?_) (fun h => ?_)
    · refine X.sub [0, 4] rfl ?_
      exact hk0 lx5 M h
    refine X.iload C dX8_first_51 4 rfl ?_
    refine X.iconst C dX8_first_53 ?_
    refine X.icmp_ne (tgt := 97) C h dX8_first_54 (by decide) (fun h => ?_) (fun h => ?_)
    · refine X.sub [0, 4] rfl ?_
      exact hk0 lx5 M h
    refine X.aload_n C dX8_first_57 rfl 0 rfl ?_
    refine X.aload_n C dX8_first_58 rfl 0 rfl ?_
    refine X.iload_n C dX8_first_59 rfl 1 rfl ?_
    refine X.iload C dX8_first_60 5 rfl ?_
    refine X.callVi (q0 := 0) (As := [vi lx1, vi lx6]) (rest := [.ref (q 31)]) (g := fun rr_5 => rr_5) (W1 := fun rr_5 => (W_M G q M)) (ws2 := fun rr_5 => (W_M G q M)) C h dX8_first_62 ml_X8_293 mX8_windOf (fun v hv => kX8_windOf q M lx1 lx6 v hv) (fun rr_5 => ln_M_M_m_n (G := G) (q := q) (M := M)) rfl rfl rfl rfl rfl rfl rfl rfl (fun rr_5 h => ?_)
    refine X.callVi (q0 := 0) (As := [vi rr_5]) (rest := []) (g := fun rr_6 => rr_6.1) (W1 := fun rr_6 => (W_M G q rr_6.2)) (ws2 := fun rr_6 => (W_M G q rr_6.2)) C h dX8_first_65 ml_X8_285 mX8_beat (fun v hv => kX8_beat q M rr_5 v hv) (fun rr_6 => ln_M_M_m_M (G := G) (q := q) (M := M) (NM := rr_6.2)) rfl rfl rfl rfl rfl rfl rfl rfl (fun rr_6 h => ?_)
    refine X.if_lt (tgt := 88) C h dX8_first_68 (by decide) (fun h => ?_) (fun h => ?_)
    · refine X.iconst C dX8_first_88 ?_
      refine X.istore (lv2 := [(5, vi (-1)), (0, .ref (q 31)), (1, vi lx1), (2, vi lx2), (4, vi lx4), (6, vi lx6)]) C dX8_first_89 (by decide) rfl ?_
      refine X.iincN (lv2 := fun lx6_7 => [(6, vi lx6_7), (5, vi (-1)), (0, .ref (q 31)), (1, vi lx1), (2, vi lx2), (4, vi lx4)]) C h dX8_first_91 5 rfl (by decide) (fun _ => rfl) (fun lx6_7 h => ?_)
      refine X.goto (tgt := 40) C dX8_first_94 (by decide) ?_
      refine X.sub [2, 3, 4, 5, 1, 0] rfl ?_
      exact ih (-1) lx6_7 rr_6.2 h
    refine X.aload_n C dX8_first_71 rfl 0 rfl ?_
    refine X.iload_n C dX8_first_72 rfl 2 rfl ?_
    refine X.callVi (q0 := 0) (As := [vi lx2]) (rest := []) (g := fun rr_8 => rr_8) (W1 := fun rr_8 => (W_M G q rr_6.2)) (ws2 := fun rr_8 => (W_M G q rr_6.2)) C h dX8_first_73 ml_X8_307 mX8_wetAt (fun v hv => kX8_wetAt q rr_6.2 lx2 v hv) (fun rr_8 => ln_M_M_m_n (G := G) (q := q) (M := rr_6.2)) rfl rfl rfl rfl rfl rfl rfl rfl (fun rr_8 h => ?_)
    refine X.iload C dX8_first_76 3 rfl ?_
    refine X.icmp_le (tgt := 88) C h dX8_first_78 (by decide) (fun h => ?_) (fun h => ?_)
    · refine X.iconst C dX8_first_88 ?_
      refine X.istore (lv2 := [(5, vi (-1)), (0, .ref (q 31)), (1, vi lx1), (2, vi lx2), (4, vi lx4), (6, vi lx6)]) C dX8_first_89 (by decide) rfl ?_
      refine X.iincN (lv2 := fun lx6_9 => [(6, vi lx6_9), (5, vi (-1)), (0, .ref (q 31)), (1, vi lx1), (2, vi lx2), (4, vi lx4)]) C h dX8_first_91 5 rfl (by decide) (fun _ => rfl) (fun lx6_9 h => ?_)
      refine X.goto (tgt := 40) C dX8_first_94 (by decide) ?_
      refine X.sub [2, 3, 4, 5, 1, 0] rfl ?_
      exact ih (-1) lx6_9 rr_6.2 h
    refine X.iload C dX8_first_81 5 rfl ?_
    refine X.iconst C dX8_first_83 ?_
    refine X.iadd C dX8_first_84 ?_
    refine X.goto (tgt := 89) C dX8_first_85 (by decide) ?_
    refine X.istoreN (lv2 := fun lx5_10 => [(5, vi lx5_10), (0, .ref (q 31)), (1, vi lx1), (2, vi lx2), (4, vi lx4), (6, vi lx6)]) C h dX8_first_89 (by decide) (fun _ => rfl) (fun lx5_10 h => ?_)
    refine X.iincN (lv2 := fun lx6_11 => [(6, vi lx6_11), (5, vi lx5_10), (0, .ref (q 31)), (1, vi lx1), (2, vi lx2), (4, vi lx4)]) C h dX8_first_91 5 rfl (by decide) (fun _ => rfl) (fun lx6_11 h => ?_)
    refine X.goto (tgt := 40) C dX8_first_94 (by decide) ?_
    refine X.sub [2, 3, 4, 5, 1, 0] rfl ?_
    exact ih lx5_10 lx6_11 rr_6.2 h
set_option maxHeartbeats 4000000 in
set_option maxRecDepth 100000 in
theorem xX8_first_97 {κ : Kx} {G : GT} (C : Cx κ G yX8_first cX8_first (some .int) 7 rX8_first) (q : Nat → Nat) (M : Ob) (lx5 : Int) (v : (Int × Ob)) (h : jX8_first_97 M lx5 = some v) : X κ G 7 (W_M G q M) 97 [(0, .ref (q 31)), (5, vi lx5)] [] 0 0 (QM κ G (W_M G q v.2) (some (vi v.1)) rX8_first.cells rX8_first.slots) := by
  unfold jX8_first_97 at h
  refine X.aload_n C dX8_first_97 rfl 0 rfl ?_
  refine X.callVv (q0 := 0) (As := []) (rest := []) (W1 := fun rr_14 => (W_M G q rr_14)) (ws2 := fun rr_14 => (W_M G q rr_14)) C h dX8_first_98 ml_X8_376 mX8_wakes (fun v hv => kX8_wakes q M v hv) (fun rr_14 => ln_M_M_m_M (G := G) (q := q) (M := M) (NM := rr_14)) rfl rfl rfl rfl rfl rfl rfl rfl (fun rr_14 h => ?_)
  refine X.iload C dX8_first_101 1 rfl ?_
  cases h
  exact X.iret C dX8_first_103 (Nat.zero_le _) (Nat.zero_le _)
set_option maxHeartbeats 4000000 in
set_option maxRecDepth 100000 in
theorem kX8_first {l : Launch} {G : GT} (q : Nat → Nat) (M : Ob) (lx1 : Int) (lx2 : Int) (v : (Int × Ob)) (h : fX8_first M lx1 lx2 = some v) : CT l G yX8_first cX8_first 7 (some .int) rX8_first [.ref (q 31), vi lx1, vi lx2] (W_M G q M) (W_M G q v.2) (some (vi v.1)) := by
  unfold fX8_first at h
  refine CT.of (by decide) (Nat.le_of_ble_eq_true rfl) rfl (fun κ _ C => ?_)
  refine X.aload_n C dX8_first_0 rfl 0 rfl ?_
  refine X.iload_n C dX8_first_1 rfl 2 rfl ?_
  refine X.callVi (q0 := 0) (As := [vi lx2]) (rest := []) (g := fun rr_1 => rr_1) (W1 := fun rr_1 => (W_M G q M)) (ws2 := fun rr_1 => (W_M G q M)) C h dX8_first_2 ml_X8_302 mX8_isTable (fun v hv => kX8_isTable q M lx2 v hv) (fun rr_1 => ln_M_M_m_n (G := G) (q := q) (M := M)) rfl rfl rfl rfl rfl rfl rfl rfl (fun rr_1 h => ?_)
  refine X.if_ne (tgt := 11) C h dX8_first_5 (by decide) (fun h => ?_) (fun h => ?_)
  · refine X.aload_n C dX8_first_11 rfl 0 rfl ?_
    refine X.iload_n C dX8_first_12 rfl 1 rfl ?_
    refine X.callVi (q0 := 0) (As := [vi lx1]) (rest := []) (g := fun rr_2 => rr_2) (W1 := fun rr_2 => (W_M G q M)) (ws2 := fun rr_2 => (W_M G q M)) C h dX8_first_13 ml_X8_296 mX8_asks (fun v hv => kX8_asks q M lx1 v hv) (fun rr_2 => ln_M_M_m_n (G := G) (q := q) (M := M)) rfl rfl rfl rfl rfl rfl rfl rfl (fun rr_2 h => ?_)
    refine X.istore_n (lv2 := [(3, vi rr_2), (0, .ref (q 31)), (1, vi lx1), (2, vi lx2)]) C dX8_first_16 rfl (by decide) rfl ?_
    refine X.iload_n C dX8_first_17 rfl 0 rfl ?_
    refine X.if_ge (tgt := 23) C h dX8_first_18 (by decide) (fun h => ?_) (fun h => ?_)
    · refine X.aload_n C dX8_first_23 rfl 1 rfl ?_
      refine X.callVv (q0 := 0) (As := []) (rest := []) (W1 := fun rr_3 => (W_M G q rr_3)) (ws2 := fun rr_3 => (W_M G q rr_3)) C h dX8_first_24 ml_X8_370 mX8_thinks (fun v hv => kX8_thinks q M v hv) (fun rr_3 => ln_M_M_m_M (G := G) (q := q) (M := M) (NM := rr_3)) rfl rfl rfl rfl rfl rfl rfl rfl (fun rr_3 h => ?_)
      refine X.aload_n C dX8_first_27 rfl 1 rfl ?_
      refine X.iload_n C dX8_first_28 rfl 3 rfl ?_
      refine X.callVi (q0 := 0) (As := [vi lx2]) (rest := []) (g := fun rr_4 => rr_4) (W1 := fun rr_4 => (W_M G q rr_3)) (ws2 := fun rr_4 => (W_M G q rr_3)) C h dX8_first_29 ml_X8_307 mX8_wetAt (fun v hv => kX8_wetAt q rr_3 lx2 v hv) (fun rr_4 => ln_M_M_m_n (G := G) (q := q) (M := rr_3)) rfl rfl rfl rfl rfl rfl rfl rfl (fun rr_4 h => ?_)
      refine X.istore (lv2 := [(4, vi rr_4), (3, vi rr_2), (0, .ref (q 31)), (1, vi lx1), (2, vi lx2)]) C dX8_first_32 (by decide) rfl ?_
      refine X.iconst C dX8_first_34 ?_
      refine X.istore (lv2 := [(5, vi (-1)), (4, vi rr_4), (3, vi rr_2), (0, .ref (q 31)), (1, vi lx1), (2, vi lx2)]) C dX8_first_35 (by decide) rfl ?_
      refine X.iconst C dX8_first_37 ?_
      refine X.istore (lv2 := [(6, vi 0), (5, vi (-1)), (4, vi rr_4), (3, vi rr_2), (0, .ref (q 31)), (1, vi lx1), (2, vi lx2)]) C dX8_first_38 (by decide) rfl ?_
      refine X.sub [4, 5, 6, 2, 1, 0] rfl ?_
      refine xX8_first_40 C q lx1 lx2 rr_4 _ v (fun lx5_12 M_13 h => ?_) FU (-1) 0 rr_3 h
      · refine X.sub [0, 1] rfl ?_
        exact xX8_first_97 C q M_13 lx5_12 v h
    refine X.iload_n C dX8_first_21 rfl 0 rfl ?_
    cases h
    exact X.iret C dX8_first_22 (Nat.zero_le _) (Nat.zero_le _)
  refine X.bipush C dX8_first_8 (by decide) ?_
  cases h
  exact X.iret C dX8_first_10 (Nat.zero_le _) (Nat.zero_le _)
def rX8_best : Room := { frames := 8, cells := 0, slots := 0, locals := 204 }
theorem mX8_best : MV yX8_best cX8_best 6 (some .int) 1 := ⟨cd_X8_best, in_X8, ⟨⟨by decide, by decide⟩, by decide +kernel⟩, im_X8_best, se_X8_best⟩
set_option maxHeartbeats 4000000 in
set_option maxRecDepth 100000 in
theorem xX8_best_62 {κ : Kx} {G : GT} (C : Cx κ G yX8_best cX8_best (some .int) 6 rX8_best) (q : Nat → Nat) (kc0 : Int → Int → Int → Ob → Option (Int × Ob)) (M : Ob) (lx1 : Int) (lx5 : Int) (v : (Int × Ob)) (hc0 : ∀ (lx3 : Int) (lx4 : Int) (lx5 : Int) (M : Ob), kc0 lx3 lx4 lx5 M = some v → X κ G 6 (W_M G q M) 20 [(0, .ref (q 31)), (1, vi lx1), (3, vi lx3), (4, vi lx4), (5, vi lx5)] [] 0 0 (QM κ G (W_M G q v.2) (some (vi v.1)) rX8_best.cells rX8_best.slots)) (h : jX8_best_62 kc0 M lx1 lx5 = some v) : X κ G 6 (W_M G q M) 62 [(0, .ref (q 31)), (1, vi lx1), (5, vi lx5)] [] 0 0 (QM κ G (W_M G q v.2) (some (vi v.1)) rX8_best.cells rX8_best.slots) := by
  unfold jX8_best_62 at h
  refine X.iload C dX8_best_62 2 rfl ?_
  refine X.istore_n (lv2 := [(3, vi lx5), (0, .ref (q 31)), (1, vi lx1), (5, vi lx5)]) C dX8_best_64 rfl (by decide) rfl ?_
  refine X.aload_n C dX8_best_65 rfl 1 rfl ?_
  refine X.get C dX8_best_66 lay_X8 0 rfl rfl 16 (by decide) fl_X8_40 rfl rfl ?_
  refine X.iconst C dX8_best_69 ?_
  refine X.iald C h dX8_best_70 8 rfl (fun h => ?_)
  refine X.aload_n C dX8_best_71 rfl 1 rfl ?_
  refine X.get C dX8_best_72 lay_X8 0 rfl rfl 16 (by decide) fl_X8_40 rfl rfl ?_
  refine X.iconst C dX8_best_75 ?_
  refine X.iald C h dX8_best_76 8 rfl (fun h => ?_)
  refine X.isub C dX8_best_77 ?_
  refine X.istoreN (lv2 := fun lx4_3 => [(4, vi lx4_3), (3, vi lx5), (0, .ref (q 31)), (1, vi lx1), (5, vi lx5)]) C h dX8_best_78 (by decide) (fun _ => rfl) (fun lx4_3 h => ?_)
  refine X.iincN (lv2 := fun lx5_4 => [(5, vi lx5_4), (4, vi lx4_3), (3, vi lx5), (0, .ref (q 31)), (1, vi lx1)]) C h dX8_best_80 4 rfl (by decide) (fun _ => rfl) (fun lx5_4 h => ?_)
  refine X.goto (tgt := 20) C dX8_best_83 (by decide) ?_
  refine X.sub [3, 4, 2, 1, 0] rfl ?_
  exact hc0 lx5 lx4_3 lx5_4 M h
set_option maxHeartbeats 4000000 in
set_option maxRecDepth 100000 in
theorem xX8_best_20 {κ : Kx} {G : GT} (C : Cx κ G yX8_best cX8_best (some .int) 6 rX8_best) (q : Nat → Nat) (lx1 : Int) (v : (Int × Ob)) : ∀ (n : Nat) (lx3 : Int) (lx4 : Int) (lx5 : Int) (M : Ob), lX8_best_20 lx1 n lx3 lx4 lx5 M = some v → X κ G 6 (W_M G q M) 20 [(0, .ref (q 31)), (1, vi lx1), (3, vi lx3), (4, vi lx4), (5, vi lx5)] [] 0 0 (QM κ G (W_M G q v.2) (some (vi v.1)) rX8_best.cells rX8_best.slots) := by
  intro n
  induction n with
  | zero => intro _ _ _ _ h; exact absurd h (fun h => nomatch h)
  | succ n ih =>
    intro lx3 lx4 lx5 M h
    rw [lX8_best_20] at h
    refine X.iload C dX8_best_20 4 rfl ?_
    refine X.bipush C dX8_best_22 (by decide) ?_
    refine X.icmp_gt (tgt := 86) C h dX8_best_24 (by decide) (fun h => ?_) (fun h => ?_)
    · refine X.iload_n C dX8_best_86 rfl 2 rfl ?_
      cases h
      exact X.iret C dX8_best_87 (Nat.zero_le _) (Nat.zero_le _)
    refine X.aload_n C dX8_best_27 rfl 0 rfl ?_
    refine X.iload_n C dX8_best_28 rfl 1 rfl ?_
    refine X.bipush C dX8_best_29 (by decide) ?_
    refine X.iload C dX8_best_31 4 rfl ?_
    refine X.callVv (q0 := 0) (As := [vi lx1, vi 8, vi lx5]) (rest := []) (W1 := fun rr_2 => (W_M G q rr_2)) (ws2 := fun rr_2 => (W_M G q rr_2)) C h dX8_best_33 ml_X8_384 mX8_thinksBy (fun v hv => kX8_thinksBy q M lx1 8 lx5 v hv) (fun rr_2 => ln_M_M_m_M (G := G) (q := q) (M := M) (NM := rr_2)) rfl rfl rfl rfl rfl rfl rfl rfl (fun rr_2 h => ?_)
    refine X.iload C dX8_best_36 4 rfl ?_
    refine X.if_le (tgt := 62) C h dX8_best_38 (by decide) (fun h => ?_) (fun h => ?_)
    · refine X.sub [0, 1, 4] rfl ?_
      exact xX8_best_62 C q (lX8_best_20 lx1 n) rr_2 lx1 lx5 v ih h
    refine X.aload_n C dX8_best_41 rfl 0 rfl ?_
    refine X.get C dX8_best_42 lay_X8 0 rfl rfl 16 (by decide) fl_X8_40 rfl rfl ?_
    refine X.iconst C dX8_best_45 ?_
    refine X.iald C h dX8_best_46 8 rfl (fun h => ?_)
    refine X.aload_n C dX8_best_47 rfl 0 rfl ?_
    refine X.get C dX8_best_48 lay_X8 0 rfl rfl 16 (by decide) fl_X8_40 rfl rfl ?_
    refine X.iconst C dX8_best_51 ?_
    refine X.iald C h dX8_best_52 8 rfl (fun h => ?_)
    refine X.isub C dX8_best_53 ?_
    refine X.iload C dX8_best_54 3 rfl ?_
    refine X.icmp_gt (tgt := 62) C h dX8_best_56 (by decide) (fun h => ?_) (fun h => ?_)
    · refine X.sub [0, 1, 4] rfl ?_
      exact xX8_best_62 C q (lX8_best_20 lx1 n) rr_2 lx1 lx5 v ih h
    refine X.goto (tgt := 80) C dX8_best_59 (by decide) ?_
    refine X.iincN (lv2 := fun lx5_5 => [(5, vi lx5_5), (0, .ref (q 31)), (1, vi lx1), (3, vi lx3), (4, vi lx4)]) C h dX8_best_80 4 rfl (by decide) (fun _ => rfl) (fun lx5_5 h => ?_)
    refine X.goto (tgt := 20) C dX8_best_83 (by decide) ?_
    refine X.sub [1, 2, 3, 4, 0] rfl ?_
    exact ih lx3 lx4 lx5_5 rr_2 h
set_option maxHeartbeats 4000000 in
set_option maxRecDepth 100000 in
theorem kX8_best {l : Launch} {G : GT} (q : Nat → Nat) (M : Ob) (lx1 : Int) (v : (Int × Ob)) (h : fX8_best M lx1 = some v) : CT l G yX8_best cX8_best 6 (some .int) rX8_best [.ref (q 31), vi lx1] (W_M G q M) (W_M G q v.2) (some (vi v.1)) := by
  unfold fX8_best at h
  refine CT.of (by decide) (Nat.le_of_ble_eq_true rfl) rfl (fun κ _ C => ?_)
  refine X.aload_n C dX8_best_0 rfl 0 rfl ?_
  refine X.iload_n C dX8_best_1 rfl 1 rfl ?_
  refine X.callVi (q0 := 0) (As := [vi lx1]) (rest := []) (g := fun rr_1 => rr_1) (W1 := fun rr_1 => (W_M G q M)) (ws2 := fun rr_1 => (W_M G q M)) C h dX8_best_2 ml_X8_296 mX8_asks (fun v hv => kX8_asks q M lx1 v hv) (fun rr_1 => ln_M_M_m_n (G := G) (q := q) (M := M)) rfl rfl rfl rfl rfl rfl rfl rfl (fun rr_1 h => ?_)
  refine X.istore_n (lv2 := [(2, vi rr_1), (0, .ref (q 31)), (1, vi lx1)]) C dX8_best_5 rfl (by decide) rfl ?_
  refine X.iload_n C dX8_best_6 rfl 0 rfl ?_
  refine X.if_ge (tgt := 12) C h dX8_best_7 (by decide) (fun h => ?_) (fun h => ?_)
  · refine X.iconst C dX8_best_12 ?_
    refine X.istore_n (lv2 := [(3, vi 0), (2, vi rr_1), (0, .ref (q 31)), (1, vi lx1)]) C dX8_best_13 rfl (by decide) rfl ?_
    refine X.iconst C dX8_best_14 ?_
    refine X.istore (lv2 := [(4, vi 0), (3, vi 0), (2, vi rr_1), (0, .ref (q 31)), (1, vi lx1)]) C dX8_best_15 (by decide) rfl ?_
    refine X.iconst C dX8_best_17 ?_
    refine X.istore (lv2 := [(5, vi 0), (4, vi 0), (3, vi 0), (2, vi rr_1), (0, .ref (q 31)), (1, vi lx1)]) C dX8_best_18 (by decide) rfl ?_
    refine X.sub [4, 5, 2, 1, 0] rfl ?_
    refine xX8_best_20 C q lx1 v FU 0 0 0 M h
  refine X.iload_n C dX8_best_10 rfl 0 rfl ?_
  cases h
  exact X.iret C dX8_best_11 (Nat.zero_le _) (Nat.zero_le _)
