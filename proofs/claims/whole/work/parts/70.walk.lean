def rX8_isBow : Room := { frames := 1, cells := 0, slots := 0, locals := 30 }
theorem mX8_isBow : MV yX8_isBow cX8_isBow 8 (some .boolean) 3 := ⟨cd_X8_isBow, in_X8, ⟨⟨by decide, by decide⟩, by decide +kernel⟩, im_X8_isBow, se_X8_isBow⟩
set_option maxHeartbeats 4000000 in
set_option maxRecDepth 100000 in
theorem xX8_isBow_74 {κ : Kx} {G : GT} (C : Cx κ G yX8_isBow cX8_isBow (some .boolean) 8 rX8_isBow) (q : Nat → Nat) (M : Ob) (lx6 : Int) (lt0 : Int) (v : (Int)) (h : jX8_isBow_74 M lx6 lt0 = some v) : X κ G 8 (W_M G q M) 74 [(6, vi lx6)] [vi lt0] 0 0 (QM κ G (W_M G q M) (some (vi v)) rX8_isBow.cells rX8_isBow.slots) := by
  unfold jX8_isBow_74 at h
  refine X.istore (lv2 := [(7, vi lt0), (6, vi lx6)]) C dX8_isBow_74 (by decide) rfl ?_
  refine X.iload C dX8_isBow_76 1 rfl ?_
  refine X.if_le (tgt := 94) C h dX8_isBow_78 (by decide) (fun h => ?_) (fun h => ?_)
  · refine X.iconst C dX8_isBow_94 ?_
    cases h
    exact X.zret C rfl dX8_isBow_95 (Nat.zero_le _) (Nat.zero_le _)
  refine X.iload C dX8_isBow_81 0 rfl ?_
  refine X.iload C dX8_isBow_83 1 rfl ?_
  refine X.iconst C dX8_isBow_85 ?_
  refine X.idiv C (by decide) dX8_isBow_86 ?_
  refine X.icmp_gt (tgt := 94) C h dX8_isBow_87 (by decide) (fun h => ?_) (fun h => ?_)
  · refine X.iconst C dX8_isBow_94 ?_
    cases h
    exact X.zret C rfl dX8_isBow_95 (Nat.zero_le _) (Nat.zero_le _)
  refine X.iconst C dX8_isBow_90 ?_
  refine X.goto (tgt := 95) C dX8_isBow_91 (by decide) ?_
  cases h
  exact X.zret C rfl dX8_isBow_95 (Nat.zero_le _) (Nat.zero_le _)
set_option maxHeartbeats 4000000 in
set_option maxRecDepth 100000 in
theorem xX8_isBow_53 {κ : Kx} {G : GT} (C : Cx κ G yX8_isBow cX8_isBow (some .boolean) 8 rX8_isBow) (q : Nat → Nat) (M : Ob) (lx3 : Int) (lx4 : Int) (lx5 : Int) (lt0 : Int) (v : (Int)) (h : jX8_isBow_53 M lx3 lx4 lx5 lt0 = some v) : X κ G 8 (W_M G q M) 53 [(3, vi lx3), (4, vi lx4), (5, vi lx5)] [vi lt0] 0 0 (QM κ G (W_M G q M) (some (vi v)) rX8_isBow.cells rX8_isBow.slots) := by
  unfold jX8_isBow_53 at h
  refine X.istore (lv2 := [(6, vi lt0), (3, vi lx3), (4, vi lx4), (5, vi lx5)]) C dX8_isBow_53 (by decide) rfl ?_
  refine X.iload_n C dX8_isBow_55 rfl 1 rfl ?_
  refine X.iconst C dX8_isBow_56 ?_
  refine X.irem C (by decide) dX8_isBow_57 ?_
  refine X.if_ne (tgt := 69) C h dX8_isBow_58 (by decide) (fun h => ?_) (fun h => ?_)
  · refine X.iload C dX8_isBow_69 3 rfl ?_
    refine X.mabs C dX8_isBow_71 ml_X8_223 sm_J9_abs_0f7a4 in_java_lang_Math cd_J9_abs_0f7a4 (Nat.le_of_ble_eq_true rfl) (Nat.le_of_ble_eq_true rfl) (Nat.zero_le _) (Nat.zero_le _) ?_
    refine X.sub [0] rfl ?_
    exact xX8_isBow_74 C q M lt0 (jab lx5) v h
  refine X.iload C dX8_isBow_61 2 rfl ?_
  refine X.mabs C dX8_isBow_63 ml_X8_223 sm_J9_abs_0f7a4 in_java_lang_Math cd_J9_abs_0f7a4 (Nat.le_of_ble_eq_true rfl) (Nat.le_of_ble_eq_true rfl) (Nat.zero_le _) (Nat.zero_le _) ?_
  refine X.goto (tgt := 74) C dX8_isBow_66 (by decide) ?_
  refine X.sub [0] rfl ?_
  exact xX8_isBow_74 C q M lt0 (jab lx4) v h
set_option maxHeartbeats 4000000 in
set_option maxRecDepth 100000 in
theorem kX8_isBow {l : Launch} {G : GT} (q : Nat → Nat) (M : Ob) (lx1 : Int) (lx2 : Int) (lx3 : Int) (v : (Int)) (h : fX8_isBow M lx1 lx2 lx3 = some v) : CT l G yX8_isBow cX8_isBow 8 (some .boolean) rX8_isBow [.ref (q 31), vi lx1, vi lx2, vi lx3] (W_M G q M) (W_M G q M) (some (vi v)) := by
  unfold fX8_isBow at h
  refine CT.of (by decide) (Nat.le_of_ble_eq_true rfl) rfl (fun κ _ C => ?_)
  refine X.aload_n C dX8_isBow_0 rfl 0 rfl ?_
  refine X.get C dX8_isBow_1 lay_X8 0 rfl rfl 1 (by decide) fl_X8_13 rfl rfl ?_
  refine X.iconst C dX8_isBow_4 ?_
  refine X.iald C h dX8_isBow_5 1 rfl (fun h => ?_)
  refine X.iload_n C dX8_isBow_6 rfl 1 rfl ?_
  refine X.isub C dX8_isBow_7 ?_
  refine X.istoreN (lv2 := fun lx4_1 => [(4, vi lx4_1), (0, .ref (q 31)), (1, vi lx1), (2, vi lx2), (3, vi lx3)]) C h dX8_isBow_8 (by decide) (fun _ => rfl) (fun lx4_1 h => ?_)
  refine X.aload_n C dX8_isBow_10 rfl 1 rfl ?_
  refine X.get C dX8_isBow_11 lay_X8 0 rfl rfl 1 (by decide) fl_X8_13 rfl rfl ?_
  refine X.iconst C dX8_isBow_14 ?_
  refine X.iald C h dX8_isBow_15 1 rfl (fun h => ?_)
  refine X.iload_n C dX8_isBow_16 rfl 3 rfl ?_
  refine X.isub C dX8_isBow_17 ?_
  refine X.istoreN (lv2 := fun lx5_2 => [(5, vi lx5_2), (4, vi lx4_1), (0, .ref (q 31)), (1, vi lx1), (2, vi lx2), (3, vi lx3)]) C h dX8_isBow_18 (by decide) (fun _ => rfl) (fun lx5_2 h => ?_)
  refine X.iload_n C dX8_isBow_20 rfl 5 rfl ?_
  refine X.if_ne (tgt := 30) C h dX8_isBow_21 (by decide) (fun h => ?_) (fun h => ?_)
  · refine X.iload_n C dX8_isBow_30 rfl 5 rfl ?_
    refine X.iconst C dX8_isBow_31 ?_
    refine X.icmp_ne (tgt := 40) C h dX8_isBow_32 (by decide) (fun h => ?_) (fun h => ?_)
    · refine X.iload_n C dX8_isBow_40 rfl 5 rfl ?_
      refine X.iconst C dX8_isBow_41 ?_
      refine X.icmp_ne (tgt := 50) C h dX8_isBow_42 (by decide) (fun h => ?_) (fun h => ?_)
      · refine X.iload C dX8_isBow_50 1 rfl ?_
        refine X.ineg C dX8_isBow_52 ?_
        refine X.sub [5, 1, 0] rfl ?_
        exact xX8_isBow_53 C q M lx3 lx4_1 lx5_2 (-lx4_1) v h
      refine X.iload C dX8_isBow_45 0 rfl ?_
      refine X.goto (tgt := 53) C dX8_isBow_47 (by decide) ?_
      refine X.sub [5, 1, 0] rfl ?_
      exact xX8_isBow_53 C q M lx3 lx4_1 lx5_2 lx5_2 v h
    refine X.iload C dX8_isBow_35 1 rfl ?_
    refine X.goto (tgt := 53) C dX8_isBow_37 (by decide) ?_
    refine X.sub [5, 1, 0] rfl ?_
    exact xX8_isBow_53 C q M lx3 lx4_1 lx5_2 lx4_1 v h
  refine X.iload C dX8_isBow_24 0 rfl ?_
  refine X.ineg C dX8_isBow_26 ?_
  refine X.goto (tgt := 53) C dX8_isBow_27 (by decide) ?_
  refine X.sub [5, 1, 0] rfl ?_
  exact xX8_isBow_53 C q M lx3 lx4_1 lx5_2 (-lx5_2) v h
def rX8_bow : Room := { frames := 2, cells := 0, slots := 0, locals := 57 }
theorem mX8_bow : MV yX8_bow cX8_bow 4 (some .int) 3 := ⟨cd_X8_bow, in_X8, ⟨⟨by decide, by decide⟩, by decide +kernel⟩, im_X8_bow, se_X8_bow⟩
set_option maxHeartbeats 4000000 in
set_option maxRecDepth 100000 in
theorem kX8_bow {l : Launch} {G : GT} (q : Nat → Nat) (M : Ob) (lx1 : Int) (lx2 : Int) (lx3 : Int) (v : (Int)) (h : fX8_bow M lx1 lx2 lx3 = some v) : CT l G yX8_bow cX8_bow 4 (some .int) rX8_bow [.ref (q 31), vi lx1, vi lx2, vi lx3] (W_M G q M) (W_M G q M) (some (vi v)) := by
  unfold fX8_bow at h
  refine CT.of (by decide) (Nat.le_of_ble_eq_true rfl) rfl (fun κ _ C => ?_)
  refine X.aload_n C dX8_bow_0 rfl 0 rfl ?_
  refine X.iload_n C dX8_bow_1 rfl 1 rfl ?_
  refine X.iload_n C dX8_bow_2 rfl 2 rfl ?_
  refine X.callVi (q0 := 0) (As := [vi lx1, vi lx2]) (rest := []) (g := fun rr_1 => rr_1) (W1 := fun rr_1 => (W_M G q M)) (ws2 := fun rr_1 => (W_M G q M)) C h dX8_bow_3 ml_X8_248 mX8_isCell (fun v hv => kX8_isCell q M lx1 lx2 v hv) (fun rr_1 => ln_M_M_m_n (G := G) (q := q) (M := M)) rfl rfl rfl rfl rfl rfl rfl rfl (fun rr_1 h => ?_)
  refine X.if_eq (tgt := 39) C h dX8_bow_6 (by decide) (fun h => ?_) (fun h => ?_)
  · refine X.bipush C dX8_bow_39 (by decide) ?_
    cases h
    exact X.iret C dX8_bow_41 (Nat.zero_le _) (Nat.zero_le _)
  refine X.iload_n C dX8_bow_9 rfl 3 rfl ?_
  refine X.i2l C dX8_bow_10 ?_
  refine X.lconst (z := 0) C dX8_bow_11 (by decide) ?_
  refine X.ldc2 (z := 3) C cl_X8_305 (by decide) dX8_bow_12 ?_
  refine X.callSi (As := [vl (jwl lx3), vl 0, vl 3]) (rest := []) (g := fun rr_2 => rr_2) (W1 := fun rr_2 => W_0) (ws2 := fun rr_2 => (W_M G q M)) C h dX8_bow_15 ml_X8_68 mX8_in (fun v hv => kX8_in (jwl lx3) 0 3 v hv) (fun rr_2 => ln_M_0__n (G := G) (q := q) (M := M)) rfl rfl rfl rfl rfl rfl (fun rr_2 h => ?_)
  refine X.if_eq (tgt := 39) C h dX8_bow_18 (by decide) (fun h => ?_) (fun h => ?_)
  · refine X.bipush C dX8_bow_39 (by decide) ?_
    cases h
    exact X.iret C dX8_bow_41 (Nat.zero_le _) (Nat.zero_le _)
  refine X.aload_n C dX8_bow_21 rfl 0 rfl ?_
  refine X.iload_n C dX8_bow_22 rfl 1 rfl ?_
  refine X.iload_n C dX8_bow_23 rfl 2 rfl ?_
  refine X.iload_n C dX8_bow_24 rfl 3 rfl ?_
  refine X.callVi (q0 := 0) (As := [vi lx1, vi lx2, vi lx3]) (rest := []) (g := fun rr_3 => rr_3) (W1 := fun rr_3 => (W_M G q M)) (ws2 := fun rr_3 => (W_M G q M)) C h dX8_bow_25 ml_X8_428 mX8_isBow (fun v hv => kX8_isBow q M lx1 lx2 lx3 v hv) (fun rr_3 => ln_M_M_m_n (G := G) (q := q) (M := M)) rfl rfl rfl rfl rfl rfl rfl rfl (fun rr_3 h => ?_)
  refine X.if_eq (tgt := 35) C h dX8_bow_28 (by decide) (fun h => ?_) (fun h => ?_)
  · refine X.iconst C dX8_bow_35 ?_
    refine X.goto (tgt := 41) C dX8_bow_36 (by decide) ?_
    cases h
    exact X.iret C dX8_bow_41 (Nat.zero_le _) (Nat.zero_le _)
  refine X.iconst C dX8_bow_31 ?_
  refine X.goto (tgt := 41) C dX8_bow_32 (by decide) ?_
  cases h
  exact X.iret C dX8_bow_41 (Nat.zero_le _) (Nat.zero_le _)
def rX8_bows : Room := { frames := 2, cells := 0, slots := 0, locals := 57 }
theorem mX8_bows : MV yX8_bows cX8_bows 5 (some .int) 1 := ⟨cd_X8_bows, in_X8, ⟨⟨by decide, by decide⟩, by decide +kernel⟩, im_X8_bows, se_X8_bows⟩
set_option maxHeartbeats 4000000 in
set_option maxRecDepth 100000 in
theorem xX8_bows_39 {κ : Kx} {G : GT} (C : Cx κ G yX8_bows cX8_bows (some .int) 5 rX8_bows) (q : Nat → Nat) (M : Ob) (lx1 : Int) (lx3 : Int) (kx0 : Int → Option (Int)) (v : (Int)) (hk0 : ∀ (lx2 : Int), kx0 lx2 = some v → X κ G 5 (W_M G q M) 85 [(0, .ref (q 31)), (1, vi lx1), (2, vi lx2), (3, vi lx3)] [] 0 0 (QM κ G (W_M G q M) (some (vi v)) rX8_bows.cells rX8_bows.slots)) : ∀ (n : Nat) (lx2 : Int) (lx4 : Int), lX8_bows_39 M lx1 lx3 kx0 n lx2 lx4 = some v → X κ G 5 (W_M G q M) 39 [(0, .ref (q 31)), (1, vi lx1), (2, vi lx2), (3, vi lx3), (4, vi lx4)] [] 0 0 (QM κ G (W_M G q M) (some (vi v)) rX8_bows.cells rX8_bows.slots) := by
  intro n
  induction n with
  | zero => intro _ _ h; exact absurd h (fun h => nomatch h)
  | succ n ih =>
    intro lx2 lx4 h
    rw [lX8_bows_39] at h
    refine X.iload C dX8_bows_39 4 rfl ?_
    refine X.aload_n C dX8_bows_41 rfl 0 rfl ?_
    refine X.get C dX8_bows_42 lay_X8 0 rfl rfl 1 (by decide) fl_X8_13 rfl rfl ?_
    refine X.iconst C dX8_bows_45 ?_
    refine X.iald C h dX8_bows_46 1 rfl (fun h => ?_)
    refine X.icmp_ge (tgt := 85) C h dX8_bows_47 (by decide) (fun h => ?_) (fun h => ?_)
    · refine X.sub [0, 1, 2, 3] rfl ?_
      exact hk0 lx2 h
    refine X.iload_n C dX8_bows_50 rfl 2 rfl ?_
    refine X.aload_n C dX8_bows_51 rfl 0 rfl ?_
    refine X.iload C dX8_bows_52 4 rfl ?_
    refine X.iload_n C dX8_bows_54 rfl 3 rfl ?_
    refine X.callVi (q0 := 0) (As := [vi lx4, vi lx3]) (rest := [vi lx2]) (g := fun rr_3 => rr_3) (W1 := fun rr_3 => (W_M G q M)) (ws2 := fun rr_3 => (W_M G q M)) C h dX8_bows_55 ml_X8_232 mX8_isBasin (fun v hv => kX8_isBasin q M lx4 lx3 v hv) (fun rr_3 => ln_M_M_m_n (G := G) (q := q) (M := M)) rfl rfl rfl rfl rfl rfl rfl rfl (fun rr_3 h => ?_)
    refine X.if_ne (tgt := 76) C h dX8_bows_58 (by decide) (fun h => ?_) (fun h => ?_)
    · refine X.iconst C dX8_bows_76 ?_
      refine X.iadd C dX8_bows_77 ?_
      refine X.istoreN_n (lv2 := fun lx2_4 => [(2, vi lx2_4), (0, .ref (q 31)), (1, vi lx1), (3, vi lx3), (4, vi lx4)]) C h dX8_bows_78 rfl (by decide) (fun _ => rfl) (fun lx2_4 h => ?_)
      refine X.iincN (lv2 := fun lx4_5 => [(4, vi lx4_5), (2, vi lx2_4), (0, .ref (q 31)), (1, vi lx1), (3, vi lx3)]) C h dX8_bows_79 4 rfl (by decide) (fun _ => rfl) (fun lx4_5 h => ?_)
      refine X.goto (tgt := 39) C dX8_bows_82 (by decide) ?_
      refine X.sub [2, 3, 1, 4, 0] rfl ?_
      exact ih lx2_4 lx4_5 h
    refine X.aload_n C dX8_bows_61 rfl 0 rfl ?_
    refine X.iload C dX8_bows_62 4 rfl ?_
    refine X.iload_n C dX8_bows_64 rfl 3 rfl ?_
    refine X.iload_n C dX8_bows_65 rfl 1 rfl ?_
    refine X.callVi (q0 := 0) (As := [vi lx4, vi lx3, vi lx1]) (rest := [vi lx2]) (g := fun rr_6 => rr_6) (W1 := fun rr_6 => (W_M G q M)) (ws2 := fun rr_6 => (W_M G q M)) C h dX8_bows_66 ml_X8_428 mX8_isBow (fun v hv => kX8_isBow q M lx4 lx3 lx1 v hv) (fun rr_6 => ln_M_M_m_n (G := G) (q := q) (M := M)) rfl rfl rfl rfl rfl rfl rfl rfl (fun rr_6 h => ?_)
    refine X.if_eq (tgt := 76) C h dX8_bows_69 (by decide) (fun h => ?_) (fun h => ?_)
    · refine X.iconst C dX8_bows_76 ?_
      refine X.iadd C dX8_bows_77 ?_
      refine X.istoreN_n (lv2 := fun lx2_7 => [(2, vi lx2_7), (0, .ref (q 31)), (1, vi lx1), (3, vi lx3), (4, vi lx4)]) C h dX8_bows_78 rfl (by decide) (fun _ => rfl) (fun lx2_7 h => ?_)
      refine X.iincN (lv2 := fun lx4_8 => [(4, vi lx4_8), (2, vi lx2_7), (0, .ref (q 31)), (1, vi lx1), (3, vi lx3)]) C h dX8_bows_79 4 rfl (by decide) (fun _ => rfl) (fun lx4_8 h => ?_)
      refine X.goto (tgt := 39) C dX8_bows_82 (by decide) ?_
      refine X.sub [2, 3, 1, 4, 0] rfl ?_
      exact ih lx2_7 lx4_8 h
    refine X.iconst C dX8_bows_72 ?_
    refine X.goto (tgt := 77) C dX8_bows_73 (by decide) ?_
    refine X.iadd C dX8_bows_77 ?_
    refine X.istoreN_n (lv2 := fun lx2_9 => [(2, vi lx2_9), (0, .ref (q 31)), (1, vi lx1), (3, vi lx3), (4, vi lx4)]) C h dX8_bows_78 rfl (by decide) (fun _ => rfl) (fun lx2_9 h => ?_)
    refine X.iincN (lv2 := fun lx4_10 => [(4, vi lx4_10), (2, vi lx2_9), (0, .ref (q 31)), (1, vi lx1), (3, vi lx3)]) C h dX8_bows_79 4 rfl (by decide) (fun _ => rfl) (fun lx4_10 h => ?_)
    refine X.goto (tgt := 39) C dX8_bows_82 (by decide) ?_
    refine X.sub [2, 3, 1, 4, 0] rfl ?_
    exact ih lx2_9 lx4_10 h
set_option maxHeartbeats 4000000 in
set_option maxRecDepth 100000 in
theorem xX8_bows_26 {κ : Kx} {G : GT} (C : Cx κ G yX8_bows cX8_bows (some .int) 5 rX8_bows) (q : Nat → Nat) (M : Ob) (lx1 : Int) (v : (Int)) : ∀ (n : Nat) (lx2 : Int) (lx3 : Int), lX8_bows_26 M lx1 n lx2 lx3 = some v → X κ G 5 (W_M G q M) 26 [(0, .ref (q 31)), (1, vi lx1), (2, vi lx2), (3, vi lx3)] [] 0 0 (QM κ G (W_M G q M) (some (vi v)) rX8_bows.cells rX8_bows.slots) := by
  intro n
  induction n with
  | zero => intro _ _ h; exact absurd h (fun h => nomatch h)
  | succ n ih =>
    intro lx2 lx3 h
    rw [lX8_bows_26] at h
    refine X.iload_n C dX8_bows_26 rfl 3 rfl ?_
    refine X.aload_n C dX8_bows_27 rfl 0 rfl ?_
    refine X.get C dX8_bows_28 lay_X8 0 rfl rfl 1 (by decide) fl_X8_13 rfl rfl ?_
    refine X.iconst C dX8_bows_31 ?_
    refine X.iald C h dX8_bows_32 1 rfl (fun h => ?_)
    refine X.icmp_ge (tgt := 91) C h dX8_bows_33 (by decide) (fun h => ?_) (fun h => ?_)
    · refine X.iload_n C dX8_bows_91 rfl 2 rfl ?_
      cases h
      exact X.iret C dX8_bows_92 (Nat.zero_le _) (Nat.zero_le _)
    refine X.iconst C dX8_bows_36 ?_
    refine X.istore (lv2 := [(4, vi 0), (0, .ref (q 31)), (1, vi lx1), (2, vi lx2), (3, vi lx3)]) C dX8_bows_37 (by decide) rfl ?_
    refine X.sub [1, 2, 3, 4, 0] rfl ?_
    refine xX8_bows_39 C q M lx1 lx3 _ v (fun lx2_11 h => ?_) FU lx2 0 h
    · refine X.iincN (lv2 := fun lx3_12 => [(3, vi lx3_12), (0, .ref (q 31)), (1, vi lx1), (2, vi lx2_11)]) C h dX8_bows_85 3 rfl (by decide) (fun _ => rfl) (fun lx3_12 h => ?_)
      refine X.goto (tgt := 26) C dX8_bows_88 (by decide) ?_
      refine X.sub [1, 2, 3, 0] rfl ?_
      exact ih lx2_11 lx3_12 h
set_option maxHeartbeats 4000000 in
set_option maxRecDepth 100000 in
theorem kX8_bows {l : Launch} {G : GT} (q : Nat → Nat) (M : Ob) (lx1 : Int) (v : (Int)) (h : fX8_bows M lx1 = some v) : CT l G yX8_bows cX8_bows 5 (some .int) rX8_bows [.ref (q 31), vi lx1] (W_M G q M) (W_M G q M) (some (vi v)) := by
  unfold fX8_bows at h
  refine CT.of (by decide) (Nat.le_of_ble_eq_true rfl) rfl (fun κ _ C => ?_)
  refine X.aload_n C dX8_bows_0 rfl 0 rfl ?_
  refine X.callVi (q0 := 0) (As := []) (rest := []) (g := fun rr_1 => rr_1) (W1 := fun rr_1 => (W_M G q M)) (ws2 := fun rr_1 => (W_M G q M)) C h dX8_bows_1 ml_X8_278 mX8_isSquare (fun v hv => kX8_isSquare q M v hv) (fun rr_1 => ln_M_M_m_n (G := G) (q := q) (M := M)) rfl rfl rfl rfl rfl rfl rfl rfl (fun rr_1 h => ?_)
  refine X.if_eq (tgt := 19) C h dX8_bows_4 (by decide) (fun h => ?_) (fun h => ?_)
  · refine X.bipush C dX8_bows_19 (by decide) ?_
    cases h
    exact X.iret C dX8_bows_21 (Nat.zero_le _) (Nat.zero_le _)
  refine X.iload_n C dX8_bows_7 rfl 1 rfl ?_
  refine X.i2l C dX8_bows_8 ?_
  refine X.lconst (z := 0) C dX8_bows_9 (by decide) ?_
  refine X.ldc2 (z := 3) C cl_X8_305 (by decide) dX8_bows_10 ?_
  refine X.callSi (As := [vl (jwl lx1), vl 0, vl 3]) (rest := []) (g := fun rr_2 => rr_2) (W1 := fun rr_2 => W_0) (ws2 := fun rr_2 => (W_M G q M)) C h dX8_bows_13 ml_X8_68 mX8_in (fun v hv => kX8_in (jwl lx1) 0 3 v hv) (fun rr_2 => ln_M_0__n (G := G) (q := q) (M := M)) rfl rfl rfl rfl rfl rfl (fun rr_2 h => ?_)
  refine X.if_ne (tgt := 22) C h dX8_bows_16 (by decide) (fun h => ?_) (fun h => ?_)
  · refine X.iconst C dX8_bows_22 ?_
    refine X.istore_n (lv2 := [(2, vi 0), (0, .ref (q 31)), (1, vi lx1)]) C dX8_bows_23 rfl (by decide) rfl ?_
    refine X.iconst C dX8_bows_24 ?_
    refine X.istore_n (lv2 := [(3, vi 0), (2, vi 0), (0, .ref (q 31)), (1, vi lx1)]) C dX8_bows_25 rfl (by decide) rfl ?_
    refine X.sub [2, 3, 1, 0] rfl ?_
    refine xX8_bows_26 C q M lx1 v FU 0 0 h
  refine X.bipush C dX8_bows_19 (by decide) ?_
  cases h
  exact X.iret C dX8_bows_21 (Nat.zero_le _) (Nat.zero_le _)
def rX8_mist : Room := { frames := 3, cells := 0, slots := 0, locals := 74 }
theorem mX8_mist : MV yX8_mist cX8_mist 7 (some .int) 2 := ⟨cd_X8_mist, in_X8, ⟨⟨by decide, by decide⟩, by decide +kernel⟩, im_X8_mist, se_X8_mist⟩
set_option maxHeartbeats 4000000 in
set_option maxRecDepth 100000 in
theorem xX8_mist_21 {κ : Kx} {G : GT} (C : Cx κ G yX8_mist cX8_mist (some .int) 7 rX8_mist) (q : Nat → Nat) (lx1 : Int) (lx2 : Int) (kx0 : Ob → Option (Int × Ob)) (v : (Int × Ob)) (hk0 : ∀ (M : Ob), kx0 M = some v → X κ G 7 (W_M G q M) 41 [(0, .ref (q 31)), (1, vi lx1), (2, vi lx2)] [] 0 0 (QM κ G (W_M G q v.2) (some (vi v.1)) rX8_mist.cells rX8_mist.slots)) : ∀ (n : Nat) (lx3 : Int) (M : Ob), lX8_mist_21 lx1 lx2 kx0 n lx3 M = some v → X κ G 7 (W_M G q M) 21 [(0, .ref (q 31)), (1, vi lx1), (2, vi lx2), (3, vi lx3)] [] 0 0 (QM κ G (W_M G q v.2) (some (vi v.1)) rX8_mist.cells rX8_mist.slots) := by
  intro n
  induction n with
  | zero => intro _ _ h; exact absurd h (fun h => nomatch h)
  | succ n ih =>
    intro lx3 M h
    rw [lX8_mist_21] at h
    refine X.iload_n C dX8_mist_21 rfl 3 rfl ?_
    refine X.sipush C dX8_mist_22 (by decide) ?_
    refine X.icmp_ge (tgt := 41) C h dX8_mist_25 (by decide) (fun h => ?_) (fun h => ?_)
    · refine X.sub [0, 1, 2] rfl ?_
      exact hk0 M h
    refine X.aload_n C dX8_mist_28 rfl 0 rfl ?_
    refine X.get C dX8_mist_29 lay_X8 0 rfl rfl 23 (by decide) fl_X8_46 rfl rfl ?_
    refine X.iload_n C dX8_mist_32 rfl 3 rfl ?_
    refine X.iconst C dX8_mist_33 ?_
    refine X.zast (ws2 := (W_M G q (up2 M 23 (ix lx3) (jzb 0)))) C h dX8_mist_34 10 rfl rfl (fun h => ?_)
    refine X.nameS (ws := fun M_3 => (W_M G q M_3)) h (fun M_3 h => ?_)
    refine X.iincN (lv2 := fun lx3_4 => [(3, vi lx3_4), (0, .ref (q 31)), (1, vi lx1), (2, vi lx2)]) C h dX8_mist_35 3 rfl (by decide) (fun _ => rfl) (fun lx3_4 h => ?_)
    refine X.goto (tgt := 21) C dX8_mist_38 (by decide) ?_
    refine X.sub [1, 2, 3, 0] rfl ?_
    exact ih lx3_4 M_3 h
set_option maxHeartbeats 4000000 in
set_option maxRecDepth 100000 in
theorem xX8_mist_46 {κ : Kx} {G : GT} (C : Cx κ G yX8_mist cX8_mist (some .int) 7 rX8_mist) (q : Nat → Nat) (lx1 : Int) (lx2 : Int) (v : (Int × Ob)) : ∀ (n : Nat) (lx3 : Int) (lx4 : Int) (M : Ob), lX8_mist_46 lx1 lx2 n lx3 lx4 M = some v → X κ G 7 (W_M G q M) 46 [(0, .ref (q 31)), (1, vi lx1), (2, vi lx2), (3, vi lx3), (4, vi lx4)] [] 0 0 (QM κ G (W_M G q v.2) (some (vi v.1)) rX8_mist.cells rX8_mist.slots) := by
  intro n
  induction n with
  | zero => intro _ _ _ h; exact absurd h (fun h => nomatch h)
  | succ n ih =>
    intro lx3 lx4 M h
    rw [lX8_mist_46] at h
    refine X.iload C dX8_mist_46 4 rfl ?_
    refine X.bipush C dX8_mist_48 (by decide) ?_
    refine X.icmp_gt (tgt := 169) C h dX8_mist_50 (by decide) (fun h => ?_) (fun h => ?_)
    · refine X.iload_n C dX8_mist_169 rfl 3 rfl ?_
      cases h
      exact X.iret C dX8_mist_170 (Nat.zero_le _) (Nat.zero_le _)
    refine X.aload_n C dX8_mist_53 rfl 0 rfl ?_
    refine X.aload_n C dX8_mist_54 rfl 0 rfl ?_
    refine X.iload_n C dX8_mist_55 rfl 1 rfl ?_
    refine X.callVi (q0 := 0) (As := [vi lx1]) (rest := [.ref (q 31)]) (g := fun rr_6 => rr_6) (W1 := fun rr_6 => (W_M G q M)) (ws2 := fun rr_6 => (W_M G q M)) C h dX8_mist_56 ml_X8_257 mX8_dragOf (fun v hv => kX8_dragOf q M lx1 v hv) (fun rr_6 => ln_M_M_m_n (G := G) (q := q) (M := M)) rfl rfl rfl rfl rfl rfl rfl rfl (fun rr_6 h => ?_)
    refine X.iload C dX8_mist_59 4 rfl ?_
    refine X.iload_n C dX8_mist_61 rfl 2 rfl ?_
    refine X.callVi (q0 := 0) (As := [vi rr_6, vi lx4, vi lx2]) (rest := []) (g := fun rr_7 => rr_7) (W1 := fun rr_7 => (W_M G q M)) (ws2 := fun rr_7 => (W_M G q M)) C h dX8_mist_62 ml_X8_328 mX8_eastOf (fun v hv => kX8_eastOf q M rr_6 lx4 lx2 v hv) (fun rr_7 => ln_M_M_m_n (G := G) (q := q) (M := M)) rfl rfl rfl rfl rfl rfl rfl rfl (fun rr_7 h => ?_)
    refine X.istore (lv2 := [(5, vi rr_7), (0, .ref (q 31)), (1, vi lx1), (2, vi lx2), (3, vi lx3), (4, vi lx4)]) C dX8_mist_65 (by decide) rfl ?_
    refine X.aload_n C dX8_mist_67 rfl 1 rfl ?_
    refine X.aload_n C dX8_mist_68 rfl 1 rfl ?_
    refine X.iload_n C dX8_mist_69 rfl 2 rfl ?_
    refine X.callVi (q0 := 0) (As := [vi lx1]) (rest := [.ref (q 31)]) (g := fun rr_8 => rr_8) (W1 := fun rr_8 => (W_M G q M)) (ws2 := fun rr_8 => (W_M G q M)) C h dX8_mist_70 ml_X8_257 mX8_dragOf (fun v hv => kX8_dragOf q M lx1 v hv) (fun rr_8 => ln_M_M_m_n (G := G) (q := q) (M := M)) rfl rfl rfl rfl rfl rfl rfl rfl (fun rr_8 h => ?_)
    refine X.iload C dX8_mist_73 5 rfl ?_
    refine X.iload_n C dX8_mist_75 rfl 3 rfl ?_
    refine X.callVi (q0 := 0) (As := [vi rr_8, vi lx4, vi lx2]) (rest := []) (g := fun rr_9 => rr_9) (W1 := fun rr_9 => (W_M G q M)) (ws2 := fun rr_9 => (W_M G q M)) C h dX8_mist_76 ml_X8_331 mX8_southOf (fun v hv => kX8_southOf q M rr_8 lx4 lx2 v hv) (fun rr_9 => ln_M_M_m_n (G := G) (q := q) (M := M)) rfl rfl rfl rfl rfl rfl rfl rfl (fun rr_9 h => ?_)
    refine X.istore (lv2 := [(6, vi rr_9), (5, vi rr_7), (0, .ref (q 31)), (1, vi lx1), (2, vi lx2), (3, vi lx3), (4, vi lx4)]) C dX8_mist_79 (by decide) rfl ?_
    refine X.aload_n C dX8_mist_81 rfl 2 rfl ?_
    refine X.iload C dX8_mist_82 1 rfl ?_
    refine X.iload C dX8_mist_84 0 rfl ?_
    refine X.callVi (q0 := 0) (As := [vi rr_7, vi rr_9]) (rest := []) (g := fun rr_10 => rr_10) (W1 := fun rr_10 => (W_M G q M)) (ws2 := fun rr_10 => (W_M G q M)) C h dX8_mist_86 ml_X8_236 mX8_isCaught (fun v hv => kX8_isCaught q M rr_7 rr_9 v hv) (fun rr_10 => ln_M_M_m_n (G := G) (q := q) (M := M)) rfl rfl rfl rfl rfl rfl rfl rfl (fun rr_10 h => ?_)
    refine X.if_ne (tgt := 163) C h dX8_mist_89 (by decide) (fun h => ?_) (fun h => ?_)
    · refine X.iincN (lv2 := fun lx4_11 => [(4, vi lx4_11), (6, vi rr_9), (5, vi rr_7), (0, .ref (q 31)), (1, vi lx1), (2, vi lx2), (3, vi lx3)]) C h dX8_mist_163 6 rfl (by decide) (fun _ => rfl) (fun lx4_11 h => ?_)
      refine X.goto (tgt := 46) C dX8_mist_166 (by decide) ?_
      refine X.sub [3, 4, 5, 6, 0] rfl ?_
      exact ih lx3 lx4_11 M h
    refine X.aload_n C dX8_mist_92 rfl 2 rfl ?_
    refine X.aload_n C dX8_mist_93 rfl 2 rfl ?_
    refine X.iload C dX8_mist_94 1 rfl ?_
    refine X.callVi (q0 := 0) (As := [vi rr_7]) (rest := [.ref (q 31)]) (g := fun rr_12 => rr_12) (W1 := fun rr_12 => (W_M G q M)) (ws2 := fun rr_12 => (W_M G q M)) C h dX8_mist_96 ml_X8_226 mX8_cellX (fun v hv => kX8_cellX q M rr_7 v hv) (fun rr_12 => ln_M_M_m_n (G := G) (q := q) (M := M)) rfl rfl rfl rfl rfl rfl rfl rfl (fun rr_12 h => ?_)
    refine X.aload_n C dX8_mist_99 rfl 2 rfl ?_
    refine X.iload C dX8_mist_100 0 rfl ?_
    refine X.callVi (q0 := 0) (As := [vi rr_9]) (rest := [vi rr_12, .ref (q 31)]) (g := fun rr_13 => rr_13) (W1 := fun rr_13 => (W_M G q M)) (ws2 := fun rr_13 => (W_M G q M)) C h dX8_mist_102 ml_X8_229 mX8_cellY (fun v hv => kX8_cellY q M rr_9 v hv) (fun rr_13 => ln_M_M_m_n (G := G) (q := q) (M := M)) rfl rfl rfl rfl rfl rfl rfl rfl (fun rr_13 h => ?_)
    refine X.callVi (q0 := 0) (As := [vi rr_12, vi rr_13]) (rest := []) (g := fun rr_14 => rr_14) (W1 := fun rr_14 => (W_M G q M)) (ws2 := fun rr_14 => (W_M G q M)) C h dX8_mist_105 ml_X8_248 mX8_isCell (fun v hv => kX8_isCell q M rr_12 rr_13 v hv) (fun rr_14 => ln_M_M_m_n (G := G) (q := q) (M := M)) rfl rfl rfl rfl rfl rfl rfl rfl (fun rr_14 h => ?_)
    refine X.if_eq (tgt := 163) C h dX8_mist_108 (by decide) (fun h => ?_) (fun h => ?_)
    · refine X.iincN (lv2 := fun lx4_15 => [(4, vi lx4_15), (6, vi rr_9), (5, vi rr_7), (0, .ref (q 31)), (1, vi lx1), (2, vi lx2), (3, vi lx3)]) C h dX8_mist_163 6 rfl (by decide) (fun _ => rfl) (fun lx4_15 h => ?_)
      refine X.goto (tgt := 46) C dX8_mist_166 (by decide) ?_
      refine X.sub [3, 4, 5, 6, 0] rfl ?_
      exact ih lx3 lx4_15 M h
    refine X.aload_n C dX8_mist_111 rfl 2 rfl ?_
    refine X.get C dX8_mist_112 lay_X8 0 rfl rfl 23 (by decide) fl_X8_46 rfl rfl ?_
    refine X.bipush C dX8_mist_115 (by decide) ?_
    refine X.aload_n C dX8_mist_117 rfl 2 rfl ?_
    refine X.iload C dX8_mist_118 0 rfl ?_
    refine X.callVi (q0 := 0) (As := [vi rr_9]) (rest := [vi 30, .ref (q 23)]) (g := fun rr_16 => rr_16) (W1 := fun rr_16 => (W_M G q M)) (ws2 := fun rr_16 => (W_M G q M)) C h dX8_mist_120 ml_X8_229 mX8_cellY (fun v hv => kX8_cellY q M rr_9 v hv) (fun rr_16 => ln_M_M_m_n (G := G) (q := q) (M := M)) rfl rfl rfl rfl rfl rfl rfl rfl (fun rr_16 h => ?_)
    refine X.imul C dX8_mist_123 ?_
    refine X.aload_n C dX8_mist_124 rfl 2 rfl ?_
    refine X.iload C dX8_mist_125 1 rfl ?_
    refine X.callVi (q0 := 0) (As := [vi rr_7]) (rest := [vi (30 * rr_16), .ref (q 23)]) (g := fun rr_17 => rr_17) (W1 := fun rr_17 => (W_M G q M)) (ws2 := fun rr_17 => (W_M G q M)) C h dX8_mist_127 ml_X8_226 mX8_cellX (fun v hv => kX8_cellX q M rr_7 v hv) (fun rr_17 => ln_M_M_m_n (G := G) (q := q) (M := M)) rfl rfl rfl rfl rfl rfl rfl rfl (fun rr_17 h => ?_)
    refine X.iadd C dX8_mist_130 ?_
    refine X.zald C h dX8_mist_131 10 rfl (fun h => ?_)
    refine X.if_eq (tgt := 138) C h dX8_mist_132 (by decide) (fun h => ?_) (fun h => ?_)
    · refine X.aload_n C dX8_mist_138 rfl 2 rfl ?_
      refine X.get C dX8_mist_139 lay_X8 0 rfl rfl 23 (by decide) fl_X8_46 rfl rfl ?_
      refine X.bipush C dX8_mist_142 (by decide) ?_
      refine X.aload_n C dX8_mist_144 rfl 2 rfl ?_
      refine X.iload C dX8_mist_145 0 rfl ?_
      refine X.callVi (q0 := 0) (As := [vi rr_9]) (rest := [vi 30, .ref (q 23)]) (g := fun rr_18 => rr_18) (W1 := fun rr_18 => (W_M G q M)) (ws2 := fun rr_18 => (W_M G q M)) C h dX8_mist_147 ml_X8_229 mX8_cellY (fun v hv => kX8_cellY q M rr_9 v hv) (fun rr_18 => ln_M_M_m_n (G := G) (q := q) (M := M)) rfl rfl rfl rfl rfl rfl rfl rfl (fun rr_18 h => ?_)
      refine X.imul C dX8_mist_150 ?_
      refine X.aload_n C dX8_mist_151 rfl 2 rfl ?_
      refine X.iload C dX8_mist_152 1 rfl ?_
      refine X.callVi (q0 := 0) (As := [vi rr_7]) (rest := [vi (30 * rr_18), .ref (q 23)]) (g := fun rr_19 => rr_19) (W1 := fun rr_19 => (W_M G q M)) (ws2 := fun rr_19 => (W_M G q M)) C h dX8_mist_154 ml_X8_226 mX8_cellX (fun v hv => kX8_cellX q M rr_7 v hv) (fun rr_19 => ln_M_M_m_n (G := G) (q := q) (M := M)) rfl rfl rfl rfl rfl rfl rfl rfl (fun rr_19 h => ?_)
      refine X.iadd C dX8_mist_157 ?_
      refine X.iconst C dX8_mist_158 ?_
      refine X.zast (ws2 := (W_M G q (up2 M 23 (ix ((30 * rr_18) + rr_19)) (jzb 1)))) C h dX8_mist_159 10 rfl rfl (fun h => ?_)
      refine X.nameS (ws := fun M_20 => (W_M G q M_20)) h (fun M_20 h => ?_)
      refine X.iincN (lv2 := fun lx3_21 => [(3, vi lx3_21), (6, vi rr_9), (5, vi rr_7), (0, .ref (q 31)), (1, vi lx1), (2, vi lx2), (4, vi lx4)]) C h dX8_mist_160 5 rfl (by decide) (fun _ => rfl) (fun lx3_21 h => ?_)
      refine X.iincN (lv2 := fun lx4_22 => [(4, vi lx4_22), (3, vi lx3_21), (6, vi rr_9), (5, vi rr_7), (0, .ref (q 31)), (1, vi lx1), (2, vi lx2)]) C h dX8_mist_163 6 rfl (by decide) (fun _ => rfl) (fun lx4_22 h => ?_)
      refine X.goto (tgt := 46) C dX8_mist_166 (by decide) ?_
      refine X.sub [4, 5, 6, 1, 0] rfl ?_
      exact ih lx3_21 lx4_22 M_20 h
    refine X.goto (tgt := 163) C dX8_mist_135 (by decide) ?_
    refine X.iincN (lv2 := fun lx4_23 => [(4, vi lx4_23), (6, vi rr_9), (5, vi rr_7), (0, .ref (q 31)), (1, vi lx1), (2, vi lx2), (3, vi lx3)]) C h dX8_mist_163 6 rfl (by decide) (fun _ => rfl) (fun lx4_23 h => ?_)
    refine X.goto (tgt := 46) C dX8_mist_166 (by decide) ?_
    refine X.sub [3, 4, 5, 6, 0] rfl ?_
    exact ih lx3 lx4_23 M h
set_option maxHeartbeats 4000000 in
set_option maxRecDepth 100000 in
theorem kX8_mist {l : Launch} {G : GT} (q : Nat → Nat) (M : Ob) (lx1 : Int) (lx2 : Int) (v : (Int × Ob)) (h : fX8_mist M lx1 lx2 = some v) : CT l G yX8_mist cX8_mist 7 (some .int) rX8_mist [.ref (q 31), vi lx1, vi lx2] (W_M G q M) (W_M G q v.2) (some (vi v.1)) := by
  unfold fX8_mist at h
  refine CT.of (by decide) (Nat.le_of_ble_eq_true rfl) rfl (fun κ _ C => ?_)
  refine X.aload_n C dX8_mist_0 rfl 0 rfl ?_
  refine X.iload_n C dX8_mist_1 rfl 1 rfl ?_
  refine X.callVi (q0 := 0) (As := [vi lx1]) (rest := []) (g := fun rr_1 => rr_1) (W1 := fun rr_1 => (W_M G q M)) (ws2 := fun rr_1 => (W_M G q M)) C h dX8_mist_2 ml_X8_325 mX8_isSize (fun v hv => kX8_isSize q M lx1 v hv) (fun rr_1 => ln_M_M_m_n (G := G) (q := q) (M := M)) rfl rfl rfl rfl rfl rfl rfl rfl (fun rr_1 h => ?_)
  refine X.if_eq (tgt := 16) C h dX8_mist_5 (by decide) (fun h => ?_) (fun h => ?_)
  · refine X.bipush C dX8_mist_16 (by decide) ?_
    cases h
    exact X.iret C dX8_mist_18 (Nat.zero_le _) (Nat.zero_le _)
  refine X.iload_n C dX8_mist_8 rfl 2 rfl ?_
  refine X.i2l C dX8_mist_9 ?_
  refine X.callSi (As := [vl (jwl lx2)]) (rest := []) (g := fun rr_2 => rr_2) (W1 := fun rr_2 => W_0) (ws2 := fun rr_2 => (W_M G q M)) C h dX8_mist_10 ml_X8_281 mX8_isWind (fun v hv => kX8_isWind (jwl lx2) v hv) (fun rr_2 => ln_M_0__n (G := G) (q := q) (M := M)) rfl rfl rfl rfl rfl rfl (fun rr_2 h => ?_)
  refine X.if_ne (tgt := 19) C h dX8_mist_13 (by decide) (fun h => ?_) (fun h => ?_)
  · refine X.iconst C dX8_mist_19 ?_
    refine X.istore_n (lv2 := [(3, vi 0), (0, .ref (q 31)), (1, vi lx1), (2, vi lx2)]) C dX8_mist_20 rfl (by decide) rfl ?_
    refine X.sub [1, 2, 3, 0] rfl ?_
    refine xX8_mist_21 C q lx1 lx2 _ v (fun M_5 h => ?_) FU 0 M h
    · refine X.iconst C dX8_mist_41 ?_
      refine X.istore_n (lv2 := [(3, vi 0), (0, .ref (q 31)), (1, vi lx1), (2, vi lx2)]) C dX8_mist_42 rfl (by decide) rfl ?_
      refine X.iconst C dX8_mist_43 ?_
      refine X.istore (lv2 := [(4, vi 1), (3, vi 0), (0, .ref (q 31)), (1, vi lx1), (2, vi lx2)]) C dX8_mist_44 (by decide) rfl ?_
      refine X.sub [2, 3, 4, 1, 0] rfl ?_
      refine xX8_mist_46 C q lx1 lx2 v FU 0 1 M_5 h
  refine X.bipush C dX8_mist_16 (by decide) ?_
  cases h
  exact X.iret C dX8_mist_18 (Nat.zero_le _) (Nat.zero_le _)
def rX8_sum : Room := { frames := 2, cells := 0, slots := 0, locals := 47 }
theorem mX8_sum : MV yX8_sum cX8_sum 8 (some .int) 4 := ⟨cd_X8_sum, in_X8, ⟨⟨by decide, by decide⟩, by decide +kernel⟩, im_X8_sum, se_X8_sum⟩
set_option maxHeartbeats 4000000 in
set_option maxRecDepth 100000 in
theorem xX8_sum_64 {κ : Kx} {G : GT} (C : Cx κ G yX8_sum cX8_sum (some .int) 8 rX8_sum) (q : Nat → Nat) (M : Ob) (lx1 : Int) (lx2 : Int) (lx3 : Int) (lx4 : Int) (lx6 : Int) (kx0 : Int → Option (Int)) (v : (Int)) (hk0 : ∀ (lx5 : Int), kx0 lx5 = some v → X κ G 8 (W_M G q M) 100 [(0, .ref (q 31)), (1, vi lx1), (2, vi lx2), (3, vi lx3), (4, vi lx4), (5, vi lx5), (6, vi lx6)] [] 0 0 (QM κ G (W_M G q M) (some (vi v)) rX8_sum.cells rX8_sum.slots)) : ∀ (n : Nat) (lx5 : Int) (lx7 : Int), lX8_sum_64 M lx1 lx2 lx3 lx4 lx6 kx0 n lx5 lx7 = some v → X κ G 8 (W_M G q M) 64 [(0, .ref (q 31)), (1, vi lx1), (2, vi lx2), (3, vi lx3), (4, vi lx4), (5, vi lx5), (6, vi lx6), (7, vi lx7)] [] 0 0 (QM κ G (W_M G q M) (some (vi v)) rX8_sum.cells rX8_sum.slots) := by
  intro n
  induction n with
  | zero => intro _ _ h; exact absurd h (fun h => nomatch h)
  | succ n ih =>
    intro lx5 lx7 h
    rw [lX8_sum_64] at h
    refine X.iload C dX8_sum_64 7 rfl ?_
    refine X.iload_n C dX8_sum_66 rfl 1 rfl ?_
    refine X.iload_n C dX8_sum_67 rfl 3 rfl ?_
    refine X.iadd C dX8_sum_68 ?_
    refine X.aload_n C dX8_sum_69 rfl 0 rfl ?_
    refine X.get C dX8_sum_70 lay_X8 0 rfl rfl 1 (by decide) fl_X8_13 rfl rfl ?_
    refine X.iconst C dX8_sum_73 ?_
    refine X.iald C h dX8_sum_74 1 rfl (fun h => ?_)
    refine X.mmin C dX8_sum_75 ml_X8_110 sm_J9_min_7cf53 in_java_lang_Math cd_J9_min_7cf53 (Nat.le_of_ble_eq_true rfl) (Nat.le_of_ble_eq_true rfl) (Nat.zero_le _) (Nat.zero_le _) ?_
    refine X.icmp_ge (tgt := 100) C h dX8_sum_78 (by decide) (fun h => ?_) (fun h => ?_)
    · refine X.sub [0, 1, 2, 3, 4, 5, 6] rfl ?_
      exact hk0 lx5 h
    refine X.iload C dX8_sum_81 5 rfl ?_
    refine X.aload_n C dX8_sum_83 rfl 0 rfl ?_
    refine X.iload C dX8_sum_84 7 rfl ?_
    refine X.iload C dX8_sum_86 6 rfl ?_
    refine X.callVi (q0 := 0) (As := [vi lx7, vi lx6]) (rest := [vi lx5]) (g := fun rr_4 => rr_4) (W1 := fun rr_4 => (W_M G q M)) (ws2 := fun rr_4 => (W_M G q M)) C h dX8_sum_88 ml_X8_76 mX8_wetOf (fun v hv => kX8_wetOf q M lx7 lx6 v hv) (fun rr_4 => ln_M_M_m_n (G := G) (q := q) (M := M)) rfl rfl rfl rfl rfl rfl rfl rfl (fun rr_4 h => ?_)
    refine X.iadd C dX8_sum_91 ?_
    refine X.istoreN (lv2 := fun lx5_5 => [(5, vi lx5_5), (0, .ref (q 31)), (1, vi lx1), (2, vi lx2), (3, vi lx3), (4, vi lx4), (6, vi lx6), (7, vi lx7)]) C h dX8_sum_92 (by decide) (fun _ => rfl) (fun lx5_5 h => ?_)
    refine X.iincN (lv2 := fun lx7_6 => [(7, vi lx7_6), (5, vi lx5_5), (0, .ref (q 31)), (1, vi lx1), (2, vi lx2), (3, vi lx3), (4, vi lx4), (6, vi lx6)]) C h dX8_sum_94 7 rfl (by decide) (fun _ => rfl) (fun lx7_6 h => ?_)
    refine X.goto (tgt := 64) C dX8_sum_97 (by decide) ?_
    refine X.sub [2, 3, 4, 5, 6, 1, 7, 0] rfl ?_
    exact ih lx5_5 lx7_6 h
set_option maxHeartbeats 4000000 in
set_option maxRecDepth 100000 in
theorem xX8_sum_43 {κ : Kx} {G : GT} (C : Cx κ G yX8_sum cX8_sum (some .int) 8 rX8_sum) (q : Nat → Nat) (M : Ob) (lx1 : Int) (lx2 : Int) (lx3 : Int) (lx4 : Int) (v : (Int)) : ∀ (n : Nat) (lx5 : Int) (lx6 : Int), lX8_sum_43 M lx1 lx2 lx3 lx4 n lx5 lx6 = some v → X κ G 8 (W_M G q M) 43 [(0, .ref (q 31)), (1, vi lx1), (2, vi lx2), (3, vi lx3), (4, vi lx4), (5, vi lx5), (6, vi lx6)] [] 0 0 (QM κ G (W_M G q M) (some (vi v)) rX8_sum.cells rX8_sum.slots) := by
  intro n
  induction n with
  | zero => intro _ _ h; exact absurd h (fun h => nomatch h)
  | succ n ih =>
    intro lx5 lx6 h
    rw [lX8_sum_43] at h
    refine X.iload C dX8_sum_43 6 rfl ?_
    refine X.iload_n C dX8_sum_45 rfl 2 rfl ?_
    refine X.iload C dX8_sum_46 4 rfl ?_
    refine X.iadd C dX8_sum_48 ?_
    refine X.aload_n C dX8_sum_49 rfl 0 rfl ?_
    refine X.get C dX8_sum_50 lay_X8 0 rfl rfl 1 (by decide) fl_X8_13 rfl rfl ?_
    refine X.iconst C dX8_sum_53 ?_
    refine X.iald C h dX8_sum_54 1 rfl (fun h => ?_)
    refine X.mmin C dX8_sum_55 ml_X8_110 sm_J9_min_7cf53 in_java_lang_Math cd_J9_min_7cf53 (Nat.le_of_ble_eq_true rfl) (Nat.le_of_ble_eq_true rfl) (Nat.zero_le _) (Nat.zero_le _) ?_
    refine X.icmp_ge (tgt := 106) C h dX8_sum_58 (by decide) (fun h => ?_) (fun h => ?_)
    · refine X.iload C dX8_sum_106 5 rfl ?_
      cases h
      exact X.iret C dX8_sum_108 (Nat.zero_le _) (Nat.zero_le _)
    refine X.iload_n C dX8_sum_61 rfl 1 rfl ?_
    refine X.istore (lv2 := [(7, vi lx1), (0, .ref (q 31)), (1, vi lx1), (2, vi lx2), (3, vi lx3), (4, vi lx4), (5, vi lx5), (6, vi lx6)]) C dX8_sum_62 (by decide) rfl ?_
    refine X.sub [1, 2, 3, 4, 5, 6, 7, 0] rfl ?_
    refine xX8_sum_64 C q M lx1 lx2 lx3 lx4 lx6 _ v (fun lx5_7 h => ?_) FU lx5 lx1 h
    · refine X.iincN (lv2 := fun lx6_8 => [(6, vi lx6_8), (0, .ref (q 31)), (1, vi lx1), (2, vi lx2), (3, vi lx3), (4, vi lx4), (5, vi lx5_7)]) C h dX8_sum_100 6 rfl (by decide) (fun _ => rfl) (fun lx6_8 h => ?_)
      refine X.goto (tgt := 43) C dX8_sum_103 (by decide) ?_
      refine X.sub [1, 2, 3, 4, 5, 6, 0] rfl ?_
      exact ih lx5_7 lx6_8 h
set_option maxHeartbeats 4000000 in
set_option maxRecDepth 100000 in
theorem kX8_sum {l : Launch} {G : GT} (q : Nat → Nat) (M : Ob) (lx1 : Int) (lx2 : Int) (lx3 : Int) (lx4 : Int) (v : (Int)) (h : fX8_sum M lx1 lx2 lx3 lx4 = some v) : CT l G yX8_sum cX8_sum 8 (some .int) rX8_sum [.ref (q 31), vi lx1, vi lx2, vi lx3, vi lx4] (W_M G q M) (W_M G q M) (some (vi v)) := by
  unfold fX8_sum at h
  refine CT.of (by decide) (Nat.le_of_ble_eq_true rfl) rfl (fun κ _ C => ?_)
  refine X.aload_n C dX8_sum_0 rfl 0 rfl ?_
  refine X.iload_n C dX8_sum_1 rfl 1 rfl ?_
  refine X.iload_n C dX8_sum_2 rfl 2 rfl ?_
  refine X.callVi (q0 := 0) (As := [vi lx1, vi lx2]) (rest := []) (g := fun rr_1 => rr_1) (W1 := fun rr_1 => (W_M G q M)) (ws2 := fun rr_1 => (W_M G q M)) C h dX8_sum_3 ml_X8_248 mX8_isCell (fun v hv => kX8_isCell q M lx1 lx2 v hv) (fun rr_1 => ln_M_M_m_n (G := G) (q := q) (M := M)) rfl rfl rfl rfl rfl rfl rfl rfl (fun rr_1 h => ?_)
  refine X.if_eq (tgt := 34) C h dX8_sum_6 (by decide) (fun h => ?_) (fun h => ?_)
  · refine X.bipush C dX8_sum_34 (by decide) ?_
    cases h
    exact X.iret C dX8_sum_36 (Nat.zero_le _) (Nat.zero_le _)
  refine X.iload_n C dX8_sum_9 rfl 3 rfl ?_
  refine X.i2l C dX8_sum_10 ?_
  refine X.lconst (z := 1) C dX8_sum_11 (by decide) ?_
  refine X.ldc2 (z := 30) C cl_X8_431 (by decide) dX8_sum_12 ?_
  refine X.callSi (As := [vl (jwl lx3), vl 1, vl 30]) (rest := []) (g := fun rr_2 => rr_2) (W1 := fun rr_2 => W_0) (ws2 := fun rr_2 => (W_M G q M)) C h dX8_sum_15 ml_X8_68 mX8_in (fun v hv => kX8_in (jwl lx3) 1 30 v hv) (fun rr_2 => ln_M_0__n (G := G) (q := q) (M := M)) rfl rfl rfl rfl rfl rfl (fun rr_2 h => ?_)
  refine X.if_eq (tgt := 34) C h dX8_sum_18 (by decide) (fun h => ?_) (fun h => ?_)
  · refine X.bipush C dX8_sum_34 (by decide) ?_
    cases h
    exact X.iret C dX8_sum_36 (Nat.zero_le _) (Nat.zero_le _)
  refine X.iload C dX8_sum_21 4 rfl ?_
  refine X.i2l C dX8_sum_23 ?_
  refine X.lconst (z := 1) C dX8_sum_24 (by decide) ?_
  refine X.ldc2 (z := 30) C cl_X8_431 (by decide) dX8_sum_25 ?_
  refine X.callSi (As := [vl (jwl lx4), vl 1, vl 30]) (rest := []) (g := fun rr_3 => rr_3) (W1 := fun rr_3 => W_0) (ws2 := fun rr_3 => (W_M G q M)) C h dX8_sum_28 ml_X8_68 mX8_in (fun v hv => kX8_in (jwl lx4) 1 30 v hv) (fun rr_3 => ln_M_0__n (G := G) (q := q) (M := M)) rfl rfl rfl rfl rfl rfl (fun rr_3 h => ?_)
  refine X.if_ne (tgt := 37) C h dX8_sum_31 (by decide) (fun h => ?_) (fun h => ?_)
  · refine X.iconst C dX8_sum_37 ?_
    refine X.istore (lv2 := [(5, vi 0), (0, .ref (q 31)), (1, vi lx1), (2, vi lx2), (3, vi lx3), (4, vi lx4)]) C dX8_sum_38 (by decide) rfl ?_
    refine X.iload_n C dX8_sum_40 rfl 3 rfl ?_
    refine X.istore (lv2 := [(6, vi lx2), (5, vi 0), (0, .ref (q 31)), (1, vi lx1), (2, vi lx2), (3, vi lx3), (4, vi lx4)]) C dX8_sum_41 (by decide) rfl ?_
    refine X.sub [2, 3, 4, 5, 6, 1, 0] rfl ?_
    refine xX8_sum_43 C q M lx1 lx2 lx3 lx4 v FU 0 lx2 h
  refine X.bipush C dX8_sum_34 (by decide) ?_
  cases h
  exact X.iret C dX8_sum_36 (Nat.zero_le _) (Nat.zero_le _)
def rX8_wettest : Room := { frames := 1, cells := 0, slots := 0, locals := 25 }
theorem mX8_wettest : MV yX8_wettest cX8_wettest 6 (some .int) 1 := ⟨cd_X8_wettest, in_X8, ⟨⟨by decide, by decide⟩, by decide +kernel⟩, im_X8_wettest, se_X8_wettest⟩
set_option maxHeartbeats 4000000 in
set_option maxRecDepth 100000 in
theorem xX8_wettest_41 {κ : Kx} {G : GT} (C : Cx κ G yX8_wettest cX8_wettest (some .int) 6 rX8_wettest) (q : Nat → Nat) (M : Ob) (lx1 : Int) (lx4 : Int) (kx0 : Int → Int → Option (Int)) (v : (Int)) (hk0 : ∀ (lx2 : Int) (lx3 : Int), kx0 lx2 lx3 = some v → X κ G 6 (W_M G q M) 91 [(0, .ref (q 31)), (1, vi lx1), (2, vi lx2), (3, vi lx3), (4, vi lx4)] [] 0 0 (QM κ G (W_M G q M) (some (vi v)) rX8_wettest.cells rX8_wettest.slots)) : ∀ (n : Nat) (lx2 : Int) (lx3 : Int) (lx5 : Int), lX8_wettest_41 M lx1 lx4 kx0 n lx2 lx3 lx5 = some v → X κ G 6 (W_M G q M) 41 [(0, .ref (q 31)), (1, vi lx1), (2, vi lx2), (3, vi lx3), (4, vi lx4), (5, vi lx5)] [] 0 0 (QM κ G (W_M G q M) (some (vi v)) rX8_wettest.cells rX8_wettest.slots) := by
  intro n
  induction n with
  | zero => intro _ _ _ h; exact absurd h (fun h => nomatch h)
  | succ n ih =>
    intro lx2 lx3 lx5 h
    rw [lX8_wettest_41] at h
    refine X.iload C dX8_wettest_41 5 rfl ?_
    refine X.aload_n C dX8_wettest_43 rfl 0 rfl ?_
    refine X.get C dX8_wettest_44 lay_X8 0 rfl rfl 1 (by decide) fl_X8_13 rfl rfl ?_
    refine X.iconst C dX8_wettest_47 ?_
    refine X.iald C h dX8_wettest_48 1 rfl (fun h => ?_)
    refine X.icmp_ge (tgt := 91) C h dX8_wettest_49 (by decide) (fun h => ?_) (fun h => ?_)
    · refine X.sub [0, 1, 2, 3, 4] rfl ?_
      exact hk0 lx2 lx3 h
    refine X.aload_n C dX8_wettest_52 rfl 0 rfl ?_
    refine X.iload C dX8_wettest_53 5 rfl ?_
    refine X.iload C dX8_wettest_55 4 rfl ?_
    refine X.callVi (q0 := 0) (As := [vi lx5, vi lx4]) (rest := []) (g := fun rr_3 => rr_3) (W1 := fun rr_3 => (W_M G q M)) (ws2 := fun rr_3 => (W_M G q M)) C h dX8_wettest_57 ml_X8_76 mX8_wetOf (fun v hv => kX8_wetOf q M lx5 lx4 v hv) (fun rr_3 => ln_M_M_m_n (G := G) (q := q) (M := M)) rfl rfl rfl rfl rfl rfl rfl rfl (fun rr_3 h => ?_)
    refine X.iload_n C dX8_wettest_60 rfl 3 rfl ?_
    refine X.icmp_gt (tgt := 67) C h dX8_wettest_61 (by decide) (fun h => ?_) (fun h => ?_)
    · refine X.iload C dX8_wettest_67 5 rfl ?_
      refine X.bipush C dX8_wettest_69 (by decide) ?_
      refine X.iload C dX8_wettest_71 4 rfl ?_
      refine X.imul C dX8_wettest_73 ?_
      refine X.iadd C dX8_wettest_74 ?_
      refine X.istoreN_n (lv2 := fun lx2_4 => [(2, vi lx2_4), (0, .ref (q 31)), (1, vi lx1), (3, vi lx3), (4, vi lx4), (5, vi lx5)]) C h dX8_wettest_75 rfl (by decide) (fun _ => rfl) (fun lx2_4 h => ?_)
      refine X.aload_n C dX8_wettest_76 rfl 1 rfl ?_
      refine X.iload C dX8_wettest_77 5 rfl ?_
      refine X.iload C dX8_wettest_79 4 rfl ?_
      refine X.callVi (q0 := 0) (As := [vi lx5, vi lx4]) (rest := []) (g := fun rr_5 => rr_5) (W1 := fun rr_5 => (W_M G q M)) (ws2 := fun rr_5 => (W_M G q M)) C h dX8_wettest_81 ml_X8_76 mX8_wetOf (fun v hv => kX8_wetOf q M lx5 lx4 v hv) (fun rr_5 => ln_M_M_m_n (G := G) (q := q) (M := M)) rfl rfl rfl rfl rfl rfl rfl rfl (fun rr_5 h => ?_)
      refine X.istore_n (lv2 := [(3, vi rr_5), (2, vi lx2_4), (0, .ref (q 31)), (1, vi lx1), (4, vi lx4), (5, vi lx5)]) C dX8_wettest_84 rfl (by decide) rfl ?_
      refine X.iincN (lv2 := fun lx5_6 => [(5, vi lx5_6), (3, vi rr_5), (2, vi lx2_4), (0, .ref (q 31)), (1, vi lx1), (4, vi lx4)]) C h dX8_wettest_85 5 rfl (by decide) (fun _ => rfl) (fun lx5_6 h => ?_)
      refine X.goto (tgt := 41) C dX8_wettest_88 (by decide) ?_
      refine X.sub [3, 4, 2, 1, 5, 0] rfl ?_
      exact ih lx2_4 rr_5 lx5_6 h
    refine X.goto (tgt := 85) C dX8_wettest_64 (by decide) ?_
    refine X.iincN (lv2 := fun lx5_7 => [(5, vi lx5_7), (0, .ref (q 31)), (1, vi lx1), (2, vi lx2), (3, vi lx3), (4, vi lx4)]) C h dX8_wettest_85 5 rfl (by decide) (fun _ => rfl) (fun lx5_7 h => ?_)
    refine X.goto (tgt := 41) C dX8_wettest_88 (by decide) ?_
    refine X.sub [1, 2, 3, 4, 5, 0] rfl ?_
    exact ih lx2 lx3 lx5_7 h
set_option maxHeartbeats 4000000 in
set_option maxRecDepth 100000 in
theorem xX8_wettest_27 {κ : Kx} {G : GT} (C : Cx κ G yX8_wettest cX8_wettest (some .int) 6 rX8_wettest) (q : Nat → Nat) (M : Ob) (lx1 : Int) (kx0 : Int → Int → Option (Int)) (v : (Int)) (hk0 : ∀ (lx2 : Int) (lx3 : Int), kx0 lx2 lx3 = some v → X κ G 6 (W_M G q M) 97 [(1, vi lx1), (2, vi lx2), (3, vi lx3)] [] 0 0 (QM κ G (W_M G q M) (some (vi v)) rX8_wettest.cells rX8_wettest.slots)) : ∀ (n : Nat) (lx2 : Int) (lx3 : Int) (lx4 : Int), lX8_wettest_27 M lx1 kx0 n lx2 lx3 lx4 = some v → X κ G 6 (W_M G q M) 27 [(0, .ref (q 31)), (1, vi lx1), (2, vi lx2), (3, vi lx3), (4, vi lx4)] [] 0 0 (QM κ G (W_M G q M) (some (vi v)) rX8_wettest.cells rX8_wettest.slots) := by
  intro n
  induction n with
  | zero => intro _ _ _ h; exact absurd h (fun h => nomatch h)
  | succ n ih =>
    intro lx2 lx3 lx4 h
    rw [lX8_wettest_27] at h
    refine X.iload C dX8_wettest_27 4 rfl ?_
    refine X.aload_n C dX8_wettest_29 rfl 0 rfl ?_
    refine X.get C dX8_wettest_30 lay_X8 0 rfl rfl 1 (by decide) fl_X8_13 rfl rfl ?_
    refine X.iconst C dX8_wettest_33 ?_
    refine X.iald C h dX8_wettest_34 1 rfl (fun h => ?_)
    refine X.icmp_ge (tgt := 97) C h dX8_wettest_35 (by decide) (fun h => ?_) (fun h => ?_)
    · refine X.sub [1, 2, 3] rfl ?_
      exact hk0 lx2 lx3 h
    refine X.iconst C dX8_wettest_38 ?_
    refine X.istore (lv2 := [(5, vi 0), (0, .ref (q 31)), (1, vi lx1), (2, vi lx2), (3, vi lx3), (4, vi lx4)]) C dX8_wettest_39 (by decide) rfl ?_
    refine X.sub [1, 2, 3, 4, 5, 0] rfl ?_
    refine xX8_wettest_41 C q M lx1 lx4 _ v (fun lx2_8 lx3_9 h => ?_) FU lx2 lx3 0 h
    · refine X.iincN (lv2 := fun lx4_10 => [(4, vi lx4_10), (0, .ref (q 31)), (1, vi lx1), (2, vi lx2_8), (3, vi lx3_9)]) C h dX8_wettest_91 4 rfl (by decide) (fun _ => rfl) (fun lx4_10 h => ?_)
      refine X.goto (tgt := 27) C dX8_wettest_94 (by decide) ?_
      refine X.sub [1, 2, 3, 4, 0] rfl ?_
      exact ih lx2_8 lx3_9 lx4_10 h
set_option maxHeartbeats 4000000 in
set_option maxRecDepth 100000 in
theorem kX8_wettest {l : Launch} {G : GT} (q : Nat → Nat) (M : Ob) (lx1 : Int) (v : (Int)) (h : fX8_wettest M lx1 = some v) : CT l G yX8_wettest cX8_wettest 6 (some .int) rX8_wettest [.ref (q 31), vi lx1] (W_M G q M) (W_M G q M) (some (vi v)) := by
  unfold fX8_wettest at h
  refine CT.of (by decide) (Nat.le_of_ble_eq_true rfl) rfl (fun κ _ C => ?_)
  refine X.aload_n C dX8_wettest_0 rfl 0 rfl ?_
  refine X.callVi (q0 := 0) (As := []) (rest := []) (g := fun rr_1 => rr_1) (W1 := fun rr_1 => (W_M G q M)) (ws2 := fun rr_1 => (W_M G q M)) C h dX8_wettest_1 ml_X8_278 mX8_isSquare (fun v hv => kX8_isSquare q M v hv) (fun rr_1 => ln_M_M_m_n (G := G) (q := q) (M := M)) rfl rfl rfl rfl rfl rfl rfl rfl (fun rr_1 h => ?_)
  refine X.if_eq (tgt := 17) C h dX8_wettest_4 (by decide) (fun h => ?_) (fun h => ?_)
  · refine X.bipush C dX8_wettest_17 (by decide) ?_
    cases h
    exact X.iret C dX8_wettest_19 (Nat.zero_le _) (Nat.zero_le _)
  refine X.iload_n C dX8_wettest_7 rfl 1 rfl ?_
  refine X.i2l C dX8_wettest_8 ?_
  refine X.lconst (z := 0) C dX8_wettest_9 (by decide) ?_
  refine X.lconst (z := 1) C dX8_wettest_10 (by decide) ?_
  refine X.callSi (As := [vl (jwl lx1), vl 0, vl 1]) (rest := []) (g := fun rr_2 => rr_2) (W1 := fun rr_2 => W_0) (ws2 := fun rr_2 => (W_M G q M)) C h dX8_wettest_11 ml_X8_68 mX8_in (fun v hv => kX8_in (jwl lx1) 0 1 v hv) (fun rr_2 => ln_M_0__n (G := G) (q := q) (M := M)) rfl rfl rfl rfl rfl rfl (fun rr_2 h => ?_)
  refine X.if_ne (tgt := 20) C h dX8_wettest_14 (by decide) (fun h => ?_) (fun h => ?_)
  · refine X.iconst C dX8_wettest_20 ?_
    refine X.istore_n (lv2 := [(2, vi (-1)), (0, .ref (q 31)), (1, vi lx1)]) C dX8_wettest_21 rfl (by decide) rfl ?_
    refine X.iconst C dX8_wettest_22 ?_
    refine X.istore_n (lv2 := [(3, vi 0), (2, vi (-1)), (0, .ref (q 31)), (1, vi lx1)]) C dX8_wettest_23 rfl (by decide) rfl ?_
    refine X.iconst C dX8_wettest_24 ?_
    refine X.istore (lv2 := [(4, vi 0), (3, vi 0), (2, vi (-1)), (0, .ref (q 31)), (1, vi lx1)]) C dX8_wettest_25 (by decide) rfl ?_
    refine X.sub [3, 4, 2, 1, 0] rfl ?_
    refine xX8_wettest_27 C q M lx1 _ v (fun lx2_11 lx3_12 h => ?_) FU (-1) 0 0 h
    · refine X.iload_n C dX8_wettest_97 rfl 1 rfl ?_
      refine X.iconst C dX8_wettest_98 ?_
      refine X.icmp_ne (tgt := 106) C h dX8_wettest_99 (by decide) (fun h => ?_) (fun h => ?_)
      · refine X.iload_n C dX8_wettest_106 rfl 0 rfl ?_
        refine X.if_ne (tgt := 114) C h dX8_wettest_107 (by decide) (fun h => ?_) (fun h => ?_)
        · refine X.iload_n C dX8_wettest_114 rfl 2 rfl ?_
          cases h
          exact X.iret C dX8_wettest_115 (Nat.zero_le _) (Nat.zero_le _)
        refine X.iload_n C dX8_wettest_110 rfl 1 rfl ?_
        refine X.goto (tgt := 115) C dX8_wettest_111 (by decide) ?_
        cases h
        exact X.iret C dX8_wettest_115 (Nat.zero_le _) (Nat.zero_le _)
      refine X.iconst C dX8_wettest_102 ?_
      refine X.goto (tgt := 115) C dX8_wettest_103 (by decide) ?_
      cases h
      exact X.iret C dX8_wettest_115 (Nat.zero_le _) (Nat.zero_le _)
  refine X.bipush C dX8_wettest_17 (by decide) ?_
  cases h
  exact X.iret C dX8_wettest_19 (Nat.zero_le _) (Nat.zero_le _)
def rX8_small : Room := { frames := 5, cells := 0, slots := 0, locals := 121 }
theorem mX8_small : MV yX8_small cX8_small 4 (some .int) 3 := ⟨cd_X8_small, in_X8, ⟨⟨by decide, by decide⟩, by decide +kernel⟩, im_X8_small, se_X8_small⟩
set_option maxHeartbeats 4000000 in
set_option maxRecDepth 100000 in
theorem kX8_small {l : Launch} {G : GT} (q : Nat → Nat) (M : Ob) (lx1 : Int) (lx2 : Int) (lx3 : Int) (v : (Int)) (h : fX8_small M lx1 lx2 lx3 = some v) : CT l G yX8_small cX8_small 4 (some .int) rX8_small [.ref (q 31), vi lx1, vi lx2, vi lx3] (W_M G q M) (W_M G q M) (some (vi v)) := by
  unfold fX8_small at h
  refine CT.of (by decide) (Nat.le_of_ble_eq_true rfl) rfl (fun κ _ C => ?_)
  refine X.aload_n C dX8_small_0 rfl 0 rfl ?_
  refine X.callVi (q0 := 0) (As := []) (rest := []) (g := fun rr_1 => rr_1) (W1 := fun rr_1 => (W_M G q M)) (ws2 := fun rr_1 => (W_M G q M)) C h dX8_small_1 ml_X8_278 mX8_isSquare (fun v hv => kX8_isSquare q M v hv) (fun rr_1 => ln_M_M_m_n (G := G) (q := q) (M := M)) rfl rfl rfl rfl rfl rfl rfl rfl (fun rr_1 h => ?_)
  refine X.if_eq (tgt := 47) C h dX8_small_4 (by decide) (fun h => ?_) (fun h => ?_)
  · refine X.bipush C dX8_small_47 (by decide) ?_
    cases h
    exact X.iret C dX8_small_49 (Nat.zero_le _) (Nat.zero_le _)
  refine X.iload_n C dX8_small_7 rfl 1 rfl ?_
  refine X.i2l C dX8_small_8 ?_
  refine X.lconst (z := 1) C dX8_small_9 (by decide) ?_
  refine X.ldc2 (z := 11) C cl_X8_433 (by decide) dX8_small_10 ?_
  refine X.callSi (As := [vl (jwl lx1), vl 1, vl 11]) (rest := []) (g := fun rr_2 => rr_2) (W1 := fun rr_2 => W_0) (ws2 := fun rr_2 => (W_M G q M)) C h dX8_small_13 ml_X8_68 mX8_in (fun v hv => kX8_in (jwl lx1) 1 11 v hv) (fun rr_2 => ln_M_0__n (G := G) (q := q) (M := M)) rfl rfl rfl rfl rfl rfl (fun rr_2 h => ?_)
  refine X.if_eq (tgt := 47) C h dX8_small_16 (by decide) (fun h => ?_) (fun h => ?_)
  · refine X.bipush C dX8_small_47 (by decide) ?_
    cases h
    exact X.iret C dX8_small_49 (Nat.zero_le _) (Nat.zero_le _)
  refine X.iload_n C dX8_small_19 rfl 2 rfl ?_
  refine X.callSi (As := [vi lx2]) (rest := []) (g := fun rr_3 => rr_3) (W1 := fun rr_3 => W_0) (ws2 := fun rr_3 => (W_M G q M)) C h dX8_small_20 ml_X8_216 mX8_isHigh (fun v hv => kX8_isHigh lx2 v hv) (fun rr_3 => ln_M_0__n (G := G) (q := q) (M := M)) rfl rfl rfl rfl rfl rfl (fun rr_3 h => ?_)
  refine X.if_eq (tgt := 47) C h dX8_small_23 (by decide) (fun h => ?_) (fun h => ?_)
  · refine X.bipush C dX8_small_47 (by decide) ?_
    cases h
    exact X.iret C dX8_small_49 (Nat.zero_le _) (Nat.zero_le _)
  refine X.iload_n C dX8_small_26 rfl 3 rfl ?_
  refine X.i2l C dX8_small_27 ?_
  refine X.callSi (As := [vl (jwl lx3)]) (rest := []) (g := fun rr_4 => rr_4) (W1 := fun rr_4 => W_0) (ws2 := fun rr_4 => (W_M G q M)) C h dX8_small_28 ml_X8_281 mX8_isWind (fun v hv => kX8_isWind (jwl lx3) v hv) (fun rr_4 => ln_M_0__n (G := G) (q := q) (M := M)) rfl rfl rfl rfl rfl rfl (fun rr_4 h => ?_)
  refine X.if_eq (tgt := 47) C h dX8_small_31 (by decide) (fun h => ?_) (fun h => ?_)
  · refine X.bipush C dX8_small_47 (by decide) ?_
    cases h
    exact X.iret C dX8_small_49 (Nat.zero_le _) (Nat.zero_le _)
  refine X.iload_n C dX8_small_34 rfl 1 rfl ?_
  refine X.aload_n C dX8_small_35 rfl 0 rfl ?_
  refine X.iload_n C dX8_small_36 rfl 2 rfl ?_
  refine X.iload_n C dX8_small_37 rfl 1 rfl ?_
  obtain ⟨hz, h⟩ := gd_out h
  refine X.idiv C (nz_ne hz) dX8_small_38 ?_
  refine X.iload_n C dX8_small_39 rfl 3 rfl ?_
  refine X.callVi (q0 := 0) (As := [vi (jdv lx2 lx1), vi lx3]) (rest := [vi lx1]) (g := fun rr_5 => rr_5) (W1 := fun rr_5 => (W_M G q M)) (ws2 := fun rr_5 => (W_M G q M)) C h dX8_small_40 ml_X8_346 mX8_strayOf (fun v hv => kX8_strayOf q M (jdv lx2 lx1) lx3 v hv) (fun rr_5 => ln_M_M_m_n (G := G) (q := q) (M := M)) rfl rfl rfl rfl rfl rfl rfl rfl (fun rr_5 h => ?_)
  refine X.imul C dX8_small_43 ?_
  refine X.goto (tgt := 49) C dX8_small_44 (by decide) ?_
  cases h
  exact X.iret C dX8_small_49 (Nat.zero_le _) (Nat.zero_le _)
def rX8_draw : Room := { frames := 0, cells := 0, slots := 0, locals := 0 }
theorem mX8_draw : MV yX8_draw cX8_draw 1 (some .int) 0 := ⟨cd_X8_draw, in_X8, ⟨⟨by decide, by decide⟩, by decide +kernel⟩, im_X8_draw, se_X8_draw⟩
set_option maxHeartbeats 4000000 in
set_option maxRecDepth 100000 in
theorem kX8_draw {l : Launch} {G : GT} (q : Nat → Nat) (M : Ob) (v : (Int × Ob)) (h : fX8_draw M = some v) : CT l G yX8_draw cX8_draw 1 (some .int) rX8_draw [.ref (q 31)] (W_M G q M) (W_M G q v.2) (some (vi v.1)) := by
  unfold fX8_draw at h
  refine CT.of (by decide) (Nat.le_of_ble_eq_true rfl) rfl (fun κ _ C => ?_)
  refine X.aload_n C dX8_draw_0 rfl 0 rfl ?_
  refine X.ldc2 (z := 1103515245) C cl_X8_435 (by decide) dX8_draw_1 ?_
  refine X.aload_n C dX8_draw_4 rfl 0 rfl ?_
  refine X.get C dX8_draw_5 lay_X8 0 rfl rfl 24 (by decide) fl_X8_437 rfl rfl ?_
  refine X.lmul C dX8_draw_8 ?_
  refine X.ldc2 (z := 12345) C cl_X8_441 (by decide) dX8_draw_9 ?_
  refine X.ladd C dX8_draw_12 ?_
  refine X.ldc2 (z := 2147483648) C cl_X8_443 (by decide) dX8_draw_13 ?_
  refine X.lrem C (by decide) dX8_draw_16 ?_
  refine X.topL h (fun lv_1 h => ?_)
  refine X.put (ws2 := (W_M G q (up2 M 24 0 lv_1))) (ty := .long) C dX8_draw_17 lay_X8 tyX8_ok nmX8 0 rfl rfl 24 (by decide) fl_X8_437 rfl rfl (by decide +kernel) rfl rfl (Nat.le_of_ble_eq_true rfl) rfl ?_
  refine X.nameS (ws := fun M_2 => (W_M G q M_2)) h (fun M_2 h => ?_)
  refine X.aload_n C dX8_draw_20 rfl 0 rfl ?_
  refine X.get C dX8_draw_21 lay_X8 0 rfl rfl 24 (by decide) fl_X8_437 rfl rfl ?_
  refine X.ldc2 (z := 65536) C cl_X8_445 (by decide) dX8_draw_24 ?_
  refine X.ldiv C (by decide) dX8_draw_27 ?_
  refine X.ldc2 (z := 100) C cl_X8_447 (by decide) dX8_draw_28 ?_
  refine X.lrem C (by decide) dX8_draw_31 ?_
  refine X.l2i C dX8_draw_32 ?_
  cases h
  exact X.iret C dX8_draw_33 (Nat.zero_le _) (Nat.zero_le _)
def rX8_gustsBy : Room := { frames := 5, cells := 0, slots := 0, locals := 130 }
theorem mX8_gustsBy : MV yX8_gustsBy cX8_gustsBy 8 (some .int) 4 := ⟨cd_X8_gustsBy, in_X8, ⟨⟨by decide, by decide⟩, by decide +kernel⟩, im_X8_gustsBy, se_X8_gustsBy⟩
set_option maxHeartbeats 4000000 in
set_option maxRecDepth 100000 in
theorem xX8_gustsBy_44 {κ : Kx} {G : GT} (C : Cx κ G yX8_gustsBy cX8_gustsBy (some .int) 8 rX8_gustsBy) (q : Nat → Nat) (kc0 : Int → Int → Ob → Option (Int × Ob)) (M : Ob) (lx3 : Int) (lx4 : Int) (lx5 : Int) (lx7 : Int) (lt0 : Int) (lt2 : Int) (v : (Int × Ob)) (hc0 : ∀ (lx6 : Int) (lx7 : Int) (M : Ob), kc0 lx6 lx7 M = some v → X κ G 8 (W_M G q M) 11 [(0, .ref (q 31)), (3, vi lx3), (4, vi lx4), (5, vi lx5), (6, vi lx6), (7, vi lx7)] [] 0 0 (QM κ G (W_M G q v.2) (some (vi v.1)) rX8_gustsBy.cells rX8_gustsBy.slots)) (h : jX8_gustsBy_44 kc0 M lx3 lx4 lx5 lx7 lt0 lt2 = some v) : X κ G 8 (W_M G q M) 44 [(0, .ref (q 31)), (3, vi lx3), (4, vi lx4), (5, vi lx5), (7, vi lx7)] [vi lt0, .ref (q 31), vi lt2] 0 0 (QM κ G (W_M G q v.2) (some (vi v.1)) rX8_gustsBy.cells rX8_gustsBy.slots) := by
  unfold jX8_gustsBy_44 at h
  refine X.callVi (q0 := 0) (As := [vi lt0]) (rest := [vi lt2]) (g := fun rr_3 => rr_3.1) (W1 := fun rr_3 => (W_M G q rr_3.2)) (ws2 := fun rr_3 => (W_M G q rr_3.2)) C h dX8_gustsBy_44 ml_X8_285 mX8_beat (fun v hv => kX8_beat q M lt0 v hv) (fun rr_3 => ln_M_M_m_M (G := G) (q := q) (M := M) (NM := rr_3.2)) rfl rfl rfl rfl rfl rfl rfl rfl (fun rr_3 h => ?_)
  refine X.iadd C dX8_gustsBy_47 ?_
  refine X.istoreN (lv2 := fun lx6_4 => [(6, vi lx6_4), (0, .ref (q 31)), (3, vi lx3), (4, vi lx4), (5, vi lx5), (7, vi lx7)]) C h dX8_gustsBy_48 (by decide) (fun _ => rfl) (fun lx6_4 h => ?_)
  refine X.iincN (lv2 := fun lx7_5 => [(7, vi lx7_5), (6, vi lx6_4), (0, .ref (q 31)), (3, vi lx3), (4, vi lx4), (5, vi lx5)]) C h dX8_gustsBy_50 5 rfl (by decide) (fun _ => rfl) (fun lx7_5 h => ?_)
  refine X.goto (tgt := 11) C dX8_gustsBy_53 (by decide) ?_
  refine X.sub [2, 3, 4, 5, 1, 0] rfl ?_
  exact hc0 lx6_4 lx7_5 rr_3.2 h
set_option maxHeartbeats 4000000 in
set_option maxRecDepth 100000 in
theorem xX8_gustsBy_11 {κ : Kx} {G : GT} (C : Cx κ G yX8_gustsBy cX8_gustsBy (some .int) 8 rX8_gustsBy) (q : Nat → Nat) (lx3 : Int) (lx4 : Int) (lx5 : Int) (v : (Int × Ob)) : ∀ (n : Nat) (lx6 : Int) (lx7 : Int) (M : Ob), lX8_gustsBy_11 lx3 lx4 lx5 n lx6 lx7 M = some v → X κ G 8 (W_M G q M) 11 [(0, .ref (q 31)), (3, vi lx3), (4, vi lx4), (5, vi lx5), (6, vi lx6), (7, vi lx7)] [] 0 0 (QM κ G (W_M G q v.2) (some (vi v.1)) rX8_gustsBy.cells rX8_gustsBy.slots) := by
  intro n
  induction n with
  | zero => intro _ _ _ h; exact absurd h (fun h => nomatch h)
  | succ n ih =>
    intro lx6 lx7 M h
    rw [lX8_gustsBy_11] at h
    refine X.iload C dX8_gustsBy_11 5 rfl ?_
    refine X.iload C dX8_gustsBy_13 2 rfl ?_
    refine X.icmp_ge (tgt := 56) C h dX8_gustsBy_15 (by decide) (fun h => ?_) (fun h => ?_)
    · refine X.iload C dX8_gustsBy_56 4 rfl ?_
      cases h
      exact X.iret C dX8_gustsBy_58 (Nat.zero_le _) (Nat.zero_le _)
    refine X.iload C dX8_gustsBy_18 4 rfl ?_
    refine X.aload_n C dX8_gustsBy_20 rfl 0 rfl ?_
    refine X.aload_n C dX8_gustsBy_21 rfl 0 rfl ?_
    refine X.callVi (q0 := 0) (As := []) (rest := [.ref (q 31), vi lx6]) (g := fun rr_2 => rr_2.1) (W1 := fun rr_2 => (W_M G q rr_2.2)) (ws2 := fun rr_2 => (W_M G q rr_2.2)) C h dX8_gustsBy_22 ml_X8_449 mX8_draw (fun v hv => kX8_draw q M v hv) (fun rr_2 => ln_M_M_m_M (G := G) (q := q) (M := M) (NM := rr_2.2)) rfl rfl rfl rfl rfl rfl rfl rfl (fun rr_2 h => ?_)
    refine X.iload C dX8_gustsBy_25 3 rfl ?_
    refine X.icmp_ge (tgt := 43) C h dX8_gustsBy_27 (by decide) (fun h => ?_) (fun h => ?_)
    · refine X.iload_n C dX8_gustsBy_43 rfl 1 rfl ?_
      refine X.sub [0, 1, 2, 3, 5] rfl ?_
      exact xX8_gustsBy_44 C q (lX8_gustsBy_11 lx3 lx4 lx5 n) rr_2.2 lx3 lx4 lx5 lx7 lx3 lx6 v ih h
    refine X.bipush C dX8_gustsBy_30 (by decide) ?_
    refine X.iload_n C dX8_gustsBy_32 rfl 1 rfl ?_
    refine X.bipush C dX8_gustsBy_33 (by decide) ?_
    refine X.idiv C (by decide) dX8_gustsBy_35 ?_
    refine X.imul C dX8_gustsBy_36 ?_
    refine X.bipush C dX8_gustsBy_37 (by decide) ?_
    refine X.iadd C dX8_gustsBy_39 ?_
    refine X.goto (tgt := 44) C dX8_gustsBy_40 (by decide) ?_
    refine X.sub [0, 1, 2, 3, 5] rfl ?_
    exact xX8_gustsBy_44 C q (lX8_gustsBy_11 lx3 lx4 lx5 n) rr_2.2 lx3 lx4 lx5 lx7 ((10 * (jdv lx3 10)) + 9) lx6 v ih h
set_option maxHeartbeats 4000000 in
set_option maxRecDepth 100000 in
theorem kX8_gustsBy {l : Launch} {G : GT} (q : Nat → Nat) (M : Ob) (lx1 : Int) (lx3 : Int) (lx4 : Int) (lx5 : Int) (v : (Int × Ob)) (h : fX8_gustsBy M lx1 lx3 lx4 lx5 = some v) : CT l G yX8_gustsBy cX8_gustsBy 8 (some .int) rX8_gustsBy [.ref (q 31), vl lx1, vi lx3, vi lx4, vi lx5] (W_M G q M) (W_M G q v.2) (some (vi v.1)) := by
  unfold fX8_gustsBy at h
  refine CT.of (by decide) (Nat.le_of_ble_eq_true rfl) rfl (fun κ _ C => ?_)
  refine X.aload_n C dX8_gustsBy_0 rfl 0 rfl ?_
  refine X.lload_n C dX8_gustsBy_1 rfl 1 rfl ?_
  refine X.put (ws2 := (W_M G q (up2 M 24 0 lx1))) (ty := .long) C dX8_gustsBy_2 lay_X8 tyX8_ok nmX8 0 rfl rfl 24 (by decide) fl_X8_437 rfl rfl (by decide +kernel) rfl rfl (Nat.le_of_ble_eq_true rfl) rfl ?_
  refine X.nameS (ws := fun M_1 => (W_M G q M_1)) h (fun M_1 h => ?_)
  refine X.iconst C dX8_gustsBy_5 ?_
  refine X.istore (lv2 := [(6, vi 0), (0, .ref (q 31)), (1, vl lx1), (3, vi lx3), (4, vi lx4), (5, vi lx5)]) C dX8_gustsBy_6 (by decide) rfl ?_
  refine X.iconst C dX8_gustsBy_8 ?_
  refine X.istore (lv2 := [(7, vi 0), (6, vi 0), (0, .ref (q 31)), (1, vl lx1), (3, vi lx3), (4, vi lx4), (5, vi lx5)]) C dX8_gustsBy_9 (by decide) rfl ?_
  refine X.sub [2, 4, 5, 6, 1, 0] rfl ?_
  refine xX8_gustsBy_11 C q lx3 lx4 lx5 v FU 0 0 M_1 h
def rX8_isGusty : Room := { frames := 2, cells := 0, slots := 0, locals := 46 }
theorem mX8_isGusty : MV yX8_isGusty cX8_isGusty 5 (some .boolean) 4 := ⟨cd_X8_isGusty, in_X8, ⟨⟨by decide, by decide⟩, by decide +kernel⟩, im_X8_isGusty, se_X8_isGusty⟩
set_option maxHeartbeats 4000000 in
set_option maxRecDepth 100000 in
theorem kX8_isGusty {l : Launch} {G : GT} (q : Nat → Nat) (M : Ob) (lx1 : Int) (lx2 : Int) (lx3 : Int) (lx4 : Int) (v : (Int)) (h : fX8_isGusty M lx1 lx2 lx3 lx4 = some v) : CT l G yX8_isGusty cX8_isGusty 5 (some .boolean) rX8_isGusty [.ref (q 31), vi lx1, vi lx2, vi lx3, vi lx4] (W_M G q M) (W_M G q M) (some (vi v)) := by
  unfold fX8_isGusty at h
  refine CT.of (by decide) (Nat.le_of_ble_eq_true rfl) rfl (fun κ _ C => ?_)
  refine X.aload_n C dX8_isGusty_0 rfl 0 rfl ?_
  refine X.callVi (q0 := 0) (As := []) (rest := []) (g := fun rr_1 => rr_1) (W1 := fun rr_1 => (W_M G q M)) (ws2 := fun rr_1 => (W_M G q M)) C h dX8_isGusty_1 ml_X8_278 mX8_isSquare (fun v hv => kX8_isSquare q M v hv) (fun rr_1 => ln_M_M_m_n (G := G) (q := q) (M := M)) rfl rfl rfl rfl rfl rfl rfl rfl (fun rr_1 h => ?_)
  refine X.if_eq (tgt := 56) C h dX8_isGusty_4 (by decide) (fun h => ?_) (fun h => ?_)
  · refine X.iconst C dX8_isGusty_56 ?_
    cases h
    exact X.zret C rfl dX8_isGusty_57 (Nat.zero_le _) (Nat.zero_le _)
  refine X.iload_n C dX8_isGusty_7 rfl 1 rfl ?_
  refine X.i2l C dX8_isGusty_8 ?_
  refine X.lconst (z := 0) C dX8_isGusty_9 (by decide) ?_
  refine X.ldc2 (z := 2000000000) C cl_X8_452 (by decide) dX8_isGusty_10 ?_
  refine X.callSi (As := [vl (jwl lx1), vl 0, vl 2000000000]) (rest := []) (g := fun rr_2 => rr_2) (W1 := fun rr_2 => W_0) (ws2 := fun rr_2 => (W_M G q M)) C h dX8_isGusty_13 ml_X8_68 mX8_in (fun v hv => kX8_in (jwl lx1) 0 2000000000 v hv) (fun rr_2 => ln_M_0__n (G := G) (q := q) (M := M)) rfl rfl rfl rfl rfl rfl (fun rr_2 h => ?_)
  refine X.if_eq (tgt := 56) C h dX8_isGusty_16 (by decide) (fun h => ?_) (fun h => ?_)
  · refine X.iconst C dX8_isGusty_56 ?_
    cases h
    exact X.zret C rfl dX8_isGusty_57 (Nat.zero_le _) (Nat.zero_le _)
  refine X.iload_n C dX8_isGusty_19 rfl 2 rfl ?_
  refine X.i2l C dX8_isGusty_20 ?_
  refine X.callSi (As := [vl (jwl lx2)]) (rest := []) (g := fun rr_3 => rr_3) (W1 := fun rr_3 => W_0) (ws2 := fun rr_3 => (W_M G q M)) C h dX8_isGusty_21 ml_X8_281 mX8_isWind (fun v hv => kX8_isWind (jwl lx2) v hv) (fun rr_3 => ln_M_0__n (G := G) (q := q) (M := M)) rfl rfl rfl rfl rfl rfl (fun rr_3 h => ?_)
  refine X.if_eq (tgt := 56) C h dX8_isGusty_24 (by decide) (fun h => ?_) (fun h => ?_)
  · refine X.iconst C dX8_isGusty_56 ?_
    cases h
    exact X.zret C rfl dX8_isGusty_57 (Nat.zero_le _) (Nat.zero_le _)
  refine X.iload_n C dX8_isGusty_27 rfl 3 rfl ?_
  refine X.i2l C dX8_isGusty_28 ?_
  refine X.lconst (z := 0) C dX8_isGusty_29 (by decide) ?_
  refine X.ldc2 (z := 400) C cl_X8_288 (by decide) dX8_isGusty_30 ?_
  refine X.callSi (As := [vl (jwl lx3), vl 0, vl 400]) (rest := []) (g := fun rr_4 => rr_4) (W1 := fun rr_4 => W_0) (ws2 := fun rr_4 => (W_M G q M)) C h dX8_isGusty_33 ml_X8_68 mX8_in (fun v hv => kX8_in (jwl lx3) 0 400 v hv) (fun rr_4 => ln_M_0__n (G := G) (q := q) (M := M)) rfl rfl rfl rfl rfl rfl (fun rr_4 h => ?_)
  refine X.if_eq (tgt := 56) C h dX8_isGusty_36 (by decide) (fun h => ?_) (fun h => ?_)
  · refine X.iconst C dX8_isGusty_56 ?_
    cases h
    exact X.zret C rfl dX8_isGusty_57 (Nat.zero_le _) (Nat.zero_le _)
  refine X.iload C dX8_isGusty_39 4 rfl ?_
  refine X.i2l C dX8_isGusty_41 ?_
  refine X.lconst (z := 0) C dX8_isGusty_42 (by decide) ?_
  refine X.ldc2 (z := 100) C cl_X8_447 (by decide) dX8_isGusty_43 ?_
  refine X.callSi (As := [vl (jwl lx4), vl 0, vl 100]) (rest := []) (g := fun rr_5 => rr_5) (W1 := fun rr_5 => W_0) (ws2 := fun rr_5 => (W_M G q M)) C h dX8_isGusty_46 ml_X8_68 mX8_in (fun v hv => kX8_in (jwl lx4) 0 100 v hv) (fun rr_5 => ln_M_0__n (G := G) (q := q) (M := M)) rfl rfl rfl rfl rfl rfl (fun rr_5 h => ?_)
  refine X.if_eq (tgt := 56) C h dX8_isGusty_49 (by decide) (fun h => ?_) (fun h => ?_)
  · refine X.iconst C dX8_isGusty_56 ?_
    cases h
    exact X.zret C rfl dX8_isGusty_57 (Nat.zero_le _) (Nat.zero_le _)
  refine X.iconst C dX8_isGusty_52 ?_
  refine X.goto (tgt := 57) C dX8_isGusty_53 (by decide) ?_
  cases h
  exact X.zret C rfl dX8_isGusty_57 (Nat.zero_le _) (Nat.zero_le _)
def rX8_gusts : Room := { frames := 6, cells := 0, slots := 0, locals := 157 }
theorem mX8_gusts : MV yX8_gusts cX8_gusts 5 (some .int) 4 := ⟨cd_X8_gusts, in_X8, ⟨⟨by decide, by decide⟩, by decide +kernel⟩, im_X8_gusts, se_X8_gusts⟩
set_option maxHeartbeats 4000000 in
set_option maxRecDepth 100000 in
theorem kX8_gusts {l : Launch} {G : GT} (q : Nat → Nat) (M : Ob) (lx1 : Int) (lx2 : Int) (lx3 : Int) (lx4 : Int) (v : (Int × Ob)) (h : fX8_gusts M lx1 lx2 lx3 lx4 = some v) : CT l G yX8_gusts cX8_gusts 5 (some .int) rX8_gusts [.ref (q 31), vi lx1, vi lx2, vi lx3, vi lx4] (W_M G q M) (W_M G q v.2) (some (vi v.1)) := by
  unfold fX8_gusts at h
  refine CT.of (by decide) (Nat.le_of_ble_eq_true rfl) rfl (fun κ _ C => ?_)
  refine X.aload_n C dX8_gusts_0 rfl 0 rfl ?_
  refine X.iload_n C dX8_gusts_1 rfl 1 rfl ?_
  refine X.iload_n C dX8_gusts_2 rfl 2 rfl ?_
  refine X.iload_n C dX8_gusts_3 rfl 3 rfl ?_
  refine X.iload C dX8_gusts_4 4 rfl ?_
  refine X.callVi (q0 := 0) (As := [vi lx1, vi lx2, vi lx3, vi lx4]) (rest := []) (g := fun rr_1 => rr_1) (W1 := fun rr_1 => (W_M G q M)) (ws2 := fun rr_1 => (W_M G q M)) C h dX8_gusts_6 ml_X8_454 mX8_isGusty (fun v hv => kX8_isGusty q M lx1 lx2 lx3 lx4 v hv) (fun rr_1 => ln_M_M_m_n (G := G) (q := q) (M := M)) rfl rfl rfl rfl rfl rfl rfl rfl (fun rr_1 h => ?_)
  refine X.if_eq (tgt := 25) C h dX8_gusts_9 (by decide) (fun h => ?_) (fun h => ?_)
  · refine X.bipush C dX8_gusts_25 (by decide) ?_
    cases h
    exact X.iret C dX8_gusts_27 (Nat.zero_le _) (Nat.zero_le _)
  refine X.aload_n C dX8_gusts_12 rfl 0 rfl ?_
  refine X.iload_n C dX8_gusts_13 rfl 1 rfl ?_
  refine X.i2l C dX8_gusts_14 ?_
  refine X.iload_n C dX8_gusts_15 rfl 2 rfl ?_
  refine X.iload_n C dX8_gusts_16 rfl 3 rfl ?_
  refine X.iload C dX8_gusts_17 4 rfl ?_
  refine X.callVi (q0 := 0) (As := [vl (jwl lx1), vi lx2, vi lx3, vi lx4]) (rest := []) (g := fun rr_2 => rr_2.1) (W1 := fun rr_2 => (W_M G q rr_2.2)) (ws2 := fun rr_2 => (W_M G q rr_2.2)) C h dX8_gusts_19 ml_X8_457 mX8_gustsBy (fun v hv => kX8_gustsBy q M (jwl lx1) lx2 lx3 lx4 v hv) (fun rr_2 => ln_M_M_m_M (G := G) (q := q) (M := M) (NM := rr_2.2)) rfl rfl rfl rfl rfl rfl rfl rfl (fun rr_2 h => ?_)
  refine X.goto (tgt := 27) C dX8_gusts_22 (by decide) ?_
  cases h
  exact X.iret C dX8_gusts_27 (Nat.zero_le _) (Nat.zero_le _)
def rX8_often : Room := { frames := 6, cells := 0, slots := 0, locals := 157 }
theorem mX8_often : MV yX8_often cX8_often 10 (some .int) 6 := ⟨cd_X8_often, in_X8, ⟨⟨by decide, by decide⟩, by decide +kernel⟩, im_X8_often, se_X8_often⟩
set_option maxHeartbeats 4000000 in
set_option maxRecDepth 100000 in
theorem xX8_often_97 {κ : Kx} {G : GT} (C : Cx κ G yX8_often cX8_often (some .int) 10 rX8_often) (q : Nat → Nat) (kc0 : Int → Int → Ob → Option (Int × Ob)) (M : Ob) (lx1 : Int) (lx2 : Int) (lx3 : Int) (lx4 : Int) (lx5 : Int) (lx6 : Int) (lx8 : Int) (lt0 : Int) (lt1 : Int) (v : (Int × Ob)) (hc0 : ∀ (lx7 : Int) (lx8 : Int) (M : Ob), kc0 lx7 lx8 M = some v → X κ G 10 (W_M G q M) 43 [(0, .ref (q 31)), (1, vi lx1), (2, vi lx2), (3, vi lx3), (4, vi lx4), (5, vi lx5), (6, vi lx6), (7, vi lx7), (8, vi lx8)] [] 0 0 (QM κ G (W_M G q v.2) (some (vi v.1)) rX8_often.cells rX8_often.slots)) (h : jX8_often_97 kc0 M lx1 lx2 lx3 lx4 lx5 lx6 lx8 lt0 lt1 = some v) : X κ G 10 (W_M G q M) 97 [(0, .ref (q 31)), (1, vi lx1), (2, vi lx2), (3, vi lx3), (4, vi lx4), (5, vi lx5), (6, vi lx6), (8, vi lx8)] [vi lt0, vi lt1] 0 0 (QM κ G (W_M G q v.2) (some (vi v.1)) rX8_often.cells rX8_often.slots) := by
  unfold jX8_often_97 at h
  refine X.iadd C dX8_often_97 ?_
  refine X.istoreN (lv2 := fun lx7_7 => [(7, vi lx7_7), (0, .ref (q 31)), (1, vi lx1), (2, vi lx2), (3, vi lx3), (4, vi lx4), (5, vi lx5), (6, vi lx6), (8, vi lx8)]) C h dX8_often_98 (by decide) (fun _ => rfl) (fun lx7_7 h => ?_)
  refine X.aload_n C dX8_often_100 rfl 1 rfl ?_
  refine X.callVv (q0 := 0) (As := []) (rest := []) (W1 := fun rr_8 => (W_M G q rr_8)) (ws2 := fun rr_8 => (W_M G q rr_8)) C h dX8_often_101 ml_X8_376 mX8_wakes (fun v hv => kX8_wakes q M v hv) (fun rr_8 => ln_M_M_m_M (G := G) (q := q) (M := M) (NM := rr_8)) rfl rfl rfl rfl rfl rfl rfl rfl (fun rr_8 h => ?_)
  refine X.iincN (lv2 := fun lx8_9 => [(8, vi lx8_9), (7, vi lx7_7), (0, .ref (q 31)), (1, vi lx1), (2, vi lx2), (3, vi lx3), (4, vi lx4), (5, vi lx5), (6, vi lx6)]) C h dX8_often_104 8 rfl (by decide) (fun _ => rfl) (fun lx8_9 h => ?_)
  refine X.goto (tgt := 43) C dX8_often_107 (by decide) ?_
  refine X.sub [2, 3, 4, 5, 6, 7, 8, 1, 0] rfl ?_
  exact hc0 lx7_7 lx8_9 rr_8 h
set_option maxHeartbeats 4000000 in
set_option maxRecDepth 100000 in
theorem xX8_often_96 {κ : Kx} {G : GT} (C : Cx κ G yX8_often cX8_often (some .int) 10 rX8_often) (q : Nat → Nat) (kc0 : Int → Int → Ob → Option (Int × Ob)) (M : Ob) (lx1 : Int) (lx2 : Int) (lx3 : Int) (lx4 : Int) (lx5 : Int) (lx6 : Int) (lx8 : Int) (lt0 : Int) (v : (Int × Ob)) (hc0 : ∀ (lx7 : Int) (lx8 : Int) (M : Ob), kc0 lx7 lx8 M = some v → X κ G 10 (W_M G q M) 43 [(0, .ref (q 31)), (1, vi lx1), (2, vi lx2), (3, vi lx3), (4, vi lx4), (5, vi lx5), (6, vi lx6), (7, vi lx7), (8, vi lx8)] [] 0 0 (QM κ G (W_M G q v.2) (some (vi v.1)) rX8_often.cells rX8_often.slots)) (h : jX8_often_96 kc0 M lx1 lx2 lx3 lx4 lx5 lx6 lx8 lt0 = some v) : X κ G 10 (W_M G q M) 96 [(0, .ref (q 31)), (1, vi lx1), (2, vi lx2), (3, vi lx3), (4, vi lx4), (5, vi lx5), (6, vi lx6), (8, vi lx8)] [vi lt0] 0 0 (QM κ G (W_M G q v.2) (some (vi v.1)) rX8_often.cells rX8_often.slots) := by
  unfold jX8_often_96 at h
  refine X.iconst C dX8_often_96 ?_
  refine X.sub [0, 1, 2, 3, 4, 5, 6, 7] rfl ?_
  exact xX8_often_97 C q kc0 M lx1 lx2 lx3 lx4 lx5 lx6 lx8 0 lt0 v hc0 h
set_option maxHeartbeats 4000000 in
set_option maxRecDepth 100000 in
theorem xX8_often_43 {κ : Kx} {G : GT} (C : Cx κ G yX8_often cX8_often (some .int) 10 rX8_often) (q : Nat → Nat) (lx1 : Int) (lx2 : Int) (lx3 : Int) (lx4 : Int) (lx5 : Int) (lx6 : Int) (v : (Int × Ob)) : ∀ (n : Nat) (lx7 : Int) (lx8 : Int) (M : Ob), lX8_often_43 lx1 lx2 lx3 lx4 lx5 lx6 n lx7 lx8 M = some v → X κ G 10 (W_M G q M) 43 [(0, .ref (q 31)), (1, vi lx1), (2, vi lx2), (3, vi lx3), (4, vi lx4), (5, vi lx5), (6, vi lx6), (7, vi lx7), (8, vi lx8)] [] 0 0 (QM κ G (W_M G q v.2) (some (vi v.1)) rX8_often.cells rX8_often.slots) := by
  intro n
  induction n with
  | zero => intro _ _ _ h; exact absurd h (fun h => nomatch h)
  | succ n ih =>
    intro lx7 lx8 M h
    rw [lX8_often_43] at h
    refine X.iload C dX8_often_43 8 rfl ?_
    refine X.iload_n C dX8_often_45 rfl 3 rfl ?_
    refine X.icmp_ge (tgt := 110) C h dX8_often_46 (by decide) (fun h => ?_) (fun h => ?_)
    · refine X.iload C dX8_often_110 7 rfl ?_
      cases h
      exact X.iret C dX8_often_112 (Nat.zero_le _) (Nat.zero_le _)
    refine X.aload_n C dX8_often_49 rfl 0 rfl ?_
    refine X.callVv (q0 := 0) (As := []) (rest := []) (W1 := fun rr_4 => (W_M G q rr_4)) (ws2 := fun rr_4 => (W_M G q rr_4)) C h dX8_often_50 ml_X8_370 mX8_thinks (fun v hv => kX8_thinks q M v hv) (fun rr_4 => ln_M_M_m_M (G := G) (q := q) (M := M) (NM := rr_4)) rfl rfl rfl rfl rfl rfl rfl rfl (fun rr_4 h => ?_)
    refine X.aload_n C dX8_often_53 rfl 0 rfl ?_
    refine X.iload_n C dX8_often_54 rfl 2 rfl ?_
    refine X.i2l C dX8_often_55 ?_
    refine X.iload C dX8_often_56 8 rfl ?_
    refine X.i2l C dX8_often_58 ?_
    refine X.ladd C dX8_often_59 ?_
    refine X.iload C dX8_often_60 4 rfl ?_
    refine X.iload C dX8_often_62 5 rfl ?_
    refine X.iload C dX8_often_64 6 rfl ?_
    refine X.callVi (q0 := 0) (As := [vl ((jwl lx2) + (jwl lx8)), vi lx4, vi lx5, vi lx6]) (rest := []) (g := fun rr_5 => rr_5.1) (W1 := fun rr_5 => (W_M G q rr_5.2)) (ws2 := fun rr_5 => (W_M G q rr_5.2)) C h dX8_often_66 ml_X8_457 mX8_gustsBy (fun v hv => kX8_gustsBy q rr_4 ((jwl lx2) + (jwl lx8)) lx4 lx5 lx6 v hv) (fun rr_5 => ln_M_M_m_M (G := G) (q := q) (M := rr_4) (NM := rr_5.2)) rfl rfl rfl rfl rfl rfl rfl rfl (fun rr_5 h => ?_)
    refine X.istoreN (lv2 := fun lx9_6 => [(9, vi lx9_6), (0, .ref (q 31)), (1, vi lx1), (2, vi lx2), (3, vi lx3), (4, vi lx4), (5, vi lx5), (6, vi lx6), (7, vi lx7), (8, vi lx8)]) C h dX8_often_69 (by decide) (fun _ => rfl) (fun lx9_6 h => ?_)
    refine X.iload C dX8_often_71 8 rfl ?_
    refine X.iload C dX8_often_73 0 rfl ?_
    refine X.if_lt (tgt := 96) C h dX8_often_75 (by decide) (fun h => ?_) (fun h => ?_)
    · refine X.sub [1, 2, 3, 4, 5, 6, 7, 9] rfl ?_
      exact xX8_often_96 C q (lX8_often_43 lx1 lx2 lx3 lx4 lx5 lx6 n) rr_5.2 lx1 lx2 lx3 lx4 lx5 lx6 lx8 lx7 v ih h
    refine X.aload_n C dX8_often_78 rfl 1 rfl ?_
    refine X.iload_n C dX8_often_79 rfl 2 rfl ?_
    refine X.callVi (q0 := 0) (As := [vi lx1]) (rest := [vi lx7]) (g := fun rr_10 => rr_10) (W1 := fun rr_10 => (W_M G q rr_5.2)) (ws2 := fun rr_10 => (W_M G q rr_5.2)) C h dX8_often_80 ml_X8_307 mX8_wetAt (fun v hv => kX8_wetAt q rr_5.2 lx1 v hv) (fun rr_10 => ln_M_M_m_n (G := G) (q := q) (M := rr_5.2)) rfl rfl rfl rfl rfl rfl rfl rfl (fun rr_10 h => ?_)
    refine X.aload_n C dX8_often_83 rfl 1 rfl ?_
    refine X.iload_n C dX8_often_84 rfl 2 rfl ?_
    refine X.iconst C dX8_often_85 ?_
    refine X.callVi (q0 := 0) (As := [vi lx1, vi 2]) (rest := [vi rr_10, vi lx7]) (g := fun rr_11 => rr_11) (W1 := fun rr_11 => (W_M G q rr_5.2)) (ws2 := fun rr_11 => (W_M G q rr_5.2)) C h dX8_often_86 ml_X8_72 mX8_ofTable (fun v hv => kX8_ofTable q rr_5.2 lx1 2 v hv) (fun rr_11 => ln_M_M_m_n (G := G) (q := q) (M := rr_5.2)) rfl rfl rfl rfl rfl rfl rfl rfl (fun rr_11 h => ?_)
    refine X.icmp_le (tgt := 96) C h dX8_often_89 (by decide) (fun h => ?_) (fun h => ?_)
    · refine X.sub [1, 2, 3, 4, 5, 6, 7, 9] rfl ?_
      exact xX8_often_96 C q (lX8_often_43 lx1 lx2 lx3 lx4 lx5 lx6 n) rr_5.2 lx1 lx2 lx3 lx4 lx5 lx6 lx8 lx7 v ih h
    refine X.iconst C dX8_often_92 ?_
    refine X.goto (tgt := 97) C dX8_often_93 (by decide) ?_
    refine X.sub [1, 2, 3, 4, 5, 6, 7, 9] rfl ?_
    exact xX8_often_97 C q (lX8_often_43 lx1 lx2 lx3 lx4 lx5 lx6 n) rr_5.2 lx1 lx2 lx3 lx4 lx5 lx6 lx8 1 lx7 v ih h
set_option maxHeartbeats 4000000 in
set_option maxRecDepth 100000 in
theorem kX8_often {l : Launch} {G : GT} (q : Nat → Nat) (M : Ob) (lx1 : Int) (lx2 : Int) (lx3 : Int) (lx4 : Int) (lx5 : Int) (lx6 : Int) (v : (Int × Ob)) (h : fX8_often M lx1 lx2 lx3 lx4 lx5 lx6 = some v) : CT l G yX8_often cX8_often 10 (some .int) rX8_often [.ref (q 31), vi lx1, vi lx2, vi lx3, vi lx4, vi lx5, vi lx6] (W_M G q M) (W_M G q v.2) (some (vi v.1)) := by
  unfold fX8_often at h
  refine CT.of (by decide) (Nat.le_of_ble_eq_true rfl) rfl (fun κ _ C => ?_)
  refine X.aload_n C dX8_often_0 rfl 0 rfl ?_
  refine X.iload_n C dX8_often_1 rfl 1 rfl ?_
  refine X.callVi (q0 := 0) (As := [vi lx1]) (rest := []) (g := fun rr_1 => rr_1) (W1 := fun rr_1 => (W_M G q M)) (ws2 := fun rr_1 => (W_M G q M)) C h dX8_often_2 ml_X8_302 mX8_isTable (fun v hv => kX8_isTable q M lx1 v hv) (fun rr_1 => ln_M_M_m_n (G := G) (q := q) (M := M)) rfl rfl rfl rfl rfl rfl rfl rfl (fun rr_1 h => ?_)
  refine X.if_eq (tgt := 34) C h dX8_often_5 (by decide) (fun h => ?_) (fun h => ?_)
  · refine X.bipush C dX8_often_34 (by decide) ?_
    cases h
    exact X.iret C dX8_often_36 (Nat.zero_le _) (Nat.zero_le _)
  refine X.iload_n C dX8_often_8 rfl 3 rfl ?_
  refine X.i2l C dX8_often_9 ?_
  refine X.lconst (z := 1) C dX8_often_10 (by decide) ?_
  refine X.ldc2 (z := 20) C cl_X8_388 (by decide) dX8_often_11 ?_
  refine X.callSi (As := [vl (jwl lx3), vl 1, vl 20]) (rest := []) (g := fun rr_2 => rr_2) (W1 := fun rr_2 => W_0) (ws2 := fun rr_2 => (W_M G q M)) C h dX8_often_14 ml_X8_68 mX8_in (fun v hv => kX8_in (jwl lx3) 1 20 v hv) (fun rr_2 => ln_M_0__n (G := G) (q := q) (M := M)) rfl rfl rfl rfl rfl rfl (fun rr_2 h => ?_)
  refine X.if_eq (tgt := 34) C h dX8_often_17 (by decide) (fun h => ?_) (fun h => ?_)
  · refine X.bipush C dX8_often_34 (by decide) ?_
    cases h
    exact X.iret C dX8_often_36 (Nat.zero_le _) (Nat.zero_le _)
  refine X.aload_n C dX8_often_20 rfl 0 rfl ?_
  refine X.iload_n C dX8_often_21 rfl 2 rfl ?_
  refine X.iload C dX8_often_22 4 rfl ?_
  refine X.iload C dX8_often_24 5 rfl ?_
  refine X.iload C dX8_often_26 6 rfl ?_
  refine X.callVi (q0 := 0) (As := [vi lx2, vi lx4, vi lx5, vi lx6]) (rest := []) (g := fun rr_3 => rr_3) (W1 := fun rr_3 => (W_M G q M)) (ws2 := fun rr_3 => (W_M G q M)) C h dX8_often_28 ml_X8_454 mX8_isGusty (fun v hv => kX8_isGusty q M lx2 lx4 lx5 lx6 v hv) (fun rr_3 => ln_M_M_m_n (G := G) (q := q) (M := M)) rfl rfl rfl rfl rfl rfl rfl rfl (fun rr_3 h => ?_)
  refine X.if_ne (tgt := 37) C h dX8_often_31 (by decide) (fun h => ?_) (fun h => ?_)
  · refine X.iconst C dX8_often_37 ?_
    refine X.istore (lv2 := [(7, vi 0), (0, .ref (q 31)), (1, vi lx1), (2, vi lx2), (3, vi lx3), (4, vi lx4), (5, vi lx5), (6, vi lx6)]) C dX8_often_38 (by decide) rfl ?_
    refine X.iconst C dX8_often_40 ?_
    refine X.istore (lv2 := [(8, vi 0), (7, vi 0), (0, .ref (q 31)), (1, vi lx1), (2, vi lx2), (3, vi lx3), (4, vi lx4), (5, vi lx5), (6, vi lx6)]) C dX8_often_41 (by decide) rfl ?_
    refine X.sub [2, 3, 4, 5, 6, 7, 8, 1, 0] rfl ?_
    refine xX8_often_43 C q lx1 lx2 lx3 lx4 lx5 lx6 v FU 0 0 M h
  refine X.bipush C dX8_often_34 (by decide) ?_
  cases h
  exact X.iret C dX8_often_36 (Nat.zero_le _) (Nat.zero_le _)
def rX8_count : Room := { frames := 0, cells := 0, slots := 0, locals := 0 }
theorem mX8_count : MV yX8_count cX8_count 4 (some .int) 1 := ⟨cd_X8_count, in_X8, ⟨⟨by decide, by decide⟩, by decide +kernel⟩, im_X8_count, se_X8_count⟩
set_option maxHeartbeats 4000000 in
set_option maxRecDepth 100000 in
theorem xX8_count_159 {κ : Kx} {G : GT} (C : Cx κ G yX8_count cX8_count (some .int) 4 rX8_count) (q : Nat → Nat) (M : Ob) (v : (Int)) : ∀ (n : Nat) (lx2 : Int) (lx3 : Int), lX8_count_159 M n lx2 lx3 = some v → X κ G 4 (W_M G q M) 159 [(0, .ref (q 31)), (2, vi lx2), (3, vi lx3)] [] 0 0 (QM κ G (W_M G q M) (some (vi v)) rX8_count.cells rX8_count.slots) := by
  intro n
  induction n with
  | zero => intro _ _ h; exact absurd h (fun h => nomatch h)
  | succ n ih =>
    intro lx2 lx3 h
    rw [lX8_count_159] at h
    refine X.iload_n C dX8_count_159 rfl 2 rfl ?_
    refine X.iconst C dX8_count_160 ?_
    refine X.icmp_ge (tgt := 188) C h dX8_count_161 (by decide) (fun h => ?_) (fun h => ?_)
    · refine X.iload_n C dX8_count_188 rfl 1 rfl ?_
      cases h
      exact X.iret C dX8_count_189 (Nat.zero_le _) (Nat.zero_le _)
    refine X.iload_n C dX8_count_164 rfl 1 rfl ?_
    refine X.aload_n C dX8_count_165 rfl 0 rfl ?_
    refine X.get C dX8_count_166 lay_X8 0 rfl rfl 25 (by decide) fl_X8_49 rfl rfl ?_
    refine X.iload_n C dX8_count_169 rfl 2 rfl ?_
    refine X.iald C h dX8_count_170 11 rfl (fun h => ?_)
    refine X.iconst C dX8_count_171 ?_
    refine X.icmp_ne (tgt := 179) C h dX8_count_172 (by decide) (fun h => ?_) (fun h => ?_)
    · refine X.iconst C dX8_count_179 ?_
      refine X.iadd C dX8_count_180 ?_
      refine X.istoreN_n (lv2 := fun lx2_1 => [(2, vi lx2_1), (0, .ref (q 31)), (3, vi lx3)]) C h dX8_count_181 rfl (by decide) (fun _ => rfl) (fun lx2_1 h => ?_)
      refine X.iincN (lv2 := fun lx3_2 => [(3, vi lx3_2), (2, vi lx2_1), (0, .ref (q 31))]) C h dX8_count_182 2 rfl (by decide) (fun _ => rfl) (fun lx3_2 h => ?_)
      refine X.goto (tgt := 159) C dX8_count_185 (by decide) ?_
      refine X.sub [2, 1, 0] rfl ?_
      exact ih lx2_1 lx3_2 h
    refine X.iconst C dX8_count_175 ?_
    refine X.goto (tgt := 180) C dX8_count_176 (by decide) ?_
    refine X.iadd C dX8_count_180 ?_
    refine X.istoreN_n (lv2 := fun lx2_3 => [(2, vi lx2_3), (0, .ref (q 31)), (3, vi lx3)]) C h dX8_count_181 rfl (by decide) (fun _ => rfl) (fun lx2_3 h => ?_)
    refine X.iincN (lv2 := fun lx3_4 => [(3, vi lx3_4), (2, vi lx2_3), (0, .ref (q 31))]) C h dX8_count_182 2 rfl (by decide) (fun _ => rfl) (fun lx3_4 h => ?_)
    refine X.goto (tgt := 159) C dX8_count_185 (by decide) ?_
    refine X.sub [2, 1, 0] rfl ?_
    exact ih lx2_3 lx3_4 h
set_option maxHeartbeats 4000000 in
set_option maxRecDepth 100000 in
theorem kX8_count {l : Launch} {G : GT} (q : Nat → Nat) (M : Ob) (lx1 : Int) (v : (Int)) (h : fX8_count M lx1 = some v) : CT l G yX8_count cX8_count 4 (some .int) rX8_count [.ref (q 31), vi lx1] (W_M G q M) (W_M G q M) (some (vi v)) := by
  unfold fX8_count at h
  refine CT.of (by decide) (Nat.le_of_ble_eq_true rfl) rfl (fun κ _ C => ?_)
  refine X.iconst C dX8_count_0 ?_
  refine X.istore_n (lv2 := [(2, vi 0), (0, .ref (q 31)), (1, vi lx1)]) C dX8_count_1 rfl (by decide) rfl ?_
  refine X.iload_n C dX8_count_2 rfl 2 rfl ?_
  rcases bq_out h with ⟨c0, h⟩ | ⟨c0, h⟩
  · refine X.tsIn (tgt := 68) c0 C dX8_count_3 (by decide) (by decide) rfl (by decide) ?_
    refine X.aload_n C dX8_count_68 rfl 1 rfl ?_
    refine X.get C dX8_count_69 lay_X8 0 rfl rfl 1 (by decide) fl_X8_13 rfl rfl ?_
    refine X.iconst C dX8_count_72 ?_
    refine X.iald C h dX8_count_73 1 rfl (fun h => ?_)
    cases h
    exact X.iret C dX8_count_74 (Nat.zero_le _) (Nat.zero_le _)
  rcases bq_out h with ⟨c1, h⟩ | ⟨c1, h⟩
  · refine X.tsIn (tgt := 75) c1 C dX8_count_3 (by decide) (by decide) rfl (by decide) ?_
    refine X.aload_n C dX8_count_75 rfl 1 rfl ?_
    refine X.get C dX8_count_76 lay_X8 0 rfl rfl 1 (by decide) fl_X8_13 rfl rfl ?_
    refine X.iconst C dX8_count_79 ?_
    refine X.iald C h dX8_count_80 1 rfl (fun h => ?_)
    cases h
    exact X.iret C dX8_count_81 (Nat.zero_le _) (Nat.zero_le _)
  rcases bq_out h with ⟨c2, h⟩ | ⟨c2, h⟩
  · refine X.tsIn (tgt := 82) c2 C dX8_count_3 (by decide) (by decide) rfl (by decide) ?_
    refine X.aload_n C dX8_count_82 rfl 1 rfl ?_
    refine X.get C dX8_count_83 lay_X8 0 rfl rfl 1 (by decide) fl_X8_13 rfl rfl ?_
    refine X.bipush C dX8_count_86 (by decide) ?_
    refine X.iald C h dX8_count_88 1 rfl (fun h => ?_)
    cases h
    exact X.iret C dX8_count_89 (Nat.zero_le _) (Nat.zero_le _)
  rcases bq_out h with ⟨c3, h⟩ | ⟨c3, h⟩
  · refine X.tsIn (tgt := 90) c3 C dX8_count_3 (by decide) (by decide) rfl (by decide) ?_
    refine X.aload_n C dX8_count_90 rfl 1 rfl ?_
    refine X.get C dX8_count_91 lay_X8 0 rfl rfl 1 (by decide) fl_X8_13 rfl rfl ?_
    refine X.bipush C dX8_count_94 (by decide) ?_
    refine X.iald C h dX8_count_96 1 rfl (fun h => ?_)
    cases h
    exact X.iret C dX8_count_97 (Nat.zero_le _) (Nat.zero_le _)
  rcases bq_out h with ⟨c4, h⟩ | ⟨c4, h⟩
  · refine X.tsIn (tgt := 98) c4 C dX8_count_3 (by decide) (by decide) rfl (by decide) ?_
    refine X.aload_n C dX8_count_98 rfl 1 rfl ?_
    refine X.get C dX8_count_99 lay_X8 0 rfl rfl 1 (by decide) fl_X8_13 rfl rfl ?_
    refine X.bipush C dX8_count_102 (by decide) ?_
    refine X.iald C h dX8_count_104 1 rfl (fun h => ?_)
    cases h
    exact X.iret C dX8_count_105 (Nat.zero_le _) (Nat.zero_le _)
  rcases bq_out h with ⟨c5, h⟩ | ⟨c5, h⟩
  · refine X.tsIn (tgt := 106) c5 C dX8_count_3 (by decide) (by decide) rfl (by decide) ?_
    refine X.aload_n C dX8_count_106 rfl 1 rfl ?_
    refine X.get C dX8_count_107 lay_X8 0 rfl rfl 1 (by decide) fl_X8_13 rfl rfl ?_
    refine X.iconst C dX8_count_110 ?_
    refine X.iald C h dX8_count_111 1 rfl (fun h => ?_)
    cases h
    exact X.iret C dX8_count_112 (Nat.zero_le _) (Nat.zero_le _)
  rcases bq_out h with ⟨c6, h⟩ | ⟨c6, h⟩
  · refine X.tsIn (tgt := 113) c6 C dX8_count_3 (by decide) (by decide) rfl (by decide) ?_
    refine X.aload_n C dX8_count_113 rfl 1 rfl ?_
    refine X.get C dX8_count_114 lay_X8 0 rfl rfl 5 (by decide) fl_X8_79 rfl rfl ?_
    cases h
    exact X.iret C dX8_count_117 (Nat.zero_le _) (Nat.zero_le _)
  rcases bq_out h with ⟨c7, h⟩ | ⟨c7, h⟩
  · refine X.tsIn (tgt := 118) c7 C dX8_count_3 (by decide) (by decide) rfl (by decide) ?_
    refine X.aload_n C dX8_count_118 rfl 1 rfl ?_
    refine X.get C dX8_count_119 lay_X8 0 rfl rfl 1 (by decide) fl_X8_13 rfl rfl ?_
    refine X.iconst C dX8_count_122 ?_
    refine X.iald C h dX8_count_123 1 rfl (fun h => ?_)
    cases h
    exact X.iret C dX8_count_124 (Nat.zero_le _) (Nat.zero_le _)
  rcases bq_out h with ⟨c8, h⟩ | ⟨c8, h⟩
  · refine X.tsIn (tgt := 125) c8 C dX8_count_3 (by decide) (by decide) rfl (by decide) ?_
    refine X.aload_n C dX8_count_125 rfl 1 rfl ?_
    refine X.get C dX8_count_126 lay_X8 0 rfl rfl 1 (by decide) fl_X8_13 rfl rfl ?_
    refine X.bipush C dX8_count_129 (by decide) ?_
    refine X.iald C h dX8_count_131 1 rfl (fun h => ?_)
    cases h
    exact X.iret C dX8_count_132 (Nat.zero_le _) (Nat.zero_le _)
  rcases bq_out h with ⟨c9, h⟩ | ⟨c9, h⟩
  · refine X.tsIn (tgt := 133) c9 C dX8_count_3 (by decide) (by decide) rfl (by decide) ?_
    refine X.aload_n C dX8_count_133 rfl 1 rfl ?_
    refine X.get C dX8_count_134 lay_X8 0 rfl rfl 1 (by decide) fl_X8_13 rfl rfl ?_
    refine X.bipush C dX8_count_137 (by decide) ?_
    refine X.iald C h dX8_count_139 1 rfl (fun h => ?_)
    cases h
    exact X.iret C dX8_count_140 (Nat.zero_le _) (Nat.zero_le _)
  rcases bq_out h with ⟨c10, h⟩ | ⟨c10, h⟩
  · refine X.tsIn (tgt := 141) c10 C dX8_count_3 (by decide) (by decide) rfl (by decide) ?_
    refine X.aload_n C dX8_count_141 rfl 1 rfl ?_
    refine X.get C dX8_count_142 lay_X8 0 rfl rfl 1 (by decide) fl_X8_13 rfl rfl ?_
    refine X.bipush C dX8_count_145 (by decide) ?_
    refine X.iald C h dX8_count_147 1 rfl (fun h => ?_)
    cases h
    exact X.iret C dX8_count_148 (Nat.zero_le _) (Nat.zero_le _)
  rcases bq_out h with ⟨c11, h⟩ | ⟨c11, h⟩
  · refine X.tsIn (tgt := 149) c11 C dX8_count_3 (by decide) (by decide) rfl (by decide) ?_
    refine X.aload_n C dX8_count_149 rfl 1 rfl ?_
    refine X.get C dX8_count_150 lay_X8 0 rfl rfl 1 (by decide) fl_X8_13 rfl rfl ?_
    refine X.bipush C dX8_count_153 (by decide) ?_
    refine X.iald C h dX8_count_155 1 rfl (fun h => ?_)
    cases h
    exact X.iret C dX8_count_156 (Nat.zero_le _) (Nat.zero_le _)
  rcases bq_out h with ⟨c12, h⟩ | ⟨c12, h⟩
  · refine X.tsIn (tgt := 157) c12 C dX8_count_3 (by decide) (by decide) rfl (by decide) ?_
    refine X.iconst C dX8_count_157 ?_
    refine X.istore_n (lv2 := [(3, vi 0), (2, vi 0), (0, .ref (q 31)), (1, vi lx1)]) C dX8_count_158 rfl (by decide) rfl ?_
    refine X.sub [2, 1, 0] rfl ?_
    refine xX8_count_159 C q M v FU 0 0 h
  refine X.tsOut13 (tgt := 190) c0 c1 c2 c3 c4 c5 c6 c7 c8 c9 c10 c11 c12 C dX8_count_3 (by decide) ?_
  refine X.iconst C dX8_count_190 ?_
  cases h
  exact X.iret C dX8_count_191 (Nat.zero_le _) (Nat.zero_le _)
def rX8_cut : Room := { frames := 0, cells := 0, slots := 0, locals := 0 }
theorem mX8_cut : MS yX8_cut cX8_cut 4 (some .long) 2 := ⟨cd_X8_cut, in_X8, ⟨⟨by decide, by decide⟩, by decide +kernel⟩, sm_X8_cut⟩
set_option maxHeartbeats 4000000 in
set_option maxRecDepth 100000 in
theorem kX8_cut {l : Launch} {G : GT} (lx0 : Int) (lx2 : Int) (v : (Int)) (h : fX8_cut lx0 lx2 = some v) : CT l G yX8_cut cX8_cut 4 (some .long) rX8_cut [vl lx0, vi lx2] W_0 W_0 (some (vl v)) := by
  unfold fX8_cut at h
  refine CT.of (by decide) (Nat.le_of_ble_eq_true rfl) rfl (fun κ _ C => ?_)
  refine X.bipush C dX8_cut_0 (by decide) ?_
  refine X.bipush C dX8_cut_2 (by decide) ?_
  refine X.iload_n C dX8_cut_4 rfl 1 rfl ?_
  refine X.ishl C dX8_cut_5 ?_
  refine X.isub C dX8_cut_6 ?_
  refine X.istoreN_n (lv2 := fun lx3_1 => [(3, vi lx3_1), (0, vl lx0), (2, vi lx2)]) C h dX8_cut_7 rfl (by decide) (fun _ => rfl) (fun lx3_1 h => ?_)
  refine X.lload_n C dX8_cut_8 rfl 1 rfl ?_
  refine X.iload_n C dX8_cut_9 rfl 0 rfl ?_
  refine X.lshl C dX8_cut_10 ?_
  refine X.iload_n C dX8_cut_11 rfl 0 rfl ?_
  refine X.lshr C dX8_cut_12 ?_
  cases h
  exact X.lret C dX8_cut_13 (Nat.zero_le _) (Nat.zero_le _)
def rX8_row : Room := { frames := 2, cells := 0, slots := 0, locals := 45 }
theorem mX8_row : MV yX8_row cX8_row 5 (some .int) 3 := ⟨cd_X8_row, in_X8, ⟨⟨by decide, by decide⟩, by decide +kernel⟩, im_X8_row, se_X8_row⟩
set_option maxHeartbeats 4000000 in
set_option maxRecDepth 100000 in
theorem xX8_row_52 {κ : Kx} {G : GT} (C : Cx κ G yX8_row cX8_row (some .int) 5 rX8_row) (q : Nat → Nat) (lx1 : Int) (v : (Int × Ob)) : ∀ (n : Nat) (lx4 : Int) (M : Ob), lX8_row_52 lx1 n lx4 M = some v → X κ G 5 (W_M G q M) 52 [(0, .ref (q 31)), (1, vi lx1), (4, vi lx4)] [] 0 0 (QM κ G (W_M G q v.2) (some (vi v.1)) rX8_row.cells rX8_row.slots) := by
  intro n
  induction n with
  | zero => intro _ _ h; exact absurd h (fun h => nomatch h)
  | succ n ih =>
    intro lx4 M h
    rw [lX8_row_52] at h
    refine X.iload C dX8_row_52 2 rfl ?_
    refine X.bipush C dX8_row_54 (by decide) ?_
    refine X.icmp_ge (tgt := 78) C h dX8_row_56 (by decide) (fun h => ?_) (fun h => ?_)
    · refine X.iconst C dX8_row_78 ?_
      cases h
      exact X.iret C dX8_row_79 (Nat.zero_le _) (Nat.zero_le _)
    refine X.aload_n C dX8_row_59 rfl 0 rfl ?_
    refine X.get C dX8_row_60 lay_X8 0 rfl rfl 27 (by decide) fl_X8_55 rfl rfl ?_
    refine X.bipush C dX8_row_63 (by decide) ?_
    refine X.iload_n C dX8_row_65 rfl 1 rfl ?_
    refine X.imul C dX8_row_66 ?_
    refine X.iload C dX8_row_67 2 rfl ?_
    refine X.iadd C dX8_row_69 ?_
    refine X.lconst (z := 0) C dX8_row_70 (by decide) ?_
    refine X.last (ws2 := (W_M G q (up2 M 27 (ix ((60 * lx1) + lx4)) 0))) C h dX8_row_71 13 rfl rfl (fun h => ?_)
    refine X.nameS (ws := fun M_5 => (W_M G q M_5)) h (fun M_5 h => ?_)
    refine X.iincN (lv2 := fun lx4_6 => [(4, vi lx4_6), (0, .ref (q 31)), (1, vi lx1)]) C h dX8_row_72 2 rfl (by decide) (fun _ => rfl) (fun lx4_6 h => ?_)
    refine X.goto (tgt := 52) C dX8_row_75 (by decide) ?_
    refine X.sub [1, 2, 0] rfl ?_
    exact ih lx4_6 M_5 h
set_option maxHeartbeats 4000000 in
set_option maxRecDepth 100000 in
theorem kX8_row {l : Launch} {G : GT} (q : Nat → Nat) (M : Ob) (lx1 : Int) (lx2 : Int) (lx3 : Int) (v : (Int × Ob)) (h : fX8_row M lx1 lx2 lx3 = some v) : CT l G yX8_row cX8_row 5 (some .int) rX8_row [.ref (q 31), vi lx1, vi lx2, vi lx3] (W_M G q M) (W_M G q v.2) (some (vi v.1)) := by
  unfold fX8_row at h
  refine CT.of (by decide) (Nat.le_of_ble_eq_true rfl) rfl (fun κ _ C => ?_)
  refine X.iload_n C dX8_row_0 rfl 1 rfl ?_
  refine X.callSi (As := [vi lx1]) (rest := []) (g := fun rr_1 => rr_1) (W1 := fun rr_1 => W_0) (ws2 := fun rr_1 => (W_M G q M)) C h dX8_row_1 ml_X8_290 mX8_isSlot (fun v hv => kX8_isSlot lx1 v hv) (fun rr_1 => ln_M_0__n (G := G) (q := q) (M := M)) rfl rfl rfl rfl rfl rfl (fun rr_1 h => ?_)
  refine X.if_eq (tgt := 25) C h dX8_row_4 (by decide) (fun h => ?_) (fun h => ?_)
  · refine X.bipush C dX8_row_25 (by decide) ?_
    cases h
    exact X.iret C dX8_row_27 (Nat.zero_le _) (Nat.zero_le _)
  refine X.iload_n C dX8_row_7 rfl 2 rfl ?_
  refine X.i2l C dX8_row_8 ?_
  refine X.lconst (z := 0) C dX8_row_9 (by decide) ?_
  refine X.ldc2 (z := 3) C cl_X8_305 (by decide) dX8_row_10 ?_
  refine X.callSi (As := [vl (jwl lx2), vl 0, vl 3]) (rest := []) (g := fun rr_2 => rr_2) (W1 := fun rr_2 => W_0) (ws2 := fun rr_2 => (W_M G q M)) C h dX8_row_13 ml_X8_68 mX8_in (fun v hv => kX8_in (jwl lx2) 0 3 v hv) (fun rr_2 => ln_M_0__n (G := G) (q := q) (M := M)) rfl rfl rfl rfl rfl rfl (fun rr_2 h => ?_)
  refine X.if_eq (tgt := 25) C h dX8_row_16 (by decide) (fun h => ?_) (fun h => ?_)
  · refine X.bipush C dX8_row_25 (by decide) ?_
    cases h
    exact X.iret C dX8_row_27 (Nat.zero_le _) (Nat.zero_le _)
  refine X.iload_n C dX8_row_19 rfl 3 rfl ?_
  refine X.bipush C dX8_row_20 (by decide) ?_
  refine X.icmp_le (tgt := 28) C h dX8_row_22 (by decide) (fun h => ?_) (fun h => ?_)
  · refine X.iload_n C dX8_row_28 rfl 3 rfl ?_
    refine X.if_ge (tgt := 35) C h dX8_row_29 (by decide) (fun h => ?_) (fun h => ?_)
    · refine X.aload_n C dX8_row_35 rfl 0 rfl ?_
      refine X.get C dX8_row_36 lay_X8 0 rfl rfl 25 (by decide) fl_X8_49 rfl rfl ?_
      refine X.iload_n C dX8_row_39 rfl 1 rfl ?_
      refine X.iload_n C dX8_row_40 rfl 3 rfl ?_
      refine X.iast (ws2 := (W_M G q (up2 M 25 (ix lx1) lx3))) C h dX8_row_41 11 rfl rfl (fun h => ?_)
      refine X.nameS (ws := fun M_3 => (W_M G q M_3)) h (fun M_3 h => ?_)
      refine X.aload_n C dX8_row_42 rfl 0 rfl ?_
      refine X.get C dX8_row_43 lay_X8 0 rfl rfl 26 (by decide) fl_X8_52 rfl rfl ?_
      refine X.iload_n C dX8_row_46 rfl 1 rfl ?_
      refine X.iload_n C dX8_row_47 rfl 2 rfl ?_
      refine X.iast (ws2 := (W_M G q (up2 M_3 26 (ix lx1) lx2))) C h dX8_row_48 12 rfl rfl (fun h => ?_)
      refine X.nameS (ws := fun M_4 => (W_M G q M_4)) h (fun M_4 h => ?_)
      refine X.iconst C dX8_row_49 ?_
      refine X.istore (lv2 := [(4, vi 0), (0, .ref (q 31)), (1, vi lx1), (2, vi lx2), (3, vi lx3)]) C dX8_row_50 (by decide) rfl ?_
      refine X.sub [1, 2, 0] rfl ?_
      refine xX8_row_52 C q lx1 v FU 0 M_4 h
    refine X.bipush C dX8_row_32 (by decide) ?_
    cases h
    exact X.iret C dX8_row_34 (Nat.zero_le _) (Nat.zero_le _)
  refine X.bipush C dX8_row_25 (by decide) ?_
  cases h
  exact X.iret C dX8_row_27 (Nat.zero_le _) (Nat.zero_le _)
def rX8_write : Room := { frames := 2, cells := 0, slots := 0, locals := 45 }
theorem mX8_write : MV yX8_write cX8_write 5 (some .int) 3 := ⟨cd_X8_write, in_X8, ⟨⟨by decide, by decide⟩, by decide +kernel⟩, im_X8_write, se_X8_write⟩
set_option maxHeartbeats 4000000 in
set_option maxRecDepth 100000 in
theorem kX8_write {l : Launch} {G : GT} (q : Nat → Nat) (M : Ob) (lx1 : Int) (lx2 : Int) (lx3 : Int) (v : (Int × Ob)) (h : fX8_write M lx1 lx2 lx3 = some v) : CT l G yX8_write cX8_write 5 (some .int) rX8_write [.ref (q 31), vi lx1, vi lx2, vl lx3] (W_M G q M) (W_M G q v.2) (some (vi v.1)) := by
  unfold fX8_write at h
  refine CT.of (by decide) (Nat.le_of_ble_eq_true rfl) rfl (fun κ _ C => ?_)
  refine X.iload_n C dX8_write_0 rfl 1 rfl ?_
  refine X.callSi (As := [vi lx1]) (rest := []) (g := fun rr_1 => rr_1) (W1 := fun rr_1 => W_0) (ws2 := fun rr_1 => (W_M G q M)) C h dX8_write_1 ml_X8_290 mX8_isSlot (fun v hv => kX8_isSlot lx1 v hv) (fun rr_1 => ln_M_0__n (G := G) (q := q) (M := M)) rfl rfl rfl rfl rfl rfl (fun rr_1 h => ?_)
  refine X.if_ne (tgt := 10) C h dX8_write_4 (by decide) (fun h => ?_) (fun h => ?_)
  · refine X.aload_n C dX8_write_10 rfl 0 rfl ?_
    refine X.get C dX8_write_11 lay_X8 0 rfl rfl 25 (by decide) fl_X8_49 rfl rfl ?_
    refine X.iload_n C dX8_write_14 rfl 1 rfl ?_
    refine X.iald C h dX8_write_15 11 rfl (fun h => ?_)
    refine X.iconst C dX8_write_16 ?_
    refine X.icmp_ne (tgt := 23) C h dX8_write_17 (by decide) (fun h => ?_) (fun h => ?_)
    · refine X.iload_n C dX8_write_23 rfl 2 rfl ?_
      refine X.i2l C dX8_write_24 ?_
      refine X.lconst (z := 0) C dX8_write_25 (by decide) ?_
      refine X.aload_n C dX8_write_26 rfl 0 rfl ?_
      refine X.get C dX8_write_27 lay_X8 0 rfl rfl 25 (by decide) fl_X8_49 rfl rfl ?_
      refine X.iload_n C dX8_write_30 rfl 1 rfl ?_
      refine X.iald C h dX8_write_31 11 rfl (fun h => ?_)
      refine X.iconst C dX8_write_32 ?_
      refine X.isub C dX8_write_33 ?_
      refine X.i2l C dX8_write_34 ?_
      refine X.callSi (As := [vl (jwl lx2), vl 0, vl (jwl ((M 25 (ix lx1)) - 1))]) (rest := []) (g := fun rr_2 => rr_2) (W1 := fun rr_2 => W_0) (ws2 := fun rr_2 => (W_M G q M)) C h dX8_write_35 ml_X8_68 mX8_in (fun v hv => kX8_in (jwl lx2) 0 (jwl ((M 25 (ix lx1)) - 1)) v hv) (fun rr_2 => ln_M_0__n (G := G) (q := q) (M := M)) rfl rfl rfl rfl rfl rfl (fun rr_2 h => ?_)
      refine X.if_ne (tgt := 44) C h dX8_write_38 (by decide) (fun h => ?_) (fun h => ?_)
      · refine X.aload_n C dX8_write_44 rfl 0 rfl ?_
        refine X.get C dX8_write_45 lay_X8 0 rfl rfl 27 (by decide) fl_X8_55 rfl rfl ?_
        refine X.bipush C dX8_write_48 (by decide) ?_
        refine X.iload_n C dX8_write_50 rfl 1 rfl ?_
        refine X.imul C dX8_write_51 ?_
        refine X.iload_n C dX8_write_52 rfl 2 rfl ?_
        refine X.iadd C dX8_write_53 ?_
        refine X.lload_n C dX8_write_54 rfl 3 rfl ?_
        refine X.aload_n C dX8_write_55 rfl 0 rfl ?_
        refine X.get C dX8_write_56 lay_X8 0 rfl rfl 26 (by decide) fl_X8_52 rfl rfl ?_
        refine X.iload_n C dX8_write_59 rfl 1 rfl ?_
        refine X.iald C h dX8_write_60 12 rfl (fun h => ?_)
        refine X.callSl (As := [vl lx3, vi (M 26 (ix lx1))]) (rest := [vi ((60 * lx1) + lx2), .ref (q 27)]) (g := fun rr_3 => rr_3) (W1 := fun rr_3 => W_0) (ws2 := fun rr_3 => (W_M G q M)) C h dX8_write_61 ml_X8_461 mX8_cut (fun v hv => kX8_cut lx3 (M 26 (ix lx1)) v hv) (fun rr_3 => ln_M_0__n (G := G) (q := q) (M := M)) rfl rfl rfl rfl rfl rfl (fun rr_3 h => ?_)
        refine X.last (ws2 := (W_M G q (up2 M 27 (ix ((60 * lx1) + lx2)) rr_3))) C h dX8_write_64 13 rfl rfl (fun h => ?_)
        refine X.nameS (ws := fun M_4 => (W_M G q M_4)) h (fun M_4 h => ?_)
        refine X.iconst C dX8_write_65 ?_
        cases h
        exact X.iret C dX8_write_66 (Nat.zero_le _) (Nat.zero_le _)
      refine X.bipush C dX8_write_41 (by decide) ?_
      cases h
      exact X.iret C dX8_write_43 (Nat.zero_le _) (Nat.zero_le _)
    refine X.bipush C dX8_write_20 (by decide) ?_
    cases h
    exact X.iret C dX8_write_22 (Nat.zero_le _) (Nat.zero_le _)
  refine X.bipush C dX8_write_7 (by decide) ?_
  cases h
  exact X.iret C dX8_write_9 (Nat.zero_le _) (Nat.zero_le _)
def rX8_paste : Room := { frames := 2, cells := 0, slots := 0, locals := 45 }
theorem mX8_paste : MV yX8_paste cX8_paste 7 (some .int) 5 := ⟨cd_X8_paste, in_X8, ⟨⟨by decide, by decide⟩, by decide +kernel⟩, im_X8_paste, se_X8_paste⟩
set_option maxHeartbeats 4000000 in
set_option maxRecDepth 100000 in
theorem xX8_paste_113 {κ : Kx} {G : GT} (C : Cx κ G yX8_paste cX8_paste (some .int) 7 rX8_paste) (q : Nat → Nat) (lx1 : Int) (lx2 : Int) (lx3 : Int) (lx4 : Int) (lx5 : Int) (kx0 : Ob → Option (Int × Ob)) (v : (Int × Ob)) (hk0 : ∀ (M : Ob), kx0 M = some v → X κ G 7 (W_M G q M) 147 [(0, .ref (q 31)), (3, vi lx3), (4, vi lx4), (5, vi lx5)] [] 0 0 (QM κ G (W_M G q v.2) (some (vi v.1)) rX8_paste.cells rX8_paste.slots)) : ∀ (n : Nat) (lx6 : Int) (M : Ob), lX8_paste_113 lx1 lx2 lx3 lx4 lx5 kx0 n lx6 M = some v → X κ G 7 (W_M G q M) 113 [(0, .ref (q 31)), (1, vi lx1), (2, vi lx2), (3, vi lx3), (4, vi lx4), (5, vi lx5), (6, vi lx6)] [] 0 0 (QM κ G (W_M G q v.2) (some (vi v.1)) rX8_paste.cells rX8_paste.slots) := by
  intro n
  induction n with
  | zero => intro _ _ h; exact absurd h (fun h => nomatch h)
  | succ n ih =>
    intro lx6 M h
    rw [lX8_paste_113] at h
    refine X.iload C dX8_paste_113 6 rfl ?_
    refine X.iload C dX8_paste_115 5 rfl ?_
    refine X.icmp_ge (tgt := 147) C h dX8_paste_117 (by decide) (fun h => ?_) (fun h => ?_)
    · refine X.sub [0, 3, 4, 5] rfl ?_
      exact hk0 M h
    refine X.aload_n C dX8_paste_120 rfl 0 rfl ?_
    refine X.get C dX8_paste_121 lay_X8 0 rfl rfl 28 (by decide) fl_X8_59 rfl rfl ?_
    refine X.iload C dX8_paste_124 6 rfl ?_
    refine X.aload_n C dX8_paste_126 rfl 0 rfl ?_
    refine X.get C dX8_paste_127 lay_X8 0 rfl rfl 27 (by decide) fl_X8_55 rfl rfl ?_
    refine X.bipush C dX8_paste_130 (by decide) ?_
    refine X.iload_n C dX8_paste_132 rfl 1 rfl ?_
    refine X.imul C dX8_paste_133 ?_
    refine X.iload_n C dX8_paste_134 rfl 2 rfl ?_
    refine X.iadd C dX8_paste_135 ?_
    refine X.iload C dX8_paste_136 6 rfl ?_
    refine X.iadd C dX8_paste_138 ?_
    refine X.lald C h dX8_paste_139 13 rfl (fun h => ?_)
    refine X.last (ws2 := (W_M G q (up2 M 28 (ix lx6) (M 27 (ix (((60 * lx1) + lx2) + lx6)))))) C h dX8_paste_140 14 rfl rfl (fun h => ?_)
    refine X.nameS (ws := fun M_3 => (W_M G q M_3)) h (fun M_3 h => ?_)
    refine X.iincN (lv2 := fun lx6_4 => [(6, vi lx6_4), (0, .ref (q 31)), (1, vi lx1), (2, vi lx2), (3, vi lx3), (4, vi lx4), (5, vi lx5)]) C h dX8_paste_141 6 rfl (by decide) (fun _ => rfl) (fun lx6_4 h => ?_)
    refine X.goto (tgt := 113) C dX8_paste_144 (by decide) ?_
    refine X.sub [1, 2, 3, 4, 5, 6, 0] rfl ?_
    exact ih lx6_4 M_3 h
set_option maxHeartbeats 4000000 in
set_option maxRecDepth 100000 in
theorem xX8_paste_150 {κ : Kx} {G : GT} (C : Cx κ G yX8_paste cX8_paste (some .int) 7 rX8_paste) (q : Nat → Nat) (lx3 : Int) (lx4 : Int) (lx5 : Int) (v : (Int × Ob)) : ∀ (n : Nat) (lx6 : Int) (M : Ob), lX8_paste_150 lx3 lx4 lx5 n lx6 M = some v → X κ G 7 (W_M G q M) 150 [(0, .ref (q 31)), (3, vi lx3), (4, vi lx4), (5, vi lx5), (6, vi lx6)] [] 0 0 (QM κ G (W_M G q v.2) (some (vi v.1)) rX8_paste.cells rX8_paste.slots) := by
  intro n
  induction n with
  | zero => intro _ _ h; exact absurd h (fun h => nomatch h)
  | succ n ih =>
    intro lx6 M h
    rw [lX8_paste_150] at h
    refine X.iload C dX8_paste_150 4 rfl ?_
    refine X.iload C dX8_paste_152 3 rfl ?_
    refine X.icmp_ge (tgt := 185) C h dX8_paste_154 (by decide) (fun h => ?_) (fun h => ?_)
    · refine X.iconst C dX8_paste_185 ?_
      cases h
      exact X.iret C dX8_paste_186 (Nat.zero_le _) (Nat.zero_le _)
    refine X.aload_n C dX8_paste_157 rfl 0 rfl ?_
    refine X.get C dX8_paste_158 lay_X8 0 rfl rfl 27 (by decide) fl_X8_55 rfl rfl ?_
    refine X.bipush C dX8_paste_161 (by decide) ?_
    refine X.iload_n C dX8_paste_163 rfl 1 rfl ?_
    refine X.imul C dX8_paste_164 ?_
    refine X.iload C dX8_paste_165 2 rfl ?_
    refine X.iadd C dX8_paste_167 ?_
    refine X.iload C dX8_paste_168 4 rfl ?_
    refine X.iadd C dX8_paste_170 ?_
    refine X.aload_n C dX8_paste_171 rfl 0 rfl ?_
    refine X.get C dX8_paste_172 lay_X8 0 rfl rfl 28 (by decide) fl_X8_59 rfl rfl ?_
    refine X.iload C dX8_paste_175 4 rfl ?_
    refine X.lald C h dX8_paste_177 14 rfl (fun h => ?_)
    refine X.last (ws2 := (W_M G q (up2 M 27 (ix (((60 * lx3) + lx4) + lx6)) (M 28 (ix lx6))))) C h dX8_paste_178 13 rfl rfl (fun h => ?_)
    refine X.nameS (ws := fun M_6 => (W_M G q M_6)) h (fun M_6 h => ?_)
    refine X.iincN (lv2 := fun lx6_7 => [(6, vi lx6_7), (0, .ref (q 31)), (3, vi lx3), (4, vi lx4), (5, vi lx5)]) C h dX8_paste_179 4 rfl (by decide) (fun _ => rfl) (fun lx6_7 h => ?_)
    refine X.goto (tgt := 150) C dX8_paste_182 (by decide) ?_
    refine X.sub [1, 2, 3, 4, 0] rfl ?_
    exact ih lx6_7 M_6 h
set_option maxHeartbeats 4000000 in
set_option maxRecDepth 100000 in
theorem kX8_paste {l : Launch} {G : GT} (q : Nat → Nat) (M : Ob) (lx1 : Int) (lx2 : Int) (lx3 : Int) (lx4 : Int) (lx5 : Int) (v : (Int × Ob)) (h : fX8_paste M lx1 lx2 lx3 lx4 lx5 = some v) : CT l G yX8_paste cX8_paste 7 (some .int) rX8_paste [.ref (q 31), vi lx1, vi lx2, vi lx3, vi lx4, vi lx5] (W_M G q M) (W_M G q v.2) (some (vi v.1)) := by
  unfold fX8_paste at h
  refine CT.of (by decide) (Nat.le_of_ble_eq_true rfl) rfl (fun κ _ C => ?_)
  refine X.iload_n C dX8_paste_0 rfl 1 rfl ?_
  refine X.callSi (As := [vi lx1]) (rest := []) (g := fun rr_1 => rr_1) (W1 := fun rr_1 => W_0) (ws2 := fun rr_1 => (W_M G q M)) C h dX8_paste_1 ml_X8_290 mX8_isSlot (fun v hv => kX8_isSlot lx1 v hv) (fun rr_1 => ln_M_0__n (G := G) (q := q) (M := M)) rfl rfl rfl rfl rfl rfl (fun rr_1 h => ?_)
  refine X.if_eq (tgt := 14) C h dX8_paste_4 (by decide) (fun h => ?_) (fun h => ?_)
  · refine X.bipush C dX8_paste_14 (by decide) ?_
    cases h
    exact X.iret C dX8_paste_16 (Nat.zero_le _) (Nat.zero_le _)
  refine X.iload_n C dX8_paste_7 rfl 3 rfl ?_
  refine X.callSi (As := [vi lx3]) (rest := []) (g := fun rr_2 => rr_2) (W1 := fun rr_2 => W_0) (ws2 := fun rr_2 => (W_M G q M)) C h dX8_paste_8 ml_X8_290 mX8_isSlot (fun v hv => kX8_isSlot lx3 v hv) (fun rr_2 => ln_M_0__n (G := G) (q := q) (M := M)) rfl rfl rfl rfl rfl rfl (fun rr_2 h => ?_)
  refine X.if_ne (tgt := 17) C h dX8_paste_11 (by decide) (fun h => ?_) (fun h => ?_)
  · refine X.aload_n C dX8_paste_17 rfl 0 rfl ?_
    refine X.get C dX8_paste_18 lay_X8 0 rfl rfl 25 (by decide) fl_X8_49 rfl rfl ?_
    refine X.iload_n C dX8_paste_21 rfl 1 rfl ?_
    refine X.iald C h dX8_paste_22 11 rfl (fun h => ?_)
    refine X.iconst C dX8_paste_23 ?_
    refine X.icmp_eq (tgt := 37) C h dX8_paste_24 (by decide) (fun h => ?_) (fun h => ?_)
    · refine X.bipush C dX8_paste_37 (by decide) ?_
      cases h
      exact X.iret C dX8_paste_39 (Nat.zero_le _) (Nat.zero_le _)
    refine X.aload_n C dX8_paste_27 rfl 0 rfl ?_
    refine X.get C dX8_paste_28 lay_X8 0 rfl rfl 25 (by decide) fl_X8_49 rfl rfl ?_
    refine X.iload_n C dX8_paste_31 rfl 3 rfl ?_
    refine X.iald C h dX8_paste_32 11 rfl (fun h => ?_)
    refine X.iconst C dX8_paste_33 ?_
    refine X.icmp_ne (tgt := 40) C h dX8_paste_34 (by decide) (fun h => ?_) (fun h => ?_)
    · refine X.aload_n C dX8_paste_40 rfl 0 rfl ?_
      refine X.get C dX8_paste_41 lay_X8 0 rfl rfl 26 (by decide) fl_X8_52 rfl rfl ?_
      refine X.iload_n C dX8_paste_44 rfl 1 rfl ?_
      refine X.iald C h dX8_paste_45 12 rfl (fun h => ?_)
      refine X.aload_n C dX8_paste_46 rfl 0 rfl ?_
      refine X.get C dX8_paste_47 lay_X8 0 rfl rfl 26 (by decide) fl_X8_52 rfl rfl ?_
      refine X.iload_n C dX8_paste_50 rfl 3 rfl ?_
      refine X.iald C h dX8_paste_51 12 rfl (fun h => ?_)
      refine X.icmp_eq (tgt := 58) C h dX8_paste_52 (by decide) (fun h => ?_) (fun h => ?_)
      · refine X.iload_n C dX8_paste_58 rfl 2 rfl ?_
        refine X.if_lt (tgt := 107) C h dX8_paste_59 (by decide) (fun h => ?_) (fun h => ?_)
        · refine X.bipush C dX8_paste_107 (by decide) ?_
          cases h
          exact X.iret C dX8_paste_109 (Nat.zero_le _) (Nat.zero_le _)
        refine X.iload C dX8_paste_62 4 rfl ?_
        refine X.if_lt (tgt := 107) C h dX8_paste_64 (by decide) (fun h => ?_) (fun h => ?_)
        · refine X.bipush C dX8_paste_107 (by decide) ?_
          cases h
          exact X.iret C dX8_paste_109 (Nat.zero_le _) (Nat.zero_le _)
        refine X.iload C dX8_paste_67 5 rfl ?_
        refine X.if_lt (tgt := 107) C h dX8_paste_69 (by decide) (fun h => ?_) (fun h => ?_)
        · refine X.bipush C dX8_paste_107 (by decide) ?_
          cases h
          exact X.iret C dX8_paste_109 (Nat.zero_le _) (Nat.zero_le _)
        refine X.iload_n C dX8_paste_72 rfl 2 rfl ?_
        refine X.i2l C dX8_paste_73 ?_
        refine X.iload C dX8_paste_74 5 rfl ?_
        refine X.i2l C dX8_paste_76 ?_
        refine X.ladd C dX8_paste_77 ?_
        refine X.aload_n C dX8_paste_78 rfl 0 rfl ?_
        refine X.get C dX8_paste_79 lay_X8 0 rfl rfl 25 (by decide) fl_X8_49 rfl rfl ?_
        refine X.iload_n C dX8_paste_82 rfl 1 rfl ?_
        refine X.iald C h dX8_paste_83 11 rfl (fun h => ?_)
        refine X.i2l C dX8_paste_84 ?_
        refine X.lcmp C dX8_paste_85 ?_
        refine X.if_gt (tgt := 107) C h dX8_paste_86 (by decide) (fun h => ?_) (fun h => ?_)
        · refine X.bipush C dX8_paste_107 (by decide) ?_
          cases h
          exact X.iret C dX8_paste_109 (Nat.zero_le _) (Nat.zero_le _)
        refine X.iload C dX8_paste_89 4 rfl ?_
        refine X.i2l C dX8_paste_91 ?_
        refine X.iload C dX8_paste_92 5 rfl ?_
        refine X.i2l C dX8_paste_94 ?_
        refine X.ladd C dX8_paste_95 ?_
        refine X.aload_n C dX8_paste_96 rfl 0 rfl ?_
        refine X.get C dX8_paste_97 lay_X8 0 rfl rfl 25 (by decide) fl_X8_49 rfl rfl ?_
        refine X.iload_n C dX8_paste_100 rfl 3 rfl ?_
        refine X.iald C h dX8_paste_101 11 rfl (fun h => ?_)
        refine X.i2l C dX8_paste_102 ?_
        refine X.lcmp C dX8_paste_103 ?_
        refine X.if_le (tgt := 110) C h dX8_paste_104 (by decide) (fun h => ?_) (fun h => ?_)
        · refine X.iconst C dX8_paste_110 ?_
          refine X.istore (lv2 := [(6, vi 0), (0, .ref (q 31)), (1, vi lx1), (2, vi lx2), (3, vi lx3), (4, vi lx4), (5, vi lx5)]) C dX8_paste_111 (by decide) rfl ?_
          refine X.sub [1, 2, 3, 4, 5, 6, 0] rfl ?_
          refine xX8_paste_113 C q lx1 lx2 lx3 lx4 lx5 _ v (fun M_5 h => ?_) FU 0 M h
          · refine X.iconst C dX8_paste_147 ?_
            refine X.istore (lv2 := [(6, vi 0), (0, .ref (q 31)), (3, vi lx3), (4, vi lx4), (5, vi lx5)]) C dX8_paste_148 (by decide) rfl ?_
            refine X.sub [1, 2, 3, 4, 0] rfl ?_
            refine xX8_paste_150 C q lx3 lx4 lx5 v FU 0 M_5 h
        refine X.bipush C dX8_paste_107 (by decide) ?_
        cases h
        exact X.iret C dX8_paste_109 (Nat.zero_le _) (Nat.zero_le _)
      refine X.bipush C dX8_paste_55 (by decide) ?_
      cases h
      exact X.iret C dX8_paste_57 (Nat.zero_le _) (Nat.zero_le _)
    refine X.bipush C dX8_paste_37 (by decide) ?_
    cases h
    exact X.iret C dX8_paste_39 (Nat.zero_le _) (Nat.zero_le _)
  refine X.bipush C dX8_paste_14 (by decide) ?_
  cases h
  exact X.iret C dX8_paste_16 (Nat.zero_le _) (Nat.zero_le _)
