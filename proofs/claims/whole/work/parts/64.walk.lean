def rX7_reach : Room := { frames := 4, cells := 0, slots := 0, locals := 96 }
theorem mX7_reach : MV yX7_reach cX7_reach 5 (some .int) 2 := ⟨cd_X7_reach, in_X7, ⟨⟨by decide, by decide⟩, by decide +kernel⟩, im_X7_reach, se_X7_reach⟩
set_option maxHeartbeats 4000000 in
set_option maxRecDepth 100000 in
theorem xX7_reach_23 {κ : Kx} {G : GT} (C : Cx κ G yX7_reach cX7_reach (some .int) 5 rX7_reach) (q : Nat → Nat → Nat) (T : Nat → Ob) (lx1 : Int) (lx2 : Int) (v : (Int)) : ∀ (n : Nat) (lx3 : Int) (lx4 : Int), lX7_reach_23 T lx1 lx2 n lx3 lx4 = some v → X κ G 5 (W_T G q T) 23 [(0, .ref ((q 11) 31)), (1, vi lx1), (2, vi lx2), (3, vi lx3), (4, vi lx4)] [] 0 0 (QM κ G (W_T G q T) (some (vi v)) rX7_reach.cells rX7_reach.slots) := by
  intro n
  induction n with
  | zero => intro _ _ h; exact absurd h (fun h => nomatch h)
  | succ n ih =>
    intro lx3 lx4 h
    rw [lX7_reach_23] at h
    refine X.iload C dX7_reach_23 4 rfl ?_
    refine X.bipush C dX7_reach_25 (by decide) ?_
    refine X.icmp_gt (tgt := 60) C h dX7_reach_27 (by decide) (fun h => ?_) (fun h => ?_)
    · refine X.iload_n C dX7_reach_60 rfl 3 rfl ?_
      cases h
      exact X.iret C dX7_reach_61 (Nat.zero_le _) (Nat.zero_le _)
    refine X.aload_n C dX7_reach_30 rfl 0 rfl ?_
    refine X.iload_n C dX7_reach_31 rfl 1 rfl ?_
    refine X.bipush C dX7_reach_32 (by decide) ?_
    refine X.iload_n C dX7_reach_34 rfl 2 rfl ?_
    refine X.imul C dX7_reach_35 ?_
    refine X.iload C dX7_reach_36 4 rfl ?_
    refine X.iadd C dX7_reach_38 ?_
    refine X.callVi (q0 := 0) (As := [vi lx1, vi ((10 * lx2) + lx4)]) (rest := []) (g := fun rr_3 => rr_3) (W1 := fun rr_3 => (W_T G q T)) (ws2 := fun rr_3 => (W_T G q T)) C h dX7_reach_39 ml_X7_252 mX7_lowestHit (fun v hv => kX7_lowestHit q T lx1 ((10 * lx2) + lx4) v hv) (fun rr_3 => ln_T_T_id_n (G := G) (q := q) (T := T)) rfl rfl rfl rfl rfl rfl rfl rfl (fun rr_3 h => ?_)
    refine X.bipush C dX7_reach_42 (by decide) ?_
    refine X.icmp_gt (tgt := 54) C h dX7_reach_44 (by decide) (fun h => ?_) (fun h => ?_)
    · refine X.iincN (lv2 := fun lx4_4 => [(4, vi lx4_4), (0, .ref ((q 11) 31)), (1, vi lx1), (2, vi lx2), (3, vi lx3)]) C h dX7_reach_54 4 rfl (by decide) (fun _ => rfl) (fun lx4_4 h => ?_)
      refine X.goto (tgt := 23) C dX7_reach_57 (by decide) ?_
      refine X.sub [1, 2, 3, 4, 0] rfl ?_
      exact ih lx3 lx4_4 h
    refine X.iload_n C dX7_reach_47 rfl 3 rfl ?_
    refine X.iconst C dX7_reach_48 ?_
    refine X.iload C dX7_reach_49 4 rfl ?_
    refine X.ishl C dX7_reach_51 ?_
    refine X.ior C dX7_reach_52 ?_
    refine X.istoreN_n (lv2 := fun lx3_5 => [(3, vi lx3_5), (0, .ref ((q 11) 31)), (1, vi lx1), (2, vi lx2), (4, vi lx4)]) C h dX7_reach_53 rfl (by decide) (fun _ => rfl) (fun lx3_5 h => ?_)
    refine X.iincN (lv2 := fun lx4_6 => [(4, vi lx4_6), (3, vi lx3_5), (0, .ref ((q 11) 31)), (1, vi lx1), (2, vi lx2)]) C h dX7_reach_54 4 rfl (by decide) (fun _ => rfl) (fun lx4_6 h => ?_)
    refine X.goto (tgt := 23) C dX7_reach_57 (by decide) ?_
    refine X.sub [2, 3, 4, 1, 0] rfl ?_
    exact ih lx3_5 lx4_6 h
set_option maxHeartbeats 4000000 in
set_option maxRecDepth 100000 in
theorem kX7_reach {l : Launch} {G : GT} (q : Nat → Nat → Nat) (T : Nat → Ob) (lx1 : Int) (lx2 : Int) (v : (Int)) (h : fX7_reach T lx1 lx2 = some v) : CT l G yX7_reach cX7_reach 5 (some .int) rX7_reach [.ref ((q 11) 31), vi lx1, vi lx2] (W_T G q T) (W_T G q T) (some (vi v)) := by
  unfold fX7_reach at h
  refine CT.of (by decide) (Nat.le_of_ble_eq_true rfl) rfl (fun κ _ C => ?_)
  refine X.aload_n C dX7_reach_0 rfl 0 rfl ?_
  refine X.iload_n C dX7_reach_1 rfl 1 rfl ?_
  refine X.callVi (q0 := 0) (As := [vi lx1]) (rest := []) (g := fun rr_1 => rr_1) (W1 := fun rr_1 => (W_T G q T)) (ws2 := fun rr_1 => (W_T G q T)) C h dX7_reach_2 ml_X7_127 mX7_isTable (fun v hv => kX7_isTable q T lx1 v hv) (fun rr_1 => ln_T_T_id_n (G := G) (q := q) (T := T)) rfl rfl rfl rfl rfl rfl rfl rfl (fun rr_1 h => ?_)
  refine X.if_eq (tgt := 15) C h dX7_reach_5 (by decide) (fun h => ?_) (fun h => ?_)
  · refine X.bipush C dX7_reach_15 (by decide) ?_
    cases h
    exact X.iret C dX7_reach_17 (Nat.zero_le _) (Nat.zero_le _)
  refine X.iload_n C dX7_reach_8 rfl 2 rfl ?_
  refine X.callSi (As := [vi lx2]) (rest := []) (g := fun rr_2 => rr_2) (W1 := fun rr_2 => W_0) (ws2 := fun rr_2 => (W_T G q T)) C h dX7_reach_9 ml_X7_255 mX7_isWay (fun v hv => kX7_isWay lx2 v hv) (fun rr_2 => ln_T_0__n (G := G) (q := q) (T := T)) rfl rfl rfl rfl rfl rfl (fun rr_2 h => ?_)
  refine X.if_ne (tgt := 18) C h dX7_reach_12 (by decide) (fun h => ?_) (fun h => ?_)
  · refine X.iconst C dX7_reach_18 ?_
    refine X.istore_n (lv2 := [(3, vi 0), (0, .ref ((q 11) 31)), (1, vi lx1), (2, vi lx2)]) C dX7_reach_19 rfl (by decide) rfl ?_
    refine X.iconst C dX7_reach_20 ?_
    refine X.istore (lv2 := [(4, vi 0), (3, vi 0), (0, .ref ((q 11) 31)), (1, vi lx1), (2, vi lx2)]) C dX7_reach_21 (by decide) rfl ?_
    refine X.sub [2, 3, 4, 1, 0] rfl ?_
    refine xX7_reach_23 C q T lx1 lx2 v FU 0 0 h
  refine X.bipush C dX7_reach_15 (by decide) ?_
  cases h
  exact X.iret C dX7_reach_17 (Nat.zero_le _) (Nat.zero_le _)
def rX7_nozzle : Room := { frames := 2, cells := 0, slots := 0, locals := 43 }
theorem mX7_nozzle : MV yX7_nozzle cX7_nozzle 4 (some .int) 2 := ⟨cd_X7_nozzle, in_X7, ⟨⟨by decide, by decide⟩, by decide +kernel⟩, im_X7_nozzle, se_X7_nozzle⟩
set_option maxHeartbeats 4000000 in
set_option maxRecDepth 100000 in
theorem kX7_nozzle {l : Launch} {G : GT} (q : Nat → Nat → Nat) (T : Nat → Ob) (lx1 : Int) (lx2 : Int) (v : (Int × (Nat → Ob))) (h : fX7_nozzle T lx1 lx2 = some v) : CT l G yX7_nozzle cX7_nozzle 4 (some .int) rX7_nozzle [.ref ((q 11) 31), vi lx1, vi lx2] (W_T G q T) (W_T G q v.2) (some (vi v.1)) := by
  unfold fX7_nozzle at h
  refine CT.of (by decide) (Nat.le_of_ble_eq_true rfl) rfl (fun κ _ C => ?_)
  refine X.aload_n C dX7_nozzle_0 rfl 0 rfl ?_
  refine X.iload_n C dX7_nozzle_1 rfl 1 rfl ?_
  refine X.callVi (q0 := 0) (As := [vi lx1]) (rest := []) (g := fun rr_1 => rr_1) (W1 := fun rr_1 => (W_T G q T)) (ws2 := fun rr_1 => (W_T G q T)) C h dX7_nozzle_2 ml_X7_258 mX7_isSize (fun v hv => kX7_isSize q T lx1 v hv) (fun rr_1 => ln_T_T_id_n (G := G) (q := q) (T := T)) rfl rfl rfl rfl rfl rfl rfl rfl (fun rr_1 h => ?_)
  refine X.if_eq (tgt := 18) C h dX7_nozzle_5 (by decide) (fun h => ?_) (fun h => ?_)
  · refine X.bipush C dX7_nozzle_18 (by decide) ?_
    cases h
    exact X.iret C dX7_nozzle_20 (Nat.zero_le _) (Nat.zero_le _)
  refine X.iload_n C dX7_nozzle_8 rfl 2 rfl ?_
  refine X.iconst C dX7_nozzle_9 ?_
  refine X.bipush C dX7_nozzle_10 (by decide) ?_
  refine X.callSi (As := [vi lx2, vi 0, vi 99]) (rest := []) (g := fun rr_2 => rr_2) (W1 := fun rr_2 => W_0) (ws2 := fun rr_2 => (W_T G q T)) C h dX7_nozzle_12 ml_X7_93 mX7_isWithin (fun v hv => kX7_isWithin lx2 0 99 v hv) (fun rr_2 => ln_T_0__n (G := G) (q := q) (T := T)) rfl rfl rfl rfl rfl rfl (fun rr_2 h => ?_)
  refine X.if_ne (tgt := 21) C h dX7_nozzle_15 (by decide) (fun h => ?_) (fun h => ?_)
  · refine X.aload_n C dX7_nozzle_21 rfl 0 rfl ?_
    refine X.get C dX7_nozzle_22 lay_X7 0 rfl rfl 2 (by decide) fl_X7_19 rfl rfl ?_
    refine X.get C dX7_nozzle_25 lay_X3 5 rfl rfl 0 (by decide) fl_X7_28 rfl rfl ?_
    refine X.get C dX7_nozzle_28 lay_X1 6 rfl rfl 12 (by decide) fl_X7_261 rfl rfl ?_
    refine X.iload_n C dX7_nozzle_31 rfl 1 rfl ?_
    refine X.iald C h dX7_nozzle_32 7 rfl (fun h => ?_)
    refine X.istoreN_n (lv2 := fun lx3_3 => [(3, vi lx3_3), (0, .ref ((q 11) 31)), (1, vi lx1), (2, vi lx2)]) C h dX7_nozzle_33 rfl (by decide) (fun _ => rfl) (fun lx3_3 h => ?_)
    refine X.aload_n C dX7_nozzle_34 rfl 1 rfl ?_
    refine X.get C dX7_nozzle_35 lay_X7 0 rfl rfl 2 (by decide) fl_X7_19 rfl rfl ?_
    refine X.get C dX7_nozzle_38 lay_X3 5 rfl rfl 0 (by decide) fl_X7_28 rfl rfl ?_
    refine X.get C dX7_nozzle_41 lay_X1 6 rfl rfl 12 (by decide) fl_X7_261 rfl rfl ?_
    refine X.iload_n C dX7_nozzle_44 rfl 2 rfl ?_
    refine X.iload_n C dX7_nozzle_45 rfl 3 rfl ?_
    refine X.iast (ws2 := (W_T G q (upO T 2 (up2 (T 2) 12 (ix lx1) lx2)))) C h dX7_nozzle_46 7 rfl rfl (fun h => ?_)
    refine X.nameS (ws := fun T_4 => (W_T G q T_4)) h (fun T_4 h => ?_)
    refine X.iload_n C dX7_nozzle_47 rfl 0 rfl ?_
    cases h
    exact X.iret C dX7_nozzle_48 (Nat.zero_le _) (Nat.zero_le _)
  refine X.bipush C dX7_nozzle_18 (by decide) ?_
  cases h
  exact X.iret C dX7_nozzle_20 (Nat.zero_le _) (Nat.zero_le _)
def rX7_fine : Room := { frames := 3, cells := 0, slots := 0, locals := 66 }
theorem mX7_fine : MV yX7_fine cX7_fine 6 (some .int) 3 := ⟨cd_X7_fine, in_X7, ⟨⟨by decide, by decide⟩, by decide +kernel⟩, im_X7_fine, se_X7_fine⟩
set_option maxHeartbeats 4000000 in
set_option maxRecDepth 100000 in
theorem xX7_fine_28 {κ : Kx} {G : GT} (C : Cx κ G yX7_fine cX7_fine (some .int) 6 rX7_fine) (q : Nat → Nat → Nat) (T : Nat → Ob) (lx4 : Int) (v : (Int)) : ∀ (n : Nat) (lx5 : Int), lX7_fine_28 T lx4 n lx5 = some v → X κ G 6 (W_T G q T) 28 [(0, .ref ((q 11) 31)), (4, vi lx4), (5, vi lx5)] [] 0 0 (QM κ G (W_T G q T) (some (vi v)) rX7_fine.cells rX7_fine.slots) := by
  intro n
  induction n with
  | zero => intro _ h; exact absurd h (fun h => nomatch h)
  | succ n ih =>
    intro lx5 h
    rw [lX7_fine_28] at h
    refine X.iload C dX7_fine_28 2 rfl ?_
    refine X.if_lt (tgt := 63) C h dX7_fine_30 (by decide) (fun h => ?_) (fun h => ?_)
    · refine X.iconst C dX7_fine_63 ?_
      cases h
      exact X.iret C dX7_fine_64 (Nat.zero_le _) (Nat.zero_le _)
    refine X.iload C dX7_fine_33 2 rfl ?_
    refine X.iload C dX7_fine_35 1 rfl ?_
    refine X.imul C dX7_fine_37 ?_
    refine X.bipush C dX7_fine_38 (by decide) ?_
    refine X.idiv C (by decide) dX7_fine_40 ?_
    refine X.aload_n C dX7_fine_41 rfl 0 rfl ?_
    refine X.get C dX7_fine_42 lay_X7 0 rfl rfl 2 (by decide) fl_X7_19 rfl rfl ?_
    refine X.get C dX7_fine_45 lay_X3 5 rfl rfl 0 (by decide) fl_X7_28 rfl rfl ?_
    refine X.get C dX7_fine_48 lay_X1 6 rfl rfl 5 (by decide) fl_X7_208 rfl rfl ?_
    refine X.icmp_gt (tgt := 57) C h dX7_fine_51 (by decide) (fun h => ?_) (fun h => ?_)
    · refine X.iincN (lv2 := fun lx5_4 => [(5, vi lx5_4), (0, .ref ((q 11) 31)), (4, vi lx4)]) C h dX7_fine_57 2 rfl (by decide) (fun _ => rfl) (fun lx5_4 h => ?_)
      refine X.goto (tgt := 28) C dX7_fine_60 (by decide) ?_
      refine X.sub [1, 2, 0] rfl ?_
      exact ih lx5_4 h
    refine X.iload C dX7_fine_54 2 rfl ?_
    cases h
    exact X.iret C dX7_fine_56 (Nat.zero_le _) (Nat.zero_le _)
set_option maxHeartbeats 4000000 in
set_option maxRecDepth 100000 in
theorem kX7_fine {l : Launch} {G : GT} (q : Nat → Nat → Nat) (T : Nat → Ob) (lx1 : Int) (lx2 : Int) (lx3 : Int) (v : (Int)) (h : fX7_fine T lx1 lx2 lx3 = some v) : CT l G yX7_fine cX7_fine 6 (some .int) rX7_fine [.ref ((q 11) 31), vi lx1, vi lx2, vi lx3] (W_T G q T) (W_T G q T) (some (vi v)) := by
  unfold fX7_fine at h
  refine CT.of (by decide) (Nat.le_of_ble_eq_true rfl) rfl (fun κ _ C => ?_)
  refine X.aload_n C dX7_fine_0 rfl 0 rfl ?_
  refine X.iload_n C dX7_fine_1 rfl 1 rfl ?_
  refine X.iload_n C dX7_fine_2 rfl 2 rfl ?_
  refine X.iload_n C dX7_fine_3 rfl 3 rfl ?_
  refine X.callVi (q0 := 0) (As := [vi lx1, vi lx2, vi lx3]) (rest := []) (g := fun rr_1 => rr_1) (W1 := fun rr_1 => (W_T G q T)) (ws2 := fun rr_1 => (W_T G q T)) C h dX7_fine_4 ml_X7_224 mX7_isThrow (fun v hv => kX7_isThrow q T lx1 lx2 lx3 v hv) (fun rr_1 => ln_T_T_id_n (G := G) (q := q) (T := T)) rfl rfl rfl rfl rfl rfl rfl rfl (fun rr_1 h => ?_)
  refine X.if_ne (tgt := 13) C h dX7_fine_7 (by decide) (fun h => ?_) (fun h => ?_)
  · refine X.iload_n C dX7_fine_13 rfl 3 rfl ?_
    refine X.bipush C dX7_fine_14 (by decide) ?_
    refine X.irem C (by decide) dX7_fine_16 ?_
    refine X.iload_n C dX7_fine_17 rfl 2 rfl ?_
    refine X.callSi (As := [vi lx2]) (rest := [vi (jrm lx3 10)]) (g := fun rr_2 => rr_2) (W1 := fun rr_2 => W_0) (ws2 := fun rr_2 => (W_T G q T)) C h dX7_fine_18 ml_X7_227 mX7_flightOf (fun v hv => kX7_flightOf lx2 v hv) (fun rr_2 => ln_T_0__n (G := G) (q := q) (T := T)) rfl rfl rfl rfl rfl rfl (fun rr_2 h => ?_)
    refine X.imul C dX7_fine_21 ?_
    refine X.istoreN (lv2 := fun lx4_3 => [(4, vi lx4_3), (0, .ref ((q 11) 31)), (1, vi lx1), (2, vi lx2), (3, vi lx3)]) C h dX7_fine_22 (by decide) (fun _ => rfl) (fun lx4_3 h => ?_)
    refine X.bipush C dX7_fine_24 (by decide) ?_
    refine X.istore (lv2 := [(5, vi 99), (4, vi lx4_3), (0, .ref ((q 11) 31)), (1, vi lx1), (2, vi lx2), (3, vi lx3)]) C dX7_fine_26 (by decide) rfl ?_
    refine X.sub [2, 1, 0] rfl ?_
    refine xX7_fine_28 C q T lx4_3 v FU 99 h
  refine X.bipush C dX7_fine_10 (by decide) ?_
  cases h
  exact X.iret C dX7_fine_12 (Nat.zero_le _) (Nat.zero_le _)
def rJ6_bitCount_0f7a4 : Room := { frames := 0, cells := 0, slots := 0, locals := 0 }
theorem mJ6_bitCount_0f7a4 : MS yJ6_bitCount_0f7a4 cJ6_bitCount_0f7a4 1 (some .int) 1 := ⟨cd_J6_bitCount_0f7a4, in_java_lang_Integer, ⟨⟨by decide, by decide⟩, by decide +kernel⟩, sm_J6_bitCount_0f7a4⟩
set_option maxHeartbeats 4000000 in
set_option maxRecDepth 100000 in
theorem kJ6_bitCount_0f7a4 {l : Launch} {G : GT} (lx0 : Int) (v : (Int)) (h : fJ6_bitCount_0f7a4 lx0 = some v) : CT l G yJ6_bitCount_0f7a4 cJ6_bitCount_0f7a4 1 (some .int) rJ6_bitCount_0f7a4 [vi lx0] W_0 W_0 (some (vi v)) := by
  unfold fJ6_bitCount_0f7a4 at h
  refine CT.of (by decide) (Nat.le_of_ble_eq_true rfl) rfl (fun κ _ C => ?_)
  refine X.iload_n C dJ6_bitCount_0f7a4_0 rfl 0 rfl ?_
  refine X.iload_n C dJ6_bitCount_0f7a4_1 rfl 0 rfl ?_
  refine X.iconst C dJ6_bitCount_0f7a4_2 ?_
  refine X.iushr C dJ6_bitCount_0f7a4_3 ?_
  refine X.ldc_w (z := 1431655765) C ct_java_lang_Integer_265 (by decide) dJ6_bitCount_0f7a4_4 ?_
  refine X.iand C dJ6_bitCount_0f7a4_7 ?_
  refine X.isub C dJ6_bitCount_0f7a4_8 ?_
  refine X.istoreN_n (lv2 := fun lx0_1 => [(0, vi lx0_1)]) C h dJ6_bitCount_0f7a4_9 rfl (by decide) (fun _ => rfl) (fun lx0_1 h => ?_)
  refine X.iload_n C dJ6_bitCount_0f7a4_10 rfl 0 rfl ?_
  refine X.ldc_w (z := 858993459) C ct_java_lang_Integer_266 (by decide) dJ6_bitCount_0f7a4_11 ?_
  refine X.iand C dJ6_bitCount_0f7a4_14 ?_
  refine X.iload_n C dJ6_bitCount_0f7a4_15 rfl 0 rfl ?_
  refine X.iconst C dJ6_bitCount_0f7a4_16 ?_
  refine X.iushr C dJ6_bitCount_0f7a4_17 ?_
  refine X.ldc_w (z := 858993459) C ct_java_lang_Integer_266 (by decide) dJ6_bitCount_0f7a4_18 ?_
  refine X.iand C dJ6_bitCount_0f7a4_21 ?_
  refine X.iadd C dJ6_bitCount_0f7a4_22 ?_
  refine X.istoreN_n (lv2 := fun lx0_2 => [(0, vi lx0_2)]) C h dJ6_bitCount_0f7a4_23 rfl (by decide) (fun _ => rfl) (fun lx0_2 h => ?_)
  refine X.iload_n C dJ6_bitCount_0f7a4_24 rfl 0 rfl ?_
  refine X.iload_n C dJ6_bitCount_0f7a4_25 rfl 0 rfl ?_
  refine X.iconst C dJ6_bitCount_0f7a4_26 ?_
  refine X.iushr C dJ6_bitCount_0f7a4_27 ?_
  refine X.iadd C dJ6_bitCount_0f7a4_28 ?_
  refine X.ldc_w (z := 252645135) C ct_java_lang_Integer_267 (by decide) dJ6_bitCount_0f7a4_29 ?_
  refine X.iand C dJ6_bitCount_0f7a4_32 ?_
  refine X.istoreN_n (lv2 := fun lx0_3 => [(0, vi lx0_3)]) C h dJ6_bitCount_0f7a4_33 rfl (by decide) (fun _ => rfl) (fun lx0_3 h => ?_)
  refine X.iload_n C dJ6_bitCount_0f7a4_34 rfl 0 rfl ?_
  refine X.iload_n C dJ6_bitCount_0f7a4_35 rfl 0 rfl ?_
  refine X.bipush C dJ6_bitCount_0f7a4_36 (by decide) ?_
  refine X.iushr C dJ6_bitCount_0f7a4_38 ?_
  refine X.iadd C dJ6_bitCount_0f7a4_39 ?_
  refine X.istoreN_n (lv2 := fun lx0_4 => [(0, vi lx0_4)]) C h dJ6_bitCount_0f7a4_40 rfl (by decide) (fun _ => rfl) (fun lx0_4 h => ?_)
  refine X.iload_n C dJ6_bitCount_0f7a4_41 rfl 0 rfl ?_
  refine X.iload_n C dJ6_bitCount_0f7a4_42 rfl 0 rfl ?_
  refine X.bipush C dJ6_bitCount_0f7a4_43 (by decide) ?_
  refine X.iushr C dJ6_bitCount_0f7a4_45 ?_
  refine X.iadd C dJ6_bitCount_0f7a4_46 ?_
  refine X.istoreN_n (lv2 := fun lx0_5 => [(0, vi lx0_5)]) C h dJ6_bitCount_0f7a4_47 rfl (by decide) (fun _ => rfl) (fun lx0_5 h => ?_)
  refine X.iload_n C dJ6_bitCount_0f7a4_48 rfl 0 rfl ?_
  refine X.bipush C dJ6_bitCount_0f7a4_49 (by decide) ?_
  refine X.iand C dJ6_bitCount_0f7a4_51 ?_
  cases h
  exact X.iret C dJ6_bitCount_0f7a4_52 (Nat.zero_le _) (Nat.zero_le _)
def rX7_marks : Room := { frames := 3, cells := 0, slots := 0, locals := 72 }
theorem mX7_marks : MV yX7_marks cX7_marks 7 (some .int) 3 := ⟨cd_X7_marks, in_X7, ⟨⟨by decide, by decide⟩, by decide +kernel⟩, im_X7_marks, se_X7_marks⟩
set_option maxHeartbeats 4000000 in
set_option maxRecDepth 100000 in
theorem xX7_marks_41 {κ : Kx} {G : GT} (C : Cx κ G yX7_marks cX7_marks (some .int) 7 rX7_marks) (q : Nat → Nat → Nat) (T : Nat → Ob) (lx3 : Int) (lx4 : Int) (v : (Int)) : ∀ (n : Nat) (lx5 : Int) (lx6 : Int), lX7_marks_41 T lx3 lx4 n lx5 lx6 = some v → X κ G 7 (W_T G q T) 41 [(0, .ref ((q 11) 31)), (3, vi lx3), (4, vi lx4), (5, vi lx5), (6, vi lx6)] [] 0 0 (QM κ G (W_T G q T) (some (vi v)) rX7_marks.cells rX7_marks.slots) := by
  intro n
  induction n with
  | zero => intro _ _ h; exact absurd h (fun h => nomatch h)
  | succ n ih =>
    intro lx5 lx6 h
    rw [lX7_marks_41] at h
    refine X.iload C dX7_marks_41 4 rfl ?_
    refine X.bipush C dX7_marks_43 (by decide) ?_
    refine X.icmp_ge (tgt := 80) C h dX7_marks_45 (by decide) (fun h => ?_) (fun h => ?_)
    · refine X.iload C dX7_marks_80 3 rfl ?_
      cases h
      exact X.iret C dX7_marks_82 (Nat.zero_le _) (Nat.zero_le _)
    refine X.iload C dX7_marks_48 3 rfl ?_
    refine X.aload_n C dX7_marks_50 rfl 0 rfl ?_
    refine X.get C dX7_marks_51 lay_X7 0 rfl rfl 2 (by decide) fl_X7_19 rfl rfl ?_
    refine X.get C dX7_marks_54 lay_X3 5 rfl rfl 0 (by decide) fl_X7_28 rfl rfl ?_
    refine X.iload C dX7_marks_57 2 rfl ?_
    refine X.iload_n C dX7_marks_59 rfl 1 rfl ?_
    refine X.callSi (As := [vi lx3]) (rest := [vi lx4, .ref ((q 2) 31), vi lx5]) (g := fun rr_4 => rr_4) (W1 := fun rr_4 => W_0) (ws2 := fun rr_4 => (W_T G q T)) C h dX7_marks_60 ml_X7_227 mX7_flightOf (fun v hv => kX7_flightOf lx3 v hv) (fun rr_4 => ln_T_0__n (G := G) (q := q) (T := T)) rfl rfl rfl rfl rfl rfl (fun rr_4 h => ?_)
    refine X.iload C dX7_marks_63 4 rfl ?_
    refine X.callVi (q0 := 6) (As := [vi lx4, vi rr_4, vi lx6]) (rest := [vi lx5]) (g := fun rr_5 => rr_5) (W1 := fun rr_5 => (W_P G (q 2) (T 2))) (ws2 := fun rr_5 => (W_T G q T)) C h dX7_marks_65 ml_X7_264 mX1_sizesHitting (fun v hv => kX1_sizesHitting (q 2) (T 2) lx4 rr_4 lx6 v hv) (fun rr_5 => ln_T_P_np_n (G := G) (q := q) (T := T)) rfl rfl rfl rfl rfl rfl rfl rfl (fun rr_5 h => ?_)
    refine X.callSi (As := [vi rr_5]) (rest := [vi lx5]) (g := fun rr_6 => rr_6) (W1 := fun rr_6 => W_0) (ws2 := fun rr_6 => (W_T G q T)) C h dX7_marks_68 ml_X7_267 mJ6_bitCount_0f7a4 (fun v hv => kJ6_bitCount_0f7a4 rr_5 v hv) (fun rr_6 => ln_T_0__n (G := G) (q := q) (T := T)) rfl rfl rfl rfl rfl rfl (fun rr_6 h => ?_)
    refine X.iadd C dX7_marks_71 ?_
    refine X.istoreN (lv2 := fun lx5_7 => [(5, vi lx5_7), (0, .ref ((q 11) 31)), (3, vi lx3), (4, vi lx4), (6, vi lx6)]) C h dX7_marks_72 (by decide) (fun _ => rfl) (fun lx5_7 h => ?_)
    refine X.iincN (lv2 := fun lx6_8 => [(6, vi lx6_8), (5, vi lx5_7), (0, .ref ((q 11) 31)), (3, vi lx3), (4, vi lx4)]) C h dX7_marks_74 4 rfl (by decide) (fun _ => rfl) (fun lx6_8 h => ?_)
    refine X.goto (tgt := 41) C dX7_marks_77 (by decide) ?_
    refine X.sub [2, 3, 4, 1, 0] rfl ?_
    exact ih lx5_7 lx6_8 h
set_option maxHeartbeats 4000000 in
set_option maxRecDepth 100000 in
theorem kX7_marks {l : Launch} {G : GT} (q : Nat → Nat → Nat) (T : Nat → Ob) (lx1 : Int) (lx2 : Int) (lx3 : Int) (v : (Int)) (h : fX7_marks T lx1 lx2 lx3 = some v) : CT l G yX7_marks cX7_marks 7 (some .int) rX7_marks [.ref ((q 11) 31), vi lx1, vi lx2, vi lx3] (W_T G q T) (W_T G q T) (some (vi v)) := by
  unfold fX7_marks at h
  refine CT.of (by decide) (Nat.le_of_ble_eq_true rfl) rfl (fun κ _ C => ?_)
  refine X.aload_n C dX7_marks_0 rfl 0 rfl ?_
  refine X.get C dX7_marks_1 lay_X7 0 rfl rfl 2 (by decide) fl_X7_19 rfl rfl ?_
  refine X.get C dX7_marks_4 lay_X3 5 rfl rfl 0 (by decide) fl_X7_28 rfl rfl ?_
  refine X.iload_n C dX7_marks_7 rfl 1 rfl ?_
  refine X.iload_n C dX7_marks_8 rfl 2 rfl ?_
  refine X.callVi (q0 := 6) (As := [vi lx1, vi lx2]) (rest := []) (g := fun rr_1 => rr_1) (W1 := fun rr_1 => (W_P G (q 2) (T 2))) (ws2 := fun rr_1 => (W_T G q T)) C h dX7_marks_9 ml_X7_120 mX1_isCell (fun v hv => kX1_isCell (q 2) (T 2) lx1 lx2 v hv) (fun rr_1 => ln_T_P_np_n (G := G) (q := q) (T := T)) rfl rfl rfl rfl rfl rfl rfl rfl (fun rr_1 h => ?_)
  refine X.if_eq (tgt := 25) C h dX7_marks_12 (by decide) (fun h => ?_) (fun h => ?_)
  · refine X.bipush C dX7_marks_25 (by decide) ?_
    cases h
    exact X.iret C dX7_marks_27 (Nat.zero_le _) (Nat.zero_le _)
  refine X.iload_n C dX7_marks_15 rfl 3 rfl ?_
  refine X.iconst C dX7_marks_16 ?_
  refine X.bipush C dX7_marks_17 (by decide) ?_
  refine X.callSi (As := [vi lx3, vi 1, vi 60]) (rest := []) (g := fun rr_2 => rr_2) (W1 := fun rr_2 => W_0) (ws2 := fun rr_2 => (W_T G q T)) C h dX7_marks_19 ml_X7_93 mX7_isWithin (fun v hv => kX7_isWithin lx3 1 60 v hv) (fun rr_2 => ln_T_0__n (G := G) (q := q) (T := T)) rfl rfl rfl rfl rfl rfl (fun rr_2 h => ?_)
  refine X.if_ne (tgt := 28) C h dX7_marks_22 (by decide) (fun h => ?_) (fun h => ?_)
  · refine X.iload_n C dX7_marks_28 rfl 1 rfl ?_
    refine X.iload_n C dX7_marks_29 rfl 2 rfl ?_
    refine X.callSi (As := [vi lx1, vi lx2]) (rest := []) (g := fun rr_3 => rr_3) (W1 := fun rr_3 => W_0) (ws2 := fun rr_3 => (W_T G q T)) C h dX7_marks_30 ml_X7_196 mX7_placeOf (fun v hv => kX7_placeOf lx1 lx2 v hv) (fun rr_3 => ln_T_0__n (G := G) (q := q) (T := T)) rfl rfl rfl rfl rfl rfl (fun rr_3 h => ?_)
    refine X.istore (lv2 := [(4, vi rr_3), (0, .ref ((q 11) 31)), (1, vi lx1), (2, vi lx2), (3, vi lx3)]) C dX7_marks_33 (by decide) rfl ?_
    refine X.iconst C dX7_marks_35 ?_
    refine X.istore (lv2 := [(5, vi 0), (4, vi rr_3), (0, .ref ((q 11) 31)), (1, vi lx1), (2, vi lx2), (3, vi lx3)]) C dX7_marks_36 (by decide) rfl ?_
    refine X.iconst C dX7_marks_38 ?_
    refine X.istore (lv2 := [(6, vi 0), (5, vi 0), (4, vi rr_3), (0, .ref ((q 11) 31)), (1, vi lx1), (2, vi lx2), (3, vi lx3)]) C dX7_marks_39 (by decide) rfl ?_
    refine X.sub [3, 6, 2, 1, 0] rfl ?_
    refine xX7_marks_41 C q T lx3 rr_3 v FU 0 0 h
  refine X.bipush C dX7_marks_25 (by decide) ?_
  cases h
  exact X.iret C dX7_marks_27 (Nat.zero_le _) (Nat.zero_le _)
def rX7_span : Room := { frames := 3, cells := 0, slots := 0, locals := 72 }
theorem mX7_span : MV yX7_span cX7_span 13 (some .int) 4 := ⟨cd_X7_span, in_X7, ⟨⟨by decide, by decide⟩, by decide +kernel⟩, im_X7_span, se_X7_span⟩
set_option maxHeartbeats 4000000 in
set_option maxRecDepth 100000 in
theorem xX7_span_120 {κ : Kx} {G : GT} (C : Cx κ G yX7_span cX7_span (some .int) 13 rX7_span) (q : Nat → Nat → Nat) (kc0 : Int → Int → Int → Int → Int → Option (Int)) (T : Nat → Ob) (lx3 : Int) (lx4 : Int) (lx5 : Int) (lx8 : Int) (lx9 : Int) (lx10 : Int) (lx11 : Int) (lx12 : Int) (lt0 : Int) (v : (Int)) (hc0 : ∀ (lx6 : Int) (lx7 : Int) (lx8 : Int) (lx9 : Int) (lx11 : Int), kc0 lx6 lx7 lx8 lx9 lx11 = some v → X κ G 13 (W_T G q T) 70 [(0, .ref ((q 11) 31)), (3, vi lx3), (4, vi lx4), (5, vi lx5), (6, vi lx6), (7, vi lx7), (8, vi lx8), (9, vi lx9), (10, vi lx10), (11, vi lx11)] [] 0 0 (QM κ G (W_T G q T) (some (vi v)) rX7_span.cells rX7_span.slots)) (h : jX7_span_120 kc0 T lx3 lx4 lx5 lx8 lx9 lx10 lx11 lx12 lt0 = some v) : X κ G 13 (W_T G q T) 120 [(0, .ref ((q 11) 31)), (3, vi lx3), (4, vi lx4), (5, vi lx5), (8, vi lx8), (9, vi lx9), (10, vi lx10), (11, vi lx11), (12, vi lx12)] [vi lt0] 0 0 (QM κ G (W_T G q T) (some (vi v)) rX7_span.cells rX7_span.slots) := by
  unfold jX7_span_120 at h
  refine X.istore (lv2 := [(6, vi lt0), (0, .ref ((q 11) 31)), (3, vi lx3), (4, vi lx4), (5, vi lx5), (8, vi lx8), (9, vi lx9), (10, vi lx10), (11, vi lx11), (12, vi lx12)]) C dX7_span_120 (by decide) rfl ?_
  refine X.iload C dX7_span_122 7 rfl ?_
  refine X.istore (lv2 := [(7, vi lx10), (6, vi lt0), (0, .ref ((q 11) 31)), (3, vi lx3), (4, vi lx4), (5, vi lx5), (8, vi lx8), (9, vi lx9), (10, vi lx10), (11, vi lx11), (12, vi lx12)]) C dX7_span_124 (by decide) rfl ?_
  refine X.iload C dX7_span_126 6 rfl ?_
  refine X.iconst C dX7_span_128 ?_
  refine X.iload C dX7_span_129 9 rfl ?_
  refine X.ishl C dX7_span_131 ?_
  refine X.ior C dX7_span_132 ?_
  refine X.istoreN (lv2 := fun lx8_8 => [(8, vi lx8_8), (7, vi lx10), (6, vi lt0), (0, .ref ((q 11) 31)), (3, vi lx3), (4, vi lx4), (5, vi lx5), (9, vi lx9), (10, vi lx10), (11, vi lx11), (12, vi lx12)]) C h dX7_span_133 (by decide) (fun _ => rfl) (fun lx8_8 h => ?_)
  refine X.iload C dX7_span_135 7 rfl ?_
  refine X.iload C dX7_span_137 10 rfl ?_
  refine X.ior C dX7_span_139 ?_
  refine X.istoreN (lv2 := fun lx9_9 => [(9, vi lx9_9), (8, vi lx8_8), (7, vi lx10), (6, vi lt0), (0, .ref ((q 11) 31)), (3, vi lx3), (4, vi lx4), (5, vi lx5), (10, vi lx10), (11, vi lx11), (12, vi lx12)]) C h dX7_span_140 (by decide) (fun _ => rfl) (fun lx9_9 h => ?_)
  refine X.iincN (lv2 := fun lx11_10 => [(11, vi lx11_10), (9, vi lx9_9), (8, vi lx8_8), (7, vi lx10), (6, vi lt0), (0, .ref ((q 11) 31)), (3, vi lx3), (4, vi lx4), (5, vi lx5), (10, vi lx10), (12, vi lx12)]) C h dX7_span_142 9 rfl (by decide) (fun _ => rfl) (fun lx11_10 h => ?_)
  refine X.goto (tgt := 70) C dX7_span_145 (by decide) ?_
  refine X.sub [5, 6, 7, 8, 4, 3, 2, 1, 9, 0] rfl ?_
  exact hc0 lt0 lx10 lx8_8 lx9_9 lx11_10 h
set_option maxHeartbeats 4000000 in
set_option maxRecDepth 100000 in
theorem xX7_span_70 {κ : Kx} {G : GT} (C : Cx κ G yX7_span cX7_span (some .int) 13 rX7_span) (q : Nat → Nat → Nat) (T : Nat → Ob) (lx3 : Int) (lx4 : Int) (lx5 : Int) (lx10 : Int) (kx0 : Int → Int → Int → Int → Option (Int)) (v : (Int)) (hk0 : ∀ (lx6 : Int) (lx7 : Int) (lx8 : Int) (lx9 : Int), kx0 lx6 lx7 lx8 lx9 = some v → X κ G 13 (W_T G q T) 148 [(0, .ref ((q 11) 31)), (3, vi lx3), (4, vi lx4), (5, vi lx5), (6, vi lx6), (7, vi lx7), (8, vi lx8), (9, vi lx9), (10, vi lx10)] [] 0 0 (QM κ G (W_T G q T) (some (vi v)) rX7_span.cells rX7_span.slots)) : ∀ (n : Nat) (lx6 : Int) (lx7 : Int) (lx8 : Int) (lx9 : Int) (lx11 : Int), lX7_span_70 T lx3 lx4 lx5 lx10 kx0 n lx6 lx7 lx8 lx9 lx11 = some v → X κ G 13 (W_T G q T) 70 [(0, .ref ((q 11) 31)), (3, vi lx3), (4, vi lx4), (5, vi lx5), (6, vi lx6), (7, vi lx7), (8, vi lx8), (9, vi lx9), (10, vi lx10), (11, vi lx11)] [] 0 0 (QM κ G (W_T G q T) (some (vi v)) rX7_span.cells rX7_span.slots) := by
  intro n
  induction n with
  | zero => intro _ _ _ _ _ h; exact absurd h (fun h => nomatch h)
  | succ n ih =>
    intro lx6 lx7 lx8 lx9 lx11 h
    rw [lX7_span_70] at h
    refine X.iload C dX7_span_70 9 rfl ?_
    refine X.iconst C dX7_span_72 ?_
    refine X.icmp_ge (tgt := 148) C h dX7_span_73 (by decide) (fun h => ?_) (fun h => ?_)
    · refine X.sub [0, 1, 2, 3, 4, 5, 6, 7, 8] rfl ?_
      exact hk0 lx6 lx7 lx8 lx9 h
    refine X.aload_n C dX7_span_76 rfl 0 rfl ?_
    refine X.get C dX7_span_77 lay_X7 0 rfl rfl 2 (by decide) fl_X7_19 rfl rfl ?_
    refine X.get C dX7_span_80 lay_X3 5 rfl rfl 0 (by decide) fl_X7_28 rfl rfl ?_
    refine X.iload C dX7_span_83 3 rfl ?_
    refine X.iload_n C dX7_span_85 rfl 1 rfl ?_
    refine X.callSi (As := [vi lx3]) (rest := [vi lx5, .ref ((q 2) 31)]) (g := fun rr_5 => rr_5) (W1 := fun rr_5 => W_0) (ws2 := fun rr_5 => (W_T G q T)) C h dX7_span_86 ml_X7_227 mX7_flightOf (fun v hv => kX7_flightOf lx3 v hv) (fun rr_5 => ln_T_0__n (G := G) (q := q) (T := T)) rfl rfl rfl rfl rfl rfl (fun rr_5 h => ?_)
    refine X.bipush C dX7_span_89 (by decide) ?_
    refine X.iload C dX7_span_91 9 rfl ?_
    refine X.imul C dX7_span_93 ?_
    refine X.iload C dX7_span_94 8 rfl ?_
    refine X.iadd C dX7_span_96 ?_
    refine X.callVi (q0 := 6) (As := [vi lx5, vi rr_5, vi ((10 * lx11) + lx10)]) (rest := []) (g := fun rr_6 => rr_6) (W1 := fun rr_6 => (W_P G (q 2) (T 2))) (ws2 := fun rr_6 => (W_T G q T)) C h dX7_span_97 ml_X7_264 mX1_sizesHitting (fun v hv => kX1_sizesHitting (q 2) (T 2) lx5 rr_5 ((10 * lx11) + lx10) v hv) (fun rr_6 => ln_T_P_np_n (G := G) (q := q) (T := T)) rfl rfl rfl rfl rfl rfl rfl rfl (fun rr_6 h => ?_)
    refine X.istore (lv2 := [(12, vi rr_6), (0, .ref ((q 11) 31)), (3, vi lx3), (4, vi lx4), (5, vi lx5), (6, vi lx6), (7, vi lx7), (8, vi lx8), (9, vi lx9), (10, vi lx10), (11, vi lx11)]) C dX7_span_100 (by decide) rfl ?_
    refine X.iload C dX7_span_102 0 rfl ?_
    refine X.if_eq (tgt := 142) C h dX7_span_104 (by decide) (fun h => ?_) (fun h => ?_)
    · refine X.iincN (lv2 := fun lx11_7 => [(11, vi lx11_7), (12, vi rr_6), (0, .ref ((q 11) 31)), (3, vi lx3), (4, vi lx4), (5, vi lx5), (6, vi lx6), (7, vi lx7), (8, vi lx8), (9, vi lx9), (10, vi lx10)]) C h dX7_span_142 10 rfl (by decide) (fun _ => rfl) (fun lx11_7 h => ?_)
      refine X.goto (tgt := 70) C dX7_span_145 (by decide) ?_
      refine X.sub [2, 3, 4, 5, 6, 7, 8, 9, 10, 0] rfl ?_
      exact ih lx6 lx7 lx8 lx9 lx11_7 h
    refine X.iload C dX7_span_107 5 rfl ?_
    refine X.iconst C dX7_span_109 ?_
    refine X.icmp_ne (tgt := 118) C h dX7_span_110 (by decide) (fun h => ?_) (fun h => ?_)
    · refine X.iload C dX7_span_118 5 rfl ?_
      refine X.sub [1, 2, 3, 4, 7, 8, 9, 10, 0] rfl ?_
      exact xX7_span_120 C q (lX7_span_70 T lx3 lx4 lx5 lx10 kx0 n) T lx3 lx4 lx5 lx8 lx9 lx10 lx11 rr_6 lx6 v ih h
    refine X.iload C dX7_span_113 9 rfl ?_
    refine X.goto (tgt := 120) C dX7_span_115 (by decide) ?_
    refine X.sub [1, 2, 3, 4, 7, 8, 9, 10, 0] rfl ?_
    exact xX7_span_120 C q (lX7_span_70 T lx3 lx4 lx5 lx10 kx0 n) T lx3 lx4 lx5 lx8 lx9 lx10 lx11 rr_6 lx10 v ih h
set_option maxHeartbeats 4000000 in
set_option maxRecDepth 100000 in
theorem xX7_span_60 {κ : Kx} {G : GT} (C : Cx κ G yX7_span cX7_span (some .int) 13 rX7_span) (q : Nat → Nat → Nat) (T : Nat → Ob) (lx3 : Int) (lx4 : Int) (lx5 : Int) (kx0 : Int → Int → Int → Int → Option (Int)) (v : (Int)) (hk0 : ∀ (lx6 : Int) (lx7 : Int) (lx8 : Int) (lx9 : Int), kx0 lx6 lx7 lx8 lx9 = some v → X κ G 13 (W_T G q T) 154 [(4, vi lx4), (6, vi lx6), (7, vi lx7), (8, vi lx8), (9, vi lx9)] [] 0 0 (QM κ G (W_T G q T) (some (vi v)) rX7_span.cells rX7_span.slots)) : ∀ (n : Nat) (lx6 : Int) (lx7 : Int) (lx8 : Int) (lx9 : Int) (lx10 : Int), lX7_span_60 T lx3 lx4 lx5 kx0 n lx6 lx7 lx8 lx9 lx10 = some v → X κ G 13 (W_T G q T) 60 [(0, .ref ((q 11) 31)), (3, vi lx3), (4, vi lx4), (5, vi lx5), (6, vi lx6), (7, vi lx7), (8, vi lx8), (9, vi lx9), (10, vi lx10)] [] 0 0 (QM κ G (W_T G q T) (some (vi v)) rX7_span.cells rX7_span.slots) := by
  intro n
  induction n with
  | zero => intro _ _ _ _ _ h; exact absurd h (fun h => nomatch h)
  | succ n ih =>
    intro lx6 lx7 lx8 lx9 lx10 h
    rw [lX7_span_60] at h
    refine X.iload C dX7_span_60 8 rfl ?_
    refine X.bipush C dX7_span_62 (by decide) ?_
    refine X.icmp_gt (tgt := 154) C h dX7_span_64 (by decide) (fun h => ?_) (fun h => ?_)
    · refine X.sub [2, 4, 5, 6, 7] rfl ?_
      exact hk0 lx6 lx7 lx8 lx9 h
    refine X.iconst C dX7_span_67 ?_
    refine X.istore (lv2 := [(11, vi 0), (0, .ref ((q 11) 31)), (3, vi lx3), (4, vi lx4), (5, vi lx5), (6, vi lx6), (7, vi lx7), (8, vi lx8), (9, vi lx9), (10, vi lx10)]) C dX7_span_68 (by decide) rfl ?_
    refine X.sub [1, 2, 3, 4, 5, 6, 7, 8, 9, 0] rfl ?_
    refine xX7_span_70 C q T lx3 lx4 lx5 lx10 _ v (fun lx6_11 lx7_12 lx8_13 lx9_14 h => ?_) FU lx6 lx7 lx8 lx9 0 h
    · refine X.iincN (lv2 := fun lx10_15 => [(10, vi lx10_15), (0, .ref ((q 11) 31)), (3, vi lx3), (4, vi lx4), (5, vi lx5), (6, vi lx6_11), (7, vi lx7_12), (8, vi lx8_13), (9, vi lx9_14)]) C h dX7_span_148 8 rfl (by decide) (fun _ => rfl) (fun lx10_15 h => ?_)
      refine X.goto (tgt := 60) C dX7_span_151 (by decide) ?_
      refine X.sub [1, 2, 3, 4, 5, 6, 7, 8, 0] rfl ?_
      exact ih lx6_11 lx7_12 lx8_13 lx9_14 lx10_15 h
set_option maxHeartbeats 4000000 in
set_option maxRecDepth 100000 in
theorem kX7_span {l : Launch} {G : GT} (q : Nat → Nat → Nat) (T : Nat → Ob) (lx1 : Int) (lx2 : Int) (lx3 : Int) (lx4 : Int) (v : (Int)) (h : fX7_span T lx1 lx2 lx3 lx4 = some v) : CT l G yX7_span cX7_span 13 (some .int) rX7_span [.ref ((q 11) 31), vi lx1, vi lx2, vi lx3, vi lx4] (W_T G q T) (W_T G q T) (some (vi v)) := by
  unfold fX7_span at h
  refine CT.of (by decide) (Nat.le_of_ble_eq_true rfl) rfl (fun κ _ C => ?_)
  refine X.aload_n C dX7_span_0 rfl 0 rfl ?_
  refine X.get C dX7_span_1 lay_X7 0 rfl rfl 2 (by decide) fl_X7_19 rfl rfl ?_
  refine X.get C dX7_span_4 lay_X3 5 rfl rfl 0 (by decide) fl_X7_28 rfl rfl ?_
  refine X.iload_n C dX7_span_7 rfl 1 rfl ?_
  refine X.iload_n C dX7_span_8 rfl 2 rfl ?_
  refine X.callVi (q0 := 6) (As := [vi lx1, vi lx2]) (rest := []) (g := fun rr_1 => rr_1) (W1 := fun rr_1 => (W_P G (q 2) (T 2))) (ws2 := fun rr_1 => (W_T G q T)) C h dX7_span_9 ml_X7_120 mX1_isCell (fun v hv => kX1_isCell (q 2) (T 2) lx1 lx2 v hv) (fun rr_1 => ln_T_P_np_n (G := G) (q := q) (T := T)) rfl rfl rfl rfl rfl rfl rfl rfl (fun rr_1 h => ?_)
  refine X.if_eq (tgt := 35) C h dX7_span_12 (by decide) (fun h => ?_) (fun h => ?_)
  · refine X.bipush C dX7_span_35 (by decide) ?_
    cases h
    exact X.iret C dX7_span_37 (Nat.zero_le _) (Nat.zero_le _)
  refine X.iload_n C dX7_span_15 rfl 3 rfl ?_
  refine X.iconst C dX7_span_16 ?_
  refine X.bipush C dX7_span_17 (by decide) ?_
  refine X.callSi (As := [vi lx3, vi 1, vi 60]) (rest := []) (g := fun rr_2 => rr_2) (W1 := fun rr_2 => W_0) (ws2 := fun rr_2 => (W_T G q T)) C h dX7_span_19 ml_X7_93 mX7_isWithin (fun v hv => kX7_isWithin lx3 1 60 v hv) (fun rr_2 => ln_T_0__n (G := G) (q := q) (T := T)) rfl rfl rfl rfl rfl rfl (fun rr_2 h => ?_)
  refine X.if_eq (tgt := 35) C h dX7_span_22 (by decide) (fun h => ?_) (fun h => ?_)
  · refine X.bipush C dX7_span_35 (by decide) ?_
    cases h
    exact X.iret C dX7_span_37 (Nat.zero_le _) (Nat.zero_le _)
  refine X.iload C dX7_span_25 4 rfl ?_
  refine X.iconst C dX7_span_27 ?_
  refine X.iconst C dX7_span_28 ?_
  refine X.callSi (As := [vi lx4, vi 0, vi 3]) (rest := []) (g := fun rr_3 => rr_3) (W1 := fun rr_3 => W_0) (ws2 := fun rr_3 => (W_T G q T)) C h dX7_span_29 ml_X7_93 mX7_isWithin (fun v hv => kX7_isWithin lx4 0 3 v hv) (fun rr_3 => ln_T_0__n (G := G) (q := q) (T := T)) rfl rfl rfl rfl rfl rfl (fun rr_3 h => ?_)
  refine X.if_ne (tgt := 38) C h dX7_span_32 (by decide) (fun h => ?_) (fun h => ?_)
  · refine X.iload_n C dX7_span_38 rfl 1 rfl ?_
    refine X.iload_n C dX7_span_39 rfl 2 rfl ?_
    refine X.callSi (As := [vi lx1, vi lx2]) (rest := []) (g := fun rr_4 => rr_4) (W1 := fun rr_4 => W_0) (ws2 := fun rr_4 => (W_T G q T)) C h dX7_span_40 ml_X7_196 mX7_placeOf (fun v hv => kX7_placeOf lx1 lx2 v hv) (fun rr_4 => ln_T_0__n (G := G) (q := q) (T := T)) rfl rfl rfl rfl rfl rfl (fun rr_4 h => ?_)
    refine X.istore (lv2 := [(5, vi rr_4), (0, .ref ((q 11) 31)), (1, vi lx1), (2, vi lx2), (3, vi lx3), (4, vi lx4)]) C dX7_span_43 (by decide) rfl ?_
    refine X.iconst C dX7_span_45 ?_
    refine X.istore (lv2 := [(6, vi (-1)), (5, vi rr_4), (0, .ref ((q 11) 31)), (1, vi lx1), (2, vi lx2), (3, vi lx3), (4, vi lx4)]) C dX7_span_46 (by decide) rfl ?_
    refine X.iconst C dX7_span_48 ?_
    refine X.istore (lv2 := [(7, vi (-1)), (6, vi (-1)), (5, vi rr_4), (0, .ref ((q 11) 31)), (1, vi lx1), (2, vi lx2), (3, vi lx3), (4, vi lx4)]) C dX7_span_49 (by decide) rfl ?_
    refine X.iconst C dX7_span_51 ?_
    refine X.istore (lv2 := [(8, vi 0), (7, vi (-1)), (6, vi (-1)), (5, vi rr_4), (0, .ref ((q 11) 31)), (1, vi lx1), (2, vi lx2), (3, vi lx3), (4, vi lx4)]) C dX7_span_52 (by decide) rfl ?_
    refine X.iconst C dX7_span_54 ?_
    refine X.istore (lv2 := [(9, vi 0), (8, vi 0), (7, vi (-1)), (6, vi (-1)), (5, vi rr_4), (0, .ref ((q 11) 31)), (1, vi lx1), (2, vi lx2), (3, vi lx3), (4, vi lx4)]) C dX7_span_55 (by decide) rfl ?_
    refine X.iconst C dX7_span_57 ?_
    refine X.istore (lv2 := [(10, vi 1), (9, vi 0), (8, vi 0), (7, vi (-1)), (6, vi (-1)), (5, vi rr_4), (0, .ref ((q 11) 31)), (1, vi lx1), (2, vi lx2), (3, vi lx3), (4, vi lx4)]) C dX7_span_58 (by decide) rfl ?_
    refine X.sub [6, 9, 10, 5, 4, 3, 2, 1, 0] rfl ?_
    refine xX7_span_60 C q T lx3 lx4 rr_4 _ v (fun lx6_16 lx7_17 lx8_18 lx9_19 h => ?_) FU (-1) (-1) 0 0 1 h
    · refine X.iload C dX7_span_154 4 rfl ?_
      refine X.if_ne (tgt := 161) C h dX7_span_156 (by decide) (fun h => ?_) (fun h => ?_)
      · refine X.iload C dX7_span_161 0 rfl ?_
        rcases bq_out h with ⟨c0, h⟩ | ⟨c0, h⟩
        · refine X.tsIn (tgt := 188) c0 C dX7_span_163 (by decide) (by decide) rfl (by decide) ?_
          refine X.iload C dX7_span_188 1 rfl ?_
          cases h
          exact X.iret C dX7_span_190 (Nat.zero_le _) (Nat.zero_le _)
        rcases bq_out h with ⟨c1, h⟩ | ⟨c1, h⟩
        · refine X.tsIn (tgt := 191) c1 C dX7_span_163 (by decide) (by decide) rfl (by decide) ?_
          refine X.iload C dX7_span_191 2 rfl ?_
          cases h
          exact X.iret C dX7_span_193 (Nat.zero_le _) (Nat.zero_le _)
        rcases bq_out h with ⟨c2, h⟩ | ⟨c2, h⟩
        · refine X.tsIn (tgt := 194) c2 C dX7_span_163 (by decide) (by decide) rfl (by decide) ?_
          refine X.iload C dX7_span_194 3 rfl ?_
          cases h
          exact X.iret C dX7_span_196 (Nat.zero_le _) (Nat.zero_le _)
        refine X.tsOut3 (tgt := 197) c0 c1 c2 C dX7_span_163 (by decide) ?_
        refine X.iload C dX7_span_197 4 rfl ?_
        cases h
        exact X.iret C dX7_span_199 (Nat.zero_le _) (Nat.zero_le _)
      refine X.iconst C dX7_span_159 ?_
      cases h
      exact X.iret C dX7_span_160 (Nat.zero_le _) (Nat.zero_le _)
  refine X.bipush C dX7_span_35 (by decide) ?_
  cases h
  exact X.iret C dX7_span_37 (Nat.zero_le _) (Nat.zero_le _)
def rX7_mist : Room := { frames := 2, cells := 0, slots := 0, locals := 47 }
theorem mX7_mist : MV yX7_mist cX7_mist 7 (some .int) 2 := ⟨cd_X7_mist, in_X7, ⟨⟨by decide, by decide⟩, by decide +kernel⟩, im_X7_mist, se_X7_mist⟩
set_option maxHeartbeats 4000000 in
set_option maxRecDepth 100000 in
theorem xX7_mist_26 {κ : Kx} {G : GT} (C : Cx κ G yX7_mist cX7_mist (some .int) 7 rX7_mist) (q : Nat → Nat → Nat) (T : Nat → Ob) (lx1 : Int) (lx2 : Int) (v : (Int)) : ∀ (n : Nat) (lx3 : Int) (lx4 : Int) (lx5 : Int), lX7_mist_26 T lx1 lx2 n lx3 lx4 lx5 = some v → X κ G 7 (W_T G q T) 26 [(0, .ref ((q 11) 31)), (1, vi lx1), (2, vi lx2), (3, vi lx3), (4, vi lx4), (5, vi lx5)] [] 0 0 (QM κ G (W_T G q T) (some (vi v)) rX7_mist.cells rX7_mist.slots) := by
  intro n
  induction n with
  | zero => intro _ _ _ h; exact absurd h (fun h => nomatch h)
  | succ n ih =>
    intro lx3 lx4 lx5 h
    rw [lX7_mist_26] at h
    refine X.iload C dX7_mist_26 5 rfl ?_
    refine X.bipush C dX7_mist_28 (by decide) ?_
    refine X.icmp_gt (tgt := 77) C h dX7_mist_30 (by decide) (fun h => ?_) (fun h => ?_)
    · refine X.iload_n C dX7_mist_77 rfl 3 rfl ?_
      cases h
      exact X.iret C dX7_mist_78 (Nat.zero_le _) (Nat.zero_le _)
    refine X.aload_n C dX7_mist_33 rfl 0 rfl ?_
    refine X.get C dX7_mist_34 lay_X7 0 rfl rfl 2 (by decide) fl_X7_19 rfl rfl ?_
    refine X.get C dX7_mist_37 lay_X3 5 rfl rfl 0 (by decide) fl_X7_28 rfl rfl ?_
    refine X.iload_n C dX7_mist_40 rfl 1 rfl ?_
    refine X.iload C dX7_mist_41 5 rfl ?_
    refine X.callSi (As := [vi lx5]) (rest := [vi lx1, .ref ((q 2) 31)]) (g := fun rr_3 => rr_3) (W1 := fun rr_3 => W_0) (ws2 := fun rr_3 => (W_T G q T)) C h dX7_mist_43 ml_X7_227 mX7_flightOf (fun v hv => kX7_flightOf lx5 v hv) (fun rr_3 => ln_T_0__n (G := G) (q := q) (T := T)) rfl rfl rfl rfl rfl rfl (fun rr_3 h => ?_)
    refine X.iload_n C dX7_mist_46 rfl 2 rfl ?_
    refine X.callVi (q0 := 6) (As := [vi lx1, vi rr_3, vi lx2]) (rest := []) (g := fun rr_4 => rr_4) (W1 := fun rr_4 => (W_P G (q 2) (T 2))) (ws2 := fun rr_4 => (W_T G q T)) C h dX7_mist_47 ml_X7_272 mX1_steadyPlace (fun v hv => kX1_steadyPlace (q 2) (T 2) lx1 rr_3 lx2 v hv) (fun rr_4 => ln_T_P_np_n (G := G) (q := q) (T := T)) rfl rfl rfl rfl rfl rfl rfl rfl (fun rr_4 h => ?_)
    refine X.istore (lv2 := [(6, vi rr_4), (0, .ref ((q 11) 31)), (1, vi lx1), (2, vi lx2), (3, vi lx3), (4, vi lx4), (5, vi lx5)]) C dX7_mist_50 (by decide) rfl ?_
    refine X.iload C dX7_mist_52 0 rfl ?_
    refine X.if_lt (tgt := 71) C h dX7_mist_54 (by decide) (fun h => ?_) (fun h => ?_)
    · refine X.iincN (lv2 := fun lx5_5 => [(5, vi lx5_5), (6, vi rr_4), (0, .ref ((q 11) 31)), (1, vi lx1), (2, vi lx2), (3, vi lx3), (4, vi lx4)]) C h dX7_mist_71 6 rfl (by decide) (fun _ => rfl) (fun lx5_5 h => ?_)
      refine X.goto (tgt := 26) C dX7_mist_74 (by decide) ?_
      refine X.sub [2, 3, 4, 5, 6, 0] rfl ?_
      exact ih lx3 lx4 lx5_5 h
    refine X.iload C dX7_mist_57 0 rfl ?_
    refine X.iload C dX7_mist_59 5 rfl ?_
    refine X.icmp_eq (tgt := 71) C h dX7_mist_61 (by decide) (fun h => ?_) (fun h => ?_)
    · refine X.iincN (lv2 := fun lx5_6 => [(5, vi lx5_6), (6, vi rr_4), (0, .ref ((q 11) 31)), (1, vi lx1), (2, vi lx2), (3, vi lx3), (4, vi lx4)]) C h dX7_mist_71 6 rfl (by decide) (fun _ => rfl) (fun lx5_6 h => ?_)
      refine X.goto (tgt := 26) C dX7_mist_74 (by decide) ?_
      refine X.sub [2, 3, 4, 5, 6, 0] rfl ?_
      exact ih lx3 lx4 lx5_6 h
    refine X.iincN (lv2 := fun lx3_7 => [(3, vi lx3_7), (6, vi rr_4), (0, .ref ((q 11) 31)), (1, vi lx1), (2, vi lx2), (4, vi lx4), (5, vi lx5)]) C h dX7_mist_64 4 rfl (by decide) (fun _ => rfl) (fun lx3_7 h => ?_)
    refine X.iload C dX7_mist_67 1 rfl ?_
    refine X.istore (lv2 := [(4, vi rr_4), (3, vi lx3_7), (6, vi rr_4), (0, .ref ((q 11) 31)), (1, vi lx1), (2, vi lx2), (5, vi lx5)]) C dX7_mist_69 (by decide) rfl ?_
    refine X.iincN (lv2 := fun lx5_8 => [(5, vi lx5_8), (4, vi rr_4), (3, vi lx3_7), (6, vi rr_4), (0, .ref ((q 11) 31)), (1, vi lx1), (2, vi lx2)]) C h dX7_mist_71 6 rfl (by decide) (fun _ => rfl) (fun lx5_8 h => ?_)
    refine X.goto (tgt := 26) C dX7_mist_74 (by decide) ?_
    refine X.sub [4, 5, 6, 2, 1, 0] rfl ?_
    exact ih lx3_7 rr_4 lx5_8 h
set_option maxHeartbeats 4000000 in
set_option maxRecDepth 100000 in
theorem kX7_mist {l : Launch} {G : GT} (q : Nat → Nat → Nat) (T : Nat → Ob) (lx1 : Int) (lx2 : Int) (v : (Int)) (h : fX7_mist T lx1 lx2 = some v) : CT l G yX7_mist cX7_mist 7 (some .int) rX7_mist [.ref ((q 11) 31), vi lx1, vi lx2] (W_T G q T) (W_T G q T) (some (vi v)) := by
  unfold fX7_mist at h
  refine CT.of (by decide) (Nat.le_of_ble_eq_true rfl) rfl (fun κ _ C => ?_)
  refine X.aload_n C dX7_mist_0 rfl 0 rfl ?_
  refine X.iload_n C dX7_mist_1 rfl 1 rfl ?_
  refine X.callVi (q0 := 0) (As := [vi lx1]) (rest := []) (g := fun rr_1 => rr_1) (W1 := fun rr_1 => (W_T G q T)) (ws2 := fun rr_1 => (W_T G q T)) C h dX7_mist_2 ml_X7_258 mX7_isSize (fun v hv => kX7_isSize q T lx1 v hv) (fun rr_1 => ln_T_T_id_n (G := G) (q := q) (T := T)) rfl rfl rfl rfl rfl rfl rfl rfl (fun rr_1 h => ?_)
  refine X.if_eq (tgt := 15) C h dX7_mist_5 (by decide) (fun h => ?_) (fun h => ?_)
  · refine X.bipush C dX7_mist_15 (by decide) ?_
    cases h
    exact X.iret C dX7_mist_17 (Nat.zero_le _) (Nat.zero_le _)
  refine X.iload_n C dX7_mist_8 rfl 2 rfl ?_
  refine X.callSi (As := [vi lx2]) (rest := []) (g := fun rr_2 => rr_2) (W1 := fun rr_2 => W_0) (ws2 := fun rr_2 => (W_T G q T)) C h dX7_mist_9 ml_X7_246 mX7_isWind (fun v hv => kX7_isWind lx2 v hv) (fun rr_2 => ln_T_0__n (G := G) (q := q) (T := T)) rfl rfl rfl rfl rfl rfl (fun rr_2 h => ?_)
  refine X.if_ne (tgt := 18) C h dX7_mist_12 (by decide) (fun h => ?_) (fun h => ?_)
  · refine X.iconst C dX7_mist_18 ?_
    refine X.istore_n (lv2 := [(3, vi 0), (0, .ref ((q 11) 31)), (1, vi lx1), (2, vi lx2)]) C dX7_mist_19 rfl (by decide) rfl ?_
    refine X.iconst C dX7_mist_20 ?_
    refine X.istore (lv2 := [(4, vi (-1)), (3, vi 0), (0, .ref ((q 11) 31)), (1, vi lx1), (2, vi lx2)]) C dX7_mist_21 (by decide) rfl ?_
    refine X.iconst C dX7_mist_23 ?_
    refine X.istore (lv2 := [(5, vi 1), (4, vi (-1)), (3, vi 0), (0, .ref ((q 11) 31)), (1, vi lx1), (2, vi lx2)]) C dX7_mist_24 (by decide) rfl ?_
    refine X.sub [3, 4, 5, 2, 1, 0] rfl ?_
    refine xX7_mist_26 C q T lx1 lx2 v FU 0 (-1) 1 h
  refine X.bipush C dX7_mist_15 (by decide) ?_
  cases h
  exact X.iret C dX7_mist_17 (Nat.zero_le _) (Nat.zero_le _)
def rX7_small : Room := { frames := 3, cells := 0, slots := 0, locals := 72 }
theorem mX7_small : MV yX7_small cX7_small 4 (some .int) 3 := ⟨cd_X7_small, in_X7, ⟨⟨by decide, by decide⟩, by decide +kernel⟩, im_X7_small, se_X7_small⟩
set_option maxHeartbeats 4000000 in
set_option maxRecDepth 100000 in
theorem kX7_small {l : Launch} {G : GT} (q : Nat → Nat → Nat) (T : Nat → Ob) (lx1 : Int) (lx2 : Int) (lx3 : Int) (v : (Int)) (h : fX7_small T lx1 lx2 lx3 = some v) : CT l G yX7_small cX7_small 4 (some .int) rX7_small [.ref ((q 11) 31), vi lx1, vi lx2, vi lx3] (W_T G q T) (W_T G q T) (some (vi v)) := by
  unfold fX7_small at h
  refine CT.of (by decide) (Nat.le_of_ble_eq_true rfl) rfl (fun κ _ C => ?_)
  refine X.aload_n C dX7_small_0 rfl 0 rfl ?_
  refine X.callVi (q0 := 0) (As := []) (rest := []) (g := fun rr_1 => rr_1) (W1 := fun rr_1 => (W_T G q T)) (ws2 := fun rr_1 => (W_T G q T)) C h dX7_small_1 ml_X7_178 mX7_hasSquare (fun v hv => kX7_hasSquare q T v hv) (fun rr_1 => ln_T_T_id_n (G := G) (q := q) (T := T)) rfl rfl rfl rfl rfl rfl rfl rfl (fun rr_1 h => ?_)
  refine X.if_eq (tgt := 34) C h dX7_small_4 (by decide) (fun h => ?_) (fun h => ?_)
  · refine X.bipush C dX7_small_34 (by decide) ?_
    cases h
    exact X.iret C dX7_small_36 (Nat.zero_le _) (Nat.zero_le _)
  refine X.iload_n C dX7_small_7 rfl 1 rfl ?_
  refine X.iconst C dX7_small_8 ?_
  refine X.bipush C dX7_small_9 (by decide) ?_
  refine X.callSi (As := [vi lx1, vi 1, vi 11]) (rest := []) (g := fun rr_2 => rr_2) (W1 := fun rr_2 => W_0) (ws2 := fun rr_2 => (W_T G q T)) C h dX7_small_11 ml_X7_93 mX7_isWithin (fun v hv => kX7_isWithin lx1 1 11 v hv) (fun rr_2 => ln_T_0__n (G := G) (q := q) (T := T)) rfl rfl rfl rfl rfl rfl (fun rr_2 h => ?_)
  refine X.if_eq (tgt := 34) C h dX7_small_14 (by decide) (fun h => ?_) (fun h => ?_)
  · refine X.bipush C dX7_small_34 (by decide) ?_
    cases h
    exact X.iret C dX7_small_36 (Nat.zero_le _) (Nat.zero_le _)
  refine X.iload_n C dX7_small_17 rfl 2 rfl ?_
  refine X.iconst C dX7_small_18 ?_
  refine X.bipush C dX7_small_19 (by decide) ?_
  refine X.callSi (As := [vi lx2, vi 0, vi 60]) (rest := []) (g := fun rr_3 => rr_3) (W1 := fun rr_3 => W_0) (ws2 := fun rr_3 => (W_T G q T)) C h dX7_small_21 ml_X7_93 mX7_isWithin (fun v hv => kX7_isWithin lx2 0 60 v hv) (fun rr_3 => ln_T_0__n (G := G) (q := q) (T := T)) rfl rfl rfl rfl rfl rfl (fun rr_3 h => ?_)
  refine X.if_eq (tgt := 34) C h dX7_small_24 (by decide) (fun h => ?_) (fun h => ?_)
  · refine X.bipush C dX7_small_34 (by decide) ?_
    cases h
    exact X.iret C dX7_small_36 (Nat.zero_le _) (Nat.zero_le _)
  refine X.iload_n C dX7_small_27 rfl 3 rfl ?_
  refine X.callSi (As := [vi lx3]) (rest := []) (g := fun rr_4 => rr_4) (W1 := fun rr_4 => W_0) (ws2 := fun rr_4 => (W_T G q T)) C h dX7_small_28 ml_X7_246 mX7_isWind (fun v hv => kX7_isWind lx3 v hv) (fun rr_4 => ln_T_0__n (G := G) (q := q) (T := T)) rfl rfl rfl rfl rfl rfl (fun rr_4 h => ?_)
  refine X.if_ne (tgt := 37) C h dX7_small_31 (by decide) (fun h => ?_) (fun h => ?_)
  · refine X.iload_n C dX7_small_37 rfl 1 rfl ?_
    refine X.aload_n C dX7_small_38 rfl 0 rfl ?_
    refine X.get C dX7_small_39 lay_X7 0 rfl rfl 2 (by decide) fl_X7_19 rfl rfl ?_
    refine X.get C dX7_small_42 lay_X3 5 rfl rfl 0 (by decide) fl_X7_28 rfl rfl ?_
    refine X.iload_n C dX7_small_45 rfl 2 rfl ?_
    refine X.iload_n C dX7_small_46 rfl 1 rfl ?_
    obtain ⟨hz, h⟩ := gd_out h
    refine X.idiv C (nz_ne hz) dX7_small_47 ?_
    refine X.iload_n C dX7_small_48 rfl 3 rfl ?_
    refine X.callVi (q0 := 6) (As := [vi (jdv lx2 lx1), vi lx3]) (rest := [vi lx1]) (g := fun rr_5 => rr_5) (W1 := fun rr_5 => (W_P G (q 2) (T 2))) (ws2 := fun rr_5 => (W_T G q T)) C h dX7_small_49 ml_X7_249 mX1_strayFrom (fun v hv => kX1_strayFrom (q 2) (T 2) (jdv lx2 lx1) lx3 v hv) (fun rr_5 => ln_T_P_np_n (G := G) (q := q) (T := T)) rfl rfl rfl rfl rfl rfl rfl rfl (fun rr_5 h => ?_)
    refine X.imul C dX7_small_52 ?_
    cases h
    exact X.iret C dX7_small_53 (Nat.zero_le _) (Nat.zero_le _)
  refine X.bipush C dX7_small_34 (by decide) ?_
  cases h
  exact X.iret C dX7_small_36 (Nat.zero_le _) (Nat.zero_le _)
def rX7_makesMarks : Room := { frames := 3, cells := 0, slots := 0, locals := 72 }
theorem mX7_makesMarks : MV yX7_makesMarks cX7_makesMarks 7 (some .boolean) 3 := ⟨cd_X7_makesMarks, in_X7, ⟨⟨by decide, by decide⟩, by decide +kernel⟩, im_X7_makesMarks, se_X7_makesMarks⟩
set_option maxHeartbeats 4000000 in
set_option maxRecDepth 100000 in
theorem xX7_makesMarks_3 {κ : Kx} {G : GT} (C : Cx κ G yX7_makesMarks cX7_makesMarks (some .boolean) 7 rX7_makesMarks) (q : Nat → Nat → Nat) (T : Nat → Ob) (lx2 : Int) (lx3 : Int) (lj1 : Nat) (hlj1 : lj1 < 4) (v : (Int)) : ∀ (n : Nat) (lx4 : Int), lX7_makesMarks_3 T lx2 lx3 lj1 n lx4 = some v → X κ G 7 (W_T G q T) 3 [(0, .ref ((q 11) 31)), (1, .ref ((q (6 + lj1)) 31)), (2, vi lx2), (3, vi lx3), (4, vi lx4)] [] 0 0 (QM κ G (W_T G q T) (some (vi v)) rX7_makesMarks.cells rX7_makesMarks.slots) := by
  intro n
  induction n with
  | zero => intro _ h; exact absurd h (fun h => nomatch h)
  | succ n ih =>
    intro lx4 h
    rw [lX7_makesMarks_3] at h
    refine X.iload C dX7_makesMarks_3 4 rfl ?_
    refine X.aload_n C dX7_makesMarks_5 rfl 1 rfl ?_
    refine X.get C dX7_makesMarks_6 lay_X2 (41 + 2 * lj1) (row_o hlj1) rfl 2 (by decide) fl_X7_333 rfl rfl ?_
    refine X.icmp_ge (tgt := 68) C h dX7_makesMarks_9 (by decide) (fun h => ?_) (fun h => ?_)
    · refine X.iconst C dX7_makesMarks_68 ?_
      cases h
      exact X.zret C rfl dX7_makesMarks_69 (Nat.zero_le _) (Nat.zero_le _)
    refine X.aload_n C dX7_makesMarks_12 rfl 1 rfl ?_
    refine X.get C dX7_makesMarks_13 lay_X2 (41 + 2 * lj1) (row_o hlj1) rfl 3 (by decide) fl_X7_371 rfl rfl ?_
    refine X.iload C dX7_makesMarks_16 4 rfl ?_
    refine X.lald C h dX7_makesMarks_18 (42 + 2 * lj1) (row_a hlj1) (fun h => ?_)
    refine X.lstoreN (lv2 := fun lx5_1 => [(5, vl lx5_1), (0, .ref ((q 11) 31)), (1, .ref ((q (6 + lj1)) 31)), (2, vi lx2), (3, vi lx3), (4, vi lx4)]) C h dX7_makesMarks_19 (by decide) (fun _ => rfl) (fun lx5_1 h => ?_)
    refine X.lload C dX7_makesMarks_21 0 rfl ?_
    refine X.lconst (z := 0) C dX7_makesMarks_23 (by decide) ?_
    refine X.lcmp C dX7_makesMarks_24 ?_
    refine X.if_lt (tgt := 60) C h dX7_makesMarks_25 (by decide) (fun h => ?_) (fun h => ?_)
    · refine X.iconst C dX7_makesMarks_60 ?_
      cases h
      exact X.zret C rfl dX7_makesMarks_61 (Nat.zero_le _) (Nat.zero_le _)
    refine X.lload C dX7_makesMarks_28 0 rfl ?_
    refine X.bipush C dX7_makesMarks_30 (by decide) ?_
    refine X.bipush C dX7_makesMarks_32 (by decide) ?_
    refine X.callSi (As := [vi 30, vi 30]) (rest := [vl lx5_1]) (g := fun rr_2 => rr_2) (W1 := fun rr_2 => W_0) (ws2 := fun rr_2 => (W_T G q T)) C h dX7_makesMarks_34 ml_X7_196 mX7_placeOf (fun v hv => kX7_placeOf 30 30 v hv) (fun rr_2 => ln_T_0__n (G := G) (q := q) (T := T)) rfl rfl rfl rfl rfl rfl (fun rr_2 h => ?_)
    refine X.i2l C dX7_makesMarks_37 ?_
    refine X.lcmp C dX7_makesMarks_38 ?_
    refine X.if_gt (tgt := 60) C h dX7_makesMarks_39 (by decide) (fun h => ?_) (fun h => ?_)
    · refine X.iconst C dX7_makesMarks_60 ?_
      cases h
      exact X.zret C rfl dX7_makesMarks_61 (Nat.zero_le _) (Nat.zero_le _)
    refine X.aload_n C dX7_makesMarks_42 rfl 1 rfl ?_
    refine X.get C dX7_makesMarks_43 lay_X7 0 rfl rfl 2 (by decide) fl_X7_19 rfl rfl ?_
    refine X.get C dX7_makesMarks_46 lay_X3 5 rfl rfl 0 (by decide) fl_X7_28 rfl rfl ?_
    refine X.lload C dX7_makesMarks_49 0 rfl ?_
    refine X.l2i C dX7_makesMarks_51 ?_
    refine X.iload_n C dX7_makesMarks_52 rfl 3 rfl ?_
    refine X.iload_n C dX7_makesMarks_53 rfl 4 rfl ?_
    refine X.callVi (q0 := 6) (As := [vi lx5_1, vi lx2, vi lx3]) (rest := []) (g := fun rr_3 => rr_3) (W1 := fun rr_3 => (W_P G (q 2) (T 2))) (ws2 := fun rr_3 => (W_T G q T)) C h dX7_makesMarks_54 ml_X7_264 mX1_sizesHitting (fun v hv => kX1_sizesHitting (q 2) (T 2) lx5_1 lx2 lx3 v hv) (fun rr_3 => ln_T_P_np_n (G := G) (q := q) (T := T)) rfl rfl rfl rfl rfl rfl rfl rfl (fun rr_3 h => ?_)
    refine X.if_ne (tgt := 62) C h dX7_makesMarks_57 (by decide) (fun h => ?_) (fun h => ?_)
    · refine X.iincN (lv2 := fun lx4_4 => [(4, vi lx4_4), (5, vl lx5_1), (0, .ref ((q 11) 31)), (1, .ref ((q (6 + lj1)) 31)), (2, vi lx2), (3, vi lx3)]) C h dX7_makesMarks_62 5 rfl (by decide) (fun _ => rfl) (fun lx4_4 h => ?_)
      refine X.goto (tgt := 3) C dX7_makesMarks_65 (by decide) ?_
      refine X.sub [2, 3, 4, 5, 0] rfl ?_
      exact ih lx4_4 h
    refine X.iconst C dX7_makesMarks_60 ?_
    cases h
    exact X.zret C rfl dX7_makesMarks_61 (Nat.zero_le _) (Nat.zero_le _)
set_option maxHeartbeats 4000000 in
set_option maxRecDepth 100000 in
theorem kX7_makesMarks {l : Launch} {G : GT} (q : Nat → Nat → Nat) (T : Nat → Ob) (lj : Nat) (hlj : lj < 4) (lx2 : Int) (lx3 : Int) (v : (Int)) (h : fX7_makesMarks T lj lx2 lx3 = some v) : CT l G yX7_makesMarks cX7_makesMarks 7 (some .boolean) rX7_makesMarks [.ref ((q 11) 31), .ref ((q (6 + lj)) 31), vi lx2, vi lx3] (W_T G q T) (W_T G q T) (some (vi v)) := by
  unfold fX7_makesMarks at h
  refine CT.of (by decide) (Nat.le_of_ble_eq_true rfl) rfl (fun κ _ C => ?_)
  refine X.iconst C dX7_makesMarks_0 ?_
  refine X.istore (lv2 := [(4, vi 0), (0, .ref ((q 11) 31)), (1, .ref ((q (6 + lj)) 31)), (2, vi lx2), (3, vi lx3)]) C dX7_makesMarks_1 (by decide) rfl ?_
  refine X.sub [1, 2, 3, 4, 0] rfl ?_
  refine xX7_makesMarks_3 C q T lx2 lx3 lj hlj v FU 0 h
def rX7_winds : Room := { frames := 4, cells := 0, slots := 0, locals := 98 }
theorem mX7_winds : MV yX7_winds cX7_winds 7 (some .int) 3 := ⟨cd_X7_winds, in_X7, ⟨⟨by decide, by decide⟩, by decide +kernel⟩, im_X7_winds, se_X7_winds⟩
set_option maxHeartbeats 4000000 in
set_option maxRecDepth 100000 in
theorem xX7_winds_60 {κ : Kx} {G : GT} (C : Cx κ G yX7_winds cX7_winds (some .int) 7 rX7_winds) (q : Nat → Nat → Nat) (T : Nat → Ob) (lx1 : Int) (lx2 : Int) (lx3 : Int) (kx0 : Int → Int → Option (Int)) (v : (Int)) (hk0 : ∀ (lx4 : Int) (lx5 : Int), kx0 lx4 lx5 = some v → X κ G 7 (W_T G q T) 110 [(3, vi lx3), (4, vi lx4), (5, vi lx5)] [] 0 0 (QM κ G (W_T G q T) (some (vi v)) rX7_winds.cells rX7_winds.slots)) : ∀ (n : Nat) (lx4 : Int) (lx5 : Int) (lx6 : Int), lX7_winds_60 T lx1 lx2 lx3 kx0 n lx4 lx5 lx6 = some v → X κ G 7 (W_T G q T) 60 [(0, .ref ((q 11) 31)), (1, vi lx1), (2, vi lx2), (3, vi lx3), (4, vi lx4), (5, vi lx5), (6, vi lx6)] [] 0 0 (QM κ G (W_T G q T) (some (vi v)) rX7_winds.cells rX7_winds.slots) := by
  intro n
  induction n with
  | zero => intro _ _ _ h; exact absurd h (fun h => nomatch h)
  | succ n ih =>
    intro lx4 lx5 lx6 h
    rw [lX7_winds_60] at h
    refine X.iload C dX7_winds_60 6 rfl ?_
    refine X.bipush C dX7_winds_62 (by decide) ?_
    refine X.icmp_ge (tgt := 110) C h dX7_winds_64 (by decide) (fun h => ?_) (fun h => ?_)
    · refine X.sub [3, 4, 5] rfl ?_
      exact hk0 lx4 lx5 h
    refine X.aload_n C dX7_winds_67 rfl 0 rfl ?_
    refine X.aload_n C dX7_winds_68 rfl 0 rfl ?_
    refine X.get C dX7_winds_69 lay_X7 0 rfl rfl 5 (by decide) fl_X7_45 rfl rfl ?_
    refine X.iload_n C dX7_winds_72 rfl 1 rfl ?_
    refine X.aldR C h dX7_winds_73 1 rfl (fun h hj_6 => ?_)
    refine X.iload_n C dX7_winds_74 rfl 2 rfl ?_
    refine X.callSi (As := [vi lx2]) (rest := [.ref ((q (6 + (ix lx1))) 31), .ref ((q 11) 31)]) (g := fun rr_7 => rr_7) (W1 := fun rr_7 => W_0) (ws2 := fun rr_7 => (W_T G q T)) C h dX7_winds_75 ml_X7_227 mX7_flightOf (fun v hv => kX7_flightOf lx2 v hv) (fun rr_7 => ln_T_0__n (G := G) (q := q) (T := T)) rfl rfl rfl rfl rfl rfl (fun rr_7 h => ?_)
    refine X.iload C dX7_winds_78 6 rfl ?_
    refine X.callVi (q0 := 0) (As := [.ref ((q (6 + (ix lx1))) 31), vi rr_7, vi lx6]) (rest := []) (g := fun rr_8 => rr_8) (W1 := fun rr_8 => (W_T G q T)) (ws2 := fun rr_8 => (W_T G q T)) C h dX7_winds_80 ml_X7_282 mX7_makesMarks (fun v hv => kX7_makesMarks q T (ix lx1) hj_6 rr_7 lx6 v hv) (fun rr_8 => ln_T_T_id_n (G := G) (q := q) (T := T)) rfl rfl rfl rfl rfl rfl rfl rfl (fun rr_8 h => ?_)
    refine X.if_eq (tgt := 104) C h dX7_winds_83 (by decide) (fun h => ?_) (fun h => ?_)
    · refine X.iincN (lv2 := fun lx6_9 => [(6, vi lx6_9), (0, .ref ((q 11) 31)), (1, vi lx1), (2, vi lx2), (3, vi lx3), (4, vi lx4), (5, vi lx5)]) C h dX7_winds_104 6 rfl (by decide) (fun _ => rfl) (fun lx6_9 h => ?_)
      refine X.goto (tgt := 60) C dX7_winds_107 (by decide) ?_
      refine X.sub [1, 2, 3, 4, 5, 6, 0] rfl ?_
      exact ih lx4 lx5 lx6_9 h
    refine X.iincN (lv2 := fun lx4_10 => [(4, vi lx4_10), (0, .ref ((q 11) 31)), (1, vi lx1), (2, vi lx2), (3, vi lx3), (5, vi lx5), (6, vi lx6)]) C h dX7_winds_86 4 rfl (by decide) (fun _ => rfl) (fun lx4_10 h => ?_)
    refine X.iload C dX7_winds_89 5 rfl ?_
    refine X.iconst C dX7_winds_91 ?_
    refine X.icmp_ne (tgt := 100) C h dX7_winds_92 (by decide) (fun h => ?_) (fun h => ?_)
    · refine X.iload C dX7_winds_100 5 rfl ?_
      refine X.istore (lv2 := [(5, vi lx5), (4, vi lx4_10), (0, .ref ((q 11) 31)), (1, vi lx1), (2, vi lx2), (3, vi lx3), (6, vi lx6)]) C dX7_winds_102 (by decide) rfl ?_
      refine X.iincN (lv2 := fun lx6_11 => [(6, vi lx6_11), (5, vi lx5), (4, vi lx4_10), (0, .ref ((q 11) 31)), (1, vi lx1), (2, vi lx2), (3, vi lx3)]) C h dX7_winds_104 6 rfl (by decide) (fun _ => rfl) (fun lx6_11 h => ?_)
      refine X.goto (tgt := 60) C dX7_winds_107 (by decide) ?_
      refine X.sub [3, 4, 5, 6, 2, 1, 0] rfl ?_
      exact ih lx4_10 lx5 lx6_11 h
    refine X.iload C dX7_winds_95 6 rfl ?_
    refine X.goto (tgt := 102) C dX7_winds_97 (by decide) ?_
    refine X.istore (lv2 := [(5, vi lx6), (4, vi lx4_10), (0, .ref ((q 11) 31)), (1, vi lx1), (2, vi lx2), (3, vi lx3), (6, vi lx6)]) C dX7_winds_102 (by decide) rfl ?_
    refine X.iincN (lv2 := fun lx6_12 => [(6, vi lx6_12), (5, vi lx6), (4, vi lx4_10), (0, .ref ((q 11) 31)), (1, vi lx1), (2, vi lx2), (3, vi lx3)]) C h dX7_winds_104 6 rfl (by decide) (fun _ => rfl) (fun lx6_12 h => ?_)
    refine X.goto (tgt := 60) C dX7_winds_107 (by decide) ?_
    refine X.sub [3, 4, 5, 6, 2, 1, 0] rfl ?_
    exact ih lx4_10 lx6 lx6_12 h
set_option maxHeartbeats 4000000 in
set_option maxRecDepth 100000 in
theorem kX7_winds {l : Launch} {G : GT} (q : Nat → Nat → Nat) (T : Nat → Ob) (lx1 : Int) (lx2 : Int) (lx3 : Int) (v : (Int)) (h : fX7_winds T lx1 lx2 lx3 = some v) : CT l G yX7_winds cX7_winds 7 (some .int) rX7_winds [.ref ((q 11) 31), vi lx1, vi lx2, vi lx3] (W_T G q T) (W_T G q T) (some (vi v)) := by
  unfold fX7_winds at h
  refine CT.of (by decide) (Nat.le_of_ble_eq_true rfl) rfl (fun κ _ C => ?_)
  refine X.iload_n C dX7_winds_0 rfl 1 rfl ?_
  refine X.callSi (As := [vi lx1]) (rest := []) (g := fun rr_1 => rr_1) (W1 := fun rr_1 => W_0) (ws2 := fun rr_1 => (W_T G q T)) C h dX7_winds_1 ml_X7_275 mX7_isSlot (fun v hv => kX7_isSlot lx1 v hv) (fun rr_1 => ln_T_0__n (G := G) (q := q) (T := T)) rfl rfl rfl rfl rfl rfl (fun rr_1 h => ?_)
  refine X.if_eq (tgt := 33) C h dX7_winds_4 (by decide) (fun h => ?_) (fun h => ?_)
  · refine X.bipush C dX7_winds_33 (by decide) ?_
    cases h
    exact X.iret C dX7_winds_35 (Nat.zero_le _) (Nat.zero_le _)
  refine X.aload_n C dX7_winds_7 rfl 0 rfl ?_
  refine X.callVi (q0 := 0) (As := []) (rest := []) (g := fun rr_2 => rr_2) (W1 := fun rr_2 => (W_T G q T)) (ws2 := fun rr_2 => (W_T G q T)) C h dX7_winds_8 ml_X7_178 mX7_hasSquare (fun v hv => kX7_hasSquare q T v hv) (fun rr_2 => ln_T_T_id_n (G := G) (q := q) (T := T)) rfl rfl rfl rfl rfl rfl rfl rfl (fun rr_2 h => ?_)
  refine X.if_eq (tgt := 33) C h dX7_winds_11 (by decide) (fun h => ?_) (fun h => ?_)
  · refine X.bipush C dX7_winds_33 (by decide) ?_
    cases h
    exact X.iret C dX7_winds_35 (Nat.zero_le _) (Nat.zero_le _)
  refine X.iload_n C dX7_winds_14 rfl 2 rfl ?_
  refine X.iconst C dX7_winds_15 ?_
  refine X.bipush C dX7_winds_16 (by decide) ?_
  refine X.callSi (As := [vi lx2, vi 1, vi 60]) (rest := []) (g := fun rr_3 => rr_3) (W1 := fun rr_3 => W_0) (ws2 := fun rr_3 => (W_T G q T)) C h dX7_winds_18 ml_X7_93 mX7_isWithin (fun v hv => kX7_isWithin lx2 1 60 v hv) (fun rr_3 => ln_T_0__n (G := G) (q := q) (T := T)) rfl rfl rfl rfl rfl rfl (fun rr_3 h => ?_)
  refine X.if_eq (tgt := 33) C h dX7_winds_21 (by decide) (fun h => ?_) (fun h => ?_)
  · refine X.bipush C dX7_winds_33 (by decide) ?_
    cases h
    exact X.iret C dX7_winds_35 (Nat.zero_le _) (Nat.zero_le _)
  refine X.iload_n C dX7_winds_24 rfl 3 rfl ?_
  refine X.iconst C dX7_winds_25 ?_
  refine X.iconst C dX7_winds_26 ?_
  refine X.callSi (As := [vi lx3, vi 0, vi 1]) (rest := []) (g := fun rr_4 => rr_4) (W1 := fun rr_4 => W_0) (ws2 := fun rr_4 => (W_T G q T)) C h dX7_winds_27 ml_X7_93 mX7_isWithin (fun v hv => kX7_isWithin lx3 0 1 v hv) (fun rr_4 => ln_T_0__n (G := G) (q := q) (T := T)) rfl rfl rfl rfl rfl rfl (fun rr_4 h => ?_)
  refine X.if_ne (tgt := 36) C h dX7_winds_30 (by decide) (fun h => ?_) (fun h => ?_)
  · refine X.aload_n C dX7_winds_36 rfl 0 rfl ?_
    refine X.get C dX7_winds_37 lay_X7 0 rfl rfl 5 (by decide) fl_X7_45 rfl rfl ?_
    refine X.iload_n C dX7_winds_40 rfl 1 rfl ?_
    refine X.aldR C h dX7_winds_41 1 rfl (fun h hj_5 => ?_)
    refine X.get C dX7_winds_42 lay_X2 (41 + 2 * (ix lx1)) (row_o hj_5) rfl 0 (by decide) fl_X7_278 rfl rfl ?_
    refine X.if_ne (tgt := 51) C h dX7_winds_45 (by decide) (fun h => ?_) (fun h => ?_)
    · refine X.iconst C dX7_winds_51 ?_
      refine X.istore (lv2 := [(4, vi 0), (0, .ref ((q 11) 31)), (1, vi lx1), (2, vi lx2), (3, vi lx3)]) C dX7_winds_52 (by decide) rfl ?_
      refine X.iconst C dX7_winds_54 ?_
      refine X.istore (lv2 := [(5, vi (-1)), (4, vi 0), (0, .ref ((q 11) 31)), (1, vi lx1), (2, vi lx2), (3, vi lx3)]) C dX7_winds_55 (by decide) rfl ?_
      refine X.iconst C dX7_winds_57 ?_
      refine X.istore (lv2 := [(6, vi 0), (5, vi (-1)), (4, vi 0), (0, .ref ((q 11) 31)), (1, vi lx1), (2, vi lx2), (3, vi lx3)]) C dX7_winds_58 (by decide) rfl ?_
      refine X.sub [3, 4, 5, 6, 2, 1, 0] rfl ?_
      refine xX7_winds_60 C q T lx1 lx2 lx3 _ v (fun lx4_13 lx5_14 h => ?_) FU 0 (-1) 0 h
      · refine X.iload_n C dX7_winds_110 rfl 0 rfl ?_
        refine X.if_ne (tgt := 119) C h dX7_winds_111 (by decide) (fun h => ?_) (fun h => ?_)
        · refine X.iload C dX7_winds_119 2 rfl ?_
          cases h
          exact X.iret C dX7_winds_121 (Nat.zero_le _) (Nat.zero_le _)
        refine X.iload C dX7_winds_114 1 rfl ?_
        refine X.goto (tgt := 121) C dX7_winds_116 (by decide) ?_
        cases h
        exact X.iret C dX7_winds_121 (Nat.zero_le _) (Nat.zero_le _)
    refine X.bipush C dX7_winds_48 (by decide) ?_
    cases h
    exact X.iret C dX7_winds_50 (Nat.zero_le _) (Nat.zero_le _)
  refine X.bipush C dX7_winds_33 (by decide) ?_
  cases h
  exact X.iret C dX7_winds_35 (Nat.zero_le _) (Nat.zero_le _)
def rX7_already : Room := { frames := 4, cells := 0, slots := 0, locals := 101 }
theorem mX7_already : MV yX7_already cX7_already 3 (some .int) 2 := ⟨cd_X7_already, in_X7, ⟨⟨by decide, by decide⟩, by decide +kernel⟩, im_X7_already, se_X7_already⟩
set_option maxHeartbeats 4000000 in
set_option maxRecDepth 100000 in
theorem kX7_already {l : Launch} {G : GT} (q : Nat → Nat → Nat) (T : Nat → Ob) (lx1 : Int) (lx2 : Int) (v : (Int)) (h : fX7_already T lx1 lx2 = some v) : CT l G yX7_already cX7_already 3 (some .int) rX7_already [.ref ((q 11) 31), vi lx1, vi lx2] (W_T G q T) (W_T G q T) (some (vi v)) := by
  unfold fX7_already at h
  refine CT.of (by decide) (Nat.le_of_ble_eq_true rfl) rfl (fun κ _ C => ?_)
  refine X.aload_n C dX7_already_0 rfl 0 rfl ?_
  refine X.iload_n C dX7_already_1 rfl 1 rfl ?_
  refine X.callVi (q0 := 0) (As := [vi lx1]) (rest := []) (g := fun rr_1 => rr_1) (W1 := fun rr_1 => (W_T G q T)) (ws2 := fun rr_1 => (W_T G q T)) C h dX7_already_2 ml_X7_127 mX7_isTable (fun v hv => kX7_isTable q T lx1 v hv) (fun rr_1 => ln_T_T_id_n (G := G) (q := q) (T := T)) rfl rfl rfl rfl rfl rfl rfl rfl (fun rr_1 h => ?_)
  refine X.if_eq (tgt := 27) C h dX7_already_5 (by decide) (fun h => ?_) (fun h => ?_)
  · refine X.bipush C dX7_already_27 (by decide) ?_
    cases h
    exact X.iret C dX7_already_29 (Nat.zero_le _) (Nat.zero_le _)
  refine X.iload_n C dX7_already_8 rfl 2 rfl ?_
  refine X.callSi (As := [vi lx2]) (rest := []) (g := fun rr_2 => rr_2) (W1 := fun rr_2 => W_0) (ws2 := fun rr_2 => (W_T G q T)) C h dX7_already_9 ml_X7_246 mX7_isWind (fun v hv => kX7_isWind lx2 v hv) (fun rr_2 => ln_T_0__n (G := G) (q := q) (T := T)) rfl rfl rfl rfl rfl rfl (fun rr_2 h => ?_)
  refine X.if_eq (tgt := 27) C h dX7_already_12 (by decide) (fun h => ?_) (fun h => ?_)
  · refine X.bipush C dX7_already_27 (by decide) ?_
    cases h
    exact X.iret C dX7_already_29 (Nat.zero_le _) (Nat.zero_le _)
  refine X.aload_n C dX7_already_15 rfl 0 rfl ?_
  refine X.get C dX7_already_16 lay_X7 0 rfl rfl 2 (by decide) fl_X7_19 rfl rfl ?_
  refine X.iload_n C dX7_already_19 rfl 1 rfl ?_
  refine X.iload_n C dX7_already_20 rfl 2 rfl ?_
  refine X.callVi (q0 := 5) (As := [vi lx1, vi lx2]) (rest := []) (g := fun rr_3 => rr_3) (W1 := fun rr_3 => (W_S G (q 12) (q 2) (q 3) (T 2) (T 3))) (ws2 := fun rr_3 => (W_T G q T)) C h dX7_already_21 ml_X7_286 mX3_dropsComing (fun v hv => kX3_dropsComing (q 12) (q 2) (q 3) (T 2) (T 3) lx1 lx2 v hv) (fun rr_3 => ln_T_S_ns_np_na_n (G := G) (q := q) (T := T)) rfl rfl rfl rfl rfl rfl rfl rfl (fun rr_3 h => ?_)
  refine X.goto (tgt := 29) C dX7_already_24 (by decide) ?_
  cases h
  exact X.iret C dX7_already_29 (Nat.zero_le _) (Nat.zero_le _)
def rX7_coming : Room := { frames := 4, cells := 0, slots := 0, locals := 99 }
theorem mX7_coming : MV yX7_coming cX7_coming 2 (some .int) 1 := ⟨cd_X7_coming, in_X7, ⟨⟨by decide, by decide⟩, by decide +kernel⟩, im_X7_coming, se_X7_coming⟩
set_option maxHeartbeats 4000000 in
set_option maxRecDepth 100000 in
theorem kX7_coming {l : Launch} {G : GT} (q : Nat → Nat → Nat) (T : Nat → Ob) (lx1 : Int) (v : (Int)) (h : fX7_coming T lx1 = some v) : CT l G yX7_coming cX7_coming 2 (some .int) rX7_coming [.ref ((q 11) 31), vi lx1] (W_T G q T) (W_T G q T) (some (vi v)) := by
  unfold fX7_coming at h
  refine CT.of (by decide) (Nat.le_of_ble_eq_true rfl) rfl (fun κ _ C => ?_)
  refine X.aload_n C dX7_coming_0 rfl 0 rfl ?_
  refine X.callVi (q0 := 0) (As := []) (rest := []) (g := fun rr_1 => rr_1) (W1 := fun rr_1 => (W_T G q T)) (ws2 := fun rr_1 => (W_T G q T)) C h dX7_coming_1 ml_X7_178 mX7_hasSquare (fun v hv => kX7_hasSquare q T v hv) (fun rr_1 => ln_T_T_id_n (G := G) (q := q) (T := T)) rfl rfl rfl rfl rfl rfl rfl rfl (fun rr_1 h => ?_)
  refine X.if_eq (tgt := 25) C h dX7_coming_4 (by decide) (fun h => ?_) (fun h => ?_)
  · refine X.bipush C dX7_coming_25 (by decide) ?_
    cases h
    exact X.iret C dX7_coming_27 (Nat.zero_le _) (Nat.zero_le _)
  refine X.iload_n C dX7_coming_7 rfl 1 rfl ?_
  refine X.callSi (As := [vi lx1]) (rest := []) (g := fun rr_2 => rr_2) (W1 := fun rr_2 => W_0) (ws2 := fun rr_2 => (W_T G q T)) C h dX7_coming_8 ml_X7_246 mX7_isWind (fun v hv => kX7_isWind lx1 v hv) (fun rr_2 => ln_T_0__n (G := G) (q := q) (T := T)) rfl rfl rfl rfl rfl rfl (fun rr_2 h => ?_)
  refine X.if_eq (tgt := 25) C h dX7_coming_11 (by decide) (fun h => ?_) (fun h => ?_)
  · refine X.bipush C dX7_coming_25 (by decide) ?_
    cases h
    exact X.iret C dX7_coming_27 (Nat.zero_le _) (Nat.zero_le _)
  refine X.aload_n C dX7_coming_14 rfl 0 rfl ?_
  refine X.get C dX7_coming_15 lay_X7 0 rfl rfl 2 (by decide) fl_X7_19 rfl rfl ?_
  refine X.iload_n C dX7_coming_18 rfl 1 rfl ?_
  refine X.callVi (q0 := 5) (As := [vi lx1]) (rest := []) (g := fun rr_3 => rr_3) (W1 := fun rr_3 => (W_S G (q 12) (q 2) (q 3) (T 2) (T 3))) (ws2 := fun rr_3 => (W_T G q T)) C h dX7_coming_19 ml_X7_289 mX3_dropsStraying (fun v hv => kX3_dropsStraying (q 12) (q 2) (q 3) (T 2) (T 3) lx1 v hv) (fun rr_3 => ln_T_S_ns_np_na_n (G := G) (q := q) (T := T)) rfl rfl rfl rfl rfl rfl rfl rfl (fun rr_3 h => ?_)
  refine X.goto (tgt := 27) C dX7_coming_22 (by decide) ?_
  cases h
  exact X.iret C dX7_coming_27 (Nat.zero_le _) (Nat.zero_le _)
def rX7_worst : Room := { frames := 4, cells := 0, slots := 0, locals := 101 }
theorem mX7_worst : MV yX7_worst cX7_worst 6 (some .int) 1 := ⟨cd_X7_worst, in_X7, ⟨⟨by decide, by decide⟩, by decide +kernel⟩, im_X7_worst, se_X7_worst⟩
set_option maxHeartbeats 4000000 in
set_option maxRecDepth 100000 in
theorem xX7_worst_18 {κ : Kx} {G : GT} (C : Cx κ G yX7_worst cX7_worst (some .int) 6 rX7_worst) (q : Nat → Nat → Nat) (T : Nat → Ob) (lx1 : Int) (v : (Int)) : ∀ (n : Nat) (lx2 : Int) (lx3 : Int) (lx4 : Int), lX7_worst_18 T lx1 n lx2 lx3 lx4 = some v → X κ G 6 (W_T G q T) 18 [(0, .ref ((q 11) 31)), (1, vi lx1), (2, vi lx2), (3, vi lx3), (4, vi lx4)] [] 0 0 (QM κ G (W_T G q T) (some (vi v)) rX7_worst.cells rX7_worst.slots) := by
  intro n
  induction n with
  | zero => intro _ _ _ h; exact absurd h (fun h => nomatch h)
  | succ n ih =>
    intro lx2 lx3 lx4 h
    rw [lX7_worst_18] at h
    refine X.iload C dX7_worst_18 4 rfl ?_
    refine X.bipush C dX7_worst_20 (by decide) ?_
    refine X.icmp_ge (tgt := 55) C h dX7_worst_22 (by decide) (fun h => ?_) (fun h => ?_)
    · refine X.iload_n C dX7_worst_55 rfl 3 rfl ?_
      cases h
      exact X.iret C dX7_worst_56 (Nat.zero_le _) (Nat.zero_le _)
    refine X.aload_n C dX7_worst_25 rfl 0 rfl ?_
    refine X.get C dX7_worst_26 lay_X7 0 rfl rfl 2 (by decide) fl_X7_19 rfl rfl ?_
    refine X.iload_n C dX7_worst_29 rfl 1 rfl ?_
    refine X.iload C dX7_worst_30 4 rfl ?_
    refine X.callVi (q0 := 5) (As := [vi lx1, vi lx4]) (rest := []) (g := fun rr_2 => rr_2) (W1 := fun rr_2 => (W_S G (q 12) (q 2) (q 3) (T 2) (T 3))) (ws2 := fun rr_2 => (W_T G q T)) C h dX7_worst_32 ml_X7_286 mX3_dropsComing (fun v hv => kX3_dropsComing (q 12) (q 2) (q 3) (T 2) (T 3) lx1 lx4 v hv) (fun rr_2 => ln_T_S_ns_np_na_n (G := G) (q := q) (T := T)) rfl rfl rfl rfl rfl rfl rfl rfl (fun rr_2 h => ?_)
    refine X.istore (lv2 := [(5, vi rr_2), (0, .ref ((q 11) 31)), (1, vi lx1), (2, vi lx2), (3, vi lx3), (4, vi lx4)]) C dX7_worst_35 (by decide) rfl ?_
    refine X.iload C dX7_worst_37 0 rfl ?_
    refine X.iload_n C dX7_worst_39 rfl 3 rfl ?_
    refine X.icmp_le (tgt := 49) C h dX7_worst_40 (by decide) (fun h => ?_) (fun h => ?_)
    · refine X.iincN (lv2 := fun lx4_3 => [(4, vi lx4_3), (5, vi rr_2), (0, .ref ((q 11) 31)), (1, vi lx1), (2, vi lx2), (3, vi lx3)]) C h dX7_worst_49 5 rfl (by decide) (fun _ => rfl) (fun lx4_3 h => ?_)
      refine X.goto (tgt := 18) C dX7_worst_52 (by decide) ?_
      refine X.sub [2, 3, 4, 5, 0] rfl ?_
      exact ih lx2 lx3 lx4_3 h
    refine X.iload C dX7_worst_43 0 rfl ?_
    refine X.istore_n (lv2 := [(2, vi rr_2), (5, vi rr_2), (0, .ref ((q 11) 31)), (1, vi lx1), (3, vi lx3), (4, vi lx4)]) C dX7_worst_45 rfl (by decide) rfl ?_
    refine X.iload C dX7_worst_46 5 rfl ?_
    refine X.istore_n (lv2 := [(3, vi lx4), (2, vi rr_2), (5, vi rr_2), (0, .ref ((q 11) 31)), (1, vi lx1), (4, vi lx4)]) C dX7_worst_48 rfl (by decide) rfl ?_
    refine X.iincN (lv2 := fun lx4_4 => [(4, vi lx4_4), (3, vi lx4), (2, vi rr_2), (5, vi rr_2), (0, .ref ((q 11) 31)), (1, vi lx1)]) C h dX7_worst_49 5 rfl (by decide) (fun _ => rfl) (fun lx4_4 h => ?_)
    refine X.goto (tgt := 18) C dX7_worst_52 (by decide) ?_
    refine X.sub [4, 5, 2, 1, 0] rfl ?_
    exact ih rr_2 lx4 lx4_4 h
set_option maxHeartbeats 4000000 in
set_option maxRecDepth 100000 in
theorem kX7_worst {l : Launch} {G : GT} (q : Nat → Nat → Nat) (T : Nat → Ob) (lx1 : Int) (v : (Int)) (h : fX7_worst T lx1 = some v) : CT l G yX7_worst cX7_worst 6 (some .int) rX7_worst [.ref ((q 11) 31), vi lx1] (W_T G q T) (W_T G q T) (some (vi v)) := by
  unfold fX7_worst at h
  refine CT.of (by decide) (Nat.le_of_ble_eq_true rfl) rfl (fun κ _ C => ?_)
  refine X.aload_n C dX7_worst_0 rfl 0 rfl ?_
  refine X.iload_n C dX7_worst_1 rfl 1 rfl ?_
  refine X.callVi (q0 := 0) (As := [vi lx1]) (rest := []) (g := fun rr_1 => rr_1) (W1 := fun rr_1 => (W_T G q T)) (ws2 := fun rr_1 => (W_T G q T)) C h dX7_worst_2 ml_X7_127 mX7_isTable (fun v hv => kX7_isTable q T lx1 v hv) (fun rr_1 => ln_T_T_id_n (G := G) (q := q) (T := T)) rfl rfl rfl rfl rfl rfl rfl rfl (fun rr_1 h => ?_)
  refine X.if_ne (tgt := 11) C h dX7_worst_5 (by decide) (fun h => ?_) (fun h => ?_)
  · refine X.iconst C dX7_worst_11 ?_
    refine X.istore_n (lv2 := [(2, vi 0), (0, .ref ((q 11) 31)), (1, vi lx1)]) C dX7_worst_12 rfl (by decide) rfl ?_
    refine X.iconst C dX7_worst_13 ?_
    refine X.istore_n (lv2 := [(3, vi (-1)), (2, vi 0), (0, .ref ((q 11) 31)), (1, vi lx1)]) C dX7_worst_14 rfl (by decide) rfl ?_
    refine X.iconst C dX7_worst_15 ?_
    refine X.istore (lv2 := [(4, vi 0), (3, vi (-1)), (2, vi 0), (0, .ref ((q 11) 31)), (1, vi lx1)]) C dX7_worst_16 (by decide) rfl ?_
    refine X.sub [3, 4, 2, 1, 0] rfl ?_
    refine xX7_worst_18 C q T lx1 v FU 0 (-1) 0 h
  refine X.bipush C dX7_worst_8 (by decide) ?_
  cases h
  exact X.iret C dX7_worst_10 (Nat.zero_le _) (Nat.zero_le _)
def rX7_last : Room := { frames := 4, cells := 0, slots := 0, locals := 101 }
theorem mX7_last : MV yX7_last cX7_last 3 (some .int) 2 := ⟨cd_X7_last, in_X7, ⟨⟨by decide, by decide⟩, by decide +kernel⟩, im_X7_last, se_X7_last⟩
set_option maxHeartbeats 4000000 in
set_option maxRecDepth 100000 in
theorem kX7_last {l : Launch} {G : GT} (q : Nat → Nat → Nat) (T : Nat → Ob) (lx1 : Int) (lx2 : Int) (v : (Int)) (h : fX7_last T lx1 lx2 = some v) : CT l G yX7_last cX7_last 3 (some .int) rX7_last [.ref ((q 11) 31), vi lx1, vi lx2] (W_T G q T) (W_T G q T) (some (vi v)) := by
  unfold fX7_last at h
  refine CT.of (by decide) (Nat.le_of_ble_eq_true rfl) rfl (fun κ _ C => ?_)
  refine X.aload_n C dX7_last_0 rfl 0 rfl ?_
  refine X.iload_n C dX7_last_1 rfl 1 rfl ?_
  refine X.callVi (q0 := 0) (As := [vi lx1]) (rest := []) (g := fun rr_1 => rr_1) (W1 := fun rr_1 => (W_T G q T)) (ws2 := fun rr_1 => (W_T G q T)) C h dX7_last_2 ml_X7_127 mX7_isTable (fun v hv => kX7_isTable q T lx1 v hv) (fun rr_1 => ln_T_T_id_n (G := G) (q := q) (T := T)) rfl rfl rfl rfl rfl rfl rfl rfl (fun rr_1 h => ?_)
  refine X.if_eq (tgt := 27) C h dX7_last_5 (by decide) (fun h => ?_) (fun h => ?_)
  · refine X.bipush C dX7_last_27 (by decide) ?_
    cases h
    exact X.iret C dX7_last_29 (Nat.zero_le _) (Nat.zero_le _)
  refine X.iload_n C dX7_last_8 rfl 2 rfl ?_
  refine X.callSi (As := [vi lx2]) (rest := []) (g := fun rr_2 => rr_2) (W1 := fun rr_2 => W_0) (ws2 := fun rr_2 => (W_T G q T)) C h dX7_last_9 ml_X7_246 mX7_isWind (fun v hv => kX7_isWind lx2 v hv) (fun rr_2 => ln_T_0__n (G := G) (q := q) (T := T)) rfl rfl rfl rfl rfl rfl (fun rr_2 h => ?_)
  refine X.if_eq (tgt := 27) C h dX7_last_12 (by decide) (fun h => ?_) (fun h => ?_)
  · refine X.bipush C dX7_last_27 (by decide) ?_
    cases h
    exact X.iret C dX7_last_29 (Nat.zero_le _) (Nat.zero_le _)
  refine X.aload_n C dX7_last_15 rfl 0 rfl ?_
  refine X.get C dX7_last_16 lay_X7 0 rfl rfl 2 (by decide) fl_X7_19 rfl rfl ?_
  refine X.iload_n C dX7_last_19 rfl 1 rfl ?_
  refine X.iload_n C dX7_last_20 rfl 2 rfl ?_
  refine X.callVi (q0 := 5) (As := [vi lx1, vi lx2]) (rest := []) (g := fun rr_3 => rr_3) (W1 := fun rr_3 => (W_S G (q 12) (q 2) (q 3) (T 2) (T 3))) (ws2 := fun rr_3 => (W_T G q T)) C h dX7_last_21 ml_X7_292 mX3_lastComing (fun v hv => kX3_lastComing (q 12) (q 2) (q 3) (T 2) (T 3) lx1 lx2 v hv) (fun rr_3 => ln_T_S_ns_np_na_n (G := G) (q := q) (T := T)) rfl rfl rfl rfl rfl rfl rfl rfl (fun rr_3 h => ?_)
  refine X.goto (tgt := 29) C dX7_last_24 (by decide) ?_
  cases h
  exact X.iret C dX7_last_29 (Nat.zero_le _) (Nat.zero_le _)
def rX7_isThought : Room := { frames := 3, cells := 0, slots := 0, locals := 63 }
theorem mX7_isThought : MV yX7_isThought cX7_isThought 3 (some .boolean) 2 := ⟨cd_X7_isThought, in_X7, ⟨⟨by decide, by decide⟩, by decide +kernel⟩, im_X7_isThought, se_X7_isThought⟩
set_option maxHeartbeats 4000000 in
set_option maxRecDepth 100000 in
theorem kX7_isThought {l : Launch} {G : GT} (q : Nat → Nat → Nat) (T : Nat → Ob) (lx1 : Int) (lx2 : Int) (v : (Int)) (h : fX7_isThought T lx1 lx2 = some v) : CT l G yX7_isThought cX7_isThought 3 (some .boolean) rX7_isThought [.ref ((q 11) 31), vi lx1, vi lx2] (W_T G q T) (W_T G q T) (some (vi v)) := by
  unfold fX7_isThought at h
  refine CT.of (by decide) (Nat.le_of_ble_eq_true rfl) rfl (fun κ _ C => ?_)
  refine X.iload_n C dX7_isThought_0 rfl 2 rfl ?_
  refine X.iconst C dX7_isThought_1 ?_
  refine X.iconst C dX7_isThought_2 ?_
  refine X.callSi (As := [vi lx2, vi 0, vi 5]) (rest := []) (g := fun rr_1 => rr_1) (W1 := fun rr_1 => W_0) (ws2 := fun rr_1 => (W_T G q T)) C h dX7_isThought_3 ml_X7_93 mX7_isWithin (fun v hv => kX7_isWithin lx2 0 5 v hv) (fun rr_1 => ln_T_0__n (G := G) (q := q) (T := T)) rfl rfl rfl rfl rfl rfl (fun rr_1 h => ?_)
  refine X.if_eq (tgt := 21) C h dX7_isThought_6 (by decide) (fun h => ?_) (fun h => ?_)
  · refine X.iconst C dX7_isThought_21 ?_
    cases h
    exact X.zret C rfl dX7_isThought_22 (Nat.zero_le _) (Nat.zero_le _)
  refine X.aload_n C dX7_isThought_9 rfl 0 rfl ?_
  refine X.iload_n C dX7_isThought_10 rfl 1 rfl ?_
  refine X.callVi (q0 := 0) (As := [vi lx1]) (rest := []) (g := fun rr_2 => rr_2) (W1 := fun rr_2 => (W_T G q T)) (ws2 := fun rr_2 => (W_T G q T)) C h dX7_isThought_11 ml_X7_105 mX7_refusalOf (fun v hv => kX7_refusalOf q T lx1 v hv) (fun rr_2 => ln_T_T_id_n (G := G) (q := q) (T := T)) rfl rfl rfl rfl rfl rfl rfl rfl (fun rr_2 h => ?_)
  refine X.if_ne (tgt := 21) C h dX7_isThought_14 (by decide) (fun h => ?_) (fun h => ?_)
  · refine X.iconst C dX7_isThought_21 ?_
    cases h
    exact X.zret C rfl dX7_isThought_22 (Nat.zero_le _) (Nat.zero_le _)
  refine X.iconst C dX7_isThought_17 ?_
  refine X.goto (tgt := 22) C dX7_isThought_18 (by decide) ?_
  cases h
  exact X.zret C rfl dX7_isThought_22 (Nat.zero_le _) (Nat.zero_le _)
def rX7_beginDream : Room := { frames := 3, cells := 0, slots := 0, locals := 102 }
theorem mX7_beginDream : MV yX7_beginDream cX7_beginDream 1 none 0 := ⟨cd_X7_beginDream, in_X7, ⟨⟨by decide, by decide⟩, by decide +kernel⟩, im_X7_beginDream, se_X7_beginDream⟩
set_option maxHeartbeats 4000000 in
set_option maxRecDepth 100000 in
theorem kX7_beginDream {l : Launch} {G : GT} (q : Nat → Nat → Nat) (T : Nat → Ob) (v : (Nat → Ob)) (h : fX7_beginDream T = some v) : CT l G yX7_beginDream cX7_beginDream 1 none rX7_beginDream [.ref ((q 11) 31)] (W_T G q T) (W_T G q v) none := by
  unfold fX7_beginDream at h
  refine CT.of (by decide) (Nat.le_of_ble_eq_true rfl) rfl (fun κ _ C => ?_)
  refine X.aload_n C dX7_beginDream_0 rfl 0 rfl ?_
  refine X.get C dX7_beginDream_1 lay_X7 0 rfl rfl 3 (by decide) fl_X7_23 rfl rfl ?_
  refine X.aload_n C dX7_beginDream_4 rfl 0 rfl ?_
  refine X.get C dX7_beginDream_5 lay_X7 0 rfl rfl 2 (by decide) fl_X7_19 rfl rfl ?_
  refine X.callVv (q0 := 23) (As := [.ref ((q 12) 31)]) (rest := []) (W1 := fun rr_1 => (W_SS G (q 13) (q 4) (q 5) (q 12) (q 2) (q 3) rr_1.1 rr_1.2 (T 2) (T 3))) (ws2 := fun rr_1 => (W_T G q (upO (upO T 4 rr_1.1) 5 rr_1.2))) C h dX7_beginDream_8 ml_X7_365 mX3_copyFrom (fun v hv => kX3_copyFrom (q 13) (q 4) (q 5) (q 12) (q 2) (q 3) (T 4) (T 5) (T 2) (T 3) v hv) (fun rr_1 => ln_T_SS_ds_dp_da_ns_np_na_PA (G := G) (q := q) (T := T) (NP := rr_1.1) (NA := rr_1.2)) rfl rfl rfl rfl rfl rfl rfl rfl (fun rr_1 h => ?_)
  refine X.nameS (ws := fun T_2 => (W_T G q T_2)) h (fun T_2 h => ?_)
  cases h
  exact X.vret C dX7_beginDream_11 (Nat.zero_le _) (Nat.zero_le _)
def rX7_dreamDay : Room := { frames := 4, cells := 0, slots := 0, locals := 100 }
theorem mX7_dreamDay : MV yX7_dreamDay cX7_dreamDay 4 none 1 := ⟨cd_X7_dreamDay, in_X7, ⟨⟨by decide, by decide⟩, by decide +kernel⟩, im_X7_dreamDay, se_X7_dreamDay⟩
set_option maxHeartbeats 4000000 in
set_option maxRecDepth 100000 in
theorem xX7_dreamDay_9 {κ : Kx} {G : GT} (C : Cx κ G yX7_dreamDay cX7_dreamDay none 4 rX7_dreamDay) (q : Nat → Nat → Nat) (lj2 : Nat) (hlj2 : lj2 < 4) (kx0 : (Nat → Ob) → Option (Nat → Ob)) (v : (Nat → Ob)) (hk0 : ∀ (T : Nat → Ob), kx0 T = some v → X κ G 4 (W_T G q T) 36 [(0, .ref ((q 11) 31))] [] 0 0 (QM κ G (W_T G q v) none rX7_dreamDay.cells rX7_dreamDay.slots)) : ∀ (n : Nat) (lx3 : Int) (T : Nat → Ob), lX7_dreamDay_9 lj2 kx0 n lx3 T = some v → X κ G 4 (W_T G q T) 9 [(0, .ref ((q 11) 31)), (2, .ref ((q (6 + lj2)) 31)), (3, vi lx3)] [] 0 0 (QM κ G (W_T G q v) none rX7_dreamDay.cells rX7_dreamDay.slots) := by
  intro n
  induction n with
  | zero => intro _ _ h; exact absurd h (fun h => nomatch h)
  | succ n ih =>
    intro lx3 T h
    rw [lX7_dreamDay_9] at h
    refine X.iload_n C dX7_dreamDay_9 rfl 2 rfl ?_
    refine X.aload_n C dX7_dreamDay_10 rfl 1 rfl ?_
    refine X.get C dX7_dreamDay_11 lay_X2 (41 + 2 * lj2) (row_o hlj2) rfl 2 (by decide) fl_X7_333 rfl rfl ?_
    refine X.icmp_ge (tgt := 36) C h dX7_dreamDay_14 (by decide) (fun h => ?_) (fun h => ?_)
    · refine X.sub [0] rfl ?_
      exact hk0 T h
    refine X.aload_n C dX7_dreamDay_17 rfl 0 rfl ?_
    refine X.get C dX7_dreamDay_18 lay_X7 0 rfl rfl 3 (by decide) fl_X7_23 rfl rfl ?_
    refine X.aload_n C dX7_dreamDay_21 rfl 1 rfl ?_
    refine X.iload_n C dX7_dreamDay_22 rfl 2 rfl ?_
    refine X.callVi (q0 := (41 + 2 * lj2)) (As := [vi lx3]) (rest := [.ref ((q 13) 31)]) (g := fun rr_2 => rr_2) (W1 := fun rr_2 => (W_R G (q (6 + lj2)) (T (6 + lj2)))) (ws2 := fun rr_2 => (W_T G q T)) C h dX7_dreamDay_23 ml_X7_334 mX2_windAt (fun v hv => kX2_windAt (q (6 + lj2)) (T (6 + lj2)) lx3 v hv) (fun rr_2 => ln_T_R_row_n (G := G) (q := q) (T := T) hlj2) (row_o hlj2) rfl rfl rfl rfl rfl rfl rfl (fun rr_2 h => ?_)
    refine X.callVi (q0 := 23) (As := [vi rr_2]) (rest := []) (g := fun rr_3 => rr_3.1) (W1 := fun rr_3 => (W_S G (q 13) (q 4) (q 5) (T 4) rr_3.2)) (ws2 := fun rr_3 => (W_T G q (upO T 5 rr_3.2))) C h dX7_dreamDay_26 ml_X7_337 mX3_playWind (fun v hv => kX3_playWind (q 13) (q 4) (q 5) (T 4) (T 5) rr_2 v hv) (fun rr_3 => ln_T_S_ds_dp_da_A (G := G) (q := q) (T := T) (NA := rr_3.2)) rfl rfl rfl rfl rfl rfl rfl rfl (fun rr_3 h => ?_)
    refine X.nameS (ws := fun T_4 => (W_T G q T_4)) h (fun T_4 h => ?_)
    refine X.pop C dX7_dreamDay_29 rfl ?_
    refine X.iincN (lv2 := fun lx3_5 => [(3, vi lx3_5), (0, .ref ((q 11) 31)), (2, .ref ((q (6 + lj2)) 31))]) C h dX7_dreamDay_30 2 rfl (by decide) (fun _ => rfl) (fun lx3_5 h => ?_)
    refine X.goto (tgt := 9) C dX7_dreamDay_33 (by decide) ?_
    refine X.sub [1, 2, 0] rfl ?_
    exact ih lx3_5 T_4 h
set_option maxHeartbeats 4000000 in
set_option maxRecDepth 100000 in
theorem kX7_dreamDay {l : Launch} {G : GT} (q : Nat → Nat → Nat) (T : Nat → Ob) (lx1 : Int) (v : (Nat → Ob)) (h : fX7_dreamDay T lx1 = some v) : CT l G yX7_dreamDay cX7_dreamDay 4 none rX7_dreamDay [.ref ((q 11) 31), vi lx1] (W_T G q T) (W_T G q v) none := by
  unfold fX7_dreamDay at h
  refine CT.of (by decide) (Nat.le_of_ble_eq_true rfl) rfl (fun κ _ C => ?_)
  refine X.aload_n C dX7_dreamDay_0 rfl 0 rfl ?_
  refine X.get C dX7_dreamDay_1 lay_X7 0 rfl rfl 5 (by decide) fl_X7_45 rfl rfl ?_
  refine X.iload_n C dX7_dreamDay_4 rfl 1 rfl ?_
  refine X.aldR C h dX7_dreamDay_5 1 rfl (fun h hj_1 => ?_)
  refine X.astore_n (lv2 := [(2, .ref ((q (6 + (ix lx1))) 31)), (0, .ref ((q 11) 31)), (1, vi lx1)]) C dX7_dreamDay_6 rfl (by decide) rfl ?_
  refine X.iconst C dX7_dreamDay_7 ?_
  refine X.istore_n (lv2 := [(3, vi 0), (2, .ref ((q (6 + (ix lx1))) 31)), (0, .ref ((q 11) 31)), (1, vi lx1)]) C dX7_dreamDay_8 rfl (by decide) rfl ?_
  refine X.sub [2, 1, 0] rfl ?_
  refine xX7_dreamDay_9 C q (ix lx1) hj_1 _ v (fun T_6 h => ?_) FU 0 T h
  · refine X.aload_n C dX7_dreamDay_36 rfl 0 rfl ?_
    refine X.get C dX7_dreamDay_37 lay_X7 0 rfl rfl 3 (by decide) fl_X7_23 rfl rfl ?_
    refine X.get C dX7_dreamDay_40 lay_X3 23 rfl rfl 1 (by decide) fl_X7_75 rfl rfl ?_
    refine X.aload_n C dX7_dreamDay_43 rfl 0 rfl ?_
    refine X.get C dX7_dreamDay_44 lay_X7 0 rfl rfl 3 (by decide) fl_X7_23 rfl rfl ?_
    refine X.get C dX7_dreamDay_47 lay_X3 23 rfl rfl 0 (by decide) fl_X7_28 rfl rfl ?_
    refine X.callVv (q0 := 31) (As := [.ref ((q 4) 31)]) (rest := []) (W1 := fun rr_7 => (W_AP G (q 5) (q 4) rr_7 (T_6 4))) (ws2 := fun rr_7 => (W_T G q (upO T_6 5 rr_7))) C h dX7_dreamDay_50 ml_X7_395 mX0_dropAll (fun v hv => kX0_dropAll (q 5) (q 4) (T_6 5) (T_6 4) v hv) (fun rr_7 => ln_T_AP_da_dp_A (G := G) (q := q) (T := T_6) (NA := rr_7)) rfl rfl rfl rfl rfl rfl rfl rfl (fun rr_7 h => ?_)
    refine X.nameS (ws := fun T_8 => (W_T G q T_8)) h (fun T_8 h => ?_)
    cases h
    exact X.vret C dX7_dreamDay_53 (Nat.zero_le _) (Nat.zero_le _)
def rX7_gainOf : Room := { frames := 4, cells := 0, slots := 0, locals := 86 }
theorem mX7_gainOf : MV yX7_gainOf cX7_gainOf 2 (some .int) 1 := ⟨cd_X7_gainOf, in_X7, ⟨⟨by decide, by decide⟩, by decide +kernel⟩, im_X7_gainOf, se_X7_gainOf⟩
set_option maxHeartbeats 4000000 in
set_option maxRecDepth 100000 in
theorem kX7_gainOf {l : Launch} {G : GT} (q : Nat → Nat → Nat) (T : Nat → Ob) (lx1 : Int) (v : (Int)) (h : fX7_gainOf T lx1 = some v) : CT l G yX7_gainOf cX7_gainOf 2 (some .int) rX7_gainOf [.ref ((q 11) 31), vi lx1] (W_T G q T) (W_T G q T) (some (vi v)) := by
  unfold fX7_gainOf at h
  refine CT.of (by decide) (Nat.le_of_ble_eq_true rfl) rfl (fun κ _ C => ?_)
  refine X.iload_n C dX7_gainOf_0 rfl 1 rfl ?_
  rcases bq_out h with ⟨c0, h⟩ | ⟨c0, h⟩
  · refine X.tsIn (tgt := 36) c0 C dX7_gainOf_1 (by decide) (by decide) rfl (by decide) ?_
    refine X.aload_n C dX7_gainOf_36 rfl 0 rfl ?_
    refine X.get C dX7_gainOf_37 lay_X7 0 rfl rfl 3 (by decide) fl_X7_23 rfl rfl ?_
    refine X.get C dX7_gainOf_40 lay_X3 23 rfl rfl 1 (by decide) fl_X7_75 rfl rfl ?_
    refine X.get C dX7_gainOf_43 lay_X0 31 rfl rfl 2 (by decide) fl_X7_169 rfl rfl ?_
    refine X.aload_n C dX7_gainOf_46 rfl 0 rfl ?_
    refine X.get C dX7_gainOf_47 lay_X7 0 rfl rfl 2 (by decide) fl_X7_19 rfl rfl ?_
    refine X.get C dX7_gainOf_50 lay_X3 5 rfl rfl 1 (by decide) fl_X7_75 rfl rfl ?_
    refine X.get C dX7_gainOf_53 lay_X0 13 rfl rfl 2 (by decide) fl_X7_169 rfl rfl ?_
    refine X.isub C dX7_gainOf_56 ?_
    cases h
    exact X.iret C dX7_gainOf_57 (Nat.zero_le _) (Nat.zero_le _)
  rcases bq_out h with ⟨c1, h⟩ | ⟨c1, h⟩
  · refine X.tsIn (tgt := 58) c1 C dX7_gainOf_1 (by decide) (by decide) rfl (by decide) ?_
    refine X.aload_n C dX7_gainOf_58 rfl 0 rfl ?_
    refine X.get C dX7_gainOf_59 lay_X7 0 rfl rfl 3 (by decide) fl_X7_23 rfl rfl ?_
    refine X.get C dX7_gainOf_62 lay_X3 23 rfl rfl 1 (by decide) fl_X7_75 rfl rfl ?_
    refine X.get C dX7_gainOf_65 lay_X0 31 rfl rfl 5 (by decide) fl_X7_157 rfl rfl ?_
    refine X.aload_n C dX7_gainOf_68 rfl 0 rfl ?_
    refine X.get C dX7_gainOf_69 lay_X7 0 rfl rfl 2 (by decide) fl_X7_19 rfl rfl ?_
    refine X.get C dX7_gainOf_72 lay_X3 5 rfl rfl 1 (by decide) fl_X7_75 rfl rfl ?_
    refine X.get C dX7_gainOf_75 lay_X0 13 rfl rfl 5 (by decide) fl_X7_157 rfl rfl ?_
    refine X.isub C dX7_gainOf_78 ?_
    cases h
    exact X.iret C dX7_gainOf_79 (Nat.zero_le _) (Nat.zero_le _)
  rcases bq_out h with ⟨c2, h⟩ | ⟨c2, h⟩
  · refine X.tsIn (tgt := 80) c2 C dX7_gainOf_1 (by decide) (by decide) rfl (by decide) ?_
    refine X.aload_n C dX7_gainOf_80 rfl 0 rfl ?_
    refine X.get C dX7_gainOf_81 lay_X7 0 rfl rfl 3 (by decide) fl_X7_23 rfl rfl ?_
    refine X.get C dX7_gainOf_84 lay_X3 23 rfl rfl 1 (by decide) fl_X7_75 rfl rfl ?_
    refine X.get C dX7_gainOf_87 lay_X0 31 rfl rfl 6 (by decide) fl_X7_160 rfl rfl ?_
    refine X.aload_n C dX7_gainOf_90 rfl 0 rfl ?_
    refine X.get C dX7_gainOf_91 lay_X7 0 rfl rfl 2 (by decide) fl_X7_19 rfl rfl ?_
    refine X.get C dX7_gainOf_94 lay_X3 5 rfl rfl 1 (by decide) fl_X7_75 rfl rfl ?_
    refine X.get C dX7_gainOf_97 lay_X0 13 rfl rfl 6 (by decide) fl_X7_160 rfl rfl ?_
    refine X.isub C dX7_gainOf_100 ?_
    cases h
    exact X.iret C dX7_gainOf_101 (Nat.zero_le _) (Nat.zero_le _)
  rcases bq_out h with ⟨c3, h⟩ | ⟨c3, h⟩
  · refine X.tsIn (tgt := 102) c3 C dX7_gainOf_1 (by decide) (by decide) rfl (by decide) ?_
    refine X.aload_n C dX7_gainOf_102 rfl 0 rfl ?_
    refine X.get C dX7_gainOf_103 lay_X7 0 rfl rfl 3 (by decide) fl_X7_23 rfl rfl ?_
    refine X.callVi (q0 := 23) (As := []) (rest := []) (g := fun rr_1 => rr_1) (W1 := fun rr_1 => (W_S G (q 13) (q 4) (q 5) (T 4) (T 5))) (ws2 := fun rr_1 => (W_T G q T)) C h dX7_gainOf_106 ml_X7_144 mX3_tablesOver (fun v hv => kX3_tablesOver (q 13) (q 4) (q 5) (T 4) (T 5) v hv) (fun rr_1 => ln_T_S_ds_dp_da_n (G := G) (q := q) (T := T)) rfl rfl rfl rfl rfl rfl rfl rfl (fun rr_1 h => ?_)
    cases h
    exact X.iret C dX7_gainOf_109 (Nat.zero_le _) (Nat.zero_le _)
  rcases bq_out h with ⟨c4, h⟩ | ⟨c4, h⟩
  · refine X.tsIn (tgt := 110) c4 C dX7_gainOf_1 (by decide) (by decide) rfl (by decide) ?_
    refine X.aload_n C dX7_gainOf_110 rfl 0 rfl ?_
    refine X.get C dX7_gainOf_111 lay_X7 0 rfl rfl 3 (by decide) fl_X7_23 rfl rfl ?_
    refine X.callVi (q0 := 23) (As := []) (rest := []) (g := fun rr_2 => rr_2) (W1 := fun rr_2 => (W_S G (q 13) (q 4) (q 5) (T 4) (T 5))) (ws2 := fun rr_2 => (W_T G q T)) C h dX7_gainOf_114 ml_X7_398 mX3_allTablesWet (fun v hv => kX3_allTablesWet (q 13) (q 4) (q 5) (T 4) (T 5) v hv) (fun rr_2 => ln_T_S_ds_dp_da_n (G := G) (q := q) (T := T)) rfl rfl rfl rfl rfl rfl rfl rfl (fun rr_2 h => ?_)
    refine X.aload_n C dX7_gainOf_117 rfl 0 rfl ?_
    refine X.get C dX7_gainOf_118 lay_X7 0 rfl rfl 2 (by decide) fl_X7_19 rfl rfl ?_
    refine X.callVi (q0 := 5) (As := []) (rest := [vi rr_2]) (g := fun rr_3 => rr_3) (W1 := fun rr_3 => (W_S G (q 12) (q 2) (q 3) (T 2) (T 3))) (ws2 := fun rr_3 => (W_T G q T)) C h dX7_gainOf_121 ml_X7_398 mX3_allTablesWet (fun v hv => kX3_allTablesWet (q 12) (q 2) (q 3) (T 2) (T 3) v hv) (fun rr_3 => ln_T_S_ns_np_na_n (G := G) (q := q) (T := T)) rfl rfl rfl rfl rfl rfl rfl rfl (fun rr_3 h => ?_)
    refine X.isub C dX7_gainOf_124 ?_
    cases h
    exact X.iret C dX7_gainOf_125 (Nat.zero_le _) (Nat.zero_le _)
  refine X.tsOut5 (tgt := 126) c0 c1 c2 c3 c4 C dX7_gainOf_1 (by decide) ?_
  refine X.aload_n C dX7_gainOf_126 rfl 0 rfl ?_
  refine X.get C dX7_gainOf_127 lay_X7 0 rfl rfl 3 (by decide) fl_X7_23 rfl rfl ?_
  refine X.get C dX7_gainOf_130 lay_X3 23 rfl rfl 1 (by decide) fl_X7_75 rfl rfl ?_
  refine X.get C dX7_gainOf_133 lay_X0 31 rfl rfl 4 (by decide) fl_X7_154 rfl rfl ?_
  refine X.aload_n C dX7_gainOf_136 rfl 0 rfl ?_
  refine X.get C dX7_gainOf_137 lay_X7 0 rfl rfl 2 (by decide) fl_X7_19 rfl rfl ?_
  refine X.get C dX7_gainOf_140 lay_X3 5 rfl rfl 1 (by decide) fl_X7_75 rfl rfl ?_
  refine X.get C dX7_gainOf_143 lay_X0 13 rfl rfl 4 (by decide) fl_X7_154 rfl rfl ?_
  refine X.isub C dX7_gainOf_146 ?_
  cases h
  exact X.iret C dX7_gainOf_147 (Nat.zero_le _) (Nat.zero_le _)
def rX7_thought : Room := { frames := 5, cells := 0, slots := 0, locals := 123 }
theorem mX7_thought : MV yX7_thought cX7_thought 3 (some .int) 2 := ⟨cd_X7_thought, in_X7, ⟨⟨by decide, by decide⟩, by decide +kernel⟩, im_X7_thought, se_X7_thought⟩
set_option maxHeartbeats 4000000 in
set_option maxRecDepth 100000 in
theorem kX7_thought {l : Launch} {G : GT} (q : Nat → Nat → Nat) (T : Nat → Ob) (lx1 : Int) (lx2 : Int) (v : (Int × (Nat → Ob))) (h : fX7_thought T lx1 lx2 = some v) : CT l G yX7_thought cX7_thought 3 (some .int) rX7_thought [.ref ((q 11) 31), vi lx1, vi lx2] (W_T G q T) (W_T G q v.2) (some (vi v.1)) := by
  unfold fX7_thought at h
  refine CT.of (by decide) (Nat.le_of_ble_eq_true rfl) rfl (fun κ _ C => ?_)
  refine X.aload_n C dX7_thought_0 rfl 0 rfl ?_
  refine X.iload_n C dX7_thought_1 rfl 1 rfl ?_
  refine X.iload_n C dX7_thought_2 rfl 2 rfl ?_
  refine X.callVi (q0 := 0) (As := [vi lx1, vi lx2]) (rest := []) (g := fun rr_1 => rr_1) (W1 := fun rr_1 => (W_T G q T)) (ws2 := fun rr_1 => (W_T G q T)) C h dX7_thought_3 ml_X7_295 mX7_isThought (fun v hv => kX7_isThought q T lx1 lx2 v hv) (fun rr_1 => ln_T_T_id_n (G := G) (q := q) (T := T)) rfl rfl rfl rfl rfl rfl rfl rfl (fun rr_1 h => ?_)
  refine X.if_ne (tgt := 13) C h dX7_thought_6 (by decide) (fun h => ?_) (fun h => ?_)
  · refine X.aload_n C dX7_thought_13 rfl 0 rfl ?_
    refine X.callVv (q0 := 0) (As := []) (rest := []) (W1 := fun rr_2 => (W_T G q rr_2)) (ws2 := fun rr_2 => (W_T G q rr_2)) C h dX7_thought_14 ml_X7_299 mX7_beginDream (fun v hv => kX7_beginDream q T v hv) (fun rr_2 => ln_T_T_id_T (G := G) (q := q) (T := T) (NT := rr_2)) rfl rfl rfl rfl rfl rfl rfl rfl (fun rr_2 h => ?_)
    refine X.aload_n C dX7_thought_17 rfl 0 rfl ?_
    refine X.iload_n C dX7_thought_18 rfl 1 rfl ?_
    refine X.callVv (q0 := 0) (As := [vi lx1]) (rest := []) (W1 := fun rr_3 => (W_T G q rr_3)) (ws2 := fun rr_3 => (W_T G q rr_3)) C h dX7_thought_19 ml_X7_302 mX7_dreamDay (fun v hv => kX7_dreamDay q rr_2 lx1 v hv) (fun rr_3 => ln_T_T_id_T (G := G) (q := q) (T := rr_2) (NT := rr_3)) rfl rfl rfl rfl rfl rfl rfl rfl (fun rr_3 h => ?_)
    refine X.aload_n C dX7_thought_22 rfl 0 rfl ?_
    refine X.iload_n C dX7_thought_23 rfl 2 rfl ?_
    refine X.callVi (q0 := 0) (As := [vi lx2]) (rest := []) (g := fun rr_4 => rr_4) (W1 := fun rr_4 => (W_T G q rr_3)) (ws2 := fun rr_4 => (W_T G q rr_3)) C h dX7_thought_24 ml_X7_305 mX7_gainOf (fun v hv => kX7_gainOf q rr_3 lx2 v hv) (fun rr_4 => ln_T_T_id_n (G := G) (q := q) (T := rr_3)) rfl rfl rfl rfl rfl rfl rfl rfl (fun rr_4 h => ?_)
    cases h
    exact X.iret C dX7_thought_27 (Nat.zero_le _) (Nat.zero_le _)
  refine X.ldc_w (z := (-1000000)) C ct_X7_298 (by decide) dX7_thought_9 ?_
  cases h
  exact X.iret C dX7_thought_12 (Nat.zero_le _) (Nat.zero_le _)
def rX7_lagged : Room := { frames := 5, cells := 0, slots := 0, locals := 123 }
theorem mX7_lagged : MV yX7_lagged cX7_lagged 4 (some .int) 3 := ⟨cd_X7_lagged, in_X7, ⟨⟨by decide, by decide⟩, by decide +kernel⟩, im_X7_lagged, se_X7_lagged⟩
set_option maxHeartbeats 4000000 in
set_option maxRecDepth 100000 in
theorem kX7_lagged {l : Launch} {G : GT} (q : Nat → Nat → Nat) (T : Nat → Ob) (lx1 : Int) (lx2 : Int) (lx3 : Int) (v : (Int × (Nat → Ob))) (h : fX7_lagged T lx1 lx2 lx3 = some v) : CT l G yX7_lagged cX7_lagged 4 (some .int) rX7_lagged [.ref ((q 11) 31), vi lx1, vi lx2, vi lx3] (W_T G q T) (W_T G q v.2) (some (vi v.1)) := by
  unfold fX7_lagged at h
  refine CT.of (by decide) (Nat.le_of_ble_eq_true rfl) rfl (fun κ _ C => ?_)
  refine X.aload_n C dX7_lagged_0 rfl 0 rfl ?_
  refine X.iload_n C dX7_lagged_1 rfl 1 rfl ?_
  refine X.iload_n C dX7_lagged_2 rfl 3 rfl ?_
  refine X.callVi (q0 := 0) (As := [vi lx1, vi lx3]) (rest := []) (g := fun rr_1 => rr_1) (W1 := fun rr_1 => (W_T G q T)) (ws2 := fun rr_1 => (W_T G q T)) C h dX7_lagged_3 ml_X7_295 mX7_isThought (fun v hv => kX7_isThought q T lx1 lx3 v hv) (fun rr_1 => ln_T_T_id_n (G := G) (q := q) (T := T)) rfl rfl rfl rfl rfl rfl rfl rfl (fun rr_1 h => ?_)
  refine X.if_eq (tgt := 19) C h dX7_lagged_6 (by decide) (fun h => ?_) (fun h => ?_)
  · refine X.ldc_w (z := (-1000000)) C ct_X7_298 (by decide) dX7_lagged_19 ?_
    cases h
    exact X.iret C dX7_lagged_22 (Nat.zero_le _) (Nat.zero_le _)
  refine X.iload_n C dX7_lagged_9 rfl 2 rfl ?_
  refine X.iconst C dX7_lagged_10 ?_
  refine X.bipush C dX7_lagged_11 (by decide) ?_
  refine X.callSi (As := [vi lx2, vi 0, vi 20]) (rest := []) (g := fun rr_2 => rr_2) (W1 := fun rr_2 => W_0) (ws2 := fun rr_2 => (W_T G q T)) C h dX7_lagged_13 ml_X7_93 mX7_isWithin (fun v hv => kX7_isWithin lx2 0 20 v hv) (fun rr_2 => ln_T_0__n (G := G) (q := q) (T := T)) rfl rfl rfl rfl rfl rfl (fun rr_2 h => ?_)
  refine X.if_ne (tgt := 23) C h dX7_lagged_16 (by decide) (fun h => ?_) (fun h => ?_)
  · refine X.aload_n C dX7_lagged_23 rfl 0 rfl ?_
    refine X.callVv (q0 := 0) (As := []) (rest := []) (W1 := fun rr_3 => (W_T G q rr_3)) (ws2 := fun rr_3 => (W_T G q rr_3)) C h dX7_lagged_24 ml_X7_299 mX7_beginDream (fun v hv => kX7_beginDream q T v hv) (fun rr_3 => ln_T_T_id_T (G := G) (q := q) (T := T) (NT := rr_3)) rfl rfl rfl rfl rfl rfl rfl rfl (fun rr_3 h => ?_)
    refine X.aload_n C dX7_lagged_27 rfl 0 rfl ?_
    refine X.get C dX7_lagged_28 lay_X7 0 rfl rfl 3 (by decide) fl_X7_23 rfl rfl ?_
    refine X.get C dX7_lagged_31 lay_X3 23 rfl rfl 0 (by decide) fl_X7_28 rfl rfl ?_
    refine X.iload_n C dX7_lagged_34 rfl 2 rfl ?_
    refine X.put (ws2 := (W_T G q (upO rr_3 4 (up2 (rr_3 4) 8 0 lx2)))) (ty := .int) C dX7_lagged_35 lay_X1 tyX1_ok nmX1 24 rfl rfl 8 (by decide) fl_X7_212 rfl rfl (by decide +kernel) rfl rfl (Nat.le_of_ble_eq_true rfl) rfl ?_
    refine X.nameS (ws := fun T_4 => (W_T G q T_4)) h (fun T_4 h => ?_)
    refine X.aload_n C dX7_lagged_38 rfl 0 rfl ?_
    refine X.iload_n C dX7_lagged_39 rfl 1 rfl ?_
    refine X.callVv (q0 := 0) (As := [vi lx1]) (rest := []) (W1 := fun rr_5 => (W_T G q rr_5)) (ws2 := fun rr_5 => (W_T G q rr_5)) C h dX7_lagged_40 ml_X7_302 mX7_dreamDay (fun v hv => kX7_dreamDay q T_4 lx1 v hv) (fun rr_5 => ln_T_T_id_T (G := G) (q := q) (T := T_4) (NT := rr_5)) rfl rfl rfl rfl rfl rfl rfl rfl (fun rr_5 h => ?_)
    refine X.aload_n C dX7_lagged_43 rfl 0 rfl ?_
    refine X.iload_n C dX7_lagged_44 rfl 3 rfl ?_
    refine X.callVi (q0 := 0) (As := [vi lx3]) (rest := []) (g := fun rr_6 => rr_6) (W1 := fun rr_6 => (W_T G q rr_5)) (ws2 := fun rr_6 => (W_T G q rr_5)) C h dX7_lagged_45 ml_X7_305 mX7_gainOf (fun v hv => kX7_gainOf q rr_5 lx3 v hv) (fun rr_6 => ln_T_T_id_n (G := G) (q := q) (T := rr_5)) rfl rfl rfl rfl rfl rfl rfl rfl (fun rr_6 h => ?_)
    cases h
    exact X.iret C dX7_lagged_48 (Nat.zero_le _) (Nat.zero_le _)
  refine X.ldc_w (z := (-1000000)) C ct_X7_298 (by decide) dX7_lagged_19 ?_
  cases h
  exact X.iret C dX7_lagged_22 (Nat.zero_le _) (Nat.zero_le _)
def rX7_two : Room := { frames := 5, cells := 0, slots := 0, locals := 123 }
theorem mX7_two : MV yX7_two cX7_two 4 (some .int) 3 := ⟨cd_X7_two, in_X7, ⟨⟨by decide, by decide⟩, by decide +kernel⟩, im_X7_two, se_X7_two⟩
set_option maxHeartbeats 4000000 in
set_option maxRecDepth 100000 in
theorem kX7_two {l : Launch} {G : GT} (q : Nat → Nat → Nat) (T : Nat → Ob) (lx1 : Int) (lx2 : Int) (lx3 : Int) (v : (Int × (Nat → Ob))) (h : fX7_two T lx1 lx2 lx3 = some v) : CT l G yX7_two cX7_two 4 (some .int) rX7_two [.ref ((q 11) 31), vi lx1, vi lx2, vi lx3] (W_T G q T) (W_T G q v.2) (some (vi v.1)) := by
  unfold fX7_two at h
  refine CT.of (by decide) (Nat.le_of_ble_eq_true rfl) rfl (fun κ _ C => ?_)
  refine X.aload_n C dX7_two_0 rfl 0 rfl ?_
  refine X.iload_n C dX7_two_1 rfl 1 rfl ?_
  refine X.iload_n C dX7_two_2 rfl 3 rfl ?_
  refine X.callVi (q0 := 0) (As := [vi lx1, vi lx3]) (rest := []) (g := fun rr_1 => rr_1) (W1 := fun rr_1 => (W_T G q T)) (ws2 := fun rr_1 => (W_T G q T)) C h dX7_two_3 ml_X7_295 mX7_isThought (fun v hv => kX7_isThought q T lx1 lx3 v hv) (fun rr_1 => ln_T_T_id_n (G := G) (q := q) (T := T)) rfl rfl rfl rfl rfl rfl rfl rfl (fun rr_1 h => ?_)
  refine X.if_eq (tgt := 19) C h dX7_two_6 (by decide) (fun h => ?_) (fun h => ?_)
  · refine X.ldc_w (z := (-1000000)) C ct_X7_298 (by decide) dX7_two_19 ?_
    cases h
    exact X.iret C dX7_two_22 (Nat.zero_le _) (Nat.zero_le _)
  refine X.iload_n C dX7_two_9 rfl 2 rfl ?_
  refine X.iconst C dX7_two_10 ?_
  refine X.bipush C dX7_two_11 (by decide) ?_
  refine X.callSi (As := [vi lx2, vi 0, vi 20]) (rest := []) (g := fun rr_2 => rr_2) (W1 := fun rr_2 => W_0) (ws2 := fun rr_2 => (W_T G q T)) C h dX7_two_13 ml_X7_93 mX7_isWithin (fun v hv => kX7_isWithin lx2 0 20 v hv) (fun rr_2 => ln_T_0__n (G := G) (q := q) (T := T)) rfl rfl rfl rfl rfl rfl (fun rr_2 h => ?_)
  refine X.if_ne (tgt := 23) C h dX7_two_16 (by decide) (fun h => ?_) (fun h => ?_)
  · refine X.aload_n C dX7_two_23 rfl 0 rfl ?_
    refine X.callVv (q0 := 0) (As := []) (rest := []) (W1 := fun rr_3 => (W_T G q rr_3)) (ws2 := fun rr_3 => (W_T G q rr_3)) C h dX7_two_24 ml_X7_299 mX7_beginDream (fun v hv => kX7_beginDream q T v hv) (fun rr_3 => ln_T_T_id_T (G := G) (q := q) (T := T) (NT := rr_3)) rfl rfl rfl rfl rfl rfl rfl rfl (fun rr_3 h => ?_)
    refine X.aload_n C dX7_two_27 rfl 0 rfl ?_
    refine X.get C dX7_two_28 lay_X7 0 rfl rfl 3 (by decide) fl_X7_23 rfl rfl ?_
    refine X.get C dX7_two_31 lay_X3 23 rfl rfl 0 (by decide) fl_X7_28 rfl rfl ?_
    refine X.iload_n C dX7_two_34 rfl 2 rfl ?_
    refine X.put (ws2 := (W_T G q (upO rr_3 4 (up2 (rr_3 4) 9 0 lx2)))) (ty := .int) C dX7_two_35 lay_X1 tyX1_ok nmX1 24 rfl rfl 9 (by decide) fl_X7_308 rfl rfl (by decide +kernel) rfl rfl (Nat.le_of_ble_eq_true rfl) rfl ?_
    refine X.nameS (ws := fun T_4 => (W_T G q T_4)) h (fun T_4 h => ?_)
    refine X.aload_n C dX7_two_38 rfl 0 rfl ?_
    refine X.iload_n C dX7_two_39 rfl 1 rfl ?_
    refine X.callVv (q0 := 0) (As := [vi lx1]) (rest := []) (W1 := fun rr_5 => (W_T G q rr_5)) (ws2 := fun rr_5 => (W_T G q rr_5)) C h dX7_two_40 ml_X7_302 mX7_dreamDay (fun v hv => kX7_dreamDay q T_4 lx1 v hv) (fun rr_5 => ln_T_T_id_T (G := G) (q := q) (T := T_4) (NT := rr_5)) rfl rfl rfl rfl rfl rfl rfl rfl (fun rr_5 h => ?_)
    refine X.aload_n C dX7_two_43 rfl 0 rfl ?_
    refine X.iload_n C dX7_two_44 rfl 3 rfl ?_
    refine X.callVi (q0 := 0) (As := [vi lx3]) (rest := []) (g := fun rr_6 => rr_6) (W1 := fun rr_6 => (W_T G q rr_5)) (ws2 := fun rr_6 => (W_T G q rr_5)) C h dX7_two_45 ml_X7_305 mX7_gainOf (fun v hv => kX7_gainOf q rr_5 lx3 v hv) (fun rr_6 => ln_T_T_id_n (G := G) (q := q) (T := rr_5)) rfl rfl rfl rfl rfl rfl rfl rfl (fun rr_6 h => ?_)
    cases h
    exact X.iret C dX7_two_48 (Nat.zero_le _) (Nat.zero_le _)
  refine X.ldc_w (z := (-1000000)) C ct_X7_298 (by decide) dX7_two_19 ?_
  cases h
  exact X.iret C dX7_two_22 (Nat.zero_le _) (Nat.zero_le _)
def rX7_climbs : Room := { frames := 5, cells := 0, slots := 0, locals := 123 }
theorem mX7_climbs : MV yX7_climbs cX7_climbs 4 (some .int) 3 := ⟨cd_X7_climbs, in_X7, ⟨⟨by decide, by decide⟩, by decide +kernel⟩, im_X7_climbs, se_X7_climbs⟩
set_option maxHeartbeats 4000000 in
set_option maxRecDepth 100000 in
theorem kX7_climbs {l : Launch} {G : GT} (q : Nat → Nat → Nat) (T : Nat → Ob) (lx1 : Int) (lx2 : Int) (lx3 : Int) (v : (Int × (Nat → Ob))) (h : fX7_climbs T lx1 lx2 lx3 = some v) : CT l G yX7_climbs cX7_climbs 4 (some .int) rX7_climbs [.ref ((q 11) 31), vi lx1, vi lx2, vi lx3] (W_T G q T) (W_T G q v.2) (some (vi v.1)) := by
  unfold fX7_climbs at h
  refine CT.of (by decide) (Nat.le_of_ble_eq_true rfl) rfl (fun κ _ C => ?_)
  refine X.aload_n C dX7_climbs_0 rfl 0 rfl ?_
  refine X.iload_n C dX7_climbs_1 rfl 1 rfl ?_
  refine X.iload_n C dX7_climbs_2 rfl 3 rfl ?_
  refine X.callVi (q0 := 0) (As := [vi lx1, vi lx3]) (rest := []) (g := fun rr_1 => rr_1) (W1 := fun rr_1 => (W_T G q T)) (ws2 := fun rr_1 => (W_T G q T)) C h dX7_climbs_3 ml_X7_295 mX7_isThought (fun v hv => kX7_isThought q T lx1 lx3 v hv) (fun rr_1 => ln_T_T_id_n (G := G) (q := q) (T := T)) rfl rfl rfl rfl rfl rfl rfl rfl (fun rr_1 h => ?_)
  refine X.if_eq (tgt := 19) C h dX7_climbs_6 (by decide) (fun h => ?_) (fun h => ?_)
  · refine X.ldc_w (z := (-1000000)) C ct_X7_298 (by decide) dX7_climbs_19 ?_
    cases h
    exact X.iret C dX7_climbs_22 (Nat.zero_le _) (Nat.zero_le _)
  refine X.iload_n C dX7_climbs_9 rfl 2 rfl ?_
  refine X.iconst C dX7_climbs_10 ?_
  refine X.bipush C dX7_climbs_11 (by decide) ?_
  refine X.callSi (As := [vi lx2, vi 1, vi 60]) (rest := []) (g := fun rr_2 => rr_2) (W1 := fun rr_2 => W_0) (ws2 := fun rr_2 => (W_T G q T)) C h dX7_climbs_13 ml_X7_93 mX7_isWithin (fun v hv => kX7_isWithin lx2 1 60 v hv) (fun rr_2 => ln_T_0__n (G := G) (q := q) (T := T)) rfl rfl rfl rfl rfl rfl (fun rr_2 h => ?_)
  refine X.if_ne (tgt := 23) C h dX7_climbs_16 (by decide) (fun h => ?_) (fun h => ?_)
  · refine X.aload_n C dX7_climbs_23 rfl 0 rfl ?_
    refine X.callVv (q0 := 0) (As := []) (rest := []) (W1 := fun rr_3 => (W_T G q rr_3)) (ws2 := fun rr_3 => (W_T G q rr_3)) C h dX7_climbs_24 ml_X7_299 mX7_beginDream (fun v hv => kX7_beginDream q T v hv) (fun rr_3 => ln_T_T_id_T (G := G) (q := q) (T := T) (NT := rr_3)) rfl rfl rfl rfl rfl rfl rfl rfl (fun rr_3 h => ?_)
    refine X.aload_n C dX7_climbs_27 rfl 0 rfl ?_
    refine X.get C dX7_climbs_28 lay_X7 0 rfl rfl 3 (by decide) fl_X7_23 rfl rfl ?_
    refine X.get C dX7_climbs_31 lay_X3 23 rfl rfl 0 (by decide) fl_X7_28 rfl rfl ?_
    refine X.iload_n C dX7_climbs_34 rfl 2 rfl ?_
    refine X.put (ws2 := (W_T G q (upO rr_3 4 (up2 (rr_3 4) 10 0 lx2)))) (ty := .int) C dX7_climbs_35 lay_X1 tyX1_ok nmX1 24 rfl rfl 10 (by decide) fl_X7_215 rfl rfl (by decide +kernel) rfl rfl (Nat.le_of_ble_eq_true rfl) rfl ?_
    refine X.nameS (ws := fun T_4 => (W_T G q T_4)) h (fun T_4 h => ?_)
    refine X.aload_n C dX7_climbs_38 rfl 0 rfl ?_
    refine X.iload_n C dX7_climbs_39 rfl 1 rfl ?_
    refine X.callVv (q0 := 0) (As := [vi lx1]) (rest := []) (W1 := fun rr_5 => (W_T G q rr_5)) (ws2 := fun rr_5 => (W_T G q rr_5)) C h dX7_climbs_40 ml_X7_302 mX7_dreamDay (fun v hv => kX7_dreamDay q T_4 lx1 v hv) (fun rr_5 => ln_T_T_id_T (G := G) (q := q) (T := T_4) (NT := rr_5)) rfl rfl rfl rfl rfl rfl rfl rfl (fun rr_5 h => ?_)
    refine X.aload_n C dX7_climbs_43 rfl 0 rfl ?_
    refine X.iload_n C dX7_climbs_44 rfl 3 rfl ?_
    refine X.callVi (q0 := 0) (As := [vi lx3]) (rest := []) (g := fun rr_6 => rr_6) (W1 := fun rr_6 => (W_T G q rr_5)) (ws2 := fun rr_6 => (W_T G q rr_5)) C h dX7_climbs_45 ml_X7_305 mX7_gainOf (fun v hv => kX7_gainOf q rr_5 lx3 v hv) (fun rr_6 => ln_T_T_id_n (G := G) (q := q) (T := rr_5)) rfl rfl rfl rfl rfl rfl rfl rfl (fun rr_6 h => ?_)
    cases h
    exact X.iret C dX7_climbs_48 (Nat.zero_le _) (Nat.zero_le _)
  refine X.ldc_w (z := (-1000000)) C ct_X7_298 (by decide) dX7_climbs_19 ?_
  cases h
  exact X.iret C dX7_climbs_22 (Nat.zero_le _) (Nat.zero_le _)
def rX7_week : Room := { frames := 5, cells := 0, slots := 0, locals := 123 }
theorem mX7_week : MV yX7_week cX7_week 5 (some .int) 3 := ⟨cd_X7_week, in_X7, ⟨⟨by decide, by decide⟩, by decide +kernel⟩, im_X7_week, se_X7_week⟩
set_option maxHeartbeats 4000000 in
set_option maxRecDepth 100000 in
theorem xX7_week_30 {κ : Kx} {G : GT} (C : Cx κ G yX7_week cX7_week (some .int) 5 rX7_week) (q : Nat → Nat → Nat) (lx1 : Int) (lx2 : Int) (lx3 : Int) (kx0 : (Nat → Ob) → Option (Int × (Nat → Ob))) (v : (Int × (Nat → Ob))) (hk0 : ∀ (T : Nat → Ob), kx0 T = some v → X κ G 5 (W_T G q T) 56 [(0, .ref ((q 11) 31)), (1, vi lx1), (3, vi lx3)] [] 0 0 (QM κ G (W_T G q v.2) (some (vi v.1)) rX7_week.cells rX7_week.slots)) : ∀ (n : Nat) (lx4 : Int) (T : Nat → Ob), lX7_week_30 lx1 lx2 lx3 kx0 n lx4 T = some v → X κ G 5 (W_T G q T) 30 [(0, .ref ((q 11) 31)), (1, vi lx1), (2, vi lx2), (3, vi lx3), (4, vi lx4)] [] 0 0 (QM κ G (W_T G q v.2) (some (vi v.1)) rX7_week.cells rX7_week.slots) := by
  intro n
  induction n with
  | zero => intro _ _ h; exact absurd h (fun h => nomatch h)
  | succ n ih =>
    intro lx4 T h
    rw [lX7_week_30] at h
    refine X.iload C dX7_week_30 4 rfl ?_
    refine X.iload_n C dX7_week_32 rfl 2 rfl ?_
    refine X.icmp_ge (tgt := 56) C h dX7_week_33 (by decide) (fun h => ?_) (fun h => ?_)
    · refine X.sub [0, 1, 3] rfl ?_
      exact hk0 T h
    refine X.aload_n C dX7_week_36 rfl 0 rfl ?_
    refine X.get C dX7_week_37 lay_X7 0 rfl rfl 3 (by decide) fl_X7_23 rfl rfl ?_
    refine X.aload_n C dX7_week_40 rfl 0 rfl ?_
    refine X.get C dX7_week_41 lay_X7 0 rfl rfl 5 (by decide) fl_X7_45 rfl rfl ?_
    refine X.iload_n C dX7_week_44 rfl 1 rfl ?_
    refine X.aldR C h dX7_week_45 1 rfl (fun h hj_4 => ?_)
    refine X.callVi (q0 := 23) (As := [.ref ((q (6 + (ix lx1))) 31)]) (rest := []) (g := fun rr_5 => rr_5.1) (W1 := fun rr_5 => (W_SR G (q 13) (q 4) (q 5) (q (6 + (ix lx1))) (T 4) rr_5.2 (T (6 + (ix lx1))))) (ws2 := fun rr_5 => (W_T G q (upO T 5 rr_5.2))) C h dX7_week_46 ml_X7_108 mX3_playRow (fun v hv => kX3_playRow (q 13) (q 4) (q 5) (q (6 + (ix lx1))) (T 4) (T 5) (T (6 + (ix lx1))) v hv) (fun rr_5 => ln_T_SR_ds_dp_da_row_A (G := G) (q := q) (T := T) (NA := rr_5.2) hj_4) rfl rfl rfl rfl rfl rfl rfl rfl (fun rr_5 h => ?_)
    refine X.nameS (ws := fun T_6 => (W_T G q T_6)) h (fun T_6 h => ?_)
    refine X.pop C dX7_week_49 rfl ?_
    refine X.iincN (lv2 := fun lx4_7 => [(4, vi lx4_7), (0, .ref ((q 11) 31)), (1, vi lx1), (2, vi lx2), (3, vi lx3)]) C h dX7_week_50 4 rfl (by decide) (fun _ => rfl) (fun lx4_7 h => ?_)
    refine X.goto (tgt := 30) C dX7_week_53 (by decide) ?_
    refine X.sub [1, 2, 3, 4, 0] rfl ?_
    exact ih lx4_7 T_6 h
set_option maxHeartbeats 4000000 in
set_option maxRecDepth 100000 in
theorem kX7_week {l : Launch} {G : GT} (q : Nat → Nat → Nat) (T : Nat → Ob) (lx1 : Int) (lx2 : Int) (lx3 : Int) (v : (Int × (Nat → Ob))) (h : fX7_week T lx1 lx2 lx3 = some v) : CT l G yX7_week cX7_week 5 (some .int) rX7_week [.ref ((q 11) 31), vi lx1, vi lx2, vi lx3] (W_T G q T) (W_T G q v.2) (some (vi v.1)) := by
  unfold fX7_week at h
  refine CT.of (by decide) (Nat.le_of_ble_eq_true rfl) rfl (fun κ _ C => ?_)
  refine X.aload_n C dX7_week_0 rfl 0 rfl ?_
  refine X.iload_n C dX7_week_1 rfl 1 rfl ?_
  refine X.iload_n C dX7_week_2 rfl 3 rfl ?_
  refine X.callVi (q0 := 0) (As := [vi lx1, vi lx3]) (rest := []) (g := fun rr_1 => rr_1) (W1 := fun rr_1 => (W_T G q T)) (ws2 := fun rr_1 => (W_T G q T)) C h dX7_week_3 ml_X7_295 mX7_isThought (fun v hv => kX7_isThought q T lx1 lx3 v hv) (fun rr_1 => ln_T_T_id_n (G := G) (q := q) (T := T)) rfl rfl rfl rfl rfl rfl rfl rfl (fun rr_1 h => ?_)
  refine X.if_eq (tgt := 19) C h dX7_week_6 (by decide) (fun h => ?_) (fun h => ?_)
  · refine X.ldc_w (z := (-1000000)) C ct_X7_298 (by decide) dX7_week_19 ?_
    cases h
    exact X.iret C dX7_week_22 (Nat.zero_le _) (Nat.zero_le _)
  refine X.iload_n C dX7_week_9 rfl 2 rfl ?_
  refine X.iconst C dX7_week_10 ?_
  refine X.bipush C dX7_week_11 (by decide) ?_
  refine X.callSi (As := [vi lx2, vi 1, vi 10]) (rest := []) (g := fun rr_2 => rr_2) (W1 := fun rr_2 => W_0) (ws2 := fun rr_2 => (W_T G q T)) C h dX7_week_13 ml_X7_93 mX7_isWithin (fun v hv => kX7_isWithin lx2 1 10 v hv) (fun rr_2 => ln_T_0__n (G := G) (q := q) (T := T)) rfl rfl rfl rfl rfl rfl (fun rr_2 h => ?_)
  refine X.if_ne (tgt := 23) C h dX7_week_16 (by decide) (fun h => ?_) (fun h => ?_)
  · refine X.aload_n C dX7_week_23 rfl 0 rfl ?_
    refine X.callVv (q0 := 0) (As := []) (rest := []) (W1 := fun rr_3 => (W_T G q rr_3)) (ws2 := fun rr_3 => (W_T G q rr_3)) C h dX7_week_24 ml_X7_299 mX7_beginDream (fun v hv => kX7_beginDream q T v hv) (fun rr_3 => ln_T_T_id_T (G := G) (q := q) (T := T) (NT := rr_3)) rfl rfl rfl rfl rfl rfl rfl rfl (fun rr_3 h => ?_)
    refine X.iconst C dX7_week_27 ?_
    refine X.istore (lv2 := [(4, vi 1), (0, .ref ((q 11) 31)), (1, vi lx1), (2, vi lx2), (3, vi lx3)]) C dX7_week_28 (by decide) rfl ?_
    refine X.sub [1, 2, 3, 4, 0] rfl ?_
    refine xX7_week_30 C q lx1 lx2 lx3 _ v (fun T_8 h => ?_) FU 1 rr_3 h
    · refine X.aload_n C dX7_week_56 rfl 0 rfl ?_
      refine X.iload_n C dX7_week_57 rfl 1 rfl ?_
      refine X.callVv (q0 := 0) (As := [vi lx1]) (rest := []) (W1 := fun rr_9 => (W_T G q rr_9)) (ws2 := fun rr_9 => (W_T G q rr_9)) C h dX7_week_58 ml_X7_302 mX7_dreamDay (fun v hv => kX7_dreamDay q T_8 lx1 v hv) (fun rr_9 => ln_T_T_id_T (G := G) (q := q) (T := T_8) (NT := rr_9)) rfl rfl rfl rfl rfl rfl rfl rfl (fun rr_9 h => ?_)
      refine X.aload_n C dX7_week_61 rfl 0 rfl ?_
      refine X.iload_n C dX7_week_62 rfl 2 rfl ?_
      refine X.callVi (q0 := 0) (As := [vi lx3]) (rest := []) (g := fun rr_10 => rr_10) (W1 := fun rr_10 => (W_T G q rr_9)) (ws2 := fun rr_10 => (W_T G q rr_9)) C h dX7_week_63 ml_X7_305 mX7_gainOf (fun v hv => kX7_gainOf q rr_9 lx3 v hv) (fun rr_10 => ln_T_T_id_n (G := G) (q := q) (T := rr_9)) rfl rfl rfl rfl rfl rfl rfl rfl (fun rr_10 h => ?_)
      cases h
      exact X.iret C dX7_week_66 (Nat.zero_le _) (Nat.zero_le _)
  refine X.ldc_w (z := (-1000000)) C ct_X7_298 (by decide) dX7_week_19 ?_
  cases h
  exact X.iret C dX7_week_22 (Nat.zero_le _) (Nat.zero_le _)
def rX7_valueByLag : Room := { frames := 5, cells := 0, slots := 0, locals := 123 }
theorem mX7_valueByLag : MV yX7_valueByLag cX7_valueByLag 3 (some .int) 2 := ⟨cd_X7_valueByLag, in_X7, ⟨⟨by decide, by decide⟩, by decide +kernel⟩, im_X7_valueByLag, se_X7_valueByLag⟩
set_option maxHeartbeats 4000000 in
set_option maxRecDepth 100000 in
theorem kX7_valueByLag {l : Launch} {G : GT} (q : Nat → Nat → Nat) (T : Nat → Ob) (lx1 : Int) (lx2 : Int) (v : (Int × (Nat → Ob))) (h : fX7_valueByLag T lx1 lx2 = some v) : CT l G yX7_valueByLag cX7_valueByLag 3 (some .int) rX7_valueByLag [.ref ((q 11) 31), vi lx1, vi lx2] (W_T G q T) (W_T G q v.2) (some (vi v.1)) := by
  unfold fX7_valueByLag at h
  refine CT.of (by decide) (Nat.le_of_ble_eq_true rfl) rfl (fun κ _ C => ?_)
  refine X.aload_n C dX7_valueByLag_0 rfl 0 rfl ?_
  refine X.callVv (q0 := 0) (As := []) (rest := []) (W1 := fun rr_1 => (W_T G q rr_1)) (ws2 := fun rr_1 => (W_T G q rr_1)) C h dX7_valueByLag_1 ml_X7_299 mX7_beginDream (fun v hv => kX7_beginDream q T v hv) (fun rr_1 => ln_T_T_id_T (G := G) (q := q) (T := T) (NT := rr_1)) rfl rfl rfl rfl rfl rfl rfl rfl (fun rr_1 h => ?_)
  refine X.aload_n C dX7_valueByLag_4 rfl 0 rfl ?_
  refine X.get C dX7_valueByLag_5 lay_X7 0 rfl rfl 3 (by decide) fl_X7_23 rfl rfl ?_
  refine X.get C dX7_valueByLag_8 lay_X3 23 rfl rfl 0 (by decide) fl_X7_28 rfl rfl ?_
  refine X.iload_n C dX7_valueByLag_11 rfl 2 rfl ?_
  refine X.put (ws2 := (W_T G q (upO rr_1 4 (up2 (rr_1 4) 8 0 lx2)))) (ty := .int) C dX7_valueByLag_12 lay_X1 tyX1_ok nmX1 24 rfl rfl 8 (by decide) fl_X7_212 rfl rfl (by decide +kernel) rfl rfl (Nat.le_of_ble_eq_true rfl) rfl ?_
  refine X.nameS (ws := fun T_2 => (W_T G q T_2)) h (fun T_2 h => ?_)
  refine X.aload_n C dX7_valueByLag_15 rfl 0 rfl ?_
  refine X.iload_n C dX7_valueByLag_16 rfl 1 rfl ?_
  refine X.callVv (q0 := 0) (As := [vi lx1]) (rest := []) (W1 := fun rr_3 => (W_T G q rr_3)) (ws2 := fun rr_3 => (W_T G q rr_3)) C h dX7_valueByLag_17 ml_X7_302 mX7_dreamDay (fun v hv => kX7_dreamDay q T_2 lx1 v hv) (fun rr_3 => ln_T_T_id_T (G := G) (q := q) (T := T_2) (NT := rr_3)) rfl rfl rfl rfl rfl rfl rfl rfl (fun rr_3 h => ?_)
  refine X.aload_n C dX7_valueByLag_20 rfl 0 rfl ?_
  refine X.iconst C dX7_valueByLag_21 ?_
  refine X.callVi (q0 := 0) (As := [vi 0]) (rest := []) (g := fun rr_4 => rr_4) (W1 := fun rr_4 => (W_T G q rr_3)) (ws2 := fun rr_4 => (W_T G q rr_3)) C h dX7_valueByLag_22 ml_X7_305 mX7_gainOf (fun v hv => kX7_gainOf q rr_3 0 v hv) (fun rr_4 => ln_T_T_id_n (G := G) (q := q) (T := rr_3)) rfl rfl rfl rfl rfl rfl rfl rfl (fun rr_4 h => ?_)
  refine X.aload_n C dX7_valueByLag_25 rfl 0 rfl ?_
  refine X.iconst C dX7_valueByLag_26 ?_
  refine X.callVi (q0 := 0) (As := [vi 4]) (rest := [vi rr_4]) (g := fun rr_5 => rr_5) (W1 := fun rr_5 => (W_T G q rr_3)) (ws2 := fun rr_5 => (W_T G q rr_3)) C h dX7_valueByLag_27 ml_X7_305 mX7_gainOf (fun v hv => kX7_gainOf q rr_3 4 v hv) (fun rr_5 => ln_T_T_id_n (G := G) (q := q) (T := rr_3)) rfl rfl rfl rfl rfl rfl rfl rfl (fun rr_5 h => ?_)
  refine X.isub C dX7_valueByLag_30 ?_
  cases h
  exact X.iret C dX7_valueByLag_31 (Nat.zero_le _) (Nat.zero_le _)
def rX7_worth : Room := { frames := 6, cells := 0, slots := 0, locals := 145 }
theorem mX7_worth : MV yX7_worth cX7_worth 2 (some .int) 1 := ⟨cd_X7_worth, in_X7, ⟨⟨by decide, by decide⟩, by decide +kernel⟩, im_X7_worth, se_X7_worth⟩
set_option maxHeartbeats 4000000 in
set_option maxRecDepth 100000 in
theorem kX7_worth {l : Launch} {G : GT} (q : Nat → Nat → Nat) (T : Nat → Ob) (lx1 : Int) (v : (Int × (Nat → Ob))) (h : fX7_worth T lx1 = some v) : CT l G yX7_worth cX7_worth 2 (some .int) rX7_worth [.ref ((q 11) 31), vi lx1] (W_T G q T) (W_T G q v.2) (some (vi v.1)) := by
  unfold fX7_worth at h
  refine CT.of (by decide) (Nat.le_of_ble_eq_true rfl) rfl (fun κ _ C => ?_)
  refine X.aload_n C dX7_worth_0 rfl 0 rfl ?_
  refine X.iload_n C dX7_worth_1 rfl 1 rfl ?_
  refine X.callVi (q0 := 0) (As := [vi lx1]) (rest := []) (g := fun rr_1 => rr_1) (W1 := fun rr_1 => (W_T G q T)) (ws2 := fun rr_1 => (W_T G q T)) C h dX7_worth_2 ml_X7_105 mX7_refusalOf (fun v hv => kX7_refusalOf q T lx1 v hv) (fun rr_1 => ln_T_T_id_n (G := G) (q := q) (T := T)) rfl rfl rfl rfl rfl rfl rfl rfl (fun rr_1 h => ?_)
  refine X.if_eq (tgt := 12) C h dX7_worth_5 (by decide) (fun h => ?_) (fun h => ?_)
  · refine X.aload_n C dX7_worth_12 rfl 0 rfl ?_
    refine X.iload_n C dX7_worth_13 rfl 1 rfl ?_
    refine X.iconst C dX7_worth_14 ?_
    refine X.callVi (q0 := 0) (As := [vi lx1, vi 0]) (rest := []) (g := fun rr_2 => rr_2.1) (W1 := fun rr_2 => (W_T G q rr_2.2)) (ws2 := fun rr_2 => (W_T G q rr_2.2)) C h dX7_worth_15 ml_X7_311 mX7_valueByLag (fun v hv => kX7_valueByLag q T lx1 0 v hv) (fun rr_2 => ln_T_T_id_T (G := G) (q := q) (T := T) (NT := rr_2.2)) rfl rfl rfl rfl rfl rfl rfl rfl (fun rr_2 h => ?_)
    refine X.aload_n C dX7_worth_18 rfl 0 rfl ?_
    refine X.iload_n C dX7_worth_19 rfl 1 rfl ?_
    refine X.aload_n C dX7_worth_20 rfl 0 rfl ?_
    refine X.get C dX7_worth_21 lay_X7 0 rfl rfl 2 (by decide) fl_X7_19 rfl rfl ?_
    refine X.get C dX7_worth_24 lay_X3 5 rfl rfl 0 (by decide) fl_X7_28 rfl rfl ?_
    refine X.get C dX7_worth_27 lay_X1 6 rfl rfl 8 (by decide) fl_X7_212 rfl rfl ?_
    refine X.callVi (q0 := 0) (As := [vi lx1, vi ((rr_2.2 2) 8 0)]) (rest := [vi rr_2.1]) (g := fun rr_3 => rr_3.1) (W1 := fun rr_3 => (W_T G q rr_3.2)) (ws2 := fun rr_3 => (W_T G q rr_3.2)) C h dX7_worth_30 ml_X7_311 mX7_valueByLag (fun v hv => kX7_valueByLag q rr_2.2 lx1 ((rr_2.2 2) 8 0) v hv) (fun rr_3 => ln_T_T_id_T (G := G) (q := q) (T := rr_2.2) (NT := rr_3.2)) rfl rfl rfl rfl rfl rfl rfl rfl (fun rr_3 h => ?_)
    refine X.isub C dX7_worth_33 ?_
    cases h
    exact X.iret C dX7_worth_34 (Nat.zero_le _) (Nat.zero_le _)
  refine X.ldc_w (z := (-1000000)) C ct_X7_298 (by decide) dX7_worth_8 ?_
  cases h
  exact X.iret C dX7_worth_11 (Nat.zero_le _) (Nat.zero_le _)
def rX7_best : Room := { frames := 6, cells := 0, slots := 0, locals := 145 }
theorem mX7_best : MV yX7_best cX7_best 7 (some .int) 1 := ⟨cd_X7_best, in_X7, ⟨⟨by decide, by decide⟩, by decide +kernel⟩, im_X7_best, se_X7_best⟩
set_option maxHeartbeats 4000000 in
set_option maxRecDepth 100000 in
theorem xX7_best_25 {κ : Kx} {G : GT} (C : Cx κ G yX7_best cX7_best (some .int) 7 rX7_best) (q : Nat → Nat → Nat) (lx1 : Int) (v : (Int × (Nat → Ob))) : ∀ (n : Nat) (lx3 : Int) (lx4 : Int) (lx5 : Int) (T : Nat → Ob), lX7_best_25 lx1 n lx3 lx4 lx5 T = some v → X κ G 7 (W_T G q T) 25 [(0, .ref ((q 11) 31)), (1, vi lx1), (3, vi lx3), (4, vi lx4), (5, vi lx5)] [] 0 0 (QM κ G (W_T G q v.2) (some (vi v.1)) rX7_best.cells rX7_best.slots) := by
  intro n
  induction n with
  | zero => intro _ _ _ _ h; exact absurd h (fun h => nomatch h)
  | succ n ih =>
    intro lx3 lx4 lx5 T h
    rw [lX7_best_25] at h
    refine X.iload C dX7_best_25 4 rfl ?_
    refine X.bipush C dX7_best_27 (by decide) ?_
    refine X.icmp_gt (tgt := 61) C h dX7_best_29 (by decide) (fun h => ?_) (fun h => ?_)
    · refine X.iload_n C dX7_best_61 rfl 2 rfl ?_
      cases h
      exact X.iret C dX7_best_62 (Nat.zero_le _) (Nat.zero_le _)
    refine X.aload_n C dX7_best_32 rfl 0 rfl ?_
    refine X.iload_n C dX7_best_33 rfl 1 rfl ?_
    refine X.iload C dX7_best_34 4 rfl ?_
    refine X.callVi (q0 := 0) (As := [vi lx1, vi lx5]) (rest := []) (g := fun rr_4 => rr_4.1) (W1 := fun rr_4 => (W_T G q rr_4.2)) (ws2 := fun rr_4 => (W_T G q rr_4.2)) C h dX7_best_36 ml_X7_311 mX7_valueByLag (fun v hv => kX7_valueByLag q T lx1 lx5 v hv) (fun rr_4 => ln_T_T_id_T (G := G) (q := q) (T := T) (NT := rr_4.2)) rfl rfl rfl rfl rfl rfl rfl rfl (fun rr_4 h => ?_)
    refine X.istoreN (lv2 := fun lx6_5 => [(6, vi lx6_5), (0, .ref ((q 11) 31)), (1, vi lx1), (3, vi lx3), (4, vi lx4), (5, vi lx5)]) C h dX7_best_39 (by decide) (fun _ => rfl) (fun lx6_5 h => ?_)
    refine X.iload C dX7_best_41 0 rfl ?_
    refine X.iload C dX7_best_43 4 rfl ?_
    refine X.icmp_le (tgt := 55) C h dX7_best_45 (by decide) (fun h => ?_) (fun h => ?_)
    · refine X.iincN (lv2 := fun lx5_6 => [(5, vi lx5_6), (6, vi lx6_5), (0, .ref ((q 11) 31)), (1, vi lx1), (3, vi lx3), (4, vi lx4)]) C h dX7_best_55 5 rfl (by decide) (fun _ => rfl) (fun lx5_6 h => ?_)
      refine X.goto (tgt := 25) C dX7_best_58 (by decide) ?_
      refine X.sub [2, 3, 4, 5, 0] rfl ?_
      exact ih lx3 lx4 lx5_6 rr_4.2 h
    refine X.iload C dX7_best_48 0 rfl ?_
    refine X.istore (lv2 := [(4, vi lx6_5), (6, vi lx6_5), (0, .ref ((q 11) 31)), (1, vi lx1), (3, vi lx3), (5, vi lx5)]) C dX7_best_50 (by decide) rfl ?_
    refine X.iload C dX7_best_52 5 rfl ?_
    refine X.istore_n (lv2 := [(3, vi lx5), (4, vi lx6_5), (6, vi lx6_5), (0, .ref ((q 11) 31)), (1, vi lx1), (5, vi lx5)]) C dX7_best_54 rfl (by decide) rfl ?_
    refine X.iincN (lv2 := fun lx5_7 => [(5, vi lx5_7), (3, vi lx5), (4, vi lx6_5), (6, vi lx6_5), (0, .ref ((q 11) 31)), (1, vi lx1)]) C h dX7_best_55 5 rfl (by decide) (fun _ => rfl) (fun lx5_7 h => ?_)
    refine X.goto (tgt := 25) C dX7_best_58 (by decide) ?_
    refine X.sub [4, 5, 1, 2, 0] rfl ?_
    exact ih lx5 lx6_5 lx5_7 rr_4.2 h
set_option maxHeartbeats 4000000 in
set_option maxRecDepth 100000 in
theorem kX7_best {l : Launch} {G : GT} (q : Nat → Nat → Nat) (T : Nat → Ob) (lx1 : Int) (v : (Int × (Nat → Ob))) (h : fX7_best T lx1 = some v) : CT l G yX7_best cX7_best 7 (some .int) rX7_best [.ref ((q 11) 31), vi lx1] (W_T G q T) (W_T G q v.2) (some (vi v.1)) := by
  unfold fX7_best at h
  refine CT.of (by decide) (Nat.le_of_ble_eq_true rfl) rfl (fun κ _ C => ?_)
  refine X.aload_n C dX7_best_0 rfl 0 rfl ?_
  refine X.iload_n C dX7_best_1 rfl 1 rfl ?_
  refine X.callVi (q0 := 0) (As := [vi lx1]) (rest := []) (g := fun rr_1 => rr_1) (W1 := fun rr_1 => (W_T G q T)) (ws2 := fun rr_1 => (W_T G q T)) C h dX7_best_2 ml_X7_105 mX7_refusalOf (fun v hv => kX7_refusalOf q T lx1 v hv) (fun rr_1 => ln_T_T_id_n (G := G) (q := q) (T := T)) rfl rfl rfl rfl rfl rfl rfl rfl (fun rr_1 h => ?_)
  refine X.istore_n (lv2 := [(2, vi rr_1), (0, .ref ((q 11) 31)), (1, vi lx1)]) C dX7_best_5 rfl (by decide) rfl ?_
  refine X.iload_n C dX7_best_6 rfl 0 rfl ?_
  refine X.if_eq (tgt := 12) C h dX7_best_7 (by decide) (fun h => ?_) (fun h => ?_)
  · refine X.iconst C dX7_best_12 ?_
    refine X.istore_n (lv2 := [(3, vi 0), (2, vi rr_1), (0, .ref ((q 11) 31)), (1, vi lx1)]) C dX7_best_13 rfl (by decide) rfl ?_
    refine X.aload_n C dX7_best_14 rfl 2 rfl ?_
    refine X.iload_n C dX7_best_15 rfl 3 rfl ?_
    refine X.iconst C dX7_best_16 ?_
    refine X.callVi (q0 := 0) (As := [vi lx1, vi 0]) (rest := []) (g := fun rr_2 => rr_2.1) (W1 := fun rr_2 => (W_T G q rr_2.2)) (ws2 := fun rr_2 => (W_T G q rr_2.2)) C h dX7_best_17 ml_X7_311 mX7_valueByLag (fun v hv => kX7_valueByLag q T lx1 0 v hv) (fun rr_2 => ln_T_T_id_T (G := G) (q := q) (T := T) (NT := rr_2.2)) rfl rfl rfl rfl rfl rfl rfl rfl (fun rr_2 h => ?_)
    refine X.istoreN (lv2 := fun lx4_3 => [(4, vi lx4_3), (3, vi 0), (2, vi rr_1), (0, .ref ((q 11) 31)), (1, vi lx1)]) C h dX7_best_20 (by decide) (fun _ => rfl) (fun lx4_3 h => ?_)
    refine X.iconst C dX7_best_22 ?_
    refine X.istore (lv2 := [(5, vi 1), (4, vi lx4_3), (3, vi 0), (2, vi rr_1), (0, .ref ((q 11) 31)), (1, vi lx1)]) C dX7_best_23 (by decide) rfl ?_
    refine X.sub [4, 5, 2, 1, 0] rfl ?_
    refine xX7_best_25 C q lx1 v FU 0 lx4_3 1 rr_2.2 h
  refine X.iload_n C dX7_best_10 rfl 0 rfl ?_
  cases h
  exact X.iret C dX7_best_11 (Nat.zero_le _) (Nat.zero_le _)
def rX7_dreamByHigh : Room := { frames := 5, cells := 0, slots := 0, locals := 123 }
theorem mX7_dreamByHigh : MV yX7_dreamByHigh cX7_dreamByHigh 3 none 2 := ⟨cd_X7_dreamByHigh, in_X7, ⟨⟨by decide, by decide⟩, by decide +kernel⟩, im_X7_dreamByHigh, se_X7_dreamByHigh⟩
set_option maxHeartbeats 4000000 in
set_option maxRecDepth 100000 in
theorem kX7_dreamByHigh {l : Launch} {G : GT} (q : Nat → Nat → Nat) (T : Nat → Ob) (lx1 : Int) (lx2 : Int) (v : (Nat → Ob)) (h : fX7_dreamByHigh T lx1 lx2 = some v) : CT l G yX7_dreamByHigh cX7_dreamByHigh 3 none rX7_dreamByHigh [.ref ((q 11) 31), vi lx1, vi lx2] (W_T G q T) (W_T G q v) none := by
  unfold fX7_dreamByHigh at h
  refine CT.of (by decide) (Nat.le_of_ble_eq_true rfl) rfl (fun κ _ C => ?_)
  refine X.aload_n C dX7_dreamByHigh_0 rfl 0 rfl ?_
  refine X.callVv (q0 := 0) (As := []) (rest := []) (W1 := fun rr_1 => (W_T G q rr_1)) (ws2 := fun rr_1 => (W_T G q rr_1)) C h dX7_dreamByHigh_1 ml_X7_299 mX7_beginDream (fun v hv => kX7_beginDream q T v hv) (fun rr_1 => ln_T_T_id_T (G := G) (q := q) (T := T) (NT := rr_1)) rfl rfl rfl rfl rfl rfl rfl rfl (fun rr_1 h => ?_)
  refine X.aload_n C dX7_dreamByHigh_4 rfl 0 rfl ?_
  refine X.get C dX7_dreamByHigh_5 lay_X7 0 rfl rfl 3 (by decide) fl_X7_23 rfl rfl ?_
  refine X.get C dX7_dreamByHigh_8 lay_X3 23 rfl rfl 0 (by decide) fl_X7_28 rfl rfl ?_
  refine X.iload_n C dX7_dreamByHigh_11 rfl 2 rfl ?_
  refine X.put (ws2 := (W_T G q (upO rr_1 4 (up2 (rr_1 4) 6 0 lx2)))) (ty := .int) C dX7_dreamByHigh_12 lay_X1 tyX1_ok nmX1 24 rfl rfl 6 (by decide) fl_X7_211 rfl rfl (by decide +kernel) rfl rfl (Nat.le_of_ble_eq_true rfl) rfl ?_
  refine X.nameS (ws := fun T_2 => (W_T G q T_2)) h (fun T_2 h => ?_)
  refine X.aload_n C dX7_dreamByHigh_15 rfl 0 rfl ?_
  refine X.iload_n C dX7_dreamByHigh_16 rfl 1 rfl ?_
  refine X.callVv (q0 := 0) (As := [vi lx1]) (rest := []) (W1 := fun rr_3 => (W_T G q rr_3)) (ws2 := fun rr_3 => (W_T G q rr_3)) C h dX7_dreamByHigh_17 ml_X7_302 mX7_dreamDay (fun v hv => kX7_dreamDay q T_2 lx1 v hv) (fun rr_3 => ln_T_T_id_T (G := G) (q := q) (T := T_2) (NT := rr_3)) rfl rfl rfl rfl rfl rfl rfl rfl (fun rr_3 h => ?_)
  cases h
  exact X.vret C dX7_dreamByHigh_20 (Nat.zero_le _) (Nat.zero_le _)
def rX7_most : Room := { frames := 6, cells := 0, slots := 0, locals := 145 }
theorem mX7_most : MV yX7_most cX7_most 6 (some .int) 2 := ⟨cd_X7_most, in_X7, ⟨⟨by decide, by decide⟩, by decide +kernel⟩, im_X7_most, se_X7_most⟩
set_option maxHeartbeats 4000000 in
set_option maxRecDepth 100000 in
theorem xX7_most_52 {κ : Kx} {G : GT} (C : Cx κ G yX7_most cX7_most (some .int) 6 rX7_most) (q : Nat → Nat → Nat) (lx1 : Int) (lx2 : Int) (lx4 : Int) (v : (Int × (Nat → Ob))) : ∀ (n : Nat) (lx5 : Int) (T : Nat → Ob), lX7_most_52 lx1 lx2 lx4 n lx5 T = some v → X κ G 6 (W_T G q T) 52 [(0, .ref ((q 11) 31)), (1, vi lx1), (2, vi lx2), (4, vi lx4), (5, vi lx5)] [] 0 0 (QM κ G (W_T G q v.2) (some (vi v.1)) rX7_most.cells rX7_most.slots) := by
  intro n
  induction n with
  | zero => intro _ _ h; exact absurd h (fun h => nomatch h)
  | succ n ih =>
    intro lx5 T h
    rw [lX7_most_52] at h
    refine X.iload C dX7_most_52 4 rfl ?_
    refine X.if_lt (tgt := 86) C h dX7_most_54 (by decide) (fun h => ?_) (fun h => ?_)
    · refine X.iconst C dX7_most_86 ?_
      cases h
      exact X.iret C dX7_most_87 (Nat.zero_le _) (Nat.zero_le _)
    refine X.aload_n C dX7_most_57 rfl 0 rfl ?_
    refine X.iload_n C dX7_most_58 rfl 1 rfl ?_
    refine X.iload C dX7_most_59 4 rfl ?_
    refine X.callVv (q0 := 0) (As := [vi lx1, vi lx5]) (rest := []) (W1 := fun rr_5 => (W_T G q rr_5)) (ws2 := fun rr_5 => (W_T G q rr_5)) C h dX7_most_61 ml_X7_317 mX7_dreamByHigh (fun v hv => kX7_dreamByHigh q T lx1 lx5 v hv) (fun rr_5 => ln_T_T_id_T (G := G) (q := q) (T := T) (NT := rr_5)) rfl rfl rfl rfl rfl rfl rfl rfl (fun rr_5 h => ?_)
    refine X.aload_n C dX7_most_64 rfl 0 rfl ?_
    refine X.get C dX7_most_65 lay_X7 0 rfl rfl 3 (by decide) fl_X7_23 rfl rfl ?_
    refine X.iload_n C dX7_most_68 rfl 2 rfl ?_
    refine X.callVi (q0 := 23) (As := [vi lx2]) (rest := []) (g := fun rr_6 => rr_6) (W1 := fun rr_6 => (W_S G (q 13) (q 4) (q 5) (rr_5 4) (rr_5 5))) (ws2 := fun rr_6 => (W_T G q rr_5)) C h dX7_most_69 ml_X7_141 mX3_tableWet (fun v hv => kX3_tableWet (q 13) (q 4) (q 5) (rr_5 4) (rr_5 5) lx2 v hv) (fun rr_6 => ln_T_S_ds_dp_da_n (G := G) (q := q) (T := rr_5)) rfl rfl rfl rfl rfl rfl rfl rfl (fun rr_6 h => ?_)
    refine X.iload C dX7_most_72 3 rfl ?_
    refine X.icmp_gt (tgt := 80) C h dX7_most_74 (by decide) (fun h => ?_) (fun h => ?_)
    · refine X.iincN (lv2 := fun lx5_7 => [(5, vi lx5_7), (0, .ref ((q 11) 31)), (1, vi lx1), (2, vi lx2), (4, vi lx4)]) C h dX7_most_80 4 rfl (by decide) (fun _ => rfl) (fun lx5_7 h => ?_)
      refine X.goto (tgt := 52) C dX7_most_83 (by decide) ?_
      refine X.sub [1, 2, 3, 4, 0] rfl ?_
      exact ih lx5_7 rr_5 h
    refine X.iload C dX7_most_77 4 rfl ?_
    cases h
    exact X.iret C dX7_most_79 (Nat.zero_le _) (Nat.zero_le _)
set_option maxHeartbeats 4000000 in
set_option maxRecDepth 100000 in
theorem kX7_most {l : Launch} {G : GT} (q : Nat → Nat → Nat) (T : Nat → Ob) (lx1 : Int) (lx2 : Int) (v : (Int × (Nat → Ob))) (h : fX7_most T lx1 lx2 = some v) : CT l G yX7_most cX7_most 6 (some .int) rX7_most [.ref ((q 11) 31), vi lx1, vi lx2] (W_T G q T) (W_T G q v.2) (some (vi v.1)) := by
  unfold fX7_most at h
  refine CT.of (by decide) (Nat.le_of_ble_eq_true rfl) rfl (fun κ _ C => ?_)
  refine X.aload_n C dX7_most_0 rfl 0 rfl ?_
  refine X.iload_n C dX7_most_1 rfl 2 rfl ?_
  refine X.callVi (q0 := 0) (As := [vi lx2]) (rest := []) (g := fun rr_1 => rr_1) (W1 := fun rr_1 => (W_T G q T)) (ws2 := fun rr_1 => (W_T G q T)) C h dX7_most_2 ml_X7_127 mX7_isTable (fun v hv => kX7_isTable q T lx2 v hv) (fun rr_1 => ln_T_T_id_n (G := G) (q := q) (T := T)) rfl rfl rfl rfl rfl rfl rfl rfl (fun rr_1 h => ?_)
  refine X.if_ne (tgt := 11) C h dX7_most_5 (by decide) (fun h => ?_) (fun h => ?_)
  · refine X.aload_n C dX7_most_11 rfl 0 rfl ?_
    refine X.iload_n C dX7_most_12 rfl 1 rfl ?_
    refine X.callVi (q0 := 0) (As := [vi lx1]) (rest := []) (g := fun rr_2 => rr_2) (W1 := fun rr_2 => (W_T G q T)) (ws2 := fun rr_2 => (W_T G q T)) C h dX7_most_13 ml_X7_105 mX7_refusalOf (fun v hv => kX7_refusalOf q T lx1 v hv) (fun rr_2 => ln_T_T_id_n (G := G) (q := q) (T := T)) rfl rfl rfl rfl rfl rfl rfl rfl (fun rr_2 h => ?_)
    refine X.istore_n (lv2 := [(3, vi rr_2), (0, .ref ((q 11) 31)), (1, vi lx1), (2, vi lx2)]) C dX7_most_16 rfl (by decide) rfl ?_
    refine X.iload_n C dX7_most_17 rfl 0 rfl ?_
    refine X.if_eq (tgt := 23) C h dX7_most_18 (by decide) (fun h => ?_) (fun h => ?_)
    · refine X.aload_n C dX7_most_23 rfl 1 rfl ?_
      refine X.get C dX7_most_24 lay_X7 0 rfl rfl 2 (by decide) fl_X7_19 rfl rfl ?_
      refine X.get C dX7_most_27 lay_X3 5 rfl rfl 0 (by decide) fl_X7_28 rfl rfl ?_
      refine X.get C dX7_most_30 lay_X1 6 rfl rfl 17 (by decide) fl_X7_138 rfl rfl ?_
      refine X.iload_n C dX7_most_33 rfl 3 rfl ?_
      refine X.iald C h dX7_most_34 11 rfl (fun h => ?_)
      refine X.aload_n C dX7_most_35 rfl 1 rfl ?_
      refine X.get C dX7_most_36 lay_X7 0 rfl rfl 2 (by decide) fl_X7_19 rfl rfl ?_
      refine X.iload_n C dX7_most_39 rfl 3 rfl ?_
      refine X.callVi (q0 := 5) (As := [vi lx2]) (rest := [vi ((T 2) 17 (ix lx2))]) (g := fun rr_3 => rr_3) (W1 := fun rr_3 => (W_S G (q 12) (q 2) (q 3) (T 2) (T 3))) (ws2 := fun rr_3 => (W_T G q T)) C h dX7_most_40 ml_X7_141 mX3_tableWet (fun v hv => kX3_tableWet (q 12) (q 2) (q 3) (T 2) (T 3) lx2 v hv) (fun rr_3 => ln_T_S_ns_np_na_n (G := G) (q := q) (T := T)) rfl rfl rfl rfl rfl rfl rfl rfl (fun rr_3 h => ?_)
      refine X.mmax C dX7_most_43 ml_X7_314 sm_J9_max_7cf53 in_java_lang_Math cd_J9_max_7cf53 (Nat.le_of_ble_eq_true rfl) (Nat.le_of_ble_eq_true rfl) (Nat.zero_le _) (Nat.zero_le _) ?_
      refine X.istoreN (lv2 := fun lx4_4 => [(4, vi lx4_4), (3, vi rr_2), (0, .ref ((q 11) 31)), (1, vi lx1), (2, vi lx2)]) C h dX7_most_46 (by decide) (fun _ => rfl) (fun lx4_4 h => ?_)
      refine X.bipush C dX7_most_48 (by decide) ?_
      refine X.istore (lv2 := [(5, vi 60), (4, vi lx4_4), (3, vi rr_2), (0, .ref ((q 11) 31)), (1, vi lx1), (2, vi lx2)]) C dX7_most_50 (by decide) rfl ?_
      refine X.sub [3, 4, 5, 1, 0] rfl ?_
      refine xX7_most_52 C q lx1 lx2 lx4_4 v FU 60 T h
    refine X.iload_n C dX7_most_21 rfl 0 rfl ?_
    cases h
    exact X.iret C dX7_most_22 (Nat.zero_le _) (Nat.zero_le _)
  refine X.bipush C dX7_most_8 (by decide) ?_
  cases h
  exact X.iret C dX7_most_10 (Nat.zero_le _) (Nat.zero_le _)
def rX7_rule : Room := { frames := 5, cells := 0, slots := 0, locals := 123 }
theorem mX7_rule : MV yX7_rule cX7_rule 7 (some .int) 1 := ⟨cd_X7_rule, in_X7, ⟨⟨by decide, by decide⟩, by decide +kernel⟩, im_X7_rule, se_X7_rule⟩
set_option maxHeartbeats 4000000 in
set_option maxRecDepth 100000 in
theorem xX7_rule_30 {κ : Kx} {G : GT} (C : Cx κ G yX7_rule cX7_rule (some .int) 7 rX7_rule) (q : Nat → Nat → Nat) (lx1 : Int) (lx5 : Int) (kx0 : Int → Int → (Nat → Ob) → Option (Int × (Nat → Ob))) (v : (Int × (Nat → Ob))) (hk0 : ∀ (lx3 : Int) (lx4 : Int) (T : Nat → Ob), kx0 lx3 lx4 T = some v → X κ G 7 (W_T G q T) 110 [(0, .ref ((q 11) 31)), (1, vi lx1), (3, vi lx3), (4, vi lx4), (5, vi lx5)] [] 0 0 (QM κ G (W_T G q v.2) (some (vi v.1)) rX7_rule.cells rX7_rule.slots)) : ∀ (n : Nat) (lx3 : Int) (lx4 : Int) (lx6 : Int) (T : Nat → Ob), lX7_rule_30 lx1 lx5 kx0 n lx3 lx4 lx6 T = some v → X κ G 7 (W_T G q T) 30 [(0, .ref ((q 11) 31)), (1, vi lx1), (3, vi lx3), (4, vi lx4), (5, vi lx5), (6, vi lx6)] [] 0 0 (QM κ G (W_T G q v.2) (some (vi v.1)) rX7_rule.cells rX7_rule.slots) := by
  intro n
  induction n with
  | zero => intro _ _ _ _ h; exact absurd h (fun h => nomatch h)
  | succ n ih =>
    intro lx3 lx4 lx6 T h
    rw [lX7_rule_30] at h
    refine X.iload C dX7_rule_30 5 rfl ?_
    refine X.bipush C dX7_rule_32 (by decide) ?_
    refine X.icmp_gt (tgt := 110) C h dX7_rule_34 (by decide) (fun h => ?_) (fun h => ?_)
    · refine X.sub [0, 1, 2, 3, 4] rfl ?_
      exact hk0 lx3 lx4 T h
    refine X.aload_n C dX7_rule_37 rfl 0 rfl ?_
    refine X.callVv (q0 := 0) (As := []) (rest := []) (W1 := fun rr_2 => (W_T G q rr_2)) (ws2 := fun rr_2 => (W_T G q rr_2)) C h dX7_rule_38 ml_X7_299 mX7_beginDream (fun v hv => kX7_beginDream q T v hv) (fun rr_2 => ln_T_T_id_T (G := G) (q := q) (T := T) (NT := rr_2)) rfl rfl rfl rfl rfl rfl rfl rfl (fun rr_2 h => ?_)
    refine X.aload_n C dX7_rule_41 rfl 0 rfl ?_
    refine X.get C dX7_rule_42 lay_X7 0 rfl rfl 3 (by decide) fl_X7_23 rfl rfl ?_
    refine X.get C dX7_rule_45 lay_X3 23 rfl rfl 0 (by decide) fl_X7_28 rfl rfl ?_
    refine X.callVv (q0 := 24) (As := []) (rest := []) (W1 := fun rr_3 => (W_P G (q 4) rr_3)) (ws2 := fun rr_3 => (W_T G q (upO rr_2 4 rr_3))) C h dX7_rule_48 ml_X7_321 mX1_dropRules (fun v hv => kX1_dropRules (q 4) (rr_2 4) v hv) (fun rr_3 => ln_T_P_dp_P (G := G) (q := q) (T := rr_2) (NP := rr_3)) rfl rfl rfl rfl rfl rfl rfl rfl (fun rr_3 h => ?_)
    refine X.nameS (ws := fun T_4 => (W_T G q T_4)) h (fun T_4 h => ?_)
    refine X.aload_n C dX7_rule_51 rfl 0 rfl ?_
    refine X.get C dX7_rule_52 lay_X7 0 rfl rfl 3 (by decide) fl_X7_23 rfl rfl ?_
    refine X.get C dX7_rule_55 lay_X3 23 rfl rfl 0 (by decide) fl_X7_28 rfl rfl ?_
    refine X.iload C dX7_rule_58 4 rfl ?_
    refine X.iload C dX7_rule_60 5 rfl ?_
    refine X.callVv (q0 := 24) (As := [vi lx5, vi lx6]) (rest := []) (W1 := fun rr_5 => (W_P G (q 4) rr_5)) (ws2 := fun rr_5 => (W_T G q (upO T_4 4 rr_5))) C h dX7_rule_62 ml_X7_324 mX1_addRule (fun v hv => kX1_addRule (q 4) (T_4 4) lx5 lx6 v hv) (fun rr_5 => ln_T_P_dp_P (G := G) (q := q) (T := T_4) (NP := rr_5)) rfl rfl rfl rfl rfl rfl rfl rfl (fun rr_5 h => ?_)
    refine X.nameS (ws := fun T_6 => (W_T G q T_6)) h (fun T_6 h => ?_)
    refine X.aload_n C dX7_rule_65 rfl 0 rfl ?_
    refine X.iload_n C dX7_rule_66 rfl 1 rfl ?_
    refine X.callVv (q0 := 0) (As := [vi lx1]) (rest := []) (W1 := fun rr_7 => (W_T G q rr_7)) (ws2 := fun rr_7 => (W_T G q rr_7)) C h dX7_rule_67 ml_X7_302 mX7_dreamDay (fun v hv => kX7_dreamDay q T_6 lx1 v hv) (fun rr_7 => ln_T_T_id_T (G := G) (q := q) (T := T_6) (NT := rr_7)) rfl rfl rfl rfl rfl rfl rfl rfl (fun rr_7 h => ?_)
    refine X.aload_n C dX7_rule_70 rfl 0 rfl ?_
    refine X.iconst C dX7_rule_71 ?_
    refine X.callVi (q0 := 0) (As := [vi 0]) (rest := []) (g := fun rr_8 => rr_8) (W1 := fun rr_8 => (W_T G q rr_7)) (ws2 := fun rr_8 => (W_T G q rr_7)) C h dX7_rule_72 ml_X7_305 mX7_gainOf (fun v hv => kX7_gainOf q rr_7 0 v hv) (fun rr_8 => ln_T_T_id_n (G := G) (q := q) (T := rr_7)) rfl rfl rfl rfl rfl rfl rfl rfl (fun rr_8 h => ?_)
    refine X.iload C dX7_rule_75 3 rfl ?_
    refine X.icmp_le (tgt := 104) C h dX7_rule_77 (by decide) (fun h => ?_) (fun h => ?_)
    · refine X.iincN (lv2 := fun lx6_9 => [(6, vi lx6_9), (0, .ref ((q 11) 31)), (1, vi lx1), (3, vi lx3), (4, vi lx4), (5, vi lx5)]) C h dX7_rule_104 5 rfl (by decide) (fun _ => rfl) (fun lx6_9 h => ?_)
      refine X.goto (tgt := 30) C dX7_rule_107 (by decide) ?_
      refine X.sub [1, 2, 3, 4, 5, 0] rfl ?_
      exact ih lx3 lx4 lx6_9 rr_7 h
    refine X.aload_n C dX7_rule_80 rfl 0 rfl ?_
    refine X.iconst C dX7_rule_81 ?_
    refine X.callVi (q0 := 0) (As := [vi 3]) (rest := []) (g := fun rr_10 => rr_10) (W1 := fun rr_10 => (W_T G q rr_7)) (ws2 := fun rr_10 => (W_T G q rr_7)) C h dX7_rule_82 ml_X7_305 mX7_gainOf (fun v hv => kX7_gainOf q rr_7 3 v hv) (fun rr_10 => ln_T_T_id_n (G := G) (q := q) (T := rr_7)) rfl rfl rfl rfl rfl rfl rfl rfl (fun rr_10 h => ?_)
    refine X.if_ne (tgt := 104) C h dX7_rule_85 (by decide) (fun h => ?_) (fun h => ?_)
    · refine X.iincN (lv2 := fun lx6_11 => [(6, vi lx6_11), (0, .ref ((q 11) 31)), (1, vi lx1), (3, vi lx3), (4, vi lx4), (5, vi lx5)]) C h dX7_rule_104 5 rfl (by decide) (fun _ => rfl) (fun lx6_11 h => ?_)
      refine X.goto (tgt := 30) C dX7_rule_107 (by decide) ?_
      refine X.sub [1, 2, 3, 4, 5, 0] rfl ?_
      exact ih lx3 lx4 lx6_11 rr_7 h
    refine X.aload_n C dX7_rule_88 rfl 0 rfl ?_
    refine X.iconst C dX7_rule_89 ?_
    refine X.callVi (q0 := 0) (As := [vi 0]) (rest := []) (g := fun rr_12 => rr_12) (W1 := fun rr_12 => (W_T G q rr_7)) (ws2 := fun rr_12 => (W_T G q rr_7)) C h dX7_rule_90 ml_X7_305 mX7_gainOf (fun v hv => kX7_gainOf q rr_7 0 v hv) (fun rr_12 => ln_T_T_id_n (G := G) (q := q) (T := rr_7)) rfl rfl rfl rfl rfl rfl rfl rfl (fun rr_12 h => ?_)
    refine X.istore (lv2 := [(4, vi rr_12), (0, .ref ((q 11) 31)), (1, vi lx1), (3, vi lx3), (5, vi lx5), (6, vi lx6)]) C dX7_rule_93 (by decide) rfl ?_
    refine X.bipush C dX7_rule_95 (by decide) ?_
    refine X.iload C dX7_rule_97 4 rfl ?_
    refine X.imul C dX7_rule_99 ?_
    refine X.iload C dX7_rule_100 5 rfl ?_
    refine X.iadd C dX7_rule_102 ?_
    refine X.istoreN_n (lv2 := fun lx3_13 => [(3, vi lx3_13), (4, vi rr_12), (0, .ref ((q 11) 31)), (1, vi lx1), (5, vi lx5), (6, vi lx6)]) C h dX7_rule_103 rfl (by decide) (fun _ => rfl) (fun lx3_13 h => ?_)
    refine X.iincN (lv2 := fun lx6_14 => [(6, vi lx6_14), (3, vi lx3_13), (4, vi rr_12), (0, .ref ((q 11) 31)), (1, vi lx1), (5, vi lx5)]) C h dX7_rule_104 5 rfl (by decide) (fun _ => rfl) (fun lx6_14 h => ?_)
    refine X.goto (tgt := 30) C dX7_rule_107 (by decide) ?_
    refine X.sub [3, 4, 1, 2, 5, 0] rfl ?_
    exact ih lx3_13 rr_12 lx6_14 rr_7 h
set_option maxHeartbeats 4000000 in
set_option maxRecDepth 100000 in
theorem xX7_rule_20 {κ : Kx} {G : GT} (C : Cx κ G yX7_rule cX7_rule (some .int) 7 rX7_rule) (q : Nat → Nat → Nat) (lx1 : Int) (v : (Int × (Nat → Ob))) : ∀ (n : Nat) (lx3 : Int) (lx4 : Int) (lx5 : Int) (T : Nat → Ob), lX7_rule_20 lx1 n lx3 lx4 lx5 T = some v → X κ G 7 (W_T G q T) 20 [(0, .ref ((q 11) 31)), (1, vi lx1), (3, vi lx3), (4, vi lx4), (5, vi lx5)] [] 0 0 (QM κ G (W_T G q v.2) (some (vi v.1)) rX7_rule.cells rX7_rule.slots) := by
  intro n
  induction n with
  | zero => intro _ _ _ _ h; exact absurd h (fun h => nomatch h)
  | succ n ih =>
    intro lx3 lx4 lx5 T h
    rw [lX7_rule_20] at h
    refine X.iload C dX7_rule_20 4 rfl ?_
    refine X.bipush C dX7_rule_22 (by decide) ?_
    refine X.icmp_gt (tgt := 116) C h dX7_rule_24 (by decide) (fun h => ?_) (fun h => ?_)
    · refine X.iload_n C dX7_rule_116 rfl 2 rfl ?_
      cases h
      exact X.iret C dX7_rule_117 (Nat.zero_le _) (Nat.zero_le _)
    refine X.iconst C dX7_rule_27 ?_
    refine X.istore (lv2 := [(6, vi 0), (0, .ref ((q 11) 31)), (1, vi lx1), (3, vi lx3), (4, vi lx4), (5, vi lx5)]) C dX7_rule_28 (by decide) rfl ?_
    refine X.sub [1, 2, 3, 4, 5, 0] rfl ?_
    refine xX7_rule_30 C q lx1 lx5 _ v (fun lx3_15 lx4_16 T_17 h => ?_) FU lx3 lx4 0 T h
    · refine X.iincN (lv2 := fun lx5_18 => [(5, vi lx5_18), (0, .ref ((q 11) 31)), (1, vi lx1), (3, vi lx3_15), (4, vi lx4_16)]) C h dX7_rule_110 4 rfl (by decide) (fun _ => rfl) (fun lx5_18 h => ?_)
      refine X.goto (tgt := 20) C dX7_rule_113 (by decide) ?_
      refine X.sub [1, 2, 3, 4, 0] rfl ?_
      exact ih lx3_15 lx4_16 lx5_18 T_17 h
set_option maxHeartbeats 4000000 in
set_option maxRecDepth 100000 in
theorem kX7_rule {l : Launch} {G : GT} (q : Nat → Nat → Nat) (T : Nat → Ob) (lx1 : Int) (v : (Int × (Nat → Ob))) (h : fX7_rule T lx1 = some v) : CT l G yX7_rule cX7_rule 7 (some .int) rX7_rule [.ref ((q 11) 31), vi lx1] (W_T G q T) (W_T G q v.2) (some (vi v.1)) := by
  unfold fX7_rule at h
  refine CT.of (by decide) (Nat.le_of_ble_eq_true rfl) rfl (fun κ _ C => ?_)
  refine X.aload_n C dX7_rule_0 rfl 0 rfl ?_
  refine X.iload_n C dX7_rule_1 rfl 1 rfl ?_
  refine X.callVi (q0 := 0) (As := [vi lx1]) (rest := []) (g := fun rr_1 => rr_1) (W1 := fun rr_1 => (W_T G q T)) (ws2 := fun rr_1 => (W_T G q T)) C h dX7_rule_2 ml_X7_105 mX7_refusalOf (fun v hv => kX7_refusalOf q T lx1 v hv) (fun rr_1 => ln_T_T_id_n (G := G) (q := q) (T := T)) rfl rfl rfl rfl rfl rfl rfl rfl (fun rr_1 h => ?_)
  refine X.istore_n (lv2 := [(2, vi rr_1), (0, .ref ((q 11) 31)), (1, vi lx1)]) C dX7_rule_5 rfl (by decide) rfl ?_
  refine X.iload_n C dX7_rule_6 rfl 0 rfl ?_
  refine X.if_eq (tgt := 12) C h dX7_rule_7 (by decide) (fun h => ?_) (fun h => ?_)
  · refine X.iconst C dX7_rule_12 ?_
    refine X.istore_n (lv2 := [(3, vi (-1)), (2, vi rr_1), (0, .ref ((q 11) 31)), (1, vi lx1)]) C dX7_rule_13 rfl (by decide) rfl ?_
    refine X.iconst C dX7_rule_14 ?_
    refine X.istore (lv2 := [(4, vi (-1)), (3, vi (-1)), (2, vi rr_1), (0, .ref ((q 11) 31)), (1, vi lx1)]) C dX7_rule_15 (by decide) rfl ?_
    refine X.iconst C dX7_rule_17 ?_
    refine X.istore (lv2 := [(5, vi 0), (4, vi (-1)), (3, vi (-1)), (2, vi rr_1), (0, .ref ((q 11) 31)), (1, vi lx1)]) C dX7_rule_18 (by decide) rfl ?_
    refine X.sub [4, 5, 2, 1, 0] rfl ?_
    refine xX7_rule_20 C q lx1 v FU (-1) (-1) 0 T h
  refine X.iload_n C dX7_rule_10 rfl 0 rfl ?_
  cases h
  exact X.iret C dX7_rule_11 (Nat.zero_le _) (Nat.zero_le _)
def rX7_dreamStrays : Room := { frames := 5, cells := 0, slots := 0, locals := 107 }
theorem mX7_dreamStrays : MV yX7_dreamStrays cX7_dreamStrays 1 (some .int) 0 := ⟨cd_X7_dreamStrays, in_X7, ⟨⟨by decide, by decide⟩, by decide +kernel⟩, im_X7_dreamStrays, se_X7_dreamStrays⟩
set_option maxHeartbeats 4000000 in
set_option maxRecDepth 100000 in
theorem kX7_dreamStrays {l : Launch} {G : GT} (q : Nat → Nat → Nat) (T : Nat → Ob) (v : (Int)) (h : fX7_dreamStrays T = some v) : CT l G yX7_dreamStrays cX7_dreamStrays 1 (some .int) rX7_dreamStrays [.ref ((q 11) 31)] (W_T G q T) (W_T G q T) (some (vi v)) := by
  unfold fX7_dreamStrays at h
  refine CT.of (by decide) (Nat.le_of_ble_eq_true rfl) rfl (fun κ _ C => ?_)
  refine X.aload_n C dX7_dreamStrays_0 rfl 0 rfl ?_
  refine X.iconst C dX7_dreamStrays_1 ?_
  refine X.callVi (q0 := 0) (As := [vi 1]) (rest := []) (g := fun rr_1 => rr_1) (W1 := fun rr_1 => (W_T G q T)) (ws2 := fun rr_1 => (W_T G q T)) C h dX7_dreamStrays_2 ml_X7_305 mX7_gainOf (fun v hv => kX7_gainOf q T 1 v hv) (fun rr_1 => ln_T_T_id_n (G := G) (q := q) (T := T)) rfl rfl rfl rfl rfl rfl rfl rfl (fun rr_1 h => ?_)
  refine X.aload_n C dX7_dreamStrays_5 rfl 0 rfl ?_
  refine X.iconst C dX7_dreamStrays_6 ?_
  refine X.callVi (q0 := 0) (As := [vi 2]) (rest := [vi rr_1]) (g := fun rr_2 => rr_2) (W1 := fun rr_2 => (W_T G q T)) (ws2 := fun rr_2 => (W_T G q T)) C h dX7_dreamStrays_7 ml_X7_305 mX7_gainOf (fun v hv => kX7_gainOf q T 2 v hv) (fun rr_2 => ln_T_T_id_n (G := G) (q := q) (T := T)) rfl rfl rfl rfl rfl rfl rfl rfl (fun rr_2 h => ?_)
  refine X.iadd C dX7_dreamStrays_10 ?_
  cases h
  exact X.iret C dX7_dreamStrays_11 (Nat.zero_le _) (Nat.zero_le _)
def rX7_half : Room := { frames := 6, cells := 0, slots := 0, locals := 127 }
theorem mX7_half : MV yX7_half cX7_half 5 (some .int) 2 := ⟨cd_X7_half, in_X7, ⟨⟨by decide, by decide⟩, by decide +kernel⟩, im_X7_half, se_X7_half⟩
set_option maxHeartbeats 4000000 in
set_option maxRecDepth 100000 in
theorem xX7_half_29 {κ : Kx} {G : GT} (C : Cx κ G yX7_half cX7_half (some .int) 5 rX7_half) (q : Nat → Nat → Nat) (lx1 : Int) (lx2 : Int) (v : (Int × (Nat → Ob))) : ∀ (n : Nat) (lx4 : Int) (T : Nat → Ob), lX7_half_29 lx1 lx2 n lx4 T = some v → X κ G 5 (W_T G q T) 29 [(0, .ref ((q 11) 31)), (1, vi lx1), (2, vi lx2), (4, vi lx4)] [] 0 0 (QM κ G (W_T G q v.2) (some (vi v.1)) rX7_half.cells rX7_half.slots) := by
  intro n
  induction n with
  | zero => intro _ _ h; exact absurd h (fun h => nomatch h)
  | succ n ih =>
    intro lx4 T h
    rw [lX7_half_29] at h
    refine X.iload C dX7_half_29 3 rfl ?_
    refine X.bipush C dX7_half_31 (by decide) ?_
    refine X.icmp_gt (tgt := 74) C h dX7_half_33 (by decide) (fun h => ?_) (fun h => ?_)
    · refine X.iconst C dX7_half_74 ?_
      cases h
      exact X.iret C dX7_half_75 (Nat.zero_le _) (Nat.zero_le _)
    refine X.aload_n C dX7_half_36 rfl 0 rfl ?_
    refine X.callVv (q0 := 0) (As := []) (rest := []) (W1 := fun rr_3 => (W_T G q rr_3)) (ws2 := fun rr_3 => (W_T G q rr_3)) C h dX7_half_37 ml_X7_299 mX7_beginDream (fun v hv => kX7_beginDream q T v hv) (fun rr_3 => ln_T_T_id_T (G := G) (q := q) (T := T) (NT := rr_3)) rfl rfl rfl rfl rfl rfl rfl rfl (fun rr_3 h => ?_)
    refine X.aload_n C dX7_half_40 rfl 0 rfl ?_
    refine X.get C dX7_half_41 lay_X7 0 rfl rfl 3 (by decide) fl_X7_23 rfl rfl ?_
    refine X.get C dX7_half_44 lay_X3 23 rfl rfl 0 (by decide) fl_X7_28 rfl rfl ?_
    refine X.iload C dX7_half_47 3 rfl ?_
    refine X.put (ws2 := (W_T G q (upO rr_3 4 (up2 (rr_3 4) 5 0 lx4)))) (ty := .int) C dX7_half_49 lay_X1 tyX1_ok nmX1 24 rfl rfl 5 (by decide) fl_X7_208 rfl rfl (by decide +kernel) rfl rfl (Nat.le_of_ble_eq_true rfl) rfl ?_
    refine X.nameS (ws := fun T_4 => (W_T G q T_4)) h (fun T_4 h => ?_)
    refine X.aload_n C dX7_half_52 rfl 0 rfl ?_
    refine X.iload_n C dX7_half_53 rfl 1 rfl ?_
    refine X.callVv (q0 := 0) (As := [vi lx1]) (rest := []) (W1 := fun rr_5 => (W_T G q rr_5)) (ws2 := fun rr_5 => (W_T G q rr_5)) C h dX7_half_54 ml_X7_302 mX7_dreamDay (fun v hv => kX7_dreamDay q T_4 lx1 v hv) (fun rr_5 => ln_T_T_id_T (G := G) (q := q) (T := T_4) (NT := rr_5)) rfl rfl rfl rfl rfl rfl rfl rfl (fun rr_5 h => ?_)
    refine X.aload_n C dX7_half_57 rfl 0 rfl ?_
    refine X.callVi (q0 := 0) (As := []) (rest := []) (g := fun rr_6 => rr_6) (W1 := fun rr_6 => (W_T G q rr_5)) (ws2 := fun rr_6 => (W_T G q rr_5)) C h dX7_half_58 ml_X7_327 mX7_dreamStrays (fun v hv => kX7_dreamStrays q rr_5 v hv) (fun rr_6 => ln_T_T_id_n (G := G) (q := q) (T := rr_5)) rfl rfl rfl rfl rfl rfl rfl rfl (fun rr_6 h => ?_)
    refine X.iload_n C dX7_half_61 rfl 2 rfl ?_
    refine X.icmp_gt (tgt := 68) C h dX7_half_62 (by decide) (fun h => ?_) (fun h => ?_)
    · refine X.iincN (lv2 := fun lx4_7 => [(4, vi lx4_7), (0, .ref ((q 11) 31)), (1, vi lx1), (2, vi lx2)]) C h dX7_half_68 3 rfl (by decide) (fun _ => rfl) (fun lx4_7 h => ?_)
      refine X.goto (tgt := 29) C dX7_half_71 (by decide) ?_
      refine X.sub [1, 2, 3, 0] rfl ?_
      exact ih lx4_7 rr_5 h
    refine X.iload C dX7_half_65 3 rfl ?_
    cases h
    exact X.iret C dX7_half_67 (Nat.zero_le _) (Nat.zero_le _)
set_option maxHeartbeats 4000000 in
set_option maxRecDepth 100000 in
theorem kX7_half {l : Launch} {G : GT} (q : Nat → Nat → Nat) (T : Nat → Ob) (lx1 : Int) (lx2 : Int) (v : (Int × (Nat → Ob))) (h : fX7_half T lx1 lx2 = some v) : CT l G yX7_half cX7_half 5 (some .int) rX7_half [.ref ((q 11) 31), vi lx1, vi lx2] (W_T G q T) (W_T G q v.2) (some (vi v.1)) := by
  unfold fX7_half at h
  refine CT.of (by decide) (Nat.le_of_ble_eq_true rfl) rfl (fun κ _ C => ?_)
  refine X.iload_n C dX7_half_0 rfl 2 rfl ?_
  refine X.iconst C dX7_half_1 ?_
  refine X.sipush C dX7_half_2 (by decide) ?_
  refine X.callSi (As := [vi lx2, vi 0, vi 9999]) (rest := []) (g := fun rr_1 => rr_1) (W1 := fun rr_1 => W_0) (ws2 := fun rr_1 => (W_T G q T)) C h dX7_half_5 ml_X7_93 mX7_isWithin (fun v hv => kX7_isWithin lx2 0 9999 v hv) (fun rr_1 => ln_T_0__n (G := G) (q := q) (T := T)) rfl rfl rfl rfl rfl rfl (fun rr_1 h => ?_)
  refine X.if_ne (tgt := 14) C h dX7_half_8 (by decide) (fun h => ?_) (fun h => ?_)
  · refine X.aload_n C dX7_half_14 rfl 0 rfl ?_
    refine X.iload_n C dX7_half_15 rfl 1 rfl ?_
    refine X.callVi (q0 := 0) (As := [vi lx1]) (rest := []) (g := fun rr_2 => rr_2) (W1 := fun rr_2 => (W_T G q T)) (ws2 := fun rr_2 => (W_T G q T)) C h dX7_half_16 ml_X7_105 mX7_refusalOf (fun v hv => kX7_refusalOf q T lx1 v hv) (fun rr_2 => ln_T_T_id_n (G := G) (q := q) (T := T)) rfl rfl rfl rfl rfl rfl rfl rfl (fun rr_2 h => ?_)
    refine X.istore_n (lv2 := [(3, vi rr_2), (0, .ref ((q 11) 31)), (1, vi lx1), (2, vi lx2)]) C dX7_half_19 rfl (by decide) rfl ?_
    refine X.iload_n C dX7_half_20 rfl 0 rfl ?_
    refine X.if_eq (tgt := 26) C h dX7_half_21 (by decide) (fun h => ?_) (fun h => ?_)
    · refine X.iconst C dX7_half_26 ?_
      refine X.istore (lv2 := [(4, vi 0), (3, vi rr_2), (0, .ref ((q 11) 31)), (1, vi lx1), (2, vi lx2)]) C dX7_half_27 (by decide) rfl ?_
      refine X.sub [2, 3, 4, 0] rfl ?_
      refine xX7_half_29 C q lx1 lx2 v FU 0 T h
    refine X.iload_n C dX7_half_24 rfl 0 rfl ?_
    cases h
    exact X.iret C dX7_half_25 (Nat.zero_le _) (Nat.zero_le _)
  refine X.bipush C dX7_half_11 (by decide) ?_
  cases h
  exact X.iret C dX7_half_13 (Nat.zero_le _) (Nat.zero_le _)
def rX7_tall : Room := { frames := 6, cells := 0, slots := 0, locals := 145 }
theorem mX7_tall : MV yX7_tall cX7_tall 7 (some .int) 2 := ⟨cd_X7_tall, in_X7, ⟨⟨by decide, by decide⟩, by decide +kernel⟩, im_X7_tall, se_X7_tall⟩
set_option maxHeartbeats 4000000 in
set_option maxRecDepth 100000 in
theorem xX7_tall_35 {κ : Kx} {G : GT} (C : Cx κ G yX7_tall cX7_tall (some .int) 7 rX7_tall) (q : Nat → Nat → Nat) (lx1 : Int) (lx2 : Int) (v : (Int × (Nat → Ob))) : ∀ (n : Nat) (lx4 : Int) (lx5 : Int) (lx6 : Int) (T : Nat → Ob), lX7_tall_35 lx1 lx2 n lx4 lx5 lx6 T = some v → X κ G 7 (W_T G q T) 35 [(0, .ref ((q 11) 31)), (1, vi lx1), (2, vi lx2), (4, vi lx4), (5, vi lx5), (6, vi lx6)] [] 0 0 (QM κ G (W_T G q v.2) (some (vi v.1)) rX7_tall.cells rX7_tall.slots) := by
  intro n
  induction n with
  | zero => intro _ _ _ _ h; exact absurd h (fun h => nomatch h)
  | succ n ih =>
    intro lx4 lx5 lx6 T h
    rw [lX7_tall_35] at h
    refine X.iload C dX7_tall_35 5 rfl ?_
    refine X.bipush C dX7_tall_37 (by decide) ?_
    refine X.icmp_gt (tgt := 84) C h dX7_tall_39 (by decide) (fun h => ?_) (fun h => ?_)
    · refine X.iload C dX7_tall_84 3 rfl ?_
      cases h
      exact X.iret C dX7_tall_86 (Nat.zero_le _) (Nat.zero_le _)
    refine X.aload_n C dX7_tall_42 rfl 0 rfl ?_
    refine X.iload_n C dX7_tall_43 rfl 1 rfl ?_
    refine X.iload C dX7_tall_44 5 rfl ?_
    refine X.callVv (q0 := 0) (As := [vi lx1, vi lx6]) (rest := []) (W1 := fun rr_3 => (W_T G q rr_3)) (ws2 := fun rr_3 => (W_T G q rr_3)) C h dX7_tall_46 ml_X7_317 mX7_dreamByHigh (fun v hv => kX7_dreamByHigh q T lx1 lx6 v hv) (fun rr_3 => ln_T_T_id_T (G := G) (q := q) (T := T) (NT := rr_3)) rfl rfl rfl rfl rfl rfl rfl rfl (fun rr_3 h => ?_)
    refine X.aload_n C dX7_tall_49 rfl 0 rfl ?_
    refine X.callVi (q0 := 0) (As := []) (rest := []) (g := fun rr_4 => rr_4) (W1 := fun rr_4 => (W_T G q rr_3)) (ws2 := fun rr_4 => (W_T G q rr_3)) C h dX7_tall_50 ml_X7_327 mX7_dreamStrays (fun v hv => kX7_dreamStrays q rr_3 v hv) (fun rr_4 => ln_T_T_id_n (G := G) (q := q) (T := rr_3)) rfl rfl rfl rfl rfl rfl rfl rfl (fun rr_4 h => ?_)
    refine X.iload_n C dX7_tall_53 rfl 2 rfl ?_
    refine X.icmp_gt (tgt := 78) C h dX7_tall_54 (by decide) (fun h => ?_) (fun h => ?_)
    · refine X.iincN (lv2 := fun lx6_5 => [(6, vi lx6_5), (0, .ref ((q 11) 31)), (1, vi lx1), (2, vi lx2), (4, vi lx4), (5, vi lx5)]) C h dX7_tall_78 5 rfl (by decide) (fun _ => rfl) (fun lx6_5 h => ?_)
      refine X.goto (tgt := 35) C dX7_tall_81 (by decide) ?_
      refine X.sub [1, 2, 3, 4, 5, 0] rfl ?_
      exact ih lx4 lx5 lx6_5 rr_3 h
    refine X.aload_n C dX7_tall_57 rfl 0 rfl ?_
    refine X.iconst C dX7_tall_58 ?_
    refine X.callVi (q0 := 0) (As := [vi 0]) (rest := []) (g := fun rr_6 => rr_6) (W1 := fun rr_6 => (W_T G q rr_3)) (ws2 := fun rr_6 => (W_T G q rr_3)) C h dX7_tall_59 ml_X7_305 mX7_gainOf (fun v hv => kX7_gainOf q rr_3 0 v hv) (fun rr_6 => ln_T_T_id_n (G := G) (q := q) (T := rr_3)) rfl rfl rfl rfl rfl rfl rfl rfl (fun rr_6 h => ?_)
    refine X.iload C dX7_tall_62 4 rfl ?_
    refine X.icmp_le (tgt := 78) C h dX7_tall_64 (by decide) (fun h => ?_) (fun h => ?_)
    · refine X.iincN (lv2 := fun lx6_7 => [(6, vi lx6_7), (0, .ref ((q 11) 31)), (1, vi lx1), (2, vi lx2), (4, vi lx4), (5, vi lx5)]) C h dX7_tall_78 5 rfl (by decide) (fun _ => rfl) (fun lx6_7 h => ?_)
      refine X.goto (tgt := 35) C dX7_tall_81 (by decide) ?_
      refine X.sub [1, 2, 3, 4, 5, 0] rfl ?_
      exact ih lx4 lx5 lx6_7 rr_3 h
    refine X.aload_n C dX7_tall_67 rfl 0 rfl ?_
    refine X.iconst C dX7_tall_68 ?_
    refine X.callVi (q0 := 0) (As := [vi 0]) (rest := []) (g := fun rr_8 => rr_8) (W1 := fun rr_8 => (W_T G q rr_3)) (ws2 := fun rr_8 => (W_T G q rr_3)) C h dX7_tall_69 ml_X7_305 mX7_gainOf (fun v hv => kX7_gainOf q rr_3 0 v hv) (fun rr_8 => ln_T_T_id_n (G := G) (q := q) (T := rr_3)) rfl rfl rfl rfl rfl rfl rfl rfl (fun rr_8 h => ?_)
    refine X.istore (lv2 := [(5, vi rr_8), (0, .ref ((q 11) 31)), (1, vi lx1), (2, vi lx2), (4, vi lx4), (6, vi lx6)]) C dX7_tall_72 (by decide) rfl ?_
    refine X.iload C dX7_tall_74 5 rfl ?_
    refine X.istore (lv2 := [(4, vi lx6), (5, vi rr_8), (0, .ref ((q 11) 31)), (1, vi lx1), (2, vi lx2), (6, vi lx6)]) C dX7_tall_76 (by decide) rfl ?_
    refine X.iincN (lv2 := fun lx6_9 => [(6, vi lx6_9), (4, vi lx6), (5, vi rr_8), (0, .ref ((q 11) 31)), (1, vi lx1), (2, vi lx2)]) C h dX7_tall_78 5 rfl (by decide) (fun _ => rfl) (fun lx6_9 h => ?_)
    refine X.goto (tgt := 35) C dX7_tall_81 (by decide) ?_
    refine X.sub [3, 4, 5, 1, 2, 0] rfl ?_
    exact ih lx6 rr_8 lx6_9 rr_3 h
set_option maxHeartbeats 4000000 in
set_option maxRecDepth 100000 in
theorem kX7_tall {l : Launch} {G : GT} (q : Nat → Nat → Nat) (T : Nat → Ob) (lx1 : Int) (lx2 : Int) (v : (Int × (Nat → Ob))) (h : fX7_tall T lx1 lx2 = some v) : CT l G yX7_tall cX7_tall 7 (some .int) rX7_tall [.ref ((q 11) 31), vi lx1, vi lx2] (W_T G q T) (W_T G q v.2) (some (vi v.1)) := by
  unfold fX7_tall at h
  refine CT.of (by decide) (Nat.le_of_ble_eq_true rfl) rfl (fun κ _ C => ?_)
  refine X.iload_n C dX7_tall_0 rfl 2 rfl ?_
  refine X.iconst C dX7_tall_1 ?_
  refine X.sipush C dX7_tall_2 (by decide) ?_
  refine X.callSi (As := [vi lx2, vi 0, vi 9999]) (rest := []) (g := fun rr_1 => rr_1) (W1 := fun rr_1 => W_0) (ws2 := fun rr_1 => (W_T G q T)) C h dX7_tall_5 ml_X7_93 mX7_isWithin (fun v hv => kX7_isWithin lx2 0 9999 v hv) (fun rr_1 => ln_T_0__n (G := G) (q := q) (T := T)) rfl rfl rfl rfl rfl rfl (fun rr_1 h => ?_)
  refine X.if_ne (tgt := 14) C h dX7_tall_8 (by decide) (fun h => ?_) (fun h => ?_)
  · refine X.aload_n C dX7_tall_14 rfl 0 rfl ?_
    refine X.iload_n C dX7_tall_15 rfl 1 rfl ?_
    refine X.callVi (q0 := 0) (As := [vi lx1]) (rest := []) (g := fun rr_2 => rr_2) (W1 := fun rr_2 => (W_T G q T)) (ws2 := fun rr_2 => (W_T G q T)) C h dX7_tall_16 ml_X7_105 mX7_refusalOf (fun v hv => kX7_refusalOf q T lx1 v hv) (fun rr_2 => ln_T_T_id_n (G := G) (q := q) (T := T)) rfl rfl rfl rfl rfl rfl rfl rfl (fun rr_2 h => ?_)
    refine X.istore_n (lv2 := [(3, vi rr_2), (0, .ref ((q 11) 31)), (1, vi lx1), (2, vi lx2)]) C dX7_tall_19 rfl (by decide) rfl ?_
    refine X.iload_n C dX7_tall_20 rfl 0 rfl ?_
    refine X.if_eq (tgt := 26) C h dX7_tall_21 (by decide) (fun h => ?_) (fun h => ?_)
    · refine X.iconst C dX7_tall_26 ?_
      refine X.istore (lv2 := [(4, vi (-1)), (3, vi rr_2), (0, .ref ((q 11) 31)), (1, vi lx1), (2, vi lx2)]) C dX7_tall_27 (by decide) rfl ?_
      refine X.iconst C dX7_tall_29 ?_
      refine X.istore (lv2 := [(5, vi (-1)), (4, vi (-1)), (3, vi rr_2), (0, .ref ((q 11) 31)), (1, vi lx1), (2, vi lx2)]) C dX7_tall_30 (by decide) rfl ?_
      refine X.iconst C dX7_tall_32 ?_
      refine X.istore (lv2 := [(6, vi 0), (5, vi (-1)), (4, vi (-1)), (3, vi rr_2), (0, .ref ((q 11) 31)), (1, vi lx1), (2, vi lx2)]) C dX7_tall_33 (by decide) rfl ?_
      refine X.sub [4, 5, 6, 2, 1, 0] rfl ?_
      refine xX7_tall_35 C q lx1 lx2 v FU (-1) (-1) 0 T h
    refine X.iload_n C dX7_tall_24 rfl 0 rfl ?_
    cases h
    exact X.iret C dX7_tall_25 (Nat.zero_le _) (Nat.zero_le _)
  refine X.bipush C dX7_tall_11 (by decide) ?_
  cases h
  exact X.iret C dX7_tall_13 (Nat.zero_le _) (Nat.zero_le _)
