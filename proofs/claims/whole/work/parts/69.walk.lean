def rX8_stand : Room := { frames := 7, cells := 0, slots := 0, locals := 181 }
theorem mX8_stand : MV yX8_stand cX8_stand 10 (some .int) 2 := ⟨cd_X8_stand, in_X8, ⟨⟨by decide, by decide⟩, by decide +kernel⟩, im_X8_stand, se_X8_stand⟩
set_option maxHeartbeats 4000000 in
set_option maxRecDepth 100000 in
theorem xX8_stand_142 {κ : Kx} {G : GT} (C : Cx κ G yX8_stand cX8_stand (some .int) 10 rX8_stand) (q : Nat → Nat) (kc0 : Int → Int → Int → Ob → Option (Int × Ob)) (M : Ob) (lx1 : Int) (lx2 : Int) (lx6 : Int) (lx7 : Int) (lx8 : Int) (lx9 : Int) (v : (Int × Ob)) (hc0 : ∀ (lx4 : Int) (lx5 : Int) (lx9 : Int) (M : Ob), kc0 lx4 lx5 lx9 M = some v → X κ G 10 (W_M G q M) 70 [(0, .ref (q 31)), (1, vi lx1), (2, vi lx2), (4, vi lx4), (5, vi lx5), (6, vi lx6), (7, vi lx7), (8, vi lx8), (9, vi lx9)] [] 0 0 (QM κ G (W_M G q v.2) (some (vi v.1)) rX8_stand.cells rX8_stand.slots)) (h : jX8_stand_142 kc0 M lx1 lx2 lx6 lx7 lx8 lx9 = some v) : X κ G 10 (W_M G q M) 142 [(0, .ref (q 31)), (1, vi lx1), (2, vi lx2), (6, vi lx6), (7, vi lx7), (8, vi lx8), (9, vi lx9)] [] 0 0 (QM κ G (W_M G q v.2) (some (vi v.1)) rX8_stand.cells rX8_stand.slots) := by
  unfold jX8_stand_142 at h
  refine X.iload C dX8_stand_142 6 rfl ?_
  refine X.bipush C dX8_stand_144 (by decide) ?_
  refine X.iload C dX8_stand_146 5 rfl ?_
  refine X.imul C dX8_stand_148 ?_
  refine X.iadd C dX8_stand_149 ?_
  refine X.istoreN (lv2 := fun lx4_13 => [(4, vi lx4_13), (0, .ref (q 31)), (1, vi lx1), (2, vi lx2), (6, vi lx6), (7, vi lx7), (8, vi lx8), (9, vi lx9)]) C h dX8_stand_150 (by decide) (fun _ => rfl) (fun lx4_13 h => ?_)
  refine X.aload_n C dX8_stand_152 rfl 1 rfl ?_
  refine X.get C dX8_stand_153 lay_X8 0 rfl rfl 16 (by decide) fl_X8_40 rfl rfl ?_
  refine X.iconst C dX8_stand_156 ?_
  refine X.iald C h dX8_stand_157 8 rfl (fun h => ?_)
  refine X.istoreN (lv2 := fun lx5_14 => [(5, vi lx5_14), (4, vi lx4_13), (0, .ref (q 31)), (1, vi lx1), (2, vi lx2), (6, vi lx6), (7, vi lx7), (8, vi lx8), (9, vi lx9)]) C h dX8_stand_158 (by decide) (fun _ => rfl) (fun lx5_14 h => ?_)
  refine X.iincN (lv2 := fun lx9_15 => [(9, vi lx9_15), (5, vi lx5_14), (4, vi lx4_13), (0, .ref (q 31)), (1, vi lx1), (2, vi lx2), (6, vi lx6), (7, vi lx7), (8, vi lx8)]) C h dX8_stand_160 8 rfl (by decide) (fun _ => rfl) (fun lx9_15 h => ?_)
  refine X.goto (tgt := 70) C dX8_stand_163 (by decide) ?_
  refine X.sub [3, 4, 5, 2, 1, 6, 7, 8, 0] rfl ?_
  exact hc0 lx4_13 lx5_14 lx9_15 M h
set_option maxHeartbeats 4000000 in
set_option maxRecDepth 100000 in
theorem xX8_stand_70 {κ : Kx} {G : GT} (C : Cx κ G yX8_stand cX8_stand (some .int) 10 rX8_stand) (q : Nat → Nat) (lx1 : Int) (lx2 : Int) (lx6 : Int) (lx7 : Int) (lx8 : Int) (kx0 : Int → Int → Ob → Option (Int × Ob)) (v : (Int × Ob)) (hk0 : ∀ (lx4 : Int) (lx5 : Int) (M : Ob), kx0 lx4 lx5 M = some v → X κ G 10 (W_M G q M) 166 [(0, .ref (q 31)), (1, vi lx1), (2, vi lx2), (4, vi lx4), (5, vi lx5), (6, vi lx6), (7, vi lx7), (8, vi lx8)] [] 0 0 (QM κ G (W_M G q v.2) (some (vi v.1)) rX8_stand.cells rX8_stand.slots)) : ∀ (n : Nat) (lx4 : Int) (lx5 : Int) (lx9 : Int) (M : Ob), lX8_stand_70 lx1 lx2 lx6 lx7 lx8 kx0 n lx4 lx5 lx9 M = some v → X κ G 10 (W_M G q M) 70 [(0, .ref (q 31)), (1, vi lx1), (2, vi lx2), (4, vi lx4), (5, vi lx5), (6, vi lx6), (7, vi lx7), (8, vi lx8), (9, vi lx9)] [] 0 0 (QM κ G (W_M G q v.2) (some (vi v.1)) rX8_stand.cells rX8_stand.slots) := by
  intro n
  induction n with
  | zero => intro _ _ _ _ h; exact absurd h (fun h => nomatch h)
  | succ n ih =>
    intro lx4 lx5 lx9 M h
    rw [lX8_stand_70] at h
    refine X.iload C dX8_stand_70 8 rfl ?_
    refine X.iload C dX8_stand_72 5 rfl ?_
    refine X.iload_n C dX8_stand_74 rfl 2 rfl ?_
    refine X.iadd C dX8_stand_75 ?_
    refine X.icmp_gt (tgt := 166) C h dX8_stand_76 (by decide) (fun h => ?_) (fun h => ?_)
    · refine X.sub [0, 1, 2, 3, 4, 5, 6, 7] rfl ?_
      exact hk0 lx4 lx5 M h
    refine X.aload_n C dX8_stand_79 rfl 0 rfl ?_
    refine X.iload C dX8_stand_80 8 rfl ?_
    refine X.iload C dX8_stand_82 7 rfl ?_
    refine X.callVi (q0 := 0) (As := [vi lx9, vi lx8]) (rest := []) (g := fun rr_7 => rr_7) (W1 := fun rr_7 => (W_M G q M)) (ws2 := fun rr_7 => (W_M G q M)) C h dX8_stand_84 ml_X8_248 mX8_isCell (fun v hv => kX8_isCell q M lx9 lx8 v hv) (fun rr_7 => ln_M_M_m_n (G := G) (q := q) (M := M)) rfl rfl rfl rfl rfl rfl rfl rfl (fun rr_7 h => ?_)
    refine X.if_ne (tgt := 93) C h dX8_stand_87 (by decide) (fun h => ?_) (fun h => ?_)
    · refine X.aload_n C dX8_stand_93 rfl 0 rfl ?_
      refine X.callVv (q0 := 0) (As := []) (rest := []) (W1 := fun rr_8 => (W_M G q rr_8)) (ws2 := fun rr_8 => (W_M G q rr_8)) C h dX8_stand_94 ml_X8_370 mX8_thinks (fun v hv => kX8_thinks q M v hv) (fun rr_8 => ln_M_M_m_M (G := G) (q := q) (M := M) (NM := rr_8)) rfl rfl rfl rfl rfl rfl rfl rfl (fun rr_8 h => ?_)
      refine X.aload_n C dX8_stand_97 rfl 0 rfl ?_
      refine X.get C dX8_stand_98 lay_X8 0 rfl rfl 1 (by decide) fl_X8_13 rfl rfl ?_
      refine X.iconst C dX8_stand_101 ?_
      refine X.iload C dX8_stand_102 8 rfl ?_
      refine X.iast (ws2 := (W_M G q (up2 rr_8 1 (ix 3) lx9))) C h dX8_stand_104 1 rfl rfl (fun h => ?_)
      refine X.nameS (ws := fun M_9 => (W_M G q M_9)) h (fun M_9 h => ?_)
      refine X.aload_n C dX8_stand_105 rfl 0 rfl ?_
      refine X.get C dX8_stand_106 lay_X8 0 rfl rfl 1 (by decide) fl_X8_13 rfl rfl ?_
      refine X.iconst C dX8_stand_109 ?_
      refine X.iload C dX8_stand_110 7 rfl ?_
      refine X.iast (ws2 := (W_M G q (up2 M_9 1 (ix 4) lx8))) C h dX8_stand_112 1 rfl rfl (fun h => ?_)
      refine X.nameS (ws := fun M_10 => (W_M G q M_10)) h (fun M_10 h => ?_)
      refine X.aload_n C dX8_stand_113 rfl 0 rfl ?_
      refine X.iload_n C dX8_stand_114 rfl 1 rfl ?_
      refine X.callVv (q0 := 0) (As := [vi lx1]) (rest := []) (W1 := fun rr_11 => (W_M G q rr_11)) (ws2 := fun rr_11 => (W_M G q rr_11)) C h dX8_stand_115 ml_X8_373 mX8_goesDown (fun v hv => kX8_goesDown q M_10 lx1 v hv) (fun rr_11 => ln_M_M_m_M (G := G) (q := q) (M := M_10) (NM := rr_11)) rfl rfl rfl rfl rfl rfl rfl rfl (fun rr_11 h => ?_)
      refine X.aload_n C dX8_stand_118 rfl 0 rfl ?_
      refine X.callVv (q0 := 0) (As := []) (rest := []) (W1 := fun rr_12 => (W_M G q rr_12)) (ws2 := fun rr_12 => (W_M G q rr_12)) C h dX8_stand_119 ml_X8_376 mX8_wakes (fun v hv => kX8_wakes q rr_11 v hv) (fun rr_12 => ln_M_M_m_M (G := G) (q := q) (M := rr_11) (NM := rr_12)) rfl rfl rfl rfl rfl rfl rfl rfl (fun rr_12 h => ?_)
      refine X.iload C dX8_stand_122 3 rfl ?_
      refine X.iconst C dX8_stand_124 ?_
      refine X.icmp_eq (tgt := 142) C h dX8_stand_125 (by decide) (fun h => ?_) (fun h => ?_)
      · refine X.sub [0, 1, 2, 5, 6, 7, 8] rfl ?_
        exact xX8_stand_142 C q (lX8_stand_70 lx1 lx2 lx6 lx7 lx8 kx0 n) rr_12 lx1 lx2 lx6 lx7 lx8 lx9 v ih h
      refine X.aload_n C dX8_stand_128 rfl 0 rfl ?_
      refine X.get C dX8_stand_129 lay_X8 0 rfl rfl 16 (by decide) fl_X8_40 rfl rfl ?_
      refine X.iconst C dX8_stand_132 ?_
      refine X.iald C h dX8_stand_133 8 rfl (fun h => ?_)
      refine X.iload C dX8_stand_134 4 rfl ?_
      refine X.icmp_lt (tgt := 142) C h dX8_stand_136 (by decide) (fun h => ?_) (fun h => ?_)
      · refine X.sub [0, 1, 2, 5, 6, 7, 8] rfl ?_
        exact xX8_stand_142 C q (lX8_stand_70 lx1 lx2 lx6 lx7 lx8 kx0 n) rr_12 lx1 lx2 lx6 lx7 lx8 lx9 v ih h
      refine X.goto (tgt := 160) C dX8_stand_139 (by decide) ?_
      refine X.iincN (lv2 := fun lx9_16 => [(9, vi lx9_16), (0, .ref (q 31)), (1, vi lx1), (2, vi lx2), (4, vi lx4), (5, vi lx5), (6, vi lx6), (7, vi lx7), (8, vi lx8)]) C h dX8_stand_160 8 rfl (by decide) (fun _ => rfl) (fun lx9_16 h => ?_)
      refine X.goto (tgt := 70) C dX8_stand_163 (by decide) ?_
      refine X.sub [1, 2, 3, 4, 5, 6, 7, 8, 0] rfl ?_
      exact ih lx4 lx5 lx9_16 rr_12 h
    refine X.goto (tgt := 160) C dX8_stand_90 (by decide) ?_
    refine X.iincN (lv2 := fun lx9_17 => [(9, vi lx9_17), (0, .ref (q 31)), (1, vi lx1), (2, vi lx2), (4, vi lx4), (5, vi lx5), (6, vi lx6), (7, vi lx7), (8, vi lx8)]) C h dX8_stand_160 8 rfl (by decide) (fun _ => rfl) (fun lx9_17 h => ?_)
    refine X.goto (tgt := 70) C dX8_stand_163 (by decide) ?_
    refine X.sub [1, 2, 3, 4, 5, 6, 7, 8, 0] rfl ?_
    exact ih lx4 lx5 lx9_17 M h
set_option maxHeartbeats 4000000 in
set_option maxRecDepth 100000 in
theorem xX8_stand_55 {κ : Kx} {G : GT} (C : Cx κ G yX8_stand cX8_stand (some .int) 10 rX8_stand) (q : Nat → Nat) (lx1 : Int) (lx2 : Int) (lx6 : Int) (lx7 : Int) (v : (Int × Ob)) : ∀ (n : Nat) (lx4 : Int) (lx5 : Int) (lx8 : Int) (M : Ob), lX8_stand_55 lx1 lx2 lx6 lx7 n lx4 lx5 lx8 M = some v → X κ G 10 (W_M G q M) 55 [(0, .ref (q 31)), (1, vi lx1), (2, vi lx2), (4, vi lx4), (5, vi lx5), (6, vi lx6), (7, vi lx7), (8, vi lx8)] [] 0 0 (QM κ G (W_M G q v.2) (some (vi v.1)) rX8_stand.cells rX8_stand.slots) := by
  intro n
  induction n with
  | zero => intro _ _ _ _ h; exact absurd h (fun h => nomatch h)
  | succ n ih =>
    intro lx4 lx5 lx8 M h
    rw [lX8_stand_55] at h
    refine X.iload C dX8_stand_55 7 rfl ?_
    refine X.iload C dX8_stand_57 6 rfl ?_
    refine X.iload_n C dX8_stand_59 rfl 2 rfl ?_
    refine X.iadd C dX8_stand_60 ?_
    refine X.icmp_gt (tgt := 172) C h dX8_stand_61 (by decide) (fun h => ?_) (fun h => ?_)
    · refine X.iload C dX8_stand_172 3 rfl ?_
      cases h
      exact X.iret C dX8_stand_174 (Nat.zero_le _) (Nat.zero_le _)
    refine X.iload C dX8_stand_64 5 rfl ?_
    refine X.iload_n C dX8_stand_66 rfl 2 rfl ?_
    refine X.isub C dX8_stand_67 ?_
    refine X.istoreN (lv2 := fun lx9_6 => [(9, vi lx9_6), (0, .ref (q 31)), (1, vi lx1), (2, vi lx2), (4, vi lx4), (5, vi lx5), (6, vi lx6), (7, vi lx7), (8, vi lx8)]) C h dX8_stand_68 (by decide) (fun _ => rfl) (fun lx9_6 h => ?_)
    refine X.sub [1, 2, 3, 4, 5, 6, 7, 8, 0] rfl ?_
    refine xX8_stand_70 C q lx1 lx2 lx6 lx7 lx8 _ v (fun lx4_18 lx5_19 M_20 h => ?_) FU lx4 lx5 lx9_6 M h
    · refine X.iincN (lv2 := fun lx8_21 => [(8, vi lx8_21), (0, .ref (q 31)), (1, vi lx1), (2, vi lx2), (4, vi lx4_18), (5, vi lx5_19), (6, vi lx6), (7, vi lx7)]) C h dX8_stand_166 7 rfl (by decide) (fun _ => rfl) (fun lx8_21 h => ?_)
      refine X.goto (tgt := 55) C dX8_stand_169 (by decide) ?_
      refine X.sub [1, 2, 3, 4, 5, 6, 7, 0] rfl ?_
      exact ih lx4_18 lx5_19 lx8_21 M_20 h
set_option maxHeartbeats 4000000 in
set_option maxRecDepth 100000 in
theorem kX8_stand {l : Launch} {G : GT} (q : Nat → Nat) (M : Ob) (lx1 : Int) (lx2 : Int) (v : (Int × Ob)) (h : fX8_stand M lx1 lx2 = some v) : CT l G yX8_stand cX8_stand 10 (some .int) rX8_stand [.ref (q 31), vi lx1, vi lx2] (W_M G q M) (W_M G q v.2) (some (vi v.1)) := by
  unfold fX8_stand at h
  refine CT.of (by decide) (Nat.le_of_ble_eq_true rfl) rfl (fun κ _ C => ?_)
  refine X.iload_n C dX8_stand_0 rfl 2 rfl ?_
  refine X.i2l C dX8_stand_1 ?_
  refine X.lconst (z := 0) C dX8_stand_2 (by decide) ?_
  refine X.ldc2 (z := 3) C cl_X8_305 (by decide) dX8_stand_3 ?_
  refine X.callSi (As := [vl (jwl lx2), vl 0, vl 3]) (rest := []) (g := fun rr_1 => rr_1) (W1 := fun rr_1 => W_0) (ws2 := fun rr_1 => (W_M G q M)) C h dX8_stand_6 ml_X8_68 mX8_in (fun v hv => kX8_in (jwl lx2) 0 3 v hv) (fun rr_1 => ln_M_0__n (G := G) (q := q) (M := M)) rfl rfl rfl rfl rfl rfl (fun rr_1 h => ?_)
  refine X.if_ne (tgt := 15) C h dX8_stand_9 (by decide) (fun h => ?_) (fun h => ?_)
  · refine X.aload_n C dX8_stand_15 rfl 0 rfl ?_
    refine X.iload_n C dX8_stand_16 rfl 1 rfl ?_
    refine X.callVi (q0 := 0) (As := [vi lx1]) (rest := []) (g := fun rr_2 => rr_2) (W1 := fun rr_2 => (W_M G q M)) (ws2 := fun rr_2 => (W_M G q M)) C h dX8_stand_17 ml_X8_296 mX8_asks (fun v hv => kX8_asks q M lx1 v hv) (fun rr_2 => ln_M_M_m_n (G := G) (q := q) (M := M)) rfl rfl rfl rfl rfl rfl rfl rfl (fun rr_2 h => ?_)
    refine X.istore_n (lv2 := [(3, vi rr_2), (0, .ref (q 31)), (1, vi lx1), (2, vi lx2)]) C dX8_stand_20 rfl (by decide) rfl ?_
    refine X.iload_n C dX8_stand_21 rfl 0 rfl ?_
    refine X.if_ge (tgt := 27) C h dX8_stand_22 (by decide) (fun h => ?_) (fun h => ?_)
    · refine X.iconst C dX8_stand_27 ?_
      refine X.istore (lv2 := [(4, vi (-1)), (3, vi rr_2), (0, .ref (q 31)), (1, vi lx1), (2, vi lx2)]) C dX8_stand_28 (by decide) rfl ?_
      refine X.iconst C dX8_stand_30 ?_
      refine X.istore (lv2 := [(5, vi 0), (4, vi (-1)), (3, vi rr_2), (0, .ref (q 31)), (1, vi lx1), (2, vi lx2)]) C dX8_stand_31 (by decide) rfl ?_
      refine X.aload_n C dX8_stand_33 rfl 3 rfl ?_
      refine X.get C dX8_stand_34 lay_X8 0 rfl rfl 1 (by decide) fl_X8_13 rfl rfl ?_
      refine X.iconst C dX8_stand_37 ?_
      refine X.iald C h dX8_stand_38 1 rfl (fun h => ?_)
      refine X.istoreN (lv2 := fun lx6_3 => [(6, vi lx6_3), (5, vi 0), (4, vi (-1)), (3, vi rr_2), (0, .ref (q 31)), (1, vi lx1), (2, vi lx2)]) C h dX8_stand_39 (by decide) (fun _ => rfl) (fun lx6_3 h => ?_)
      refine X.aload_n C dX8_stand_41 rfl 4 rfl ?_
      refine X.get C dX8_stand_42 lay_X8 0 rfl rfl 1 (by decide) fl_X8_13 rfl rfl ?_
      refine X.iconst C dX8_stand_45 ?_
      refine X.iald C h dX8_stand_46 1 rfl (fun h => ?_)
      refine X.istoreN (lv2 := fun lx7_4 => [(7, vi lx7_4), (6, vi lx6_3), (5, vi 0), (4, vi (-1)), (3, vi rr_2), (0, .ref (q 31)), (1, vi lx1), (2, vi lx2)]) C h dX8_stand_47 (by decide) (fun _ => rfl) (fun lx7_4 h => ?_)
      refine X.iload C dX8_stand_49 0 rfl ?_
      refine X.iload_n C dX8_stand_51 rfl 7 rfl ?_
      refine X.isub C dX8_stand_52 ?_
      refine X.istoreN (lv2 := fun lx8_5 => [(8, vi lx8_5), (7, vi lx7_4), (6, vi lx6_3), (5, vi 0), (4, vi (-1)), (3, vi rr_2), (0, .ref (q 31)), (1, vi lx1), (2, vi lx2)]) C h dX8_stand_53 (by decide) (fun _ => rfl) (fun lx8_5 h => ?_)
      refine X.sub [6, 7, 8, 4, 3, 2, 1, 0] rfl ?_
      refine xX8_stand_55 C q lx1 lx2 lx6_3 lx7_4 v FU (-1) 0 lx8_5 M h
    refine X.iload_n C dX8_stand_25 rfl 0 rfl ?_
    cases h
    exact X.iret C dX8_stand_26 (Nat.zero_le _) (Nat.zero_le _)
  refine X.bipush C dX8_stand_12 (by decide) ?_
  cases h
  exact X.iret C dX8_stand_14 (Nat.zero_le _) (Nat.zero_le _)
def rX8_tall : Room := { frames := 8, cells := 0, slots := 0, locals := 204 }
theorem mX8_tall : MV yX8_tall cX8_tall 7 (some .int) 2 := ⟨cd_X8_tall, in_X8, ⟨⟨by decide, by decide⟩, by decide +kernel⟩, im_X8_tall, se_X8_tall⟩
set_option maxHeartbeats 4000000 in
set_option maxRecDepth 100000 in
theorem xX8_tall_89 {κ : Kx} {G : GT} (C : Cx κ G yX8_tall cX8_tall (some .int) 7 rX8_tall) (q : Nat → Nat) (kc0 : Int → Int → Int → Ob → Option (Int × Ob)) (M : Ob) (lx1 : Int) (lx2 : Int) (lx6 : Int) (v : (Int × Ob)) (hc0 : ∀ (lx4 : Int) (lx5 : Int) (lx6 : Int) (M : Ob), kc0 lx4 lx5 lx6 M = some v → X κ G 7 (W_M G q M) 36 [(0, .ref (q 31)), (1, vi lx1), (2, vi lx2), (4, vi lx4), (5, vi lx5), (6, vi lx6)] [] 0 0 (QM κ G (W_M G q v.2) (some (vi v.1)) rX8_tall.cells rX8_tall.slots)) (h : jX8_tall_89 kc0 M lx1 lx2 lx6 = some v) : X κ G 7 (W_M G q M) 89 [(0, .ref (q 31)), (1, vi lx1), (2, vi lx2), (6, vi lx6)] [] 0 0 (QM κ G (W_M G q v.2) (some (vi v.1)) rX8_tall.cells rX8_tall.slots) := by
  unfold jX8_tall_89 at h
  refine X.iload C dX8_tall_89 3 rfl ?_
  refine X.istore (lv2 := [(4, vi lx6), (0, .ref (q 31)), (1, vi lx1), (2, vi lx2), (6, vi lx6)]) C dX8_tall_91 (by decide) rfl ?_
  refine X.aload_n C dX8_tall_93 rfl 1 rfl ?_
  refine X.get C dX8_tall_94 lay_X8 0 rfl rfl 16 (by decide) fl_X8_40 rfl rfl ?_
  refine X.iconst C dX8_tall_97 ?_
  refine X.iald C h dX8_tall_98 8 rfl (fun h => ?_)
  refine X.istoreN (lv2 := fun lx5_5 => [(5, vi lx5_5), (4, vi lx6), (0, .ref (q 31)), (1, vi lx1), (2, vi lx2), (6, vi lx6)]) C h dX8_tall_99 (by decide) (fun _ => rfl) (fun lx5_5 h => ?_)
  refine X.iincN (lv2 := fun lx6_6 => [(6, vi lx6_6), (5, vi lx5_5), (4, vi lx6), (0, .ref (q 31)), (1, vi lx1), (2, vi lx2)]) C h dX8_tall_101 5 rfl (by decide) (fun _ => rfl) (fun lx6_6 h => ?_)
  refine X.goto (tgt := 36) C dX8_tall_104 (by decide) ?_
  refine X.sub [3, 4, 5, 2, 1, 0] rfl ?_
  exact hc0 lx6 lx5_5 lx6_6 M h
set_option maxHeartbeats 4000000 in
set_option maxRecDepth 100000 in
theorem xX8_tall_36 {κ : Kx} {G : GT} (C : Cx κ G yX8_tall cX8_tall (some .int) 7 rX8_tall) (q : Nat → Nat) (lx1 : Int) (lx2 : Int) (v : (Int × Ob)) : ∀ (n : Nat) (lx4 : Int) (lx5 : Int) (lx6 : Int) (M : Ob), lX8_tall_36 lx1 lx2 n lx4 lx5 lx6 M = some v → X κ G 7 (W_M G q M) 36 [(0, .ref (q 31)), (1, vi lx1), (2, vi lx2), (4, vi lx4), (5, vi lx5), (6, vi lx6)] [] 0 0 (QM κ G (W_M G q v.2) (some (vi v.1)) rX8_tall.cells rX8_tall.slots) := by
  intro n
  induction n with
  | zero => intro _ _ _ _ h; exact absurd h (fun h => nomatch h)
  | succ n ih =>
    intro lx4 lx5 lx6 M h
    rw [lX8_tall_36] at h
    refine X.iload C dX8_tall_36 5 rfl ?_
    refine X.bipush C dX8_tall_38 (by decide) ?_
    refine X.icmp_gt (tgt := 107) C h dX8_tall_40 (by decide) (fun h => ?_) (fun h => ?_)
    · refine X.iload C dX8_tall_107 3 rfl ?_
      cases h
      exact X.iret C dX8_tall_109 (Nat.zero_le _) (Nat.zero_le _)
    refine X.aload_n C dX8_tall_43 rfl 0 rfl ?_
    refine X.iload_n C dX8_tall_44 rfl 1 rfl ?_
    refine X.bipush C dX8_tall_45 (by decide) ?_
    refine X.iload C dX8_tall_47 5 rfl ?_
    refine X.callVv (q0 := 0) (As := [vi lx1, vi 6, vi lx6]) (rest := []) (W1 := fun rr_3 => (W_M G q rr_3)) (ws2 := fun rr_3 => (W_M G q rr_3)) C h dX8_tall_49 ml_X8_384 mX8_thinksBy (fun v hv => kX8_thinksBy q M lx1 6 lx6 v hv) (fun rr_3 => ln_M_M_m_M (G := G) (q := q) (M := M) (NM := rr_3)) rfl rfl rfl rfl rfl rfl rfl rfl (fun rr_3 h => ?_)
    refine X.aload_n C dX8_tall_52 rfl 0 rfl ?_
    refine X.get C dX8_tall_53 lay_X8 0 rfl rfl 16 (by decide) fl_X8_40 rfl rfl ?_
    refine X.iconst C dX8_tall_56 ?_
    refine X.iald C h dX8_tall_57 8 rfl (fun h => ?_)
    refine X.aload_n C dX8_tall_58 rfl 0 rfl ?_
    refine X.get C dX8_tall_59 lay_X8 0 rfl rfl 16 (by decide) fl_X8_40 rfl rfl ?_
    refine X.iconst C dX8_tall_62 ?_
    refine X.iald C h dX8_tall_63 8 rfl (fun h => ?_)
    refine X.iadd C dX8_tall_64 ?_
    refine X.iload_n C dX8_tall_65 rfl 2 rfl ?_
    refine X.icmp_gt (tgt := 101) C h dX8_tall_66 (by decide) (fun h => ?_) (fun h => ?_)
    · refine X.iincN (lv2 := fun lx6_4 => [(6, vi lx6_4), (0, .ref (q 31)), (1, vi lx1), (2, vi lx2), (4, vi lx4), (5, vi lx5)]) C h dX8_tall_101 5 rfl (by decide) (fun _ => rfl) (fun lx6_4 h => ?_)
      refine X.goto (tgt := 36) C dX8_tall_104 (by decide) ?_
      refine X.sub [1, 2, 3, 4, 5, 0] rfl ?_
      exact ih lx4 lx5 lx6_4 rr_3 h
    refine X.iload C dX8_tall_69 3 rfl ?_
    refine X.iconst C dX8_tall_71 ?_
    refine X.icmp_eq (tgt := 89) C h dX8_tall_72 (by decide) (fun h => ?_) (fun h => ?_)
    · refine X.sub [0, 1, 2, 5] rfl ?_
      exact xX8_tall_89 C q (lX8_tall_36 lx1 lx2 n) rr_3 lx1 lx2 lx6 v ih h
    refine X.aload_n C dX8_tall_75 rfl 0 rfl ?_
    refine X.get C dX8_tall_76 lay_X8 0 rfl rfl 16 (by decide) fl_X8_40 rfl rfl ?_
    refine X.iconst C dX8_tall_79 ?_
    refine X.iald C h dX8_tall_80 8 rfl (fun h => ?_)
    refine X.iload C dX8_tall_81 4 rfl ?_
    refine X.icmp_gt (tgt := 89) C h dX8_tall_83 (by decide) (fun h => ?_) (fun h => ?_)
    · refine X.sub [0, 1, 2, 5] rfl ?_
      exact xX8_tall_89 C q (lX8_tall_36 lx1 lx2 n) rr_3 lx1 lx2 lx6 v ih h
    refine X.goto (tgt := 101) C dX8_tall_86 (by decide) ?_
    refine X.iincN (lv2 := fun lx6_7 => [(6, vi lx6_7), (0, .ref (q 31)), (1, vi lx1), (2, vi lx2), (4, vi lx4), (5, vi lx5)]) C h dX8_tall_101 5 rfl (by decide) (fun _ => rfl) (fun lx6_7 h => ?_)
    refine X.goto (tgt := 36) C dX8_tall_104 (by decide) ?_
    refine X.sub [1, 2, 3, 4, 5, 0] rfl ?_
    exact ih lx4 lx5 lx6_7 rr_3 h
set_option maxHeartbeats 4000000 in
set_option maxRecDepth 100000 in
theorem kX8_tall {l : Launch} {G : GT} (q : Nat → Nat) (M : Ob) (lx1 : Int) (lx2 : Int) (v : (Int × Ob)) (h : fX8_tall M lx1 lx2 = some v) : CT l G yX8_tall cX8_tall 7 (some .int) rX8_tall [.ref (q 31), vi lx1, vi lx2] (W_M G q M) (W_M G q v.2) (some (vi v.1)) := by
  unfold fX8_tall at h
  refine CT.of (by decide) (Nat.le_of_ble_eq_true rfl) rfl (fun κ _ C => ?_)
  refine X.iload_n C dX8_tall_0 rfl 2 rfl ?_
  refine X.i2l C dX8_tall_1 ?_
  refine X.lconst (z := 0) C dX8_tall_2 (by decide) ?_
  refine X.ldc2 (z := 9999) C cl_X8_390 (by decide) dX8_tall_3 ?_
  refine X.callSi (As := [vl (jwl lx2), vl 0, vl 9999]) (rest := []) (g := fun rr_1 => rr_1) (W1 := fun rr_1 => W_0) (ws2 := fun rr_1 => (W_M G q M)) C h dX8_tall_6 ml_X8_68 mX8_in (fun v hv => kX8_in (jwl lx2) 0 9999 v hv) (fun rr_1 => ln_M_0__n (G := G) (q := q) (M := M)) rfl rfl rfl rfl rfl rfl (fun rr_1 h => ?_)
  refine X.if_ne (tgt := 15) C h dX8_tall_9 (by decide) (fun h => ?_) (fun h => ?_)
  · refine X.aload_n C dX8_tall_15 rfl 0 rfl ?_
    refine X.iload_n C dX8_tall_16 rfl 1 rfl ?_
    refine X.callVi (q0 := 0) (As := [vi lx1]) (rest := []) (g := fun rr_2 => rr_2) (W1 := fun rr_2 => (W_M G q M)) (ws2 := fun rr_2 => (W_M G q M)) C h dX8_tall_17 ml_X8_296 mX8_asks (fun v hv => kX8_asks q M lx1 v hv) (fun rr_2 => ln_M_M_m_n (G := G) (q := q) (M := M)) rfl rfl rfl rfl rfl rfl rfl rfl (fun rr_2 h => ?_)
    refine X.istore_n (lv2 := [(3, vi rr_2), (0, .ref (q 31)), (1, vi lx1), (2, vi lx2)]) C dX8_tall_20 rfl (by decide) rfl ?_
    refine X.iload_n C dX8_tall_21 rfl 0 rfl ?_
    refine X.if_ge (tgt := 27) C h dX8_tall_22 (by decide) (fun h => ?_) (fun h => ?_)
    · refine X.iconst C dX8_tall_27 ?_
      refine X.istore (lv2 := [(4, vi (-1)), (3, vi rr_2), (0, .ref (q 31)), (1, vi lx1), (2, vi lx2)]) C dX8_tall_28 (by decide) rfl ?_
      refine X.iconst C dX8_tall_30 ?_
      refine X.istore (lv2 := [(5, vi 0), (4, vi (-1)), (3, vi rr_2), (0, .ref (q 31)), (1, vi lx1), (2, vi lx2)]) C dX8_tall_31 (by decide) rfl ?_
      refine X.iconst C dX8_tall_33 ?_
      refine X.istore (lv2 := [(6, vi 0), (5, vi 0), (4, vi (-1)), (3, vi rr_2), (0, .ref (q 31)), (1, vi lx1), (2, vi lx2)]) C dX8_tall_34 (by decide) rfl ?_
      refine X.sub [4, 5, 6, 2, 1, 0] rfl ?_
      refine xX8_tall_36 C q lx1 lx2 v FU (-1) 0 0 M h
    refine X.iload_n C dX8_tall_25 rfl 0 rfl ?_
    cases h
    exact X.iret C dX8_tall_26 (Nat.zero_le _) (Nat.zero_le _)
  refine X.bipush C dX8_tall_12 (by decide) ?_
  cases h
  exact X.iret C dX8_tall_14 (Nat.zero_le _) (Nat.zero_le _)
def rX8_pays : Room := { frames := 8, cells := 0, slots := 0, locals := 204 }
theorem mX8_pays : MV yX8_pays cX8_pays 8 (some .int) 2 := ⟨cd_X8_pays, in_X8, ⟨⟨by decide, by decide⟩, by decide +kernel⟩, im_X8_pays, se_X8_pays⟩
set_option maxHeartbeats 4000000 in
set_option maxRecDepth 100000 in
theorem xX8_pays_36 {κ : Kx} {G : GT} (C : Cx κ G yX8_pays cX8_pays (some .int) 8 rX8_pays) (q : Nat → Nat) (lx1 : Int) (lx2 : Int) (v : (Int × Ob)) : ∀ (n : Nat) (lx4 : Int) (lx5 : Int) (lx6 : Int) (M : Ob), lX8_pays_36 lx1 lx2 n lx4 lx5 lx6 M = some v → X κ G 8 (W_M G q M) 36 [(0, .ref (q 31)), (1, vi lx1), (2, vi lx2), (4, vi lx4), (5, vi lx5), (6, vi lx6)] [] 0 0 (QM κ G (W_M G q v.2) (some (vi v.1)) rX8_pays.cells rX8_pays.slots) := by
  intro n
  induction n with
  | zero => intro _ _ _ _ h; exact absurd h (fun h => nomatch h)
  | succ n ih =>
    intro lx4 lx5 lx6 M h
    rw [lX8_pays_36] at h
    refine X.iload C dX8_pays_36 5 rfl ?_
    refine X.bipush C dX8_pays_38 (by decide) ?_
    refine X.icmp_gt (tgt := 99) C h dX8_pays_40 (by decide) (fun h => ?_) (fun h => ?_)
    · refine X.iload C dX8_pays_99 3 rfl ?_
      cases h
      exact X.iret C dX8_pays_101 (Nat.zero_le _) (Nat.zero_le _)
    refine X.aload_n C dX8_pays_43 rfl 0 rfl ?_
    refine X.iload_n C dX8_pays_44 rfl 1 rfl ?_
    refine X.bipush C dX8_pays_45 (by decide) ?_
    refine X.iload C dX8_pays_47 5 rfl ?_
    refine X.callVv (q0 := 0) (As := [vi lx1, vi 6, vi lx6]) (rest := []) (W1 := fun rr_3 => (W_M G q rr_3)) (ws2 := fun rr_3 => (W_M G q rr_3)) C h dX8_pays_49 ml_X8_384 mX8_thinksBy (fun v hv => kX8_thinksBy q M lx1 6 lx6 v hv) (fun rr_3 => ln_M_M_m_M (G := G) (q := q) (M := M) (NM := rr_3)) rfl rfl rfl rfl rfl rfl rfl rfl (fun rr_3 h => ?_)
    refine X.aload_n C dX8_pays_52 rfl 0 rfl ?_
    refine X.get C dX8_pays_53 lay_X8 0 rfl rfl 16 (by decide) fl_X8_40 rfl rfl ?_
    refine X.iconst C dX8_pays_56 ?_
    refine X.iald C h dX8_pays_57 8 rfl (fun h => ?_)
    refine X.iload_n C dX8_pays_58 rfl 2 rfl ?_
    refine X.aload_n C dX8_pays_59 rfl 0 rfl ?_
    refine X.get C dX8_pays_60 lay_X8 0 rfl rfl 16 (by decide) fl_X8_40 rfl rfl ?_
    refine X.iconst C dX8_pays_63 ?_
    refine X.iald C h dX8_pays_64 8 rfl (fun h => ?_)
    refine X.imul C dX8_pays_65 ?_
    refine X.isub C dX8_pays_66 ?_
    refine X.istoreN (lv2 := fun lx7_4 => [(7, vi lx7_4), (0, .ref (q 31)), (1, vi lx1), (2, vi lx2), (4, vi lx4), (5, vi lx5), (6, vi lx6)]) C h dX8_pays_67 (by decide) (fun _ => rfl) (fun lx7_4 h => ?_)
    refine X.iload C dX8_pays_69 4 rfl ?_
    refine X.iconst C dX8_pays_71 ?_
    refine X.icmp_eq (tgt := 85) C h dX8_pays_72 (by decide) (fun h => ?_) (fun h => ?_)
    · refine X.iload C dX8_pays_85 6 rfl ?_
      refine X.istore (lv2 := [(4, vi lx6), (7, vi lx7_4), (0, .ref (q 31)), (1, vi lx1), (2, vi lx2), (5, vi lx5), (6, vi lx6)]) C dX8_pays_87 (by decide) rfl ?_
      refine X.iload C dX8_pays_89 1 rfl ?_
      refine X.istore (lv2 := [(5, vi lx7_4), (4, vi lx6), (7, vi lx7_4), (0, .ref (q 31)), (1, vi lx1), (2, vi lx2), (6, vi lx6)]) C dX8_pays_91 (by decide) rfl ?_
      refine X.iincN (lv2 := fun lx6_5 => [(6, vi lx6_5), (5, vi lx7_4), (4, vi lx6), (7, vi lx7_4), (0, .ref (q 31)), (1, vi lx1), (2, vi lx2)]) C h dX8_pays_93 6 rfl (by decide) (fun _ => rfl) (fun lx6_5 h => ?_)
      refine X.goto (tgt := 36) C dX8_pays_96 (by decide) ?_
      refine X.sub [4, 5, 6, 2, 1, 0] rfl ?_
      exact ih lx6 lx7_4 lx6_5 rr_3 h
    refine X.iload C dX8_pays_75 0 rfl ?_
    refine X.iload C dX8_pays_77 5 rfl ?_
    refine X.icmp_gt (tgt := 85) C h dX8_pays_79 (by decide) (fun h => ?_) (fun h => ?_)
    · refine X.iload C dX8_pays_85 6 rfl ?_
      refine X.istore (lv2 := [(4, vi lx6), (7, vi lx7_4), (0, .ref (q 31)), (1, vi lx1), (2, vi lx2), (5, vi lx5), (6, vi lx6)]) C dX8_pays_87 (by decide) rfl ?_
      refine X.iload C dX8_pays_89 1 rfl ?_
      refine X.istore (lv2 := [(5, vi lx7_4), (4, vi lx6), (7, vi lx7_4), (0, .ref (q 31)), (1, vi lx1), (2, vi lx2), (6, vi lx6)]) C dX8_pays_91 (by decide) rfl ?_
      refine X.iincN (lv2 := fun lx6_6 => [(6, vi lx6_6), (5, vi lx7_4), (4, vi lx6), (7, vi lx7_4), (0, .ref (q 31)), (1, vi lx1), (2, vi lx2)]) C h dX8_pays_93 6 rfl (by decide) (fun _ => rfl) (fun lx6_6 h => ?_)
      refine X.goto (tgt := 36) C dX8_pays_96 (by decide) ?_
      refine X.sub [4, 5, 6, 2, 1, 0] rfl ?_
      exact ih lx6 lx7_4 lx6_6 rr_3 h
    refine X.goto (tgt := 93) C dX8_pays_82 (by decide) ?_
    refine X.iincN (lv2 := fun lx6_7 => [(6, vi lx6_7), (7, vi lx7_4), (0, .ref (q 31)), (1, vi lx1), (2, vi lx2), (4, vi lx4), (5, vi lx5)]) C h dX8_pays_93 6 rfl (by decide) (fun _ => rfl) (fun lx6_7 h => ?_)
    refine X.goto (tgt := 36) C dX8_pays_96 (by decide) ?_
    refine X.sub [2, 3, 4, 5, 6, 0] rfl ?_
    exact ih lx4 lx5 lx6_7 rr_3 h
set_option maxHeartbeats 4000000 in
set_option maxRecDepth 100000 in
theorem kX8_pays {l : Launch} {G : GT} (q : Nat → Nat) (M : Ob) (lx1 : Int) (lx2 : Int) (v : (Int × Ob)) (h : fX8_pays M lx1 lx2 = some v) : CT l G yX8_pays cX8_pays 8 (some .int) rX8_pays [.ref (q 31), vi lx1, vi lx2] (W_M G q M) (W_M G q v.2) (some (vi v.1)) := by
  unfold fX8_pays at h
  refine CT.of (by decide) (Nat.le_of_ble_eq_true rfl) rfl (fun κ _ C => ?_)
  refine X.iload_n C dX8_pays_0 rfl 2 rfl ?_
  refine X.i2l C dX8_pays_1 ?_
  refine X.lconst (z := 0) C dX8_pays_2 (by decide) ?_
  refine X.ldc2 (z := 99) C cl_X8_349 (by decide) dX8_pays_3 ?_
  refine X.callSi (As := [vl (jwl lx2), vl 0, vl 99]) (rest := []) (g := fun rr_1 => rr_1) (W1 := fun rr_1 => W_0) (ws2 := fun rr_1 => (W_M G q M)) C h dX8_pays_6 ml_X8_68 mX8_in (fun v hv => kX8_in (jwl lx2) 0 99 v hv) (fun rr_1 => ln_M_0__n (G := G) (q := q) (M := M)) rfl rfl rfl rfl rfl rfl (fun rr_1 h => ?_)
  refine X.if_ne (tgt := 15) C h dX8_pays_9 (by decide) (fun h => ?_) (fun h => ?_)
  · refine X.aload_n C dX8_pays_15 rfl 0 rfl ?_
    refine X.iload_n C dX8_pays_16 rfl 1 rfl ?_
    refine X.callVi (q0 := 0) (As := [vi lx1]) (rest := []) (g := fun rr_2 => rr_2) (W1 := fun rr_2 => (W_M G q M)) (ws2 := fun rr_2 => (W_M G q M)) C h dX8_pays_17 ml_X8_296 mX8_asks (fun v hv => kX8_asks q M lx1 v hv) (fun rr_2 => ln_M_M_m_n (G := G) (q := q) (M := M)) rfl rfl rfl rfl rfl rfl rfl rfl (fun rr_2 h => ?_)
    refine X.istore_n (lv2 := [(3, vi rr_2), (0, .ref (q 31)), (1, vi lx1), (2, vi lx2)]) C dX8_pays_20 rfl (by decide) rfl ?_
    refine X.iload_n C dX8_pays_21 rfl 0 rfl ?_
    refine X.if_ge (tgt := 27) C h dX8_pays_22 (by decide) (fun h => ?_) (fun h => ?_)
    · refine X.iconst C dX8_pays_27 ?_
      refine X.istore (lv2 := [(4, vi (-1)), (3, vi rr_2), (0, .ref (q 31)), (1, vi lx1), (2, vi lx2)]) C dX8_pays_28 (by decide) rfl ?_
      refine X.iconst C dX8_pays_30 ?_
      refine X.istore (lv2 := [(5, vi 0), (4, vi (-1)), (3, vi rr_2), (0, .ref (q 31)), (1, vi lx1), (2, vi lx2)]) C dX8_pays_31 (by decide) rfl ?_
      refine X.iconst C dX8_pays_33 ?_
      refine X.istore (lv2 := [(6, vi 0), (5, vi 0), (4, vi (-1)), (3, vi rr_2), (0, .ref (q 31)), (1, vi lx1), (2, vi lx2)]) C dX8_pays_34 (by decide) rfl ?_
      refine X.sub [4, 5, 6, 2, 1, 0] rfl ?_
      refine xX8_pays_36 C q lx1 lx2 v FU (-1) 0 0 M h
    refine X.iload_n C dX8_pays_25 rfl 0 rfl ?_
    cases h
    exact X.iret C dX8_pays_26 (Nat.zero_le _) (Nat.zero_le _)
  refine X.bipush C dX8_pays_12 (by decide) ?_
  cases h
  exact X.iret C dX8_pays_14 (Nat.zero_le _) (Nat.zero_le _)
def rX8_dry : Room := { frames := 7, cells := 0, slots := 0, locals := 181 }
theorem mX8_dry : MV yX8_dry cX8_dry 5 (some .int) 1 := ⟨cd_X8_dry, in_X8, ⟨⟨by decide, by decide⟩, by decide +kernel⟩, im_X8_dry, se_X8_dry⟩
set_option maxHeartbeats 4000000 in
set_option maxRecDepth 100000 in
theorem xX8_dry_26 {κ : Kx} {G : GT} (C : Cx κ G yX8_dry cX8_dry (some .int) 5 rX8_dry) (q : Nat → Nat) (M : Ob) (kx0 : Int → Option (Int × Ob)) (v : (Int × Ob)) (hk0 : ∀ (lx3 : Int), kx0 lx3 = some v → X κ G 5 (W_M G q M) 91 [(0, .ref (q 31)), (3, vi lx3)] [] 0 0 (QM κ G (W_M G q v.2) (some (vi v.1)) rX8_dry.cells rX8_dry.slots)) : ∀ (n : Nat) (lx3 : Int) (lx4 : Int), lX8_dry_26 M kx0 n lx3 lx4 = some v → X κ G 5 (W_M G q M) 26 [(0, .ref (q 31)), (3, vi lx3), (4, vi lx4)] [] 0 0 (QM κ G (W_M G q v.2) (some (vi v.1)) rX8_dry.cells rX8_dry.slots) := by
  intro n
  induction n with
  | zero => intro _ _ h; exact absurd h (fun h => nomatch h)
  | succ n ih =>
    intro lx3 lx4 h
    rw [lX8_dry_26] at h
    refine X.iload C dX8_dry_26 2 rfl ?_
    refine X.aload_n C dX8_dry_28 rfl 0 rfl ?_
    refine X.get C dX8_dry_29 lay_X8 0 rfl rfl 1 (by decide) fl_X8_13 rfl rfl ?_
    refine X.bipush C dX8_dry_32 (by decide) ?_
    refine X.iald C h dX8_dry_34 1 rfl (fun h => ?_)
    refine X.icmp_ge (tgt := 91) C h dX8_dry_35 (by decide) (fun h => ?_) (fun h => ?_)
    · refine X.sub [0, 1] rfl ?_
      exact hk0 lx3 h
    refine X.iload_n C dX8_dry_38 rfl 1 rfl ?_
    refine X.aload_n C dX8_dry_39 rfl 0 rfl ?_
    refine X.iload C dX8_dry_40 2 rfl ?_
    refine X.callVi (q0 := 0) (As := [vi lx4]) (rest := [vi lx3]) (g := fun rr_4 => rr_4) (W1 := fun rr_4 => (W_M G q M)) (ws2 := fun rr_4 => (W_M G q M)) C h dX8_dry_42 ml_X8_307 mX8_wetAt (fun v hv => kX8_wetAt q M lx4 v hv) (fun rr_4 => ln_M_M_m_n (G := G) (q := q) (M := M)) rfl rfl rfl rfl rfl rfl rfl rfl (fun rr_4 h => ?_)
    refine X.aload_n C dX8_dry_45 rfl 0 rfl ?_
    refine X.get C dX8_dry_46 lay_X8 0 rfl rfl 15 (by decide) fl_X8_37 rfl rfl ?_
    refine X.sipush C dX8_dry_49 (by decide) ?_
    refine X.bipush C dX8_dry_52 (by decide) ?_
    refine X.aload_n C dX8_dry_54 rfl 0 rfl ?_
    refine X.iload C dX8_dry_55 2 rfl ?_
    refine X.iconst C dX8_dry_57 ?_
    refine X.callVi (q0 := 0) (As := [vi lx4, vi 1]) (rest := [vi 30, vi 519, .ref (q 15), vi rr_4, vi lx3]) (g := fun rr_5 => rr_5) (W1 := fun rr_5 => (W_M G q M)) (ws2 := fun rr_5 => (W_M G q M)) C h dX8_dry_58 ml_X8_72 mX8_ofTable (fun v hv => kX8_ofTable q M lx4 1 v hv) (fun rr_5 => ln_M_M_m_n (G := G) (q := q) (M := M)) rfl rfl rfl rfl rfl rfl rfl rfl (fun rr_5 h => ?_)
    refine X.imul C dX8_dry_61 ?_
    refine X.iadd C dX8_dry_62 ?_
    refine X.aload_n C dX8_dry_63 rfl 0 rfl ?_
    refine X.iload C dX8_dry_64 2 rfl ?_
    refine X.iconst C dX8_dry_66 ?_
    refine X.callVi (q0 := 0) (As := [vi lx4, vi 0]) (rest := [vi (519 + (30 * rr_5)), .ref (q 15), vi rr_4, vi lx3]) (g := fun rr_6 => rr_6) (W1 := fun rr_6 => (W_M G q M)) (ws2 := fun rr_6 => (W_M G q M)) C h dX8_dry_67 ml_X8_72 mX8_ofTable (fun v hv => kX8_ofTable q M lx4 0 v hv) (fun rr_6 => ln_M_M_m_n (G := G) (q := q) (M := M)) rfl rfl rfl rfl rfl rfl rfl rfl (fun rr_6 h => ?_)
    refine X.iadd C dX8_dry_70 ?_
    refine X.iald C h dX8_dry_71 7 rfl (fun h => ?_)
    refine X.icmp_gt (tgt := 82) C h dX8_dry_72 (by decide) (fun h => ?_) (fun h => ?_)
    · refine X.iconst C dX8_dry_82 ?_
      refine X.ior C dX8_dry_83 ?_
      refine X.istoreN_n (lv2 := fun lx3_7 => [(3, vi lx3_7), (0, .ref (q 31)), (4, vi lx4)]) C h dX8_dry_84 rfl (by decide) (fun _ => rfl) (fun lx3_7 h => ?_)
      refine X.iincN (lv2 := fun lx4_8 => [(4, vi lx4_8), (3, vi lx3_7), (0, .ref (q 31))]) C h dX8_dry_85 2 rfl (by decide) (fun _ => rfl) (fun lx4_8 h => ?_)
      refine X.goto (tgt := 26) C dX8_dry_88 (by decide) ?_
      refine X.sub [2, 1, 0] rfl ?_
      exact ih lx3_7 lx4_8 h
    refine X.iconst C dX8_dry_75 ?_
    refine X.iload C dX8_dry_76 2 rfl ?_
    refine X.ishl C dX8_dry_78 ?_
    refine X.goto (tgt := 83) C dX8_dry_79 (by decide) ?_
    refine X.ior C dX8_dry_83 ?_
    refine X.istoreN_n (lv2 := fun lx3_9 => [(3, vi lx3_9), (0, .ref (q 31)), (4, vi lx4)]) C h dX8_dry_84 rfl (by decide) (fun _ => rfl) (fun lx3_9 h => ?_)
    refine X.iincN (lv2 := fun lx4_10 => [(4, vi lx4_10), (3, vi lx3_9), (0, .ref (q 31))]) C h dX8_dry_85 2 rfl (by decide) (fun _ => rfl) (fun lx4_10 h => ?_)
    refine X.goto (tgt := 26) C dX8_dry_88 (by decide) ?_
    refine X.sub [2, 1, 0] rfl ?_
    exact ih lx3_9 lx4_10 h
set_option maxHeartbeats 4000000 in
set_option maxRecDepth 100000 in
theorem kX8_dry {l : Launch} {G : GT} (q : Nat → Nat) (M : Ob) (lx1 : Int) (v : (Int × Ob)) (h : fX8_dry M lx1 = some v) : CT l G yX8_dry cX8_dry 5 (some .int) rX8_dry [.ref (q 31), vi lx1] (W_M G q M) (W_M G q v.2) (some (vi v.1)) := by
  unfold fX8_dry at h
  refine CT.of (by decide) (Nat.le_of_ble_eq_true rfl) rfl (fun κ _ C => ?_)
  refine X.aload_n C dX8_dry_0 rfl 0 rfl ?_
  refine X.iload_n C dX8_dry_1 rfl 1 rfl ?_
  refine X.callVi (q0 := 0) (As := [vi lx1]) (rest := []) (g := fun rr_1 => rr_1) (W1 := fun rr_1 => (W_M G q M)) (ws2 := fun rr_1 => (W_M G q M)) C h dX8_dry_2 ml_X8_296 mX8_asks (fun v hv => kX8_asks q M lx1 v hv) (fun rr_1 => ln_M_M_m_n (G := G) (q := q) (M := M)) rfl rfl rfl rfl rfl rfl rfl rfl (fun rr_1 h => ?_)
  refine X.istore_n (lv2 := [(2, vi rr_1), (0, .ref (q 31)), (1, vi lx1)]) C dX8_dry_5 rfl (by decide) rfl ?_
  refine X.iload_n C dX8_dry_6 rfl 0 rfl ?_
  refine X.if_ge (tgt := 12) C h dX8_dry_7 (by decide) (fun h => ?_) (fun h => ?_)
  · refine X.aload_n C dX8_dry_12 rfl 1 rfl ?_
    refine X.callVv (q0 := 0) (As := []) (rest := []) (W1 := fun rr_2 => (W_M G q rr_2)) (ws2 := fun rr_2 => (W_M G q rr_2)) C h dX8_dry_13 ml_X8_370 mX8_thinks (fun v hv => kX8_thinks q M v hv) (fun rr_2 => ln_M_M_m_M (G := G) (q := q) (M := M) (NM := rr_2)) rfl rfl rfl rfl rfl rfl rfl rfl (fun rr_2 h => ?_)
    refine X.aload_n C dX8_dry_16 rfl 1 rfl ?_
    refine X.iload_n C dX8_dry_17 rfl 2 rfl ?_
    refine X.callVv (q0 := 0) (As := [vi lx1]) (rest := []) (W1 := fun rr_3 => (W_M G q rr_3)) (ws2 := fun rr_3 => (W_M G q rr_3)) C h dX8_dry_18 ml_X8_373 mX8_goesDown (fun v hv => kX8_goesDown q rr_2 lx1 v hv) (fun rr_3 => ln_M_M_m_M (G := G) (q := q) (M := rr_2) (NM := rr_3)) rfl rfl rfl rfl rfl rfl rfl rfl (fun rr_3 h => ?_)
    refine X.iconst C dX8_dry_21 ?_
    refine X.istore_n (lv2 := [(3, vi 0), (2, vi rr_1), (0, .ref (q 31)), (1, vi lx1)]) C dX8_dry_22 rfl (by decide) rfl ?_
    refine X.iconst C dX8_dry_23 ?_
    refine X.istore (lv2 := [(4, vi 0), (3, vi 0), (2, vi rr_1), (0, .ref (q 31)), (1, vi lx1)]) C dX8_dry_24 (by decide) rfl ?_
    refine X.sub [3, 1, 0] rfl ?_
    refine xX8_dry_26 C q rr_3 _ v (fun lx3_11 h => ?_) FU 0 0 h
    · refine X.aload_n C dX8_dry_91 rfl 0 rfl ?_
      refine X.callVv (q0 := 0) (As := []) (rest := []) (W1 := fun rr_12 => (W_M G q rr_12)) (ws2 := fun rr_12 => (W_M G q rr_12)) C h dX8_dry_92 ml_X8_376 mX8_wakes (fun v hv => kX8_wakes q rr_3 v hv) (fun rr_12 => ln_M_M_m_M (G := G) (q := q) (M := rr_3) (NM := rr_12)) rfl rfl rfl rfl rfl rfl rfl rfl (fun rr_12 h => ?_)
      refine X.iload_n C dX8_dry_95 rfl 1 rfl ?_
      cases h
      exact X.iret C dX8_dry_96 (Nat.zero_le _) (Nat.zero_le _)
  refine X.iload_n C dX8_dry_10 rfl 0 rfl ?_
  cases h
  exact X.iret C dX8_dry_11 (Nat.zero_le _) (Nat.zero_le _)
def rX8_week : Room := { frames := 8, cells := 0, slots := 0, locals := 204 }
theorem mX8_week : MV yX8_week cX8_week 4 (some .int) 3 := ⟨cd_X8_week, in_X8, ⟨⟨by decide, by decide⟩, by decide +kernel⟩, im_X8_week, se_X8_week⟩
set_option maxHeartbeats 4000000 in
set_option maxRecDepth 100000 in
theorem kX8_week {l : Launch} {G : GT} (q : Nat → Nat) (M : Ob) (lx1 : Int) (lx2 : Int) (lx3 : Int) (v : (Int × Ob)) (h : fX8_week M lx1 lx2 lx3 = some v) : CT l G yX8_week cX8_week 4 (some .int) rX8_week [.ref (q 31), vi lx1, vi lx2, vi lx3] (W_M G q M) (W_M G q v.2) (some (vi v.1)) := by
  unfold fX8_week at h
  refine CT.of (by decide) (Nat.le_of_ble_eq_true rfl) rfl (fun κ _ C => ?_)
  refine X.aload_n C dX8_week_0 rfl 0 rfl ?_
  refine X.iload_n C dX8_week_1 rfl 1 rfl ?_
  refine X.iload_n C dX8_week_2 rfl 3 rfl ?_
  refine X.callVi (q0 := 0) (As := [vi lx1, vi lx3]) (rest := []) (g := fun rr_1 => rr_1) (W1 := fun rr_1 => (W_M G q M)) (ws2 := fun rr_1 => (W_M G q M)) C h dX8_week_3 ml_X8_381 mX8_isThought (fun v hv => kX8_isThought q M lx1 lx3 v hv) (fun rr_1 => ln_M_M_m_n (G := G) (q := q) (M := M)) rfl rfl rfl rfl rfl rfl rfl rfl (fun rr_1 h => ?_)
  refine X.if_eq (tgt := 21) C h dX8_week_6 (by decide) (fun h => ?_) (fun h => ?_)
  · refine X.ldc_w (z := (-1000000)) C ct_X8_369 (by decide) dX8_week_21 ?_
    cases h
    exact X.iret C dX8_week_24 (Nat.zero_le _) (Nat.zero_le _)
  refine X.iload_n C dX8_week_9 rfl 2 rfl ?_
  refine X.i2l C dX8_week_10 ?_
  refine X.lconst (z := 1) C dX8_week_11 (by decide) ?_
  refine X.ldc2 (z := 10) C cl_X8_392 (by decide) dX8_week_12 ?_
  refine X.callSi (As := [vl (jwl lx2), vl 1, vl 10]) (rest := []) (g := fun rr_2 => rr_2) (W1 := fun rr_2 => W_0) (ws2 := fun rr_2 => (W_M G q M)) C h dX8_week_15 ml_X8_68 mX8_in (fun v hv => kX8_in (jwl lx2) 1 10 v hv) (fun rr_2 => ln_M_0__n (G := G) (q := q) (M := M)) rfl rfl rfl rfl rfl rfl (fun rr_2 h => ?_)
  refine X.if_ne (tgt := 25) C h dX8_week_18 (by decide) (fun h => ?_) (fun h => ?_)
  · refine X.aload_n C dX8_week_25 rfl 0 rfl ?_
    refine X.iload_n C dX8_week_26 rfl 1 rfl ?_
    refine X.bipush C dX8_week_27 (by decide) ?_
    refine X.iload_n C dX8_week_29 rfl 2 rfl ?_
    refine X.callVv (q0 := 0) (As := [vi lx1, vi 24, vi lx2]) (rest := []) (W1 := fun rr_3 => (W_M G q rr_3)) (ws2 := fun rr_3 => (W_M G q rr_3)) C h dX8_week_30 ml_X8_384 mX8_thinksBy (fun v hv => kX8_thinksBy q M lx1 24 lx2 v hv) (fun rr_3 => ln_M_M_m_M (G := G) (q := q) (M := M) (NM := rr_3)) rfl rfl rfl rfl rfl rfl rfl rfl (fun rr_3 h => ?_)
    refine X.aload_n C dX8_week_33 rfl 0 rfl ?_
    refine X.get C dX8_week_34 lay_X8 0 rfl rfl 16 (by decide) fl_X8_40 rfl rfl ?_
    refine X.iload_n C dX8_week_37 rfl 3 rfl ?_
    refine X.iald C h dX8_week_38 8 rfl (fun h => ?_)
    cases h
    exact X.iret C dX8_week_39 (Nat.zero_le _) (Nat.zero_le _)
  refine X.ldc_w (z := (-1000000)) C ct_X8_369 (by decide) dX8_week_21 ?_
  cases h
  exact X.iret C dX8_week_24 (Nat.zero_le _) (Nat.zero_le _)
def rX8_throughOf : Room := { frames := 2, cells := 0, slots := 0, locals := 52 }
theorem mX8_throughOf : MV yX8_throughOf cX8_throughOf 3 (some .int) 2 := ⟨cd_X8_throughOf, in_X8, ⟨⟨by decide, by decide⟩, by decide +kernel⟩, im_X8_throughOf, se_X8_throughOf⟩
set_option maxHeartbeats 4000000 in
set_option maxRecDepth 100000 in
theorem kX8_throughOf {l : Launch} {G : GT} (q : Nat → Nat) (M : Ob) (lx1 : Int) (lx2 : Int) (v : (Int)) (h : fX8_throughOf M lx1 lx2 = some v) : CT l G yX8_throughOf cX8_throughOf 3 (some .int) rX8_throughOf [.ref (q 31), vi lx1, vi lx2] (W_M G q M) (W_M G q M) (some (vi v)) := by
  unfold fX8_throughOf at h
  refine CT.of (by decide) (Nat.le_of_ble_eq_true rfl) rfl (fun κ _ C => ?_)
  refine X.aload_n C dX8_throughOf_0 rfl 0 rfl ?_
  refine X.iload_n C dX8_throughOf_1 rfl 1 rfl ?_
  refine X.iload_n C dX8_throughOf_2 rfl 2 rfl ?_
  refine X.callVi (q0 := 0) (As := [vi lx1, vi lx2]) (rest := []) (g := fun rr_1 => rr_1) (W1 := fun rr_1 => (W_M G q M)) (ws2 := fun rr_1 => (W_M G q M)) C h dX8_throughOf_3 ml_X8_248 mX8_isCell (fun v hv => kX8_isCell q M lx1 lx2 v hv) (fun rr_1 => ln_M_M_m_n (G := G) (q := q) (M := M)) rfl rfl rfl rfl rfl rfl rfl rfl (fun rr_1 h => ?_)
  refine X.if_eq (tgt := 32) C h dX8_throughOf_6 (by decide) (fun h => ?_) (fun h => ?_)
  · refine X.ldc_w (z := 1000000000) C ct_X8_394 (by decide) dX8_throughOf_32 ?_
    cases h
    exact X.iret C dX8_throughOf_35 (Nat.zero_le _) (Nat.zero_le _)
  refine X.aload_n C dX8_throughOf_9 rfl 0 rfl ?_
  refine X.iload_n C dX8_throughOf_10 rfl 1 rfl ?_
  refine X.iload_n C dX8_throughOf_11 rfl 2 rfl ?_
  refine X.callVi (q0 := 0) (As := [vi lx1, vi lx2]) (rest := []) (g := fun rr_2 => rr_2) (W1 := fun rr_2 => (W_M G q M)) (ws2 := fun rr_2 => (W_M G q M)) C h dX8_throughOf_12 ml_X8_232 mX8_isBasin (fun v hv => kX8_isBasin q M lx1 lx2 v hv) (fun rr_2 => ln_M_M_m_n (G := G) (q := q) (M := M)) rfl rfl rfl rfl rfl rfl rfl rfl (fun rr_2 h => ?_)
  refine X.if_ne (tgt := 32) C h dX8_throughOf_15 (by decide) (fun h => ?_) (fun h => ?_)
  · refine X.ldc_w (z := 1000000000) C ct_X8_394 (by decide) dX8_throughOf_32 ?_
    cases h
    exact X.iret C dX8_throughOf_35 (Nat.zero_le _) (Nat.zero_le _)
  refine X.aload_n C dX8_throughOf_18 rfl 0 rfl ?_
  refine X.get C dX8_throughOf_19 lay_X8 0 rfl rfl 17 (by decide) fl_X8_43 rfl rfl ?_
  refine X.bipush C dX8_throughOf_22 (by decide) ?_
  refine X.iload_n C dX8_throughOf_24 rfl 2 rfl ?_
  refine X.imul C dX8_throughOf_25 ?_
  refine X.iload_n C dX8_throughOf_26 rfl 1 rfl ?_
  refine X.iadd C dX8_throughOf_27 ?_
  refine X.iald C h dX8_throughOf_28 9 rfl (fun h => ?_)
  refine X.goto (tgt := 35) C dX8_throughOf_29 (by decide) ?_
  cases h
  exact X.iret C dX8_throughOf_35 (Nat.zero_le _) (Nat.zero_le _)
def rX8_spreads : Room := { frames := 3, cells := 0, slots := 0, locals := 74 }
theorem mX8_spreads : MV yX8_spreads cX8_spreads 5 (some .boolean) 0 := ⟨cd_X8_spreads, in_X8, ⟨⟨by decide, by decide⟩, by decide +kernel⟩, im_X8_spreads, se_X8_spreads⟩
set_option maxHeartbeats 4000000 in
set_option maxRecDepth 100000 in
theorem xX8_spreads_16 {κ : Kx} {G : GT} (C : Cx κ G yX8_spreads cX8_spreads (some .boolean) 5 rX8_spreads) (q : Nat → Nat) (lx2 : Int) (kx0 : Int → Ob → Option (Int × Ob)) (v : (Int × Ob)) (hk0 : ∀ (lx1 : Int) (M : Ob), kx0 lx1 M = some v → X κ G 5 (W_M G q M) 128 [(0, .ref (q 31)), (1, vi lx1), (2, vi lx2)] [] 0 0 (QM κ G (W_M G q v.2) (some (vi v.1)) rX8_spreads.cells rX8_spreads.slots)) : ∀ (n : Nat) (lx1 : Int) (lx3 : Int) (M : Ob), lX8_spreads_16 lx2 kx0 n lx1 lx3 M = some v → X κ G 5 (W_M G q M) 16 [(0, .ref (q 31)), (1, vi lx1), (2, vi lx2), (3, vi lx3)] [] 0 0 (QM κ G (W_M G q v.2) (some (vi v.1)) rX8_spreads.cells rX8_spreads.slots) := by
  intro n
  induction n with
  | zero => intro _ _ _ h; exact absurd h (fun h => nomatch h)
  | succ n ih =>
    intro lx1 lx3 M h
    rw [lX8_spreads_16] at h
    refine X.iload_n C dX8_spreads_16 rfl 3 rfl ?_
    refine X.aload_n C dX8_spreads_17 rfl 0 rfl ?_
    refine X.get C dX8_spreads_18 lay_X8 0 rfl rfl 1 (by decide) fl_X8_13 rfl rfl ?_
    refine X.iconst C dX8_spreads_21 ?_
    refine X.iald C h dX8_spreads_22 1 rfl (fun h => ?_)
    refine X.icmp_ge (tgt := 128) C h dX8_spreads_23 (by decide) (fun h => ?_) (fun h => ?_)
    · refine X.sub [0, 1, 2] rfl ?_
      exact hk0 lx1 M h
    refine X.aload_n C dX8_spreads_26 rfl 0 rfl ?_
    refine X.iload_n C dX8_spreads_27 rfl 3 rfl ?_
    refine X.iload_n C dX8_spreads_28 rfl 2 rfl ?_
    refine X.callVi (q0 := 0) (As := [vi lx3, vi lx2]) (rest := []) (g := fun rr_1 => rr_1) (W1 := fun rr_1 => (W_M G q M)) (ws2 := fun rr_1 => (W_M G q M)) C h dX8_spreads_29 ml_X8_232 mX8_isBasin (fun v hv => kX8_isBasin q M lx3 lx2 v hv) (fun rr_1 => ln_M_M_m_n (G := G) (q := q) (M := M)) rfl rfl rfl rfl rfl rfl rfl rfl (fun rr_1 h => ?_)
    refine X.if_eq (tgt := 38) C h dX8_spreads_32 (by decide) (fun h => ?_) (fun h => ?_)
    · refine X.aload_n C dX8_spreads_38 rfl 0 rfl ?_
      refine X.iload_n C dX8_spreads_39 rfl 3 rfl ?_
      refine X.iconst C dX8_spreads_40 ?_
      refine X.isub C dX8_spreads_41 ?_
      refine X.iload_n C dX8_spreads_42 rfl 2 rfl ?_
      refine X.callVi (q0 := 0) (As := [vi (lx3 - 1), vi lx2]) (rest := []) (g := fun rr_2 => rr_2) (W1 := fun rr_2 => (W_M G q M)) (ws2 := fun rr_2 => (W_M G q M)) C h dX8_spreads_43 ml_X8_395 mX8_throughOf (fun v hv => kX8_throughOf q M (lx3 - 1) lx2 v hv) (fun rr_2 => ln_M_M_m_n (G := G) (q := q) (M := M)) rfl rfl rfl rfl rfl rfl rfl rfl (fun rr_2 h => ?_)
      refine X.aload_n C dX8_spreads_46 rfl 0 rfl ?_
      refine X.iload_n C dX8_spreads_47 rfl 3 rfl ?_
      refine X.iconst C dX8_spreads_48 ?_
      refine X.iadd C dX8_spreads_49 ?_
      refine X.iload_n C dX8_spreads_50 rfl 2 rfl ?_
      refine X.callVi (q0 := 0) (As := [vi (lx3 + 1), vi lx2]) (rest := [vi rr_2]) (g := fun rr_3 => rr_3) (W1 := fun rr_3 => (W_M G q M)) (ws2 := fun rr_3 => (W_M G q M)) C h dX8_spreads_51 ml_X8_395 mX8_throughOf (fun v hv => kX8_throughOf q M (lx3 + 1) lx2 v hv) (fun rr_3 => ln_M_M_m_n (G := G) (q := q) (M := M)) rfl rfl rfl rfl rfl rfl rfl rfl (fun rr_3 h => ?_)
      refine X.mmin C dX8_spreads_54 ml_X8_110 sm_J9_min_7cf53 in_java_lang_Math cd_J9_min_7cf53 (Nat.le_of_ble_eq_true rfl) (Nat.le_of_ble_eq_true rfl) (Nat.zero_le _) (Nat.zero_le _) ?_
      refine X.aload_n C dX8_spreads_57 rfl 0 rfl ?_
      refine X.iload_n C dX8_spreads_58 rfl 3 rfl ?_
      refine X.iload_n C dX8_spreads_59 rfl 2 rfl ?_
      refine X.iconst C dX8_spreads_60 ?_
      refine X.isub C dX8_spreads_61 ?_
      refine X.callVi (q0 := 0) (As := [vi lx3, vi (lx2 - 1)]) (rest := [vi (jmi rr_2 rr_3)]) (g := fun rr_4 => rr_4) (W1 := fun rr_4 => (W_M G q M)) (ws2 := fun rr_4 => (W_M G q M)) C h dX8_spreads_62 ml_X8_395 mX8_throughOf (fun v hv => kX8_throughOf q M lx3 (lx2 - 1) v hv) (fun rr_4 => ln_M_M_m_n (G := G) (q := q) (M := M)) rfl rfl rfl rfl rfl rfl rfl rfl (fun rr_4 h => ?_)
      refine X.aload_n C dX8_spreads_65 rfl 0 rfl ?_
      refine X.iload_n C dX8_spreads_66 rfl 3 rfl ?_
      refine X.iload_n C dX8_spreads_67 rfl 2 rfl ?_
      refine X.iconst C dX8_spreads_68 ?_
      refine X.iadd C dX8_spreads_69 ?_
      refine X.callVi (q0 := 0) (As := [vi lx3, vi (lx2 + 1)]) (rest := [vi rr_4, vi (jmi rr_2 rr_3)]) (g := fun rr_5 => rr_5) (W1 := fun rr_5 => (W_M G q M)) (ws2 := fun rr_5 => (W_M G q M)) C h dX8_spreads_70 ml_X8_395 mX8_throughOf (fun v hv => kX8_throughOf q M lx3 (lx2 + 1) v hv) (fun rr_5 => ln_M_M_m_n (G := G) (q := q) (M := M)) rfl rfl rfl rfl rfl rfl rfl rfl (fun rr_5 h => ?_)
      refine X.mmin C dX8_spreads_73 ml_X8_110 sm_J9_min_7cf53 in_java_lang_Math cd_J9_min_7cf53 (Nat.le_of_ble_eq_true rfl) (Nat.le_of_ble_eq_true rfl) (Nat.zero_le _) (Nat.zero_le _) ?_
      refine X.mmin C dX8_spreads_76 ml_X8_110 sm_J9_min_7cf53 in_java_lang_Math cd_J9_min_7cf53 (Nat.le_of_ble_eq_true rfl) (Nat.le_of_ble_eq_true rfl) (Nat.zero_le _) (Nat.zero_le _) ?_
      refine X.aload_n C dX8_spreads_79 rfl 0 rfl ?_
      refine X.iload_n C dX8_spreads_80 rfl 3 rfl ?_
      refine X.iload_n C dX8_spreads_81 rfl 2 rfl ?_
      refine X.callVi (q0 := 0) (As := [vi lx3, vi lx2]) (rest := [vi (jmi (jmi rr_2 rr_3) (jmi rr_4 rr_5))]) (g := fun rr_6 => rr_6) (W1 := fun rr_6 => (W_M G q M)) (ws2 := fun rr_6 => (W_M G q M)) C h dX8_spreads_82 ml_X8_76 mX8_wetOf (fun v hv => kX8_wetOf q M lx3 lx2 v hv) (fun rr_6 => ln_M_M_m_n (G := G) (q := q) (M := M)) rfl rfl rfl rfl rfl rfl rfl rfl (fun rr_6 h => ?_)
      refine X.iadd C dX8_spreads_85 ?_
      refine X.istoreN (lv2 := fun lx4_7 => [(4, vi lx4_7), (0, .ref (q 31)), (1, vi lx1), (2, vi lx2), (3, vi lx3)]) C h dX8_spreads_86 (by decide) (fun _ => rfl) (fun lx4_7 h => ?_)
      refine X.iload C dX8_spreads_88 0 rfl ?_
      refine X.aload_n C dX8_spreads_90 rfl 1 rfl ?_
      refine X.get C dX8_spreads_91 lay_X8 0 rfl rfl 17 (by decide) fl_X8_43 rfl rfl ?_
      refine X.bipush C dX8_spreads_94 (by decide) ?_
      refine X.iload_n C dX8_spreads_96 rfl 3 rfl ?_
      refine X.imul C dX8_spreads_97 ?_
      refine X.iload_n C dX8_spreads_98 rfl 4 rfl ?_
      refine X.iadd C dX8_spreads_99 ?_
      refine X.iald C h dX8_spreads_100 9 rfl (fun h => ?_)
      refine X.icmp_lt (tgt := 107) C h dX8_spreads_101 (by decide) (fun h => ?_) (fun h => ?_)
      · refine X.aload_n C dX8_spreads_107 rfl 1 rfl ?_
        refine X.get C dX8_spreads_108 lay_X8 0 rfl rfl 17 (by decide) fl_X8_43 rfl rfl ?_
        refine X.bipush C dX8_spreads_111 (by decide) ?_
        refine X.iload_n C dX8_spreads_113 rfl 3 rfl ?_
        refine X.imul C dX8_spreads_114 ?_
        refine X.iload_n C dX8_spreads_115 rfl 4 rfl ?_
        refine X.iadd C dX8_spreads_116 ?_
        refine X.iload C dX8_spreads_117 0 rfl ?_
        refine X.iast (ws2 := (W_M G q (up2 M 17 (ix ((30 * lx2) + lx3)) lx4_7))) C h dX8_spreads_119 9 rfl rfl (fun h => ?_)
        refine X.nameS (ws := fun M_8 => (W_M G q M_8)) h (fun M_8 h => ?_)
        refine X.iconst C dX8_spreads_120 ?_
        refine X.istore_n (lv2 := [(1, vi 1), (4, vi lx4_7), (0, .ref (q 31)), (2, vi lx2), (3, vi lx3)]) C dX8_spreads_121 rfl (by decide) rfl ?_
        refine X.iincN (lv2 := fun lx3_9 => [(3, vi lx3_9), (1, vi 1), (4, vi lx4_7), (0, .ref (q 31)), (2, vi lx2)]) C h dX8_spreads_122 4 rfl (by decide) (fun _ => rfl) (fun lx3_9 h => ?_)
        refine X.goto (tgt := 16) C dX8_spreads_125 (by decide) ?_
        refine X.sub [3, 1, 4, 0] rfl ?_
        exact ih 1 lx3_9 M_8 h
      refine X.goto (tgt := 122) C dX8_spreads_104 (by decide) ?_
      refine X.iincN (lv2 := fun lx3_10 => [(3, vi lx3_10), (4, vi lx4_7), (0, .ref (q 31)), (1, vi lx1), (2, vi lx2)]) C h dX8_spreads_122 4 rfl (by decide) (fun _ => rfl) (fun lx3_10 h => ?_)
      refine X.goto (tgt := 16) C dX8_spreads_125 (by decide) ?_
      refine X.sub [2, 3, 4, 0] rfl ?_
      exact ih lx1 lx3_10 M h
    refine X.goto (tgt := 122) C dX8_spreads_35 (by decide) ?_
    refine X.iincN (lv2 := fun lx3_11 => [(3, vi lx3_11), (0, .ref (q 31)), (1, vi lx1), (2, vi lx2)]) C h dX8_spreads_122 3 rfl (by decide) (fun _ => rfl) (fun lx3_11 h => ?_)
    refine X.goto (tgt := 16) C dX8_spreads_125 (by decide) ?_
    refine X.sub [1, 2, 3, 0] rfl ?_
    exact ih lx1 lx3_11 M h
set_option maxHeartbeats 4000000 in
set_option maxRecDepth 100000 in
theorem xX8_spreads_4 {κ : Kx} {G : GT} (C : Cx κ G yX8_spreads cX8_spreads (some .boolean) 5 rX8_spreads) (q : Nat → Nat) (v : (Int × Ob)) : ∀ (n : Nat) (lx1 : Int) (lx2 : Int) (M : Ob), lX8_spreads_4 n lx1 lx2 M = some v → X κ G 5 (W_M G q M) 4 [(0, .ref (q 31)), (1, vi lx1), (2, vi lx2)] [] 0 0 (QM κ G (W_M G q v.2) (some (vi v.1)) rX8_spreads.cells rX8_spreads.slots) := by
  intro n
  induction n with
  | zero => intro _ _ _ h; exact absurd h (fun h => nomatch h)
  | succ n ih =>
    intro lx1 lx2 M h
    rw [lX8_spreads_4] at h
    refine X.iload_n C dX8_spreads_4 rfl 2 rfl ?_
    refine X.aload_n C dX8_spreads_5 rfl 0 rfl ?_
    refine X.get C dX8_spreads_6 lay_X8 0 rfl rfl 1 (by decide) fl_X8_13 rfl rfl ?_
    refine X.iconst C dX8_spreads_9 ?_
    refine X.iald C h dX8_spreads_10 1 rfl (fun h => ?_)
    refine X.icmp_ge (tgt := 134) C h dX8_spreads_11 (by decide) (fun h => ?_) (fun h => ?_)
    · refine X.iload_n C dX8_spreads_134 rfl 1 rfl ?_
      obtain ⟨hz, h⟩ := gd_out h
      cases h
      exact X.zret C hz dX8_spreads_135 (Nat.zero_le _) (Nat.zero_le _)
    refine X.iconst C dX8_spreads_14 ?_
    refine X.istore_n (lv2 := [(3, vi 0), (0, .ref (q 31)), (1, vi lx1), (2, vi lx2)]) C dX8_spreads_15 rfl (by decide) rfl ?_
    refine X.sub [1, 2, 3, 0] rfl ?_
    refine xX8_spreads_16 C q lx2 _ v (fun lx1_12 M_13 h => ?_) FU lx1 0 M h
    · refine X.iincN (lv2 := fun lx2_14 => [(2, vi lx2_14), (0, .ref (q 31)), (1, vi lx1_12)]) C h dX8_spreads_128 2 rfl (by decide) (fun _ => rfl) (fun lx2_14 h => ?_)
      refine X.goto (tgt := 4) C dX8_spreads_131 (by decide) ?_
      refine X.sub [1, 2, 0] rfl ?_
      exact ih lx1_12 lx2_14 M_13 h
set_option maxHeartbeats 4000000 in
set_option maxRecDepth 100000 in
theorem kX8_spreads {l : Launch} {G : GT} (q : Nat → Nat) (M : Ob) (v : (Int × Ob)) (h : fX8_spreads M = some v) : CT l G yX8_spreads cX8_spreads 5 (some .boolean) rX8_spreads [.ref (q 31)] (W_M G q M) (W_M G q v.2) (some (vi v.1)) := by
  unfold fX8_spreads at h
  refine CT.of (by decide) (Nat.le_of_ble_eq_true rfl) rfl (fun κ _ C => ?_)
  refine X.iconst C dX8_spreads_0 ?_
  refine X.istore_n (lv2 := [(1, vi 0), (0, .ref (q 31))]) C dX8_spreads_1 rfl (by decide) rfl ?_
  refine X.iconst C dX8_spreads_2 ?_
  refine X.istore_n (lv2 := [(2, vi 0), (1, vi 0), (0, .ref (q 31))]) C dX8_spreads_3 rfl (by decide) rfl ?_
  refine X.sub [2, 1, 0] rfl ?_
  refine xX8_spreads_4 C q v FU 0 0 M h
def rX8_way : Room := { frames := 4, cells := 0, slots := 0, locals := 98 }
theorem mX8_way : MV yX8_way cX8_way 6 (some .int) 4 := ⟨cd_X8_way, in_X8, ⟨⟨by decide, by decide⟩, by decide +kernel⟩, im_X8_way, se_X8_way⟩
set_option maxHeartbeats 4000000 in
set_option maxRecDepth 100000 in
theorem xX8_way_46 {κ : Kx} {G : GT} (C : Cx κ G yX8_way cX8_way (some .int) 6 rX8_way) (q : Nat → Nat) (lx1 : Int) (lx2 : Int) (lx3 : Int) (lx4 : Int) (kx0 : Ob → Option (Int × Ob)) (v : (Int × Ob)) (hk0 : ∀ (M : Ob), kx0 M = some v → X κ G 6 (W_M G q M) 70 [(0, .ref (q 31)), (1, vi lx1), (2, vi lx2), (3, vi lx3), (4, vi lx4)] [] 0 0 (QM κ G (W_M G q v.2) (some (vi v.1)) rX8_way.cells rX8_way.slots)) : ∀ (n : Nat) (lx5 : Int) (M : Ob), lX8_way_46 lx1 lx2 lx3 lx4 kx0 n lx5 M = some v → X κ G 6 (W_M G q M) 46 [(0, .ref (q 31)), (1, vi lx1), (2, vi lx2), (3, vi lx3), (4, vi lx4), (5, vi lx5)] [] 0 0 (QM κ G (W_M G q v.2) (some (vi v.1)) rX8_way.cells rX8_way.slots) := by
  intro n
  induction n with
  | zero => intro _ _ h; exact absurd h (fun h => nomatch h)
  | succ n ih =>
    intro lx5 M h
    rw [lX8_way_46] at h
    refine X.iload C dX8_way_46 5 rfl ?_
    refine X.sipush C dX8_way_48 (by decide) ?_
    refine X.icmp_ge (tgt := 70) C h dX8_way_51 (by decide) (fun h => ?_) (fun h => ?_)
    · refine X.sub [0, 1, 2, 3, 4] rfl ?_
      exact hk0 M h
    refine X.aload_n C dX8_way_54 rfl 0 rfl ?_
    refine X.get C dX8_way_55 lay_X8 0 rfl rfl 17 (by decide) fl_X8_43 rfl rfl ?_
    refine X.iload C dX8_way_58 5 rfl ?_
    refine X.ldc_w (z := 1000000000) C ct_X8_394 (by decide) dX8_way_60 ?_
    refine X.iast (ws2 := (W_M G q (up2 M 17 (ix lx5) 1000000000))) C h dX8_way_63 9 rfl rfl (fun h => ?_)
    refine X.nameS (ws := fun M_5 => (W_M G q M_5)) h (fun M_5 h => ?_)
    refine X.iincN (lv2 := fun lx5_6 => [(5, vi lx5_6), (0, .ref (q 31)), (1, vi lx1), (2, vi lx2), (3, vi lx3), (4, vi lx4)]) C h dX8_way_64 5 rfl (by decide) (fun _ => rfl) (fun lx5_6 h => ?_)
    refine X.goto (tgt := 46) C dX8_way_67 (by decide) ?_
    refine X.sub [1, 2, 3, 4, 5, 0] rfl ?_
    exact ih lx5_6 M_5 h
set_option maxHeartbeats 4000000 in
set_option maxRecDepth 100000 in
theorem xX8_way_90 {κ : Kx} {G : GT} (C : Cx κ G yX8_way cX8_way (some .int) 6 rX8_way) (q : Nat → Nat) (lx3 : Int) (lx4 : Int) (kx0 : Ob → Option (Int × Ob)) (v : (Int × Ob)) (hk0 : ∀ (M : Ob), kx0 M = some v → X κ G 6 (W_M G q M) 104 [(0, .ref (q 31)), (3, vi lx3), (4, vi lx4)] [] 0 0 (QM κ G (W_M G q v.2) (some (vi v.1)) rX8_way.cells rX8_way.slots)) : ∀ (n : Nat) (lx5 : Int) (M : Ob), lX8_way_90 lx3 lx4 kx0 n lx5 M = some v → X κ G 6 (W_M G q M) 90 [(0, .ref (q 31)), (3, vi lx3), (4, vi lx4), (5, vi lx5)] [] 0 0 (QM κ G (W_M G q v.2) (some (vi v.1)) rX8_way.cells rX8_way.slots) := by
  intro n
  induction n with
  | zero => intro _ _ h; exact absurd h (fun h => nomatch h)
  | succ n ih =>
    intro lx5 M h
    rw [lX8_way_90] at h
    refine X.iload C dX8_way_90 3 rfl ?_
    refine X.if_eq (tgt := 104) C h dX8_way_92 (by decide) (fun h => ?_) (fun h => ?_)
    · refine X.sub [0, 1, 2] rfl ?_
      exact hk0 M h
    refine X.aload_n C dX8_way_95 rfl 0 rfl ?_
    refine X.callVi (q0 := 0) (As := []) (rest := []) (g := fun rr_10 => rr_10.1) (W1 := fun rr_10 => (W_M G q rr_10.2)) (ws2 := fun rr_10 => (W_M G q rr_10.2)) C h dX8_way_96 ml_X8_398 mX8_spreads (fun v hv => kX8_spreads q M v hv) (fun rr_10 => ln_M_M_m_M (G := G) (q := q) (M := M) (NM := rr_10.2)) rfl rfl rfl rfl rfl rfl rfl rfl (fun rr_10 h => ?_)
    refine X.istoreN (lv2 := fun lx5_11 => [(5, vi lx5_11), (0, .ref (q 31)), (3, vi lx3), (4, vi lx4)]) C h dX8_way_99 (by decide) (fun _ => rfl) (fun lx5_11 h => ?_)
    refine X.goto (tgt := 90) C dX8_way_101 (by decide) ?_
    refine X.sub [1, 2, 3, 0] rfl ?_
    exact ih lx5_11 rr_10.2 h
set_option maxHeartbeats 4000000 in
set_option maxRecDepth 100000 in
theorem kX8_way {l : Launch} {G : GT} (q : Nat → Nat) (M : Ob) (lx1 : Int) (lx2 : Int) (lx3 : Int) (lx4 : Int) (v : (Int × Ob)) (h : fX8_way M lx1 lx2 lx3 lx4 = some v) : CT l G yX8_way cX8_way 6 (some .int) rX8_way [.ref (q 31), vi lx1, vi lx2, vi lx3, vi lx4] (W_M G q M) (W_M G q v.2) (some (vi v.1)) := by
  unfold fX8_way at h
  refine CT.of (by decide) (Nat.le_of_ble_eq_true rfl) rfl (fun κ _ C => ?_)
  refine X.aload_n C dX8_way_0 rfl 0 rfl ?_
  refine X.iload_n C dX8_way_1 rfl 1 rfl ?_
  refine X.iload_n C dX8_way_2 rfl 2 rfl ?_
  refine X.callVi (q0 := 0) (As := [vi lx1, vi lx2]) (rest := []) (g := fun rr_1 => rr_1) (W1 := fun rr_1 => (W_M G q M)) (ws2 := fun rr_1 => (W_M G q M)) C h dX8_way_3 ml_X8_248 mX8_isCell (fun v hv => kX8_isCell q M lx1 lx2 v hv) (fun rr_1 => ln_M_M_m_n (G := G) (q := q) (M := M)) rfl rfl rfl rfl rfl rfl rfl rfl (fun rr_1 h => ?_)
  refine X.if_eq (tgt := 19) C h dX8_way_6 (by decide) (fun h => ?_) (fun h => ?_)
  · refine X.bipush C dX8_way_19 (by decide) ?_
    cases h
    exact X.iret C dX8_way_21 (Nat.zero_le _) (Nat.zero_le _)
  refine X.aload_n C dX8_way_9 rfl 0 rfl ?_
  refine X.iload_n C dX8_way_10 rfl 3 rfl ?_
  refine X.iload C dX8_way_11 4 rfl ?_
  refine X.callVi (q0 := 0) (As := [vi lx3, vi lx4]) (rest := []) (g := fun rr_2 => rr_2) (W1 := fun rr_2 => (W_M G q M)) (ws2 := fun rr_2 => (W_M G q M)) C h dX8_way_13 ml_X8_248 mX8_isCell (fun v hv => kX8_isCell q M lx3 lx4 v hv) (fun rr_2 => ln_M_M_m_n (G := G) (q := q) (M := M)) rfl rfl rfl rfl rfl rfl rfl rfl (fun rr_2 h => ?_)
  refine X.if_ne (tgt := 22) C h dX8_way_16 (by decide) (fun h => ?_) (fun h => ?_)
  · refine X.aload_n C dX8_way_22 rfl 0 rfl ?_
    refine X.iload_n C dX8_way_23 rfl 1 rfl ?_
    refine X.iload_n C dX8_way_24 rfl 2 rfl ?_
    refine X.callVi (q0 := 0) (As := [vi lx1, vi lx2]) (rest := []) (g := fun rr_3 => rr_3) (W1 := fun rr_3 => (W_M G q M)) (ws2 := fun rr_3 => (W_M G q M)) C h dX8_way_25 ml_X8_232 mX8_isBasin (fun v hv => kX8_isBasin q M lx1 lx2 v hv) (fun rr_3 => ln_M_M_m_n (G := G) (q := q) (M := M)) rfl rfl rfl rfl rfl rfl rfl rfl (fun rr_3 h => ?_)
    refine X.if_ne (tgt := 41) C h dX8_way_28 (by decide) (fun h => ?_) (fun h => ?_)
    · refine X.iconst C dX8_way_41 ?_
      cases h
      exact X.iret C dX8_way_42 (Nat.zero_le _) (Nat.zero_le _)
    refine X.aload_n C dX8_way_31 rfl 0 rfl ?_
    refine X.iload_n C dX8_way_32 rfl 3 rfl ?_
    refine X.iload C dX8_way_33 4 rfl ?_
    refine X.callVi (q0 := 0) (As := [vi lx3, vi lx4]) (rest := []) (g := fun rr_4 => rr_4) (W1 := fun rr_4 => (W_M G q M)) (ws2 := fun rr_4 => (W_M G q M)) C h dX8_way_35 ml_X8_232 mX8_isBasin (fun v hv => kX8_isBasin q M lx3 lx4 v hv) (fun rr_4 => ln_M_M_m_n (G := G) (q := q) (M := M)) rfl rfl rfl rfl rfl rfl rfl rfl (fun rr_4 h => ?_)
    refine X.if_eq (tgt := 43) C h dX8_way_38 (by decide) (fun h => ?_) (fun h => ?_)
    · refine X.iconst C dX8_way_43 ?_
      refine X.istore (lv2 := [(5, vi 0), (0, .ref (q 31)), (1, vi lx1), (2, vi lx2), (3, vi lx3), (4, vi lx4)]) C dX8_way_44 (by decide) rfl ?_
      refine X.sub [1, 2, 3, 4, 5, 0] rfl ?_
      refine xX8_way_46 C q lx1 lx2 lx3 lx4 _ v (fun M_7 h => ?_) FU 0 M h
      · refine X.aload_n C dX8_way_70 rfl 0 rfl ?_
        refine X.get C dX8_way_71 lay_X8 0 rfl rfl 17 (by decide) fl_X8_43 rfl rfl ?_
        refine X.bipush C dX8_way_74 (by decide) ?_
        refine X.iload_n C dX8_way_76 rfl 2 rfl ?_
        refine X.imul C dX8_way_77 ?_
        refine X.iload_n C dX8_way_78 rfl 1 rfl ?_
        refine X.iadd C dX8_way_79 ?_
        refine X.aload_n C dX8_way_80 rfl 0 rfl ?_
        refine X.iload_n C dX8_way_81 rfl 1 rfl ?_
        refine X.iload_n C dX8_way_82 rfl 2 rfl ?_
        refine X.callVi (q0 := 0) (As := [vi lx1, vi lx2]) (rest := [vi ((30 * lx2) + lx1), .ref (q 17)]) (g := fun rr_8 => rr_8) (W1 := fun rr_8 => (W_M G q M_7)) (ws2 := fun rr_8 => (W_M G q M_7)) C h dX8_way_83 ml_X8_76 mX8_wetOf (fun v hv => kX8_wetOf q M_7 lx1 lx2 v hv) (fun rr_8 => ln_M_M_m_n (G := G) (q := q) (M := M_7)) rfl rfl rfl rfl rfl rfl rfl rfl (fun rr_8 h => ?_)
        refine X.iast (ws2 := (W_M G q (up2 M_7 17 (ix ((30 * lx2) + lx1)) rr_8))) C h dX8_way_86 9 rfl rfl (fun h => ?_)
        refine X.nameS (ws := fun M_9 => (W_M G q M_9)) h (fun M_9 h => ?_)
        refine X.iconst C dX8_way_87 ?_
        refine X.istore (lv2 := [(5, vi 1), (0, .ref (q 31)), (1, vi lx1), (2, vi lx2), (3, vi lx3), (4, vi lx4)]) C dX8_way_88 (by decide) rfl ?_
        refine X.sub [1, 4, 5, 0] rfl ?_
        refine xX8_way_90 C q lx3 lx4 _ v (fun M_12 h => ?_) FU 1 M_9 h
        · refine X.aload_n C dX8_way_104 rfl 0 rfl ?_
          refine X.get C dX8_way_105 lay_X8 0 rfl rfl 17 (by decide) fl_X8_43 rfl rfl ?_
          refine X.bipush C dX8_way_108 (by decide) ?_
          refine X.iload C dX8_way_110 2 rfl ?_
          refine X.imul C dX8_way_112 ?_
          refine X.iload_n C dX8_way_113 rfl 1 rfl ?_
          refine X.iadd C dX8_way_114 ?_
          refine X.iald C h dX8_way_115 9 rfl (fun h => ?_)
          refine X.ldc_w (z := 1000000000) C ct_X8_394 (by decide) dX8_way_116 ?_
          refine X.icmp_lt (tgt := 126) C h dX8_way_119 (by decide) (fun h => ?_) (fun h => ?_)
          · refine X.aload_n C dX8_way_126 rfl 0 rfl ?_
            refine X.get C dX8_way_127 lay_X8 0 rfl rfl 17 (by decide) fl_X8_43 rfl rfl ?_
            refine X.bipush C dX8_way_130 (by decide) ?_
            refine X.iload C dX8_way_132 2 rfl ?_
            refine X.imul C dX8_way_134 ?_
            refine X.iload_n C dX8_way_135 rfl 1 rfl ?_
            refine X.iadd C dX8_way_136 ?_
            refine X.iald C h dX8_way_137 9 rfl (fun h => ?_)
            cases h
            exact X.iret C dX8_way_138 (Nat.zero_le _) (Nat.zero_le _)
          refine X.iconst C dX8_way_122 ?_
          refine X.goto (tgt := 138) C dX8_way_123 (by decide) ?_
          cases h
          exact X.iret C dX8_way_138 (Nat.zero_le _) (Nat.zero_le _)
    refine X.iconst C dX8_way_41 ?_
    cases h
    exact X.iret C dX8_way_42 (Nat.zero_le _) (Nat.zero_le _)
  refine X.bipush C dX8_way_19 (by decide) ?_
  cases h
  exact X.iret C dX8_way_21 (Nat.zero_le _) (Nat.zero_le _)
def rX8_nozzle : Room := { frames := 2, cells := 0, slots := 0, locals := 46 }
theorem mX8_nozzle : MV yX8_nozzle cX8_nozzle 4 (some .int) 2 := ⟨cd_X8_nozzle, in_X8, ⟨⟨by decide, by decide⟩, by decide +kernel⟩, im_X8_nozzle, se_X8_nozzle⟩
set_option maxHeartbeats 4000000 in
set_option maxRecDepth 100000 in
theorem kX8_nozzle {l : Launch} {G : GT} (q : Nat → Nat) (M : Ob) (lx1 : Int) (lx2 : Int) (v : (Int × Ob)) (h : fX8_nozzle M lx1 lx2 = some v) : CT l G yX8_nozzle cX8_nozzle 4 (some .int) rX8_nozzle [.ref (q 31), vi lx1, vi lx2] (W_M G q M) (W_M G q v.2) (some (vi v.1)) := by
  unfold fX8_nozzle at h
  refine CT.of (by decide) (Nat.le_of_ble_eq_true rfl) rfl (fun κ _ C => ?_)
  refine X.aload_n C dX8_nozzle_0 rfl 0 rfl ?_
  refine X.iload_n C dX8_nozzle_1 rfl 1 rfl ?_
  refine X.callVi (q0 := 0) (As := [vi lx1]) (rest := []) (g := fun rr_1 => rr_1) (W1 := fun rr_1 => (W_M G q M)) (ws2 := fun rr_1 => (W_M G q M)) C h dX8_nozzle_2 ml_X8_325 mX8_isSize (fun v hv => kX8_isSize q M lx1 v hv) (fun rr_1 => ln_M_M_m_n (G := G) (q := q) (M := M)) rfl rfl rfl rfl rfl rfl rfl rfl (fun rr_1 h => ?_)
  refine X.if_eq (tgt := 20) C h dX8_nozzle_5 (by decide) (fun h => ?_) (fun h => ?_)
  · refine X.bipush C dX8_nozzle_20 (by decide) ?_
    cases h
    exact X.iret C dX8_nozzle_22 (Nat.zero_le _) (Nat.zero_le _)
  refine X.iload_n C dX8_nozzle_8 rfl 2 rfl ?_
  refine X.i2l C dX8_nozzle_9 ?_
  refine X.lconst (z := 0) C dX8_nozzle_10 (by decide) ?_
  refine X.ldc2 (z := 99) C cl_X8_349 (by decide) dX8_nozzle_11 ?_
  refine X.callSi (As := [vl (jwl lx2), vl 0, vl 99]) (rest := []) (g := fun rr_2 => rr_2) (W1 := fun rr_2 => W_0) (ws2 := fun rr_2 => (W_M G q M)) C h dX8_nozzle_14 ml_X8_68 mX8_in (fun v hv => kX8_in (jwl lx2) 0 99 v hv) (fun rr_2 => ln_M_0__n (G := G) (q := q) (M := M)) rfl rfl rfl rfl rfl rfl (fun rr_2 h => ?_)
  refine X.if_ne (tgt := 23) C h dX8_nozzle_17 (by decide) (fun h => ?_) (fun h => ?_)
  · refine X.aload_n C dX8_nozzle_23 rfl 0 rfl ?_
    refine X.iload_n C dX8_nozzle_24 rfl 1 rfl ?_
    refine X.callVi (q0 := 0) (As := [vi lx1]) (rest := []) (g := fun rr_3 => rr_3) (W1 := fun rr_3 => (W_M G q M)) (ws2 := fun rr_3 => (W_M G q M)) C h dX8_nozzle_25 ml_X8_257 mX8_dragOf (fun v hv => kX8_dragOf q M lx1 v hv) (fun rr_3 => ln_M_M_m_n (G := G) (q := q) (M := M)) rfl rfl rfl rfl rfl rfl rfl rfl (fun rr_3 h => ?_)
    refine X.istore_n (lv2 := [(3, vi rr_3), (0, .ref (q 31)), (1, vi lx1), (2, vi lx2)]) C dX8_nozzle_28 rfl (by decide) rfl ?_
    refine X.aload_n C dX8_nozzle_29 rfl 1 rfl ?_
    refine X.get C dX8_nozzle_30 lay_X8 0 rfl rfl 1 (by decide) fl_X8_13 rfl rfl ?_
    refine X.bipush C dX8_nozzle_33 (by decide) ?_
    refine X.iconst C dX8_nozzle_35 ?_
    refine X.iload_n C dX8_nozzle_36 rfl 2 rfl ?_
    refine X.imul C dX8_nozzle_37 ?_
    refine X.iadd C dX8_nozzle_38 ?_
    refine X.iload_n C dX8_nozzle_39 rfl 3 rfl ?_
    refine X.iast (ws2 := (W_M G q (up2 M 1 (ix (25 + (2 * lx1))) lx2))) C h dX8_nozzle_40 1 rfl rfl (fun h => ?_)
    refine X.nameS (ws := fun M_4 => (W_M G q M_4)) h (fun M_4 h => ?_)
    refine X.iload_n C dX8_nozzle_41 rfl 0 rfl ?_
    cases h
    exact X.iret C dX8_nozzle_42 (Nat.zero_le _) (Nat.zero_le _)
  refine X.bipush C dX8_nozzle_20 (by decide) ?_
  cases h
  exact X.iret C dX8_nozzle_22 (Nat.zero_le _) (Nat.zero_le _)
def rX8_fine : Room := { frames := 4, cells := 0, slots := 0, locals := 97 }
theorem mX8_fine : MV yX8_fine cX8_fine 5 (some .int) 3 := ⟨cd_X8_fine, in_X8, ⟨⟨by decide, by decide⟩, by decide +kernel⟩, im_X8_fine, se_X8_fine⟩
set_option maxHeartbeats 4000000 in
set_option maxRecDepth 100000 in
theorem xX8_fine_35 {κ : Kx} {G : GT} (C : Cx κ G yX8_fine cX8_fine (some .int) 5 rX8_fine) (q : Nat → Nat) (M : Ob) (lx2 : Int) (lx3 : Int) (v : (Int)) : ∀ (n : Nat) (lx4 : Int), lX8_fine_35 M lx2 lx3 n lx4 = some v → X κ G 5 (W_M G q M) 35 [(0, .ref (q 31)), (2, vi lx2), (3, vi lx3), (4, vi lx4)] [] 0 0 (QM κ G (W_M G q M) (some (vi v)) rX8_fine.cells rX8_fine.slots) := by
  intro n
  induction n with
  | zero => intro _ h; exact absurd h (fun h => nomatch h)
  | succ n ih =>
    intro lx4 h
    rw [lX8_fine_35] at h
    refine X.iload C dX8_fine_35 3 rfl ?_
    refine X.if_lt (tgt := 57) C h dX8_fine_37 (by decide) (fun h => ?_) (fun h => ?_)
    · refine X.iload C dX8_fine_57 3 rfl ?_
      cases h
      exact X.iret C dX8_fine_59 (Nat.zero_le _) (Nat.zero_le _)
    refine X.aload_n C dX8_fine_40 rfl 0 rfl ?_
    refine X.iload C dX8_fine_41 3 rfl ?_
    refine X.iload_n C dX8_fine_43 rfl 1 rfl ?_
    refine X.iload_n C dX8_fine_44 rfl 2 rfl ?_
    refine X.callVi (q0 := 0) (As := [vi lx4, vi lx2, vi lx3]) (rest := []) (g := fun rr_4 => rr_4) (W1 := fun rr_4 => (W_M G q M)) (ws2 := fun rr_4 => (W_M G q M)) C h dX8_fine_45 ml_X8_342 mX8_isSteadyCaught (fun v hv => kX8_isSteadyCaught q M lx4 lx2 lx3 v hv) (fun rr_4 => ln_M_M_m_n (G := G) (q := q) (M := M)) rfl rfl rfl rfl rfl rfl rfl rfl (fun rr_4 h => ?_)
    refine X.if_ne (tgt := 57) C h dX8_fine_48 (by decide) (fun h => ?_) (fun h => ?_)
    · refine X.iload C dX8_fine_57 3 rfl ?_
      cases h
      exact X.iret C dX8_fine_59 (Nat.zero_le _) (Nat.zero_le _)
    refine X.iincN (lv2 := fun lx4_5 => [(4, vi lx4_5), (0, .ref (q 31)), (2, vi lx2), (3, vi lx3)]) C h dX8_fine_51 3 rfl (by decide) (fun _ => rfl) (fun lx4_5 h => ?_)
    refine X.goto (tgt := 35) C dX8_fine_54 (by decide) ?_
    refine X.sub [1, 2, 3, 0] rfl ?_
    exact ih lx4_5 h
set_option maxHeartbeats 4000000 in
set_option maxRecDepth 100000 in
theorem kX8_fine {l : Launch} {G : GT} (q : Nat → Nat) (M : Ob) (lx1 : Int) (lx2 : Int) (lx3 : Int) (v : (Int)) (h : fX8_fine M lx1 lx2 lx3 = some v) : CT l G yX8_fine cX8_fine 5 (some .int) rX8_fine [.ref (q 31), vi lx1, vi lx2, vi lx3] (W_M G q M) (W_M G q M) (some (vi v)) := by
  unfold fX8_fine at h
  refine CT.of (by decide) (Nat.le_of_ble_eq_true rfl) rfl (fun κ _ C => ?_)
  refine X.aload_n C dX8_fine_0 rfl 0 rfl ?_
  refine X.iload_n C dX8_fine_1 rfl 1 rfl ?_
  refine X.callVi (q0 := 0) (As := [vi lx1]) (rest := []) (g := fun rr_1 => rr_1) (W1 := fun rr_1 => (W_M G q M)) (ws2 := fun rr_1 => (W_M G q M)) C h dX8_fine_2 ml_X8_325 mX8_isSize (fun v hv => kX8_isSize q M lx1 v hv) (fun rr_1 => ln_M_M_m_n (G := G) (q := q) (M := M)) rfl rfl rfl rfl rfl rfl rfl rfl (fun rr_1 h => ?_)
  refine X.if_eq (tgt := 28) C h dX8_fine_5 (by decide) (fun h => ?_) (fun h => ?_)
  · refine X.bipush C dX8_fine_28 (by decide) ?_
    cases h
    exact X.iret C dX8_fine_30 (Nat.zero_le _) (Nat.zero_le _)
  refine X.iload_n C dX8_fine_8 rfl 2 rfl ?_
  refine X.i2l C dX8_fine_9 ?_
  refine X.lconst (z := 1) C dX8_fine_10 (by decide) ?_
  refine X.ldc2 (z := 60) C cl_X8_214 (by decide) dX8_fine_11 ?_
  refine X.callSi (As := [vl (jwl lx2), vl 1, vl 60]) (rest := []) (g := fun rr_2 => rr_2) (W1 := fun rr_2 => W_0) (ws2 := fun rr_2 => (W_M G q M)) C h dX8_fine_14 ml_X8_68 mX8_in (fun v hv => kX8_in (jwl lx2) 1 60 v hv) (fun rr_2 => ln_M_0__n (G := G) (q := q) (M := M)) rfl rfl rfl rfl rfl rfl (fun rr_2 h => ?_)
  refine X.if_eq (tgt := 28) C h dX8_fine_17 (by decide) (fun h => ?_) (fun h => ?_)
  · refine X.bipush C dX8_fine_28 (by decide) ?_
    cases h
    exact X.iret C dX8_fine_30 (Nat.zero_le _) (Nat.zero_le _)
  refine X.iload_n C dX8_fine_20 rfl 3 rfl ?_
  refine X.i2l C dX8_fine_21 ?_
  refine X.callSi (As := [vl (jwl lx3)]) (rest := []) (g := fun rr_3 => rr_3) (W1 := fun rr_3 => W_0) (ws2 := fun rr_3 => (W_M G q M)) C h dX8_fine_22 ml_X8_281 mX8_isWind (fun v hv => kX8_isWind (jwl lx3) v hv) (fun rr_3 => ln_M_0__n (G := G) (q := q) (M := M)) rfl rfl rfl rfl rfl rfl (fun rr_3 h => ?_)
  refine X.if_ne (tgt := 31) C h dX8_fine_25 (by decide) (fun h => ?_) (fun h => ?_)
  · refine X.bipush C dX8_fine_31 (by decide) ?_
    refine X.istore (lv2 := [(4, vi 99), (0, .ref (q 31)), (1, vi lx1), (2, vi lx2), (3, vi lx3)]) C dX8_fine_33 (by decide) rfl ?_
    refine X.sub [1, 3, 4, 0] rfl ?_
    refine xX8_fine_35 C q M lx2 lx3 v FU 99 h
  refine X.bipush C dX8_fine_28 (by decide) ?_
  cases h
  exact X.iret C dX8_fine_30 (Nat.zero_le _) (Nat.zero_le _)
def rX8_iceOf : Room := { frames := 1, cells := 0, slots := 0, locals := 22 }
theorem mX8_iceOf : MV yX8_iceOf cX8_iceOf 3 (some .int) 0 := ⟨cd_X8_iceOf, in_X8, ⟨⟨by decide, by decide⟩, by decide +kernel⟩, im_X8_iceOf, se_X8_iceOf⟩
set_option maxHeartbeats 4000000 in
set_option maxRecDepth 100000 in
theorem xX8_iceOf_4 {κ : Kx} {G : GT} (C : Cx κ G yX8_iceOf cX8_iceOf (some .int) 3 rX8_iceOf) (q : Nat → Nat) (M : Ob) (v : (Int)) : ∀ (n : Nat) (lx1 : Int) (lx2 : Int), lX8_iceOf_4 M n lx1 lx2 = some v → X κ G 3 (W_M G q M) 4 [(0, .ref (q 31)), (1, vi lx1), (2, vi lx2)] [] 0 0 (QM κ G (W_M G q M) (some (vi v)) rX8_iceOf.cells rX8_iceOf.slots) := by
  intro n
  induction n with
  | zero => intro _ _ h; exact absurd h (fun h => nomatch h)
  | succ n ih =>
    intro lx1 lx2 h
    rw [lX8_iceOf_4] at h
    refine X.iload_n C dX8_iceOf_4 rfl 2 rfl ?_
    refine X.aload_n C dX8_iceOf_5 rfl 0 rfl ?_
    refine X.get C dX8_iceOf_6 lay_X8 0 rfl rfl 1 (by decide) fl_X8_13 rfl rfl ?_
    refine X.iconst C dX8_iceOf_9 ?_
    refine X.iald C h dX8_iceOf_10 1 rfl (fun h => ?_)
    refine X.icmp_ge (tgt := 35) C h dX8_iceOf_11 (by decide) (fun h => ?_) (fun h => ?_)
    · refine X.iload_n C dX8_iceOf_35 rfl 1 rfl ?_
      cases h
      exact X.iret C dX8_iceOf_36 (Nat.zero_le _) (Nat.zero_le _)
    refine X.iload_n C dX8_iceOf_14 rfl 1 rfl ?_
    refine X.aload_n C dX8_iceOf_15 rfl 0 rfl ?_
    refine X.iload_n C dX8_iceOf_16 rfl 2 rfl ?_
    refine X.aload_n C dX8_iceOf_17 rfl 0 rfl ?_
    refine X.get C dX8_iceOf_18 lay_X8 0 rfl rfl 1 (by decide) fl_X8_13 rfl rfl ?_
    refine X.bipush C dX8_iceOf_21 (by decide) ?_
    refine X.iald C h dX8_iceOf_23 1 rfl (fun h => ?_)
    refine X.callVi (q0 := 0) (As := [vi lx2, vi (M 1 (ix 7))]) (rest := [vi lx1]) (g := fun rr_1 => rr_1) (W1 := fun rr_1 => (W_M G q M)) (ws2 := fun rr_1 => (W_M G q M)) C h dX8_iceOf_24 ml_X8_76 mX8_wetOf (fun v hv => kX8_wetOf q M lx2 (M 1 (ix 7)) v hv) (fun rr_1 => ln_M_M_m_n (G := G) (q := q) (M := M)) rfl rfl rfl rfl rfl rfl rfl rfl (fun rr_1 h => ?_)
    refine X.iadd C dX8_iceOf_27 ?_
    refine X.istoreN_n (lv2 := fun lx1_2 => [(1, vi lx1_2), (0, .ref (q 31)), (2, vi lx2)]) C h dX8_iceOf_28 rfl (by decide) (fun _ => rfl) (fun lx1_2 h => ?_)
    refine X.iincN (lv2 := fun lx2_3 => [(2, vi lx2_3), (1, vi lx1_2), (0, .ref (q 31))]) C h dX8_iceOf_29 2 rfl (by decide) (fun _ => rfl) (fun lx2_3 h => ?_)
    refine X.goto (tgt := 4) C dX8_iceOf_32 (by decide) ?_
    refine X.sub [2, 1, 0] rfl ?_
    exact ih lx1_2 lx2_3 h
set_option maxHeartbeats 4000000 in
set_option maxRecDepth 100000 in
theorem kX8_iceOf {l : Launch} {G : GT} (q : Nat → Nat) (M : Ob) (v : (Int)) (h : fX8_iceOf M = some v) : CT l G yX8_iceOf cX8_iceOf 3 (some .int) rX8_iceOf [.ref (q 31)] (W_M G q M) (W_M G q M) (some (vi v)) := by
  unfold fX8_iceOf at h
  refine CT.of (by decide) (Nat.le_of_ble_eq_true rfl) rfl (fun κ _ C => ?_)
  refine X.iconst C dX8_iceOf_0 ?_
  refine X.istore_n (lv2 := [(1, vi 0), (0, .ref (q 31))]) C dX8_iceOf_1 rfl (by decide) rfl ?_
  refine X.iconst C dX8_iceOf_2 ?_
  refine X.istore_n (lv2 := [(2, vi 0), (1, vi 0), (0, .ref (q 31))]) C dX8_iceOf_3 rfl (by decide) rfl ?_
  refine X.sub [2, 1, 0] rfl ?_
  refine xX8_iceOf_4 C q M v FU 0 0 h
def rX8_ice : Room := { frames := 2, cells := 0, slots := 0, locals := 44 }
theorem mX8_ice : MV yX8_ice cX8_ice 1 (some .int) 0 := ⟨cd_X8_ice, in_X8, ⟨⟨by decide, by decide⟩, by decide +kernel⟩, im_X8_ice, se_X8_ice⟩
set_option maxHeartbeats 4000000 in
set_option maxRecDepth 100000 in
theorem kX8_ice {l : Launch} {G : GT} (q : Nat → Nat) (M : Ob) (v : (Int)) (h : fX8_ice M = some v) : CT l G yX8_ice cX8_ice 1 (some .int) rX8_ice [.ref (q 31)] (W_M G q M) (W_M G q M) (some (vi v)) := by
  unfold fX8_ice at h
  refine CT.of (by decide) (Nat.le_of_ble_eq_true rfl) rfl (fun κ _ C => ?_)
  refine X.aload_n C dX8_ice_0 rfl 0 rfl ?_
  refine X.get C dX8_ice_1 lay_X8 0 rfl rfl 1 (by decide) fl_X8_13 rfl rfl ?_
  refine X.bipush C dX8_ice_4 (by decide) ?_
  refine X.iald C h dX8_ice_6 1 rfl (fun h => ?_)
  refine X.iconst C dX8_ice_7 ?_
  refine X.icmp_ne (tgt := 15) C h dX8_ice_8 (by decide) (fun h => ?_) (fun h => ?_)
  · refine X.aload_n C dX8_ice_15 rfl 0 rfl ?_
    refine X.callVi (q0 := 0) (As := []) (rest := []) (g := fun rr_1 => rr_1) (W1 := fun rr_1 => (W_M G q M)) (ws2 := fun rr_1 => (W_M G q M)) C h dX8_ice_16 ml_X8_401 mX8_iceOf (fun v hv => kX8_iceOf q M v hv) (fun rr_1 => ln_M_M_m_n (G := G) (q := q) (M := M)) rfl rfl rfl rfl rfl rfl rfl rfl (fun rr_1 h => ?_)
    cases h
    exact X.iret C dX8_ice_19 (Nat.zero_le _) (Nat.zero_le _)
  refine X.iconst C dX8_ice_11 ?_
  refine X.goto (tgt := 19) C dX8_ice_12 (by decide) ?_
  cases h
  exact X.iret C dX8_ice_19 (Nat.zero_le _) (Nat.zero_le _)
def rX8_shut : Room := { frames := 5, cells := 0, slots := 0, locals := 130 }
theorem mX8_shut : MV yX8_shut cX8_shut 6 (some .int) 2 := ⟨cd_X8_shut, in_X8, ⟨⟨by decide, by decide⟩, by decide +kernel⟩, im_X8_shut, se_X8_shut⟩
set_option maxHeartbeats 4000000 in
set_option maxRecDepth 100000 in
theorem xX8_shut_62 {κ : Kx} {G : GT} (C : Cx κ G yX8_shut cX8_shut (some .int) 6 rX8_shut) (q : Nat → Nat) (lx1 : Int) (lx2 : Int) (kx0 : Int → Ob → Option (Int × Ob)) (v : (Int × Ob)) (hk0 : ∀ (lx4 : Int) (M : Ob), kx0 lx4 M = some v → X κ G 6 (W_M G q M) 117 [(0, .ref (q 31)), (4, vi lx4)] [] 0 0 (QM κ G (W_M G q v.2) (some (vi v.1)) rX8_shut.cells rX8_shut.slots)) : ∀ (n : Nat) (lx4 : Int) (lx5 : Int) (M : Ob), lX8_shut_62 lx1 lx2 kx0 n lx4 lx5 M = some v → X κ G 6 (W_M G q M) 62 [(0, .ref (q 31)), (1, vi lx1), (2, vi lx2), (4, vi lx4), (5, vi lx5)] [] 0 0 (QM κ G (W_M G q v.2) (some (vi v.1)) rX8_shut.cells rX8_shut.slots) := by
  intro n
  induction n with
  | zero => intro _ _ _ h; exact absurd h (fun h => nomatch h)
  | succ n ih =>
    intro lx4 lx5 M h
    rw [lX8_shut_62] at h
    refine X.iload C dX8_shut_62 4 rfl ?_
    refine X.aload_n C dX8_shut_64 rfl 0 rfl ?_
    refine X.get C dX8_shut_65 lay_X8 0 rfl rfl 25 (by decide) fl_X8_49 rfl rfl ?_
    refine X.iload_n C dX8_shut_68 rfl 1 rfl ?_
    refine X.iald C h dX8_shut_69 11 rfl (fun h => ?_)
    refine X.icmp_ge (tgt := 117) C h dX8_shut_70 (by decide) (fun h => ?_) (fun h => ?_)
    · refine X.sub [0, 3] rfl ?_
      exact hk0 lx4 M h
    refine X.iload C dX8_shut_73 3 rfl ?_
    refine X.iconst C dX8_shut_75 ?_
    refine X.icmp_ne (tgt := 117) C h dX8_shut_76 (by decide) (fun h => ?_) (fun h => ?_)
    · refine X.sub [0, 3] rfl ?_
      exact hk0 lx4 M h
    refine X.aload_n C dX8_shut_79 rfl 0 rfl ?_
    refine X.aload_n C dX8_shut_80 rfl 0 rfl ?_
    refine X.iload_n C dX8_shut_81 rfl 1 rfl ?_
    refine X.iload C dX8_shut_82 4 rfl ?_
    refine X.callVi (q0 := 0) (As := [vi lx1, vi lx5]) (rest := [.ref (q 31)]) (g := fun rr_5 => rr_5) (W1 := fun rr_5 => (W_M G q M)) (ws2 := fun rr_5 => (W_M G q M)) C h dX8_shut_84 ml_X8_293 mX8_windOf (fun v hv => kX8_windOf q M lx1 lx5 v hv) (fun rr_5 => ln_M_M_m_n (G := G) (q := q) (M := M)) rfl rfl rfl rfl rfl rfl rfl rfl (fun rr_5 h => ?_)
    refine X.callVi (q0 := 0) (As := [vi rr_5]) (rest := []) (g := fun rr_6 => rr_6.1) (W1 := fun rr_6 => (W_M G q rr_6.2)) (ws2 := fun rr_6 => (W_M G q rr_6.2)) C h dX8_shut_87 ml_X8_285 mX8_beat (fun v hv => kX8_beat q M rr_5 v hv) (fun rr_6 => ln_M_M_m_M (G := G) (q := q) (M := M) (NM := rr_6.2)) rfl rfl rfl rfl rfl rfl rfl rfl (fun rr_6 h => ?_)
    refine X.if_lt (tgt := 108) C h dX8_shut_90 (by decide) (fun h => ?_) (fun h => ?_)
    · refine X.iconst C dX8_shut_108 ?_
      refine X.istore (lv2 := [(4, vi (-1)), (0, .ref (q 31)), (1, vi lx1), (2, vi lx2), (5, vi lx5)]) C dX8_shut_109 (by decide) rfl ?_
      refine X.iincN (lv2 := fun lx5_7 => [(5, vi lx5_7), (4, vi (-1)), (0, .ref (q 31)), (1, vi lx1), (2, vi lx2)]) C h dX8_shut_111 4 rfl (by decide) (fun _ => rfl) (fun lx5_7 h => ?_)
      refine X.goto (tgt := 62) C dX8_shut_114 (by decide) ?_
      refine X.sub [2, 3, 4, 1, 0] rfl ?_
      exact ih (-1) lx5_7 rr_6.2 h
    refine X.aload_n C dX8_shut_93 rfl 0 rfl ?_
    refine X.callVi (q0 := 0) (As := []) (rest := []) (g := fun rr_8 => rr_8) (W1 := fun rr_8 => (W_M G q rr_6.2)) (ws2 := fun rr_8 => (W_M G q rr_6.2)) C h dX8_shut_94 ml_X8_401 mX8_iceOf (fun v hv => kX8_iceOf q rr_6.2 v hv) (fun rr_8 => ln_M_M_m_n (G := G) (q := q) (M := rr_6.2)) rfl rfl rfl rfl rfl rfl rfl rfl (fun rr_8 h => ?_)
    refine X.iload_n C dX8_shut_97 rfl 2 rfl ?_
    refine X.icmp_lt (tgt := 108) C h dX8_shut_98 (by decide) (fun h => ?_) (fun h => ?_)
    · refine X.iconst C dX8_shut_108 ?_
      refine X.istore (lv2 := [(4, vi (-1)), (0, .ref (q 31)), (1, vi lx1), (2, vi lx2), (5, vi lx5)]) C dX8_shut_109 (by decide) rfl ?_
      refine X.iincN (lv2 := fun lx5_9 => [(5, vi lx5_9), (4, vi (-1)), (0, .ref (q 31)), (1, vi lx1), (2, vi lx2)]) C h dX8_shut_111 4 rfl (by decide) (fun _ => rfl) (fun lx5_9 h => ?_)
      refine X.goto (tgt := 62) C dX8_shut_114 (by decide) ?_
      refine X.sub [2, 3, 4, 1, 0] rfl ?_
      exact ih (-1) lx5_9 rr_6.2 h
    refine X.iload C dX8_shut_101 4 rfl ?_
    refine X.iconst C dX8_shut_103 ?_
    refine X.iadd C dX8_shut_104 ?_
    refine X.goto (tgt := 109) C dX8_shut_105 (by decide) ?_
    refine X.istoreN (lv2 := fun lx4_10 => [(4, vi lx4_10), (0, .ref (q 31)), (1, vi lx1), (2, vi lx2), (5, vi lx5)]) C h dX8_shut_109 (by decide) (fun _ => rfl) (fun lx4_10 h => ?_)
    refine X.iincN (lv2 := fun lx5_11 => [(5, vi lx5_11), (4, vi lx4_10), (0, .ref (q 31)), (1, vi lx1), (2, vi lx2)]) C h dX8_shut_111 4 rfl (by decide) (fun _ => rfl) (fun lx5_11 h => ?_)
    refine X.goto (tgt := 62) C dX8_shut_114 (by decide) ?_
    refine X.sub [2, 3, 4, 1, 0] rfl ?_
    exact ih lx4_10 lx5_11 rr_6.2 h
set_option maxHeartbeats 4000000 in
set_option maxRecDepth 100000 in
theorem xX8_shut_117 {κ : Kx} {G : GT} (C : Cx κ G yX8_shut cX8_shut (some .int) 6 rX8_shut) (q : Nat → Nat) (M : Ob) (lx4 : Int) (v : (Int × Ob)) (h : jX8_shut_117 M lx4 = some v) : X κ G 6 (W_M G q M) 117 [(0, .ref (q 31)), (4, vi lx4)] [] 0 0 (QM κ G (W_M G q v.2) (some (vi v.1)) rX8_shut.cells rX8_shut.slots) := by
  unfold jX8_shut_117 at h
  refine X.aload_n C dX8_shut_117 rfl 0 rfl ?_
  refine X.callVv (q0 := 0) (As := []) (rest := []) (W1 := fun rr_14 => (W_M G q rr_14)) (ws2 := fun rr_14 => (W_M G q rr_14)) C h dX8_shut_118 ml_X8_376 mX8_wakes (fun v hv => kX8_wakes q M v hv) (fun rr_14 => ln_M_M_m_M (G := G) (q := q) (M := M) (NM := rr_14)) rfl rfl rfl rfl rfl rfl rfl rfl (fun rr_14 h => ?_)
  refine X.iload C dX8_shut_121 1 rfl ?_
  cases h
  exact X.iret C dX8_shut_123 (Nat.zero_le _) (Nat.zero_le _)
set_option maxHeartbeats 4000000 in
set_option maxRecDepth 100000 in
theorem kX8_shut {l : Launch} {G : GT} (q : Nat → Nat) (M : Ob) (lx1 : Int) (lx2 : Int) (v : (Int × Ob)) (h : fX8_shut M lx1 lx2 = some v) : CT l G yX8_shut cX8_shut 6 (some .int) rX8_shut [.ref (q 31), vi lx1, vi lx2] (W_M G q M) (W_M G q v.2) (some (vi v.1)) := by
  unfold fX8_shut at h
  refine CT.of (by decide) (Nat.le_of_ble_eq_true rfl) rfl (fun κ _ C => ?_)
  refine X.iload_n C dX8_shut_0 rfl 2 rfl ?_
  refine X.i2l C dX8_shut_1 ?_
  refine X.lconst (z := 1) C dX8_shut_2 (by decide) ?_
  refine X.ldc2 (z := 9999) C cl_X8_390 (by decide) dX8_shut_3 ?_
  refine X.callSi (As := [vl (jwl lx2), vl 1, vl 9999]) (rest := []) (g := fun rr_1 => rr_1) (W1 := fun rr_1 => W_0) (ws2 := fun rr_1 => (W_M G q M)) C h dX8_shut_6 ml_X8_68 mX8_in (fun v hv => kX8_in (jwl lx2) 1 9999 v hv) (fun rr_1 => ln_M_0__n (G := G) (q := q) (M := M)) rfl rfl rfl rfl rfl rfl (fun rr_1 h => ?_)
  refine X.if_ne (tgt := 15) C h dX8_shut_9 (by decide) (fun h => ?_) (fun h => ?_)
  · refine X.aload_n C dX8_shut_15 rfl 0 rfl ?_
    refine X.iload_n C dX8_shut_16 rfl 1 rfl ?_
    refine X.callVi (q0 := 0) (As := [vi lx1]) (rest := []) (g := fun rr_2 => rr_2) (W1 := fun rr_2 => (W_M G q M)) (ws2 := fun rr_2 => (W_M G q M)) C h dX8_shut_17 ml_X8_296 mX8_asks (fun v hv => kX8_asks q M lx1 v hv) (fun rr_2 => ln_M_M_m_n (G := G) (q := q) (M := M)) rfl rfl rfl rfl rfl rfl rfl rfl (fun rr_2 h => ?_)
    refine X.istore_n (lv2 := [(3, vi rr_2), (0, .ref (q 31)), (1, vi lx1), (2, vi lx2)]) C dX8_shut_20 rfl (by decide) rfl ?_
    refine X.iload_n C dX8_shut_21 rfl 0 rfl ?_
    refine X.if_ge (tgt := 27) C h dX8_shut_22 (by decide) (fun h => ?_) (fun h => ?_)
    · refine X.aload_n C dX8_shut_27 rfl 1 rfl ?_
      refine X.get C dX8_shut_28 lay_X8 0 rfl rfl 1 (by decide) fl_X8_13 rfl rfl ?_
      refine X.bipush C dX8_shut_31 (by decide) ?_
      refine X.iald C h dX8_shut_33 1 rfl (fun h => ?_)
      refine X.iconst C dX8_shut_34 ?_
      refine X.icmp_ne (tgt := 40) C h dX8_shut_35 (by decide) (fun h => ?_) (fun h => ?_)
      · refine X.aload_n C dX8_shut_40 rfl 1 rfl ?_
        refine X.callVv (q0 := 0) (As := []) (rest := []) (W1 := fun rr_3 => (W_M G q rr_3)) (ws2 := fun rr_3 => (W_M G q rr_3)) C h dX8_shut_41 ml_X8_370 mX8_thinks (fun v hv => kX8_thinks q M v hv) (fun rr_3 => ln_M_M_m_M (G := G) (q := q) (M := M) (NM := rr_3)) rfl rfl rfl rfl rfl rfl rfl rfl (fun rr_3 h => ?_)
        refine X.aload_n C dX8_shut_44 rfl 1 rfl ?_
        refine X.callVi (q0 := 0) (As := []) (rest := []) (g := fun rr_4 => rr_4) (W1 := fun rr_4 => (W_M G q rr_3)) (ws2 := fun rr_4 => (W_M G q rr_3)) C h dX8_shut_45 ml_X8_401 mX8_iceOf (fun v hv => kX8_iceOf q rr_3 v hv) (fun rr_4 => ln_M_M_m_n (G := G) (q := q) (M := rr_3)) rfl rfl rfl rfl rfl rfl rfl rfl (fun rr_4 h => ?_)
        refine X.iload_n C dX8_shut_48 rfl 3 rfl ?_
        refine X.icmp_lt (tgt := 56) C h dX8_shut_49 (by decide) (fun h => ?_) (fun h => ?_)
        · refine X.iconst C dX8_shut_56 ?_
          refine X.istore (lv2 := [(4, vi (-1)), (3, vi rr_2), (0, .ref (q 31)), (1, vi lx1), (2, vi lx2)]) C dX8_shut_57 (by decide) rfl ?_
          refine X.iconst C dX8_shut_59 ?_
          refine X.istore (lv2 := [(5, vi 0), (4, vi (-1)), (3, vi rr_2), (0, .ref (q 31)), (1, vi lx1), (2, vi lx2)]) C dX8_shut_60 (by decide) rfl ?_
          refine X.sub [3, 4, 5, 1, 0] rfl ?_
          refine xX8_shut_62 C q lx1 lx2 _ v (fun lx4_12 M_13 h => ?_) FU (-1) 0 rr_3 h
          · refine X.sub [0, 1] rfl ?_
            exact xX8_shut_117 C q M_13 lx4_12 v h
        refine X.iconst C dX8_shut_52 ?_
        refine X.goto (tgt := 57) C dX8_shut_53 (by decide) ?_
        refine X.istore (lv2 := [(4, vi 0), (3, vi rr_2), (0, .ref (q 31)), (1, vi lx1), (2, vi lx2)]) C dX8_shut_57 (by decide) rfl ?_
        refine X.iconst C dX8_shut_59 ?_
        refine X.istore (lv2 := [(5, vi 0), (4, vi 0), (3, vi rr_2), (0, .ref (q 31)), (1, vi lx1), (2, vi lx2)]) C dX8_shut_60 (by decide) rfl ?_
        refine X.sub [3, 4, 5, 1, 0] rfl ?_
        refine xX8_shut_62 C q lx1 lx2 _ v (fun lx4_15 M_16 h => ?_) FU 0 0 rr_3 h
        · refine X.sub [0, 1] rfl ?_
          exact xX8_shut_117 C q M_16 lx4_15 v h
      refine X.iconst C dX8_shut_38 ?_
      cases h
      exact X.iret C dX8_shut_39 (Nat.zero_le _) (Nat.zero_le _)
    refine X.iload_n C dX8_shut_25 rfl 0 rfl ?_
    cases h
    exact X.iret C dX8_shut_26 (Nat.zero_le _) (Nat.zero_le _)
  refine X.bipush C dX8_shut_12 (by decide) ?_
  cases h
  exact X.iret C dX8_shut_14 (Nat.zero_le _) (Nat.zero_le _)
def rX8_fillMarks : Room := { frames := 5, cells := 0, slots := 0, locals := 123 }
theorem mX8_fillMarks : MV yX8_fillMarks cX8_fillMarks 6 none 3 := ⟨cd_X8_fillMarks, in_X8, ⟨⟨by decide, by decide⟩, by decide +kernel⟩, im_X8_fillMarks, se_X8_fillMarks⟩
set_option maxHeartbeats 4000000 in
set_option maxRecDepth 100000 in
theorem xX8_fillMarks_39 {κ : Kx} {G : GT} (C : Cx κ G yX8_fillMarks cX8_fillMarks none 6 rX8_fillMarks) (q : Nat → Nat) (lx1 : Int) (lx2 : Int) (lx3 : Int) (lx4 : Int) (kx0 : Ob → Option (Ob)) (v : (Ob)) (hk0 : ∀ (M : Ob), kx0 M = some v → X κ G 6 (W_M G q M) 153 [(0, .ref (q 31)), (1, vi lx1), (2, vi lx2), (3, vi lx3), (4, vi lx4)] [] 0 0 (QM κ G (W_M G q v) none rX8_fillMarks.cells rX8_fillMarks.slots)) : ∀ (n : Nat) (lx5 : Int) (M : Ob), lX8_fillMarks_39 lx1 lx2 lx3 lx4 kx0 n lx5 M = some v → X κ G 6 (W_M G q M) 39 [(0, .ref (q 31)), (1, vi lx1), (2, vi lx2), (3, vi lx3), (4, vi lx4), (5, vi lx5)] [] 0 0 (QM κ G (W_M G q v) none rX8_fillMarks.cells rX8_fillMarks.slots) := by
  intro n
  induction n with
  | zero => intro _ _ h; exact absurd h (fun h => nomatch h)
  | succ n ih =>
    intro lx5 M h
    rw [lX8_fillMarks_39] at h
    refine X.iload C dX8_fillMarks_39 5 rfl ?_
    refine X.aload_n C dX8_fillMarks_41 rfl 0 rfl ?_
    refine X.get C dX8_fillMarks_42 lay_X8 0 rfl rfl 1 (by decide) fl_X8_13 rfl rfl ?_
    refine X.bipush C dX8_fillMarks_45 (by decide) ?_
    refine X.iald C h dX8_fillMarks_47 1 rfl (fun h => ?_)
    refine X.icmp_ge (tgt := 153) C h dX8_fillMarks_48 (by decide) (fun h => ?_) (fun h => ?_)
    · refine X.sub [0, 1, 2, 3, 4] rfl ?_
      exact hk0 M h
    refine X.iload C dX8_fillMarks_51 4 rfl ?_
    refine X.bipush C dX8_fillMarks_53 (by decide) ?_
    refine X.irem C (by decide) dX8_fillMarks_55 ?_
    refine X.if_le (tgt := 153) C h dX8_fillMarks_56 (by decide) (fun h => ?_) (fun h => ?_)
    · refine X.sub [0, 1, 2, 3, 4] rfl ?_
      exact hk0 M h
    refine X.aload_n C dX8_fillMarks_59 rfl 0 rfl ?_
    refine X.iload C dX8_fillMarks_60 5 rfl ?_
    refine X.iload_n C dX8_fillMarks_62 rfl 3 rfl ?_
    refine X.iload C dX8_fillMarks_63 4 rfl ?_
    refine X.iload_n C dX8_fillMarks_65 rfl 1 rfl ?_
    refine X.iload_n C dX8_fillMarks_66 rfl 2 rfl ?_
    refine X.callVi (q0 := 0) (As := [vi lx5, vi lx3, vi lx4, vi lx1, vi lx2]) (rest := []) (g := fun rr_6 => rr_6) (W1 := fun rr_6 => (W_M G q M)) (ws2 := fun rr_6 => (W_M G q M)) C h dX8_fillMarks_67 ml_X8_338 mX8_isSteadyOn (fun v hv => kX8_isSteadyOn q M lx5 lx3 lx4 lx1 lx2 v hv) (fun rr_6 => ln_M_M_m_n (G := G) (q := q) (M := M)) rfl rfl rfl rfl rfl rfl rfl rfl (fun rr_6 h => ?_)
    refine X.if_ne (tgt := 76) C h dX8_fillMarks_70 (by decide) (fun h => ?_) (fun h => ?_)
    · refine X.aload_n C dX8_fillMarks_76 rfl 0 rfl ?_
      refine X.dup C dX8_fillMarks_77 rfl ?_
      refine X.get C dX8_fillMarks_78 lay_X8 0 rfl rfl 18 (by decide) fl_X8_404 rfl rfl ?_
      refine X.iconst C dX8_fillMarks_81 ?_
      refine X.iadd C dX8_fillMarks_82 ?_
      refine X.put (ws2 := (W_M G q (up2 M 18 0 ((M 18 0) + 1)))) (ty := .int) C dX8_fillMarks_83 lay_X8 tyX8_ok nmX8 0 rfl rfl 18 (by decide) fl_X8_404 rfl rfl (by decide +kernel) rfl rfl (Nat.le_of_ble_eq_true rfl) rfl ?_
      refine X.nameS (ws := fun M_7 => (W_M G q M_7)) h (fun M_7 h => ?_)
      refine X.aload_n C dX8_fillMarks_86 rfl 0 rfl ?_
      refine X.aload_n C dX8_fillMarks_87 rfl 0 rfl ?_
      refine X.get C dX8_fillMarks_88 lay_X8 0 rfl rfl 19 (by decide) fl_X8_407 rfl rfl ?_
      refine X.iload C dX8_fillMarks_91 4 rfl ?_
      refine X.bipush C dX8_fillMarks_93 (by decide) ?_
      refine X.irem C (by decide) dX8_fillMarks_95 ?_
      refine X.mmin C dX8_fillMarks_96 ml_X8_110 sm_J9_min_7cf53 in_java_lang_Math cd_J9_min_7cf53 (Nat.le_of_ble_eq_true rfl) (Nat.le_of_ble_eq_true rfl) (Nat.zero_le _) (Nat.zero_le _) ?_
      refine X.put (ws2 := (W_M G q (up2 M_7 19 0 (jmi (M_7 19 0) (jrm lx4 10))))) (ty := .int) C dX8_fillMarks_99 lay_X8 tyX8_ok nmX8 0 rfl rfl 19 (by decide) fl_X8_407 rfl rfl (by decide +kernel) rfl rfl (Nat.le_of_ble_eq_true rfl) rfl ?_
      refine X.nameS (ws := fun M_8 => (W_M G q M_8)) h (fun M_8 h => ?_)
      refine X.aload_n C dX8_fillMarks_102 rfl 0 rfl ?_
      refine X.aload_n C dX8_fillMarks_103 rfl 0 rfl ?_
      refine X.get C dX8_fillMarks_104 lay_X8 0 rfl rfl 20 (by decide) fl_X8_410 rfl rfl ?_
      refine X.iload C dX8_fillMarks_107 4 rfl ?_
      refine X.bipush C dX8_fillMarks_109 (by decide) ?_
      refine X.irem C (by decide) dX8_fillMarks_111 ?_
      refine X.mmax C dX8_fillMarks_112 ml_X8_242 sm_J9_max_7cf53 in_java_lang_Math cd_J9_max_7cf53 (Nat.le_of_ble_eq_true rfl) (Nat.le_of_ble_eq_true rfl) (Nat.zero_le _) (Nat.zero_le _) ?_
      refine X.put (ws2 := (W_M G q (up2 M_8 20 0 (jmx (M_8 20 0) (jrm lx4 10))))) (ty := .int) C dX8_fillMarks_115 lay_X8 tyX8_ok nmX8 0 rfl rfl 20 (by decide) fl_X8_410 rfl rfl (by decide +kernel) rfl rfl (Nat.le_of_ble_eq_true rfl) rfl ?_
      refine X.nameS (ws := fun M_9 => (W_M G q M_9)) h (fun M_9 h => ?_)
      refine X.aload_n C dX8_fillMarks_118 rfl 0 rfl ?_
      refine X.dup C dX8_fillMarks_119 rfl ?_
      refine X.get C dX8_fillMarks_120 lay_X8 0 rfl rfl 21 (by decide) fl_X8_413 rfl rfl ?_
      refine X.iconst C dX8_fillMarks_123 ?_
      refine X.iload C dX8_fillMarks_124 4 rfl ?_
      refine X.bipush C dX8_fillMarks_126 (by decide) ?_
      refine X.idiv C (by decide) dX8_fillMarks_128 ?_
      refine X.ishl C dX8_fillMarks_129 ?_
      refine X.ior C dX8_fillMarks_130 ?_
      refine X.put (ws2 := (W_M G q (up2 M_9 21 0 (jor (M_9 21 0) (jsl 1 (jdv lx4 10)))))) (ty := .int) C dX8_fillMarks_131 lay_X8 tyX8_ok nmX8 0 rfl rfl 21 (by decide) fl_X8_413 rfl rfl (by decide +kernel) rfl rfl (Nat.le_of_ble_eq_true rfl) rfl ?_
      refine X.nameS (ws := fun M_10 => (W_M G q M_10)) h (fun M_10 h => ?_)
      refine X.aload_n C dX8_fillMarks_134 rfl 0 rfl ?_
      refine X.dup C dX8_fillMarks_135 rfl ?_
      refine X.get C dX8_fillMarks_136 lay_X8 0 rfl rfl 22 (by decide) fl_X8_416 rfl rfl ?_
      refine X.iconst C dX8_fillMarks_139 ?_
      refine X.iload C dX8_fillMarks_140 5 rfl ?_
      refine X.ishl C dX8_fillMarks_142 ?_
      refine X.ior C dX8_fillMarks_143 ?_
      refine X.put (ws2 := (W_M G q (up2 M_10 22 0 (jor (M_10 22 0) (jsl 1 lx5))))) (ty := .int) C dX8_fillMarks_144 lay_X8 tyX8_ok nmX8 0 rfl rfl 22 (by decide) fl_X8_416 rfl rfl (by decide +kernel) rfl rfl (Nat.le_of_ble_eq_true rfl) rfl ?_
      refine X.nameS (ws := fun M_11 => (W_M G q M_11)) h (fun M_11 h => ?_)
      refine X.iincN (lv2 := fun lx5_12 => [(5, vi lx5_12), (0, .ref (q 31)), (1, vi lx1), (2, vi lx2), (3, vi lx3), (4, vi lx4)]) C h dX8_fillMarks_147 5 rfl (by decide) (fun _ => rfl) (fun lx5_12 h => ?_)
      refine X.goto (tgt := 39) C dX8_fillMarks_150 (by decide) ?_
      refine X.sub [1, 2, 3, 4, 5, 0] rfl ?_
      exact ih lx5_12 M_11 h
    refine X.goto (tgt := 147) C dX8_fillMarks_73 (by decide) ?_
    refine X.iincN (lv2 := fun lx5_13 => [(5, vi lx5_13), (0, .ref (q 31)), (1, vi lx1), (2, vi lx2), (3, vi lx3), (4, vi lx4)]) C h dX8_fillMarks_147 5 rfl (by decide) (fun _ => rfl) (fun lx5_13 h => ?_)
    refine X.goto (tgt := 39) C dX8_fillMarks_150 (by decide) ?_
    refine X.sub [1, 2, 3, 4, 5, 0] rfl ?_
    exact ih lx5_13 M h
set_option maxHeartbeats 4000000 in
set_option maxRecDepth 100000 in
theorem xX8_fillMarks_29 {κ : Kx} {G : GT} (C : Cx κ G yX8_fillMarks cX8_fillMarks none 6 rX8_fillMarks) (q : Nat → Nat) (lx1 : Int) (lx2 : Int) (lx3 : Int) (v : (Ob)) : ∀ (n : Nat) (lx4 : Int) (M : Ob), lX8_fillMarks_29 lx1 lx2 lx3 n lx4 M = some v → X κ G 6 (W_M G q M) 29 [(0, .ref (q 31)), (1, vi lx1), (2, vi lx2), (3, vi lx3), (4, vi lx4)] [] 0 0 (QM κ G (W_M G q v) none rX8_fillMarks.cells rX8_fillMarks.slots) := by
  intro n
  induction n with
  | zero => intro _ _ h; exact absurd h (fun h => nomatch h)
  | succ n ih =>
    intro lx4 M h
    rw [lX8_fillMarks_29] at h
    refine X.iload C dX8_fillMarks_29 4 rfl ?_
    refine X.bipush C dX8_fillMarks_31 (by decide) ?_
    refine X.icmp_ge (tgt := 159) C h dX8_fillMarks_33 (by decide) (fun h => ?_) (fun h => ?_)
    · cases h
      exact X.vret C dX8_fillMarks_159 (Nat.zero_le _) (Nat.zero_le _)
    refine X.iconst C dX8_fillMarks_36 ?_
    refine X.istore (lv2 := [(5, vi 0), (0, .ref (q 31)), (1, vi lx1), (2, vi lx2), (3, vi lx3), (4, vi lx4)]) C dX8_fillMarks_37 (by decide) rfl ?_
    refine X.sub [1, 2, 3, 4, 5, 0] rfl ?_
    refine xX8_fillMarks_39 C q lx1 lx2 lx3 lx4 _ v (fun M_14 h => ?_) FU 0 M h
    · refine X.iincN (lv2 := fun lx4_15 => [(4, vi lx4_15), (0, .ref (q 31)), (1, vi lx1), (2, vi lx2), (3, vi lx3)]) C h dX8_fillMarks_153 4 rfl (by decide) (fun _ => rfl) (fun lx4_15 h => ?_)
      refine X.goto (tgt := 29) C dX8_fillMarks_156 (by decide) ?_
      refine X.sub [1, 2, 3, 4, 0] rfl ?_
      exact ih lx4_15 M_14 h
set_option maxHeartbeats 4000000 in
set_option maxRecDepth 100000 in
theorem kX8_fillMarks {l : Launch} {G : GT} (q : Nat → Nat) (M : Ob) (lx1 : Int) (lx2 : Int) (lx3 : Int) (v : (Ob)) (h : fX8_fillMarks M lx1 lx2 lx3 = some v) : CT l G yX8_fillMarks cX8_fillMarks 6 none rX8_fillMarks [.ref (q 31), vi lx1, vi lx2, vi lx3] (W_M G q M) (W_M G q v) none := by
  unfold fX8_fillMarks at h
  refine CT.of (by decide) (Nat.le_of_ble_eq_true rfl) rfl (fun κ _ C => ?_)
  refine X.aload_n C dX8_fillMarks_0 rfl 0 rfl ?_
  refine X.iconst C dX8_fillMarks_1 ?_
  refine X.put (ws2 := (W_M G q (up2 M 18 0 0))) (ty := .int) C dX8_fillMarks_2 lay_X8 tyX8_ok nmX8 0 rfl rfl 18 (by decide) fl_X8_404 rfl rfl (by decide +kernel) rfl rfl (Nat.le_of_ble_eq_true rfl) rfl ?_
  refine X.nameS (ws := fun M_1 => (W_M G q M_1)) h (fun M_1 h => ?_)
  refine X.aload_n C dX8_fillMarks_5 rfl 0 rfl ?_
  refine X.bipush C dX8_fillMarks_6 (by decide) ?_
  refine X.put (ws2 := (W_M G q (up2 M_1 19 0 10))) (ty := .int) C dX8_fillMarks_8 lay_X8 tyX8_ok nmX8 0 rfl rfl 19 (by decide) fl_X8_407 rfl rfl (by decide +kernel) rfl rfl (Nat.le_of_ble_eq_true rfl) rfl ?_
  refine X.nameS (ws := fun M_2 => (W_M G q M_2)) h (fun M_2 h => ?_)
  refine X.aload_n C dX8_fillMarks_11 rfl 0 rfl ?_
  refine X.iconst C dX8_fillMarks_12 ?_
  refine X.put (ws2 := (W_M G q (up2 M_2 20 0 0))) (ty := .int) C dX8_fillMarks_13 lay_X8 tyX8_ok nmX8 0 rfl rfl 20 (by decide) fl_X8_410 rfl rfl (by decide +kernel) rfl rfl (Nat.le_of_ble_eq_true rfl) rfl ?_
  refine X.nameS (ws := fun M_3 => (W_M G q M_3)) h (fun M_3 h => ?_)
  refine X.aload_n C dX8_fillMarks_16 rfl 0 rfl ?_
  refine X.iconst C dX8_fillMarks_17 ?_
  refine X.put (ws2 := (W_M G q (up2 M_3 21 0 0))) (ty := .int) C dX8_fillMarks_18 lay_X8 tyX8_ok nmX8 0 rfl rfl 21 (by decide) fl_X8_413 rfl rfl (by decide +kernel) rfl rfl (Nat.le_of_ble_eq_true rfl) rfl ?_
  refine X.nameS (ws := fun M_4 => (W_M G q M_4)) h (fun M_4 h => ?_)
  refine X.aload_n C dX8_fillMarks_21 rfl 0 rfl ?_
  refine X.iconst C dX8_fillMarks_22 ?_
  refine X.put (ws2 := (W_M G q (up2 M_4 22 0 0))) (ty := .int) C dX8_fillMarks_23 lay_X8 tyX8_ok nmX8 0 rfl rfl 22 (by decide) fl_X8_416 rfl rfl (by decide +kernel) rfl rfl (Nat.le_of_ble_eq_true rfl) rfl ?_
  refine X.nameS (ws := fun M_5 => (W_M G q M_5)) h (fun M_5 h => ?_)
  refine X.iconst C dX8_fillMarks_26 ?_
  refine X.istore (lv2 := [(4, vi 0), (0, .ref (q 31)), (1, vi lx1), (2, vi lx2), (3, vi lx3)]) C dX8_fillMarks_27 (by decide) rfl ?_
  refine X.sub [1, 2, 3, 4, 0] rfl ?_
  refine xX8_fillMarks_29 C q lx1 lx2 lx3 v FU 0 M_5 h
def rX8_marks : Room := { frames := 6, cells := 0, slots := 0, locals := 148 }
theorem mX8_marks : MV yX8_marks cX8_marks 4 (some .int) 3 := ⟨cd_X8_marks, in_X8, ⟨⟨by decide, by decide⟩, by decide +kernel⟩, im_X8_marks, se_X8_marks⟩
set_option maxHeartbeats 4000000 in
set_option maxRecDepth 100000 in
theorem kX8_marks {l : Launch} {G : GT} (q : Nat → Nat) (M : Ob) (lx1 : Int) (lx2 : Int) (lx3 : Int) (v : (Int × Ob)) (h : fX8_marks M lx1 lx2 lx3 = some v) : CT l G yX8_marks cX8_marks 4 (some .int) rX8_marks [.ref (q 31), vi lx1, vi lx2, vi lx3] (W_M G q M) (W_M G q v.2) (some (vi v.1)) := by
  unfold fX8_marks at h
  refine CT.of (by decide) (Nat.le_of_ble_eq_true rfl) rfl (fun κ _ C => ?_)
  refine X.aload_n C dX8_marks_0 rfl 0 rfl ?_
  refine X.iload_n C dX8_marks_1 rfl 1 rfl ?_
  refine X.iload_n C dX8_marks_2 rfl 2 rfl ?_
  refine X.callVi (q0 := 0) (As := [vi lx1, vi lx2]) (rest := []) (g := fun rr_1 => rr_1) (W1 := fun rr_1 => (W_M G q M)) (ws2 := fun rr_1 => (W_M G q M)) C h dX8_marks_3 ml_X8_248 mX8_isCell (fun v hv => kX8_isCell q M lx1 lx2 v hv) (fun rr_1 => ln_M_M_m_n (G := G) (q := q) (M := M)) rfl rfl rfl rfl rfl rfl rfl rfl (fun rr_1 h => ?_)
  refine X.if_eq (tgt := 21) C h dX8_marks_6 (by decide) (fun h => ?_) (fun h => ?_)
  · refine X.bipush C dX8_marks_21 (by decide) ?_
    cases h
    exact X.iret C dX8_marks_23 (Nat.zero_le _) (Nat.zero_le _)
  refine X.iload_n C dX8_marks_9 rfl 3 rfl ?_
  refine X.i2l C dX8_marks_10 ?_
  refine X.lconst (z := 1) C dX8_marks_11 (by decide) ?_
  refine X.ldc2 (z := 60) C cl_X8_214 (by decide) dX8_marks_12 ?_
  refine X.callSi (As := [vl (jwl lx3), vl 1, vl 60]) (rest := []) (g := fun rr_2 => rr_2) (W1 := fun rr_2 => W_0) (ws2 := fun rr_2 => (W_M G q M)) C h dX8_marks_15 ml_X8_68 mX8_in (fun v hv => kX8_in (jwl lx3) 1 60 v hv) (fun rr_2 => ln_M_0__n (G := G) (q := q) (M := M)) rfl rfl rfl rfl rfl rfl (fun rr_2 h => ?_)
  refine X.if_ne (tgt := 24) C h dX8_marks_18 (by decide) (fun h => ?_) (fun h => ?_)
  · refine X.aload_n C dX8_marks_24 rfl 0 rfl ?_
    refine X.iload_n C dX8_marks_25 rfl 1 rfl ?_
    refine X.iload_n C dX8_marks_26 rfl 2 rfl ?_
    refine X.iload_n C dX8_marks_27 rfl 3 rfl ?_
    refine X.callVv (q0 := 0) (As := [vi lx1, vi lx2, vi lx3]) (rest := []) (W1 := fun rr_3 => (W_M G q rr_3)) (ws2 := fun rr_3 => (W_M G q rr_3)) C h dX8_marks_28 ml_X8_419 mX8_fillMarks (fun v hv => kX8_fillMarks q M lx1 lx2 lx3 v hv) (fun rr_3 => ln_M_M_m_M (G := G) (q := q) (M := M) (NM := rr_3)) rfl rfl rfl rfl rfl rfl rfl rfl (fun rr_3 h => ?_)
    refine X.aload_n C dX8_marks_31 rfl 0 rfl ?_
    refine X.get C dX8_marks_32 lay_X8 0 rfl rfl 18 (by decide) fl_X8_404 rfl rfl ?_
    cases h
    exact X.iret C dX8_marks_35 (Nat.zero_le _) (Nat.zero_le _)
  refine X.bipush C dX8_marks_21 (by decide) ?_
  cases h
  exact X.iret C dX8_marks_23 (Nat.zero_le _) (Nat.zero_le _)
def rX8_span : Room := { frames := 6, cells := 0, slots := 0, locals := 148 }
theorem mX8_span : MV yX8_span cX8_span 5 (some .int) 4 := ⟨cd_X8_span, in_X8, ⟨⟨by decide, by decide⟩, by decide +kernel⟩, im_X8_span, se_X8_span⟩
set_option maxHeartbeats 4000000 in
set_option maxRecDepth 100000 in
theorem kX8_span {l : Launch} {G : GT} (q : Nat → Nat) (M : Ob) (lx1 : Int) (lx2 : Int) (lx3 : Int) (lx4 : Int) (v : (Int × Ob)) (h : fX8_span M lx1 lx2 lx3 lx4 = some v) : CT l G yX8_span cX8_span 5 (some .int) rX8_span [.ref (q 31), vi lx1, vi lx2, vi lx3, vi lx4] (W_M G q M) (W_M G q v.2) (some (vi v.1)) := by
  unfold fX8_span at h
  refine CT.of (by decide) (Nat.le_of_ble_eq_true rfl) rfl (fun κ _ C => ?_)
  refine X.aload_n C dX8_span_0 rfl 0 rfl ?_
  refine X.iload_n C dX8_span_1 rfl 1 rfl ?_
  refine X.iload_n C dX8_span_2 rfl 2 rfl ?_
  refine X.callVi (q0 := 0) (As := [vi lx1, vi lx2]) (rest := []) (g := fun rr_1 => rr_1) (W1 := fun rr_1 => (W_M G q M)) (ws2 := fun rr_1 => (W_M G q M)) C h dX8_span_3 ml_X8_248 mX8_isCell (fun v hv => kX8_isCell q M lx1 lx2 v hv) (fun rr_1 => ln_M_M_m_n (G := G) (q := q) (M := M)) rfl rfl rfl rfl rfl rfl rfl rfl (fun rr_1 h => ?_)
  refine X.if_eq (tgt := 34) C h dX8_span_6 (by decide) (fun h => ?_) (fun h => ?_)
  · refine X.bipush C dX8_span_34 (by decide) ?_
    cases h
    exact X.iret C dX8_span_36 (Nat.zero_le _) (Nat.zero_le _)
  refine X.iload_n C dX8_span_9 rfl 3 rfl ?_
  refine X.i2l C dX8_span_10 ?_
  refine X.lconst (z := 1) C dX8_span_11 (by decide) ?_
  refine X.ldc2 (z := 60) C cl_X8_214 (by decide) dX8_span_12 ?_
  refine X.callSi (As := [vl (jwl lx3), vl 1, vl 60]) (rest := []) (g := fun rr_2 => rr_2) (W1 := fun rr_2 => W_0) (ws2 := fun rr_2 => (W_M G q M)) C h dX8_span_15 ml_X8_68 mX8_in (fun v hv => kX8_in (jwl lx3) 1 60 v hv) (fun rr_2 => ln_M_0__n (G := G) (q := q) (M := M)) rfl rfl rfl rfl rfl rfl (fun rr_2 h => ?_)
  refine X.if_eq (tgt := 34) C h dX8_span_18 (by decide) (fun h => ?_) (fun h => ?_)
  · refine X.bipush C dX8_span_34 (by decide) ?_
    cases h
    exact X.iret C dX8_span_36 (Nat.zero_le _) (Nat.zero_le _)
  refine X.iload C dX8_span_21 4 rfl ?_
  refine X.i2l C dX8_span_23 ?_
  refine X.lconst (z := 0) C dX8_span_24 (by decide) ?_
  refine X.ldc2 (z := 3) C cl_X8_305 (by decide) dX8_span_25 ?_
  refine X.callSi (As := [vl (jwl lx4), vl 0, vl 3]) (rest := []) (g := fun rr_3 => rr_3) (W1 := fun rr_3 => W_0) (ws2 := fun rr_3 => (W_M G q M)) C h dX8_span_28 ml_X8_68 mX8_in (fun v hv => kX8_in (jwl lx4) 0 3 v hv) (fun rr_3 => ln_M_0__n (G := G) (q := q) (M := M)) rfl rfl rfl rfl rfl rfl (fun rr_3 h => ?_)
  refine X.if_ne (tgt := 37) C h dX8_span_31 (by decide) (fun h => ?_) (fun h => ?_)
  · refine X.aload_n C dX8_span_37 rfl 0 rfl ?_
    refine X.iload_n C dX8_span_38 rfl 1 rfl ?_
    refine X.iload_n C dX8_span_39 rfl 2 rfl ?_
    refine X.iload_n C dX8_span_40 rfl 3 rfl ?_
    refine X.callVv (q0 := 0) (As := [vi lx1, vi lx2, vi lx3]) (rest := []) (W1 := fun rr_4 => (W_M G q rr_4)) (ws2 := fun rr_4 => (W_M G q rr_4)) C h dX8_span_41 ml_X8_419 mX8_fillMarks (fun v hv => kX8_fillMarks q M lx1 lx2 lx3 v hv) (fun rr_4 => ln_M_M_m_M (G := G) (q := q) (M := M) (NM := rr_4)) rfl rfl rfl rfl rfl rfl rfl rfl (fun rr_4 h => ?_)
    refine X.aload_n C dX8_span_44 rfl 0 rfl ?_
    refine X.get C dX8_span_45 lay_X8 0 rfl rfl 18 (by decide) fl_X8_404 rfl rfl ?_
    refine X.if_ne (tgt := 53) C h dX8_span_48 (by decide) (fun h => ?_) (fun h => ?_)
    · refine X.iload C dX8_span_53 4 rfl ?_
      refine X.if_ne (tgt := 65) C h dX8_span_55 (by decide) (fun h => ?_) (fun h => ?_)
      · refine X.iload C dX8_span_65 4 rfl ?_
        refine X.iconst C dX8_span_67 ?_
        refine X.icmp_ne (tgt := 78) C h dX8_span_68 (by decide) (fun h => ?_) (fun h => ?_)
        · refine X.iload C dX8_span_78 4 rfl ?_
          refine X.iconst C dX8_span_80 ?_
          refine X.icmp_ne (tgt := 91) C h dX8_span_81 (by decide) (fun h => ?_) (fun h => ?_)
          · refine X.aload_n C dX8_span_91 rfl 0 rfl ?_
            refine X.get C dX8_span_92 lay_X8 0 rfl rfl 22 (by decide) fl_X8_416 rfl rfl ?_
            cases h
            exact X.iret C dX8_span_95 (Nat.zero_le _) (Nat.zero_le _)
          refine X.aload_n C dX8_span_84 rfl 0 rfl ?_
          refine X.get C dX8_span_85 lay_X8 0 rfl rfl 21 (by decide) fl_X8_413 rfl rfl ?_
          refine X.goto (tgt := 95) C dX8_span_88 (by decide) ?_
          cases h
          exact X.iret C dX8_span_95 (Nat.zero_le _) (Nat.zero_le _)
        refine X.aload_n C dX8_span_71 rfl 0 rfl ?_
        refine X.get C dX8_span_72 lay_X8 0 rfl rfl 20 (by decide) fl_X8_410 rfl rfl ?_
        refine X.goto (tgt := 95) C dX8_span_75 (by decide) ?_
        cases h
        exact X.iret C dX8_span_95 (Nat.zero_le _) (Nat.zero_le _)
      refine X.aload_n C dX8_span_58 rfl 0 rfl ?_
      refine X.get C dX8_span_59 lay_X8 0 rfl rfl 19 (by decide) fl_X8_407 rfl rfl ?_
      refine X.goto (tgt := 95) C dX8_span_62 (by decide) ?_
      cases h
      exact X.iret C dX8_span_95 (Nat.zero_le _) (Nat.zero_le _)
    refine X.iconst C dX8_span_51 ?_
    cases h
    exact X.iret C dX8_span_52 (Nat.zero_le _) (Nat.zero_le _)
  refine X.bipush C dX8_span_34 (by decide) ?_
  cases h
  exact X.iret C dX8_span_36 (Nat.zero_le _) (Nat.zero_le _)
def rX8_makes : Room := { frames := 6, cells := 0, slots := 0, locals := 149 }
theorem mX8_makes : MV yX8_makes cX8_makes 7 (some .boolean) 3 := ⟨cd_X8_makes, in_X8, ⟨⟨by decide, by decide⟩, by decide +kernel⟩, im_X8_makes, se_X8_makes⟩
set_option maxHeartbeats 4000000 in
set_option maxRecDepth 100000 in
theorem xX8_makes_3 {κ : Kx} {G : GT} (C : Cx κ G yX8_makes cX8_makes (some .boolean) 7 rX8_makes) (q : Nat → Nat) (M : Ob) (lx1 : Int) (lx2 : Int) (lx3 : Int) (v : (Int)) : ∀ (n : Nat) (lx4 : Int), lX8_makes_3 M lx1 lx2 lx3 n lx4 = some v → X κ G 7 (W_M G q M) 3 [(0, .ref (q 31)), (1, vi lx1), (2, vi lx2), (3, vi lx3), (4, vi lx4)] [] 0 0 (QM κ G (W_M G q M) (some (vi v)) rX8_makes.cells rX8_makes.slots) := by
  intro n
  induction n with
  | zero => intro _ h; exact absurd h (fun h => nomatch h)
  | succ n ih =>
    intro lx4 h
    rw [lX8_makes_3] at h
    refine X.iload C dX8_makes_3 4 rfl ?_
    refine X.aload_n C dX8_makes_5 rfl 0 rfl ?_
    refine X.get C dX8_makes_6 lay_X8 0 rfl rfl 25 (by decide) fl_X8_49 rfl rfl ?_
    refine X.iload_n C dX8_makes_9 rfl 1 rfl ?_
    refine X.iald C h dX8_makes_10 11 rfl (fun h => ?_)
    refine X.icmp_ge (tgt := 88) C h dX8_makes_11 (by decide) (fun h => ?_) (fun h => ?_)
    · refine X.iconst C dX8_makes_88 ?_
      cases h
      exact X.zret C rfl dX8_makes_89 (Nat.zero_le _) (Nat.zero_le _)
    refine X.aload_n C dX8_makes_14 rfl 0 rfl ?_
    refine X.get C dX8_makes_15 lay_X8 0 rfl rfl 27 (by decide) fl_X8_55 rfl rfl ?_
    refine X.bipush C dX8_makes_18 (by decide) ?_
    refine X.iload_n C dX8_makes_20 rfl 1 rfl ?_
    refine X.imul C dX8_makes_21 ?_
    refine X.iload C dX8_makes_22 4 rfl ?_
    refine X.iadd C dX8_makes_24 ?_
    refine X.lald C h dX8_makes_25 13 rfl (fun h => ?_)
    refine X.lstoreN (lv2 := fun lx5_1 => [(5, vl lx5_1), (0, .ref (q 31)), (1, vi lx1), (2, vi lx2), (3, vi lx3), (4, vi lx4)]) C h dX8_makes_26 (by decide) (fun _ => rfl) (fun lx5_1 h => ?_)
    refine X.lload C dX8_makes_28 0 rfl ?_
    refine X.lconst (z := 0) C dX8_makes_30 (by decide) ?_
    refine X.ldc2 (z := 9999) C cl_X8_390 (by decide) dX8_makes_31 ?_
    refine X.callSi (As := [vl lx5_1, vl 0, vl 9999]) (rest := []) (g := fun rr_2 => rr_2) (W1 := fun rr_2 => W_0) (ws2 := fun rr_2 => (W_M G q M)) C h dX8_makes_34 ml_X8_68 mX8_in (fun v hv => kX8_in lx5_1 0 9999 v hv) (fun rr_2 => ln_M_0__n (G := G) (q := q) (M := M)) rfl rfl rfl rfl rfl rfl (fun rr_2 h => ?_)
    refine X.if_eq (tgt := 80) C h dX8_makes_37 (by decide) (fun h => ?_) (fun h => ?_)
    · refine X.iconst C dX8_makes_80 ?_
      cases h
      exact X.zret C rfl dX8_makes_81 (Nat.zero_le _) (Nat.zero_le _)
    refine X.aload_n C dX8_makes_40 rfl 1 rfl ?_
    refine X.lload C dX8_makes_41 0 rfl ?_
    refine X.l2i C dX8_makes_43 ?_
    refine X.bipush C dX8_makes_44 (by decide) ?_
    refine X.irem C (by decide) dX8_makes_46 ?_
    refine X.lload C dX8_makes_47 0 rfl ?_
    refine X.l2i C dX8_makes_49 ?_
    refine X.bipush C dX8_makes_50 (by decide) ?_
    refine X.idiv C (by decide) dX8_makes_52 ?_
    refine X.callVi (q0 := 0) (As := [vi (jrm lx5_1 100), vi (jdv lx5_1 100)]) (rest := []) (g := fun rr_3 => rr_3) (W1 := fun rr_3 => (W_M G q M)) (ws2 := fun rr_3 => (W_M G q M)) C h dX8_makes_53 ml_X8_248 mX8_isCell (fun v hv => kX8_isCell q M (jrm lx5_1 100) (jdv lx5_1 100) v hv) (fun rr_3 => ln_M_M_m_n (G := G) (q := q) (M := M)) rfl rfl rfl rfl rfl rfl rfl rfl (fun rr_3 h => ?_)
    refine X.if_eq (tgt := 80) C h dX8_makes_56 (by decide) (fun h => ?_) (fun h => ?_)
    · refine X.iconst C dX8_makes_80 ?_
      cases h
      exact X.zret C rfl dX8_makes_81 (Nat.zero_le _) (Nat.zero_le _)
    refine X.aload_n C dX8_makes_59 rfl 1 rfl ?_
    refine X.iload_n C dX8_makes_60 rfl 3 rfl ?_
    refine X.iload_n C dX8_makes_61 rfl 4 rfl ?_
    refine X.lload C dX8_makes_62 0 rfl ?_
    refine X.l2i C dX8_makes_64 ?_
    refine X.bipush C dX8_makes_65 (by decide) ?_
    refine X.irem C (by decide) dX8_makes_67 ?_
    refine X.lload C dX8_makes_68 0 rfl ?_
    refine X.l2i C dX8_makes_70 ?_
    refine X.bipush C dX8_makes_71 (by decide) ?_
    refine X.idiv C (by decide) dX8_makes_73 ?_
    refine X.callVi (q0 := 0) (As := [vi lx2, vi lx3, vi (jrm lx5_1 100), vi (jdv lx5_1 100)]) (rest := []) (g := fun rr_4 => rr_4) (W1 := fun rr_4 => (W_M G q M)) (ws2 := fun rr_4 => (W_M G q M)) C h dX8_makes_74 ml_X8_351 mX8_isAnyOn (fun v hv => kX8_isAnyOn q M lx2 lx3 (jrm lx5_1 100) (jdv lx5_1 100) v hv) (fun rr_4 => ln_M_M_m_n (G := G) (q := q) (M := M)) rfl rfl rfl rfl rfl rfl rfl rfl (fun rr_4 h => ?_)
    refine X.if_ne (tgt := 82) C h dX8_makes_77 (by decide) (fun h => ?_) (fun h => ?_)
    · refine X.iincN (lv2 := fun lx4_5 => [(4, vi lx4_5), (5, vl lx5_1), (0, .ref (q 31)), (1, vi lx1), (2, vi lx2), (3, vi lx3)]) C h dX8_makes_82 5 rfl (by decide) (fun _ => rfl) (fun lx4_5 h => ?_)
      refine X.goto (tgt := 3) C dX8_makes_85 (by decide) ?_
      refine X.sub [2, 3, 4, 5, 0] rfl ?_
      exact ih lx4_5 h
    refine X.iconst C dX8_makes_80 ?_
    cases h
    exact X.zret C rfl dX8_makes_81 (Nat.zero_le _) (Nat.zero_le _)
set_option maxHeartbeats 4000000 in
set_option maxRecDepth 100000 in
theorem kX8_makes {l : Launch} {G : GT} (q : Nat → Nat) (M : Ob) (lx1 : Int) (lx2 : Int) (lx3 : Int) (v : (Int)) (h : fX8_makes M lx1 lx2 lx3 = some v) : CT l G yX8_makes cX8_makes 7 (some .boolean) rX8_makes [.ref (q 31), vi lx1, vi lx2, vi lx3] (W_M G q M) (W_M G q M) (some (vi v)) := by
  unfold fX8_makes at h
  refine CT.of (by decide) (Nat.le_of_ble_eq_true rfl) rfl (fun κ _ C => ?_)
  refine X.iconst C dX8_makes_0 ?_
  refine X.istore (lv2 := [(4, vi 0), (0, .ref (q 31)), (1, vi lx1), (2, vi lx2), (3, vi lx3)]) C dX8_makes_1 (by decide) rfl ?_
  refine X.sub [1, 2, 3, 4, 0] rfl ?_
  refine xX8_makes_3 C q M lx1 lx2 lx3 v FU 0 h
def rX8_winds : Room := { frames := 7, cells := 0, slots := 0, locals := 175 }
theorem mX8_winds : MV yX8_winds cX8_winds 7 (some .int) 3 := ⟨cd_X8_winds, in_X8, ⟨⟨by decide, by decide⟩, by decide +kernel⟩, im_X8_winds, se_X8_winds⟩
set_option maxHeartbeats 4000000 in
set_option maxRecDepth 100000 in
theorem xX8_winds_61 {κ : Kx} {G : GT} (C : Cx κ G yX8_winds cX8_winds (some .int) 7 rX8_winds) (q : Nat → Nat) (M : Ob) (lx1 : Int) (lx2 : Int) (lx3 : Int) (kx0 : Int → Int → Option (Int)) (v : (Int)) (hk0 : ∀ (lx4 : Int) (lx5 : Int), kx0 lx4 lx5 = some v → X κ G 7 (W_M G q M) 106 [(3, vi lx3), (4, vi lx4), (5, vi lx5)] [] 0 0 (QM κ G (W_M G q M) (some (vi v)) rX8_winds.cells rX8_winds.slots)) : ∀ (n : Nat) (lx4 : Int) (lx5 : Int) (lx6 : Int), lX8_winds_61 M lx1 lx2 lx3 kx0 n lx4 lx5 lx6 = some v → X κ G 7 (W_M G q M) 61 [(0, .ref (q 31)), (1, vi lx1), (2, vi lx2), (3, vi lx3), (4, vi lx4), (5, vi lx5), (6, vi lx6)] [] 0 0 (QM κ G (W_M G q M) (some (vi v)) rX8_winds.cells rX8_winds.slots) := by
  intro n
  induction n with
  | zero => intro _ _ _ h; exact absurd h (fun h => nomatch h)
  | succ n ih =>
    intro lx4 lx5 lx6 h
    rw [lX8_winds_61] at h
    refine X.iload C dX8_winds_61 6 rfl ?_
    refine X.bipush C dX8_winds_63 (by decide) ?_
    refine X.icmp_ge (tgt := 106) C h dX8_winds_65 (by decide) (fun h => ?_) (fun h => ?_)
    · refine X.sub [3, 4, 5] rfl ?_
      exact hk0 lx4 lx5 h
    refine X.aload_n C dX8_winds_68 rfl 0 rfl ?_
    refine X.iload_n C dX8_winds_69 rfl 1 rfl ?_
    refine X.iload_n C dX8_winds_70 rfl 2 rfl ?_
    refine X.iload C dX8_winds_71 6 rfl ?_
    refine X.callVi (q0 := 0) (As := [vi lx1, vi lx2, vi lx6]) (rest := []) (g := fun rr_5 => rr_5) (W1 := fun rr_5 => (W_M G q M)) (ws2 := fun rr_5 => (W_M G q M)) C h dX8_winds_73 ml_X8_422 mX8_makes (fun v hv => kX8_makes q M lx1 lx2 lx6 v hv) (fun rr_5 => ln_M_M_m_n (G := G) (q := q) (M := M)) rfl rfl rfl rfl rfl rfl rfl rfl (fun rr_5 h => ?_)
    refine X.if_ne (tgt := 82) C h dX8_winds_76 (by decide) (fun h => ?_) (fun h => ?_)
    · refine X.iincN (lv2 := fun lx4_6 => [(4, vi lx4_6), (0, .ref (q 31)), (1, vi lx1), (2, vi lx2), (3, vi lx3), (5, vi lx5), (6, vi lx6)]) C h dX8_winds_82 4 rfl (by decide) (fun _ => rfl) (fun lx4_6 h => ?_)
      refine X.iload C dX8_winds_85 5 rfl ?_
      refine X.iconst C dX8_winds_87 ?_
      refine X.icmp_ne (tgt := 96) C h dX8_winds_88 (by decide) (fun h => ?_) (fun h => ?_)
      · refine X.iload C dX8_winds_96 5 rfl ?_
        refine X.istore (lv2 := [(5, vi lx5), (4, vi lx4_6), (0, .ref (q 31)), (1, vi lx1), (2, vi lx2), (3, vi lx3), (6, vi lx6)]) C dX8_winds_98 (by decide) rfl ?_
        refine X.iincN (lv2 := fun lx6_7 => [(6, vi lx6_7), (5, vi lx5), (4, vi lx4_6), (0, .ref (q 31)), (1, vi lx1), (2, vi lx2), (3, vi lx3)]) C h dX8_winds_100 6 rfl (by decide) (fun _ => rfl) (fun lx6_7 h => ?_)
        refine X.goto (tgt := 61) C dX8_winds_103 (by decide) ?_
        refine X.sub [3, 4, 5, 6, 2, 1, 0] rfl ?_
        exact ih lx4_6 lx5 lx6_7 h
      refine X.iload C dX8_winds_91 6 rfl ?_
      refine X.goto (tgt := 98) C dX8_winds_93 (by decide) ?_
      refine X.istore (lv2 := [(5, vi lx6), (4, vi lx4_6), (0, .ref (q 31)), (1, vi lx1), (2, vi lx2), (3, vi lx3), (6, vi lx6)]) C dX8_winds_98 (by decide) rfl ?_
      refine X.iincN (lv2 := fun lx6_8 => [(6, vi lx6_8), (5, vi lx6), (4, vi lx4_6), (0, .ref (q 31)), (1, vi lx1), (2, vi lx2), (3, vi lx3)]) C h dX8_winds_100 6 rfl (by decide) (fun _ => rfl) (fun lx6_8 h => ?_)
      refine X.goto (tgt := 61) C dX8_winds_103 (by decide) ?_
      refine X.sub [3, 4, 5, 6, 2, 1, 0] rfl ?_
      exact ih lx4_6 lx6 lx6_8 h
    refine X.goto (tgt := 100) C dX8_winds_79 (by decide) ?_
    refine X.iincN (lv2 := fun lx6_9 => [(6, vi lx6_9), (0, .ref (q 31)), (1, vi lx1), (2, vi lx2), (3, vi lx3), (4, vi lx4), (5, vi lx5)]) C h dX8_winds_100 6 rfl (by decide) (fun _ => rfl) (fun lx6_9 h => ?_)
    refine X.goto (tgt := 61) C dX8_winds_103 (by decide) ?_
    refine X.sub [1, 2, 3, 4, 5, 6, 0] rfl ?_
    exact ih lx4 lx5 lx6_9 h
set_option maxHeartbeats 4000000 in
set_option maxRecDepth 100000 in
theorem kX8_winds {l : Launch} {G : GT} (q : Nat → Nat) (M : Ob) (lx1 : Int) (lx2 : Int) (lx3 : Int) (v : (Int)) (h : fX8_winds M lx1 lx2 lx3 = some v) : CT l G yX8_winds cX8_winds 7 (some .int) rX8_winds [.ref (q 31), vi lx1, vi lx2, vi lx3] (W_M G q M) (W_M G q M) (some (vi v)) := by
  unfold fX8_winds at h
  refine CT.of (by decide) (Nat.le_of_ble_eq_true rfl) rfl (fun κ _ C => ?_)
  refine X.iload_n C dX8_winds_0 rfl 1 rfl ?_
  refine X.callSi (As := [vi lx1]) (rest := []) (g := fun rr_1 => rr_1) (W1 := fun rr_1 => W_0) (ws2 := fun rr_1 => (W_M G q M)) C h dX8_winds_1 ml_X8_290 mX8_isSlot (fun v hv => kX8_isSlot lx1 v hv) (fun rr_1 => ln_M_0__n (G := G) (q := q) (M := M)) rfl rfl rfl rfl rfl rfl (fun rr_1 h => ?_)
  refine X.if_eq (tgt := 36) C h dX8_winds_4 (by decide) (fun h => ?_) (fun h => ?_)
  · refine X.bipush C dX8_winds_36 (by decide) ?_
    cases h
    exact X.iret C dX8_winds_38 (Nat.zero_le _) (Nat.zero_le _)
  refine X.aload_n C dX8_winds_7 rfl 0 rfl ?_
  refine X.callVi (q0 := 0) (As := []) (rest := []) (g := fun rr_2 => rr_2) (W1 := fun rr_2 => (W_M G q M)) (ws2 := fun rr_2 => (W_M G q M)) C h dX8_winds_8 ml_X8_278 mX8_isSquare (fun v hv => kX8_isSquare q M v hv) (fun rr_2 => ln_M_M_m_n (G := G) (q := q) (M := M)) rfl rfl rfl rfl rfl rfl rfl rfl (fun rr_2 h => ?_)
  refine X.if_eq (tgt := 36) C h dX8_winds_11 (by decide) (fun h => ?_) (fun h => ?_)
  · refine X.bipush C dX8_winds_36 (by decide) ?_
    cases h
    exact X.iret C dX8_winds_38 (Nat.zero_le _) (Nat.zero_le _)
  refine X.iload_n C dX8_winds_14 rfl 2 rfl ?_
  refine X.i2l C dX8_winds_15 ?_
  refine X.lconst (z := 1) C dX8_winds_16 (by decide) ?_
  refine X.ldc2 (z := 60) C cl_X8_214 (by decide) dX8_winds_17 ?_
  refine X.callSi (As := [vl (jwl lx2), vl 1, vl 60]) (rest := []) (g := fun rr_3 => rr_3) (W1 := fun rr_3 => W_0) (ws2 := fun rr_3 => (W_M G q M)) C h dX8_winds_20 ml_X8_68 mX8_in (fun v hv => kX8_in (jwl lx2) 1 60 v hv) (fun rr_3 => ln_M_0__n (G := G) (q := q) (M := M)) rfl rfl rfl rfl rfl rfl (fun rr_3 h => ?_)
  refine X.if_eq (tgt := 36) C h dX8_winds_23 (by decide) (fun h => ?_) (fun h => ?_)
  · refine X.bipush C dX8_winds_36 (by decide) ?_
    cases h
    exact X.iret C dX8_winds_38 (Nat.zero_le _) (Nat.zero_le _)
  refine X.iload_n C dX8_winds_26 rfl 3 rfl ?_
  refine X.i2l C dX8_winds_27 ?_
  refine X.lconst (z := 0) C dX8_winds_28 (by decide) ?_
  refine X.lconst (z := 1) C dX8_winds_29 (by decide) ?_
  refine X.callSi (As := [vl (jwl lx3), vl 0, vl 1]) (rest := []) (g := fun rr_4 => rr_4) (W1 := fun rr_4 => W_0) (ws2 := fun rr_4 => (W_M G q M)) C h dX8_winds_30 ml_X8_68 mX8_in (fun v hv => kX8_in (jwl lx3) 0 1 v hv) (fun rr_4 => ln_M_0__n (G := G) (q := q) (M := M)) rfl rfl rfl rfl rfl rfl (fun rr_4 h => ?_)
  refine X.if_ne (tgt := 39) C h dX8_winds_33 (by decide) (fun h => ?_) (fun h => ?_)
  · refine X.aload_n C dX8_winds_39 rfl 0 rfl ?_
    refine X.get C dX8_winds_40 lay_X8 0 rfl rfl 25 (by decide) fl_X8_49 rfl rfl ?_
    refine X.iload_n C dX8_winds_43 rfl 1 rfl ?_
    refine X.iald C h dX8_winds_44 11 rfl (fun h => ?_)
    refine X.iconst C dX8_winds_45 ?_
    refine X.icmp_ne (tgt := 52) C h dX8_winds_46 (by decide) (fun h => ?_) (fun h => ?_)
    · refine X.iconst C dX8_winds_52 ?_
      refine X.istore (lv2 := [(4, vi 0), (0, .ref (q 31)), (1, vi lx1), (2, vi lx2), (3, vi lx3)]) C dX8_winds_53 (by decide) rfl ?_
      refine X.iconst C dX8_winds_55 ?_
      refine X.istore (lv2 := [(5, vi (-1)), (4, vi 0), (0, .ref (q 31)), (1, vi lx1), (2, vi lx2), (3, vi lx3)]) C dX8_winds_56 (by decide) rfl ?_
      refine X.iconst C dX8_winds_58 ?_
      refine X.istore (lv2 := [(6, vi 0), (5, vi (-1)), (4, vi 0), (0, .ref (q 31)), (1, vi lx1), (2, vi lx2), (3, vi lx3)]) C dX8_winds_59 (by decide) rfl ?_
      refine X.sub [3, 4, 5, 6, 2, 1, 0] rfl ?_
      refine xX8_winds_61 C q M lx1 lx2 lx3 _ v (fun lx4_10 lx5_11 h => ?_) FU 0 (-1) 0 h
      · refine X.iload_n C dX8_winds_106 rfl 0 rfl ?_
        refine X.if_ne (tgt := 115) C h dX8_winds_107 (by decide) (fun h => ?_) (fun h => ?_)
        · refine X.iload C dX8_winds_115 2 rfl ?_
          cases h
          exact X.iret C dX8_winds_117 (Nat.zero_le _) (Nat.zero_le _)
        refine X.iload C dX8_winds_110 1 rfl ?_
        refine X.goto (tgt := 117) C dX8_winds_112 (by decide) ?_
        cases h
        exact X.iret C dX8_winds_117 (Nat.zero_le _) (Nat.zero_le _)
    refine X.bipush C dX8_winds_49 (by decide) ?_
    cases h
    exact X.iret C dX8_winds_51 (Nat.zero_le _) (Nat.zero_le _)
  refine X.bipush C dX8_winds_36 (by decide) ?_
  cases h
  exact X.iret C dX8_winds_38 (Nat.zero_le _) (Nat.zero_le _)
def rX8_isTaken : Room := { frames := 2, cells := 0, slots := 0, locals := 52 }
theorem mX8_isTaken : MV yX8_isTaken cX8_isTaken 6 (some .boolean) 3 := ⟨cd_X8_isTaken, in_X8, ⟨⟨by decide, by decide⟩, by decide +kernel⟩, im_X8_isTaken, se_X8_isTaken⟩
set_option maxHeartbeats 4000000 in
set_option maxRecDepth 100000 in
theorem xX8_isTaken_11 {κ : Kx} {G : GT} (C : Cx κ G yX8_isTaken cX8_isTaken (some .boolean) 6 rX8_isTaken) (q : Nat → Nat) (M : Ob) (lx1 : Int) (lx2 : Int) (lx3 : Int) (v : (Int)) : ∀ (n : Nat) (lx4 : Int) (lx5 : Int), lX8_isTaken_11 M lx1 lx2 lx3 n lx4 lx5 = some v → X κ G 6 (W_M G q M) 11 [(0, .ref (q 31)), (1, vi lx1), (2, vi lx2), (3, vi lx3), (4, vi lx4), (5, vi lx5)] [] 0 0 (QM κ G (W_M G q M) (some (vi v)) rX8_isTaken.cells rX8_isTaken.slots) := by
  intro n
  induction n with
  | zero => intro _ _ h; exact absurd h (fun h => nomatch h)
  | succ n ih =>
    intro lx4 lx5 h
    rw [lX8_isTaken_11] at h
    refine X.iload C dX8_isTaken_11 5 rfl ?_
    refine X.aload_n C dX8_isTaken_13 rfl 0 rfl ?_
    refine X.get C dX8_isTaken_14 lay_X8 0 rfl rfl 1 (by decide) fl_X8_13 rfl rfl ?_
    refine X.bipush C dX8_isTaken_17 (by decide) ?_
    refine X.iald C h dX8_isTaken_19 1 rfl (fun h => ?_)
    refine X.icmp_ge (tgt := 69) C h dX8_isTaken_20 (by decide) (fun h => ?_) (fun h => ?_)
    · refine X.iload C dX8_isTaken_69 4 rfl ?_
      obtain ⟨hz, h⟩ := gd_out h
      cases h
      exact X.zret C hz dX8_isTaken_71 (Nat.zero_le _) (Nat.zero_le _)
    refine X.iload C dX8_isTaken_23 4 rfl ?_
    refine X.if_ne (tgt := 56) C h dX8_isTaken_25 (by decide) (fun h => ?_) (fun h => ?_)
    · refine X.iconst C dX8_isTaken_56 ?_
      refine X.goto (tgt := 61) C dX8_isTaken_57 (by decide) ?_
      refine X.istore (lv2 := [(4, vi 1), (0, .ref (q 31)), (1, vi lx1), (2, vi lx2), (3, vi lx3), (5, vi lx5)]) C dX8_isTaken_61 (by decide) rfl ?_
      refine X.iincN (lv2 := fun lx5_2 => [(5, vi lx5_2), (4, vi 1), (0, .ref (q 31)), (1, vi lx1), (2, vi lx2), (3, vi lx3)]) C h dX8_isTaken_63 5 rfl (by decide) (fun _ => rfl) (fun lx5_2 h => ?_)
      refine X.goto (tgt := 11) C dX8_isTaken_66 (by decide) ?_
      refine X.sub [2, 3, 4, 5, 1, 0] rfl ?_
      exact ih 1 lx5_2 h
    refine X.iload C dX8_isTaken_28 5 rfl ?_
    refine X.iload_n C dX8_isTaken_30 rfl 3 rfl ?_
    refine X.icmp_eq (tgt := 60) C h dX8_isTaken_31 (by decide) (fun h => ?_) (fun h => ?_)
    · refine X.iconst C dX8_isTaken_60 ?_
      refine X.istore (lv2 := [(4, vi 0), (0, .ref (q 31)), (1, vi lx1), (2, vi lx2), (3, vi lx3), (5, vi lx5)]) C dX8_isTaken_61 (by decide) rfl ?_
      refine X.iincN (lv2 := fun lx5_3 => [(5, vi lx5_3), (4, vi 0), (0, .ref (q 31)), (1, vi lx1), (2, vi lx2), (3, vi lx3)]) C h dX8_isTaken_63 5 rfl (by decide) (fun _ => rfl) (fun lx5_3 h => ?_)
      refine X.goto (tgt := 11) C dX8_isTaken_66 (by decide) ?_
      refine X.sub [2, 3, 4, 5, 1, 0] rfl ?_
      exact ih 0 lx5_3 h
    refine X.aload_n C dX8_isTaken_34 rfl 0 rfl ?_
    refine X.iload C dX8_isTaken_35 5 rfl ?_
    refine X.iconst C dX8_isTaken_37 ?_
    refine X.callVi (q0 := 0) (As := [vi lx5, vi 0]) (rest := []) (g := fun rr_4 => rr_4) (W1 := fun rr_4 => (W_M G q M)) (ws2 := fun rr_4 => (W_M G q M)) C h dX8_isTaken_38 ml_X8_72 mX8_ofTable (fun v hv => kX8_ofTable q M lx5 0 v hv) (fun rr_4 => ln_M_M_m_n (G := G) (q := q) (M := M)) rfl rfl rfl rfl rfl rfl rfl rfl (fun rr_4 h => ?_)
    refine X.iload_n C dX8_isTaken_41 rfl 1 rfl ?_
    refine X.icmp_ne (tgt := 60) C h dX8_isTaken_42 (by decide) (fun h => ?_) (fun h => ?_)
    · refine X.iconst C dX8_isTaken_60 ?_
      refine X.istore (lv2 := [(4, vi 0), (0, .ref (q 31)), (1, vi lx1), (2, vi lx2), (3, vi lx3), (5, vi lx5)]) C dX8_isTaken_61 (by decide) rfl ?_
      refine X.iincN (lv2 := fun lx5_5 => [(5, vi lx5_5), (4, vi 0), (0, .ref (q 31)), (1, vi lx1), (2, vi lx2), (3, vi lx3)]) C h dX8_isTaken_63 5 rfl (by decide) (fun _ => rfl) (fun lx5_5 h => ?_)
      refine X.goto (tgt := 11) C dX8_isTaken_66 (by decide) ?_
      refine X.sub [2, 3, 4, 5, 1, 0] rfl ?_
      exact ih 0 lx5_5 h
    refine X.aload_n C dX8_isTaken_45 rfl 0 rfl ?_
    refine X.iload C dX8_isTaken_46 5 rfl ?_
    refine X.iconst C dX8_isTaken_48 ?_
    refine X.callVi (q0 := 0) (As := [vi lx5, vi 1]) (rest := []) (g := fun rr_6 => rr_6) (W1 := fun rr_6 => (W_M G q M)) (ws2 := fun rr_6 => (W_M G q M)) C h dX8_isTaken_49 ml_X8_72 mX8_ofTable (fun v hv => kX8_ofTable q M lx5 1 v hv) (fun rr_6 => ln_M_M_m_n (G := G) (q := q) (M := M)) rfl rfl rfl rfl rfl rfl rfl rfl (fun rr_6 h => ?_)
    refine X.iload_n C dX8_isTaken_52 rfl 2 rfl ?_
    refine X.icmp_ne (tgt := 60) C h dX8_isTaken_53 (by decide) (fun h => ?_) (fun h => ?_)
    · refine X.iconst C dX8_isTaken_60 ?_
      refine X.istore (lv2 := [(4, vi 0), (0, .ref (q 31)), (1, vi lx1), (2, vi lx2), (3, vi lx3), (5, vi lx5)]) C dX8_isTaken_61 (by decide) rfl ?_
      refine X.iincN (lv2 := fun lx5_7 => [(5, vi lx5_7), (4, vi 0), (0, .ref (q 31)), (1, vi lx1), (2, vi lx2), (3, vi lx3)]) C h dX8_isTaken_63 5 rfl (by decide) (fun _ => rfl) (fun lx5_7 h => ?_)
      refine X.goto (tgt := 11) C dX8_isTaken_66 (by decide) ?_
      refine X.sub [2, 3, 4, 5, 1, 0] rfl ?_
      exact ih 0 lx5_7 h
    refine X.iconst C dX8_isTaken_56 ?_
    refine X.goto (tgt := 61) C dX8_isTaken_57 (by decide) ?_
    refine X.istore (lv2 := [(4, vi 1), (0, .ref (q 31)), (1, vi lx1), (2, vi lx2), (3, vi lx3), (5, vi lx5)]) C dX8_isTaken_61 (by decide) rfl ?_
    refine X.iincN (lv2 := fun lx5_8 => [(5, vi lx5_8), (4, vi 1), (0, .ref (q 31)), (1, vi lx1), (2, vi lx2), (3, vi lx3)]) C h dX8_isTaken_63 5 rfl (by decide) (fun _ => rfl) (fun lx5_8 h => ?_)
    refine X.goto (tgt := 11) C dX8_isTaken_66 (by decide) ?_
    refine X.sub [2, 3, 4, 5, 1, 0] rfl ?_
    exact ih 1 lx5_8 h
set_option maxHeartbeats 4000000 in
set_option maxRecDepth 100000 in
theorem kX8_isTaken {l : Launch} {G : GT} (q : Nat → Nat) (M : Ob) (lx1 : Int) (lx2 : Int) (lx3 : Int) (v : (Int)) (h : fX8_isTaken M lx1 lx2 lx3 = some v) : CT l G yX8_isTaken cX8_isTaken 6 (some .boolean) rX8_isTaken [.ref (q 31), vi lx1, vi lx2, vi lx3] (W_M G q M) (W_M G q M) (some (vi v)) := by
  unfold fX8_isTaken at h
  refine CT.of (by decide) (Nat.le_of_ble_eq_true rfl) rfl (fun κ _ C => ?_)
  refine X.aload_n C dX8_isTaken_0 rfl 0 rfl ?_
  refine X.iload_n C dX8_isTaken_1 rfl 1 rfl ?_
  refine X.iload_n C dX8_isTaken_2 rfl 2 rfl ?_
  refine X.callVi (q0 := 0) (As := [vi lx1, vi lx2]) (rest := []) (g := fun rr_1 => rr_1) (W1 := fun rr_1 => (W_M G q M)) (ws2 := fun rr_1 => (W_M G q M)) C h dX8_isTaken_3 ml_X8_232 mX8_isBasin (fun v hv => kX8_isBasin q M lx1 lx2 v hv) (fun rr_1 => ln_M_M_m_n (G := G) (q := q) (M := M)) rfl rfl rfl rfl rfl rfl rfl rfl (fun rr_1 h => ?_)
  refine X.istore (lv2 := [(4, vi rr_1), (0, .ref (q 31)), (1, vi lx1), (2, vi lx2), (3, vi lx3)]) C dX8_isTaken_6 (by decide) rfl ?_
  refine X.iconst C dX8_isTaken_8 ?_
  refine X.istore (lv2 := [(5, vi 0), (4, vi rr_1), (0, .ref (q 31)), (1, vi lx1), (2, vi lx2), (3, vi lx3)]) C dX8_isTaken_9 (by decide) rfl ?_
  refine X.sub [2, 3, 4, 5, 1, 0] rfl ?_
  refine xX8_isTaken_11 C q M lx1 lx2 lx3 v FU rr_1 0 h
def rX8_where : Room := { frames := 3, cells := 0, slots := 0, locals := 77 }
theorem mX8_where : MV yX8_where cX8_where 7 (some .int) 2 := ⟨cd_X8_where, in_X8, ⟨⟨by decide, by decide⟩, by decide +kernel⟩, im_X8_where, se_X8_where⟩
set_option maxHeartbeats 4000000 in
set_option maxRecDepth 100000 in
theorem xX8_where_118 {κ : Kx} {G : GT} (C : Cx κ G yX8_where cX8_where (some .int) 7 rX8_where) (q : Nat → Nat) (kc0 : Int → Int → Int → Option (Int)) (M : Ob) (lx1 : Int) (lx2 : Int) (lx5 : Int) (lx6 : Int) (v : (Int)) (hc0 : ∀ (lx3 : Int) (lx4 : Int) (lx6 : Int), kc0 lx3 lx4 lx6 = some v → X κ G 7 (W_M G q M) 61 [(0, .ref (q 31)), (1, vi lx1), (2, vi lx2), (3, vi lx3), (4, vi lx4), (5, vi lx5), (6, vi lx6)] [] 0 0 (QM κ G (W_M G q M) (some (vi v)) rX8_where.cells rX8_where.slots)) (h : jX8_where_118 kc0 M lx1 lx2 lx5 lx6 = some v) : X κ G 7 (W_M G q M) 118 [(0, .ref (q 31)), (1, vi lx1), (2, vi lx2), (5, vi lx5), (6, vi lx6)] [] 0 0 (QM κ G (W_M G q M) (some (vi v)) rX8_where.cells rX8_where.slots) := by
  unfold jX8_where_118 at h
  refine X.iload C dX8_where_118 4 rfl ?_
  refine X.bipush C dX8_where_120 (by decide) ?_
  refine X.iload C dX8_where_122 3 rfl ?_
  refine X.imul C dX8_where_124 ?_
  refine X.iadd C dX8_where_125 ?_
  refine X.istoreN_n (lv2 := fun lx3_13 => [(3, vi lx3_13), (0, .ref (q 31)), (1, vi lx1), (2, vi lx2), (5, vi lx5), (6, vi lx6)]) C h dX8_where_126 rfl (by decide) (fun _ => rfl) (fun lx3_13 h => ?_)
  refine X.aload_n C dX8_where_127 rfl 1 rfl ?_
  refine X.iload C dX8_where_128 5 rfl ?_
  refine X.iload C dX8_where_130 4 rfl ?_
  refine X.callVi (q0 := 0) (As := [vi lx6, vi lx5]) (rest := []) (g := fun rr_14 => rr_14) (W1 := fun rr_14 => (W_M G q M)) (ws2 := fun rr_14 => (W_M G q M)) C h dX8_where_132 ml_X8_76 mX8_wetOf (fun v hv => kX8_wetOf q M lx6 lx5 v hv) (fun rr_14 => ln_M_M_m_n (G := G) (q := q) (M := M)) rfl rfl rfl rfl rfl rfl rfl rfl (fun rr_14 h => ?_)
  refine X.istore (lv2 := [(4, vi rr_14), (3, vi lx3_13), (0, .ref (q 31)), (1, vi lx1), (2, vi lx2), (5, vi lx5), (6, vi lx6)]) C dX8_where_135 (by decide) rfl ?_
  refine X.iincN (lv2 := fun lx6_15 => [(6, vi lx6_15), (4, vi rr_14), (3, vi lx3_13), (0, .ref (q 31)), (1, vi lx1), (2, vi lx2), (5, vi lx5)]) C h dX8_where_137 6 rfl (by decide) (fun _ => rfl) (fun lx6_15 h => ?_)
  refine X.goto (tgt := 61) C dX8_where_140 (by decide) ?_
  refine X.sub [3, 4, 5, 2, 1, 6, 0] rfl ?_
  exact hc0 lx3_13 rr_14 lx6_15 h
set_option maxHeartbeats 4000000 in
set_option maxRecDepth 100000 in
theorem xX8_where_61 {κ : Kx} {G : GT} (C : Cx κ G yX8_where cX8_where (some .int) 7 rX8_where) (q : Nat → Nat) (M : Ob) (lx1 : Int) (lx2 : Int) (lx5 : Int) (kx0 : Int → Int → Option (Int)) (v : (Int)) (hk0 : ∀ (lx3 : Int) (lx4 : Int), kx0 lx3 lx4 = some v → X κ G 7 (W_M G q M) 143 [(0, .ref (q 31)), (1, vi lx1), (2, vi lx2), (3, vi lx3), (4, vi lx4), (5, vi lx5)] [] 0 0 (QM κ G (W_M G q M) (some (vi v)) rX8_where.cells rX8_where.slots)) : ∀ (n : Nat) (lx3 : Int) (lx4 : Int) (lx6 : Int), lX8_where_61 M lx1 lx2 lx5 kx0 n lx3 lx4 lx6 = some v → X κ G 7 (W_M G q M) 61 [(0, .ref (q 31)), (1, vi lx1), (2, vi lx2), (3, vi lx3), (4, vi lx4), (5, vi lx5), (6, vi lx6)] [] 0 0 (QM κ G (W_M G q M) (some (vi v)) rX8_where.cells rX8_where.slots) := by
  intro n
  induction n with
  | zero => intro _ _ _ h; exact absurd h (fun h => nomatch h)
  | succ n ih =>
    intro lx3 lx4 lx6 h
    rw [lX8_where_61] at h
    refine X.iload C dX8_where_61 6 rfl ?_
    refine X.aload_n C dX8_where_63 rfl 0 rfl ?_
    refine X.iload_n C dX8_where_64 rfl 1 rfl ?_
    refine X.iconst C dX8_where_65 ?_
    refine X.callVi (q0 := 0) (As := [vi lx1, vi 0]) (rest := [vi lx6]) (g := fun rr_8 => rr_8) (W1 := fun rr_8 => (W_M G q M)) (ws2 := fun rr_8 => (W_M G q M)) C h dX8_where_66 ml_X8_72 mX8_ofTable (fun v hv => kX8_ofTable q M lx1 0 v hv) (fun rr_8 => ln_M_M_m_n (G := G) (q := q) (M := M)) rfl rfl rfl rfl rfl rfl rfl rfl (fun rr_8 h => ?_)
    refine X.iload_n C dX8_where_69 rfl 2 rfl ?_
    refine X.iadd C dX8_where_70 ?_
    refine X.icmp_gt (tgt := 143) C h dX8_where_71 (by decide) (fun h => ?_) (fun h => ?_)
    · refine X.sub [0, 1, 2, 3, 4, 5] rfl ?_
      exact hk0 lx3 lx4 h
    refine X.aload_n C dX8_where_74 rfl 0 rfl ?_
    refine X.iload C dX8_where_75 6 rfl ?_
    refine X.iload C dX8_where_77 5 rfl ?_
    refine X.callVi (q0 := 0) (As := [vi lx6, vi lx5]) (rest := []) (g := fun rr_9 => rr_9) (W1 := fun rr_9 => (W_M G q M)) (ws2 := fun rr_9 => (W_M G q M)) C h dX8_where_79 ml_X8_248 mX8_isCell (fun v hv => kX8_isCell q M lx6 lx5 v hv) (fun rr_9 => ln_M_M_m_n (G := G) (q := q) (M := M)) rfl rfl rfl rfl rfl rfl rfl rfl (fun rr_9 h => ?_)
    refine X.if_eq (tgt := 137) C h dX8_where_82 (by decide) (fun h => ?_) (fun h => ?_)
    · refine X.iincN (lv2 := fun lx6_10 => [(6, vi lx6_10), (0, .ref (q 31)), (1, vi lx1), (2, vi lx2), (3, vi lx3), (4, vi lx4), (5, vi lx5)]) C h dX8_where_137 6 rfl (by decide) (fun _ => rfl) (fun lx6_10 h => ?_)
      refine X.goto (tgt := 61) C dX8_where_140 (by decide) ?_
      refine X.sub [1, 2, 3, 4, 5, 6, 0] rfl ?_
      exact ih lx3 lx4 lx6_10 h
    refine X.aload_n C dX8_where_85 rfl 0 rfl ?_
    refine X.iload C dX8_where_86 6 rfl ?_
    refine X.iload C dX8_where_88 5 rfl ?_
    refine X.iload_n C dX8_where_90 rfl 1 rfl ?_
    refine X.callVi (q0 := 0) (As := [vi lx6, vi lx5, vi lx1]) (rest := []) (g := fun rr_11 => rr_11) (W1 := fun rr_11 => (W_M G q M)) (ws2 := fun rr_11 => (W_M G q M)) C h dX8_where_91 ml_X8_425 mX8_isTaken (fun v hv => kX8_isTaken q M lx6 lx5 lx1 v hv) (fun rr_11 => ln_M_M_m_n (G := G) (q := q) (M := M)) rfl rfl rfl rfl rfl rfl rfl rfl (fun rr_11 h => ?_)
    refine X.if_ne (tgt := 137) C h dX8_where_94 (by decide) (fun h => ?_) (fun h => ?_)
    · refine X.iincN (lv2 := fun lx6_12 => [(6, vi lx6_12), (0, .ref (q 31)), (1, vi lx1), (2, vi lx2), (3, vi lx3), (4, vi lx4), (5, vi lx5)]) C h dX8_where_137 6 rfl (by decide) (fun _ => rfl) (fun lx6_12 h => ?_)
      refine X.goto (tgt := 61) C dX8_where_140 (by decide) ?_
      refine X.sub [1, 2, 3, 4, 5, 6, 0] rfl ?_
      exact ih lx3 lx4 lx6_12 h
    refine X.iload_n C dX8_where_97 rfl 3 rfl ?_
    refine X.iconst C dX8_where_98 ?_
    refine X.icmp_eq (tgt := 118) C h dX8_where_99 (by decide) (fun h => ?_) (fun h => ?_)
    · refine X.sub [0, 1, 2, 5, 6] rfl ?_
      exact xX8_where_118 C q (lX8_where_61 M lx1 lx2 lx5 kx0 n) M lx1 lx2 lx5 lx6 v ih h
    refine X.aload_n C dX8_where_102 rfl 0 rfl ?_
    refine X.iload C dX8_where_103 6 rfl ?_
    refine X.iload C dX8_where_105 5 rfl ?_
    refine X.callVi (q0 := 0) (As := [vi lx6, vi lx5]) (rest := []) (g := fun rr_16 => rr_16) (W1 := fun rr_16 => (W_M G q M)) (ws2 := fun rr_16 => (W_M G q M)) C h dX8_where_107 ml_X8_76 mX8_wetOf (fun v hv => kX8_wetOf q M lx6 lx5 v hv) (fun rr_16 => ln_M_M_m_n (G := G) (q := q) (M := M)) rfl rfl rfl rfl rfl rfl rfl rfl (fun rr_16 h => ?_)
    refine X.iload C dX8_where_110 4 rfl ?_
    refine X.icmp_lt (tgt := 118) C h dX8_where_112 (by decide) (fun h => ?_) (fun h => ?_)
    · refine X.sub [0, 1, 2, 5, 6] rfl ?_
      exact xX8_where_118 C q (lX8_where_61 M lx1 lx2 lx5 kx0 n) M lx1 lx2 lx5 lx6 v ih h
    refine X.goto (tgt := 137) C dX8_where_115 (by decide) ?_
    refine X.iincN (lv2 := fun lx6_17 => [(6, vi lx6_17), (0, .ref (q 31)), (1, vi lx1), (2, vi lx2), (3, vi lx3), (4, vi lx4), (5, vi lx5)]) C h dX8_where_137 6 rfl (by decide) (fun _ => rfl) (fun lx6_17 h => ?_)
    refine X.goto (tgt := 61) C dX8_where_140 (by decide) ?_
    refine X.sub [1, 2, 3, 4, 5, 6, 0] rfl ?_
    exact ih lx3 lx4 lx6_17 h
set_option maxHeartbeats 4000000 in
set_option maxRecDepth 100000 in
theorem xX8_where_38 {κ : Kx} {G : GT} (C : Cx κ G yX8_where cX8_where (some .int) 7 rX8_where) (q : Nat → Nat) (M : Ob) (lx1 : Int) (lx2 : Int) (v : (Int)) : ∀ (n : Nat) (lx3 : Int) (lx4 : Int) (lx5 : Int), lX8_where_38 M lx1 lx2 n lx3 lx4 lx5 = some v → X κ G 7 (W_M G q M) 38 [(0, .ref (q 31)), (1, vi lx1), (2, vi lx2), (3, vi lx3), (4, vi lx4), (5, vi lx5)] [] 0 0 (QM κ G (W_M G q M) (some (vi v)) rX8_where.cells rX8_where.slots) := by
  intro n
  induction n with
  | zero => intro _ _ _ h; exact absurd h (fun h => nomatch h)
  | succ n ih =>
    intro lx3 lx4 lx5 h
    rw [lX8_where_38] at h
    refine X.iload C dX8_where_38 5 rfl ?_
    refine X.aload_n C dX8_where_40 rfl 0 rfl ?_
    refine X.iload_n C dX8_where_41 rfl 1 rfl ?_
    refine X.iconst C dX8_where_42 ?_
    refine X.callVi (q0 := 0) (As := [vi lx1, vi 1]) (rest := [vi lx5]) (g := fun rr_5 => rr_5) (W1 := fun rr_5 => (W_M G q M)) (ws2 := fun rr_5 => (W_M G q M)) C h dX8_where_43 ml_X8_72 mX8_ofTable (fun v hv => kX8_ofTable q M lx1 1 v hv) (fun rr_5 => ln_M_M_m_n (G := G) (q := q) (M := M)) rfl rfl rfl rfl rfl rfl rfl rfl (fun rr_5 h => ?_)
    refine X.iload_n C dX8_where_46 rfl 2 rfl ?_
    refine X.iadd C dX8_where_47 ?_
    refine X.icmp_gt (tgt := 149) C h dX8_where_48 (by decide) (fun h => ?_) (fun h => ?_)
    · refine X.iload_n C dX8_where_149 rfl 3 rfl ?_
      cases h
      exact X.iret C dX8_where_150 (Nat.zero_le _) (Nat.zero_le _)
    refine X.aload_n C dX8_where_51 rfl 0 rfl ?_
    refine X.iload_n C dX8_where_52 rfl 1 rfl ?_
    refine X.iconst C dX8_where_53 ?_
    refine X.callVi (q0 := 0) (As := [vi lx1, vi 0]) (rest := []) (g := fun rr_6 => rr_6) (W1 := fun rr_6 => (W_M G q M)) (ws2 := fun rr_6 => (W_M G q M)) C h dX8_where_54 ml_X8_72 mX8_ofTable (fun v hv => kX8_ofTable q M lx1 0 v hv) (fun rr_6 => ln_M_M_m_n (G := G) (q := q) (M := M)) rfl rfl rfl rfl rfl rfl rfl rfl (fun rr_6 h => ?_)
    refine X.iload_n C dX8_where_57 rfl 2 rfl ?_
    refine X.isub C dX8_where_58 ?_
    refine X.istoreN (lv2 := fun lx6_7 => [(6, vi lx6_7), (0, .ref (q 31)), (1, vi lx1), (2, vi lx2), (3, vi lx3), (4, vi lx4), (5, vi lx5)]) C h dX8_where_59 (by decide) (fun _ => rfl) (fun lx6_7 h => ?_)
    refine X.sub [1, 2, 3, 4, 5, 6, 0] rfl ?_
    refine xX8_where_61 C q M lx1 lx2 lx5 _ v (fun lx3_18 lx4_19 h => ?_) FU lx3 lx4 lx6_7 h
    · refine X.iincN (lv2 := fun lx5_20 => [(5, vi lx5_20), (0, .ref (q 31)), (1, vi lx1), (2, vi lx2), (3, vi lx3_18), (4, vi lx4_19)]) C h dX8_where_143 5 rfl (by decide) (fun _ => rfl) (fun lx5_20 h => ?_)
      refine X.goto (tgt := 38) C dX8_where_146 (by decide) ?_
      refine X.sub [1, 2, 3, 4, 5, 0] rfl ?_
      exact ih lx3_18 lx4_19 lx5_20 h
set_option maxHeartbeats 4000000 in
set_option maxRecDepth 100000 in
theorem kX8_where {l : Launch} {G : GT} (q : Nat → Nat) (M : Ob) (lx1 : Int) (lx2 : Int) (v : (Int)) (h : fX8_where M lx1 lx2 = some v) : CT l G yX8_where cX8_where 7 (some .int) rX8_where [.ref (q 31), vi lx1, vi lx2] (W_M G q M) (W_M G q M) (some (vi v)) := by
  unfold fX8_where at h
  refine CT.of (by decide) (Nat.le_of_ble_eq_true rfl) rfl (fun κ _ C => ?_)
  refine X.aload_n C dX8_where_0 rfl 0 rfl ?_
  refine X.iload_n C dX8_where_1 rfl 1 rfl ?_
  refine X.callVi (q0 := 0) (As := [vi lx1]) (rest := []) (g := fun rr_1 => rr_1) (W1 := fun rr_1 => (W_M G q M)) (ws2 := fun rr_1 => (W_M G q M)) C h dX8_where_2 ml_X8_302 mX8_isTable (fun v hv => kX8_isTable q M lx1 v hv) (fun rr_1 => ln_M_M_m_n (G := G) (q := q) (M := M)) rfl rfl rfl rfl rfl rfl rfl rfl (fun rr_1 h => ?_)
  refine X.if_eq (tgt := 20) C h dX8_where_5 (by decide) (fun h => ?_) (fun h => ?_)
  · refine X.bipush C dX8_where_20 (by decide) ?_
    cases h
    exact X.iret C dX8_where_22 (Nat.zero_le _) (Nat.zero_le _)
  refine X.iload_n C dX8_where_8 rfl 2 rfl ?_
  refine X.i2l C dX8_where_9 ?_
  refine X.lconst (z := 0) C dX8_where_10 (by decide) ?_
  refine X.ldc2 (z := 9) C cl_X8_319 (by decide) dX8_where_11 ?_
  refine X.callSi (As := [vl (jwl lx2), vl 0, vl 9]) (rest := []) (g := fun rr_2 => rr_2) (W1 := fun rr_2 => W_0) (ws2 := fun rr_2 => (W_M G q M)) C h dX8_where_14 ml_X8_68 mX8_in (fun v hv => kX8_in (jwl lx2) 0 9 v hv) (fun rr_2 => ln_M_0__n (G := G) (q := q) (M := M)) rfl rfl rfl rfl rfl rfl (fun rr_2 h => ?_)
  refine X.if_ne (tgt := 23) C h dX8_where_17 (by decide) (fun h => ?_) (fun h => ?_)
  · refine X.iconst C dX8_where_23 ?_
    refine X.istore_n (lv2 := [(3, vi (-1)), (0, .ref (q 31)), (1, vi lx1), (2, vi lx2)]) C dX8_where_24 rfl (by decide) rfl ?_
    refine X.iconst C dX8_where_25 ?_
    refine X.istore (lv2 := [(4, vi 0), (3, vi (-1)), (0, .ref (q 31)), (1, vi lx1), (2, vi lx2)]) C dX8_where_26 (by decide) rfl ?_
    refine X.aload_n C dX8_where_28 rfl 2 rfl ?_
    refine X.iload_n C dX8_where_29 rfl 3 rfl ?_
    refine X.iconst C dX8_where_30 ?_
    refine X.callVi (q0 := 0) (As := [vi lx1, vi 1]) (rest := []) (g := fun rr_3 => rr_3) (W1 := fun rr_3 => (W_M G q M)) (ws2 := fun rr_3 => (W_M G q M)) C h dX8_where_31 ml_X8_72 mX8_ofTable (fun v hv => kX8_ofTable q M lx1 1 v hv) (fun rr_3 => ln_M_M_m_n (G := G) (q := q) (M := M)) rfl rfl rfl rfl rfl rfl rfl rfl (fun rr_3 h => ?_)
    refine X.iload_n C dX8_where_34 rfl 4 rfl ?_
    refine X.isub C dX8_where_35 ?_
    refine X.istoreN (lv2 := fun lx5_4 => [(5, vi lx5_4), (4, vi 0), (3, vi (-1)), (0, .ref (q 31)), (1, vi lx1), (2, vi lx2)]) C h dX8_where_36 (by decide) (fun _ => rfl) (fun lx5_4 h => ?_)
    refine X.sub [3, 4, 5, 2, 1, 0] rfl ?_
    refine xX8_where_38 C q M lx1 lx2 v FU (-1) 0 lx5_4 h
  refine X.bipush C dX8_where_20 (by decide) ?_
  cases h
  exact X.iret C dX8_where_22 (Nat.zero_le _) (Nat.zero_le _)
def rX8_move : Room := { frames := 3, cells := 0, slots := 0, locals := 77 }
theorem mX8_move : MV yX8_move cX8_move 5 (some .int) 3 := ⟨cd_X8_move, in_X8, ⟨⟨by decide, by decide⟩, by decide +kernel⟩, im_X8_move, se_X8_move⟩
set_option maxHeartbeats 4000000 in
set_option maxRecDepth 100000 in
theorem kX8_move {l : Launch} {G : GT} (q : Nat → Nat) (M : Ob) (lx1 : Int) (lx2 : Int) (lx3 : Int) (v : (Int × Ob)) (h : fX8_move M lx1 lx2 lx3 = some v) : CT l G yX8_move cX8_move 5 (some .int) rX8_move [.ref (q 31), vi lx1, vi lx2, vi lx3] (W_M G q M) (W_M G q v.2) (some (vi v.1)) := by
  unfold fX8_move at h
  refine CT.of (by decide) (Nat.le_of_ble_eq_true rfl) rfl (fun κ _ C => ?_)
  refine X.aload_n C dX8_move_0 rfl 0 rfl ?_
  refine X.iload_n C dX8_move_1 rfl 1 rfl ?_
  refine X.callVi (q0 := 0) (As := [vi lx1]) (rest := []) (g := fun rr_1 => rr_1) (W1 := fun rr_1 => (W_M G q M)) (ws2 := fun rr_1 => (W_M G q M)) C h dX8_move_2 ml_X8_302 mX8_isTable (fun v hv => kX8_isTable q M lx1 v hv) (fun rr_1 => ln_M_M_m_n (G := G) (q := q) (M := M)) rfl rfl rfl rfl rfl rfl rfl rfl (fun rr_1 h => ?_)
  refine X.if_eq (tgt := 17) C h dX8_move_5 (by decide) (fun h => ?_) (fun h => ?_)
  · refine X.bipush C dX8_move_17 (by decide) ?_
    cases h
    exact X.iret C dX8_move_19 (Nat.zero_le _) (Nat.zero_le _)
  refine X.aload_n C dX8_move_8 rfl 0 rfl ?_
  refine X.iload_n C dX8_move_9 rfl 2 rfl ?_
  refine X.iload_n C dX8_move_10 rfl 3 rfl ?_
  refine X.callVi (q0 := 0) (As := [vi lx2, vi lx3]) (rest := []) (g := fun rr_2 => rr_2) (W1 := fun rr_2 => (W_M G q M)) (ws2 := fun rr_2 => (W_M G q M)) C h dX8_move_11 ml_X8_248 mX8_isCell (fun v hv => kX8_isCell q M lx2 lx3 v hv) (fun rr_2 => ln_M_M_m_n (G := G) (q := q) (M := M)) rfl rfl rfl rfl rfl rfl rfl rfl (fun rr_2 h => ?_)
  refine X.if_ne (tgt := 20) C h dX8_move_14 (by decide) (fun h => ?_) (fun h => ?_)
  · refine X.aload_n C dX8_move_20 rfl 0 rfl ?_
    refine X.iload_n C dX8_move_21 rfl 2 rfl ?_
    refine X.iload_n C dX8_move_22 rfl 3 rfl ?_
    refine X.iload_n C dX8_move_23 rfl 1 rfl ?_
    refine X.callVi (q0 := 0) (As := [vi lx2, vi lx3, vi lx1]) (rest := []) (g := fun rr_3 => rr_3) (W1 := fun rr_3 => (W_M G q M)) (ws2 := fun rr_3 => (W_M G q M)) C h dX8_move_24 ml_X8_425 mX8_isTaken (fun v hv => kX8_isTaken q M lx2 lx3 lx1 v hv) (fun rr_3 => ln_M_M_m_n (G := G) (q := q) (M := M)) rfl rfl rfl rfl rfl rfl rfl rfl (fun rr_3 h => ?_)
    refine X.if_eq (tgt := 33) C h dX8_move_27 (by decide) (fun h => ?_) (fun h => ?_)
    · refine X.bipush C dX8_move_33 (by decide) ?_
      refine X.aload_n C dX8_move_35 rfl 0 rfl ?_
      refine X.iload_n C dX8_move_36 rfl 1 rfl ?_
      refine X.iconst C dX8_move_37 ?_
      refine X.callVi (q0 := 0) (As := [vi lx1, vi 1]) (rest := [vi 100]) (g := fun rr_4 => rr_4) (W1 := fun rr_4 => (W_M G q M)) (ws2 := fun rr_4 => (W_M G q M)) C h dX8_move_38 ml_X8_72 mX8_ofTable (fun v hv => kX8_ofTable q M lx1 1 v hv) (fun rr_4 => ln_M_M_m_n (G := G) (q := q) (M := M)) rfl rfl rfl rfl rfl rfl rfl rfl (fun rr_4 h => ?_)
      refine X.imul C dX8_move_41 ?_
      refine X.aload_n C dX8_move_42 rfl 0 rfl ?_
      refine X.iload_n C dX8_move_43 rfl 1 rfl ?_
      refine X.iconst C dX8_move_44 ?_
      refine X.callVi (q0 := 0) (As := [vi lx1, vi 0]) (rest := [vi (100 * rr_4)]) (g := fun rr_5 => rr_5) (W1 := fun rr_5 => (W_M G q M)) (ws2 := fun rr_5 => (W_M G q M)) C h dX8_move_45 ml_X8_72 mX8_ofTable (fun v hv => kX8_ofTable q M lx1 0 v hv) (fun rr_5 => ln_M_M_m_n (G := G) (q := q) (M := M)) rfl rfl rfl rfl rfl rfl rfl rfl (fun rr_5 h => ?_)
      refine X.iadd C dX8_move_48 ?_
      refine X.istoreN (lv2 := fun lx4_6 => [(4, vi lx4_6), (0, .ref (q 31)), (1, vi lx1), (2, vi lx2), (3, vi lx3)]) C h dX8_move_49 (by decide) (fun _ => rfl) (fun lx4_6 h => ?_)
      refine X.aload_n C dX8_move_51 rfl 1 rfl ?_
      refine X.get C dX8_move_52 lay_X8 0 rfl rfl 1 (by decide) fl_X8_13 rfl rfl ?_
      refine X.bipush C dX8_move_55 (by decide) ?_
      refine X.iconst C dX8_move_57 ?_
      refine X.iload_n C dX8_move_58 rfl 2 rfl ?_
      refine X.imul C dX8_move_59 ?_
      refine X.iadd C dX8_move_60 ?_
      refine X.iload_n C dX8_move_61 rfl 3 rfl ?_
      refine X.iast (ws2 := (W_M G q (up2 M 1 (ix (35 + (3 * lx1))) lx2))) C h dX8_move_62 1 rfl rfl (fun h => ?_)
      refine X.nameS (ws := fun M_7 => (W_M G q M_7)) h (fun M_7 h => ?_)
      refine X.aload_n C dX8_move_63 rfl 1 rfl ?_
      refine X.get C dX8_move_64 lay_X8 0 rfl rfl 1 (by decide) fl_X8_13 rfl rfl ?_
      refine X.bipush C dX8_move_67 (by decide) ?_
      refine X.iconst C dX8_move_69 ?_
      refine X.iload_n C dX8_move_70 rfl 2 rfl ?_
      refine X.imul C dX8_move_71 ?_
      refine X.iadd C dX8_move_72 ?_
      refine X.iconst C dX8_move_73 ?_
      refine X.iadd C dX8_move_74 ?_
      refine X.iload_n C dX8_move_75 rfl 4 rfl ?_
      refine X.iast (ws2 := (W_M G q (up2 M_7 1 (ix ((35 + (3 * lx1)) + 1)) lx3))) C h dX8_move_76 1 rfl rfl (fun h => ?_)
      refine X.nameS (ws := fun M_8 => (W_M G q M_8)) h (fun M_8 h => ?_)
      refine X.iload C dX8_move_77 0 rfl ?_
      cases h
      exact X.iret C dX8_move_79 (Nat.zero_le _) (Nat.zero_le _)
    refine X.bipush C dX8_move_30 (by decide) ?_
    cases h
    exact X.iret C dX8_move_32 (Nat.zero_le _) (Nat.zero_le _)
  refine X.bipush C dX8_move_17 (by decide) ?_
  cases h
  exact X.iret C dX8_move_19 (Nat.zero_le _) (Nat.zero_le _)
