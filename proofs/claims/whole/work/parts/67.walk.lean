def rX8_drifts : Room := { frames := 3, cells := 0, slots := 0, locals := 77 }
theorem mX8_drifts : MV yX8_drifts cX8_drifts 6 (some .int) 1 := ⟨cd_X8_drifts, in_X8, ⟨⟨by decide, by decide⟩, by decide +kernel⟩, im_X8_drifts, se_X8_drifts⟩
set_option maxHeartbeats 4000000 in
set_option maxRecDepth 100000 in
theorem xX8_drifts_39 {κ : Kx} {G : GT} (C : Cx κ G yX8_drifts cX8_drifts (some .int) 6 rX8_drifts) (q : Nat → Nat) (lx1 : Int) (lx3 : Int) (lx4 : Int) (kx0 : Int → Ob → Option (Int × Ob)) (v : (Int × Ob)) (hk0 : ∀ (lx2 : Int) (M : Ob), kx0 lx2 M = some v → X κ G 6 (W_M G q M) 147 [(0, .ref (q 31)), (1, vi lx1), (2, vi lx2), (3, vi lx3)] [] 0 0 (QM κ G (W_M G q v.2) (some (vi v.1)) rX8_drifts.cells rX8_drifts.slots)) : ∀ (n : Nat) (lx2 : Int) (lx5 : Int) (M : Ob), lX8_drifts_39 lx1 lx3 lx4 kx0 n lx2 lx5 M = some v → X κ G 6 (W_M G q M) 39 [(0, .ref (q 31)), (1, vi lx1), (2, vi lx2), (3, vi lx3), (4, vi lx4), (5, vi lx5)] [] 0 0 (QM κ G (W_M G q v.2) (some (vi v.1)) rX8_drifts.cells rX8_drifts.slots) := by
  intro n
  induction n with
  | zero => intro _ _ _ h; exact absurd h (fun h => nomatch h)
  | succ n ih =>
    intro lx2 lx5 M h
    rw [lX8_drifts_39] at h
    refine X.iload C dX8_drifts_39 5 rfl ?_
    refine X.aload_n C dX8_drifts_41 rfl 0 rfl ?_
    refine X.get C dX8_drifts_42 lay_X8 0 rfl rfl 1 (by decide) fl_X8_13 rfl rfl ?_
    refine X.bipush C dX8_drifts_45 (by decide) ?_
    refine X.iald C h dX8_drifts_47 1 rfl (fun h => ?_)
    refine X.icmp_ge (tgt := 147) C h dX8_drifts_48 (by decide) (fun h => ?_) (fun h => ?_)
    · refine X.sub [0, 1, 2, 3] rfl ?_
      exact hk0 lx2 M h
    refine X.aload_n C dX8_drifts_51 rfl 0 rfl ?_
    refine X.get C dX8_drifts_52 lay_X8 0 rfl rfl 1 (by decide) fl_X8_13 rfl rfl ?_
    refine X.iload C dX8_drifts_55 4 rfl ?_
    refine X.iconst C dX8_drifts_57 ?_
    refine X.iadd C dX8_drifts_58 ?_
    refine X.iconst C dX8_drifts_59 ?_
    refine X.iload C dX8_drifts_60 5 rfl ?_
    refine X.imul C dX8_drifts_62 ?_
    refine X.iadd C dX8_drifts_63 ?_
    refine X.dup2 C dX8_drifts_64 rfl rfl ?_
    refine X.iald C h dX8_drifts_65 1 rfl (fun h => ?_)
    refine X.aload_n C dX8_drifts_66 rfl 0 rfl ?_
    refine X.iload C dX8_drifts_67 5 rfl ?_
    refine X.callVi (q0 := 0) (As := [vi lx5]) (rest := [vi (M 1 (ix ((lx4 + 3) + (2 * lx5)))), vi ((lx4 + 3) + (2 * lx5)), .ref (q 1)]) (g := fun rr_4 => rr_4) (W1 := fun rr_4 => (W_M G q M)) (ws2 := fun rr_4 => (W_M G q M)) C h dX8_drifts_69 ml_X8_257 mX8_dragOf (fun v hv => kX8_dragOf q M lx5 v hv) (fun rr_4 => ln_M_M_m_n (G := G) (q := q) (M := M)) rfl rfl rfl rfl rfl rfl rfl rfl (fun rr_4 h => ?_)
    refine X.iload_n C dX8_drifts_72 rfl 1 rfl ?_
    refine X.callSi (As := [vi lx1]) (rest := [vi rr_4, vi (M 1 (ix ((lx4 + 3) + (2 * lx5)))), vi ((lx4 + 3) + (2 * lx5)), .ref (q 1)]) (g := fun rr_5 => rr_5) (W1 := fun rr_5 => W_0) (ws2 := fun rr_5 => (W_M G q M)) C h dX8_drifts_73 ml_X8_260 mX8_eastBy (fun v hv => kX8_eastBy lx1 v hv) (fun rr_5 => ln_M_0__n (G := G) (q := q) (M := M)) rfl rfl rfl rfl rfl rfl (fun rr_5 h => ?_)
    refine X.imul C dX8_drifts_76 ?_
    refine X.iadd C dX8_drifts_77 ?_
    refine X.iast (ws2 := (W_M G q (up2 M 1 (ix ((lx4 + 3) + (2 * lx5))) ((M 1 (ix ((lx4 + 3) + (2 * lx5)))) + (rr_4 * rr_5))))) C h dX8_drifts_78 1 rfl rfl (fun h => ?_)
    refine X.nameS (ws := fun M_6 => (W_M G q M_6)) h (fun M_6 h => ?_)
    refine X.aload_n C dX8_drifts_79 rfl 0 rfl ?_
    refine X.get C dX8_drifts_80 lay_X8 0 rfl rfl 1 (by decide) fl_X8_13 rfl rfl ?_
    refine X.iload C dX8_drifts_83 4 rfl ?_
    refine X.iconst C dX8_drifts_85 ?_
    refine X.iadd C dX8_drifts_86 ?_
    refine X.iconst C dX8_drifts_87 ?_
    refine X.iload C dX8_drifts_88 5 rfl ?_
    refine X.imul C dX8_drifts_90 ?_
    refine X.iadd C dX8_drifts_91 ?_
    refine X.dup2 C dX8_drifts_92 rfl rfl ?_
    refine X.iald C h dX8_drifts_93 1 rfl (fun h => ?_)
    refine X.aload_n C dX8_drifts_94 rfl 0 rfl ?_
    refine X.iload C dX8_drifts_95 5 rfl ?_
    refine X.callVi (q0 := 0) (As := [vi lx5]) (rest := [vi (M_6 1 (ix ((lx4 + 4) + (2 * lx5)))), vi ((lx4 + 4) + (2 * lx5)), .ref (q 1)]) (g := fun rr_7 => rr_7) (W1 := fun rr_7 => (W_M G q M_6)) (ws2 := fun rr_7 => (W_M G q M_6)) C h dX8_drifts_97 ml_X8_257 mX8_dragOf (fun v hv => kX8_dragOf q M_6 lx5 v hv) (fun rr_7 => ln_M_M_m_n (G := G) (q := q) (M := M_6)) rfl rfl rfl rfl rfl rfl rfl rfl (fun rr_7 h => ?_)
    refine X.iload_n C dX8_drifts_100 rfl 1 rfl ?_
    refine X.callSi (As := [vi lx1]) (rest := [vi rr_7, vi (M_6 1 (ix ((lx4 + 4) + (2 * lx5)))), vi ((lx4 + 4) + (2 * lx5)), .ref (q 1)]) (g := fun rr_8 => rr_8) (W1 := fun rr_8 => W_0) (ws2 := fun rr_8 => (W_M G q M_6)) C h dX8_drifts_101 ml_X8_263 mX8_southBy (fun v hv => kX8_southBy lx1 v hv) (fun rr_8 => ln_M_0__n (G := G) (q := q) (M := M_6)) rfl rfl rfl rfl rfl rfl (fun rr_8 h => ?_)
    refine X.imul C dX8_drifts_104 ?_
    refine X.iadd C dX8_drifts_105 ?_
    refine X.iast (ws2 := (W_M G q (up2 M_6 1 (ix ((lx4 + 4) + (2 * lx5))) ((M_6 1 (ix ((lx4 + 4) + (2 * lx5)))) + (rr_7 * rr_8))))) C h dX8_drifts_106 1 rfl rfl (fun h => ?_)
    refine X.nameS (ws := fun M_9 => (W_M G q M_9)) h (fun M_9 h => ?_)
    refine X.iload_n C dX8_drifts_107 rfl 2 rfl ?_
    refine X.aload_n C dX8_drifts_108 rfl 0 rfl ?_
    refine X.get C dX8_drifts_109 lay_X8 0 rfl rfl 1 (by decide) fl_X8_13 rfl rfl ?_
    refine X.iload C dX8_drifts_112 4 rfl ?_
    refine X.iald C h dX8_drifts_114 1 rfl (fun h => ?_)
    refine X.aload_n C dX8_drifts_115 rfl 0 rfl ?_
    refine X.get C dX8_drifts_116 lay_X8 0 rfl rfl 1 (by decide) fl_X8_13 rfl rfl ?_
    refine X.bipush C dX8_drifts_119 (by decide) ?_
    refine X.iald C h dX8_drifts_121 1 rfl (fun h => ?_)
    refine X.iconst C dX8_drifts_122 ?_
    refine X.iadd C dX8_drifts_123 ?_
    refine X.icmp_ne (tgt := 138) C h dX8_drifts_124 (by decide) (fun h => ?_) (fun h => ?_)
    · refine X.iconst C dX8_drifts_138 ?_
      refine X.iadd C dX8_drifts_139 ?_
      refine X.istoreN_n (lv2 := fun lx2_10 => [(2, vi lx2_10), (0, .ref (q 31)), (1, vi lx1), (3, vi lx3), (4, vi lx4), (5, vi lx5)]) C h dX8_drifts_140 rfl (by decide) (fun _ => rfl) (fun lx2_10 h => ?_)
      refine X.iincN (lv2 := fun lx5_11 => [(5, vi lx5_11), (2, vi lx2_10), (0, .ref (q 31)), (1, vi lx1), (3, vi lx3), (4, vi lx4)]) C h dX8_drifts_141 5 rfl (by decide) (fun _ => rfl) (fun lx5_11 h => ?_)
      refine X.goto (tgt := 39) C dX8_drifts_144 (by decide) ?_
      refine X.sub [2, 3, 1, 4, 5, 0] rfl ?_
      exact ih lx2_10 lx5_11 M_9 h
    refine X.aload_n C dX8_drifts_127 rfl 0 rfl ?_
    refine X.iload C dX8_drifts_128 4 rfl ?_
    refine X.iload C dX8_drifts_130 5 rfl ?_
    refine X.callVi (q0 := 0) (As := [vi lx4, vi lx5]) (rest := [vi lx2]) (g := fun rr_12 => rr_12.1) (W1 := fun rr_12 => (W_M G q rr_12.2)) (ws2 := fun rr_12 => (W_M G q rr_12.2)) C h dX8_drifts_132 ml_X8_266 mX8_lands (fun v hv => kX8_lands q M_9 lx4 lx5 v hv) (fun rr_12 => ln_M_M_m_M (G := G) (q := q) (M := M_9) (NM := rr_12.2)) rfl rfl rfl rfl rfl rfl rfl rfl (fun rr_12 h => ?_)
    refine X.goto (tgt := 139) C dX8_drifts_135 (by decide) ?_
    refine X.iadd C dX8_drifts_139 ?_
    refine X.istoreN_n (lv2 := fun lx2_13 => [(2, vi lx2_13), (0, .ref (q 31)), (1, vi lx1), (3, vi lx3), (4, vi lx4), (5, vi lx5)]) C h dX8_drifts_140 rfl (by decide) (fun _ => rfl) (fun lx2_13 h => ?_)
    refine X.iincN (lv2 := fun lx5_14 => [(5, vi lx5_14), (2, vi lx2_13), (0, .ref (q 31)), (1, vi lx1), (3, vi lx3), (4, vi lx4)]) C h dX8_drifts_141 5 rfl (by decide) (fun _ => rfl) (fun lx5_14 h => ?_)
    refine X.goto (tgt := 39) C dX8_drifts_144 (by decide) ?_
    refine X.sub [2, 3, 1, 4, 5, 0] rfl ?_
    exact ih lx2_13 lx5_14 rr_12.2 h
set_option maxHeartbeats 4000000 in
set_option maxRecDepth 100000 in
theorem xX8_drifts_7 {κ : Kx} {G : GT} (C : Cx κ G yX8_drifts cX8_drifts (some .int) 6 rX8_drifts) (q : Nat → Nat) (lx1 : Int) (v : (Int × Ob)) : ∀ (n : Nat) (lx2 : Int) (lx3 : Int) (M : Ob), lX8_drifts_7 lx1 n lx2 lx3 M = some v → X κ G 6 (W_M G q M) 7 [(0, .ref (q 31)), (1, vi lx1), (2, vi lx2), (3, vi lx3)] [] 0 0 (QM κ G (W_M G q v.2) (some (vi v.1)) rX8_drifts.cells rX8_drifts.slots) := by
  intro n
  induction n with
  | zero => intro _ _ _ h; exact absurd h (fun h => nomatch h)
  | succ n ih =>
    intro lx2 lx3 M h
    rw [lX8_drifts_7] at h
    refine X.iload_n C dX8_drifts_7 rfl 3 rfl ?_
    refine X.aload_n C dX8_drifts_8 rfl 0 rfl ?_
    refine X.get C dX8_drifts_9 lay_X8 0 rfl rfl 1 (by decide) fl_X8_13 rfl rfl ?_
    refine X.bipush C dX8_drifts_12 (by decide) ?_
    refine X.iald C h dX8_drifts_14 1 rfl (fun h => ?_)
    refine X.icmp_gt (tgt := 153) C h dX8_drifts_15 (by decide) (fun h => ?_) (fun h => ?_)
    · refine X.iload_n C dX8_drifts_153 rfl 2 rfl ?_
      cases h
      exact X.iret C dX8_drifts_154 (Nat.zero_le _) (Nat.zero_le _)
    refine X.aload_n C dX8_drifts_18 rfl 0 rfl ?_
    refine X.iload_n C dX8_drifts_19 rfl 3 rfl ?_
    refine X.callVi (q0 := 0) (As := [vi lx3]) (rest := []) (g := fun rr_2 => rr_2) (W1 := fun rr_2 => (W_M G q M)) (ws2 := fun rr_2 => (W_M G q M)) C h dX8_drifts_20 ml_X8_254 mX8_isUp (fun v hv => kX8_isUp q M lx3 v hv) (fun rr_2 => ln_M_M_m_n (G := G) (q := q) (M := M)) rfl rfl rfl rfl rfl rfl rfl rfl (fun rr_2 h => ?_)
    refine X.if_ne (tgt := 29) C h dX8_drifts_23 (by decide) (fun h => ?_) (fun h => ?_)
    · refine X.aload_n C dX8_drifts_29 rfl 0 rfl ?_
      refine X.iload_n C dX8_drifts_30 rfl 3 rfl ?_
      refine X.callVi (q0 := 0) (As := [vi lx3]) (rest := []) (g := fun rr_3 => rr_3) (W1 := fun rr_3 => (W_M G q M)) (ws2 := fun rr_3 => (W_M G q M)) C h dX8_drifts_31 ml_X8_239 mX8_lump (fun v hv => kX8_lump q M lx3 v hv) (fun rr_3 => ln_M_M_m_n (G := G) (q := q) (M := M)) rfl rfl rfl rfl rfl rfl rfl rfl (fun rr_3 h => ?_)
      refine X.istore (lv2 := [(4, vi rr_3), (0, .ref (q 31)), (1, vi lx1), (2, vi lx2), (3, vi lx3)]) C dX8_drifts_34 (by decide) rfl ?_
      refine X.iconst C dX8_drifts_36 ?_
      refine X.istore (lv2 := [(5, vi 0), (4, vi rr_3), (0, .ref (q 31)), (1, vi lx1), (2, vi lx2), (3, vi lx3)]) C dX8_drifts_37 (by decide) rfl ?_
      refine X.sub [2, 3, 4, 5, 1, 0] rfl ?_
      refine xX8_drifts_39 C q lx1 lx3 rr_3 _ v (fun lx2_15 M_16 h => ?_) FU lx2 0 M h
      · refine X.iincN (lv2 := fun lx3_17 => [(3, vi lx3_17), (0, .ref (q 31)), (1, vi lx1), (2, vi lx2_15)]) C h dX8_drifts_147 3 rfl (by decide) (fun _ => rfl) (fun lx3_17 h => ?_)
        refine X.goto (tgt := 7) C dX8_drifts_150 (by decide) ?_
        refine X.sub [1, 2, 3, 0] rfl ?_
        exact ih lx2_15 lx3_17 M_16 h
    refine X.goto (tgt := 147) C dX8_drifts_26 (by decide) ?_
    refine X.iincN (lv2 := fun lx3_18 => [(3, vi lx3_18), (0, .ref (q 31)), (1, vi lx1), (2, vi lx2)]) C h dX8_drifts_147 3 rfl (by decide) (fun _ => rfl) (fun lx3_18 h => ?_)
    refine X.goto (tgt := 7) C dX8_drifts_150 (by decide) ?_
    refine X.sub [1, 2, 3, 0] rfl ?_
    exact ih lx2 lx3_18 M h
set_option maxHeartbeats 4000000 in
set_option maxRecDepth 100000 in
theorem kX8_drifts {l : Launch} {G : GT} (q : Nat → Nat) (M : Ob) (lx1 : Int) (v : (Int × Ob)) (h : fX8_drifts M lx1 = some v) : CT l G yX8_drifts cX8_drifts 6 (some .int) rX8_drifts [.ref (q 31), vi lx1] (W_M G q M) (W_M G q v.2) (some (vi v.1)) := by
  unfold fX8_drifts at h
  refine CT.of (by decide) (Nat.le_of_ble_eq_true rfl) rfl (fun κ _ C => ?_)
  refine X.iconst C dX8_drifts_0 ?_
  refine X.istore_n (lv2 := [(2, vi 0), (0, .ref (q 31)), (1, vi lx1)]) C dX8_drifts_1 rfl (by decide) rfl ?_
  refine X.aload_n C dX8_drifts_2 rfl 1 rfl ?_
  refine X.callVi (q0 := 0) (As := []) (rest := []) (g := fun rr_1 => rr_1) (W1 := fun rr_1 => (W_M G q M)) (ws2 := fun rr_1 => (W_M G q M)) C h dX8_drifts_3 ml_X8_251 mX8_firstBeat (fun v hv => kX8_firstBeat q M v hv) (fun rr_1 => ln_M_M_m_n (G := G) (q := q) (M := M)) rfl rfl rfl rfl rfl rfl rfl rfl (fun rr_1 h => ?_)
  refine X.istore_n (lv2 := [(3, vi rr_1), (2, vi 0), (0, .ref (q 31)), (1, vi lx1)]) C dX8_drifts_6 rfl (by decide) rfl ?_
  refine X.sub [2, 3, 1, 0] rfl ?_
  refine xX8_drifts_7 C q lx1 v FU 0 rr_1 M h
def rX8_seenBy : Room := { frames := 0, cells := 0, slots := 0, locals := 0 }
theorem mX8_seenBy : MV yX8_seenBy cX8_seenBy 3 (some .int) 2 := ⟨cd_X8_seenBy, in_X8, ⟨⟨by decide, by decide⟩, by decide +kernel⟩, im_X8_seenBy, se_X8_seenBy⟩
set_option maxHeartbeats 4000000 in
set_option maxRecDepth 100000 in
theorem kX8_seenBy {l : Launch} {G : GT} (q : Nat → Nat) (M : Ob) (lx1 : Int) (lx2 : Int) (v : (Int)) (h : fX8_seenBy M lx1 lx2 = some v) : CT l G yX8_seenBy cX8_seenBy 3 (some .int) rX8_seenBy [.ref (q 31), vi lx1, vi lx2] (W_M G q M) (W_M G q M) (some (vi v)) := by
  unfold fX8_seenBy at h
  refine CT.of (by decide) (Nat.le_of_ble_eq_true rfl) rfl (fun κ _ C => ?_)
  refine X.iload_n C dX8_seenBy_0 rfl 1 rfl ?_
  refine X.iload_n C dX8_seenBy_1 rfl 2 rfl ?_
  refine X.isub C dX8_seenBy_2 ?_
  refine X.if_le (tgt := 23) C h dX8_seenBy_3 (by decide) (fun h => ?_) (fun h => ?_)
  · refine X.iconst C dX8_seenBy_23 ?_
    cases h
    exact X.iret C dX8_seenBy_24 (Nat.zero_le _) (Nat.zero_le _)
  refine X.aload_n C dX8_seenBy_6 rfl 0 rfl ?_
  refine X.get C dX8_seenBy_7 lay_X8 0 rfl rfl 1 (by decide) fl_X8_13 rfl rfl ?_
  refine X.bipush C dX8_seenBy_10 (by decide) ?_
  refine X.iload_n C dX8_seenBy_12 rfl 1 rfl ?_
  refine X.iload_n C dX8_seenBy_13 rfl 2 rfl ?_
  refine X.isub C dX8_seenBy_14 ?_
  refine X.bipush C dX8_seenBy_15 (by decide) ?_
  refine X.irem C (by decide) dX8_seenBy_17 ?_
  refine X.iadd C dX8_seenBy_18 ?_
  refine X.iald C h dX8_seenBy_19 1 rfl (fun h => ?_)
  refine X.goto (tgt := 24) C dX8_seenBy_20 (by decide) ?_
  cases h
  exact X.iret C dX8_seenBy_24 (Nat.zero_le _) (Nat.zero_le _)
def rX8_letsBy : Room := { frames := 1, cells := 0, slots := 0, locals := 30 }
theorem mX8_letsBy : MV yX8_letsBy cX8_letsBy 4 (some .int) 1 := ⟨cd_X8_letsBy, in_X8, ⟨⟨by decide, by decide⟩, by decide +kernel⟩, im_X8_letsBy, se_X8_letsBy⟩
set_option maxHeartbeats 4000000 in
set_option maxRecDepth 100000 in
theorem xX8_letsBy_5 {κ : Kx} {G : GT} (C : Cx κ G yX8_letsBy cX8_letsBy (some .int) 4 rX8_letsBy) (q : Nat → Nat) (M : Ob) (lx1 : Int) (kx0 : Int → Option (Int)) (v : (Int)) (hk0 : ∀ (lx2 : Int), kx0 lx2 = some v → X κ G 4 (W_M G q M) 55 [(0, .ref (q 31)), (2, vi lx2)] [] 0 0 (QM κ G (W_M G q M) (some (vi v)) rX8_letsBy.cells rX8_letsBy.slots)) : ∀ (n : Nat) (lx2 : Int) (lx3 : Int), lX8_letsBy_5 M lx1 kx0 n lx2 lx3 = some v → X κ G 4 (W_M G q M) 5 [(0, .ref (q 31)), (1, vi lx1), (2, vi lx2), (3, vi lx3)] [] 0 0 (QM κ G (W_M G q M) (some (vi v)) rX8_letsBy.cells rX8_letsBy.slots) := by
  intro n
  induction n with
  | zero => intro _ _ h; exact absurd h (fun h => nomatch h)
  | succ n ih =>
    intro lx2 lx3 h
    rw [lX8_letsBy_5] at h
    refine X.iload_n C dX8_letsBy_5 rfl 3 rfl ?_
    refine X.aload_n C dX8_letsBy_6 rfl 0 rfl ?_
    refine X.get C dX8_letsBy_7 lay_X8 0 rfl rfl 1 (by decide) fl_X8_13 rfl rfl ?_
    refine X.bipush C dX8_letsBy_10 (by decide) ?_
    refine X.iald C h dX8_letsBy_12 1 rfl (fun h => ?_)
    refine X.icmp_ge (tgt := 55) C h dX8_letsBy_13 (by decide) (fun h => ?_) (fun h => ?_)
    · refine X.sub [0, 2] rfl ?_
      exact hk0 lx2 h
    refine X.aload_n C dX8_letsBy_16 rfl 0 rfl ?_
    refine X.get C dX8_letsBy_17 lay_X8 0 rfl rfl 1 (by decide) fl_X8_13 rfl rfl ?_
    refine X.bipush C dX8_letsBy_20 (by decide) ?_
    refine X.iconst C dX8_letsBy_22 ?_
    refine X.iload_n C dX8_letsBy_23 rfl 3 rfl ?_
    refine X.imul C dX8_letsBy_24 ?_
    refine X.iadd C dX8_letsBy_25 ?_
    refine X.iald C h dX8_letsBy_26 1 rfl (fun h => ?_)
    refine X.iload_n C dX8_letsBy_27 rfl 1 rfl ?_
    refine X.icmp_gt (tgt := 47) C h dX8_letsBy_28 (by decide) (fun h => ?_) (fun h => ?_)
    · refine X.iload_n C dX8_letsBy_47 rfl 2 rfl ?_
      refine X.istore_n (lv2 := [(2, vi lx2), (0, .ref (q 31)), (1, vi lx1), (3, vi lx3)]) C dX8_letsBy_48 rfl (by decide) rfl ?_
      refine X.iincN (lv2 := fun lx3_1 => [(3, vi lx3_1), (2, vi lx2), (0, .ref (q 31)), (1, vi lx1)]) C h dX8_letsBy_49 3 rfl (by decide) (fun _ => rfl) (fun lx3_1 h => ?_)
      refine X.goto (tgt := 5) C dX8_letsBy_52 (by decide) ?_
      refine X.sub [2, 3, 1, 0] rfl ?_
      exact ih lx2 lx3_1 h
    refine X.aload_n C dX8_letsBy_31 rfl 0 rfl ?_
    refine X.get C dX8_letsBy_32 lay_X8 0 rfl rfl 1 (by decide) fl_X8_13 rfl rfl ?_
    refine X.bipush C dX8_letsBy_35 (by decide) ?_
    refine X.iconst C dX8_letsBy_37 ?_
    refine X.iload_n C dX8_letsBy_38 rfl 3 rfl ?_
    refine X.imul C dX8_letsBy_39 ?_
    refine X.iadd C dX8_letsBy_40 ?_
    refine X.iconst C dX8_letsBy_41 ?_
    refine X.iadd C dX8_letsBy_42 ?_
    refine X.iald C h dX8_letsBy_43 1 rfl (fun h => ?_)
    refine X.goto (tgt := 48) C dX8_letsBy_44 (by decide) ?_
    refine X.istoreN_n (lv2 := fun lx2_2 => [(2, vi lx2_2), (0, .ref (q 31)), (1, vi lx1), (3, vi lx3)]) C h dX8_letsBy_48 rfl (by decide) (fun _ => rfl) (fun lx2_2 h => ?_)
    refine X.iincN (lv2 := fun lx3_3 => [(3, vi lx3_3), (2, vi lx2_2), (0, .ref (q 31)), (1, vi lx1)]) C h dX8_letsBy_49 3 rfl (by decide) (fun _ => rfl) (fun lx3_3 h => ?_)
    refine X.goto (tgt := 5) C dX8_letsBy_52 (by decide) ?_
    refine X.sub [2, 3, 1, 0] rfl ?_
    exact ih lx2_2 lx3_3 h
set_option maxHeartbeats 4000000 in
set_option maxRecDepth 100000 in
theorem kX8_letsBy {l : Launch} {G : GT} (q : Nat → Nat) (M : Ob) (lx1 : Int) (v : (Int)) (h : fX8_letsBy M lx1 = some v) : CT l G yX8_letsBy cX8_letsBy 4 (some .int) rX8_letsBy [.ref (q 31), vi lx1] (W_M G q M) (W_M G q M) (some (vi v)) := by
  unfold fX8_letsBy at h
  refine CT.of (by decide) (Nat.le_of_ble_eq_true rfl) rfl (fun κ _ C => ?_)
  refine X.bipush C dX8_letsBy_0 (by decide) ?_
  refine X.istore_n (lv2 := [(2, vi 60), (0, .ref (q 31)), (1, vi lx1)]) C dX8_letsBy_2 rfl (by decide) rfl ?_
  refine X.iconst C dX8_letsBy_3 ?_
  refine X.istore_n (lv2 := [(3, vi 0), (2, vi 60), (0, .ref (q 31)), (1, vi lx1)]) C dX8_letsBy_4 rfl (by decide) rfl ?_
  refine X.sub [2, 3, 1, 0] rfl ?_
  refine xX8_letsBy_5 C q M lx1 _ v (fun lx2_4 h => ?_) FU 60 0 h
  · refine X.aload_n C dX8_letsBy_55 rfl 0 rfl ?_
    refine X.get C dX8_letsBy_56 lay_X8 0 rfl rfl 1 (by decide) fl_X8_13 rfl rfl ?_
    refine X.bipush C dX8_letsBy_59 (by decide) ?_
    refine X.iald C h dX8_letsBy_61 1 rfl (fun h => ?_)
    refine X.iload_n C dX8_letsBy_62 rfl 1 rfl ?_
    refine X.mmin C dX8_letsBy_63 ml_X8_110 sm_J9_min_7cf53 in_java_lang_Math cd_J9_min_7cf53 (Nat.le_of_ble_eq_true rfl) (Nat.le_of_ble_eq_true rfl) (Nat.zero_le _) (Nat.zero_le _) ?_
    cases h
    exact X.iret C dX8_letsBy_66 (Nat.zero_le _) (Nat.zero_le _)
def rX8_beat : Room := { frames := 4, cells := 0, slots := 0, locals := 102 }
theorem mX8_beat : MV yX8_beat cX8_beat 9 (some .int) 1 := ⟨cd_X8_beat, in_X8, ⟨⟨by decide, by decide⟩, by decide +kernel⟩, im_X8_beat, se_X8_beat⟩
set_option maxHeartbeats 4000000 in
set_option maxRecDepth 100000 in
theorem xX8_beat_216 {κ : Kx} {G : GT} (C : Cx κ G yX8_beat cX8_beat (some .int) 9 rX8_beat) (q : Nat → Nat) (lx2 : Int) (lx6 : Int) (lx7 : Int) (kx0 : Ob → Option (Int × Ob)) (v : (Int × Ob)) (hk0 : ∀ (M : Ob), kx0 M = some v → X κ G 9 (W_M G q M) 240 [(0, .ref (q 31)), (2, vi lx2), (6, vi lx6), (7, vi lx7)] [] 0 0 (QM κ G (W_M G q v.2) (some (vi v.1)) rX8_beat.cells rX8_beat.slots)) : ∀ (n : Nat) (lx8 : Int) (M : Ob), lX8_beat_216 lx2 lx6 lx7 kx0 n lx8 M = some v → X κ G 9 (W_M G q M) 216 [(0, .ref (q 31)), (2, vi lx2), (6, vi lx6), (7, vi lx7), (8, vi lx8)] [] 0 0 (QM κ G (W_M G q v.2) (some (vi v.1)) rX8_beat.cells rX8_beat.slots) := by
  intro n
  induction n with
  | zero => intro _ _ h; exact absurd h (fun h => nomatch h)
  | succ n ih =>
    intro lx8 M h
    rw [lX8_beat_216] at h
    refine X.iload C dX8_beat_216 4 rfl ?_
    refine X.bipush C dX8_beat_218 (by decide) ?_
    refine X.icmp_ge (tgt := 240) C h dX8_beat_220 (by decide) (fun h => ?_) (fun h => ?_)
    · refine X.sub [0, 1, 2, 3] rfl ?_
      exact hk0 M h
    refine X.aload_n C dX8_beat_223 rfl 0 rfl ?_
    refine X.get C dX8_beat_224 lay_X8 0 rfl rfl 1 (by decide) fl_X8_13 rfl rfl ?_
    refine X.iload C dX8_beat_227 3 rfl ?_
    refine X.iload C dX8_beat_229 4 rfl ?_
    refine X.iadd C dX8_beat_231 ?_
    refine X.iconst C dX8_beat_232 ?_
    refine X.iast (ws2 := (W_M G q (up2 M 1 (ix (lx7 + lx8)) 0))) C h dX8_beat_233 1 rfl rfl (fun h => ?_)
    refine X.nameS (ws := fun M_15 => (W_M G q M_15)) h (fun M_15 h => ?_)
    refine X.iincN (lv2 := fun lx8_16 => [(8, vi lx8_16), (0, .ref (q 31)), (2, vi lx2), (6, vi lx6), (7, vi lx7)]) C h dX8_beat_234 4 rfl (by decide) (fun _ => rfl) (fun lx8_16 h => ?_)
    refine X.goto (tgt := 216) C dX8_beat_237 (by decide) ?_
    refine X.sub [1, 2, 3, 4, 0] rfl ?_
    exact ih lx8_16 M_15 h
set_option maxHeartbeats 4000000 in
set_option maxRecDepth 100000 in
theorem xX8_beat_273 {κ : Kx} {G : GT} (C : Cx κ G yX8_beat cX8_beat (some .int) 9 rX8_beat) (q : Nat → Nat) (lx2 : Int) (lx6 : Int) (v : (Int × Ob)) : ∀ (n : Nat) (lx8 : Int) (M : Ob), lX8_beat_273 lx2 lx6 n lx8 M = some v → X κ G 9 (W_M G q M) 273 [(0, .ref (q 31)), (2, vi lx2), (6, vi lx6), (8, vi lx8)] [] 0 0 (QM κ G (W_M G q v.2) (some (vi v.1)) rX8_beat.cells rX8_beat.slots) := by
  intro n
  induction n with
  | zero => intro _ _ h; exact absurd h (fun h => nomatch h)
  | succ n ih =>
    intro lx8 M h
    rw [lX8_beat_273] at h
    refine X.iload C dX8_beat_273 3 rfl ?_
    refine X.aload_n C dX8_beat_275 rfl 0 rfl ?_
    refine X.get C dX8_beat_276 lay_X8 0 rfl rfl 1 (by decide) fl_X8_13 rfl rfl ?_
    refine X.bipush C dX8_beat_279 (by decide) ?_
    refine X.iald C h dX8_beat_281 1 rfl (fun h => ?_)
    refine X.icmp_ge (tgt := 312) C h dX8_beat_282 (by decide) (fun h => ?_) (fun h => ?_)
    · refine X.iload_n C dX8_beat_312 rfl 1 rfl ?_
      cases h
      exact X.iret C dX8_beat_313 (Nat.zero_le _) (Nat.zero_le _)
    refine X.iload C dX8_beat_285 2 rfl ?_
    refine X.if_le (tgt := 312) C h dX8_beat_287 (by decide) (fun h => ?_) (fun h => ?_)
    · refine X.iload_n C dX8_beat_312 rfl 1 rfl ?_
      cases h
      exact X.iret C dX8_beat_313 (Nat.zero_le _) (Nat.zero_le _)
    refine X.aload_n C dX8_beat_290 rfl 0 rfl ?_
    refine X.get C dX8_beat_291 lay_X8 0 rfl rfl 1 (by decide) fl_X8_13 rfl rfl ?_
    refine X.bipush C dX8_beat_294 (by decide) ?_
    refine X.dup2 C dX8_beat_296 rfl rfl ?_
    refine X.iald C h dX8_beat_297 1 rfl (fun h => ?_)
    refine X.aload_n C dX8_beat_298 rfl 0 rfl ?_
    refine X.iload C dX8_beat_299 3 rfl ?_
    refine X.callVi (q0 := 0) (As := [vi lx8]) (rest := [vi (M 1 (ix 21)), vi 21, .ref (q 1)]) (g := fun rr_20 => rr_20) (W1 := fun rr_20 => (W_M G q M)) (ws2 := fun rr_20 => (W_M G q M)) C h dX8_beat_301 ml_X8_245 mX8_shareOf (fun v hv => kX8_shareOf q M lx8 v hv) (fun rr_20 => ln_M_M_m_n (G := G) (q := q) (M := M)) rfl rfl rfl rfl rfl rfl rfl rfl (fun rr_20 h => ?_)
    refine X.iadd C dX8_beat_304 ?_
    refine X.iast (ws2 := (W_M G q (up2 M 1 (ix 21) ((M 1 (ix 21)) + rr_20)))) C h dX8_beat_305 1 rfl rfl (fun h => ?_)
    refine X.nameS (ws := fun M_21 => (W_M G q M_21)) h (fun M_21 h => ?_)
    refine X.iincN (lv2 := fun lx8_22 => [(8, vi lx8_22), (0, .ref (q 31)), (2, vi lx2), (6, vi lx6)]) C h dX8_beat_306 3 rfl (by decide) (fun _ => rfl) (fun lx8_22 h => ?_)
    refine X.goto (tgt := 273) C dX8_beat_309 (by decide) ?_
    refine X.sub [1, 2, 3, 0] rfl ?_
    exact ih lx8_22 M_21 h
set_option maxHeartbeats 4000000 in
set_option maxRecDepth 100000 in
theorem xX8_beat_212 {κ : Kx} {G : GT} (C : Cx κ G yX8_beat cX8_beat (some .int) 9 rX8_beat) (q : Nat → Nat) (M : Ob) (lx2 : Int) (lx6 : Int) (lx7 : Int) (lt0 : Int) (lt1 : Int) (v : (Int × Ob)) (h : jX8_beat_212 M lx2 lx6 lx7 lt0 lt1 = some v) : X κ G 9 (W_M G q M) 212 [(0, .ref (q 31)), (2, vi lx2), (6, vi lx6), (7, vi lx7)] [vi lt0, vi lt1, .ref (q 1)] 0 0 (QM κ G (W_M G q v.2) (some (vi v.1)) rX8_beat.cells rX8_beat.slots) := by
  unfold jX8_beat_212 at h
  refine X.iast (ws2 := (W_M G q (up2 M 1 (ix lt1) lt0))) C h dX8_beat_212 1 rfl rfl (fun h => ?_)
  refine X.nameS (ws := fun M_14 => (W_M G q M_14)) h (fun M_14 h => ?_)
  refine X.iconst C dX8_beat_213 ?_
  refine X.istore (lv2 := [(8, vi 3), (0, .ref (q 31)), (2, vi lx2), (6, vi lx6), (7, vi lx7)]) C dX8_beat_214 (by decide) rfl ?_
  refine X.sub [1, 2, 3, 4, 0] rfl ?_
  refine xX8_beat_216 C q lx2 lx6 lx7 _ v (fun M_17 h => ?_) FU 3 M_14 h
  · refine X.aload_n C dX8_beat_240 rfl 0 rfl ?_
    refine X.get C dX8_beat_241 lay_X8 0 rfl rfl 1 (by decide) fl_X8_13 rfl rfl ?_
    refine X.iload C dX8_beat_244 3 rfl ?_
    refine X.iconst C dX8_beat_246 ?_
    refine X.iadd C dX8_beat_247 ?_
    refine X.aload_n C dX8_beat_248 rfl 0 rfl ?_
    refine X.get C dX8_beat_249 lay_X8 0 rfl rfl 1 (by decide) fl_X8_13 rfl rfl ?_
    refine X.iconst C dX8_beat_252 ?_
    refine X.iald C h dX8_beat_253 1 rfl (fun h => ?_)
    refine X.iast (ws2 := (W_M G q (up2 M_17 1 (ix (lx7 + 1)) (M_17 1 (ix 3))))) C h dX8_beat_254 1 rfl rfl (fun h => ?_)
    refine X.nameS (ws := fun M_18 => (W_M G q M_18)) h (fun M_18 h => ?_)
    refine X.aload_n C dX8_beat_255 rfl 0 rfl ?_
    refine X.get C dX8_beat_256 lay_X8 0 rfl rfl 1 (by decide) fl_X8_13 rfl rfl ?_
    refine X.iload C dX8_beat_259 3 rfl ?_
    refine X.iconst C dX8_beat_261 ?_
    refine X.iadd C dX8_beat_262 ?_
    refine X.aload_n C dX8_beat_263 rfl 0 rfl ?_
    refine X.get C dX8_beat_264 lay_X8 0 rfl rfl 1 (by decide) fl_X8_13 rfl rfl ?_
    refine X.iconst C dX8_beat_267 ?_
    refine X.iald C h dX8_beat_268 1 rfl (fun h => ?_)
    refine X.iast (ws2 := (W_M G q (up2 M_18 1 (ix (lx7 + 2)) (M_18 1 (ix 4))))) C h dX8_beat_269 1 rfl rfl (fun h => ?_)
    refine X.nameS (ws := fun M_19 => (W_M G q M_19)) h (fun M_19 h => ?_)
    refine X.iconst C dX8_beat_270 ?_
    refine X.istore (lv2 := [(8, vi 0), (0, .ref (q 31)), (2, vi lx2), (6, vi lx6), (7, vi lx7)]) C dX8_beat_271 (by decide) rfl ?_
    refine X.sub [1, 2, 3, 0] rfl ?_
    refine xX8_beat_273 C q lx2 lx6 v FU 0 M_19 h
set_option maxHeartbeats 4000000 in
set_option maxRecDepth 100000 in
theorem xX8_beat_141 {κ : Kx} {G : GT} (C : Cx κ G yX8_beat cX8_beat (some .int) 9 rX8_beat) (q : Nat → Nat) (M : Ob) (lx2 : Int) (lx3 : Int) (lx4 : Int) (lt0 : Int) (v : (Int × Ob)) (h : jX8_beat_141 M lx2 lx3 lx4 lt0 = some v) : X κ G 9 (W_M G q M) 141 [(0, .ref (q 31)), (2, vi lx2), (3, vi lx3), (4, vi lx4)] [vi lt0] 0 0 (QM κ G (W_M G q v.2) (some (vi v.1)) rX8_beat.cells rX8_beat.slots) := by
  unfold jX8_beat_141 at h
  refine X.istore (lv2 := [(6, vi lt0), (0, .ref (q 31)), (2, vi lx2), (3, vi lx3), (4, vi lx4)]) C dX8_beat_141 (by decide) rfl ?_
  refine X.aload_n C dX8_beat_143 rfl 1 rfl ?_
  refine X.get C dX8_beat_144 lay_X8 0 rfl rfl 1 (by decide) fl_X8_13 rfl rfl ?_
  refine X.bipush C dX8_beat_147 (by decide) ?_
  refine X.iload_n C dX8_beat_149 rfl 3 rfl ?_
  refine X.iast (ws2 := (W_M G q (up2 M 1 (ix 14) lx3))) C h dX8_beat_150 1 rfl rfl (fun h => ?_)
  refine X.nameS (ws := fun M_9 => (W_M G q M_9)) h (fun M_9 h => ?_)
  refine X.aload_n C dX8_beat_151 rfl 1 rfl ?_
  refine X.get C dX8_beat_152 lay_X8 0 rfl rfl 1 (by decide) fl_X8_13 rfl rfl ?_
  refine X.bipush C dX8_beat_155 (by decide) ?_
  refine X.iload C dX8_beat_157 4 rfl ?_
  refine X.iast (ws2 := (W_M G q (up2 M_9 1 (ix 17) lx4))) C h dX8_beat_159 1 rfl rfl (fun h => ?_)
  refine X.nameS (ws := fun M_10 => (W_M G q M_10)) h (fun M_10 h => ?_)
  refine X.aload_n C dX8_beat_160 rfl 1 rfl ?_
  refine X.get C dX8_beat_161 lay_X8 0 rfl rfl 1 (by decide) fl_X8_13 rfl rfl ?_
  refine X.bipush C dX8_beat_164 (by decide) ?_
  refine X.iload C dX8_beat_166 0 rfl ?_
  refine X.iast (ws2 := (W_M G q (up2 M_10 1 (ix 15) lt0))) C h dX8_beat_168 1 rfl rfl (fun h => ?_)
  refine X.nameS (ws := fun M_11 => (W_M G q M_11)) h (fun M_11 h => ?_)
  refine X.aload_n C dX8_beat_169 rfl 1 rfl ?_
  refine X.get C dX8_beat_170 lay_X8 0 rfl rfl 1 (by decide) fl_X8_13 rfl rfl ?_
  refine X.bipush C dX8_beat_173 (by decide) ?_
  refine X.dup2 C dX8_beat_175 rfl rfl ?_
  refine X.iald C h dX8_beat_176 1 rfl (fun h => ?_)
  refine X.iload C dX8_beat_177 0 rfl ?_
  refine X.iadd C dX8_beat_179 ?_
  refine X.iast (ws2 := (W_M G q (up2 M_11 1 (ix 16) ((M_11 1 (ix 16)) + lt0)))) C h dX8_beat_180 1 rfl rfl (fun h => ?_)
  refine X.nameS (ws := fun M_12 => (W_M G q M_12)) h (fun M_12 h => ?_)
  refine X.aload_n C dX8_beat_181 rfl 1 rfl ?_
  refine X.iload_n C dX8_beat_182 rfl 3 rfl ?_
  refine X.callVi (q0 := 0) (As := [vi lx3]) (rest := []) (g := fun rr_13 => rr_13) (W1 := fun rr_13 => (W_M G q M_12)) (ws2 := fun rr_13 => (W_M G q M_12)) C h dX8_beat_183 ml_X8_239 mX8_lump (fun v hv => kX8_lump q M_12 lx3 v hv) (fun rr_13 => ln_M_M_m_n (G := G) (q := q) (M := M_12)) rfl rfl rfl rfl rfl rfl rfl rfl (fun rr_13 h => ?_)
  refine X.istore (lv2 := [(7, vi rr_13), (6, vi lt0), (0, .ref (q 31)), (2, vi lx2), (3, vi lx3), (4, vi lx4)]) C dX8_beat_186 (by decide) rfl ?_
  refine X.aload_n C dX8_beat_188 rfl 2 rfl ?_
  refine X.get C dX8_beat_189 lay_X8 0 rfl rfl 1 (by decide) fl_X8_13 rfl rfl ?_
  refine X.iload C dX8_beat_192 0 rfl ?_
  refine X.iload C dX8_beat_194 1 rfl ?_
  refine X.if_le (tgt := 211) C h dX8_beat_196 (by decide) (fun h => ?_) (fun h => ?_)
  · refine X.iconst C dX8_beat_211 ?_
    refine X.sub [2, 3, 1, 0] rfl ?_
    exact xX8_beat_212 C q M_12 lx2 lt0 rr_13 0 rr_13 v h
  refine X.iload_n C dX8_beat_199 rfl 4 rfl ?_
  refine X.iconst C dX8_beat_200 ?_
  refine X.iload C dX8_beat_201 1 rfl ?_
  refine X.callSi (As := [vi lt0]) (rest := [vi 2, vi lx3, vi rr_13, .ref (q 1)]) (g := fun rr_23 => rr_23) (W1 := fun rr_23 => W_0) (ws2 := fun rr_23 => (W_M G q M_12)) C h dX8_beat_203 ml_X8_220 mX8_paceOf (fun v hv => kX8_paceOf lt0 v hv) (fun rr_23 => ln_M_0__n (G := G) (q := q) (M := M_12)) rfl rfl rfl rfl rfl rfl (fun rr_23 h => ?_)
  refine X.imul C dX8_beat_206 ?_
  refine X.iadd C dX8_beat_207 ?_
  refine X.goto (tgt := 212) C dX8_beat_208 (by decide) ?_
  refine X.sub [2, 3, 1, 0] rfl ?_
  exact xX8_beat_212 C q M_12 lx2 lt0 rr_13 (lx3 + (2 * rr_23)) rr_13 v h
set_option maxHeartbeats 4000000 in
set_option maxRecDepth 100000 in
theorem xX8_beat_93 {κ : Kx} {G : GT} (C : Cx κ G yX8_beat cX8_beat (some .int) 9 rX8_beat) (q : Nat → Nat) (M : Ob) (lx2 : Int) (lx3 : Int) (lt0 : Int) (v : (Int × Ob)) (h : jX8_beat_93 M lx2 lx3 lt0 = some v) : X κ G 9 (W_M G q M) 93 [(0, .ref (q 31)), (2, vi lx2), (3, vi lx3)] [vi lt0] 0 0 (QM κ G (W_M G q v.2) (some (vi v.1)) rX8_beat.cells rX8_beat.slots) := by
  unfold jX8_beat_93 at h
  refine X.istore (lv2 := [(4, vi lt0), (0, .ref (q 31)), (2, vi lx2), (3, vi lx3)]) C dX8_beat_93 (by decide) rfl ?_
  refine X.aload_n C dX8_beat_95 rfl 1 rfl ?_
  refine X.iload C dX8_beat_96 0 rfl ?_
  refine X.bipush C dX8_beat_98 (by decide) ?_
  refine X.irem C (by decide) dX8_beat_100 ?_
  refine X.callVi (q0 := 0) (As := [vi (jrm lt0 10)]) (rest := []) (g := fun rr_7 => rr_7) (W1 := fun rr_7 => (W_M G q M)) (ws2 := fun rr_7 => (W_M G q M)) C h dX8_beat_101 ml_X8_275 mX8_letsBy (fun v hv => kX8_letsBy q M (jrm lt0 10) v hv) (fun rr_7 => ln_M_M_m_n (G := G) (q := q) (M := M)) rfl rfl rfl rfl rfl rfl rfl rfl (fun rr_7 h => ?_)
  refine X.aload_n C dX8_beat_104 rfl 1 rfl ?_
  refine X.get C dX8_beat_105 lay_X8 0 rfl rfl 1 (by decide) fl_X8_13 rfl rfl ?_
  refine X.bipush C dX8_beat_108 (by decide) ?_
  refine X.iald C h dX8_beat_110 1 rfl (fun h => ?_)
  refine X.aload_n C dX8_beat_111 rfl 1 rfl ?_
  refine X.get C dX8_beat_112 lay_X8 0 rfl rfl 1 (by decide) fl_X8_13 rfl rfl ?_
  refine X.bipush C dX8_beat_115 (by decide) ?_
  refine X.iald C h dX8_beat_117 1 rfl (fun h => ?_)
  refine X.iadd C dX8_beat_118 ?_
  refine X.mmin C dX8_beat_119 ml_X8_110 sm_J9_min_7cf53 in_java_lang_Math cd_J9_min_7cf53 (Nat.le_of_ble_eq_true rfl) (Nat.le_of_ble_eq_true rfl) (Nat.zero_le _) (Nat.zero_le _) ?_
  refine X.istoreN (lv2 := fun lx6_8 => [(6, vi lx6_8), (4, vi lt0), (0, .ref (q 31)), (2, vi lx2), (3, vi lx3)]) C h dX8_beat_122 (by decide) (fun _ => rfl) (fun lx6_8 h => ?_)
  refine X.aload_n C dX8_beat_124 rfl 2 rfl ?_
  refine X.get C dX8_beat_125 lay_X8 0 rfl rfl 1 (by decide) fl_X8_13 rfl rfl ?_
  refine X.bipush C dX8_beat_128 (by decide) ?_
  refine X.iald C h dX8_beat_130 1 rfl (fun h => ?_)
  refine X.iconst C dX8_beat_131 ?_
  refine X.icmp_ne (tgt := 139) C h dX8_beat_132 (by decide) (fun h => ?_) (fun h => ?_)
  · refine X.iload C dX8_beat_139 0 rfl ?_
    refine X.sub [2, 3, 4, 1] rfl ?_
    exact xX8_beat_141 C q M lx2 lx3 lt0 lx6_8 v h
  refine X.iconst C dX8_beat_135 ?_
  refine X.goto (tgt := 141) C dX8_beat_136 (by decide) ?_
  refine X.sub [2, 3, 4, 1] rfl ?_
  exact xX8_beat_141 C q M lx2 lx3 lt0 0 v h
set_option maxHeartbeats 4000000 in
set_option maxRecDepth 100000 in
theorem xX8_beat_71 {κ : Kx} {G : GT} (C : Cx κ G yX8_beat cX8_beat (some .int) 9 rX8_beat) (q : Nat → Nat) (M : Ob) (lx2 : Int) (lx3 : Int) (lx4 : Int) (lt0 : Int) (v : (Int × Ob)) (h : jX8_beat_71 M lx2 lx3 lx4 lt0 = some v) : X κ G 9 (W_M G q M) 71 [(0, .ref (q 31)), (2, vi lx2), (3, vi lx3), (4, vi lx4)] [vi lt0] 0 0 (QM κ G (W_M G q v.2) (some (vi v.1)) rX8_beat.cells rX8_beat.slots) := by
  unfold jX8_beat_71 at h
  refine X.istore (lv2 := [(5, vi lt0), (0, .ref (q 31)), (2, vi lx2), (3, vi lx3), (4, vi lx4)]) C dX8_beat_71 (by decide) rfl ?_
  refine X.iload C dX8_beat_73 0 rfl ?_
  refine X.bipush C dX8_beat_75 (by decide) ?_
  refine X.irem C (by decide) dX8_beat_77 ?_
  refine X.iload C dX8_beat_78 4 rfl ?_
  refine X.bipush C dX8_beat_80 (by decide) ?_
  refine X.irem C (by decide) dX8_beat_82 ?_
  refine X.icmp_le (tgt := 91) C h dX8_beat_83 (by decide) (fun h => ?_) (fun h => ?_)
  · refine X.iload C dX8_beat_91 4 rfl ?_
    refine X.sub [1, 2, 3] rfl ?_
    exact xX8_beat_93 C q M lx2 lx3 lx4 v h
  refine X.iload C dX8_beat_86 0 rfl ?_
  refine X.goto (tgt := 93) C dX8_beat_88 (by decide) ?_
  refine X.sub [1, 2, 3] rfl ?_
  exact xX8_beat_93 C q M lx2 lx3 lt0 v h
set_option maxHeartbeats 4000000 in
set_option maxRecDepth 100000 in
theorem kX8_beat {l : Launch} {G : GT} (q : Nat → Nat) (M : Ob) (lx1 : Int) (v : (Int × Ob)) (h : fX8_beat M lx1 = some v) : CT l G yX8_beat cX8_beat 9 (some .int) rX8_beat [.ref (q 31), vi lx1] (W_M G q M) (W_M G q v.2) (some (vi v.1)) := by
  unfold fX8_beat at h
  refine CT.of (by decide) (Nat.le_of_ble_eq_true rfl) rfl (fun κ _ C => ?_)
  refine X.aload_n C dX8_beat_0 rfl 0 rfl ?_
  refine X.iload_n C dX8_beat_1 rfl 1 rfl ?_
  refine X.callVi (q0 := 0) (As := [vi lx1]) (rest := []) (g := fun rr_1 => rr_1.1) (W1 := fun rr_1 => (W_M G q rr_1.2)) (ws2 := fun rr_1 => (W_M G q rr_1.2)) C h dX8_beat_2 ml_X8_269 mX8_drifts (fun v hv => kX8_drifts q M lx1 v hv) (fun rr_1 => ln_M_M_m_M (G := G) (q := q) (M := M) (NM := rr_1.2)) rfl rfl rfl rfl rfl rfl rfl rfl (fun rr_1 h => ?_)
  refine X.istoreN_n (lv2 := fun lx2_2 => [(2, vi lx2_2), (0, .ref (q 31)), (1, vi lx1)]) C h dX8_beat_5 rfl (by decide) (fun _ => rfl) (fun lx2_2 h => ?_)
  refine X.aload_n C dX8_beat_6 rfl 1 rfl ?_
  refine X.get C dX8_beat_7 lay_X8 0 rfl rfl 1 (by decide) fl_X8_13 rfl rfl ?_
  refine X.bipush C dX8_beat_10 (by decide) ?_
  refine X.iald C h dX8_beat_12 1 rfl (fun h => ?_)
  refine X.iconst C dX8_beat_13 ?_
  refine X.iadd C dX8_beat_14 ?_
  refine X.istoreN_n (lv2 := fun lx3_3 => [(3, vi lx3_3), (2, vi lx2_2), (0, .ref (q 31)), (1, vi lx1)]) C h dX8_beat_15 rfl (by decide) (fun _ => rfl) (fun lx3_3 h => ?_)
  refine X.aload_n C dX8_beat_16 rfl 2 rfl ?_
  refine X.get C dX8_beat_17 lay_X8 0 rfl rfl 1 (by decide) fl_X8_13 rfl rfl ?_
  refine X.bipush C dX8_beat_20 (by decide) ?_
  refine X.iload_n C dX8_beat_22 rfl 0 rfl ?_
  refine X.bipush C dX8_beat_23 (by decide) ?_
  refine X.irem C (by decide) dX8_beat_25 ?_
  refine X.iadd C dX8_beat_26 ?_
  refine X.iload_n C dX8_beat_27 rfl 3 rfl ?_
  refine X.iast (ws2 := (W_M G q (up2 rr_1.2 1 (ix (71 + (jrm lx3_3 32))) lx1))) C h dX8_beat_28 1 rfl rfl (fun h => ?_)
  refine X.nameS (ws := fun M_4 => (W_M G q M_4)) h (fun M_4 h => ?_)
  refine X.aload_n C dX8_beat_29 rfl 2 rfl ?_
  refine X.iload_n C dX8_beat_30 rfl 0 rfl ?_
  refine X.aload_n C dX8_beat_31 rfl 2 rfl ?_
  refine X.get C dX8_beat_32 lay_X8 0 rfl rfl 1 (by decide) fl_X8_13 rfl rfl ?_
  refine X.bipush C dX8_beat_35 (by decide) ?_
  refine X.iald C h dX8_beat_37 1 rfl (fun h => ?_)
  refine X.callVi (q0 := 0) (As := [vi lx3_3, vi (M_4 1 (ix 8))]) (rest := []) (g := fun rr_5 => rr_5) (W1 := fun rr_5 => (W_M G q M_4)) (ws2 := fun rr_5 => (W_M G q M_4)) C h dX8_beat_38 ml_X8_272 mX8_seenBy (fun v hv => kX8_seenBy q M_4 lx3_3 (M_4 1 (ix 8)) v hv) (fun rr_5 => ln_M_M_m_n (G := G) (q := q) (M := M_4)) rfl rfl rfl rfl rfl rfl rfl rfl (fun rr_5 h => ?_)
  refine X.istore (lv2 := [(4, vi rr_5), (3, vi lx3_3), (2, vi lx2_2), (0, .ref (q 31)), (1, vi lx1)]) C dX8_beat_41 (by decide) rfl ?_
  refine X.aload_n C dX8_beat_43 rfl 3 rfl ?_
  refine X.get C dX8_beat_44 lay_X8 0 rfl rfl 1 (by decide) fl_X8_13 rfl rfl ?_
  refine X.bipush C dX8_beat_47 (by decide) ?_
  refine X.iald C h dX8_beat_49 1 rfl (fun h => ?_)
  refine X.iconst C dX8_beat_50 ?_
  refine X.icmp_ne (tgt := 59) C h dX8_beat_51 (by decide) (fun h => ?_) (fun h => ?_)
  · refine X.aload_n C dX8_beat_59 rfl 3 rfl ?_
    refine X.iload_n C dX8_beat_60 rfl 1 rfl ?_
    refine X.aload_n C dX8_beat_61 rfl 3 rfl ?_
    refine X.get C dX8_beat_62 lay_X8 0 rfl rfl 1 (by decide) fl_X8_13 rfl rfl ?_
    refine X.bipush C dX8_beat_65 (by decide) ?_
    refine X.iald C h dX8_beat_67 1 rfl (fun h => ?_)
    refine X.callVi (q0 := 0) (As := [vi lx3_3, vi (M_4 1 (ix 22))]) (rest := []) (g := fun rr_6 => rr_6) (W1 := fun rr_6 => (W_M G q M_4)) (ws2 := fun rr_6 => (W_M G q M_4)) C h dX8_beat_68 ml_X8_272 mX8_seenBy (fun v hv => kX8_seenBy q M_4 lx3_3 (M_4 1 (ix 22)) v hv) (fun rr_6 => ln_M_M_m_n (G := G) (q := q) (M := M_4)) rfl rfl rfl rfl rfl rfl rfl rfl (fun rr_6 h => ?_)
    refine X.sub [3, 2, 1, 0] rfl ?_
    exact xX8_beat_71 C q M_4 lx2_2 lx3_3 rr_5 rr_6 v h
  refine X.iload C dX8_beat_54 0 rfl ?_
  refine X.goto (tgt := 71) C dX8_beat_56 (by decide) ?_
  refine X.sub [3, 2, 1, 0] rfl ?_
  exact xX8_beat_71 C q M_4 lx2_2 lx3_3 rr_5 rr_5 v h
def rX8_blow : Room := { frames := 5, cells := 0, slots := 0, locals := 130 }
theorem mX8_blow : MV yX8_blow cX8_blow 2 (some .int) 1 := ⟨cd_X8_blow, in_X8, ⟨⟨by decide, by decide⟩, by decide +kernel⟩, im_X8_blow, se_X8_blow⟩
set_option maxHeartbeats 4000000 in
set_option maxRecDepth 100000 in
theorem kX8_blow {l : Launch} {G : GT} (q : Nat → Nat) (M : Ob) (lx1 : Int) (v : (Int × Ob)) (h : fX8_blow M lx1 = some v) : CT l G yX8_blow cX8_blow 2 (some .int) rX8_blow [.ref (q 31), vi lx1] (W_M G q M) (W_M G q v.2) (some (vi v.1)) := by
  unfold fX8_blow at h
  refine CT.of (by decide) (Nat.le_of_ble_eq_true rfl) rfl (fun κ _ C => ?_)
  refine X.aload_n C dX8_blow_0 rfl 0 rfl ?_
  refine X.callVi (q0 := 0) (As := []) (rest := []) (g := fun rr_1 => rr_1) (W1 := fun rr_1 => (W_M G q M)) (ws2 := fun rr_1 => (W_M G q M)) C h dX8_blow_1 ml_X8_278 mX8_isSquare (fun v hv => kX8_isSquare q M v hv) (fun rr_1 => ln_M_M_m_n (G := G) (q := q) (M := M)) rfl rfl rfl rfl rfl rfl rfl rfl (fun rr_1 h => ?_)
  refine X.if_eq (tgt := 23) C h dX8_blow_4 (by decide) (fun h => ?_) (fun h => ?_)
  · refine X.bipush C dX8_blow_23 (by decide) ?_
    cases h
    exact X.iret C dX8_blow_25 (Nat.zero_le _) (Nat.zero_le _)
  refine X.iload_n C dX8_blow_7 rfl 1 rfl ?_
  refine X.i2l C dX8_blow_8 ?_
  refine X.callSi (As := [vl (jwl lx1)]) (rest := []) (g := fun rr_2 => rr_2) (W1 := fun rr_2 => W_0) (ws2 := fun rr_2 => (W_M G q M)) C h dX8_blow_9 ml_X8_281 mX8_isWind (fun v hv => kX8_isWind (jwl lx1) v hv) (fun rr_2 => ln_M_0__n (G := G) (q := q) (M := M)) rfl rfl rfl rfl rfl rfl (fun rr_2 h => ?_)
  refine X.if_eq (tgt := 23) C h dX8_blow_12 (by decide) (fun h => ?_) (fun h => ?_)
  · refine X.bipush C dX8_blow_23 (by decide) ?_
    cases h
    exact X.iret C dX8_blow_25 (Nat.zero_le _) (Nat.zero_le _)
  refine X.aload_n C dX8_blow_15 rfl 0 rfl ?_
  refine X.iload_n C dX8_blow_16 rfl 1 rfl ?_
  refine X.callVi (q0 := 0) (As := [vi lx1]) (rest := []) (g := fun rr_3 => rr_3.1) (W1 := fun rr_3 => (W_M G q rr_3.2)) (ws2 := fun rr_3 => (W_M G q rr_3.2)) C h dX8_blow_17 ml_X8_285 mX8_beat (fun v hv => kX8_beat q M lx1 v hv) (fun rr_3 => ln_M_M_m_M (G := G) (q := q) (M := M) (NM := rr_3.2)) rfl rfl rfl rfl rfl rfl rfl rfl (fun rr_3 h => ?_)
  refine X.goto (tgt := 25) C dX8_blow_20 (by decide) ?_
  cases h
  exact X.iret C dX8_blow_25 (Nat.zero_le _) (Nat.zero_le _)
def rX8_blows : Room := { frames := 5, cells := 0, slots := 0, locals := 130 }
theorem mX8_blows : MV yX8_blows cX8_blows 5 (some .int) 2 := ⟨cd_X8_blows, in_X8, ⟨⟨by decide, by decide⟩, by decide +kernel⟩, im_X8_blows, se_X8_blows⟩
set_option maxHeartbeats 4000000 in
set_option maxRecDepth 100000 in
theorem xX8_blows_35 {κ : Kx} {G : GT} (C : Cx κ G yX8_blows cX8_blows (some .int) 5 rX8_blows) (q : Nat → Nat) (lx1 : Int) (lx2 : Int) (v : (Int × Ob)) : ∀ (n : Nat) (lx3 : Int) (lx4 : Int) (M : Ob), lX8_blows_35 lx1 lx2 n lx3 lx4 M = some v → X κ G 5 (W_M G q M) 35 [(0, .ref (q 31)), (1, vi lx1), (2, vi lx2), (3, vi lx3), (4, vi lx4)] [] 0 0 (QM κ G (W_M G q v.2) (some (vi v.1)) rX8_blows.cells rX8_blows.slots) := by
  intro n
  induction n with
  | zero => intro _ _ _ h; exact absurd h (fun h => nomatch h)
  | succ n ih =>
    intro lx3 lx4 M h
    rw [lX8_blows_35] at h
    refine X.iload C dX8_blows_35 4 rfl ?_
    refine X.iload_n C dX8_blows_37 rfl 2 rfl ?_
    refine X.icmp_ge (tgt := 55) C h dX8_blows_38 (by decide) (fun h => ?_) (fun h => ?_)
    · refine X.iload_n C dX8_blows_55 rfl 3 rfl ?_
      cases h
      exact X.iret C dX8_blows_56 (Nat.zero_le _) (Nat.zero_le _)
    refine X.iload_n C dX8_blows_41 rfl 3 rfl ?_
    refine X.aload_n C dX8_blows_42 rfl 0 rfl ?_
    refine X.iload_n C dX8_blows_43 rfl 1 rfl ?_
    refine X.callVi (q0 := 0) (As := [vi lx1]) (rest := [vi lx3]) (g := fun rr_4 => rr_4.1) (W1 := fun rr_4 => (W_M G q rr_4.2)) (ws2 := fun rr_4 => (W_M G q rr_4.2)) C h dX8_blows_44 ml_X8_285 mX8_beat (fun v hv => kX8_beat q M lx1 v hv) (fun rr_4 => ln_M_M_m_M (G := G) (q := q) (M := M) (NM := rr_4.2)) rfl rfl rfl rfl rfl rfl rfl rfl (fun rr_4 h => ?_)
    refine X.iadd C dX8_blows_47 ?_
    refine X.istoreN_n (lv2 := fun lx3_5 => [(3, vi lx3_5), (0, .ref (q 31)), (1, vi lx1), (2, vi lx2), (4, vi lx4)]) C h dX8_blows_48 rfl (by decide) (fun _ => rfl) (fun lx3_5 h => ?_)
    refine X.iincN (lv2 := fun lx4_6 => [(4, vi lx4_6), (3, vi lx3_5), (0, .ref (q 31)), (1, vi lx1), (2, vi lx2)]) C h dX8_blows_49 4 rfl (by decide) (fun _ => rfl) (fun lx4_6 h => ?_)
    refine X.goto (tgt := 35) C dX8_blows_52 (by decide) ?_
    refine X.sub [2, 3, 4, 1, 0] rfl ?_
    exact ih lx3_5 lx4_6 rr_4.2 h
set_option maxHeartbeats 4000000 in
set_option maxRecDepth 100000 in
theorem kX8_blows {l : Launch} {G : GT} (q : Nat → Nat) (M : Ob) (lx1 : Int) (lx2 : Int) (v : (Int × Ob)) (h : fX8_blows M lx1 lx2 = some v) : CT l G yX8_blows cX8_blows 5 (some .int) rX8_blows [.ref (q 31), vi lx1, vi lx2] (W_M G q M) (W_M G q v.2) (some (vi v.1)) := by
  unfold fX8_blows at h
  refine CT.of (by decide) (Nat.le_of_ble_eq_true rfl) rfl (fun κ _ C => ?_)
  refine X.aload_n C dX8_blows_0 rfl 0 rfl ?_
  refine X.callVi (q0 := 0) (As := []) (rest := []) (g := fun rr_1 => rr_1) (W1 := fun rr_1 => (W_M G q M)) (ws2 := fun rr_1 => (W_M G q M)) C h dX8_blows_1 ml_X8_278 mX8_isSquare (fun v hv => kX8_isSquare q M v hv) (fun rr_1 => ln_M_M_m_n (G := G) (q := q) (M := M)) rfl rfl rfl rfl rfl rfl rfl rfl (fun rr_1 h => ?_)
  refine X.if_eq (tgt := 27) C h dX8_blows_4 (by decide) (fun h => ?_) (fun h => ?_)
  · refine X.bipush C dX8_blows_27 (by decide) ?_
    cases h
    exact X.iret C dX8_blows_29 (Nat.zero_le _) (Nat.zero_le _)
  refine X.iload_n C dX8_blows_7 rfl 1 rfl ?_
  refine X.i2l C dX8_blows_8 ?_
  refine X.callSi (As := [vl (jwl lx1)]) (rest := []) (g := fun rr_2 => rr_2) (W1 := fun rr_2 => W_0) (ws2 := fun rr_2 => (W_M G q M)) C h dX8_blows_9 ml_X8_281 mX8_isWind (fun v hv => kX8_isWind (jwl lx1) v hv) (fun rr_2 => ln_M_0__n (G := G) (q := q) (M := M)) rfl rfl rfl rfl rfl rfl (fun rr_2 h => ?_)
  refine X.if_eq (tgt := 27) C h dX8_blows_12 (by decide) (fun h => ?_) (fun h => ?_)
  · refine X.bipush C dX8_blows_27 (by decide) ?_
    cases h
    exact X.iret C dX8_blows_29 (Nat.zero_le _) (Nat.zero_le _)
  refine X.iload_n C dX8_blows_15 rfl 2 rfl ?_
  refine X.i2l C dX8_blows_16 ?_
  refine X.lconst (z := 0) C dX8_blows_17 (by decide) ?_
  refine X.ldc2 (z := 400) C cl_X8_288 (by decide) dX8_blows_18 ?_
  refine X.callSi (As := [vl (jwl lx2), vl 0, vl 400]) (rest := []) (g := fun rr_3 => rr_3) (W1 := fun rr_3 => W_0) (ws2 := fun rr_3 => (W_M G q M)) C h dX8_blows_21 ml_X8_68 mX8_in (fun v hv => kX8_in (jwl lx2) 0 400 v hv) (fun rr_3 => ln_M_0__n (G := G) (q := q) (M := M)) rfl rfl rfl rfl rfl rfl (fun rr_3 h => ?_)
  refine X.if_ne (tgt := 30) C h dX8_blows_24 (by decide) (fun h => ?_) (fun h => ?_)
  · refine X.iconst C dX8_blows_30 ?_
    refine X.istore_n (lv2 := [(3, vi 0), (0, .ref (q 31)), (1, vi lx1), (2, vi lx2)]) C dX8_blows_31 rfl (by decide) rfl ?_
    refine X.iconst C dX8_blows_32 ?_
    refine X.istore (lv2 := [(4, vi 0), (3, vi 0), (0, .ref (q 31)), (1, vi lx1), (2, vi lx2)]) C dX8_blows_33 (by decide) rfl ?_
    refine X.sub [2, 3, 4, 1, 0] rfl ?_
    refine xX8_blows_35 C q lx1 lx2 v FU 0 0 M h
  refine X.bipush C dX8_blows_27 (by decide) ?_
  cases h
  exact X.iret C dX8_blows_29 (Nat.zero_le _) (Nat.zero_le _)
def rX8_isSlot : Room := { frames := 1, cells := 0, slots := 0, locals := 25 }
theorem mX8_isSlot : MS yX8_isSlot cX8_isSlot 1 (some .boolean) 1 := ⟨cd_X8_isSlot, in_X8, ⟨⟨by decide, by decide⟩, by decide +kernel⟩, sm_X8_isSlot⟩
set_option maxHeartbeats 4000000 in
set_option maxRecDepth 100000 in
theorem kX8_isSlot {l : Launch} {G : GT} (lx0 : Int) (v : (Int)) (h : fX8_isSlot lx0 = some v) : CT l G yX8_isSlot cX8_isSlot 1 (some .boolean) rX8_isSlot [vi lx0] W_0 W_0 (some (vi v)) := by
  unfold fX8_isSlot at h
  refine CT.of (by decide) (Nat.le_of_ble_eq_true rfl) rfl (fun κ _ C => ?_)
  refine X.iload_n C dX8_isSlot_0 rfl 0 rfl ?_
  refine X.i2l C dX8_isSlot_1 ?_
  refine X.lconst (z := 0) C dX8_isSlot_2 (by decide) ?_
  refine X.ldc2 (z := 3) C cl_X8_305 (by decide) dX8_isSlot_3 ?_
  refine X.callSi (As := [vl (jwl lx0), vl 0, vl 3]) (rest := []) (g := fun rr_1 => rr_1) (W1 := fun rr_1 => W_0) (ws2 := fun rr_1 => W_0) C h dX8_isSlot_6 ml_X8_68 mX8_in (fun v hv => kX8_in (jwl lx0) 0 3 v hv) (fun rr_1 => ln_0_0__n) rfl rfl rfl rfl rfl rfl (fun rr_1 h => ?_)
  obtain ⟨hz, h⟩ := gd_out h
  cases h
  exact X.zret C hz dX8_isSlot_9 (Nat.zero_le _) (Nat.zero_le _)
def rX8_asks : Room := { frames := 2, cells := 0, slots := 0, locals := 46 }
theorem mX8_asks : MV yX8_asks cX8_asks 3 (some .int) 1 := ⟨cd_X8_asks, in_X8, ⟨⟨by decide, by decide⟩, by decide +kernel⟩, im_X8_asks, se_X8_asks⟩
set_option maxHeartbeats 4000000 in
set_option maxRecDepth 100000 in
theorem xX8_asks_32 {κ : Kx} {G : GT} (C : Cx κ G yX8_asks cX8_asks (some .int) 3 rX8_asks) (q : Nat → Nat) (M : Ob) (lx1 : Int) (v : (Int)) : ∀ (n : Nat) (lx2 : Int), lX8_asks_32 M lx1 n lx2 = some v → X κ G 3 (W_M G q M) 32 [(0, .ref (q 31)), (1, vi lx1), (2, vi lx2)] [] 0 0 (QM κ G (W_M G q M) (some (vi v)) rX8_asks.cells rX8_asks.slots) := by
  intro n
  induction n with
  | zero => intro _ h; exact absurd h (fun h => nomatch h)
  | succ n ih =>
    intro lx2 h
    rw [lX8_asks_32] at h
    refine X.iload_n C dX8_asks_32 rfl 2 rfl ?_
    refine X.aload_n C dX8_asks_33 rfl 0 rfl ?_
    refine X.get C dX8_asks_34 lay_X8 0 rfl rfl 25 (by decide) fl_X8_49 rfl rfl ?_
    refine X.iload_n C dX8_asks_37 rfl 1 rfl ?_
    refine X.iald C h dX8_asks_38 11 rfl (fun h => ?_)
    refine X.icmp_ge (tgt := 68) C h dX8_asks_39 (by decide) (fun h => ?_) (fun h => ?_)
    · refine X.iconst C dX8_asks_68 ?_
      cases h
      exact X.iret C dX8_asks_69 (Nat.zero_le _) (Nat.zero_le _)
    refine X.aload_n C dX8_asks_42 rfl 0 rfl ?_
    refine X.get C dX8_asks_43 lay_X8 0 rfl rfl 27 (by decide) fl_X8_55 rfl rfl ?_
    refine X.bipush C dX8_asks_46 (by decide) ?_
    refine X.iload_n C dX8_asks_48 rfl 1 rfl ?_
    refine X.imul C dX8_asks_49 ?_
    refine X.iload_n C dX8_asks_50 rfl 2 rfl ?_
    refine X.iadd C dX8_asks_51 ?_
    refine X.lald C h dX8_asks_52 13 rfl (fun h => ?_)
    refine X.callSi (As := [vl (M 27 (ix ((60 * lx1) + lx2)))]) (rest := []) (g := fun rr_3 => rr_3) (W1 := fun rr_3 => W_0) (ws2 := fun rr_3 => (W_M G q M)) C h dX8_asks_53 ml_X8_281 mX8_isWind (fun v hv => kX8_isWind (M 27 (ix ((60 * lx1) + lx2))) v hv) (fun rr_3 => ln_M_0__n (G := G) (q := q) (M := M)) rfl rfl rfl rfl rfl rfl (fun rr_3 h => ?_)
    refine X.if_ne (tgt := 62) C h dX8_asks_56 (by decide) (fun h => ?_) (fun h => ?_)
    · refine X.iincN (lv2 := fun lx2_4 => [(2, vi lx2_4), (0, .ref (q 31)), (1, vi lx1)]) C h dX8_asks_62 2 rfl (by decide) (fun _ => rfl) (fun lx2_4 h => ?_)
      refine X.goto (tgt := 32) C dX8_asks_65 (by decide) ?_
      refine X.sub [1, 2, 0] rfl ?_
      exact ih lx2_4 h
    refine X.bipush C dX8_asks_59 (by decide) ?_
    cases h
    exact X.iret C dX8_asks_61 (Nat.zero_le _) (Nat.zero_le _)
set_option maxHeartbeats 4000000 in
set_option maxRecDepth 100000 in
theorem kX8_asks {l : Launch} {G : GT} (q : Nat → Nat) (M : Ob) (lx1 : Int) (v : (Int)) (h : fX8_asks M lx1 = some v) : CT l G yX8_asks cX8_asks 3 (some .int) rX8_asks [.ref (q 31), vi lx1] (W_M G q M) (W_M G q M) (some (vi v)) := by
  unfold fX8_asks at h
  refine CT.of (by decide) (Nat.le_of_ble_eq_true rfl) rfl (fun κ _ C => ?_)
  refine X.iload_n C dX8_asks_0 rfl 1 rfl ?_
  refine X.callSi (As := [vi lx1]) (rest := []) (g := fun rr_1 => rr_1) (W1 := fun rr_1 => W_0) (ws2 := fun rr_1 => (W_M G q M)) C h dX8_asks_1 ml_X8_290 mX8_isSlot (fun v hv => kX8_isSlot lx1 v hv) (fun rr_1 => ln_M_0__n (G := G) (q := q) (M := M)) rfl rfl rfl rfl rfl rfl (fun rr_1 h => ?_)
  refine X.if_eq (tgt := 14) C h dX8_asks_4 (by decide) (fun h => ?_) (fun h => ?_)
  · refine X.bipush C dX8_asks_14 (by decide) ?_
    cases h
    exact X.iret C dX8_asks_16 (Nat.zero_le _) (Nat.zero_le _)
  refine X.aload_n C dX8_asks_7 rfl 0 rfl ?_
  refine X.callVi (q0 := 0) (As := []) (rest := []) (g := fun rr_2 => rr_2) (W1 := fun rr_2 => (W_M G q M)) (ws2 := fun rr_2 => (W_M G q M)) C h dX8_asks_8 ml_X8_278 mX8_isSquare (fun v hv => kX8_isSquare q M v hv) (fun rr_2 => ln_M_M_m_n (G := G) (q := q) (M := M)) rfl rfl rfl rfl rfl rfl rfl rfl (fun rr_2 h => ?_)
  refine X.if_ne (tgt := 17) C h dX8_asks_11 (by decide) (fun h => ?_) (fun h => ?_)
  · refine X.aload_n C dX8_asks_17 rfl 0 rfl ?_
    refine X.get C dX8_asks_18 lay_X8 0 rfl rfl 25 (by decide) fl_X8_49 rfl rfl ?_
    refine X.iload_n C dX8_asks_21 rfl 1 rfl ?_
    refine X.iald C h dX8_asks_22 11 rfl (fun h => ?_)
    refine X.iconst C dX8_asks_23 ?_
    refine X.icmp_ne (tgt := 30) C h dX8_asks_24 (by decide) (fun h => ?_) (fun h => ?_)
    · refine X.iconst C dX8_asks_30 ?_
      refine X.istore_n (lv2 := [(2, vi 0), (0, .ref (q 31)), (1, vi lx1)]) C dX8_asks_31 rfl (by decide) rfl ?_
      refine X.sub [1, 2, 0] rfl ?_
      refine xX8_asks_32 C q M lx1 v FU 0 h
    refine X.bipush C dX8_asks_27 (by decide) ?_
    cases h
    exact X.iret C dX8_asks_29 (Nat.zero_le _) (Nat.zero_le _)
  refine X.bipush C dX8_asks_14 (by decide) ?_
  cases h
  exact X.iret C dX8_asks_16 (Nat.zero_le _) (Nat.zero_le _)
def rX8_windOf : Room := { frames := 0, cells := 0, slots := 0, locals := 0 }
theorem mX8_windOf : MV yX8_windOf cX8_windOf 3 (some .int) 2 := ⟨cd_X8_windOf, in_X8, ⟨⟨by decide, by decide⟩, by decide +kernel⟩, im_X8_windOf, se_X8_windOf⟩
set_option maxHeartbeats 4000000 in
set_option maxRecDepth 100000 in
theorem kX8_windOf {l : Launch} {G : GT} (q : Nat → Nat) (M : Ob) (lx1 : Int) (lx2 : Int) (v : (Int)) (h : fX8_windOf M lx1 lx2 = some v) : CT l G yX8_windOf cX8_windOf 3 (some .int) rX8_windOf [.ref (q 31), vi lx1, vi lx2] (W_M G q M) (W_M G q M) (some (vi v)) := by
  unfold fX8_windOf at h
  refine CT.of (by decide) (Nat.le_of_ble_eq_true rfl) rfl (fun κ _ C => ?_)
  refine X.aload_n C dX8_windOf_0 rfl 0 rfl ?_
  refine X.get C dX8_windOf_1 lay_X8 0 rfl rfl 27 (by decide) fl_X8_55 rfl rfl ?_
  refine X.bipush C dX8_windOf_4 (by decide) ?_
  refine X.iload_n C dX8_windOf_6 rfl 1 rfl ?_
  refine X.imul C dX8_windOf_7 ?_
  refine X.iload_n C dX8_windOf_8 rfl 2 rfl ?_
  refine X.iadd C dX8_windOf_9 ?_
  refine X.lald C h dX8_windOf_10 13 rfl (fun h => ?_)
  refine X.l2i C dX8_windOf_11 ?_
  cases h
  exact X.iret C dX8_windOf_12 (Nat.zero_le _) (Nat.zero_le _)
def rX8_days : Room := { frames := 5, cells := 0, slots := 0, locals := 130 }
theorem mX8_days : MV yX8_days cX8_days 4 (some .int) 1 := ⟨cd_X8_days, in_X8, ⟨⟨by decide, by decide⟩, by decide +kernel⟩, im_X8_days, se_X8_days⟩
set_option maxHeartbeats 4000000 in
set_option maxRecDepth 100000 in
theorem xX8_days_4 {κ : Kx} {G : GT} (C : Cx κ G yX8_days cX8_days (some .int) 4 rX8_days) (q : Nat → Nat) (lx1 : Int) (v : (Int × Ob)) : ∀ (n : Nat) (lx2 : Int) (lx3 : Int) (M : Ob), lX8_days_4 lx1 n lx2 lx3 M = some v → X κ G 4 (W_M G q M) 4 [(0, .ref (q 31)), (1, vi lx1), (2, vi lx2), (3, vi lx3)] [] 0 0 (QM κ G (W_M G q v.2) (some (vi v.1)) rX8_days.cells rX8_days.slots) := by
  intro n
  induction n with
  | zero => intro _ _ _ h; exact absurd h (fun h => nomatch h)
  | succ n ih =>
    intro lx2 lx3 M h
    rw [lX8_days_4] at h
    refine X.iload_n C dX8_days_4 rfl 3 rfl ?_
    refine X.aload_n C dX8_days_5 rfl 0 rfl ?_
    refine X.get C dX8_days_6 lay_X8 0 rfl rfl 25 (by decide) fl_X8_49 rfl rfl ?_
    refine X.iload_n C dX8_days_9 rfl 1 rfl ?_
    refine X.iald C h dX8_days_10 11 rfl (fun h => ?_)
    refine X.icmp_ge (tgt := 33) C h dX8_days_11 (by decide) (fun h => ?_) (fun h => ?_)
    · refine X.iload_n C dX8_days_33 rfl 2 rfl ?_
      cases h
      exact X.iret C dX8_days_34 (Nat.zero_le _) (Nat.zero_le _)
    refine X.iload_n C dX8_days_14 rfl 2 rfl ?_
    refine X.aload_n C dX8_days_15 rfl 0 rfl ?_
    refine X.aload_n C dX8_days_16 rfl 0 rfl ?_
    refine X.iload_n C dX8_days_17 rfl 1 rfl ?_
    refine X.iload_n C dX8_days_18 rfl 3 rfl ?_
    refine X.callVi (q0 := 0) (As := [vi lx1, vi lx3]) (rest := [.ref (q 31), vi lx2]) (g := fun rr_1 => rr_1) (W1 := fun rr_1 => (W_M G q M)) (ws2 := fun rr_1 => (W_M G q M)) C h dX8_days_19 ml_X8_293 mX8_windOf (fun v hv => kX8_windOf q M lx1 lx3 v hv) (fun rr_1 => ln_M_M_m_n (G := G) (q := q) (M := M)) rfl rfl rfl rfl rfl rfl rfl rfl (fun rr_1 h => ?_)
    refine X.callVi (q0 := 0) (As := [vi rr_1]) (rest := [vi lx2]) (g := fun rr_2 => rr_2.1) (W1 := fun rr_2 => (W_M G q rr_2.2)) (ws2 := fun rr_2 => (W_M G q rr_2.2)) C h dX8_days_22 ml_X8_285 mX8_beat (fun v hv => kX8_beat q M rr_1 v hv) (fun rr_2 => ln_M_M_m_M (G := G) (q := q) (M := M) (NM := rr_2.2)) rfl rfl rfl rfl rfl rfl rfl rfl (fun rr_2 h => ?_)
    refine X.iadd C dX8_days_25 ?_
    refine X.istoreN_n (lv2 := fun lx2_3 => [(2, vi lx2_3), (0, .ref (q 31)), (1, vi lx1), (3, vi lx3)]) C h dX8_days_26 rfl (by decide) (fun _ => rfl) (fun lx2_3 h => ?_)
    refine X.iincN (lv2 := fun lx3_4 => [(3, vi lx3_4), (2, vi lx2_3), (0, .ref (q 31)), (1, vi lx1)]) C h dX8_days_27 3 rfl (by decide) (fun _ => rfl) (fun lx3_4 h => ?_)
    refine X.goto (tgt := 4) C dX8_days_30 (by decide) ?_
    refine X.sub [2, 3, 1, 0] rfl ?_
    exact ih lx2_3 lx3_4 rr_2.2 h
set_option maxHeartbeats 4000000 in
set_option maxRecDepth 100000 in
theorem kX8_days {l : Launch} {G : GT} (q : Nat → Nat) (M : Ob) (lx1 : Int) (v : (Int × Ob)) (h : fX8_days M lx1 = some v) : CT l G yX8_days cX8_days 4 (some .int) rX8_days [.ref (q 31), vi lx1] (W_M G q M) (W_M G q v.2) (some (vi v.1)) := by
  unfold fX8_days at h
  refine CT.of (by decide) (Nat.le_of_ble_eq_true rfl) rfl (fun κ _ C => ?_)
  refine X.iconst C dX8_days_0 ?_
  refine X.istore_n (lv2 := [(2, vi 0), (0, .ref (q 31)), (1, vi lx1)]) C dX8_days_1 rfl (by decide) rfl ?_
  refine X.iconst C dX8_days_2 ?_
  refine X.istore_n (lv2 := [(3, vi 0), (2, vi 0), (0, .ref (q 31)), (1, vi lx1)]) C dX8_days_3 rfl (by decide) rfl ?_
  refine X.sub [2, 3, 1, 0] rfl ?_
  refine xX8_days_4 C q lx1 v FU 0 0 M h
def rX8_day : Room := { frames := 6, cells := 0, slots := 0, locals := 153 }
theorem mX8_day : MV yX8_day cX8_day 3 (some .int) 1 := ⟨cd_X8_day, in_X8, ⟨⟨by decide, by decide⟩, by decide +kernel⟩, im_X8_day, se_X8_day⟩
set_option maxHeartbeats 4000000 in
set_option maxRecDepth 100000 in
theorem kX8_day {l : Launch} {G : GT} (q : Nat → Nat) (M : Ob) (lx1 : Int) (v : (Int × Ob)) (h : fX8_day M lx1 = some v) : CT l G yX8_day cX8_day 3 (some .int) rX8_day [.ref (q 31), vi lx1] (W_M G q M) (W_M G q v.2) (some (vi v.1)) := by
  unfold fX8_day at h
  refine CT.of (by decide) (Nat.le_of_ble_eq_true rfl) rfl (fun κ _ C => ?_)
  refine X.aload_n C dX8_day_0 rfl 0 rfl ?_
  refine X.iload_n C dX8_day_1 rfl 1 rfl ?_
  refine X.callVi (q0 := 0) (As := [vi lx1]) (rest := []) (g := fun rr_1 => rr_1) (W1 := fun rr_1 => (W_M G q M)) (ws2 := fun rr_1 => (W_M G q M)) C h dX8_day_2 ml_X8_296 mX8_asks (fun v hv => kX8_asks q M lx1 v hv) (fun rr_1 => ln_M_M_m_n (G := G) (q := q) (M := M)) rfl rfl rfl rfl rfl rfl rfl rfl (fun rr_1 h => ?_)
  refine X.istore_n (lv2 := [(2, vi rr_1), (0, .ref (q 31)), (1, vi lx1)]) C dX8_day_5 rfl (by decide) rfl ?_
  refine X.iload_n C dX8_day_6 rfl 0 rfl ?_
  refine X.if_ge (tgt := 14) C h dX8_day_7 (by decide) (fun h => ?_) (fun h => ?_)
  · refine X.aload_n C dX8_day_14 rfl 1 rfl ?_
    refine X.iload_n C dX8_day_15 rfl 2 rfl ?_
    refine X.callVi (q0 := 0) (As := [vi lx1]) (rest := []) (g := fun rr_2 => rr_2.1) (W1 := fun rr_2 => (W_M G q rr_2.2)) (ws2 := fun rr_2 => (W_M G q rr_2.2)) C h dX8_day_16 ml_X8_299 mX8_days (fun v hv => kX8_days q M lx1 v hv) (fun rr_2 => ln_M_M_m_M (G := G) (q := q) (M := M) (NM := rr_2.2)) rfl rfl rfl rfl rfl rfl rfl rfl (fun rr_2 h => ?_)
    cases h
    exact X.iret C dX8_day_19 (Nat.zero_le _) (Nat.zero_le _)
  refine X.iload_n C dX8_day_10 rfl 0 rfl ?_
  refine X.goto (tgt := 19) C dX8_day_11 (by decide) ?_
  cases h
  exact X.iret C dX8_day_19 (Nat.zero_le _) (Nat.zero_le _)
def rX8_wet : Room := { frames := 2, cells := 0, slots := 0, locals := 47 }
theorem mX8_wet : MV yX8_wet cX8_wet 3 (some .int) 2 := ⟨cd_X8_wet, in_X8, ⟨⟨by decide, by decide⟩, by decide +kernel⟩, im_X8_wet, se_X8_wet⟩
set_option maxHeartbeats 4000000 in
set_option maxRecDepth 100000 in
theorem kX8_wet {l : Launch} {G : GT} (q : Nat → Nat) (M : Ob) (lx1 : Int) (lx2 : Int) (v : (Int)) (h : fX8_wet M lx1 lx2 = some v) : CT l G yX8_wet cX8_wet 3 (some .int) rX8_wet [.ref (q 31), vi lx1, vi lx2] (W_M G q M) (W_M G q M) (some (vi v)) := by
  unfold fX8_wet at h
  refine CT.of (by decide) (Nat.le_of_ble_eq_true rfl) rfl (fun κ _ C => ?_)
  refine X.aload_n C dX8_wet_0 rfl 0 rfl ?_
  refine X.iload_n C dX8_wet_1 rfl 1 rfl ?_
  refine X.iload_n C dX8_wet_2 rfl 2 rfl ?_
  refine X.callVi (q0 := 0) (As := [vi lx1, vi lx2]) (rest := []) (g := fun rr_1 => rr_1) (W1 := fun rr_1 => (W_M G q M)) (ws2 := fun rr_1 => (W_M G q M)) C h dX8_wet_3 ml_X8_248 mX8_isCell (fun v hv => kX8_isCell q M lx1 lx2 v hv) (fun rr_1 => ln_M_M_m_n (G := G) (q := q) (M := M)) rfl rfl rfl rfl rfl rfl rfl rfl (fun rr_1 h => ?_)
  refine X.if_eq (tgt := 18) C h dX8_wet_6 (by decide) (fun h => ?_) (fun h => ?_)
  · refine X.bipush C dX8_wet_18 (by decide) ?_
    cases h
    exact X.iret C dX8_wet_20 (Nat.zero_le _) (Nat.zero_le _)
  refine X.aload_n C dX8_wet_9 rfl 0 rfl ?_
  refine X.iload_n C dX8_wet_10 rfl 1 rfl ?_
  refine X.iload_n C dX8_wet_11 rfl 2 rfl ?_
  refine X.callVi (q0 := 0) (As := [vi lx1, vi lx2]) (rest := []) (g := fun rr_2 => rr_2) (W1 := fun rr_2 => (W_M G q M)) (ws2 := fun rr_2 => (W_M G q M)) C h dX8_wet_12 ml_X8_76 mX8_wetOf (fun v hv => kX8_wetOf q M lx1 lx2 v hv) (fun rr_2 => ln_M_M_m_n (G := G) (q := q) (M := M)) rfl rfl rfl rfl rfl rfl rfl rfl (fun rr_2 h => ?_)
  refine X.goto (tgt := 20) C dX8_wet_15 (by decide) ?_
  cases h
  exact X.iret C dX8_wet_20 (Nat.zero_le _) (Nat.zero_le _)
def rX8_table : Room := { frames := 2, cells := 0, slots := 0, locals := 46 }
theorem mX8_table : MV yX8_table cX8_table 3 (some .int) 2 := ⟨cd_X8_table, in_X8, ⟨⟨by decide, by decide⟩, by decide +kernel⟩, im_X8_table, se_X8_table⟩
set_option maxHeartbeats 4000000 in
set_option maxRecDepth 100000 in
theorem kX8_table {l : Launch} {G : GT} (q : Nat → Nat) (M : Ob) (lx1 : Int) (lx2 : Int) (v : (Int)) (h : fX8_table M lx1 lx2 = some v) : CT l G yX8_table cX8_table 3 (some .int) rX8_table [.ref (q 31), vi lx1, vi lx2] (W_M G q M) (W_M G q M) (some (vi v)) := by
  unfold fX8_table at h
  refine CT.of (by decide) (Nat.le_of_ble_eq_true rfl) rfl (fun κ _ C => ?_)
  refine X.aload_n C dX8_table_0 rfl 0 rfl ?_
  refine X.iload_n C dX8_table_1 rfl 1 rfl ?_
  refine X.callVi (q0 := 0) (As := [vi lx1]) (rest := []) (g := fun rr_1 => rr_1) (W1 := fun rr_1 => (W_M G q M)) (ws2 := fun rr_1 => (W_M G q M)) C h dX8_table_2 ml_X8_302 mX8_isTable (fun v hv => kX8_isTable q M lx1 v hv) (fun rr_1 => ln_M_M_m_n (G := G) (q := q) (M := M)) rfl rfl rfl rfl rfl rfl rfl rfl (fun rr_1 h => ?_)
  refine X.if_eq (tgt := 20) C h dX8_table_5 (by decide) (fun h => ?_) (fun h => ?_)
  · refine X.bipush C dX8_table_20 (by decide) ?_
    cases h
    exact X.iret C dX8_table_22 (Nat.zero_le _) (Nat.zero_le _)
  refine X.iload_n C dX8_table_8 rfl 2 rfl ?_
  refine X.i2l C dX8_table_9 ?_
  refine X.lconst (z := 0) C dX8_table_10 (by decide) ?_
  refine X.ldc2 (z := 3) C cl_X8_305 (by decide) dX8_table_11 ?_
  refine X.callSi (As := [vl (jwl lx2), vl 0, vl 3]) (rest := []) (g := fun rr_2 => rr_2) (W1 := fun rr_2 => W_0) (ws2 := fun rr_2 => (W_M G q M)) C h dX8_table_14 ml_X8_68 mX8_in (fun v hv => kX8_in (jwl lx2) 0 3 v hv) (fun rr_2 => ln_M_0__n (G := G) (q := q) (M := M)) rfl rfl rfl rfl rfl rfl (fun rr_2 h => ?_)
  refine X.if_ne (tgt := 23) C h dX8_table_17 (by decide) (fun h => ?_) (fun h => ?_)
  · refine X.iload_n C dX8_table_23 rfl 2 rfl ?_
    refine X.iconst C dX8_table_24 ?_
    refine X.icmp_ge (tgt := 37) C h dX8_table_25 (by decide) (fun h => ?_) (fun h => ?_)
    · refine X.aload_n C dX8_table_37 rfl 0 rfl ?_
      refine X.iload_n C dX8_table_38 rfl 1 rfl ?_
      refine X.callVi (q0 := 0) (As := [vi lx1]) (rest := []) (g := fun rr_3 => rr_3) (W1 := fun rr_3 => (W_M G q M)) (ws2 := fun rr_3 => (W_M G q M)) C h dX8_table_39 ml_X8_307 mX8_wetAt (fun v hv => kX8_wetAt q M lx1 v hv) (fun rr_3 => ln_M_M_m_n (G := G) (q := q) (M := M)) rfl rfl rfl rfl rfl rfl rfl rfl (fun rr_3 h => ?_)
      cases h
      exact X.iret C dX8_table_42 (Nat.zero_le _) (Nat.zero_le _)
    refine X.aload_n C dX8_table_28 rfl 0 rfl ?_
    refine X.iload_n C dX8_table_29 rfl 1 rfl ?_
    refine X.iload_n C dX8_table_30 rfl 2 rfl ?_
    refine X.callVi (q0 := 0) (As := [vi lx1, vi lx2]) (rest := []) (g := fun rr_4 => rr_4) (W1 := fun rr_4 => (W_M G q M)) (ws2 := fun rr_4 => (W_M G q M)) C h dX8_table_31 ml_X8_72 mX8_ofTable (fun v hv => kX8_ofTable q M lx1 lx2 v hv) (fun rr_4 => ln_M_M_m_n (G := G) (q := q) (M := M)) rfl rfl rfl rfl rfl rfl rfl rfl (fun rr_4 h => ?_)
    refine X.goto (tgt := 42) C dX8_table_34 (by decide) ?_
    cases h
    exact X.iret C dX8_table_42 (Nat.zero_le _) (Nat.zero_le _)
  refine X.bipush C dX8_table_20 (by decide) ?_
  cases h
  exact X.iret C dX8_table_22 (Nat.zero_le _) (Nat.zero_le _)
def rX8_overSet : Room := { frames := 2, cells := 0, slots := 0, locals := 43 }
theorem mX8_overSet : MV yX8_overSet cX8_overSet 3 (some .int) 0 := ⟨cd_X8_overSet, in_X8, ⟨⟨by decide, by decide⟩, by decide +kernel⟩, im_X8_overSet, se_X8_overSet⟩
set_option maxHeartbeats 4000000 in
set_option maxRecDepth 100000 in
theorem xX8_overSet_4 {κ : Kx} {G : GT} (C : Cx κ G yX8_overSet cX8_overSet (some .int) 3 rX8_overSet) (q : Nat → Nat) (M : Ob) (v : (Int)) : ∀ (n : Nat) (lx1 : Int) (lx2 : Int), lX8_overSet_4 M n lx1 lx2 = some v → X κ G 3 (W_M G q M) 4 [(0, .ref (q 31)), (1, vi lx1), (2, vi lx2)] [] 0 0 (QM κ G (W_M G q M) (some (vi v)) rX8_overSet.cells rX8_overSet.slots) := by
  intro n
  induction n with
  | zero => intro _ _ h; exact absurd h (fun h => nomatch h)
  | succ n ih =>
    intro lx1 lx2 h
    rw [lX8_overSet_4] at h
    refine X.iload_n C dX8_overSet_4 rfl 2 rfl ?_
    refine X.aload_n C dX8_overSet_5 rfl 0 rfl ?_
    refine X.get C dX8_overSet_6 lay_X8 0 rfl rfl 1 (by decide) fl_X8_13 rfl rfl ?_
    refine X.bipush C dX8_overSet_9 (by decide) ?_
    refine X.iald C h dX8_overSet_11 1 rfl (fun h => ?_)
    refine X.icmp_ge (tgt := 45) C h dX8_overSet_12 (by decide) (fun h => ?_) (fun h => ?_)
    · refine X.iload_n C dX8_overSet_45 rfl 1 rfl ?_
      cases h
      exact X.iret C dX8_overSet_46 (Nat.zero_le _) (Nat.zero_le _)
    refine X.iload_n C dX8_overSet_15 rfl 1 rfl ?_
    refine X.aload_n C dX8_overSet_16 rfl 0 rfl ?_
    refine X.iload_n C dX8_overSet_17 rfl 2 rfl ?_
    refine X.callVi (q0 := 0) (As := [vi lx2]) (rest := [vi lx1]) (g := fun rr_1 => rr_1) (W1 := fun rr_1 => (W_M G q M)) (ws2 := fun rr_1 => (W_M G q M)) C h dX8_overSet_18 ml_X8_307 mX8_wetAt (fun v hv => kX8_wetAt q M lx2 v hv) (fun rr_1 => ln_M_M_m_n (G := G) (q := q) (M := M)) rfl rfl rfl rfl rfl rfl rfl rfl (fun rr_1 h => ?_)
    refine X.aload_n C dX8_overSet_21 rfl 0 rfl ?_
    refine X.iload_n C dX8_overSet_22 rfl 2 rfl ?_
    refine X.iconst C dX8_overSet_23 ?_
    refine X.callVi (q0 := 0) (As := [vi lx2, vi 2]) (rest := [vi rr_1, vi lx1]) (g := fun rr_2 => rr_2) (W1 := fun rr_2 => (W_M G q M)) (ws2 := fun rr_2 => (W_M G q M)) C h dX8_overSet_24 ml_X8_72 mX8_ofTable (fun v hv => kX8_ofTable q M lx2 2 v hv) (fun rr_2 => ln_M_M_m_n (G := G) (q := q) (M := M)) rfl rfl rfl rfl rfl rfl rfl rfl (fun rr_2 h => ?_)
    refine X.icmp_le (tgt := 36) C h dX8_overSet_27 (by decide) (fun h => ?_) (fun h => ?_)
    · refine X.iconst C dX8_overSet_36 ?_
      refine X.ior C dX8_overSet_37 ?_
      refine X.istoreN_n (lv2 := fun lx1_3 => [(1, vi lx1_3), (0, .ref (q 31)), (2, vi lx2)]) C h dX8_overSet_38 rfl (by decide) (fun _ => rfl) (fun lx1_3 h => ?_)
      refine X.iincN (lv2 := fun lx2_4 => [(2, vi lx2_4), (1, vi lx1_3), (0, .ref (q 31))]) C h dX8_overSet_39 2 rfl (by decide) (fun _ => rfl) (fun lx2_4 h => ?_)
      refine X.goto (tgt := 4) C dX8_overSet_42 (by decide) ?_
      refine X.sub [2, 1, 0] rfl ?_
      exact ih lx1_3 lx2_4 h
    refine X.iconst C dX8_overSet_30 ?_
    refine X.iload_n C dX8_overSet_31 rfl 2 rfl ?_
    refine X.ishl C dX8_overSet_32 ?_
    refine X.goto (tgt := 37) C dX8_overSet_33 (by decide) ?_
    refine X.ior C dX8_overSet_37 ?_
    refine X.istoreN_n (lv2 := fun lx1_5 => [(1, vi lx1_5), (0, .ref (q 31)), (2, vi lx2)]) C h dX8_overSet_38 rfl (by decide) (fun _ => rfl) (fun lx1_5 h => ?_)
    refine X.iincN (lv2 := fun lx2_6 => [(2, vi lx2_6), (1, vi lx1_5), (0, .ref (q 31))]) C h dX8_overSet_39 2 rfl (by decide) (fun _ => rfl) (fun lx2_6 h => ?_)
    refine X.goto (tgt := 4) C dX8_overSet_42 (by decide) ?_
    refine X.sub [2, 1, 0] rfl ?_
    exact ih lx1_5 lx2_6 h
set_option maxHeartbeats 4000000 in
set_option maxRecDepth 100000 in
theorem kX8_overSet {l : Launch} {G : GT} (q : Nat → Nat) (M : Ob) (v : (Int)) (h : fX8_overSet M = some v) : CT l G yX8_overSet cX8_overSet 3 (some .int) rX8_overSet [.ref (q 31)] (W_M G q M) (W_M G q M) (some (vi v)) := by
  unfold fX8_overSet at h
  refine CT.of (by decide) (Nat.le_of_ble_eq_true rfl) rfl (fun κ _ C => ?_)
  refine X.iconst C dX8_overSet_0 ?_
  refine X.istore_n (lv2 := [(1, vi 0), (0, .ref (q 31))]) C dX8_overSet_1 rfl (by decide) rfl ?_
  refine X.iconst C dX8_overSet_2 ?_
  refine X.istore_n (lv2 := [(2, vi 0), (1, vi 0), (0, .ref (q 31))]) C dX8_overSet_3 rfl (by decide) rfl ?_
  refine X.sub [2, 1, 0] rfl ?_
  refine xX8_overSet_4 C q M v FU 0 0 h
def rX8_over : Room := { frames := 3, cells := 0, slots := 0, locals := 65 }
theorem mX8_over : MV yX8_over cX8_over 1 (some .int) 0 := ⟨cd_X8_over, in_X8, ⟨⟨by decide, by decide⟩, by decide +kernel⟩, im_X8_over, se_X8_over⟩
set_option maxHeartbeats 4000000 in
set_option maxRecDepth 100000 in
theorem kX8_over {l : Launch} {G : GT} (q : Nat → Nat) (M : Ob) (v : (Int)) (h : fX8_over M = some v) : CT l G yX8_over cX8_over 1 (some .int) rX8_over [.ref (q 31)] (W_M G q M) (W_M G q M) (some (vi v)) := by
  unfold fX8_over at h
  refine CT.of (by decide) (Nat.le_of_ble_eq_true rfl) rfl (fun κ _ C => ?_)
  refine X.aload_n C dX8_over_0 rfl 0 rfl ?_
  refine X.callVi (q0 := 0) (As := []) (rest := []) (g := fun rr_1 => rr_1) (W1 := fun rr_1 => (W_M G q M)) (ws2 := fun rr_1 => (W_M G q M)) C h dX8_over_1 ml_X8_310 mX8_overSet (fun v hv => kX8_overSet q M v hv) (fun rr_1 => ln_M_M_m_n (G := G) (q := q) (M := M)) rfl rfl rfl rfl rfl rfl rfl rfl (fun rr_1 h => ?_)
  cases h
  exact X.iret C dX8_over_4 (Nat.zero_le _) (Nat.zero_le _)
def rX8_lumpsUp : Room := { frames := 2, cells := 0, slots := 0, locals := 50 }
theorem mX8_lumpsUp : MV yX8_lumpsUp cX8_lumpsUp 3 (some .int) 0 := ⟨cd_X8_lumpsUp, in_X8, ⟨⟨by decide, by decide⟩, by decide +kernel⟩, im_X8_lumpsUp, se_X8_lumpsUp⟩
set_option maxHeartbeats 4000000 in
set_option maxRecDepth 100000 in
theorem xX8_lumpsUp_7 {κ : Kx} {G : GT} (C : Cx κ G yX8_lumpsUp cX8_lumpsUp (some .int) 3 rX8_lumpsUp) (q : Nat → Nat) (M : Ob) (v : (Int)) : ∀ (n : Nat) (lx1 : Int) (lx2 : Int), lX8_lumpsUp_7 M n lx1 lx2 = some v → X κ G 3 (W_M G q M) 7 [(0, .ref (q 31)), (1, vi lx1), (2, vi lx2)] [] 0 0 (QM κ G (W_M G q M) (some (vi v)) rX8_lumpsUp.cells rX8_lumpsUp.slots) := by
  intro n
  induction n with
  | zero => intro _ _ h; exact absurd h (fun h => nomatch h)
  | succ n ih =>
    intro lx1 lx2 h
    rw [lX8_lumpsUp_7] at h
    refine X.iload_n C dX8_lumpsUp_7 rfl 2 rfl ?_
    refine X.aload_n C dX8_lumpsUp_8 rfl 0 rfl ?_
    refine X.get C dX8_lumpsUp_9 lay_X8 0 rfl rfl 1 (by decide) fl_X8_13 rfl rfl ?_
    refine X.bipush C dX8_lumpsUp_12 (by decide) ?_
    refine X.iald C h dX8_lumpsUp_14 1 rfl (fun h => ?_)
    refine X.icmp_gt (tgt := 40) C h dX8_lumpsUp_15 (by decide) (fun h => ?_) (fun h => ?_)
    · refine X.iload_n C dX8_lumpsUp_40 rfl 1 rfl ?_
      cases h
      exact X.iret C dX8_lumpsUp_41 (Nat.zero_le _) (Nat.zero_le _)
    refine X.iload_n C dX8_lumpsUp_18 rfl 1 rfl ?_
    refine X.aload_n C dX8_lumpsUp_19 rfl 0 rfl ?_
    refine X.iload_n C dX8_lumpsUp_20 rfl 2 rfl ?_
    refine X.callVi (q0 := 0) (As := [vi lx2]) (rest := [vi lx1]) (g := fun rr_2 => rr_2) (W1 := fun rr_2 => (W_M G q M)) (ws2 := fun rr_2 => (W_M G q M)) C h dX8_lumpsUp_21 ml_X8_254 mX8_isUp (fun v hv => kX8_isUp q M lx2 v hv) (fun rr_2 => ln_M_M_m_n (G := G) (q := q) (M := M)) rfl rfl rfl rfl rfl rfl rfl rfl (fun rr_2 h => ?_)
    refine X.if_eq (tgt := 31) C h dX8_lumpsUp_24 (by decide) (fun h => ?_) (fun h => ?_)
    · refine X.iconst C dX8_lumpsUp_31 ?_
      refine X.iadd C dX8_lumpsUp_32 ?_
      refine X.istoreN_n (lv2 := fun lx1_3 => [(1, vi lx1_3), (0, .ref (q 31)), (2, vi lx2)]) C h dX8_lumpsUp_33 rfl (by decide) (fun _ => rfl) (fun lx1_3 h => ?_)
      refine X.iincN (lv2 := fun lx2_4 => [(2, vi lx2_4), (1, vi lx1_3), (0, .ref (q 31))]) C h dX8_lumpsUp_34 2 rfl (by decide) (fun _ => rfl) (fun lx2_4 h => ?_)
      refine X.goto (tgt := 7) C dX8_lumpsUp_37 (by decide) ?_
      refine X.sub [2, 1, 0] rfl ?_
      exact ih lx1_3 lx2_4 h
    refine X.iconst C dX8_lumpsUp_27 ?_
    refine X.goto (tgt := 32) C dX8_lumpsUp_28 (by decide) ?_
    refine X.iadd C dX8_lumpsUp_32 ?_
    refine X.istoreN_n (lv2 := fun lx1_5 => [(1, vi lx1_5), (0, .ref (q 31)), (2, vi lx2)]) C h dX8_lumpsUp_33 rfl (by decide) (fun _ => rfl) (fun lx1_5 h => ?_)
    refine X.iincN (lv2 := fun lx2_6 => [(2, vi lx2_6), (1, vi lx1_5), (0, .ref (q 31))]) C h dX8_lumpsUp_34 2 rfl (by decide) (fun _ => rfl) (fun lx2_6 h => ?_)
    refine X.goto (tgt := 7) C dX8_lumpsUp_37 (by decide) ?_
    refine X.sub [2, 1, 0] rfl ?_
    exact ih lx1_5 lx2_6 h
set_option maxHeartbeats 4000000 in
set_option maxRecDepth 100000 in
theorem kX8_lumpsUp {l : Launch} {G : GT} (q : Nat → Nat) (M : Ob) (v : (Int)) (h : fX8_lumpsUp M = some v) : CT l G yX8_lumpsUp cX8_lumpsUp 3 (some .int) rX8_lumpsUp [.ref (q 31)] (W_M G q M) (W_M G q M) (some (vi v)) := by
  unfold fX8_lumpsUp at h
  refine CT.of (by decide) (Nat.le_of_ble_eq_true rfl) rfl (fun κ _ C => ?_)
  refine X.iconst C dX8_lumpsUp_0 ?_
  refine X.istore_n (lv2 := [(1, vi 0), (0, .ref (q 31))]) C dX8_lumpsUp_1 rfl (by decide) rfl ?_
  refine X.aload_n C dX8_lumpsUp_2 rfl 1 rfl ?_
  refine X.callVi (q0 := 0) (As := []) (rest := []) (g := fun rr_1 => rr_1) (W1 := fun rr_1 => (W_M G q M)) (ws2 := fun rr_1 => (W_M G q M)) C h dX8_lumpsUp_3 ml_X8_251 mX8_firstBeat (fun v hv => kX8_firstBeat q M v hv) (fun rr_1 => ln_M_M_m_n (G := G) (q := q) (M := M)) rfl rfl rfl rfl rfl rfl rfl rfl (fun rr_1 h => ?_)
  refine X.istore_n (lv2 := [(2, vi rr_1), (1, vi 0), (0, .ref (q 31))]) C dX8_lumpsUp_6 rfl (by decide) rfl ?_
  refine X.sub [2, 1, 0] rfl ?_
  refine xX8_lumpsUp_7 C q M v FU 0 rr_1 h
def rX8_lumpDrops : Room := { frames := 1, cells := 0, slots := 0, locals := 21 }
theorem mX8_lumpDrops : MV yX8_lumpDrops cX8_lumpDrops 3 (some .int) 0 := ⟨cd_X8_lumpDrops, in_X8, ⟨⟨by decide, by decide⟩, by decide +kernel⟩, im_X8_lumpDrops, se_X8_lumpDrops⟩
set_option maxHeartbeats 4000000 in
set_option maxRecDepth 100000 in
theorem xX8_lumpDrops_4 {κ : Kx} {G : GT} (C : Cx κ G yX8_lumpDrops cX8_lumpDrops (some .int) 3 rX8_lumpDrops) (q : Nat → Nat) (M : Ob) (v : (Int)) : ∀ (n : Nat) (lx1 : Int) (lx2 : Int), lX8_lumpDrops_4 M n lx1 lx2 = some v → X κ G 3 (W_M G q M) 4 [(0, .ref (q 31)), (1, vi lx1), (2, vi lx2)] [] 0 0 (QM κ G (W_M G q M) (some (vi v)) rX8_lumpDrops.cells rX8_lumpDrops.slots) := by
  intro n
  induction n with
  | zero => intro _ _ h; exact absurd h (fun h => nomatch h)
  | succ n ih =>
    intro lx1 lx2 h
    rw [lX8_lumpDrops_4] at h
    refine X.iload_n C dX8_lumpDrops_4 rfl 2 rfl ?_
    refine X.aload_n C dX8_lumpDrops_5 rfl 0 rfl ?_
    refine X.get C dX8_lumpDrops_6 lay_X8 0 rfl rfl 1 (by decide) fl_X8_13 rfl rfl ?_
    refine X.bipush C dX8_lumpDrops_9 (by decide) ?_
    refine X.iald C h dX8_lumpDrops_11 1 rfl (fun h => ?_)
    refine X.icmp_ge (tgt := 29) C h dX8_lumpDrops_12 (by decide) (fun h => ?_) (fun h => ?_)
    · refine X.iload_n C dX8_lumpDrops_29 rfl 1 rfl ?_
      cases h
      exact X.iret C dX8_lumpDrops_30 (Nat.zero_le _) (Nat.zero_le _)
    refine X.iload_n C dX8_lumpDrops_15 rfl 1 rfl ?_
    refine X.aload_n C dX8_lumpDrops_16 rfl 0 rfl ?_
    refine X.iload_n C dX8_lumpDrops_17 rfl 2 rfl ?_
    refine X.callVi (q0 := 0) (As := [vi lx2]) (rest := [vi lx1]) (g := fun rr_1 => rr_1) (W1 := fun rr_1 => (W_M G q M)) (ws2 := fun rr_1 => (W_M G q M)) C h dX8_lumpDrops_18 ml_X8_245 mX8_shareOf (fun v hv => kX8_shareOf q M lx2 v hv) (fun rr_1 => ln_M_M_m_n (G := G) (q := q) (M := M)) rfl rfl rfl rfl rfl rfl rfl rfl (fun rr_1 h => ?_)
    refine X.iadd C dX8_lumpDrops_21 ?_
    refine X.istoreN_n (lv2 := fun lx1_2 => [(1, vi lx1_2), (0, .ref (q 31)), (2, vi lx2)]) C h dX8_lumpDrops_22 rfl (by decide) (fun _ => rfl) (fun lx1_2 h => ?_)
    refine X.iincN (lv2 := fun lx2_3 => [(2, vi lx2_3), (1, vi lx1_2), (0, .ref (q 31))]) C h dX8_lumpDrops_23 2 rfl (by decide) (fun _ => rfl) (fun lx2_3 h => ?_)
    refine X.goto (tgt := 4) C dX8_lumpDrops_26 (by decide) ?_
    refine X.sub [2, 1, 0] rfl ?_
    exact ih lx1_2 lx2_3 h
set_option maxHeartbeats 4000000 in
set_option maxRecDepth 100000 in
theorem kX8_lumpDrops {l : Launch} {G : GT} (q : Nat → Nat) (M : Ob) (v : (Int)) (h : fX8_lumpDrops M = some v) : CT l G yX8_lumpDrops cX8_lumpDrops 3 (some .int) rX8_lumpDrops [.ref (q 31)] (W_M G q M) (W_M G q M) (some (vi v)) := by
  unfold fX8_lumpDrops at h
  refine CT.of (by decide) (Nat.le_of_ble_eq_true rfl) rfl (fun κ _ C => ?_)
  refine X.iconst C dX8_lumpDrops_0 ?_
  refine X.istore_n (lv2 := [(1, vi 0), (0, .ref (q 31))]) C dX8_lumpDrops_1 rfl (by decide) rfl ?_
  refine X.iconst C dX8_lumpDrops_2 ?_
  refine X.istore_n (lv2 := [(2, vi 0), (1, vi 0), (0, .ref (q 31))]) C dX8_lumpDrops_3 rfl (by decide) rfl ?_
  refine X.sub [2, 1, 0] rfl ?_
  refine xX8_lumpDrops_4 C q M v FU 0 0 h
def rX8_water : Room := { frames := 3, cells := 0, slots := 0, locals := 72 }
theorem mX8_water : MV yX8_water cX8_water 2 (some .int) 1 := ⟨cd_X8_water, in_X8, ⟨⟨by decide, by decide⟩, by decide +kernel⟩, im_X8_water, se_X8_water⟩
set_option maxHeartbeats 4000000 in
set_option maxRecDepth 100000 in
theorem kX8_water {l : Launch} {G : GT} (q : Nat → Nat) (M : Ob) (lx1 : Int) (v : (Int)) (h : fX8_water M lx1 = some v) : CT l G yX8_water cX8_water 2 (some .int) rX8_water [.ref (q 31), vi lx1] (W_M G q M) (W_M G q M) (some (vi v)) := by
  unfold fX8_water at h
  refine CT.of (by decide) (Nat.le_of_ble_eq_true rfl) rfl (fun κ _ C => ?_)
  refine X.iload_n C dX8_water_0 rfl 1 rfl ?_
  rcases bq_out h with ⟨c0, h⟩ | ⟨c0, h⟩
  · refine X.tsIn (tgt := 40) c0 C dX8_water_1 (by decide) (by decide) rfl (by decide) ?_
    refine X.aload_n C dX8_water_40 rfl 0 rfl ?_
    refine X.callVi (q0 := 0) (As := []) (rest := []) (g := fun rr_1 => rr_1) (W1 := fun rr_1 => (W_M G q M)) (ws2 := fun rr_1 => (W_M G q M)) C h dX8_water_41 ml_X8_313 mX8_lumpsUp (fun v hv => kX8_lumpsUp q M v hv) (fun rr_1 => ln_M_M_m_n (G := G) (q := q) (M := M)) rfl rfl rfl rfl rfl rfl rfl rfl (fun rr_1 h => ?_)
    refine X.aload_n C dX8_water_44 rfl 0 rfl ?_
    refine X.callVi (q0 := 0) (As := []) (rest := [vi rr_1]) (g := fun rr_2 => rr_2) (W1 := fun rr_2 => (W_M G q M)) (ws2 := fun rr_2 => (W_M G q M)) C h dX8_water_45 ml_X8_316 mX8_lumpDrops (fun v hv => kX8_lumpDrops q M v hv) (fun rr_2 => ln_M_M_m_n (G := G) (q := q) (M := M)) rfl rfl rfl rfl rfl rfl rfl rfl (fun rr_2 h => ?_)
    refine X.imul C dX8_water_48 ?_
    cases h
    exact X.iret C dX8_water_49 (Nat.zero_le _) (Nat.zero_le _)
  rcases bq_out h with ⟨c1, h⟩ | ⟨c1, h⟩
  · refine X.tsIn (tgt := 50) c1 C dX8_water_1 (by decide) (by decide) rfl (by decide) ?_
    refine X.aload_n C dX8_water_50 rfl 0 rfl ?_
    refine X.get C dX8_water_51 lay_X8 0 rfl rfl 1 (by decide) fl_X8_13 rfl rfl ?_
    refine X.bipush C dX8_water_54 (by decide) ?_
    refine X.iald C h dX8_water_56 1 rfl (fun h => ?_)
    refine X.if_ne (tgt := 64) C h dX8_water_57 (by decide) (fun h => ?_) (fun h => ?_)
    · refine X.aload_n C dX8_water_64 rfl 0 rfl ?_
      refine X.callVi (q0 := 0) (As := []) (rest := []) (g := fun rr_3 => rr_3) (W1 := fun rr_3 => (W_M G q M)) (ws2 := fun rr_3 => (W_M G q M)) C h dX8_water_65 ml_X8_313 mX8_lumpsUp (fun v hv => kX8_lumpsUp q M v hv) (fun rr_3 => ln_M_M_m_n (G := G) (q := q) (M := M)) rfl rfl rfl rfl rfl rfl rfl rfl (fun rr_3 h => ?_)
      cases h
      exact X.iret C dX8_water_68 (Nat.zero_le _) (Nat.zero_le _)
    refine X.iconst C dX8_water_60 ?_
    refine X.goto (tgt := 68) C dX8_water_61 (by decide) ?_
    cases h
    exact X.iret C dX8_water_68 (Nat.zero_le _) (Nat.zero_le _)
  rcases bq_out h with ⟨c2, h⟩ | ⟨c2, h⟩
  · refine X.tsIn (tgt := 69) c2 C dX8_water_1 (by decide) (by decide) rfl (by decide) ?_
    refine X.aload_n C dX8_water_69 rfl 0 rfl ?_
    refine X.get C dX8_water_70 lay_X8 0 rfl rfl 1 (by decide) fl_X8_13 rfl rfl ?_
    refine X.bipush C dX8_water_73 (by decide) ?_
    refine X.iald C h dX8_water_75 1 rfl (fun h => ?_)
    cases h
    exact X.iret C dX8_water_76 (Nat.zero_le _) (Nat.zero_le _)
  rcases bq_out h with ⟨c3, h⟩ | ⟨c3, h⟩
  · refine X.tsIn (tgt := 77) c3 C dX8_water_1 (by decide) (by decide) rfl (by decide) ?_
    refine X.aload_n C dX8_water_77 rfl 0 rfl ?_
    refine X.get C dX8_water_78 lay_X8 0 rfl rfl 1 (by decide) fl_X8_13 rfl rfl ?_
    refine X.bipush C dX8_water_81 (by decide) ?_
    refine X.iald C h dX8_water_83 1 rfl (fun h => ?_)
    cases h
    exact X.iret C dX8_water_84 (Nat.zero_le _) (Nat.zero_le _)
  rcases bq_out h with ⟨c4, h⟩ | ⟨c4, h⟩
  · refine X.tsIn (tgt := 85) c4 C dX8_water_1 (by decide) (by decide) rfl (by decide) ?_
    refine X.aload_n C dX8_water_85 rfl 0 rfl ?_
    refine X.get C dX8_water_86 lay_X8 0 rfl rfl 1 (by decide) fl_X8_13 rfl rfl ?_
    refine X.bipush C dX8_water_89 (by decide) ?_
    refine X.iald C h dX8_water_91 1 rfl (fun h => ?_)
    cases h
    exact X.iret C dX8_water_92 (Nat.zero_le _) (Nat.zero_le _)
  rcases bq_out h with ⟨c5, h⟩ | ⟨c5, h⟩
  · refine X.tsIn (tgt := 93) c5 C dX8_water_1 (by decide) (by decide) rfl (by decide) ?_
    refine X.aload_n C dX8_water_93 rfl 0 rfl ?_
    refine X.get C dX8_water_94 lay_X8 0 rfl rfl 1 (by decide) fl_X8_13 rfl rfl ?_
    refine X.bipush C dX8_water_97 (by decide) ?_
    refine X.iald C h dX8_water_99 1 rfl (fun h => ?_)
    cases h
    exact X.iret C dX8_water_100 (Nat.zero_le _) (Nat.zero_le _)
  refine X.tsOut6 (tgt := 101) c0 c1 c2 c3 c4 c5 C dX8_water_1 (by decide) ?_
  refine X.iconst C dX8_water_101 ?_
  cases h
  exact X.iret C dX8_water_102 (Nat.zero_le _) (Nat.zero_le _)
def rX8_jet : Room := { frames := 0, cells := 0, slots := 0, locals := 0 }
theorem mX8_jet : MV yX8_jet cX8_jet 2 (some .int) 1 := ⟨cd_X8_jet, in_X8, ⟨⟨by decide, by decide⟩, by decide +kernel⟩, im_X8_jet, se_X8_jet⟩
set_option maxHeartbeats 4000000 in
set_option maxRecDepth 100000 in
theorem kX8_jet {l : Launch} {G : GT} (q : Nat → Nat) (M : Ob) (lx1 : Int) (v : (Int)) (h : fX8_jet M lx1 = some v) : CT l G yX8_jet cX8_jet 2 (some .int) rX8_jet [.ref (q 31), vi lx1] (W_M G q M) (W_M G q M) (some (vi v)) := by
  unfold fX8_jet at h
  refine CT.of (by decide) (Nat.le_of_ble_eq_true rfl) rfl (fun κ _ C => ?_)
  refine X.iload_n C dX8_jet_0 rfl 1 rfl ?_
  refine X.if_ne (tgt := 14) C h dX8_jet_1 (by decide) (fun h => ?_) (fun h => ?_)
  · refine X.iload_n C dX8_jet_14 rfl 1 rfl ?_
    refine X.iconst C dX8_jet_15 ?_
    refine X.icmp_ne (tgt := 29) C h dX8_jet_16 (by decide) (fun h => ?_) (fun h => ?_)
    · refine X.iload_n C dX8_jet_29 rfl 1 rfl ?_
      refine X.iconst C dX8_jet_30 ?_
      refine X.icmp_ne (tgt := 44) C h dX8_jet_31 (by decide) (fun h => ?_) (fun h => ?_)
      · refine X.iload_n C dX8_jet_44 rfl 1 rfl ?_
        refine X.iconst C dX8_jet_45 ?_
        refine X.icmp_ne (tgt := 59) C h dX8_jet_46 (by decide) (fun h => ?_) (fun h => ?_)
        · refine X.iconst C dX8_jet_59 ?_
          cases h
          exact X.iret C dX8_jet_60 (Nat.zero_le _) (Nat.zero_le _)
        refine X.aload_n C dX8_jet_49 rfl 0 rfl ?_
        refine X.get C dX8_jet_50 lay_X8 0 rfl rfl 1 (by decide) fl_X8_13 rfl rfl ?_
        refine X.bipush C dX8_jet_53 (by decide) ?_
        refine X.iald C h dX8_jet_55 1 rfl (fun h => ?_)
        refine X.goto (tgt := 60) C dX8_jet_56 (by decide) ?_
        cases h
        exact X.iret C dX8_jet_60 (Nat.zero_le _) (Nat.zero_le _)
      refine X.aload_n C dX8_jet_34 rfl 0 rfl ?_
      refine X.get C dX8_jet_35 lay_X8 0 rfl rfl 1 (by decide) fl_X8_13 rfl rfl ?_
      refine X.bipush C dX8_jet_38 (by decide) ?_
      refine X.iald C h dX8_jet_40 1 rfl (fun h => ?_)
      refine X.goto (tgt := 60) C dX8_jet_41 (by decide) ?_
      cases h
      exact X.iret C dX8_jet_60 (Nat.zero_le _) (Nat.zero_le _)
    refine X.aload_n C dX8_jet_19 rfl 0 rfl ?_
    refine X.get C dX8_jet_20 lay_X8 0 rfl rfl 1 (by decide) fl_X8_13 rfl rfl ?_
    refine X.bipush C dX8_jet_23 (by decide) ?_
    refine X.iald C h dX8_jet_25 1 rfl (fun h => ?_)
    refine X.goto (tgt := 60) C dX8_jet_26 (by decide) ?_
    cases h
    exact X.iret C dX8_jet_60 (Nat.zero_le _) (Nat.zero_le _)
  refine X.aload_n C dX8_jet_4 rfl 0 rfl ?_
  refine X.get C dX8_jet_5 lay_X8 0 rfl rfl 1 (by decide) fl_X8_13 rfl rfl ?_
  refine X.bipush C dX8_jet_8 (by decide) ?_
  refine X.iald C h dX8_jet_10 1 rfl (fun h => ?_)
  refine X.goto (tgt := 60) C dX8_jet_11 (by decide) ?_
  cases h
  exact X.iret C dX8_jet_60 (Nat.zero_le _) (Nat.zero_le _)
def rX8_lets : Room := { frames := 2, cells := 0, slots := 0, locals := 53 }
theorem mX8_lets : MV yX8_lets cX8_lets 2 (some .int) 1 := ⟨cd_X8_lets, in_X8, ⟨⟨by decide, by decide⟩, by decide +kernel⟩, im_X8_lets, se_X8_lets⟩
set_option maxHeartbeats 4000000 in
set_option maxRecDepth 100000 in
theorem kX8_lets {l : Launch} {G : GT} (q : Nat → Nat) (M : Ob) (lx1 : Int) (v : (Int)) (h : fX8_lets M lx1 = some v) : CT l G yX8_lets cX8_lets 2 (some .int) rX8_lets [.ref (q 31), vi lx1] (W_M G q M) (W_M G q M) (some (vi v)) := by
  unfold fX8_lets at h
  refine CT.of (by decide) (Nat.le_of_ble_eq_true rfl) rfl (fun κ _ C => ?_)
  refine X.aload_n C dX8_lets_0 rfl 0 rfl ?_
  refine X.callVi (q0 := 0) (As := []) (rest := []) (g := fun rr_1 => rr_1) (W1 := fun rr_1 => (W_M G q M)) (ws2 := fun rr_1 => (W_M G q M)) C h dX8_lets_1 ml_X8_278 mX8_isSquare (fun v hv => kX8_isSquare q M v hv) (fun rr_1 => ln_M_M_m_n (G := G) (q := q) (M := M)) rfl rfl rfl rfl rfl rfl rfl rfl (fun rr_1 h => ?_)
  refine X.if_eq (tgt := 27) C h dX8_lets_4 (by decide) (fun h => ?_) (fun h => ?_)
  · refine X.bipush C dX8_lets_27 (by decide) ?_
    cases h
    exact X.iret C dX8_lets_29 (Nat.zero_le _) (Nat.zero_le _)
  refine X.iload_n C dX8_lets_7 rfl 1 rfl ?_
  refine X.i2l C dX8_lets_8 ?_
  refine X.lconst (z := 0) C dX8_lets_9 (by decide) ?_
  refine X.ldc2 (z := 9) C cl_X8_319 (by decide) dX8_lets_10 ?_
  refine X.callSi (As := [vl (jwl lx1), vl 0, vl 9]) (rest := []) (g := fun rr_2 => rr_2) (W1 := fun rr_2 => W_0) (ws2 := fun rr_2 => (W_M G q M)) C h dX8_lets_13 ml_X8_68 mX8_in (fun v hv => kX8_in (jwl lx1) 0 9 v hv) (fun rr_2 => ln_M_0__n (G := G) (q := q) (M := M)) rfl rfl rfl rfl rfl rfl (fun rr_2 h => ?_)
  refine X.if_eq (tgt := 27) C h dX8_lets_16 (by decide) (fun h => ?_) (fun h => ?_)
  · refine X.bipush C dX8_lets_27 (by decide) ?_
    cases h
    exact X.iret C dX8_lets_29 (Nat.zero_le _) (Nat.zero_le _)
  refine X.aload_n C dX8_lets_19 rfl 0 rfl ?_
  refine X.iload_n C dX8_lets_20 rfl 1 rfl ?_
  refine X.callVi (q0 := 0) (As := [vi lx1]) (rest := []) (g := fun rr_3 => rr_3) (W1 := fun rr_3 => (W_M G q M)) (ws2 := fun rr_3 => (W_M G q M)) C h dX8_lets_21 ml_X8_275 mX8_letsBy (fun v hv => kX8_letsBy q M lx1 v hv) (fun rr_3 => ln_M_M_m_n (G := G) (q := q) (M := M)) rfl rfl rfl rfl rfl rfl rfl rfl (fun rr_3 h => ?_)
  refine X.goto (tgt := 29) C dX8_lets_24 (by decide) ?_
  cases h
  exact X.iret C dX8_lets_29 (Nat.zero_le _) (Nat.zero_le _)
def rX8_driftOf : Room := { frames := 1, cells := 0, slots := 0, locals := 21 }
theorem mX8_driftOf : MV yX8_driftOf cX8_driftOf 4 (some .int) 3 := ⟨cd_X8_driftOf, in_X8, ⟨⟨by decide, by decide⟩, by decide +kernel⟩, im_X8_driftOf, se_X8_driftOf⟩
set_option maxHeartbeats 4000000 in
set_option maxRecDepth 100000 in
theorem kX8_driftOf {l : Launch} {G : GT} (q : Nat → Nat) (M : Ob) (lx1 : Int) (lx2 : Int) (lx3 : Int) (v : (Int)) (h : fX8_driftOf M lx1 lx2 lx3 = some v) : CT l G yX8_driftOf cX8_driftOf 4 (some .int) rX8_driftOf [.ref (q 31), vi lx1, vi lx2, vi lx3] (W_M G q M) (W_M G q M) (some (vi v)) := by
  unfold fX8_driftOf at h
  refine CT.of (by decide) (Nat.le_of_ble_eq_true rfl) rfl (fun κ _ C => ?_)
  refine X.iload_n C dX8_driftOf_0 rfl 1 rfl ?_
  refine X.iload_n C dX8_driftOf_1 rfl 3 rfl ?_
  refine X.bipush C dX8_driftOf_2 (by decide) ?_
  refine X.irem C (by decide) dX8_driftOf_4 ?_
  refine X.imul C dX8_driftOf_5 ?_
  refine X.iconst C dX8_driftOf_6 ?_
  refine X.imul C dX8_driftOf_7 ?_
  refine X.iload_n C dX8_driftOf_8 rfl 2 rfl ?_
  refine X.callSi (As := [vi lx2]) (rest := [vi ((lx1 * (jrm lx3 10)) * 2)]) (g := fun rr_1 => rr_1) (W1 := fun rr_1 => W_0) (ws2 := fun rr_1 => (W_M G q M)) C h dX8_driftOf_9 ml_X8_220 mX8_paceOf (fun v hv => kX8_paceOf lx2 v hv) (fun rr_1 => ln_M_0__n (G := G) (q := q) (M := M)) rfl rfl rfl rfl rfl rfl (fun rr_1 h => ?_)
  refine X.imul C dX8_driftOf_12 ?_
  cases h
  exact X.iret C dX8_driftOf_13 (Nat.zero_le _) (Nat.zero_le _)
def rX8_eastOf : Room := { frames := 2, cells := 0, slots := 0, locals := 44 }
theorem mX8_eastOf : MV yX8_eastOf cX8_eastOf 4 (some .int) 3 := ⟨cd_X8_eastOf, in_X8, ⟨⟨by decide, by decide⟩, by decide +kernel⟩, im_X8_eastOf, se_X8_eastOf⟩
set_option maxHeartbeats 4000000 in
set_option maxRecDepth 100000 in
theorem kX8_eastOf {l : Launch} {G : GT} (q : Nat → Nat) (M : Ob) (lx1 : Int) (lx2 : Int) (lx3 : Int) (v : (Int)) (h : fX8_eastOf M lx1 lx2 lx3 = some v) : CT l G yX8_eastOf cX8_eastOf 4 (some .int) rX8_eastOf [.ref (q 31), vi lx1, vi lx2, vi lx3] (W_M G q M) (W_M G q M) (some (vi v)) := by
  unfold fX8_eastOf at h
  refine CT.of (by decide) (Nat.le_of_ble_eq_true rfl) rfl (fun κ _ C => ?_)
  refine X.iload_n C dX8_eastOf_0 rfl 3 rfl ?_
  refine X.bipush C dX8_eastOf_1 (by decide) ?_
  refine X.idiv C (by decide) dX8_eastOf_3 ?_
  refine X.iconst C dX8_eastOf_4 ?_
  refine X.icmp_ne (tgt := 18) C h dX8_eastOf_5 (by decide) (fun h => ?_) (fun h => ?_)
  · refine X.iload_n C dX8_eastOf_18 rfl 3 rfl ?_
    refine X.bipush C dX8_eastOf_19 (by decide) ?_
    refine X.idiv C (by decide) dX8_eastOf_21 ?_
    refine X.iconst C dX8_eastOf_22 ?_
    refine X.icmp_ne (tgt := 37) C h dX8_eastOf_23 (by decide) (fun h => ?_) (fun h => ?_)
    · refine X.iconst C dX8_eastOf_37 ?_
      cases h
      exact X.iret C dX8_eastOf_38 (Nat.zero_le _) (Nat.zero_le _)
    refine X.aload_n C dX8_eastOf_26 rfl 0 rfl ?_
    refine X.iload_n C dX8_eastOf_27 rfl 1 rfl ?_
    refine X.iload_n C dX8_eastOf_28 rfl 2 rfl ?_
    refine X.iload_n C dX8_eastOf_29 rfl 3 rfl ?_
    refine X.callVi (q0 := 0) (As := [vi lx1, vi lx2, vi lx3]) (rest := []) (g := fun rr_1 => rr_1) (W1 := fun rr_1 => (W_M G q M)) (ws2 := fun rr_1 => (W_M G q M)) C h dX8_eastOf_30 ml_X8_321 mX8_driftOf (fun v hv => kX8_driftOf q M lx1 lx2 lx3 v hv) (fun rr_1 => ln_M_M_m_n (G := G) (q := q) (M := M)) rfl rfl rfl rfl rfl rfl rfl rfl (fun rr_1 h => ?_)
    refine X.ineg C dX8_eastOf_33 ?_
    refine X.goto (tgt := 38) C dX8_eastOf_34 (by decide) ?_
    cases h
    exact X.iret C dX8_eastOf_38 (Nat.zero_le _) (Nat.zero_le _)
  refine X.aload_n C dX8_eastOf_8 rfl 0 rfl ?_
  refine X.iload_n C dX8_eastOf_9 rfl 1 rfl ?_
  refine X.iload_n C dX8_eastOf_10 rfl 2 rfl ?_
  refine X.iload_n C dX8_eastOf_11 rfl 3 rfl ?_
  refine X.callVi (q0 := 0) (As := [vi lx1, vi lx2, vi lx3]) (rest := []) (g := fun rr_2 => rr_2) (W1 := fun rr_2 => (W_M G q M)) (ws2 := fun rr_2 => (W_M G q M)) C h dX8_eastOf_12 ml_X8_321 mX8_driftOf (fun v hv => kX8_driftOf q M lx1 lx2 lx3 v hv) (fun rr_2 => ln_M_M_m_n (G := G) (q := q) (M := M)) rfl rfl rfl rfl rfl rfl rfl rfl (fun rr_2 h => ?_)
  refine X.goto (tgt := 38) C dX8_eastOf_15 (by decide) ?_
  cases h
  exact X.iret C dX8_eastOf_38 (Nat.zero_le _) (Nat.zero_le _)
def rX8_southOf : Room := { frames := 2, cells := 0, slots := 0, locals := 44 }
theorem mX8_southOf : MV yX8_southOf cX8_southOf 4 (some .int) 3 := ⟨cd_X8_southOf, in_X8, ⟨⟨by decide, by decide⟩, by decide +kernel⟩, im_X8_southOf, se_X8_southOf⟩
set_option maxHeartbeats 4000000 in
set_option maxRecDepth 100000 in
theorem kX8_southOf {l : Launch} {G : GT} (q : Nat → Nat) (M : Ob) (lx1 : Int) (lx2 : Int) (lx3 : Int) (v : (Int)) (h : fX8_southOf M lx1 lx2 lx3 = some v) : CT l G yX8_southOf cX8_southOf 4 (some .int) rX8_southOf [.ref (q 31), vi lx1, vi lx2, vi lx3] (W_M G q M) (W_M G q M) (some (vi v)) := by
  unfold fX8_southOf at h
  refine CT.of (by decide) (Nat.le_of_ble_eq_true rfl) rfl (fun κ _ C => ?_)
  refine X.iload_n C dX8_southOf_0 rfl 3 rfl ?_
  refine X.bipush C dX8_southOf_1 (by decide) ?_
  refine X.idiv C (by decide) dX8_southOf_3 ?_
  refine X.iconst C dX8_southOf_4 ?_
  refine X.icmp_ne (tgt := 18) C h dX8_southOf_5 (by decide) (fun h => ?_) (fun h => ?_)
  · refine X.iload_n C dX8_southOf_18 rfl 3 rfl ?_
    refine X.bipush C dX8_southOf_19 (by decide) ?_
    refine X.idiv C (by decide) dX8_southOf_21 ?_
    refine X.if_ne (tgt := 36) C h dX8_southOf_22 (by decide) (fun h => ?_) (fun h => ?_)
    · refine X.iconst C dX8_southOf_36 ?_
      cases h
      exact X.iret C dX8_southOf_37 (Nat.zero_le _) (Nat.zero_le _)
    refine X.aload_n C dX8_southOf_25 rfl 0 rfl ?_
    refine X.iload_n C dX8_southOf_26 rfl 1 rfl ?_
    refine X.iload_n C dX8_southOf_27 rfl 2 rfl ?_
    refine X.iload_n C dX8_southOf_28 rfl 3 rfl ?_
    refine X.callVi (q0 := 0) (As := [vi lx1, vi lx2, vi lx3]) (rest := []) (g := fun rr_1 => rr_1) (W1 := fun rr_1 => (W_M G q M)) (ws2 := fun rr_1 => (W_M G q M)) C h dX8_southOf_29 ml_X8_321 mX8_driftOf (fun v hv => kX8_driftOf q M lx1 lx2 lx3 v hv) (fun rr_1 => ln_M_M_m_n (G := G) (q := q) (M := M)) rfl rfl rfl rfl rfl rfl rfl rfl (fun rr_1 h => ?_)
    refine X.ineg C dX8_southOf_32 ?_
    refine X.goto (tgt := 37) C dX8_southOf_33 (by decide) ?_
    cases h
    exact X.iret C dX8_southOf_37 (Nat.zero_le _) (Nat.zero_le _)
  refine X.aload_n C dX8_southOf_8 rfl 0 rfl ?_
  refine X.iload_n C dX8_southOf_9 rfl 1 rfl ?_
  refine X.iload_n C dX8_southOf_10 rfl 2 rfl ?_
  refine X.iload_n C dX8_southOf_11 rfl 3 rfl ?_
  refine X.callVi (q0 := 0) (As := [vi lx1, vi lx2, vi lx3]) (rest := []) (g := fun rr_2 => rr_2) (W1 := fun rr_2 => (W_M G q M)) (ws2 := fun rr_2 => (W_M G q M)) C h dX8_southOf_12 ml_X8_321 mX8_driftOf (fun v hv => kX8_driftOf q M lx1 lx2 lx3 v hv) (fun rr_2 => ln_M_M_m_n (G := G) (q := q) (M := M)) rfl rfl rfl rfl rfl rfl rfl rfl (fun rr_2 h => ?_)
  refine X.goto (tgt := 37) C dX8_southOf_15 (by decide) ?_
  cases h
  exact X.iret C dX8_southOf_37 (Nat.zero_le _) (Nat.zero_le _)
def rX8_land : Room := { frames := 3, cells := 0, slots := 0, locals := 67 }
theorem mX8_land : MV yX8_land cX8_land 6 (some .int) 3 := ⟨cd_X8_land, in_X8, ⟨⟨by decide, by decide⟩, by decide +kernel⟩, im_X8_land, se_X8_land⟩
set_option maxHeartbeats 4000000 in
set_option maxRecDepth 100000 in
theorem kX8_land {l : Launch} {G : GT} (q : Nat → Nat) (M : Ob) (lx1 : Int) (lx2 : Int) (lx3 : Int) (v : (Int)) (h : fX8_land M lx1 lx2 lx3 = some v) : CT l G yX8_land cX8_land 6 (some .int) rX8_land [.ref (q 31), vi lx1, vi lx2, vi lx3] (W_M G q M) (W_M G q M) (some (vi v)) := by
  unfold fX8_land at h
  refine CT.of (by decide) (Nat.le_of_ble_eq_true rfl) rfl (fun κ _ C => ?_)
  refine X.aload_n C dX8_land_0 rfl 0 rfl ?_
  refine X.iload_n C dX8_land_1 rfl 1 rfl ?_
  refine X.callVi (q0 := 0) (As := [vi lx1]) (rest := []) (g := fun rr_1 => rr_1) (W1 := fun rr_1 => (W_M G q M)) (ws2 := fun rr_1 => (W_M G q M)) C h dX8_land_2 ml_X8_325 mX8_isSize (fun v hv => kX8_isSize q M lx1 v hv) (fun rr_1 => ln_M_M_m_n (G := G) (q := q) (M := M)) rfl rfl rfl rfl rfl rfl rfl rfl (fun rr_1 h => ?_)
  refine X.if_eq (tgt := 28) C h dX8_land_5 (by decide) (fun h => ?_) (fun h => ?_)
  · refine X.bipush C dX8_land_28 (by decide) ?_
    cases h
    exact X.iret C dX8_land_30 (Nat.zero_le _) (Nat.zero_le _)
  refine X.iload_n C dX8_land_8 rfl 2 rfl ?_
  refine X.i2l C dX8_land_9 ?_
  refine X.lconst (z := 1) C dX8_land_10 (by decide) ?_
  refine X.ldc2 (z := 60) C cl_X8_214 (by decide) dX8_land_11 ?_
  refine X.callSi (As := [vl (jwl lx2), vl 1, vl 60]) (rest := []) (g := fun rr_2 => rr_2) (W1 := fun rr_2 => W_0) (ws2 := fun rr_2 => (W_M G q M)) C h dX8_land_14 ml_X8_68 mX8_in (fun v hv => kX8_in (jwl lx2) 1 60 v hv) (fun rr_2 => ln_M_0__n (G := G) (q := q) (M := M)) rfl rfl rfl rfl rfl rfl (fun rr_2 h => ?_)
  refine X.if_eq (tgt := 28) C h dX8_land_17 (by decide) (fun h => ?_) (fun h => ?_)
  · refine X.bipush C dX8_land_28 (by decide) ?_
    cases h
    exact X.iret C dX8_land_30 (Nat.zero_le _) (Nat.zero_le _)
  refine X.iload_n C dX8_land_20 rfl 3 rfl ?_
  refine X.i2l C dX8_land_21 ?_
  refine X.callSi (As := [vl (jwl lx3)]) (rest := []) (g := fun rr_3 => rr_3) (W1 := fun rr_3 => W_0) (ws2 := fun rr_3 => (W_M G q M)) C h dX8_land_22 ml_X8_281 mX8_isWind (fun v hv => kX8_isWind (jwl lx3) v hv) (fun rr_3 => ln_M_0__n (G := G) (q := q) (M := M)) rfl rfl rfl rfl rfl rfl (fun rr_3 h => ?_)
  refine X.if_ne (tgt := 31) C h dX8_land_25 (by decide) (fun h => ?_) (fun h => ?_)
  · refine X.aload_n C dX8_land_31 rfl 0 rfl ?_
    refine X.aload_n C dX8_land_32 rfl 0 rfl ?_
    refine X.aload_n C dX8_land_33 rfl 0 rfl ?_
    refine X.iload_n C dX8_land_34 rfl 1 rfl ?_
    refine X.callVi (q0 := 0) (As := [vi lx1]) (rest := [.ref (q 31), .ref (q 31)]) (g := fun rr_4 => rr_4) (W1 := fun rr_4 => (W_M G q M)) (ws2 := fun rr_4 => (W_M G q M)) C h dX8_land_35 ml_X8_257 mX8_dragOf (fun v hv => kX8_dragOf q M lx1 v hv) (fun rr_4 => ln_M_M_m_n (G := G) (q := q) (M := M)) rfl rfl rfl rfl rfl rfl rfl rfl (fun rr_4 h => ?_)
    refine X.iload_n C dX8_land_38 rfl 2 rfl ?_
    refine X.iload_n C dX8_land_39 rfl 3 rfl ?_
    refine X.callVi (q0 := 0) (As := [vi rr_4, vi lx2, vi lx3]) (rest := [.ref (q 31)]) (g := fun rr_5 => rr_5) (W1 := fun rr_5 => (W_M G q M)) (ws2 := fun rr_5 => (W_M G q M)) C h dX8_land_40 ml_X8_328 mX8_eastOf (fun v hv => kX8_eastOf q M rr_4 lx2 lx3 v hv) (fun rr_5 => ln_M_M_m_n (G := G) (q := q) (M := M)) rfl rfl rfl rfl rfl rfl rfl rfl (fun rr_5 h => ?_)
    refine X.callVi (q0 := 0) (As := [vi rr_5]) (rest := []) (g := fun rr_6 => rr_6) (W1 := fun rr_6 => (W_M G q M)) (ws2 := fun rr_6 => (W_M G q M)) C h dX8_land_43 ml_X8_226 mX8_cellX (fun v hv => kX8_cellX q M rr_5 v hv) (fun rr_6 => ln_M_M_m_n (G := G) (q := q) (M := M)) rfl rfl rfl rfl rfl rfl rfl rfl (fun rr_6 h => ?_)
    refine X.istore (lv2 := [(4, vi rr_6), (0, .ref (q 31)), (1, vi lx1), (2, vi lx2), (3, vi lx3)]) C dX8_land_46 (by decide) rfl ?_
    refine X.aload_n C dX8_land_48 rfl 1 rfl ?_
    refine X.aload_n C dX8_land_49 rfl 1 rfl ?_
    refine X.aload_n C dX8_land_50 rfl 1 rfl ?_
    refine X.iload_n C dX8_land_51 rfl 2 rfl ?_
    refine X.callVi (q0 := 0) (As := [vi lx1]) (rest := [.ref (q 31), .ref (q 31)]) (g := fun rr_7 => rr_7) (W1 := fun rr_7 => (W_M G q M)) (ws2 := fun rr_7 => (W_M G q M)) C h dX8_land_52 ml_X8_257 mX8_dragOf (fun v hv => kX8_dragOf q M lx1 v hv) (fun rr_7 => ln_M_M_m_n (G := G) (q := q) (M := M)) rfl rfl rfl rfl rfl rfl rfl rfl (fun rr_7 h => ?_)
    refine X.iload_n C dX8_land_55 rfl 3 rfl ?_
    refine X.iload_n C dX8_land_56 rfl 4 rfl ?_
    refine X.callVi (q0 := 0) (As := [vi rr_7, vi lx2, vi lx3]) (rest := [.ref (q 31)]) (g := fun rr_8 => rr_8) (W1 := fun rr_8 => (W_M G q M)) (ws2 := fun rr_8 => (W_M G q M)) C h dX8_land_57 ml_X8_331 mX8_southOf (fun v hv => kX8_southOf q M rr_7 lx2 lx3 v hv) (fun rr_8 => ln_M_M_m_n (G := G) (q := q) (M := M)) rfl rfl rfl rfl rfl rfl rfl rfl (fun rr_8 h => ?_)
    refine X.callVi (q0 := 0) (As := [vi rr_8]) (rest := []) (g := fun rr_9 => rr_9) (W1 := fun rr_9 => (W_M G q M)) (ws2 := fun rr_9 => (W_M G q M)) C h dX8_land_60 ml_X8_229 mX8_cellY (fun v hv => kX8_cellY q M rr_8 v hv) (fun rr_9 => ln_M_M_m_n (G := G) (q := q) (M := M)) rfl rfl rfl rfl rfl rfl rfl rfl (fun rr_9 h => ?_)
    refine X.istore (lv2 := [(5, vi rr_9), (4, vi rr_6), (0, .ref (q 31)), (1, vi lx1), (2, vi lx2), (3, vi lx3)]) C dX8_land_63 (by decide) rfl ?_
    refine X.aload_n C dX8_land_65 rfl 2 rfl ?_
    refine X.iload C dX8_land_66 1 rfl ?_
    refine X.iload C dX8_land_68 0 rfl ?_
    refine X.callVi (q0 := 0) (As := [vi rr_6, vi rr_9]) (rest := []) (g := fun rr_10 => rr_10) (W1 := fun rr_10 => (W_M G q M)) (ws2 := fun rr_10 => (W_M G q M)) C h dX8_land_70 ml_X8_248 mX8_isCell (fun v hv => kX8_isCell q M rr_6 rr_9 v hv) (fun rr_10 => ln_M_M_m_n (G := G) (q := q) (M := M)) rfl rfl rfl rfl rfl rfl rfl rfl (fun rr_10 h => ?_)
    refine X.if_eq (tgt := 87) C h dX8_land_73 (by decide) (fun h => ?_) (fun h => ?_)
    · refine X.iconst C dX8_land_87 ?_
      cases h
      exact X.iret C dX8_land_88 (Nat.zero_le _) (Nat.zero_le _)
    refine X.iload C dX8_land_76 1 rfl ?_
    refine X.bipush C dX8_land_78 (by decide) ?_
    refine X.iload C dX8_land_80 0 rfl ?_
    refine X.imul C dX8_land_82 ?_
    refine X.iadd C dX8_land_83 ?_
    refine X.goto (tgt := 88) C dX8_land_84 (by decide) ?_
    cases h
    exact X.iret C dX8_land_88 (Nat.zero_le _) (Nat.zero_le _)
  refine X.bipush C dX8_land_28 (by decide) ?_
  cases h
  exact X.iret C dX8_land_30 (Nat.zero_le _) (Nat.zero_le _)
def rX8_drift : Room := { frames := 2, cells := 0, slots := 0, locals := 46 }
theorem mX8_drift : MV yX8_drift cX8_drift 4 (some .int) 3 := ⟨cd_X8_drift, in_X8, ⟨⟨by decide, by decide⟩, by decide +kernel⟩, im_X8_drift, se_X8_drift⟩
set_option maxHeartbeats 4000000 in
set_option maxRecDepth 100000 in
theorem kX8_drift {l : Launch} {G : GT} (q : Nat → Nat) (M : Ob) (lx1 : Int) (lx2 : Int) (lx3 : Int) (v : (Int)) (h : fX8_drift M lx1 lx2 lx3 = some v) : CT l G yX8_drift cX8_drift 4 (some .int) rX8_drift [.ref (q 31), vi lx1, vi lx2, vi lx3] (W_M G q M) (W_M G q M) (some (vi v)) := by
  unfold fX8_drift at h
  refine CT.of (by decide) (Nat.le_of_ble_eq_true rfl) rfl (fun κ _ C => ?_)
  refine X.aload_n C dX8_drift_0 rfl 0 rfl ?_
  refine X.iload_n C dX8_drift_1 rfl 1 rfl ?_
  refine X.callVi (q0 := 0) (As := [vi lx1]) (rest := []) (g := fun rr_1 => rr_1) (W1 := fun rr_1 => (W_M G q M)) (ws2 := fun rr_1 => (W_M G q M)) C h dX8_drift_2 ml_X8_325 mX8_isSize (fun v hv => kX8_isSize q M lx1 v hv) (fun rr_1 => ln_M_M_m_n (G := G) (q := q) (M := M)) rfl rfl rfl rfl rfl rfl rfl rfl (fun rr_1 h => ?_)
  refine X.if_eq (tgt := 42) C h dX8_drift_5 (by decide) (fun h => ?_) (fun h => ?_)
  · refine X.bipush C dX8_drift_42 (by decide) ?_
    cases h
    exact X.iret C dX8_drift_44 (Nat.zero_le _) (Nat.zero_le _)
  refine X.iload_n C dX8_drift_8 rfl 2 rfl ?_
  refine X.i2l C dX8_drift_9 ?_
  refine X.lconst (z := 1) C dX8_drift_10 (by decide) ?_
  refine X.ldc2 (z := 60) C cl_X8_214 (by decide) dX8_drift_11 ?_
  refine X.callSi (As := [vl (jwl lx2), vl 1, vl 60]) (rest := []) (g := fun rr_2 => rr_2) (W1 := fun rr_2 => W_0) (ws2 := fun rr_2 => (W_M G q M)) C h dX8_drift_14 ml_X8_68 mX8_in (fun v hv => kX8_in (jwl lx2) 1 60 v hv) (fun rr_2 => ln_M_0__n (G := G) (q := q) (M := M)) rfl rfl rfl rfl rfl rfl (fun rr_2 h => ?_)
  refine X.if_eq (tgt := 42) C h dX8_drift_17 (by decide) (fun h => ?_) (fun h => ?_)
  · refine X.bipush C dX8_drift_42 (by decide) ?_
    cases h
    exact X.iret C dX8_drift_44 (Nat.zero_le _) (Nat.zero_le _)
  refine X.iload_n C dX8_drift_20 rfl 3 rfl ?_
  refine X.i2l C dX8_drift_21 ?_
  refine X.callSi (As := [vl (jwl lx3)]) (rest := []) (g := fun rr_3 => rr_3) (W1 := fun rr_3 => W_0) (ws2 := fun rr_3 => (W_M G q M)) C h dX8_drift_22 ml_X8_281 mX8_isWind (fun v hv => kX8_isWind (jwl lx3) v hv) (fun rr_3 => ln_M_0__n (G := G) (q := q) (M := M)) rfl rfl rfl rfl rfl rfl (fun rr_3 h => ?_)
  refine X.if_eq (tgt := 42) C h dX8_drift_25 (by decide) (fun h => ?_) (fun h => ?_)
  · refine X.bipush C dX8_drift_42 (by decide) ?_
    cases h
    exact X.iret C dX8_drift_44 (Nat.zero_le _) (Nat.zero_le _)
  refine X.aload_n C dX8_drift_28 rfl 0 rfl ?_
  refine X.aload_n C dX8_drift_29 rfl 0 rfl ?_
  refine X.iload_n C dX8_drift_30 rfl 1 rfl ?_
  refine X.callVi (q0 := 0) (As := [vi lx1]) (rest := [.ref (q 31)]) (g := fun rr_4 => rr_4) (W1 := fun rr_4 => (W_M G q M)) (ws2 := fun rr_4 => (W_M G q M)) C h dX8_drift_31 ml_X8_257 mX8_dragOf (fun v hv => kX8_dragOf q M lx1 v hv) (fun rr_4 => ln_M_M_m_n (G := G) (q := q) (M := M)) rfl rfl rfl rfl rfl rfl rfl rfl (fun rr_4 h => ?_)
  refine X.iload_n C dX8_drift_34 rfl 2 rfl ?_
  refine X.iload_n C dX8_drift_35 rfl 3 rfl ?_
  refine X.callVi (q0 := 0) (As := [vi rr_4, vi lx2, vi lx3]) (rest := []) (g := fun rr_5 => rr_5) (W1 := fun rr_5 => (W_M G q M)) (ws2 := fun rr_5 => (W_M G q M)) C h dX8_drift_36 ml_X8_321 mX8_driftOf (fun v hv => kX8_driftOf q M rr_4 lx2 lx3 v hv) (fun rr_5 => ln_M_M_m_n (G := G) (q := q) (M := M)) rfl rfl rfl rfl rfl rfl rfl rfl (fun rr_5 h => ?_)
  refine X.goto (tgt := 44) C dX8_drift_39 (by decide) ?_
  cases h
  exact X.iret C dX8_drift_44 (Nat.zero_le _) (Nat.zero_le _)
def rX8_isSteadyCaught : Room := { frames := 3, cells := 0, slots := 0, locals := 74 }
theorem mX8_isSteadyCaught : MV yX8_isSteadyCaught cX8_isSteadyCaught 4 (some .boolean) 3 := ⟨cd_X8_isSteadyCaught, in_X8, ⟨⟨by decide, by decide⟩, by decide +kernel⟩, im_X8_isSteadyCaught, se_X8_isSteadyCaught⟩
set_option maxHeartbeats 4000000 in
set_option maxRecDepth 100000 in
theorem kX8_isSteadyCaught {l : Launch} {G : GT} (q : Nat → Nat) (M : Ob) (lx1 : Int) (lx2 : Int) (lx3 : Int) (v : (Int)) (h : fX8_isSteadyCaught M lx1 lx2 lx3 = some v) : CT l G yX8_isSteadyCaught cX8_isSteadyCaught 4 (some .boolean) rX8_isSteadyCaught [.ref (q 31), vi lx1, vi lx2, vi lx3] (W_M G q M) (W_M G q M) (some (vi v)) := by
  unfold fX8_isSteadyCaught at h
  refine CT.of (by decide) (Nat.le_of_ble_eq_true rfl) rfl (fun κ _ C => ?_)
  refine X.aload_n C dX8_isSteadyCaught_0 rfl 0 rfl ?_
  refine X.aload_n C dX8_isSteadyCaught_1 rfl 0 rfl ?_
  refine X.iload_n C dX8_isSteadyCaught_2 rfl 1 rfl ?_
  refine X.iload_n C dX8_isSteadyCaught_3 rfl 2 rfl ?_
  refine X.iload_n C dX8_isSteadyCaught_4 rfl 3 rfl ?_
  refine X.callVi (q0 := 0) (As := [vi lx1, vi lx2, vi lx3]) (rest := [.ref (q 31)]) (g := fun rr_1 => rr_1) (W1 := fun rr_1 => (W_M G q M)) (ws2 := fun rr_1 => (W_M G q M)) C h dX8_isSteadyCaught_5 ml_X8_328 mX8_eastOf (fun v hv => kX8_eastOf q M lx1 lx2 lx3 v hv) (fun rr_1 => ln_M_M_m_n (G := G) (q := q) (M := M)) rfl rfl rfl rfl rfl rfl rfl rfl (fun rr_1 h => ?_)
  refine X.aload_n C dX8_isSteadyCaught_8 rfl 0 rfl ?_
  refine X.iload_n C dX8_isSteadyCaught_9 rfl 1 rfl ?_
  refine X.iload_n C dX8_isSteadyCaught_10 rfl 2 rfl ?_
  refine X.iload_n C dX8_isSteadyCaught_11 rfl 3 rfl ?_
  refine X.callVi (q0 := 0) (As := [vi lx1, vi lx2, vi lx3]) (rest := [vi rr_1, .ref (q 31)]) (g := fun rr_2 => rr_2) (W1 := fun rr_2 => (W_M G q M)) (ws2 := fun rr_2 => (W_M G q M)) C h dX8_isSteadyCaught_12 ml_X8_331 mX8_southOf (fun v hv => kX8_southOf q M lx1 lx2 lx3 v hv) (fun rr_2 => ln_M_M_m_n (G := G) (q := q) (M := M)) rfl rfl rfl rfl rfl rfl rfl rfl (fun rr_2 h => ?_)
  refine X.callVi (q0 := 0) (As := [vi rr_1, vi rr_2]) (rest := []) (g := fun rr_3 => rr_3) (W1 := fun rr_3 => (W_M G q M)) (ws2 := fun rr_3 => (W_M G q M)) C h dX8_isSteadyCaught_15 ml_X8_236 mX8_isCaught (fun v hv => kX8_isCaught q M rr_1 rr_2 v hv) (fun rr_3 => ln_M_M_m_n (G := G) (q := q) (M := M)) rfl rfl rfl rfl rfl rfl rfl rfl (fun rr_3 h => ?_)
  obtain ⟨hz, h⟩ := gd_out h
  cases h
  exact X.zret C hz dX8_isSteadyCaught_18 (Nat.zero_le _) (Nat.zero_le _)
def rX8_isSteadyOn : Room := { frames := 4, cells := 0, slots := 0, locals := 98 }
theorem mX8_isSteadyOn : MV yX8_isSteadyOn cX8_isSteadyOn 6 (some .boolean) 5 := ⟨cd_X8_isSteadyOn, in_X8, ⟨⟨by decide, by decide⟩, by decide +kernel⟩, im_X8_isSteadyOn, se_X8_isSteadyOn⟩
set_option maxHeartbeats 4000000 in
set_option maxRecDepth 100000 in
theorem kX8_isSteadyOn {l : Launch} {G : GT} (q : Nat → Nat) (M : Ob) (lx1 : Int) (lx2 : Int) (lx3 : Int) (lx4 : Int) (lx5 : Int) (v : (Int)) (h : fX8_isSteadyOn M lx1 lx2 lx3 lx4 lx5 = some v) : CT l G yX8_isSteadyOn cX8_isSteadyOn 6 (some .boolean) rX8_isSteadyOn [.ref (q 31), vi lx1, vi lx2, vi lx3, vi lx4, vi lx5] (W_M G q M) (W_M G q M) (some (vi v)) := by
  unfold fX8_isSteadyOn at h
  refine CT.of (by decide) (Nat.le_of_ble_eq_true rfl) rfl (fun κ _ C => ?_)
  refine X.aload_n C dX8_isSteadyOn_0 rfl 0 rfl ?_
  refine X.aload_n C dX8_isSteadyOn_1 rfl 0 rfl ?_
  refine X.aload_n C dX8_isSteadyOn_2 rfl 0 rfl ?_
  refine X.iload_n C dX8_isSteadyOn_3 rfl 1 rfl ?_
  refine X.callVi (q0 := 0) (As := [vi lx1]) (rest := [.ref (q 31), .ref (q 31)]) (g := fun rr_1 => rr_1) (W1 := fun rr_1 => (W_M G q M)) (ws2 := fun rr_1 => (W_M G q M)) C h dX8_isSteadyOn_4 ml_X8_257 mX8_dragOf (fun v hv => kX8_dragOf q M lx1 v hv) (fun rr_1 => ln_M_M_m_n (G := G) (q := q) (M := M)) rfl rfl rfl rfl rfl rfl rfl rfl (fun rr_1 h => ?_)
  refine X.iload_n C dX8_isSteadyOn_7 rfl 2 rfl ?_
  refine X.iload_n C dX8_isSteadyOn_8 rfl 3 rfl ?_
  refine X.callVi (q0 := 0) (As := [vi rr_1, vi lx2, vi lx3]) (rest := [.ref (q 31)]) (g := fun rr_2 => rr_2) (W1 := fun rr_2 => (W_M G q M)) (ws2 := fun rr_2 => (W_M G q M)) C h dX8_isSteadyOn_9 ml_X8_328 mX8_eastOf (fun v hv => kX8_eastOf q M rr_1 lx2 lx3 v hv) (fun rr_2 => ln_M_M_m_n (G := G) (q := q) (M := M)) rfl rfl rfl rfl rfl rfl rfl rfl (fun rr_2 h => ?_)
  refine X.aload_n C dX8_isSteadyOn_12 rfl 0 rfl ?_
  refine X.aload_n C dX8_isSteadyOn_13 rfl 0 rfl ?_
  refine X.iload_n C dX8_isSteadyOn_14 rfl 1 rfl ?_
  refine X.callVi (q0 := 0) (As := [vi lx1]) (rest := [.ref (q 31), vi rr_2, .ref (q 31)]) (g := fun rr_3 => rr_3) (W1 := fun rr_3 => (W_M G q M)) (ws2 := fun rr_3 => (W_M G q M)) C h dX8_isSteadyOn_15 ml_X8_257 mX8_dragOf (fun v hv => kX8_dragOf q M lx1 v hv) (fun rr_3 => ln_M_M_m_n (G := G) (q := q) (M := M)) rfl rfl rfl rfl rfl rfl rfl rfl (fun rr_3 h => ?_)
  refine X.iload_n C dX8_isSteadyOn_18 rfl 2 rfl ?_
  refine X.iload_n C dX8_isSteadyOn_19 rfl 3 rfl ?_
  refine X.callVi (q0 := 0) (As := [vi rr_3, vi lx2, vi lx3]) (rest := [vi rr_2, .ref (q 31)]) (g := fun rr_4 => rr_4) (W1 := fun rr_4 => (W_M G q M)) (ws2 := fun rr_4 => (W_M G q M)) C h dX8_isSteadyOn_20 ml_X8_331 mX8_southOf (fun v hv => kX8_southOf q M rr_3 lx2 lx3 v hv) (fun rr_4 => ln_M_M_m_n (G := G) (q := q) (M := M)) rfl rfl rfl rfl rfl rfl rfl rfl (fun rr_4 h => ?_)
  refine X.iload C dX8_isSteadyOn_23 4 rfl ?_
  refine X.iload C dX8_isSteadyOn_25 5 rfl ?_
  refine X.callVi (q0 := 0) (As := [vi rr_2, vi rr_4, vi lx4, vi lx5]) (rest := []) (g := fun rr_5 => rr_5) (W1 := fun rr_5 => (W_M G q M)) (ws2 := fun rr_5 => (W_M G q M)) C h dX8_isSteadyOn_27 ml_X8_334 mX8_isOn (fun v hv => kX8_isOn q M rr_2 rr_4 lx4 lx5 v hv) (fun rr_5 => ln_M_M_m_n (G := G) (q := q) (M := M)) rfl rfl rfl rfl rfl rfl rfl rfl (fun rr_5 h => ?_)
  obtain ⟨hz, h⟩ := gd_out h
  cases h
  exact X.zret C hz dX8_isSteadyOn_30 (Nat.zero_le _) (Nat.zero_le _)
def rX8_isAnyOn : Room := { frames := 5, cells := 0, slots := 0, locals := 123 }
theorem mX8_isAnyOn : MV yX8_isAnyOn cX8_isAnyOn 7 (some .boolean) 4 := ⟨cd_X8_isAnyOn, in_X8, ⟨⟨by decide, by decide⟩, by decide +kernel⟩, im_X8_isAnyOn, se_X8_isAnyOn⟩
set_option maxHeartbeats 4000000 in
set_option maxRecDepth 100000 in
theorem xX8_isAnyOn_6 {κ : Kx} {G : GT} (C : Cx κ G yX8_isAnyOn cX8_isAnyOn (some .boolean) 7 rX8_isAnyOn) (q : Nat → Nat) (M : Ob) (lx1 : Int) (lx2 : Int) (lx3 : Int) (lx4 : Int) (v : (Int)) : ∀ (n : Nat) (lx5 : Int) (lx6 : Int), lX8_isAnyOn_6 M lx1 lx2 lx3 lx4 n lx5 lx6 = some v → X κ G 7 (W_M G q M) 6 [(0, .ref (q 31)), (1, vi lx1), (2, vi lx2), (3, vi lx3), (4, vi lx4), (5, vi lx5), (6, vi lx6)] [] 0 0 (QM κ G (W_M G q M) (some (vi v)) rX8_isAnyOn.cells rX8_isAnyOn.slots) := by
  intro n
  induction n with
  | zero => intro _ _ h; exact absurd h (fun h => nomatch h)
  | succ n ih =>
    intro lx5 lx6 h
    rw [lX8_isAnyOn_6] at h
    refine X.iload C dX8_isAnyOn_6 6 rfl ?_
    refine X.aload_n C dX8_isAnyOn_8 rfl 0 rfl ?_
    refine X.get C dX8_isAnyOn_9 lay_X8 0 rfl rfl 1 (by decide) fl_X8_13 rfl rfl ?_
    refine X.bipush C dX8_isAnyOn_12 (by decide) ?_
    refine X.iald C h dX8_isAnyOn_14 1 rfl (fun h => ?_)
    refine X.icmp_ge (tgt := 50) C h dX8_isAnyOn_15 (by decide) (fun h => ?_) (fun h => ?_)
    · refine X.iload C dX8_isAnyOn_50 5 rfl ?_
      obtain ⟨hz, h⟩ := gd_out h
      cases h
      exact X.zret C hz dX8_isAnyOn_52 (Nat.zero_le _) (Nat.zero_le _)
    refine X.iload C dX8_isAnyOn_18 5 rfl ?_
    refine X.if_ne (tgt := 37) C h dX8_isAnyOn_20 (by decide) (fun h => ?_) (fun h => ?_)
    · refine X.iconst C dX8_isAnyOn_37 ?_
      refine X.goto (tgt := 42) C dX8_isAnyOn_38 (by decide) ?_
      refine X.istore (lv2 := [(5, vi 1), (0, .ref (q 31)), (1, vi lx1), (2, vi lx2), (3, vi lx3), (4, vi lx4), (6, vi lx6)]) C dX8_isAnyOn_42 (by decide) rfl ?_
      refine X.iincN (lv2 := fun lx6_1 => [(6, vi lx6_1), (5, vi 1), (0, .ref (q 31)), (1, vi lx1), (2, vi lx2), (3, vi lx3), (4, vi lx4)]) C h dX8_isAnyOn_44 6 rfl (by decide) (fun _ => rfl) (fun lx6_1 h => ?_)
      refine X.goto (tgt := 6) C dX8_isAnyOn_47 (by decide) ?_
      refine X.sub [2, 3, 4, 5, 6, 1, 0] rfl ?_
      exact ih 1 lx6_1 h
    refine X.aload_n C dX8_isAnyOn_23 rfl 0 rfl ?_
    refine X.iload C dX8_isAnyOn_24 6 rfl ?_
    refine X.iload_n C dX8_isAnyOn_26 rfl 1 rfl ?_
    refine X.iload_n C dX8_isAnyOn_27 rfl 2 rfl ?_
    refine X.iload_n C dX8_isAnyOn_28 rfl 3 rfl ?_
    refine X.iload C dX8_isAnyOn_29 4 rfl ?_
    refine X.callVi (q0 := 0) (As := [vi lx6, vi lx1, vi lx2, vi lx3, vi lx4]) (rest := []) (g := fun rr_2 => rr_2) (W1 := fun rr_2 => (W_M G q M)) (ws2 := fun rr_2 => (W_M G q M)) C h dX8_isAnyOn_31 ml_X8_338 mX8_isSteadyOn (fun v hv => kX8_isSteadyOn q M lx6 lx1 lx2 lx3 lx4 v hv) (fun rr_2 => ln_M_M_m_n (G := G) (q := q) (M := M)) rfl rfl rfl rfl rfl rfl rfl rfl (fun rr_2 h => ?_)
    refine X.if_eq (tgt := 41) C h dX8_isAnyOn_34 (by decide) (fun h => ?_) (fun h => ?_)
    · refine X.iconst C dX8_isAnyOn_41 ?_
      refine X.istore (lv2 := [(5, vi 0), (0, .ref (q 31)), (1, vi lx1), (2, vi lx2), (3, vi lx3), (4, vi lx4), (6, vi lx6)]) C dX8_isAnyOn_42 (by decide) rfl ?_
      refine X.iincN (lv2 := fun lx6_3 => [(6, vi lx6_3), (5, vi 0), (0, .ref (q 31)), (1, vi lx1), (2, vi lx2), (3, vi lx3), (4, vi lx4)]) C h dX8_isAnyOn_44 6 rfl (by decide) (fun _ => rfl) (fun lx6_3 h => ?_)
      refine X.goto (tgt := 6) C dX8_isAnyOn_47 (by decide) ?_
      refine X.sub [2, 3, 4, 5, 6, 1, 0] rfl ?_
      exact ih 0 lx6_3 h
    refine X.iconst C dX8_isAnyOn_37 ?_
    refine X.goto (tgt := 42) C dX8_isAnyOn_38 (by decide) ?_
    refine X.istore (lv2 := [(5, vi 1), (0, .ref (q 31)), (1, vi lx1), (2, vi lx2), (3, vi lx3), (4, vi lx4), (6, vi lx6)]) C dX8_isAnyOn_42 (by decide) rfl ?_
    refine X.iincN (lv2 := fun lx6_4 => [(6, vi lx6_4), (5, vi 1), (0, .ref (q 31)), (1, vi lx1), (2, vi lx2), (3, vi lx3), (4, vi lx4)]) C h dX8_isAnyOn_44 6 rfl (by decide) (fun _ => rfl) (fun lx6_4 h => ?_)
    refine X.goto (tgt := 6) C dX8_isAnyOn_47 (by decide) ?_
    refine X.sub [2, 3, 4, 5, 6, 1, 0] rfl ?_
    exact ih 1 lx6_4 h
set_option maxHeartbeats 4000000 in
set_option maxRecDepth 100000 in
theorem kX8_isAnyOn {l : Launch} {G : GT} (q : Nat → Nat) (M : Ob) (lx1 : Int) (lx2 : Int) (lx3 : Int) (lx4 : Int) (v : (Int)) (h : fX8_isAnyOn M lx1 lx2 lx3 lx4 = some v) : CT l G yX8_isAnyOn cX8_isAnyOn 7 (some .boolean) rX8_isAnyOn [.ref (q 31), vi lx1, vi lx2, vi lx3, vi lx4] (W_M G q M) (W_M G q M) (some (vi v)) := by
  unfold fX8_isAnyOn at h
  refine CT.of (by decide) (Nat.le_of_ble_eq_true rfl) rfl (fun κ _ C => ?_)
  refine X.iconst C dX8_isAnyOn_0 ?_
  refine X.istore (lv2 := [(5, vi 0), (0, .ref (q 31)), (1, vi lx1), (2, vi lx2), (3, vi lx3), (4, vi lx4)]) C dX8_isAnyOn_1 (by decide) rfl ?_
  refine X.iconst C dX8_isAnyOn_3 ?_
  refine X.istore (lv2 := [(6, vi 0), (5, vi 0), (0, .ref (q 31)), (1, vi lx1), (2, vi lx2), (3, vi lx3), (4, vi lx4)]) C dX8_isAnyOn_4 (by decide) rfl ?_
  refine X.sub [2, 3, 4, 5, 6, 1, 0] rfl ?_
  refine xX8_isAnyOn_6 C q M lx1 lx2 lx3 lx4 v FU 0 0 h
def rX8_strayOf : Room := { frames := 4, cells := 0, slots := 0, locals := 97 }
theorem mX8_strayOf : MV yX8_strayOf cX8_strayOf 5 (some .int) 2 := ⟨cd_X8_strayOf, in_X8, ⟨⟨by decide, by decide⟩, by decide +kernel⟩, im_X8_strayOf, se_X8_strayOf⟩
set_option maxHeartbeats 4000000 in
set_option maxRecDepth 100000 in
theorem xX8_strayOf_5 {κ : Kx} {G : GT} (C : Cx κ G yX8_strayOf cX8_strayOf (some .int) 5 rX8_strayOf) (q : Nat → Nat) (M : Ob) (lx1 : Int) (lx2 : Int) (v : (Int)) : ∀ (n : Nat) (lx3 : Int) (lx4 : Int), lX8_strayOf_5 M lx1 lx2 n lx3 lx4 = some v → X κ G 5 (W_M G q M) 5 [(0, .ref (q 31)), (1, vi lx1), (2, vi lx2), (3, vi lx3), (4, vi lx4)] [] 0 0 (QM κ G (W_M G q M) (some (vi v)) rX8_strayOf.cells rX8_strayOf.slots) := by
  intro n
  induction n with
  | zero => intro _ _ h; exact absurd h (fun h => nomatch h)
  | succ n ih =>
    intro lx3 lx4 h
    rw [lX8_strayOf_5] at h
    refine X.iload C dX8_strayOf_5 4 rfl ?_
    refine X.aload_n C dX8_strayOf_7 rfl 0 rfl ?_
    refine X.get C dX8_strayOf_8 lay_X8 0 rfl rfl 1 (by decide) fl_X8_13 rfl rfl ?_
    refine X.bipush C dX8_strayOf_11 (by decide) ?_
    refine X.iald C h dX8_strayOf_13 1 rfl (fun h => ?_)
    refine X.icmp_ge (tgt := 51) C h dX8_strayOf_14 (by decide) (fun h => ?_) (fun h => ?_)
    · refine X.iload_n C dX8_strayOf_51 rfl 3 rfl ?_
      cases h
      exact X.iret C dX8_strayOf_52 (Nat.zero_le _) (Nat.zero_le _)
    refine X.iload_n C dX8_strayOf_17 rfl 3 rfl ?_
    refine X.aload_n C dX8_strayOf_18 rfl 0 rfl ?_
    refine X.aload_n C dX8_strayOf_19 rfl 0 rfl ?_
    refine X.iload C dX8_strayOf_20 4 rfl ?_
    refine X.callVi (q0 := 0) (As := [vi lx4]) (rest := [.ref (q 31), vi lx3]) (g := fun rr_1 => rr_1) (W1 := fun rr_1 => (W_M G q M)) (ws2 := fun rr_1 => (W_M G q M)) C h dX8_strayOf_22 ml_X8_257 mX8_dragOf (fun v hv => kX8_dragOf q M lx4 v hv) (fun rr_1 => ln_M_M_m_n (G := G) (q := q) (M := M)) rfl rfl rfl rfl rfl rfl rfl rfl (fun rr_1 h => ?_)
    refine X.iload_n C dX8_strayOf_25 rfl 1 rfl ?_
    refine X.iload_n C dX8_strayOf_26 rfl 2 rfl ?_
    refine X.callVi (q0 := 0) (As := [vi rr_1, vi lx1, vi lx2]) (rest := [vi lx3]) (g := fun rr_2 => rr_2) (W1 := fun rr_2 => (W_M G q M)) (ws2 := fun rr_2 => (W_M G q M)) C h dX8_strayOf_27 ml_X8_342 mX8_isSteadyCaught (fun v hv => kX8_isSteadyCaught q M rr_1 lx1 lx2 v hv) (fun rr_2 => ln_M_M_m_n (G := G) (q := q) (M := M)) rfl rfl rfl rfl rfl rfl rfl rfl (fun rr_2 h => ?_)
    refine X.if_eq (tgt := 37) C h dX8_strayOf_30 (by decide) (fun h => ?_) (fun h => ?_)
    · refine X.aload_n C dX8_strayOf_37 rfl 0 rfl ?_
      refine X.iload C dX8_strayOf_38 4 rfl ?_
      refine X.callVi (q0 := 0) (As := [vi lx4]) (rest := [vi lx3]) (g := fun rr_3 => rr_3) (W1 := fun rr_3 => (W_M G q M)) (ws2 := fun rr_3 => (W_M G q M)) C h dX8_strayOf_40 ml_X8_245 mX8_shareOf (fun v hv => kX8_shareOf q M lx4 v hv) (fun rr_3 => ln_M_M_m_n (G := G) (q := q) (M := M)) rfl rfl rfl rfl rfl rfl rfl rfl (fun rr_3 h => ?_)
      refine X.iadd C dX8_strayOf_43 ?_
      refine X.istoreN_n (lv2 := fun lx3_4 => [(3, vi lx3_4), (0, .ref (q 31)), (1, vi lx1), (2, vi lx2), (4, vi lx4)]) C h dX8_strayOf_44 rfl (by decide) (fun _ => rfl) (fun lx3_4 h => ?_)
      refine X.iincN (lv2 := fun lx4_5 => [(4, vi lx4_5), (3, vi lx3_4), (0, .ref (q 31)), (1, vi lx1), (2, vi lx2)]) C h dX8_strayOf_45 4 rfl (by decide) (fun _ => rfl) (fun lx4_5 h => ?_)
      refine X.goto (tgt := 5) C dX8_strayOf_48 (by decide) ?_
      refine X.sub [2, 3, 4, 1, 0] rfl ?_
      exact ih lx3_4 lx4_5 h
    refine X.iconst C dX8_strayOf_33 ?_
    refine X.goto (tgt := 43) C dX8_strayOf_34 (by decide) ?_
    refine X.iadd C dX8_strayOf_43 ?_
    refine X.istoreN_n (lv2 := fun lx3_6 => [(3, vi lx3_6), (0, .ref (q 31)), (1, vi lx1), (2, vi lx2), (4, vi lx4)]) C h dX8_strayOf_44 rfl (by decide) (fun _ => rfl) (fun lx3_6 h => ?_)
    refine X.iincN (lv2 := fun lx4_7 => [(4, vi lx4_7), (3, vi lx3_6), (0, .ref (q 31)), (1, vi lx1), (2, vi lx2)]) C h dX8_strayOf_45 4 rfl (by decide) (fun _ => rfl) (fun lx4_7 h => ?_)
    refine X.goto (tgt := 5) C dX8_strayOf_48 (by decide) ?_
    refine X.sub [2, 3, 4, 1, 0] rfl ?_
    exact ih lx3_6 lx4_7 h
set_option maxHeartbeats 4000000 in
set_option maxRecDepth 100000 in
theorem kX8_strayOf {l : Launch} {G : GT} (q : Nat → Nat) (M : Ob) (lx1 : Int) (lx2 : Int) (v : (Int)) (h : fX8_strayOf M lx1 lx2 = some v) : CT l G yX8_strayOf cX8_strayOf 5 (some .int) rX8_strayOf [.ref (q 31), vi lx1, vi lx2] (W_M G q M) (W_M G q M) (some (vi v)) := by
  unfold fX8_strayOf at h
  refine CT.of (by decide) (Nat.le_of_ble_eq_true rfl) rfl (fun κ _ C => ?_)
  refine X.iconst C dX8_strayOf_0 ?_
  refine X.istore_n (lv2 := [(3, vi 0), (0, .ref (q 31)), (1, vi lx1), (2, vi lx2)]) C dX8_strayOf_1 rfl (by decide) rfl ?_
  refine X.iconst C dX8_strayOf_2 ?_
  refine X.istore (lv2 := [(4, vi 0), (3, vi 0), (0, .ref (q 31)), (1, vi lx1), (2, vi lx2)]) C dX8_strayOf_3 (by decide) rfl ?_
  refine X.sub [2, 3, 4, 1, 0] rfl ?_
  refine xX8_strayOf_5 C q M lx1 lx2 v FU 0 0 h
def rX8_stray : Room := { frames := 5, cells := 0, slots := 0, locals := 121 }
theorem mX8_stray : MV yX8_stray cX8_stray 3 (some .int) 2 := ⟨cd_X8_stray, in_X8, ⟨⟨by decide, by decide⟩, by decide +kernel⟩, im_X8_stray, se_X8_stray⟩
set_option maxHeartbeats 4000000 in
set_option maxRecDepth 100000 in
theorem kX8_stray {l : Launch} {G : GT} (q : Nat → Nat) (M : Ob) (lx1 : Int) (lx2 : Int) (v : (Int)) (h : fX8_stray M lx1 lx2 = some v) : CT l G yX8_stray cX8_stray 3 (some .int) rX8_stray [.ref (q 31), vi lx1, vi lx2] (W_M G q M) (W_M G q M) (some (vi v)) := by
  unfold fX8_stray at h
  refine CT.of (by decide) (Nat.le_of_ble_eq_true rfl) rfl (fun κ _ C => ?_)
  refine X.aload_n C dX8_stray_0 rfl 0 rfl ?_
  refine X.callVi (q0 := 0) (As := []) (rest := []) (g := fun rr_1 => rr_1) (W1 := fun rr_1 => (W_M G q M)) (ws2 := fun rr_1 => (W_M G q M)) C h dX8_stray_1 ml_X8_278 mX8_isSquare (fun v hv => kX8_isSquare q M v hv) (fun rr_1 => ln_M_M_m_n (G := G) (q := q) (M := M)) rfl rfl rfl rfl rfl rfl rfl rfl (fun rr_1 h => ?_)
  refine X.if_eq (tgt := 31) C h dX8_stray_4 (by decide) (fun h => ?_) (fun h => ?_)
  · refine X.bipush C dX8_stray_31 (by decide) ?_
    cases h
    exact X.iret C dX8_stray_33 (Nat.zero_le _) (Nat.zero_le _)
  refine X.iload_n C dX8_stray_7 rfl 1 rfl ?_
  refine X.callSi (As := [vi lx1]) (rest := []) (g := fun rr_2 => rr_2) (W1 := fun rr_2 => W_0) (ws2 := fun rr_2 => (W_M G q M)) C h dX8_stray_8 ml_X8_216 mX8_isHigh (fun v hv => kX8_isHigh lx1 v hv) (fun rr_2 => ln_M_0__n (G := G) (q := q) (M := M)) rfl rfl rfl rfl rfl rfl (fun rr_2 h => ?_)
  refine X.if_eq (tgt := 31) C h dX8_stray_11 (by decide) (fun h => ?_) (fun h => ?_)
  · refine X.bipush C dX8_stray_31 (by decide) ?_
    cases h
    exact X.iret C dX8_stray_33 (Nat.zero_le _) (Nat.zero_le _)
  refine X.iload_n C dX8_stray_14 rfl 2 rfl ?_
  refine X.i2l C dX8_stray_15 ?_
  refine X.callSi (As := [vl (jwl lx2)]) (rest := []) (g := fun rr_3 => rr_3) (W1 := fun rr_3 => W_0) (ws2 := fun rr_3 => (W_M G q M)) C h dX8_stray_16 ml_X8_281 mX8_isWind (fun v hv => kX8_isWind (jwl lx2) v hv) (fun rr_3 => ln_M_0__n (G := G) (q := q) (M := M)) rfl rfl rfl rfl rfl rfl (fun rr_3 h => ?_)
  refine X.if_eq (tgt := 31) C h dX8_stray_19 (by decide) (fun h => ?_) (fun h => ?_)
  · refine X.bipush C dX8_stray_31 (by decide) ?_
    cases h
    exact X.iret C dX8_stray_33 (Nat.zero_le _) (Nat.zero_le _)
  refine X.aload_n C dX8_stray_22 rfl 0 rfl ?_
  refine X.iload_n C dX8_stray_23 rfl 1 rfl ?_
  refine X.iload_n C dX8_stray_24 rfl 2 rfl ?_
  refine X.callVi (q0 := 0) (As := [vi lx1, vi lx2]) (rest := []) (g := fun rr_4 => rr_4) (W1 := fun rr_4 => (W_M G q M)) (ws2 := fun rr_4 => (W_M G q M)) C h dX8_stray_25 ml_X8_346 mX8_strayOf (fun v hv => kX8_strayOf q M lx1 lx2 v hv) (fun rr_4 => ln_M_M_m_n (G := G) (q := q) (M := M)) rfl rfl rfl rfl rfl rfl rfl rfl (fun rr_4 h => ?_)
  refine X.goto (tgt := 33) C dX8_stray_28 (by decide) ?_
  cases h
  exact X.iret C dX8_stray_33 (Nat.zero_le _) (Nat.zero_le _)
def rX8_low : Room := { frames := 5, cells := 0, slots := 0, locals := 121 }
theorem mX8_low : MV yX8_low cX8_low 4 (some .int) 2 := ⟨cd_X8_low, in_X8, ⟨⟨by decide, by decide⟩, by decide +kernel⟩, im_X8_low, se_X8_low⟩
set_option maxHeartbeats 4000000 in
set_option maxRecDepth 100000 in
theorem xX8_low_32 {κ : Kx} {G : GT} (C : Cx κ G yX8_low cX8_low (some .int) 4 rX8_low) (q : Nat → Nat) (M : Ob) (lx1 : Int) (lx2 : Int) (v : (Int)) : ∀ (n : Nat) (lx3 : Int), lX8_low_32 M lx1 lx2 n lx3 = some v → X κ G 4 (W_M G q M) 32 [(0, .ref (q 31)), (1, vi lx1), (2, vi lx2), (3, vi lx3)] [] 0 0 (QM κ G (W_M G q M) (some (vi v)) rX8_low.cells rX8_low.slots) := by
  intro n
  induction n with
  | zero => intro _ h; exact absurd h (fun h => nomatch h)
  | succ n ih =>
    intro lx3 h
    rw [lX8_low_32] at h
    refine X.iload_n C dX8_low_32 rfl 3 rfl ?_
    refine X.bipush C dX8_low_33 (by decide) ?_
    refine X.icmp_ge (tgt := 56) C h dX8_low_35 (by decide) (fun h => ?_) (fun h => ?_)
    · refine X.iload_n C dX8_low_56 rfl 3 rfl ?_
      cases h
      exact X.iret C dX8_low_57 (Nat.zero_le _) (Nat.zero_le _)
    refine X.aload_n C dX8_low_38 rfl 0 rfl ?_
    refine X.iload_n C dX8_low_39 rfl 3 rfl ?_
    refine X.iconst C dX8_low_40 ?_
    refine X.iadd C dX8_low_41 ?_
    refine X.iload_n C dX8_low_42 rfl 1 rfl ?_
    refine X.callVi (q0 := 0) (As := [vi (lx3 + 1), vi lx1]) (rest := []) (g := fun rr_4 => rr_4) (W1 := fun rr_4 => (W_M G q M)) (ws2 := fun rr_4 => (W_M G q M)) C h dX8_low_43 ml_X8_346 mX8_strayOf (fun v hv => kX8_strayOf q M (lx3 + 1) lx1 v hv) (fun rr_4 => ln_M_M_m_n (G := G) (q := q) (M := M)) rfl rfl rfl rfl rfl rfl rfl rfl (fun rr_4 h => ?_)
    refine X.iload_n C dX8_low_46 rfl 2 rfl ?_
    refine X.icmp_gt (tgt := 56) C h dX8_low_47 (by decide) (fun h => ?_) (fun h => ?_)
    · refine X.iload_n C dX8_low_56 rfl 3 rfl ?_
      cases h
      exact X.iret C dX8_low_57 (Nat.zero_le _) (Nat.zero_le _)
    refine X.iincN (lv2 := fun lx3_5 => [(3, vi lx3_5), (0, .ref (q 31)), (1, vi lx1), (2, vi lx2)]) C h dX8_low_50 3 rfl (by decide) (fun _ => rfl) (fun lx3_5 h => ?_)
    refine X.goto (tgt := 32) C dX8_low_53 (by decide) ?_
    refine X.sub [1, 2, 3, 0] rfl ?_
    exact ih lx3_5 h
set_option maxHeartbeats 4000000 in
set_option maxRecDepth 100000 in
theorem kX8_low {l : Launch} {G : GT} (q : Nat → Nat) (M : Ob) (lx1 : Int) (lx2 : Int) (v : (Int)) (h : fX8_low M lx1 lx2 = some v) : CT l G yX8_low cX8_low 4 (some .int) rX8_low [.ref (q 31), vi lx1, vi lx2] (W_M G q M) (W_M G q M) (some (vi v)) := by
  unfold fX8_low at h
  refine CT.of (by decide) (Nat.le_of_ble_eq_true rfl) rfl (fun κ _ C => ?_)
  refine X.aload_n C dX8_low_0 rfl 0 rfl ?_
  refine X.callVi (q0 := 0) (As := []) (rest := []) (g := fun rr_1 => rr_1) (W1 := fun rr_1 => (W_M G q M)) (ws2 := fun rr_1 => (W_M G q M)) C h dX8_low_1 ml_X8_278 mX8_isSquare (fun v hv => kX8_isSquare q M v hv) (fun rr_1 => ln_M_M_m_n (G := G) (q := q) (M := M)) rfl rfl rfl rfl rfl rfl rfl rfl (fun rr_1 h => ?_)
  refine X.if_eq (tgt := 27) C h dX8_low_4 (by decide) (fun h => ?_) (fun h => ?_)
  · refine X.bipush C dX8_low_27 (by decide) ?_
    cases h
    exact X.iret C dX8_low_29 (Nat.zero_le _) (Nat.zero_le _)
  refine X.iload_n C dX8_low_7 rfl 1 rfl ?_
  refine X.i2l C dX8_low_8 ?_
  refine X.callSi (As := [vl (jwl lx1)]) (rest := []) (g := fun rr_2 => rr_2) (W1 := fun rr_2 => W_0) (ws2 := fun rr_2 => (W_M G q M)) C h dX8_low_9 ml_X8_281 mX8_isWind (fun v hv => kX8_isWind (jwl lx1) v hv) (fun rr_2 => ln_M_0__n (G := G) (q := q) (M := M)) rfl rfl rfl rfl rfl rfl (fun rr_2 h => ?_)
  refine X.if_eq (tgt := 27) C h dX8_low_12 (by decide) (fun h => ?_) (fun h => ?_)
  · refine X.bipush C dX8_low_27 (by decide) ?_
    cases h
    exact X.iret C dX8_low_29 (Nat.zero_le _) (Nat.zero_le _)
  refine X.iload_n C dX8_low_15 rfl 2 rfl ?_
  refine X.i2l C dX8_low_16 ?_
  refine X.lconst (z := 0) C dX8_low_17 (by decide) ?_
  refine X.ldc2 (z := 99) C cl_X8_349 (by decide) dX8_low_18 ?_
  refine X.callSi (As := [vl (jwl lx2), vl 0, vl 99]) (rest := []) (g := fun rr_3 => rr_3) (W1 := fun rr_3 => W_0) (ws2 := fun rr_3 => (W_M G q M)) C h dX8_low_21 ml_X8_68 mX8_in (fun v hv => kX8_in (jwl lx2) 0 99 v hv) (fun rr_3 => ln_M_0__n (G := G) (q := q) (M := M)) rfl rfl rfl rfl rfl rfl (fun rr_3 h => ?_)
  refine X.if_ne (tgt := 30) C h dX8_low_24 (by decide) (fun h => ?_) (fun h => ?_)
  · refine X.iconst C dX8_low_30 ?_
    refine X.istore_n (lv2 := [(3, vi 0), (0, .ref (q 31)), (1, vi lx1), (2, vi lx2)]) C dX8_low_31 rfl (by decide) rfl ?_
    refine X.sub [1, 2, 3, 0] rfl ?_
    refine xX8_low_32 C q M lx1 lx2 v FU 0 h
  refine X.bipush C dX8_low_27 (by decide) ?_
  cases h
  exact X.iret C dX8_low_29 (Nat.zero_le _) (Nat.zero_le _)
def rX8_bound : Room := { frames := 6, cells := 0, slots := 0, locals := 149 }
theorem mX8_bound : MV yX8_bound cX8_bound 4 (some .int) 2 := ⟨cd_X8_bound, in_X8, ⟨⟨by decide, by decide⟩, by decide +kernel⟩, im_X8_bound, se_X8_bound⟩
set_option maxHeartbeats 4000000 in
set_option maxRecDepth 100000 in
theorem xX8_bound_21 {κ : Kx} {G : GT} (C : Cx κ G yX8_bound cX8_bound (some .int) 4 rX8_bound) (q : Nat → Nat) (M : Ob) (lx1 : Int) (lx2 : Int) (v : (Int)) : ∀ (n : Nat) (lx3 : Int), lX8_bound_21 M lx1 lx2 n lx3 = some v → X κ G 4 (W_M G q M) 21 [(0, .ref (q 31)), (1, vi lx1), (2, vi lx2), (3, vi lx3)] [] 0 0 (QM κ G (W_M G q M) (some (vi v)) rX8_bound.cells rX8_bound.slots) := by
  intro n
  induction n with
  | zero => intro _ h; exact absurd h (fun h => nomatch h)
  | succ n ih =>
    intro lx3 h
    rw [lX8_bound_21] at h
    refine X.iload_n C dX8_bound_21 rfl 3 rfl ?_
    refine X.bipush C dX8_bound_22 (by decide) ?_
    refine X.icmp_ge (tgt := 56) C h dX8_bound_24 (by decide) (fun h => ?_) (fun h => ?_)
    · refine X.iload_n C dX8_bound_56 rfl 3 rfl ?_
      cases h
      exact X.iret C dX8_bound_57 (Nat.zero_le _) (Nat.zero_le _)
    refine X.aload_n C dX8_bound_27 rfl 0 rfl ?_
    refine X.iload_n C dX8_bound_28 rfl 3 rfl ?_
    refine X.iconst C dX8_bound_29 ?_
    refine X.iadd C dX8_bound_30 ?_
    refine X.iload_n C dX8_bound_31 rfl 2 rfl ?_
    refine X.aload_n C dX8_bound_32 rfl 0 rfl ?_
    refine X.iload_n C dX8_bound_33 rfl 1 rfl ?_
    refine X.iconst C dX8_bound_34 ?_
    refine X.callVi (q0 := 0) (As := [vi lx1, vi 0]) (rest := [vi lx2, vi (lx3 + 1), .ref (q 31)]) (g := fun rr_3 => rr_3) (W1 := fun rr_3 => (W_M G q M)) (ws2 := fun rr_3 => (W_M G q M)) C h dX8_bound_35 ml_X8_72 mX8_ofTable (fun v hv => kX8_ofTable q M lx1 0 v hv) (fun rr_3 => ln_M_M_m_n (G := G) (q := q) (M := M)) rfl rfl rfl rfl rfl rfl rfl rfl (fun rr_3 h => ?_)
    refine X.aload_n C dX8_bound_38 rfl 0 rfl ?_
    refine X.iload_n C dX8_bound_39 rfl 1 rfl ?_
    refine X.iconst C dX8_bound_40 ?_
    refine X.callVi (q0 := 0) (As := [vi lx1, vi 1]) (rest := [vi rr_3, vi lx2, vi (lx3 + 1), .ref (q 31)]) (g := fun rr_4 => rr_4) (W1 := fun rr_4 => (W_M G q M)) (ws2 := fun rr_4 => (W_M G q M)) C h dX8_bound_41 ml_X8_72 mX8_ofTable (fun v hv => kX8_ofTable q M lx1 1 v hv) (fun rr_4 => ln_M_M_m_n (G := G) (q := q) (M := M)) rfl rfl rfl rfl rfl rfl rfl rfl (fun rr_4 h => ?_)
    refine X.callVi (q0 := 0) (As := [vi (lx3 + 1), vi lx2, vi rr_3, vi rr_4]) (rest := []) (g := fun rr_5 => rr_5) (W1 := fun rr_5 => (W_M G q M)) (ws2 := fun rr_5 => (W_M G q M)) C h dX8_bound_44 ml_X8_351 mX8_isAnyOn (fun v hv => kX8_isAnyOn q M (lx3 + 1) lx2 rr_3 rr_4 v hv) (fun rr_5 => ln_M_M_m_n (G := G) (q := q) (M := M)) rfl rfl rfl rfl rfl rfl rfl rfl (fun rr_5 h => ?_)
    refine X.if_ne (tgt := 56) C h dX8_bound_47 (by decide) (fun h => ?_) (fun h => ?_)
    · refine X.iload_n C dX8_bound_56 rfl 3 rfl ?_
      cases h
      exact X.iret C dX8_bound_57 (Nat.zero_le _) (Nat.zero_le _)
    refine X.iincN (lv2 := fun lx3_6 => [(3, vi lx3_6), (0, .ref (q 31)), (1, vi lx1), (2, vi lx2)]) C h dX8_bound_50 3 rfl (by decide) (fun _ => rfl) (fun lx3_6 h => ?_)
    refine X.goto (tgt := 21) C dX8_bound_53 (by decide) ?_
    refine X.sub [1, 2, 3, 0] rfl ?_
    exact ih lx3_6 h
set_option maxHeartbeats 4000000 in
set_option maxRecDepth 100000 in
theorem kX8_bound {l : Launch} {G : GT} (q : Nat → Nat) (M : Ob) (lx1 : Int) (lx2 : Int) (v : (Int)) (h : fX8_bound M lx1 lx2 = some v) : CT l G yX8_bound cX8_bound 4 (some .int) rX8_bound [.ref (q 31), vi lx1, vi lx2] (W_M G q M) (W_M G q M) (some (vi v)) := by
  unfold fX8_bound at h
  refine CT.of (by decide) (Nat.le_of_ble_eq_true rfl) rfl (fun κ _ C => ?_)
  refine X.aload_n C dX8_bound_0 rfl 0 rfl ?_
  refine X.iload_n C dX8_bound_1 rfl 1 rfl ?_
  refine X.callVi (q0 := 0) (As := [vi lx1]) (rest := []) (g := fun rr_1 => rr_1) (W1 := fun rr_1 => (W_M G q M)) (ws2 := fun rr_1 => (W_M G q M)) C h dX8_bound_2 ml_X8_302 mX8_isTable (fun v hv => kX8_isTable q M lx1 v hv) (fun rr_1 => ln_M_M_m_n (G := G) (q := q) (M := M)) rfl rfl rfl rfl rfl rfl rfl rfl (fun rr_1 h => ?_)
  refine X.if_eq (tgt := 16) C h dX8_bound_5 (by decide) (fun h => ?_) (fun h => ?_)
  · refine X.bipush C dX8_bound_16 (by decide) ?_
    cases h
    exact X.iret C dX8_bound_18 (Nat.zero_le _) (Nat.zero_le _)
  refine X.iload_n C dX8_bound_8 rfl 2 rfl ?_
  refine X.i2l C dX8_bound_9 ?_
  refine X.callSi (As := [vl (jwl lx2)]) (rest := []) (g := fun rr_2 => rr_2) (W1 := fun rr_2 => W_0) (ws2 := fun rr_2 => (W_M G q M)) C h dX8_bound_10 ml_X8_281 mX8_isWind (fun v hv => kX8_isWind (jwl lx2) v hv) (fun rr_2 => ln_M_0__n (G := G) (q := q) (M := M)) rfl rfl rfl rfl rfl rfl (fun rr_2 h => ?_)
  refine X.if_ne (tgt := 19) C h dX8_bound_13 (by decide) (fun h => ?_) (fun h => ?_)
  · refine X.iconst C dX8_bound_19 ?_
    refine X.istore_n (lv2 := [(3, vi 0), (0, .ref (q 31)), (1, vi lx1), (2, vi lx2)]) C dX8_bound_20 rfl (by decide) rfl ?_
    refine X.sub [1, 2, 3, 0] rfl ?_
    refine xX8_bound_21 C q M lx1 lx2 v FU 0 h
  refine X.bipush C dX8_bound_16 (by decide) ?_
  cases h
  exact X.iret C dX8_bound_18 (Nat.zero_le _) (Nat.zero_le _)
def rX8_reach : Room := { frames := 6, cells := 0, slots := 0, locals := 149 }
theorem mX8_reach : MV yX8_reach cX8_reach 6 (some .int) 2 := ⟨cd_X8_reach, in_X8, ⟨⟨by decide, by decide⟩, by decide +kernel⟩, im_X8_reach, se_X8_reach⟩
set_option maxHeartbeats 4000000 in
set_option maxRecDepth 100000 in
theorem xX8_reach_38 {κ : Kx} {G : GT} (C : Cx κ G yX8_reach cX8_reach (some .int) 6 rX8_reach) (q : Nat → Nat) (M : Ob) (lx1 : Int) (lx2 : Int) (lx4 : Int) (kx0 : Int → Option (Int)) (v : (Int)) (hk0 : ∀ (lx3 : Int), kx0 lx3 = some v → X κ G 6 (W_M G q M) 90 [(0, .ref (q 31)), (1, vi lx1), (2, vi lx2), (3, vi lx3), (4, vi lx4)] [] 0 0 (QM κ G (W_M G q M) (some (vi v)) rX8_reach.cells rX8_reach.slots)) : ∀ (n : Nat) (lx3 : Int) (lx5 : Int), lX8_reach_38 M lx1 lx2 lx4 kx0 n lx3 lx5 = some v → X κ G 6 (W_M G q M) 38 [(0, .ref (q 31)), (1, vi lx1), (2, vi lx2), (3, vi lx3), (4, vi lx4), (5, vi lx5)] [] 0 0 (QM κ G (W_M G q M) (some (vi v)) rX8_reach.cells rX8_reach.slots) := by
  intro n
  induction n with
  | zero => intro _ _ h; exact absurd h (fun h => nomatch h)
  | succ n ih =>
    intro lx3 lx5 h
    rw [lX8_reach_38] at h
    refine X.iload C dX8_reach_38 5 rfl ?_
    refine X.bipush C dX8_reach_40 (by decide) ?_
    refine X.icmp_gt (tgt := 90) C h dX8_reach_42 (by decide) (fun h => ?_) (fun h => ?_)
    · refine X.sub [0, 1, 2, 3, 4] rfl ?_
      exact hk0 lx3 h
    refine X.iload_n C dX8_reach_45 rfl 3 rfl ?_
    refine X.aload_n C dX8_reach_46 rfl 0 rfl ?_
    refine X.iload C dX8_reach_47 5 rfl ?_
    refine X.bipush C dX8_reach_49 (by decide) ?_
    refine X.iload_n C dX8_reach_51 rfl 2 rfl ?_
    refine X.imul C dX8_reach_52 ?_
    refine X.iload C dX8_reach_53 4 rfl ?_
    refine X.iadd C dX8_reach_55 ?_
    refine X.aload_n C dX8_reach_56 rfl 0 rfl ?_
    refine X.iload_n C dX8_reach_57 rfl 1 rfl ?_
    refine X.iconst C dX8_reach_58 ?_
    refine X.callVi (q0 := 0) (As := [vi lx1, vi 0]) (rest := [vi ((10 * lx2) + lx4), vi lx5, .ref (q 31), vi lx3]) (g := fun rr_3 => rr_3) (W1 := fun rr_3 => (W_M G q M)) (ws2 := fun rr_3 => (W_M G q M)) C h dX8_reach_59 ml_X8_72 mX8_ofTable (fun v hv => kX8_ofTable q M lx1 0 v hv) (fun rr_3 => ln_M_M_m_n (G := G) (q := q) (M := M)) rfl rfl rfl rfl rfl rfl rfl rfl (fun rr_3 h => ?_)
    refine X.aload_n C dX8_reach_62 rfl 0 rfl ?_
    refine X.iload_n C dX8_reach_63 rfl 1 rfl ?_
    refine X.iconst C dX8_reach_64 ?_
    refine X.callVi (q0 := 0) (As := [vi lx1, vi 1]) (rest := [vi rr_3, vi ((10 * lx2) + lx4), vi lx5, .ref (q 31), vi lx3]) (g := fun rr_4 => rr_4) (W1 := fun rr_4 => (W_M G q M)) (ws2 := fun rr_4 => (W_M G q M)) C h dX8_reach_65 ml_X8_72 mX8_ofTable (fun v hv => kX8_ofTable q M lx1 1 v hv) (fun rr_4 => ln_M_M_m_n (G := G) (q := q) (M := M)) rfl rfl rfl rfl rfl rfl rfl rfl (fun rr_4 h => ?_)
    refine X.callVi (q0 := 0) (As := [vi lx5, vi ((10 * lx2) + lx4), vi rr_3, vi rr_4]) (rest := [vi lx3]) (g := fun rr_5 => rr_5) (W1 := fun rr_5 => (W_M G q M)) (ws2 := fun rr_5 => (W_M G q M)) C h dX8_reach_68 ml_X8_351 mX8_isAnyOn (fun v hv => kX8_isAnyOn q M lx5 ((10 * lx2) + lx4) rr_3 rr_4 v hv) (fun rr_5 => ln_M_M_m_n (G := G) (q := q) (M := M)) rfl rfl rfl rfl rfl rfl rfl rfl (fun rr_5 h => ?_)
    refine X.if_eq (tgt := 81) C h dX8_reach_71 (by decide) (fun h => ?_) (fun h => ?_)
    · refine X.iconst C dX8_reach_81 ?_
      refine X.ior C dX8_reach_82 ?_
      refine X.istoreN_n (lv2 := fun lx3_6 => [(3, vi lx3_6), (0, .ref (q 31)), (1, vi lx1), (2, vi lx2), (4, vi lx4), (5, vi lx5)]) C h dX8_reach_83 rfl (by decide) (fun _ => rfl) (fun lx3_6 h => ?_)
      refine X.iincN (lv2 := fun lx5_7 => [(5, vi lx5_7), (3, vi lx3_6), (0, .ref (q 31)), (1, vi lx1), (2, vi lx2), (4, vi lx4)]) C h dX8_reach_84 5 rfl (by decide) (fun _ => rfl) (fun lx5_7 h => ?_)
      refine X.goto (tgt := 38) C dX8_reach_87 (by decide) ?_
      refine X.sub [2, 3, 4, 1, 5, 0] rfl ?_
      exact ih lx3_6 lx5_7 h
    refine X.iconst C dX8_reach_74 ?_
    refine X.iload C dX8_reach_75 4 rfl ?_
    refine X.ishl C dX8_reach_77 ?_
    refine X.goto (tgt := 82) C dX8_reach_78 (by decide) ?_
    refine X.ior C dX8_reach_82 ?_
    refine X.istoreN_n (lv2 := fun lx3_8 => [(3, vi lx3_8), (0, .ref (q 31)), (1, vi lx1), (2, vi lx2), (4, vi lx4), (5, vi lx5)]) C h dX8_reach_83 rfl (by decide) (fun _ => rfl) (fun lx3_8 h => ?_)
    refine X.iincN (lv2 := fun lx5_9 => [(5, vi lx5_9), (3, vi lx3_8), (0, .ref (q 31)), (1, vi lx1), (2, vi lx2), (4, vi lx4)]) C h dX8_reach_84 5 rfl (by decide) (fun _ => rfl) (fun lx5_9 h => ?_)
    refine X.goto (tgt := 38) C dX8_reach_87 (by decide) ?_
    refine X.sub [2, 3, 4, 1, 5, 0] rfl ?_
    exact ih lx3_8 lx5_9 h
set_option maxHeartbeats 4000000 in
set_option maxRecDepth 100000 in
theorem xX8_reach_28 {κ : Kx} {G : GT} (C : Cx κ G yX8_reach cX8_reach (some .int) 6 rX8_reach) (q : Nat → Nat) (M : Ob) (lx1 : Int) (lx2 : Int) (v : (Int)) : ∀ (n : Nat) (lx3 : Int) (lx4 : Int), lX8_reach_28 M lx1 lx2 n lx3 lx4 = some v → X κ G 6 (W_M G q M) 28 [(0, .ref (q 31)), (1, vi lx1), (2, vi lx2), (3, vi lx3), (4, vi lx4)] [] 0 0 (QM κ G (W_M G q M) (some (vi v)) rX8_reach.cells rX8_reach.slots) := by
  intro n
  induction n with
  | zero => intro _ _ h; exact absurd h (fun h => nomatch h)
  | succ n ih =>
    intro lx3 lx4 h
    rw [lX8_reach_28] at h
    refine X.iload C dX8_reach_28 4 rfl ?_
    refine X.bipush C dX8_reach_30 (by decide) ?_
    refine X.icmp_ge (tgt := 96) C h dX8_reach_32 (by decide) (fun h => ?_) (fun h => ?_)
    · refine X.iload_n C dX8_reach_96 rfl 3 rfl ?_
      cases h
      exact X.iret C dX8_reach_97 (Nat.zero_le _) (Nat.zero_le _)
    refine X.iconst C dX8_reach_35 ?_
    refine X.istore (lv2 := [(5, vi 1), (0, .ref (q 31)), (1, vi lx1), (2, vi lx2), (3, vi lx3), (4, vi lx4)]) C dX8_reach_36 (by decide) rfl ?_
    refine X.sub [1, 2, 3, 4, 5, 0] rfl ?_
    refine xX8_reach_38 C q M lx1 lx2 lx4 _ v (fun lx3_10 h => ?_) FU lx3 1 h
    · refine X.iincN (lv2 := fun lx4_11 => [(4, vi lx4_11), (0, .ref (q 31)), (1, vi lx1), (2, vi lx2), (3, vi lx3_10)]) C h dX8_reach_90 4 rfl (by decide) (fun _ => rfl) (fun lx4_11 h => ?_)
      refine X.goto (tgt := 28) C dX8_reach_93 (by decide) ?_
      refine X.sub [1, 2, 3, 4, 0] rfl ?_
      exact ih lx3_10 lx4_11 h
set_option maxHeartbeats 4000000 in
set_option maxRecDepth 100000 in
theorem kX8_reach {l : Launch} {G : GT} (q : Nat → Nat) (M : Ob) (lx1 : Int) (lx2 : Int) (v : (Int)) (h : fX8_reach M lx1 lx2 = some v) : CT l G yX8_reach cX8_reach 6 (some .int) rX8_reach [.ref (q 31), vi lx1, vi lx2] (W_M G q M) (W_M G q M) (some (vi v)) := by
  unfold fX8_reach at h
  refine CT.of (by decide) (Nat.le_of_ble_eq_true rfl) rfl (fun κ _ C => ?_)
  refine X.aload_n C dX8_reach_0 rfl 0 rfl ?_
  refine X.iload_n C dX8_reach_1 rfl 1 rfl ?_
  refine X.callVi (q0 := 0) (As := [vi lx1]) (rest := []) (g := fun rr_1 => rr_1) (W1 := fun rr_1 => (W_M G q M)) (ws2 := fun rr_1 => (W_M G q M)) C h dX8_reach_2 ml_X8_302 mX8_isTable (fun v hv => kX8_isTable q M lx1 v hv) (fun rr_1 => ln_M_M_m_n (G := G) (q := q) (M := M)) rfl rfl rfl rfl rfl rfl rfl rfl (fun rr_1 h => ?_)
  refine X.if_eq (tgt := 20) C h dX8_reach_5 (by decide) (fun h => ?_) (fun h => ?_)
  · refine X.bipush C dX8_reach_20 (by decide) ?_
    cases h
    exact X.iret C dX8_reach_22 (Nat.zero_le _) (Nat.zero_le _)
  refine X.iload_n C dX8_reach_8 rfl 2 rfl ?_
  refine X.i2l C dX8_reach_9 ?_
  refine X.lconst (z := 0) C dX8_reach_10 (by decide) ?_
  refine X.ldc2 (z := 3) C cl_X8_305 (by decide) dX8_reach_11 ?_
  refine X.callSi (As := [vl (jwl lx2), vl 0, vl 3]) (rest := []) (g := fun rr_2 => rr_2) (W1 := fun rr_2 => W_0) (ws2 := fun rr_2 => (W_M G q M)) C h dX8_reach_14 ml_X8_68 mX8_in (fun v hv => kX8_in (jwl lx2) 0 3 v hv) (fun rr_2 => ln_M_0__n (G := G) (q := q) (M := M)) rfl rfl rfl rfl rfl rfl (fun rr_2 h => ?_)
  refine X.if_ne (tgt := 23) C h dX8_reach_17 (by decide) (fun h => ?_) (fun h => ?_)
  · refine X.iconst C dX8_reach_23 ?_
    refine X.istore_n (lv2 := [(3, vi 0), (0, .ref (q 31)), (1, vi lx1), (2, vi lx2)]) C dX8_reach_24 rfl (by decide) rfl ?_
    refine X.iconst C dX8_reach_25 ?_
    refine X.istore (lv2 := [(4, vi 0), (3, vi 0), (0, .ref (q 31)), (1, vi lx1), (2, vi lx2)]) C dX8_reach_26 (by decide) rfl ?_
    refine X.sub [2, 3, 4, 1, 0] rfl ?_
    refine xX8_reach_28 C q M lx1 lx2 v FU 0 0 h
  refine X.bipush C dX8_reach_20 (by decide) ?_
  cases h
  exact X.iret C dX8_reach_22 (Nat.zero_le _) (Nat.zero_le _)
def rX8_dueX : Room := { frames := 1, cells := 0, slots := 0, locals := 21 }
theorem mX8_dueX : MV yX8_dueX cX8_dueX 5 (some .int) 3 := ⟨cd_X8_dueX, in_X8, ⟨⟨by decide, by decide⟩, by decide +kernel⟩, im_X8_dueX, se_X8_dueX⟩
set_option maxHeartbeats 4000000 in
set_option maxRecDepth 100000 in
theorem kX8_dueX {l : Launch} {G : GT} (q : Nat → Nat) (M : Ob) (lx1 : Int) (lx2 : Int) (lx3 : Int) (v : (Int)) (h : fX8_dueX M lx1 lx2 lx3 = some v) : CT l G yX8_dueX cX8_dueX 5 (some .int) rX8_dueX [.ref (q 31), vi lx1, vi lx2, vi lx3] (W_M G q M) (W_M G q M) (some (vi v)) := by
  unfold fX8_dueX at h
  refine CT.of (by decide) (Nat.le_of_ble_eq_true rfl) rfl (fun κ _ C => ?_)
  refine X.aload_n C dX8_dueX_0 rfl 0 rfl ?_
  refine X.iload_n C dX8_dueX_1 rfl 1 rfl ?_
  refine X.callVi (q0 := 0) (As := [vi lx1]) (rest := []) (g := fun rr_1 => rr_1) (W1 := fun rr_1 => (W_M G q M)) (ws2 := fun rr_1 => (W_M G q M)) C h dX8_dueX_2 ml_X8_239 mX8_lump (fun v hv => kX8_lump q M lx1 v hv) (fun rr_1 => ln_M_M_m_n (G := G) (q := q) (M := M)) rfl rfl rfl rfl rfl rfl rfl rfl (fun rr_1 h => ?_)
  refine X.istore (lv2 := [(4, vi rr_1), (0, .ref (q 31)), (1, vi lx1), (2, vi lx2), (3, vi lx3)]) C dX8_dueX_5 (by decide) rfl ?_
  refine X.aload_n C dX8_dueX_7 rfl 1 rfl ?_
  refine X.get C dX8_dueX_8 lay_X8 0 rfl rfl 1 (by decide) fl_X8_13 rfl rfl ?_
  refine X.iload C dX8_dueX_11 0 rfl ?_
  refine X.iconst C dX8_dueX_13 ?_
  refine X.iadd C dX8_dueX_14 ?_
  refine X.iald C h dX8_dueX_15 1 rfl (fun h => ?_)
  refine X.aload_n C dX8_dueX_16 rfl 1 rfl ?_
  refine X.get C dX8_dueX_17 lay_X8 0 rfl rfl 1 (by decide) fl_X8_13 rfl rfl ?_
  refine X.iload C dX8_dueX_20 0 rfl ?_
  refine X.iconst C dX8_dueX_22 ?_
  refine X.iadd C dX8_dueX_23 ?_
  refine X.iconst C dX8_dueX_24 ?_
  refine X.iload_n C dX8_dueX_25 rfl 3 rfl ?_
  refine X.imul C dX8_dueX_26 ?_
  refine X.iadd C dX8_dueX_27 ?_
  refine X.iald C h dX8_dueX_28 1 rfl (fun h => ?_)
  refine X.aload_n C dX8_dueX_29 rfl 1 rfl ?_
  refine X.iload_n C dX8_dueX_30 rfl 3 rfl ?_
  refine X.callVi (q0 := 0) (As := [vi lx2]) (rest := [vi (M 1 (ix ((rr_1 + 3) + (2 * lx2)))), vi (M 1 (ix (rr_1 + 1)))]) (g := fun rr_2 => rr_2) (W1 := fun rr_2 => (W_M G q M)) (ws2 := fun rr_2 => (W_M G q M)) C h dX8_dueX_31 ml_X8_257 mX8_dragOf (fun v hv => kX8_dragOf q M lx2 v hv) (fun rr_2 => ln_M_M_m_n (G := G) (q := q) (M := M)) rfl rfl rfl rfl rfl rfl rfl rfl (fun rr_2 h => ?_)
  refine X.iload_n C dX8_dueX_34 rfl 4 rfl ?_
  refine X.callSi (As := [vi lx3]) (rest := [vi rr_2, vi (M 1 (ix ((rr_1 + 3) + (2 * lx2)))), vi (M 1 (ix (rr_1 + 1)))]) (g := fun rr_3 => rr_3) (W1 := fun rr_3 => W_0) (ws2 := fun rr_3 => (W_M G q M)) C h dX8_dueX_35 ml_X8_260 mX8_eastBy (fun v hv => kX8_eastBy lx3 v hv) (fun rr_3 => ln_M_0__n (G := G) (q := q) (M := M)) rfl rfl rfl rfl rfl rfl (fun rr_3 h => ?_)
  refine X.imul C dX8_dueX_38 ?_
  refine X.aload_n C dX8_dueX_39 rfl 1 rfl ?_
  refine X.get C dX8_dueX_40 lay_X8 0 rfl rfl 1 (by decide) fl_X8_13 rfl rfl ?_
  refine X.iload C dX8_dueX_43 0 rfl ?_
  refine X.iald C h dX8_dueX_45 1 rfl (fun h => ?_)
  refine X.aload_n C dX8_dueX_46 rfl 1 rfl ?_
  refine X.get C dX8_dueX_47 lay_X8 0 rfl rfl 1 (by decide) fl_X8_13 rfl rfl ?_
  refine X.bipush C dX8_dueX_50 (by decide) ?_
  refine X.iald C h dX8_dueX_52 1 rfl (fun h => ?_)
  refine X.isub C dX8_dueX_53 ?_
  refine X.imul C dX8_dueX_54 ?_
  refine X.iadd C dX8_dueX_55 ?_
  refine X.bipush C dX8_dueX_56 (by decide) ?_
  refine X.idiv C (by decide) dX8_dueX_58 ?_
  refine X.iadd C dX8_dueX_59 ?_
  cases h
  exact X.iret C dX8_dueX_60 (Nat.zero_le _) (Nat.zero_le _)
