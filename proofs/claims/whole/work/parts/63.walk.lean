def rX5_readsAll : Room := { frames := 9, cells := 0, slots := 0, locals := 244 }
theorem mX5_readsAll : MV yX5_readsAll cX5_readsAll 2 (some .boolean) 0 := ⟨cd_X5_readsAll, in_X5, ⟨⟨by decide, by decide⟩, by decide +kernel⟩, im_X5_readsAll, se_X5_readsAll⟩
set_option maxHeartbeats 4000000 in
set_option maxRecDepth 100000 in
theorem xX5_readsAll_41 {κ : Kx} {G : GT} (C : Cx κ G yX5_readsAll cX5_readsAll (some .boolean) 2 rX5_readsAll) (ql : Nat → Nat) (qy : Nat → Nat) (qp : Nat → Nat) (kx0 : Ob → Ob → Ob → Option (Int × Ob × Ob × Ob)) (v : (Int × Ob × Ob × Ob)) (hk0 : ∀ (L : Ob) (Y : Ob) (P : Ob), kx0 L Y P = some v → X κ G 2 (W_L G ql qy qp L Y P) 75 [(0, .ref (ql 31))] [] 0 0 (QM κ G (W_L G ql qy qp v.2.1 v.2.2.1 v.2.2.2) (some (vi v.1)) rX5_readsAll.cells rX5_readsAll.slots)) : ∀ (n : Nat) (lx1 : Int) (L : Ob) (Y : Ob) (P : Ob), lX5_readsAll_41 kx0 n lx1 L Y P = some v → X κ G 2 (W_L G ql qy qp L Y P) 41 [(0, .ref (ql 31)), (1, vi lx1)] [] 0 0 (QM κ G (W_L G ql qy qp v.2.1 v.2.2.1 v.2.2.2) (some (vi v.1)) rX5_readsAll.cells rX5_readsAll.slots) := by
  intro n
  induction n with
  | zero => intro _ _ _ _ h; exact absurd h (fun h => nomatch h)
  | succ n ih =>
    intro lx1 L Y P h
    rw [lX5_readsAll_41] at h
    refine X.iload_n C dX5_readsAll_41 rfl 1 rfl ?_
    refine X.sipush C dX5_readsAll_42 (by decide) ?_
    refine X.icmp_ge (tgt := 75) C h dX5_readsAll_45 (by decide) (fun h => ?_) (fun h => ?_)
    · refine X.sub [0] rfl ?_
      exact hk0 L Y P h
    refine X.aload_n C dX5_readsAll_48 rfl 0 rfl ?_
    refine X.get C dX5_readsAll_49 lay_X5 0 rfl rfl 2 (by decide) fl_X5_23 rfl rfl ?_
    refine X.if_ne (tgt := 75) C h dX5_readsAll_52 (by decide) (fun h => ?_) (fun h => ?_)
    · refine X.sub [0] rfl ?_
      exact hk0 L Y P h
    refine X.aload_n C dX5_readsAll_55 rfl 0 rfl ?_
    refine X.get C dX5_readsAll_56 lay_X5 0 rfl rfl 0 (by decide) fl_X5_15 rfl rfl ?_
    refine X.get C dX5_readsAll_59 lay_X4 1 rfl rfl 2 (by decide) fl_X5_46 rfl rfl ?_
    refine X.if_eq (tgt := 75) C h dX5_readsAll_62 (by decide) (fun h => ?_) (fun h => ?_)
    · refine X.sub [0] rfl ?_
      exact hk0 L Y P h
    refine X.aload_n C dX5_readsAll_65 rfl 0 rfl ?_
    refine X.callVv (q0 := 0) (As := []) (rest := []) (W1 := fun rr_8 => (W_L G ql qy qp rr_8.1 rr_8.2.1 rr_8.2.2)) (ws2 := fun rr_8 => (W_L G ql qy qp rr_8.1 rr_8.2.1 rr_8.2.2)) C h dX5_readsAll_66 ml_X5_49 mX5_readLine (fun v hv => kX5_readLine ql qy qp L Y P v hv) (fun rr_8 => ln_L_L_l_y_p_LYP (G := G) (ql := ql) (qy := qy) (qp := qp) (L := L) (Y := Y) (P := P) (NL := rr_8.1) (NY := rr_8.2.1) (NP := rr_8.2.2)) rfl rfl rfl rfl rfl rfl rfl rfl (fun rr_8 h => ?_)
    refine X.iincN (lv2 := fun lx1_9 => [(1, vi lx1_9), (0, .ref (ql 31))]) C h dX5_readsAll_69 1 rfl (by decide) (fun _ => rfl) (fun lx1_9 h => ?_)
    refine X.goto (tgt := 41) C dX5_readsAll_72 (by decide) ?_
    refine X.sub [1, 0] rfl ?_
    exact ih lx1_9 rr_8.1 rr_8.2.1 rr_8.2.2 h
set_option maxHeartbeats 4000000 in
set_option maxRecDepth 100000 in
theorem xX5_readsAll_75 {κ : Kx} {G : GT} (C : Cx κ G yX5_readsAll cX5_readsAll (some .boolean) 2 rX5_readsAll) (ql : Nat → Nat) (qy : Nat → Nat) (qp : Nat → Nat) (L : Ob) (Y : Ob) (P : Ob) (v : (Int × Ob × Ob × Ob)) (h : jX5_readsAll_75 L Y P = some v) : X κ G 2 (W_L G ql qy qp L Y P) 75 [(0, .ref (ql 31))] [] 0 0 (QM κ G (W_L G ql qy qp v.2.1 v.2.2.1 v.2.2.2) (some (vi v.1)) rX5_readsAll.cells rX5_readsAll.slots) := by
  unfold jX5_readsAll_75 at h
  refine X.aload_n C dX5_readsAll_75 rfl 0 rfl ?_
  refine X.get C dX5_readsAll_76 lay_X5 0 rfl rfl 2 (by decide) fl_X5_23 rfl rfl ?_
  refine X.if_ne (tgt := 86) C h dX5_readsAll_79 (by decide) (fun h => ?_) (fun h => ?_)
  · refine X.iconst C dX5_readsAll_86 ?_
    cases h
    exact X.zret C rfl dX5_readsAll_87 (Nat.zero_le _) (Nat.zero_le _)
  refine X.iconst C dX5_readsAll_82 ?_
  refine X.goto (tgt := 87) C dX5_readsAll_83 (by decide) ?_
  cases h
  exact X.zret C rfl dX5_readsAll_87 (Nat.zero_le _) (Nat.zero_le _)
set_option maxHeartbeats 4000000 in
set_option maxRecDepth 100000 in
theorem kX5_readsAll {l : Launch} {G : GT} (ql : Nat → Nat) (qy : Nat → Nat) (qp : Nat → Nat) (L : Ob) (Y : Ob) (P : Ob) (v : (Int × Ob × Ob × Ob)) (h : fX5_readsAll L Y P = some v) : CT l G yX5_readsAll cX5_readsAll 2 (some .boolean) rX5_readsAll [.ref (ql 31)] (W_L G ql qy qp L Y P) (W_L G ql qy qp v.2.1 v.2.2.1 v.2.2.2) (some (vi v.1)) := by
  unfold fX5_readsAll at h
  refine CT.of (by decide) (Nat.le_of_ble_eq_true rfl) rfl (fun κ _ C => ?_)
  refine X.aload_n C dX5_readsAll_0 rfl 0 rfl ?_
  refine X.iconst C dX5_readsAll_1 ?_
  refine X.put (ws2 := (W_L G ql qy qp (up2 L 2 0 0) Y P)) (ty := .int) C dX5_readsAll_2 lay_X5 tyX5_ok nmX5 0 rfl rfl 2 (by decide) fl_X5_23 rfl rfl (by decide +kernel) rfl rfl (Nat.le_of_ble_eq_true rfl) rfl ?_
  refine X.nameS (ws := fun L_1 => (W_L G ql qy qp L_1 Y P)) h (fun L_1 h => ?_)
  refine X.aload_n C dX5_readsAll_5 rfl 0 rfl ?_
  refine X.iconst C dX5_readsAll_6 ?_
  refine X.put (ws2 := (W_L G ql qy qp (up2 L_1 3 0 (-1)) Y P)) (ty := .int) C dX5_readsAll_7 lay_X5 tyX5_ok nmX5 0 rfl rfl 3 (by decide) fl_X5_9 rfl rfl (by decide +kernel) rfl rfl (Nat.le_of_ble_eq_true rfl) rfl ?_
  refine X.nameS (ws := fun L_2 => (W_L G ql qy qp L_2 Y P)) h (fun L_2 h => ?_)
  refine X.aload_n C dX5_readsAll_10 rfl 0 rfl ?_
  refine X.iconst C dX5_readsAll_11 ?_
  refine X.put (ws2 := (W_L G ql qy qp (up2 L_2 4 0 0) Y P)) (ty := .boolean) C dX5_readsAll_12 lay_X5 tyX5_ok nmX5 0 rfl rfl 4 (by decide) fl_X5_26 rfl rfl (by decide +kernel) rfl rfl (Nat.le_of_ble_eq_true rfl) rfl ?_
  refine X.nameS (ws := fun L_3 => (W_L G ql qy qp L_3 Y P)) h (fun L_3 h => ?_)
  refine X.aload_n C dX5_readsAll_15 rfl 0 rfl ?_
  refine X.iconst C dX5_readsAll_16 ?_
  refine X.put (ws2 := (W_L G ql qy qp (up2 L_3 5 0 0) Y P)) (ty := .boolean) C dX5_readsAll_17 lay_X5 tyX5_ok nmX5 0 rfl rfl 5 (by decide) fl_X5_30 rfl rfl (by decide +kernel) rfl rfl (Nat.le_of_ble_eq_true rfl) rfl ?_
  refine X.nameS (ws := fun L_4 => (W_L G ql qy qp L_4 Y P)) h (fun L_4 h => ?_)
  refine X.aload_n C dX5_readsAll_20 rfl 0 rfl ?_
  refine X.iconst C dX5_readsAll_21 ?_
  refine X.put (ws2 := (W_L G ql qy qp (up2 L_4 6 0 (-1)) Y P)) (ty := .int) C dX5_readsAll_22 lay_X5 tyX5_ok nmX5 0 rfl rfl 6 (by decide) fl_X5_33 rfl rfl (by decide +kernel) rfl rfl (Nat.le_of_ble_eq_true rfl) rfl ?_
  refine X.nameS (ws := fun L_5 => (W_L G ql qy qp L_5 Y P)) h (fun L_5 h => ?_)
  refine X.aload_n C dX5_readsAll_25 rfl 0 rfl ?_
  refine X.get C dX5_readsAll_26 lay_X5 0 rfl rfl 1 (by decide) fl_X5_19 rfl rfl ?_
  refine X.callVv (q0 := 3) (As := []) (rest := []) (W1 := fun rr_6 => (W_P G qp rr_6)) (ws2 := fun rr_6 => (W_L G ql qy qp L_5 Y rr_6)) C h dX5_readsAll_29 ml_X5_36 mX1_clear (fun v hv => kX1_clear qp P v hv) (fun rr_6 => ln_L_P_p_P (G := G) (ql := ql) (qy := qy) (qp := qp) (L := L_5) (Y := Y) (P := P) (NP := rr_6)) rfl rfl rfl rfl rfl rfl rfl rfl (fun rr_6 h => ?_)
  refine X.aload_n C dX5_readsAll_32 rfl 0 rfl ?_
  refine X.get C dX5_readsAll_33 lay_X5 0 rfl rfl 0 (by decide) fl_X5_15 rfl rfl ?_
  refine X.callVv (q0 := 1) (As := []) (rest := []) (W1 := fun rr_7 => (W_Y G qy rr_7)) (ws2 := fun rr_7 => (W_L G ql qy qp L_5 rr_7 rr_6)) C h dX5_readsAll_36 ml_X5_41 mX4_rewind (fun v hv => kX4_rewind qy Y v hv) (fun rr_7 => ln_L_Y_y_Y (G := G) (ql := ql) (qy := qy) (qp := qp) (L := L_5) (Y := Y) (P := rr_6) (NY := rr_7)) rfl rfl rfl rfl rfl rfl rfl rfl (fun rr_7 h => ?_)
  refine X.iconst C dX5_readsAll_39 ?_
  refine X.istore_n (lv2 := [(1, vi 0), (0, .ref (ql 31))]) C dX5_readsAll_40 rfl (by decide) rfl ?_
  refine X.sub [1, 0] rfl ?_
  refine xX5_readsAll_41 C ql qy qp _ v (fun L_10 Y_11 P_12 h => ?_) FU 0 L_5 rr_7 rr_6 h
  · refine X.sub [0] rfl ?_
    exact xX5_readsAll_75 C ql qy qp L_10 Y_11 P_12 v h
def rX6_ease : Room := { frames := 1, cells := 0, slots := 0, locals := 30 }
theorem mX6_ease : MV yX6_ease cX6_ease 8 (some .boolean) 3 := ⟨cd_X6_ease, in_X6, ⟨⟨by decide, by decide⟩, by decide +kernel⟩, im_X6_ease, se_X6_ease⟩
set_option maxHeartbeats 4000000 in
set_option maxRecDepth 100000 in
theorem xX6_ease_7 {κ : Kx} {G : GT} (C : Cx κ G yX6_ease cX6_ease (some .boolean) 8 rX6_ease) (qk : Nat → Nat) (qs : Nat → Nat) (qp : Nat → Nat) (qa : Nat → Nat) (K : Ob) (P : Ob) (A : Ob) (lx2 : Int) (lx3 : Int) (kx0 : Int → Option (Int × Ob)) (v : (Int × Ob)) (hk0 : ∀ (lx4 : Int), kx0 lx4 = some v → X κ G 8 (W_K G qk qs qp qa K P A) 72 [(0, .ref (qk 31)), (1, .ref (qs 31)), (2, vi lx2), (3, vi lx3), (4, vi lx4)] [] 0 0 (QM κ G (W_K G qk qs qp qa v.2 P A) (some (vi v.1)) rX6_ease.cells rX6_ease.slots)) : ∀ (n : Nat) (lx4 : Int) (lx5 : Int), lX6_ease_7 K P A lx2 lx3 kx0 n lx4 lx5 = some v → X κ G 8 (W_K G qk qs qp qa K P A) 7 [(0, .ref (qk 31)), (1, .ref (qs 31)), (2, vi lx2), (3, vi lx3), (4, vi lx4), (5, vi lx5)] [] 0 0 (QM κ G (W_K G qk qs qp qa v.2 P A) (some (vi v.1)) rX6_ease.cells rX6_ease.slots) := by
  intro n
  induction n with
  | zero => intro _ _ h; exact absurd h (fun h => nomatch h)
  | succ n ih =>
    intro lx4 lx5 h
    rw [lX6_ease_7] at h
    refine X.iload C dX6_ease_7 5 rfl ?_
    refine X.iconst C dX6_ease_9 ?_
    refine X.icmp_ge (tgt := 72) C h dX6_ease_10 (by decide) (fun h => ?_) (fun h => ?_)
    · refine X.sub [0, 1, 2, 3, 4] rfl ?_
      exact hk0 lx4 h
    refine X.iload_n C dX6_ease_13 rfl 2 rfl ?_
    refine X.getsNX C dX6_ease_14 fn_X6_58 ?_
    refine X.iload C dX6_ease_17 5 rfl ?_
    refine X.aldX C h dX6_ease_19 (fun h => ?_)
    refine X.iadd C dX6_ease_20 ?_
    refine X.istoreN (lv2 := fun lx6_1 => [(6, vi lx6_1), (0, .ref (qk 31)), (1, .ref (qs 31)), (2, vi lx2), (3, vi lx3), (4, vi lx4), (5, vi lx5)]) C h dX6_ease_21 (by decide) (fun _ => rfl) (fun lx6_1 h => ?_)
    refine X.iload_n C dX6_ease_23 rfl 4 rfl ?_
    refine X.getsNY C dX6_ease_24 fn_X6_61 ?_
    refine X.iload C dX6_ease_27 6 rfl ?_
    refine X.aldY C h dX6_ease_29 (fun h => ?_)
    refine X.iadd C dX6_ease_30 ?_
    refine X.istoreN (lv2 := fun lx7_2 => [(7, vi lx7_2), (6, vi lx6_1), (0, .ref (qk 31)), (1, .ref (qs 31)), (2, vi lx2), (3, vi lx3), (4, vi lx4), (5, vi lx5)]) C h dX6_ease_31 (by decide) (fun _ => rfl) (fun lx7_2 h => ?_)
    refine X.aload_n C dX6_ease_33 rfl 3 rfl ?_
    refine X.get C dX6_ease_34 lay_X3 2 rfl rfl 0 (by decide) fl_X6_37 rfl rfl ?_
    refine X.iload C dX6_ease_37 1 rfl ?_
    refine X.iload C dX6_ease_39 0 rfl ?_
    refine X.callVi (q0 := 3) (As := [vi lx6_1, vi lx7_2]) (rest := []) (g := fun rr_3 => rr_3) (W1 := fun rr_3 => (W_P G qp P)) (ws2 := fun rr_3 => (W_K G qk qs qp qa K P A)) C h dX6_ease_41 ml_X6_64 mX1_isCell (fun v hv => kX1_isCell qp P lx6_1 lx7_2 v hv) (fun rr_3 => ln_K_P_p_n (G := G) (qk := qk) (qs := qs) (qp := qp) (qa := qa) (K := K) (P := P) (A := A)) rfl rfl rfl rfl rfl rfl rfl rfl (fun rr_3 h => ?_)
    refine X.if_eq (tgt := 66) C h dX6_ease_44 (by decide) (fun h => ?_) (fun h => ?_)
    · refine X.iincN (lv2 := fun lx5_4 => [(5, vi lx5_4), (7, vi lx7_2), (6, vi lx6_1), (0, .ref (qk 31)), (1, .ref (qs 31)), (2, vi lx2), (3, vi lx3), (4, vi lx4)]) C h dX6_ease_66 7 rfl (by decide) (fun _ => rfl) (fun lx5_4 h => ?_)
      refine X.goto (tgt := 7) C dX6_ease_69 (by decide) ?_
      refine X.sub [3, 4, 5, 6, 7, 0] rfl ?_
      exact ih lx4 lx5_4 h
    refine X.iload C dX6_ease_47 6 rfl ?_
    refine X.aload_n C dX6_ease_49 rfl 2 rfl ?_
    refine X.get C dX6_ease_50 lay_X6 0 rfl rfl 0 (by decide) fl_X6_9 rfl rfl ?_
    refine X.iload C dX6_ease_53 1 rfl ?_
    refine X.iload C dX6_ease_55 0 rfl ?_
    refine X.callSNi (As := [vi lx6_1, vi lx7_2]) (rest := [.ref (qk 0), vi lx4]) (g := fun rr_5 => rr_5) (W1 := fun rr_5 => W_0) (ws2 := fun rr_5 => (W_K G qk qs qp qa K P A)) C h dX6_ease_57 mn_X6_67 mX7_cellOf (fun v hv => kX7_cellOf lx6_1 lx7_2 v hv) (fun rr_5 => ln_K_0__n (G := G) (qk := qk) (qs := qs) (qp := qp) (qa := qa) (K := K) (P := P) (A := A)) rfl rfl rfl rfl rfl rfl (fun rr_5 h => ?_)
    refine X.iald C h dX6_ease_60 1 rfl (fun h => ?_)
    refine X.mmin C dX6_ease_61 ml_X6_71 sm_J9_min_7cf53 in_java_lang_Math cd_J9_min_7cf53 (Nat.le_of_ble_eq_true rfl) (Nat.le_of_ble_eq_true rfl) (Nat.zero_le _) (Nat.zero_le _) ?_
    refine X.istoreN (lv2 := fun lx4_6 => [(4, vi lx4_6), (7, vi lx7_2), (6, vi lx6_1), (0, .ref (qk 31)), (1, .ref (qs 31)), (2, vi lx2), (3, vi lx3), (5, vi lx5)]) C h dX6_ease_64 (by decide) (fun _ => rfl) (fun lx4_6 h => ?_)
    refine X.iincN (lv2 := fun lx5_7 => [(5, vi lx5_7), (4, vi lx4_6), (7, vi lx7_2), (6, vi lx6_1), (0, .ref (qk 31)), (1, .ref (qs 31)), (2, vi lx2), (3, vi lx3)]) C h dX6_ease_66 7 rfl (by decide) (fun _ => rfl) (fun lx5_7 h => ?_)
    refine X.goto (tgt := 7) C dX6_ease_69 (by decide) ?_
    refine X.sub [4, 5, 6, 7, 1, 0] rfl ?_
    exact ih lx4_6 lx5_7 h
set_option maxHeartbeats 4000000 in
set_option maxRecDepth 100000 in
theorem kX6_ease {l : Launch} {G : GT} (qk : Nat → Nat) (qs : Nat → Nat) (qp : Nat → Nat) (qa : Nat → Nat) (K : Ob) (P : Ob) (A : Ob) (lx2 : Int) (lx3 : Int) (v : (Int × Ob)) (h : fX6_ease K P A lx2 lx3 = some v) : CT l G yX6_ease cX6_ease 8 (some .boolean) rX6_ease [.ref (qk 31), .ref (qs 31), vi lx2, vi lx3] (W_K G qk qs qp qa K P A) (W_K G qk qs qp qa v.2 P A) (some (vi v.1)) := by
  unfold fX6_ease at h
  refine CT.of (by decide) (Nat.le_of_ble_eq_true rfl) rfl (fun κ _ C => ?_)
  refine X.ldc (z := 2147483647) C ct_X6_15 (by decide) dX6_ease_0 ?_
  refine X.istore (lv2 := [(4, vi 2147483647), (0, .ref (qk 31)), (1, .ref (qs 31)), (2, vi lx2), (3, vi lx3)]) C dX6_ease_2 (by decide) rfl ?_
  refine X.iconst C dX6_ease_4 ?_
  refine X.istore (lv2 := [(5, vi 0), (4, vi 2147483647), (0, .ref (qk 31)), (1, .ref (qs 31)), (2, vi lx2), (3, vi lx3)]) C dX6_ease_5 (by decide) rfl ?_
  refine X.sub [2, 3, 4, 5, 1, 0] rfl ?_
  refine xX6_ease_7 C qk qs qp qa K P A lx2 lx3 _ v (fun lx4_8 h => ?_) FU 2147483647 0 h
  · refine X.iload_n C dX6_ease_72 rfl 2 rfl ?_
    refine X.iload_n C dX6_ease_73 rfl 3 rfl ?_
    refine X.callSNi (As := [vi lx2, vi lx3]) (rest := []) (g := fun rr_9 => rr_9) (W1 := fun rr_9 => W_0) (ws2 := fun rr_9 => (W_K G qk qs qp qa K P A)) C h dX6_ease_74 mn_X6_67 mX7_cellOf (fun v hv => kX7_cellOf lx2 lx3 v hv) (fun rr_9 => ln_K_0__n (G := G) (qk := qk) (qs := qs) (qp := qp) (qa := qa) (K := K) (P := P) (A := A)) rfl rfl rfl rfl rfl rfl (fun rr_9 h => ?_)
    refine X.istore (lv2 := [(5, vi rr_9), (0, .ref (qk 31)), (1, .ref (qs 31)), (2, vi lx2), (3, vi lx3), (4, vi lx4_8)]) C dX6_ease_77 (by decide) rfl ?_
    refine X.iload C dX6_ease_79 5 rfl ?_
    refine X.ldc (z := 2147483647) C ct_X6_15 (by decide) dX6_ease_81 ?_
    refine X.icmp_eq (tgt := 109) C h dX6_ease_83 (by decide) (fun h => ?_) (fun h => ?_)
    · refine X.iconst C dX6_ease_109 ?_
      cases h
      exact X.zret C rfl dX6_ease_110 (Nat.zero_le _) (Nat.zero_le _)
    refine X.iload C dX6_ease_86 5 rfl ?_
    refine X.aload_n C dX6_ease_88 rfl 2 rfl ?_
    refine X.get C dX6_ease_89 lay_X3 2 rfl rfl 1 (by decide) fl_X6_22 rfl rfl ?_
    refine X.get C dX6_ease_92 lay_X0 10 rfl rfl 16 (by decide) fl_X6_28 rfl rfl ?_
    refine X.iload C dX6_ease_95 0 rfl ?_
    refine X.iald C h dX6_ease_97 19 rfl (fun h => ?_)
    refine X.iadd C dX6_ease_98 ?_
    refine X.aload_n C dX6_ease_99 rfl 1 rfl ?_
    refine X.get C dX6_ease_100 lay_X6 0 rfl rfl 0 (by decide) fl_X6_9 rfl rfl ?_
    refine X.iload C dX6_ease_103 0 rfl ?_
    refine X.iald C h dX6_ease_105 1 rfl (fun h => ?_)
    refine X.icmp_lt (tgt := 111) C h dX6_ease_106 (by decide) (fun h => ?_) (fun h => ?_)
    · refine X.aload_n C dX6_ease_111 rfl 1 rfl ?_
      refine X.get C dX6_ease_112 lay_X6 0 rfl rfl 0 (by decide) fl_X6_9 rfl rfl ?_
      refine X.iload C dX6_ease_115 0 rfl ?_
      refine X.iload C dX6_ease_117 5 rfl ?_
      refine X.aload_n C dX6_ease_119 rfl 2 rfl ?_
      refine X.get C dX6_ease_120 lay_X3 2 rfl rfl 1 (by decide) fl_X6_22 rfl rfl ?_
      refine X.get C dX6_ease_123 lay_X0 10 rfl rfl 16 (by decide) fl_X6_28 rfl rfl ?_
      refine X.iload C dX6_ease_126 0 rfl ?_
      refine X.iald C h dX6_ease_128 19 rfl (fun h => ?_)
      refine X.iadd C dX6_ease_129 ?_
      refine X.iast (ws2 := (W_K G qk qs qp qa (up2 K 0 (ix rr_9) (lx4_8 + (A 16 (ix rr_9)))) P A)) C h dX6_ease_130 1 rfl rfl (fun h => ?_)
      refine X.nameS (ws := fun K_10 => (W_K G qk qs qp qa K_10 P A)) h (fun K_10 h => ?_)
      refine X.iconst C dX6_ease_131 ?_
      cases h
      exact X.zret C rfl dX6_ease_132 (Nat.zero_le _) (Nat.zero_le _)
    refine X.iconst C dX6_ease_109 ?_
    cases h
    exact X.zret C rfl dX6_ease_110 (Nat.zero_le _) (Nat.zero_le _)
def rX6_sweep : Room := { frames := 2, cells := 0, slots := 0, locals := 57 }
theorem mX6_sweep : MV yX6_sweep cX6_sweep 10 (some .boolean) 2 := ⟨cd_X6_sweep, in_X6, ⟨⟨by decide, by decide⟩, by decide +kernel⟩, im_X6_sweep, se_X6_sweep⟩
set_option maxHeartbeats 4000000 in
set_option maxRecDepth 100000 in
theorem xX6_sweep_72 {κ : Kx} {G : GT} (C : Cx κ G yX6_sweep cX6_sweep (some .boolean) 10 rX6_sweep) (qk : Nat → Nat) (qs : Nat → Nat) (qp : Nat → Nat) (qa : Nat → Nat) (kc0 : Int → Int → Ob → Option (Int × Ob)) (K : Ob) (P : Ob) (A : Ob) (lx2 : Int) (lx3 : Int) (lx4 : Int) (lx5 : Int) (lx6 : Int) (lx7 : Int) (lx8 : Int) (lt0 : Int) (v : (Int × Ob)) (hc0 : ∀ (lx5 : Int) (lx8 : Int) (K : Ob), kc0 lx5 lx8 K = some v → X κ G 10 (W_K G qk qs qp qa K P A) 51 [(0, .ref (qk 31)), (1, .ref (qs 31)), (2, vi lx2), (3, vi lx3), (4, vi lx4), (5, vi lx5), (6, vi lx6), (7, vi lx7), (8, vi lx8)] [] 0 0 (QM κ G (W_K G qk qs qp qa v.2 P A) (some (vi v.1)) rX6_sweep.cells rX6_sweep.slots)) (h : jX6_sweep_72 kc0 K P A lx2 lx3 lx4 lx5 lx6 lx7 lx8 lt0 = some v) : X κ G 10 (W_K G qk qs qp qa K P A) 72 [(0, .ref (qk 31)), (1, .ref (qs 31)), (2, vi lx2), (3, vi lx3), (4, vi lx4), (5, vi lx5), (6, vi lx6), (7, vi lx7), (8, vi lx8)] [vi lt0] 0 0 (QM κ G (W_K G qk qs qp qa v.2 P A) (some (vi v.1)) rX6_sweep.cells rX6_sweep.slots) := by
  unfold jX6_sweep_72 at h
  refine X.istore (lv2 := [(9, vi lt0), (0, .ref (qk 31)), (1, .ref (qs 31)), (2, vi lx2), (3, vi lx3), (4, vi lx4), (5, vi lx5), (6, vi lx6), (7, vi lx7), (8, vi lx8)]) C dX6_sweep_72 (by decide) rfl ?_
  refine X.aload_n C dX6_sweep_74 rfl 2 rfl ?_
  refine X.get C dX6_sweep_75 lay_X3 2 rfl rfl 0 (by decide) fl_X6_37 rfl rfl ?_
  refine X.iload C dX6_sweep_78 0 rfl ?_
  refine X.iload C dX6_sweep_80 8 rfl ?_
  refine X.callVi (q0 := 3) (As := [vi lt0, vi lx7]) (rest := []) (g := fun rr_4 => rr_4) (W1 := fun rr_4 => (W_P G qp P)) (ws2 := fun rr_4 => (W_K G qk qs qp qa K P A)) C h dX6_sweep_82 ml_X6_50 mX1_isBasin (fun v hv => kX1_isBasin qp P lt0 lx7 v hv) (fun rr_4 => ln_K_P_p_n (G := G) (qk := qk) (qs := qs) (qp := qp) (qa := qa) (K := K) (P := P) (A := A)) rfl rfl rfl rfl rfl rfl rfl rfl (fun rr_4 h => ?_)
  refine X.if_ne (tgt := 102) C h dX6_sweep_85 (by decide) (fun h => ?_) (fun h => ?_)
  · refine X.iincN (lv2 := fun lx8_5 => [(8, vi lx8_5), (9, vi lt0), (0, .ref (qk 31)), (1, .ref (qs 31)), (2, vi lx2), (3, vi lx3), (4, vi lx4), (5, vi lx5), (6, vi lx6), (7, vi lx7)]) C h dX6_sweep_102 9 rfl (by decide) (fun _ => rfl) (fun lx8_5 h => ?_)
    refine X.goto (tgt := 51) C dX6_sweep_105 (by decide) ?_
    refine X.sub [2, 3, 4, 5, 6, 7, 8, 9, 0] rfl ?_
    exact hc0 lx5 lx8_5 K h
  refine X.iload C dX6_sweep_88 6 rfl ?_
  refine X.aload_n C dX6_sweep_90 rfl 1 rfl ?_
  refine X.aload_n C dX6_sweep_91 rfl 2 rfl ?_
  refine X.iload C dX6_sweep_92 0 rfl ?_
  refine X.iload C dX6_sweep_94 8 rfl ?_
  refine X.callVi (q0 := 0) (As := [.ref (qs 31), vi lt0, vi lx7]) (rest := [vi lx5]) (g := fun rr_6 => rr_6.1) (W1 := fun rr_6 => (W_K G qk qs qp qa rr_6.2 P A)) (ws2 := fun rr_6 => (W_K G qk qs qp qa rr_6.2 P A)) C h dX6_sweep_96 ml_X6_54 mX6_ease (fun v hv => kX6_ease qk qs qp qa K P A lt0 lx7 v hv) (fun rr_6 => ln_K_K_k_s_p_a_K (G := G) (qk := qk) (qs := qs) (qp := qp) (qa := qa) (K := K) (P := P) (A := A) (NK := rr_6.2)) rfl rfl rfl rfl rfl rfl rfl rfl (fun rr_6 h => ?_)
  refine X.ior C dX6_sweep_99 ?_
  refine X.istoreN (lv2 := fun lx5_7 => [(5, vi lx5_7), (9, vi lt0), (0, .ref (qk 31)), (1, .ref (qs 31)), (2, vi lx2), (3, vi lx3), (4, vi lx4), (6, vi lx6), (7, vi lx7), (8, vi lx8)]) C h dX6_sweep_100 (by decide) (fun _ => rfl) (fun lx5_7 h => ?_)
  refine X.iincN (lv2 := fun lx8_8 => [(8, vi lx8_8), (5, vi lx5_7), (9, vi lt0), (0, .ref (qk 31)), (1, .ref (qs 31)), (2, vi lx2), (3, vi lx3), (4, vi lx4), (6, vi lx6), (7, vi lx7)]) C h dX6_sweep_102 9 rfl (by decide) (fun _ => rfl) (fun lx8_8 h => ?_)
  refine X.goto (tgt := 51) C dX6_sweep_105 (by decide) ?_
  refine X.sub [3, 4, 5, 6, 7, 1, 8, 9, 0] rfl ?_
  exact hc0 lx5_7 lx8_8 rr_6.2 h
set_option maxHeartbeats 4000000 in
set_option maxRecDepth 100000 in
theorem xX6_sweep_51 {κ : Kx} {G : GT} (C : Cx κ G yX6_sweep cX6_sweep (some .boolean) 10 rX6_sweep) (qk : Nat → Nat) (qs : Nat → Nat) (qp : Nat → Nat) (qa : Nat → Nat) (P : Ob) (A : Ob) (lx2 : Int) (lx3 : Int) (lx4 : Int) (lx6 : Int) (lx7 : Int) (kx0 : Int → Ob → Option (Int × Ob)) (v : (Int × Ob)) (hk0 : ∀ (lx5 : Int) (K : Ob), kx0 lx5 K = some v → X κ G 10 (W_K G qk qs qp qa K P A) 108 [(0, .ref (qk 31)), (1, .ref (qs 31)), (2, vi lx2), (3, vi lx3), (4, vi lx4), (5, vi lx5), (6, vi lx6)] [] 0 0 (QM κ G (W_K G qk qs qp qa v.2 P A) (some (vi v.1)) rX6_sweep.cells rX6_sweep.slots)) : ∀ (n : Nat) (lx5 : Int) (lx8 : Int) (K : Ob), lX6_sweep_51 P A lx2 lx3 lx4 lx6 lx7 kx0 n lx5 lx8 K = some v → X κ G 10 (W_K G qk qs qp qa K P A) 51 [(0, .ref (qk 31)), (1, .ref (qs 31)), (2, vi lx2), (3, vi lx3), (4, vi lx4), (5, vi lx5), (6, vi lx6), (7, vi lx7), (8, vi lx8)] [] 0 0 (QM κ G (W_K G qk qs qp qa v.2 P A) (some (vi v.1)) rX6_sweep.cells rX6_sweep.slots) := by
  intro n
  induction n with
  | zero => intro _ _ _ h; exact absurd h (fun h => nomatch h)
  | succ n ih =>
    intro lx5 lx8 K h
    rw [lX6_sweep_51] at h
    refine X.iload C dX6_sweep_51 8 rfl ?_
    refine X.iload_n C dX6_sweep_53 rfl 3 rfl ?_
    refine X.icmp_ge (tgt := 108) C h dX6_sweep_54 (by decide) (fun h => ?_) (fun h => ?_)
    · refine X.sub [0, 1, 2, 3, 4, 5, 6] rfl ?_
      exact hk0 lx5 K h
    refine X.iload_n C dX6_sweep_57 rfl 2 rfl ?_
    refine X.if_eq (tgt := 66) C h dX6_sweep_58 (by decide) (fun h => ?_) (fun h => ?_)
    · refine X.iload_n C dX6_sweep_66 rfl 3 rfl ?_
      refine X.iconst C dX6_sweep_67 ?_
      refine X.isub C dX6_sweep_68 ?_
      refine X.iload C dX6_sweep_69 8 rfl ?_
      refine X.isub C dX6_sweep_71 ?_
      refine X.sub [0, 1, 2, 3, 4, 5, 6, 7, 8] rfl ?_
      exact xX6_sweep_72 C qk qs qp qa (lX6_sweep_51 P A lx2 lx3 lx4 lx6 lx7 kx0 n) K P A lx2 lx3 lx4 lx5 lx6 lx7 lx8 ((lx3 - 1) - lx8) v ih h
    refine X.iload C dX6_sweep_61 8 rfl ?_
    refine X.goto (tgt := 72) C dX6_sweep_63 (by decide) ?_
    refine X.sub [0, 1, 2, 3, 4, 5, 6, 7, 8] rfl ?_
    exact xX6_sweep_72 C qk qs qp qa (lX6_sweep_51 P A lx2 lx3 lx4 lx6 lx7 kx0 n) K P A lx2 lx3 lx4 lx5 lx6 lx7 lx8 lx8 v ih h
set_option maxHeartbeats 4000000 in
set_option maxRecDepth 100000 in
theorem xX6_sweep_23 {κ : Kx} {G : GT} (C : Cx κ G yX6_sweep cX6_sweep (some .boolean) 10 rX6_sweep) (qk : Nat → Nat) (qs : Nat → Nat) (qp : Nat → Nat) (qa : Nat → Nat) (P : Ob) (A : Ob) (lx2 : Int) (lx3 : Int) (lx4 : Int) (v : (Int × Ob)) : ∀ (n : Nat) (lx5 : Int) (lx6 : Int) (K : Ob), lX6_sweep_23 P A lx2 lx3 lx4 n lx5 lx6 K = some v → X κ G 10 (W_K G qk qs qp qa K P A) 23 [(0, .ref (qk 31)), (1, .ref (qs 31)), (2, vi lx2), (3, vi lx3), (4, vi lx4), (5, vi lx5), (6, vi lx6)] [] 0 0 (QM κ G (W_K G qk qs qp qa v.2 P A) (some (vi v.1)) rX6_sweep.cells rX6_sweep.slots) := by
  intro n
  induction n with
  | zero => intro _ _ _ h; exact absurd h (fun h => nomatch h)
  | succ n ih =>
    intro lx5 lx6 K h
    rw [lX6_sweep_23] at h
    refine X.iload C dX6_sweep_23 6 rfl ?_
    refine X.iload C dX6_sweep_25 4 rfl ?_
    refine X.icmp_ge (tgt := 114) C h dX6_sweep_27 (by decide) (fun h => ?_) (fun h => ?_)
    · refine X.iload C dX6_sweep_114 5 rfl ?_
      obtain ⟨hz, h⟩ := gd_out h
      cases h
      exact X.zret C hz dX6_sweep_116 (Nat.zero_le _) (Nat.zero_le _)
    refine X.iload_n C dX6_sweep_30 rfl 2 rfl ?_
    refine X.if_eq (tgt := 39) C h dX6_sweep_31 (by decide) (fun h => ?_) (fun h => ?_)
    · refine X.iload C dX6_sweep_39 4 rfl ?_
      refine X.iconst C dX6_sweep_41 ?_
      refine X.isub C dX6_sweep_42 ?_
      refine X.iload C dX6_sweep_43 6 rfl ?_
      refine X.isub C dX6_sweep_45 ?_
      refine X.istoreN (lv2 := fun lx7_3 => [(7, vi lx7_3), (0, .ref (qk 31)), (1, .ref (qs 31)), (2, vi lx2), (3, vi lx3), (4, vi lx4), (5, vi lx5), (6, vi lx6)]) C h dX6_sweep_46 (by decide) (fun _ => rfl) (fun lx7_3 h => ?_)
      refine X.iconst C dX6_sweep_48 ?_
      refine X.istore (lv2 := [(8, vi 0), (7, vi lx7_3), (0, .ref (qk 31)), (1, .ref (qs 31)), (2, vi lx2), (3, vi lx3), (4, vi lx4), (5, vi lx5), (6, vi lx6)]) C dX6_sweep_49 (by decide) rfl ?_
      refine X.sub [2, 3, 4, 5, 6, 7, 8, 1, 0] rfl ?_
      refine xX6_sweep_51 C qk qs qp qa P A lx2 lx3 lx4 lx6 lx7_3 _ v (fun lx5_9 K_10 h => ?_) FU lx5 0 K h
      · refine X.iincN (lv2 := fun lx6_11 => [(6, vi lx6_11), (0, .ref (qk 31)), (1, .ref (qs 31)), (2, vi lx2), (3, vi lx3), (4, vi lx4), (5, vi lx5_9)]) C h dX6_sweep_108 6 rfl (by decide) (fun _ => rfl) (fun lx6_11 h => ?_)
        refine X.goto (tgt := 23) C dX6_sweep_111 (by decide) ?_
        refine X.sub [1, 2, 3, 4, 5, 6, 0] rfl ?_
        exact ih lx5_9 lx6_11 K_10 h
    refine X.iload C dX6_sweep_34 6 rfl ?_
    refine X.goto (tgt := 46) C dX6_sweep_36 (by decide) ?_
    refine X.istore (lv2 := [(7, vi lx6), (0, .ref (qk 31)), (1, .ref (qs 31)), (2, vi lx2), (3, vi lx3), (4, vi lx4), (5, vi lx5), (6, vi lx6)]) C dX6_sweep_46 (by decide) rfl ?_
    refine X.iconst C dX6_sweep_48 ?_
    refine X.istore (lv2 := [(8, vi 0), (7, vi lx6), (0, .ref (qk 31)), (1, .ref (qs 31)), (2, vi lx2), (3, vi lx3), (4, vi lx4), (5, vi lx5), (6, vi lx6)]) C dX6_sweep_49 (by decide) rfl ?_
    refine X.sub [2, 3, 4, 5, 6, 7, 8, 1, 0] rfl ?_
    refine xX6_sweep_51 C qk qs qp qa P A lx2 lx3 lx4 lx6 lx6 _ v (fun lx5_12 K_13 h => ?_) FU lx5 0 K h
    · refine X.iincN (lv2 := fun lx6_14 => [(6, vi lx6_14), (0, .ref (qk 31)), (1, .ref (qs 31)), (2, vi lx2), (3, vi lx3), (4, vi lx4), (5, vi lx5_12)]) C h dX6_sweep_108 6 rfl (by decide) (fun _ => rfl) (fun lx6_14 h => ?_)
      refine X.goto (tgt := 23) C dX6_sweep_111 (by decide) ?_
      refine X.sub [1, 2, 3, 4, 5, 6, 0] rfl ?_
      exact ih lx5_12 lx6_14 K_13 h
set_option maxHeartbeats 4000000 in
set_option maxRecDepth 100000 in
theorem kX6_sweep {l : Launch} {G : GT} (qk : Nat → Nat) (qs : Nat → Nat) (qp : Nat → Nat) (qa : Nat → Nat) (K : Ob) (P : Ob) (A : Ob) (lx2 : Int) (v : (Int × Ob)) (h : fX6_sweep K P A lx2 = some v) : CT l G yX6_sweep cX6_sweep 10 (some .boolean) rX6_sweep [.ref (qk 31), .ref (qs 31), vi lx2] (W_K G qk qs qp qa K P A) (W_K G qk qs qp qa v.2 P A) (some (vi v.1)) := by
  unfold fX6_sweep at h
  refine CT.of (by decide) (Nat.le_of_ble_eq_true rfl) rfl (fun κ _ C => ?_)
  refine X.aload_n C dX6_sweep_0 rfl 1 rfl ?_
  refine X.get C dX6_sweep_1 lay_X3 2 rfl rfl 0 (by decide) fl_X6_37 rfl rfl ?_
  refine X.get C dX6_sweep_4 lay_X1 3 rfl rfl 1 (by decide) fl_X6_41 rfl rfl ?_
  refine X.istoreN_n (lv2 := fun lx3_1 => [(3, vi lx3_1), (0, .ref (qk 31)), (1, .ref (qs 31)), (2, vi lx2)]) C h dX6_sweep_7 rfl (by decide) (fun _ => rfl) (fun lx3_1 h => ?_)
  refine X.aload_n C dX6_sweep_8 rfl 2 rfl ?_
  refine X.get C dX6_sweep_9 lay_X3 2 rfl rfl 0 (by decide) fl_X6_37 rfl rfl ?_
  refine X.get C dX6_sweep_12 lay_X1 3 rfl rfl 2 (by decide) fl_X6_47 rfl rfl ?_
  refine X.istoreN (lv2 := fun lx4_2 => [(4, vi lx4_2), (3, vi lx3_1), (0, .ref (qk 31)), (1, .ref (qs 31)), (2, vi lx2)]) C h dX6_sweep_15 (by decide) (fun _ => rfl) (fun lx4_2 h => ?_)
  refine X.iconst C dX6_sweep_17 ?_
  refine X.istore (lv2 := [(5, vi 0), (4, vi lx4_2), (3, vi lx3_1), (0, .ref (qk 31)), (1, .ref (qs 31)), (2, vi lx2)]) C dX6_sweep_18 (by decide) rfl ?_
  refine X.iconst C dX6_sweep_20 ?_
  refine X.istore (lv2 := [(6, vi 0), (5, vi 0), (4, vi lx4_2), (3, vi lx3_1), (0, .ref (qk 31)), (1, .ref (qs 31)), (2, vi lx2)]) C dX6_sweep_21 (by decide) rfl ?_
  refine X.sub [4, 5, 6, 3, 2, 1, 0] rfl ?_
  refine xX6_sweep_23 C qk qs qp qa P A lx2 lx3_1 lx4_2 v FU 0 0 K h
def rX6_driest : Room := { frames := 3, cells := 0, slots := 0, locals := 86 }
theorem mX6_driest : MV yX6_driest cX6_driest 6 (some .int) 3 := ⟨cd_X6_driest, in_X6, ⟨⟨by decide, by decide⟩, by decide +kernel⟩, im_X6_driest, se_X6_driest⟩
set_option maxHeartbeats 4000000 in
set_option maxRecDepth 100000 in
theorem xX6_driest_30 {κ : Kx} {G : GT} (C : Cx κ G yX6_driest cX6_driest (some .int) 6 rX6_driest) (qk : Nat → Nat) (qs : Nat → Nat) (qp : Nat → Nat) (qa : Nat → Nat) (P : Ob) (A : Ob) (lx3 : Int) (kx0 : Ob → Option (Int × Ob)) (v : (Int × Ob)) (hk0 : ∀ (K : Ob), kx0 K = some v → X κ G 6 (W_K G qk qs qp qa K P A) 68 [(0, .ref (qk 31)), (3, vi lx3)] [] 0 0 (QM κ G (W_K G qk qs qp qa v.2 P A) (some (vi v.1)) rX6_driest.cells rX6_driest.slots)) : ∀ (n : Nat) (lx4 : Int) (lx5 : Int) (K : Ob), lX6_driest_30 P A lx3 kx0 n lx4 lx5 K = some v → X κ G 6 (W_K G qk qs qp qa K P A) 30 [(0, .ref (qk 31)), (1, .ref (qs 31)), (3, vi lx3), (4, vi lx4), (5, vi lx5)] [] 0 0 (QM κ G (W_K G qk qs qp qa v.2 P A) (some (vi v.1)) rX6_driest.cells rX6_driest.slots) := by
  intro n
  induction n with
  | zero => intro _ _ _ h; exact absurd h (fun h => nomatch h)
  | succ n ih =>
    intro lx4 lx5 K h
    rw [lX6_driest_30] at h
    refine X.iload C dX6_driest_30 4 rfl ?_
    refine X.sipush C dX6_driest_32 (by decide) ?_
    refine X.icmp_ge (tgt := 68) C h dX6_driest_35 (by decide) (fun h => ?_) (fun h => ?_)
    · refine X.sub [0, 2] rfl ?_
      exact hk0 K h
    refine X.iload C dX6_driest_38 3 rfl ?_
    refine X.if_eq (tgt := 68) C h dX6_driest_40 (by decide) (fun h => ?_) (fun h => ?_)
    · refine X.sub [0, 2] rfl ?_
      exact hk0 K h
    refine X.aload_n C dX6_driest_43 rfl 0 rfl ?_
    refine X.aload_n C dX6_driest_44 rfl 1 rfl ?_
    refine X.iconst C dX6_driest_45 ?_
    refine X.callVi (q0 := 0) (As := [.ref (qs 31), vi 1]) (rest := []) (g := fun rr_3 => rr_3.1) (W1 := fun rr_3 => (W_K G qk qs qp qa rr_3.2 P A)) (ws2 := fun rr_3 => (W_K G qk qs qp qa rr_3.2 P A)) C h dX6_driest_46 ml_X6_33 mX6_sweep (fun v hv => kX6_sweep qk qs qp qa K P A 1 v hv) (fun rr_3 => ln_K_K_k_s_p_a_K (G := G) (qk := qk) (qs := qs) (qp := qp) (qa := qa) (K := K) (P := P) (A := A) (NK := rr_3.2)) rfl rfl rfl rfl rfl rfl rfl rfl (fun rr_3 h => ?_)
    refine X.istoreN (lv2 := fun lx4_4 => [(4, vi lx4_4), (0, .ref (qk 31)), (1, .ref (qs 31)), (3, vi lx3), (5, vi lx5)]) C h dX6_driest_49 (by decide) (fun _ => rfl) (fun lx4_4 h => ?_)
    refine X.iload C dX6_driest_51 0 rfl ?_
    refine X.aload_n C dX6_driest_53 rfl 1 rfl ?_
    refine X.aload_n C dX6_driest_54 rfl 2 rfl ?_
    refine X.iconst C dX6_driest_55 ?_
    refine X.callVi (q0 := 0) (As := [.ref (qs 31), vi 0]) (rest := [vi lx4_4]) (g := fun rr_5 => rr_5.1) (W1 := fun rr_5 => (W_K G qk qs qp qa rr_5.2 P A)) (ws2 := fun rr_5 => (W_K G qk qs qp qa rr_5.2 P A)) C h dX6_driest_56 ml_X6_33 mX6_sweep (fun v hv => kX6_sweep qk qs qp qa rr_3.2 P A 0 v hv) (fun rr_5 => ln_K_K_k_s_p_a_K (G := G) (qk := qk) (qs := qs) (qp := qp) (qa := qa) (K := rr_3.2) (P := P) (A := A) (NK := rr_5.2)) rfl rfl rfl rfl rfl rfl rfl rfl (fun rr_5 h => ?_)
    refine X.ior C dX6_driest_59 ?_
    refine X.istoreN (lv2 := fun lx4_6 => [(4, vi lx4_6), (0, .ref (qk 31)), (1, .ref (qs 31)), (3, vi lx3), (5, vi lx5)]) C h dX6_driest_60 (by decide) (fun _ => rfl) (fun lx4_6 h => ?_)
    refine X.iincN (lv2 := fun lx5_7 => [(5, vi lx5_7), (4, vi lx4_6), (0, .ref (qk 31)), (1, .ref (qs 31)), (3, vi lx3)]) C h dX6_driest_62 4 rfl (by decide) (fun _ => rfl) (fun lx5_7 h => ?_)
    refine X.goto (tgt := 30) C dX6_driest_65 (by decide) ?_
    refine X.sub [2, 3, 4, 1, 0] rfl ?_
    exact ih lx4_6 lx5_7 rr_5.2 h
set_option maxHeartbeats 4000000 in
set_option maxRecDepth 100000 in
theorem xX6_driest_68 {κ : Kx} {G : GT} (C : Cx κ G yX6_driest cX6_driest (some .int) 6 rX6_driest) (qk : Nat → Nat) (qs : Nat → Nat) (qp : Nat → Nat) (qa : Nat → Nat) (K : Ob) (P : Ob) (A : Ob) (lx3 : Int) (v : (Int × Ob)) (h : jX6_driest_68 K P A lx3 = some v) : X κ G 6 (W_K G qk qs qp qa K P A) 68 [(0, .ref (qk 31)), (3, vi lx3)] [] 0 0 (QM κ G (W_K G qk qs qp qa v.2 P A) (some (vi v.1)) rX6_driest.cells rX6_driest.slots) := by
  unfold jX6_driest_68 at h
  refine X.aload_n C dX6_driest_68 rfl 0 rfl ?_
  refine X.get C dX6_driest_69 lay_X6 0 rfl rfl 0 (by decide) fl_X6_9 rfl rfl ?_
  refine X.iload_n C dX6_driest_72 rfl 1 rfl ?_
  refine X.iald C h dX6_driest_73 1 rfl (fun h => ?_)
  refine X.ldc (z := 2147483647) C ct_X6_15 (by decide) dX6_driest_74 ?_
  refine X.icmp_ne (tgt := 83) C h dX6_driest_76 (by decide) (fun h => ?_) (fun h => ?_)
  · refine X.aload_n C dX6_driest_83 rfl 0 rfl ?_
    refine X.get C dX6_driest_84 lay_X6 0 rfl rfl 0 (by decide) fl_X6_9 rfl rfl ?_
    refine X.iload_n C dX6_driest_87 rfl 1 rfl ?_
    refine X.iald C h dX6_driest_88 1 rfl (fun h => ?_)
    cases h
    exact X.iret C dX6_driest_89 (Nat.zero_le _) (Nat.zero_le _)
  refine X.iconst C dX6_driest_79 ?_
  refine X.goto (tgt := 89) C dX6_driest_80 (by decide) ?_
  cases h
  exact X.iret C dX6_driest_89 (Nat.zero_le _) (Nat.zero_le _)
set_option maxHeartbeats 4000000 in
set_option maxRecDepth 100000 in
theorem kX6_driest {l : Launch} {G : GT} (qk : Nat → Nat) (qs : Nat → Nat) (qp : Nat → Nat) (qa : Nat → Nat) (K : Ob) (P : Ob) (A : Ob) (lx2 : Int) (lx3 : Int) (v : (Int × Ob)) (h : fX6_driest K P A lx2 lx3 = some v) : CT l G yX6_driest cX6_driest 6 (some .int) rX6_driest [.ref (qk 31), .ref (qs 31), vi lx2, vi lx3] (W_K G qk qs qp qa K P A) (W_K G qk qs qp qa v.2 P A) (some (vi v.1)) := by
  unfold fX6_driest at h
  refine CT.of (by decide) (Nat.le_of_ble_eq_true rfl) rfl (fun κ _ C => ?_)
  refine X.aload_n C dX6_driest_0 rfl 0 rfl ?_
  refine X.get C dX6_driest_1 lay_X6 0 rfl rfl 0 (by decide) fl_X6_9 rfl rfl ?_
  refine X.ldc (z := 2147483647) C ct_X6_15 (by decide) dX6_driest_4 ?_
  refine X.fillI C dX6_driest_6 ml_X6_16 ln_K_fill_k_0 rfl rfl (by decide) ?_
  refine X.nameS (ws := fun K_1 => (W_K G qk qs qp qa K_1 P A)) h (fun K_1 h => ?_)
  refine X.aload_n C dX6_driest_9 rfl 0 rfl ?_
  refine X.get C dX6_driest_10 lay_X6 0 rfl rfl 0 (by decide) fl_X6_9 rfl rfl ?_
  refine X.iload_n C dX6_driest_13 rfl 2 rfl ?_
  refine X.aload_n C dX6_driest_14 rfl 1 rfl ?_
  refine X.get C dX6_driest_15 lay_X3 2 rfl rfl 1 (by decide) fl_X6_22 rfl rfl ?_
  refine X.get C dX6_driest_18 lay_X0 10 rfl rfl 16 (by decide) fl_X6_28 rfl rfl ?_
  refine X.iload_n C dX6_driest_21 rfl 2 rfl ?_
  refine X.iald C h dX6_driest_22 19 rfl (fun h => ?_)
  refine X.iast (ws2 := (W_K G qk qs qp qa (up2 K_1 0 (ix lx2) (A 16 (ix lx2))) P A)) C h dX6_driest_23 1 rfl rfl (fun h => ?_)
  refine X.nameS (ws := fun K_2 => (W_K G qk qs qp qa K_2 P A)) h (fun K_2 h => ?_)
  refine X.iconst C dX6_driest_24 ?_
  refine X.istore (lv2 := [(4, vi 1), (0, .ref (qk 31)), (1, .ref (qs 31)), (2, vi lx2), (3, vi lx3)]) C dX6_driest_25 (by decide) rfl ?_
  refine X.iconst C dX6_driest_27 ?_
  refine X.istore (lv2 := [(5, vi 0), (4, vi 1), (0, .ref (qk 31)), (1, .ref (qs 31)), (2, vi lx2), (3, vi lx3)]) C dX6_driest_28 (by decide) rfl ?_
  refine X.sub [2, 3, 5, 1, 0] rfl ?_
  refine xX6_driest_30 C qk qs qp qa P A lx3 _ v (fun K_8 h => ?_) FU 1 0 K_2 h
  · refine X.sub [0, 1] rfl ?_
    exact xX6_driest_68 C qk qs qp qa K_8 P A lx3 v h
def rX7_feed : Room := { frames := 1, cells := 0, slots := 0, locals := 22 }
theorem mX7_feed : MV yX7_feed cX7_feed 6 (some .int) 5 := ⟨cd_X7_feed, in_X7, ⟨⟨by decide, by decide⟩, by decide +kernel⟩, im_X7_feed, se_X7_feed⟩
set_option maxHeartbeats 4000000 in
set_option maxRecDepth 100000 in
theorem kX7_feed {l : Launch} {G : GT} (q : Nat → Nat → Nat) (T : Nat → Ob) (lx1 : Int) (lx2 : Int) (lx3 : Int) (lx4 : Int) (lx5 : Int) (v : (Int × (Nat → Ob))) (h : fX7_feed T lx1 lx2 lx3 lx4 lx5 = some v) : CT l G yX7_feed cX7_feed 6 (some .int) rX7_feed [.ref ((q 11) 31), vi lx1, vi lx2, vi lx3, vi lx4, vi lx5] (W_T G q T) (W_T G q v.2) (some (vi v.1)) := by
  unfold fX7_feed at h
  refine CT.of (by decide) (Nat.le_of_ble_eq_true rfl) rfl (fun κ _ C => ?_)
  refine X.aload_n C dX7_feed_0 rfl 0 rfl ?_
  refine X.get C dX7_feed_1 lay_X7 0 rfl rfl 0 (by decide) fl_X7_10 rfl rfl ?_
  refine X.get C dX7_feed_4 lay_X4 2 rfl rfl 1 (by decide) fl_X7_57 rfl rfl ?_
  refine X.bipush C dX7_feed_7 (by decide) ?_
  refine X.iadd C dX7_feed_9 ?_
  refine X.sipush C dX7_feed_10 (by decide) ?_
  refine X.icmp_le (tgt := 18) C h dX7_feed_13 (by decide) (fun h => ?_) (fun h => ?_)
  · refine X.aload_n C dX7_feed_18 rfl 0 rfl ?_
    refine X.get C dX7_feed_19 lay_X7 0 rfl rfl 0 (by decide) fl_X7_10 rfl rfl ?_
    refine X.iload_n C dX7_feed_22 rfl 1 rfl ?_
    refine X.callVv (q0 := 2) (As := [vi lx1]) (rest := []) (W1 := fun rr_1 => (W_Y G (q 0) rr_1)) (ws2 := fun rr_1 => (W_T G q (upO T 0 rr_1))) C h dX7_feed_23 ml_X7_61 mX4_append (fun v hv => kX4_append (q 0) (T 0) lx1 v hv) (fun rr_1 => ln_T_Y_y_Y (G := G) (q := q) (T := T) (NY := rr_1)) rfl rfl rfl rfl rfl rfl rfl rfl (fun rr_1 h => ?_)
    refine X.nameS (ws := fun T_2 => (W_T G q T_2)) h (fun T_2 h => ?_)
    refine X.aload_n C dX7_feed_26 rfl 0 rfl ?_
    refine X.get C dX7_feed_27 lay_X7 0 rfl rfl 0 (by decide) fl_X7_10 rfl rfl ?_
    refine X.iload_n C dX7_feed_30 rfl 2 rfl ?_
    refine X.callVv (q0 := 2) (As := [vi lx2]) (rest := []) (W1 := fun rr_3 => (W_Y G (q 0) rr_3)) (ws2 := fun rr_3 => (W_T G q (upO T_2 0 rr_3))) C h dX7_feed_31 ml_X7_61 mX4_append (fun v hv => kX4_append (q 0) (T_2 0) lx2 v hv) (fun rr_3 => ln_T_Y_y_Y (G := G) (q := q) (T := T_2) (NY := rr_3)) rfl rfl rfl rfl rfl rfl rfl rfl (fun rr_3 h => ?_)
    refine X.nameS (ws := fun T_4 => (W_T G q T_4)) h (fun T_4 h => ?_)
    refine X.aload_n C dX7_feed_34 rfl 0 rfl ?_
    refine X.get C dX7_feed_35 lay_X7 0 rfl rfl 0 (by decide) fl_X7_10 rfl rfl ?_
    refine X.iload_n C dX7_feed_38 rfl 3 rfl ?_
    refine X.callVv (q0 := 2) (As := [vi lx3]) (rest := []) (W1 := fun rr_5 => (W_Y G (q 0) rr_5)) (ws2 := fun rr_5 => (W_T G q (upO T_4 0 rr_5))) C h dX7_feed_39 ml_X7_61 mX4_append (fun v hv => kX4_append (q 0) (T_4 0) lx3 v hv) (fun rr_5 => ln_T_Y_y_Y (G := G) (q := q) (T := T_4) (NY := rr_5)) rfl rfl rfl rfl rfl rfl rfl rfl (fun rr_5 h => ?_)
    refine X.nameS (ws := fun T_6 => (W_T G q T_6)) h (fun T_6 h => ?_)
    refine X.aload_n C dX7_feed_42 rfl 0 rfl ?_
    refine X.get C dX7_feed_43 lay_X7 0 rfl rfl 0 (by decide) fl_X7_10 rfl rfl ?_
    refine X.iload C dX7_feed_46 4 rfl ?_
    refine X.callVv (q0 := 2) (As := [vi lx4]) (rest := []) (W1 := fun rr_7 => (W_Y G (q 0) rr_7)) (ws2 := fun rr_7 => (W_T G q (upO T_6 0 rr_7))) C h dX7_feed_48 ml_X7_61 mX4_append (fun v hv => kX4_append (q 0) (T_6 0) lx4 v hv) (fun rr_7 => ln_T_Y_y_Y (G := G) (q := q) (T := T_6) (NY := rr_7)) rfl rfl rfl rfl rfl rfl rfl rfl (fun rr_7 h => ?_)
    refine X.nameS (ws := fun T_8 => (W_T G q T_8)) h (fun T_8 h => ?_)
    refine X.aload_n C dX7_feed_51 rfl 0 rfl ?_
    refine X.get C dX7_feed_52 lay_X7 0 rfl rfl 0 (by decide) fl_X7_10 rfl rfl ?_
    refine X.iload C dX7_feed_55 5 rfl ?_
    refine X.callVv (q0 := 2) (As := [vi lx5]) (rest := []) (W1 := fun rr_9 => (W_Y G (q 0) rr_9)) (ws2 := fun rr_9 => (W_T G q (upO T_8 0 rr_9))) C h dX7_feed_57 ml_X7_61 mX4_append (fun v hv => kX4_append (q 0) (T_8 0) lx5 v hv) (fun rr_9 => ln_T_Y_y_Y (G := G) (q := q) (T := T_8) (NY := rr_9)) rfl rfl rfl rfl rfl rfl rfl rfl (fun rr_9 h => ?_)
    refine X.nameS (ws := fun T_10 => (W_T G q T_10)) h (fun T_10 h => ?_)
    refine X.aload_n C dX7_feed_60 rfl 0 rfl ?_
    refine X.get C dX7_feed_61 lay_X7 0 rfl rfl 0 (by decide) fl_X7_10 rfl rfl ?_
    refine X.get C dX7_feed_64 lay_X4 2 rfl rfl 1 (by decide) fl_X7_57 rfl rfl ?_
    cases h
    exact X.iret C dX7_feed_67 (Nat.zero_le _) (Nat.zero_le _)
  refine X.iconst C dX7_feed_16 ?_
  cases h
  exact X.iret C dX7_feed_17 (Nat.zero_le _) (Nat.zero_le _)
def rX7_end : Room := { frames := 0, cells := 0, slots := 0, locals := 0 }
theorem mX7_end : MV yX7_end cX7_end 2 (some .int) 1 := ⟨cd_X7_end, in_X7, ⟨⟨by decide, by decide⟩, by decide +kernel⟩, im_X7_end, se_X7_end⟩
set_option maxHeartbeats 4000000 in
set_option maxRecDepth 100000 in
theorem kX7_end {l : Launch} {G : GT} (q : Nat → Nat → Nat) (T : Nat → Ob) (lx1 : Int) (v : (Int × (Nat → Ob))) (h : fX7_end T lx1 = some v) : CT l G yX7_end cX7_end 2 (some .int) rX7_end [.ref ((q 11) 31), vi lx1] (W_T G q T) (W_T G q v.2) (some (vi v.1)) := by
  unfold fX7_end at h
  refine CT.of (by decide) (Nat.le_of_ble_eq_true rfl) rfl (fun κ _ C => ?_)
  refine X.iload_n C dX7_end_0 rfl 1 rfl ?_
  refine X.if_lt (tgt := 15) C h dX7_end_1 (by decide) (fun h => ?_) (fun h => ?_)
  · refine X.iconst C dX7_end_15 ?_
    cases h
    exact X.iret C dX7_end_16 (Nat.zero_le _) (Nat.zero_le _)
  refine X.iload_n C dX7_end_4 rfl 1 rfl ?_
  refine X.aload_n C dX7_end_5 rfl 0 rfl ?_
  refine X.get C dX7_end_6 lay_X7 0 rfl rfl 0 (by decide) fl_X7_10 rfl rfl ?_
  refine X.get C dX7_end_9 lay_X4 2 rfl rfl 1 (by decide) fl_X7_57 rfl rfl ?_
  refine X.icmp_le (tgt := 17) C h dX7_end_12 (by decide) (fun h => ?_) (fun h => ?_)
  · refine X.aload_n C dX7_end_17 rfl 0 rfl ?_
    refine X.get C dX7_end_18 lay_X7 0 rfl rfl 0 (by decide) fl_X7_10 rfl rfl ?_
    refine X.iload_n C dX7_end_21 rfl 1 rfl ?_
    refine X.put (ws2 := (W_T G q (upO T 0 (up2 (T 0) 1 0 lx1)))) (ty := .int) C dX7_end_22 lay_X4 tyX4_ok nmX4 2 rfl rfl 1 (by decide) fl_X7_57 rfl rfl (by decide +kernel) rfl rfl (Nat.le_of_ble_eq_true rfl) rfl ?_
    refine X.nameS (ws := fun T_1 => (W_T G q T_1)) h (fun T_1 h => ?_)
    refine X.iload_n C dX7_end_25 rfl 1 rfl ?_
    cases h
    exact X.iret C dX7_end_26 (Nat.zero_le _) (Nat.zero_le _)
  refine X.iconst C dX7_end_15 ?_
  cases h
  exact X.iret C dX7_end_16 (Nat.zero_le _) (Nat.zero_le _)
def rX7_square : Room := { frames := 10, cells := 0, slots := 0, locals := 265 }
theorem mX7_square : MV yX7_square cX7_square 2 (some .int) 0 := ⟨cd_X7_square, in_X7, ⟨⟨by decide, by decide⟩, by decide +kernel⟩, im_X7_square, se_X7_square⟩
set_option maxHeartbeats 4000000 in
set_option maxRecDepth 100000 in
theorem kX7_square {l : Launch} {G : GT} (q : Nat → Nat → Nat) (T : Nat → Ob) (v : (Int × (Nat → Ob))) (h : fX7_square T = some v) : CT l G yX7_square cX7_square 2 (some .int) rX7_square [.ref ((q 11) 31)] (W_T G q T) (W_T G q v.2) (some (vi v.1)) := by
  unfold fX7_square at h
  refine CT.of (by decide) (Nat.le_of_ble_eq_true rfl) rfl (fun κ _ C => ?_)
  refine X.aload_n C dX7_square_0 rfl 0 rfl ?_
  refine X.get C dX7_square_1 lay_X7 0 rfl rfl 1 (by decide) fl_X7_35 rfl rfl ?_
  refine X.callVi (q0 := 4) (As := []) (rest := []) (g := fun rr_1 => rr_1.1) (W1 := fun rr_1 => (W_L G (q 1) (q 0) (q 4) rr_1.2.1 rr_1.2.2.1 rr_1.2.2.2)) (ws2 := fun rr_1 => (W_T G q (upO (upO (upO T 1 rr_1.2.1) 0 rr_1.2.2.1) 4 rr_1.2.2.2))) C h dX7_square_4 ml_X7_65 mX5_readsAll (fun v hv => kX5_readsAll (q 1) (q 0) (q 4) (T 1) (T 0) (T 4) v hv) (fun rr_1 => ln_T_L_l_y_dp_LYP (G := G) (q := q) (T := T) (NL := rr_1.2.1) (NY := rr_1.2.2.1) (NP := rr_1.2.2.2)) rfl rfl rfl rfl rfl rfl rfl rfl (fun rr_1 h => ?_)
  refine X.nameS (ws := fun T_2 => (W_T G q T_2)) h (fun T_2 h => ?_)
  refine X.istoreN_n (lv2 := fun lx1_3 => [(1, vi lx1_3), (0, .ref ((q 11) 31))]) C h dX7_square_7 rfl (by decide) (fun _ => rfl) (fun lx1_3 h => ?_)
  refine X.aload_n C dX7_square_8 rfl 1 rfl ?_
  refine X.get C dX7_square_9 lay_X7 0 rfl rfl 0 (by decide) fl_X7_10 rfl rfl ?_
  refine X.iconst C dX7_square_12 ?_
  refine X.put (ws2 := (W_T G q (upO T_2 0 (up2 (T_2 0) 1 0 0)))) (ty := .int) C dX7_square_13 lay_X4 tyX4_ok nmX4 2 rfl rfl 1 (by decide) fl_X7_57 rfl rfl (by decide +kernel) rfl rfl (Nat.le_of_ble_eq_true rfl) rfl ?_
  refine X.nameS (ws := fun T_4 => (W_T G q T_4)) h (fun T_4 h => ?_)
  refine X.iload_n C dX7_square_16 rfl 0 rfl ?_
  refine X.if_ne (tgt := 23) C h dX7_square_17 (by decide) (fun h => ?_) (fun h => ?_)
  · refine X.aload_n C dX7_square_23 rfl 1 rfl ?_
    refine X.get C dX7_square_24 lay_X7 0 rfl rfl 2 (by decide) fl_X7_19 rfl rfl ?_
    refine X.get C dX7_square_27 lay_X3 5 rfl rfl 0 (by decide) fl_X7_28 rfl rfl ?_
    refine X.aload_n C dX7_square_30 rfl 1 rfl ?_
    refine X.get C dX7_square_31 lay_X7 0 rfl rfl 3 (by decide) fl_X7_23 rfl rfl ?_
    refine X.get C dX7_square_34 lay_X3 23 rfl rfl 0 (by decide) fl_X7_28 rfl rfl ?_
    refine X.callVv (q0 := 6) (As := [.ref ((q 4) 31)]) (rest := []) (W1 := fun rr_5 => (W_PP G (q 2) (q 4) rr_5 (T_4 4))) (ws2 := fun rr_5 => (W_T G q (upO T_4 2 rr_5))) C h dX7_square_37 ml_X7_69 mX1_copyFrom (fun v hv => kX1_copyFrom (q 2) (q 4) (T_4 2) (T_4 4) v hv) (fun rr_5 => ln_T_PP_np_dp_P (G := G) (q := q) (T := T_4) (NP := rr_5)) rfl rfl rfl rfl rfl rfl rfl rfl (fun rr_5 h => ?_)
    refine X.nameS (ws := fun T_6 => (W_T G q T_6)) h (fun T_6 h => ?_)
    refine X.aload_n C dX7_square_40 rfl 1 rfl ?_
    refine X.get C dX7_square_41 lay_X7 0 rfl rfl 2 (by decide) fl_X7_19 rfl rfl ?_
    refine X.get C dX7_square_44 lay_X3 5 rfl rfl 1 (by decide) fl_X7_75 rfl rfl ?_
    refine X.callVv (q0 := 13) (As := []) (rest := []) (W1 := fun rr_7 => (W_A G (q 3) rr_7)) (ws2 := fun rr_7 => (W_T G q (upO T_6 3 rr_7))) C h dX7_square_47 ml_X7_79 mX0_clear (fun v hv => kX0_clear (q 3) (T_6 3) v hv) (fun rr_7 => ln_T_A_na_A (G := G) (q := q) (T := T_6) (NA := rr_7)) rfl rfl rfl rfl rfl rfl rfl rfl (fun rr_7 h => ?_)
    refine X.nameS (ws := fun T_8 => (W_T G q T_8)) h (fun T_8 h => ?_)
    refine X.aload_n C dX7_square_50 rfl 1 rfl ?_
    refine X.get C dX7_square_51 lay_X7 0 rfl rfl 2 (by decide) fl_X7_19 rfl rfl ?_
    refine X.get C dX7_square_54 lay_X3 5 rfl rfl 0 (by decide) fl_X7_28 rfl rfl ?_
    refine X.get C dX7_square_57 lay_X1 6 rfl rfl 0 (by decide) fl_X7_84 rfl rfl ?_
    cases h
    exact X.iret C dX7_square_60 (Nat.zero_le _) (Nat.zero_le _)
  refine X.bipush C dX7_square_20 (by decide) ?_
  cases h
  exact X.iret C dX7_square_22 (Nat.zero_le _) (Nat.zero_le _)
def rX7_fault : Room := { frames := 0, cells := 0, slots := 0, locals := 0 }
theorem mX7_fault : MV yX7_fault cX7_fault 2 (some .int) 1 := ⟨cd_X7_fault, in_X7, ⟨⟨by decide, by decide⟩, by decide +kernel⟩, im_X7_fault, se_X7_fault⟩
set_option maxHeartbeats 4000000 in
set_option maxRecDepth 100000 in
theorem kX7_fault {l : Launch} {G : GT} (q : Nat → Nat → Nat) (T : Nat → Ob) (lx1 : Int) (v : (Int)) (h : fX7_fault T lx1 = some v) : CT l G yX7_fault cX7_fault 2 (some .int) rX7_fault [.ref ((q 11) 31), vi lx1] (W_T G q T) (W_T G q T) (some (vi v)) := by
  unfold fX7_fault at h
  refine CT.of (by decide) (Nat.le_of_ble_eq_true rfl) rfl (fun κ _ C => ?_)
  refine X.iload_n C dX7_fault_0 rfl 1 rfl ?_
  refine X.if_ne (tgt := 12) C h dX7_fault_1 (by decide) (fun h => ?_) (fun h => ?_)
  · refine X.iload_n C dX7_fault_12 rfl 1 rfl ?_
    refine X.iconst C dX7_fault_13 ?_
    refine X.icmp_ne (tgt := 27) C h dX7_fault_14 (by decide) (fun h => ?_) (fun h => ?_)
    · refine X.iconst C dX7_fault_27 ?_
      cases h
      exact X.iret C dX7_fault_28 (Nat.zero_le _) (Nat.zero_le _)
    refine X.aload_n C dX7_fault_17 rfl 0 rfl ?_
    refine X.get C dX7_fault_18 lay_X7 0 rfl rfl 1 (by decide) fl_X7_35 rfl rfl ?_
    refine X.get C dX7_fault_21 lay_X5 4 rfl rfl 3 (by decide) fl_X7_90 rfl rfl ?_
    refine X.goto (tgt := 28) C dX7_fault_24 (by decide) ?_
    cases h
    exact X.iret C dX7_fault_28 (Nat.zero_le _) (Nat.zero_le _)
  refine X.aload_n C dX7_fault_4 rfl 0 rfl ?_
  refine X.get C dX7_fault_5 lay_X7 0 rfl rfl 1 (by decide) fl_X7_35 rfl rfl ?_
  refine X.get C dX7_fault_8 lay_X5 4 rfl rfl 2 (by decide) fl_X7_87 rfl rfl ?_
  cases h
  exact X.iret C dX7_fault_11 (Nat.zero_le _) (Nat.zero_le _)
def rX7_pace : Room := { frames := 1, cells := 0, slots := 0, locals := 22 }
theorem mX7_pace : MV yX7_pace cX7_pace 2 (some .int) 1 := ⟨cd_X7_pace, in_X7, ⟨⟨by decide, by decide⟩, by decide +kernel⟩, im_X7_pace, se_X7_pace⟩
set_option maxHeartbeats 4000000 in
set_option maxRecDepth 100000 in
theorem kX7_pace {l : Launch} {G : GT} (q : Nat → Nat → Nat) (T : Nat → Ob) (lx1 : Int) (v : (Int)) (h : fX7_pace T lx1 = some v) : CT l G yX7_pace cX7_pace 2 (some .int) rX7_pace [.ref ((q 11) 31), vi lx1] (W_T G q T) (W_T G q T) (some (vi v)) := by
  unfold fX7_pace at h
  refine CT.of (by decide) (Nat.le_of_ble_eq_true rfl) rfl (fun κ _ C => ?_)
  refine X.iload_n C dX7_pace_0 rfl 1 rfl ?_
  refine X.iconst C dX7_pace_1 ?_
  refine X.bipush C dX7_pace_2 (by decide) ?_
  refine X.callSi (As := [vi lx1, vi 0, vi 60]) (rest := []) (g := fun rr_1 => rr_1) (W1 := fun rr_1 => W_0) (ws2 := fun rr_1 => (W_T G q T)) C h dX7_pace_4 ml_X7_93 mX7_isWithin (fun v hv => kX7_isWithin lx1 0 60 v hv) (fun rr_1 => ln_T_0__n (G := G) (q := q) (T := T)) rfl rfl rfl rfl rfl rfl (fun rr_1 h => ?_)
  refine X.if_eq (tgt := 17) C h dX7_pace_7 (by decide) (fun h => ?_) (fun h => ?_)
  · refine X.bipush C dX7_pace_17 (by decide) ?_
    cases h
    exact X.iret C dX7_pace_19 (Nat.zero_le _) (Nat.zero_le _)
  refine X.iload_n C dX7_pace_10 rfl 1 rfl ?_
  refine X.callSi (As := [vi lx1]) (rest := []) (g := fun rr_2 => rr_2) (W1 := fun rr_2 => W_0) (ws2 := fun rr_2 => (W_T G q T)) C h dX7_pace_11 ml_X7_97 mX7_paceOf (fun v hv => kX7_paceOf lx1 v hv) (fun rr_2 => ln_T_0__n (G := G) (q := q) (T := T)) rfl rfl rfl rfl rfl rfl (fun rr_2 h => ?_)
  refine X.goto (tgt := 19) C dX7_pace_14 (by decide) ?_
  cases h
  exact X.iret C dX7_pace_19 (Nat.zero_le _) (Nat.zero_le _)
def rX7_hasSquare : Room := { frames := 0, cells := 0, slots := 0, locals := 0 }
theorem mX7_hasSquare : MV yX7_hasSquare cX7_hasSquare 1 (some .boolean) 0 := ⟨cd_X7_hasSquare, in_X7, ⟨⟨by decide, by decide⟩, by decide +kernel⟩, im_X7_hasSquare, se_X7_hasSquare⟩
set_option maxHeartbeats 4000000 in
set_option maxRecDepth 100000 in
theorem kX7_hasSquare {l : Launch} {G : GT} (q : Nat → Nat → Nat) (T : Nat → Ob) (v : (Int)) (h : fX7_hasSquare T = some v) : CT l G yX7_hasSquare cX7_hasSquare 1 (some .boolean) rX7_hasSquare [.ref ((q 11) 31)] (W_T G q T) (W_T G q T) (some (vi v)) := by
  unfold fX7_hasSquare at h
  refine CT.of (by decide) (Nat.le_of_ble_eq_true rfl) rfl (fun κ _ C => ?_)
  refine X.aload_n C dX7_hasSquare_0 rfl 0 rfl ?_
  refine X.get C dX7_hasSquare_1 lay_X7 0 rfl rfl 2 (by decide) fl_X7_19 rfl rfl ?_
  refine X.get C dX7_hasSquare_4 lay_X3 5 rfl rfl 0 (by decide) fl_X7_28 rfl rfl ?_
  refine X.get C dX7_hasSquare_7 lay_X1 6 rfl rfl 0 (by decide) fl_X7_84 rfl rfl ?_
  refine X.if_le (tgt := 17) C h dX7_hasSquare_10 (by decide) (fun h => ?_) (fun h => ?_)
  · refine X.iconst C dX7_hasSquare_17 ?_
    cases h
    exact X.zret C rfl dX7_hasSquare_18 (Nat.zero_le _) (Nat.zero_le _)
  refine X.iconst C dX7_hasSquare_13 ?_
  refine X.goto (tgt := 18) C dX7_hasSquare_14 (by decide) ?_
  cases h
  exact X.zret C rfl dX7_hasSquare_18 (Nat.zero_le _) (Nat.zero_le _)
def rX7_isWind : Room := { frames := 1, cells := 0, slots := 0, locals := 22 }
theorem mX7_isWind : MS yX7_isWind cX7_isWind 1 (some .boolean) 1 := ⟨cd_X7_isWind, in_X7, ⟨⟨by decide, by decide⟩, by decide +kernel⟩, sm_X7_isWind⟩
set_option maxHeartbeats 4000000 in
set_option maxRecDepth 100000 in
theorem kX7_isWind {l : Launch} {G : GT} (lx0 : Int) (v : (Int)) (h : fX7_isWind lx0 = some v) : CT l G yX7_isWind cX7_isWind 1 (some .boolean) rX7_isWind [vi lx0] W_0 W_0 (some (vi v)) := by
  unfold fX7_isWind at h
  refine CT.of (by decide) (Nat.le_of_ble_eq_true rfl) rfl (fun κ _ C => ?_)
  refine X.iload_n C dX7_isWind_0 rfl 0 rfl ?_
  refine X.iconst C dX7_isWind_1 ?_
  refine X.bipush C dX7_isWind_2 (by decide) ?_
  refine X.callSi (As := [vi lx0, vi 0, vi 39]) (rest := []) (g := fun rr_1 => rr_1) (W1 := fun rr_1 => W_0) (ws2 := fun rr_1 => W_0) C h dX7_isWind_4 ml_X7_93 mX7_isWithin (fun v hv => kX7_isWithin lx0 0 39 v hv) (fun rr_1 => ln_0_0__n) rfl rfl rfl rfl rfl rfl (fun rr_1 h => ?_)
  obtain ⟨hz, h⟩ := gd_out h
  cases h
  exact X.zret C hz dX7_isWind_7 (Nat.zero_le _) (Nat.zero_le _)
def rX7_blowMany : Room := { frames := 4, cells := 0, slots := 0, locals := 100 }
theorem mX7_blowMany : MV yX7_blowMany cX7_blowMany 5 (some .int) 2 := ⟨cd_X7_blowMany, in_X7, ⟨⟨by decide, by decide⟩, by decide +kernel⟩, im_X7_blowMany, se_X7_blowMany⟩
set_option maxHeartbeats 4000000 in
set_option maxRecDepth 100000 in
theorem xX7_blowMany_22 {κ : Kx} {G : GT} (C : Cx κ G yX7_blowMany cX7_blowMany (some .int) 5 rX7_blowMany) (q : Nat → Nat → Nat) (lx1 : Int) (lx2 : Int) (v : (Int × (Nat → Ob))) : ∀ (n : Nat) (lx3 : Int) (lx4 : Int) (T : Nat → Ob), lX7_blowMany_22 lx1 lx2 n lx3 lx4 T = some v → X κ G 5 (W_T G q T) 22 [(0, .ref ((q 11) 31)), (1, vi lx1), (2, vi lx2), (3, vi lx3), (4, vi lx4)] [] 0 0 (QM κ G (W_T G q v.2) (some (vi v.1)) rX7_blowMany.cells rX7_blowMany.slots) := by
  intro n
  induction n with
  | zero => intro _ _ _ h; exact absurd h (fun h => nomatch h)
  | succ n ih =>
    intro lx3 lx4 T h
    rw [lX7_blowMany_22] at h
    refine X.iload C dX7_blowMany_22 4 rfl ?_
    refine X.iload_n C dX7_blowMany_24 rfl 2 rfl ?_
    refine X.icmp_ge (tgt := 45) C h dX7_blowMany_25 (by decide) (fun h => ?_) (fun h => ?_)
    · refine X.iload_n C dX7_blowMany_45 rfl 3 rfl ?_
      cases h
      exact X.iret C dX7_blowMany_46 (Nat.zero_le _) (Nat.zero_le _)
    refine X.iload_n C dX7_blowMany_28 rfl 3 rfl ?_
    refine X.aload_n C dX7_blowMany_29 rfl 0 rfl ?_
    refine X.get C dX7_blowMany_30 lay_X7 0 rfl rfl 2 (by decide) fl_X7_19 rfl rfl ?_
    refine X.iload_n C dX7_blowMany_33 rfl 1 rfl ?_
    refine X.callVi (q0 := 5) (As := [vi lx1]) (rest := [vi lx3]) (g := fun rr_3 => rr_3.1) (W1 := fun rr_3 => (W_S G (q 12) (q 2) (q 3) (T 2) rr_3.2)) (ws2 := fun rr_3 => (W_T G q (upO T 3 rr_3.2))) C h dX7_blowMany_34 ml_X7_337 mX3_playWind (fun v hv => kX3_playWind (q 12) (q 2) (q 3) (T 2) (T 3) lx1 v hv) (fun rr_3 => ln_T_S_ns_np_na_A (G := G) (q := q) (T := T) (NA := rr_3.2)) rfl rfl rfl rfl rfl rfl rfl rfl (fun rr_3 h => ?_)
    refine X.nameS (ws := fun T_4 => (W_T G q T_4)) h (fun T_4 h => ?_)
    refine X.iadd C dX7_blowMany_37 ?_
    refine X.istoreN_n (lv2 := fun lx3_5 => [(3, vi lx3_5), (0, .ref ((q 11) 31)), (1, vi lx1), (2, vi lx2), (4, vi lx4)]) C h dX7_blowMany_38 rfl (by decide) (fun _ => rfl) (fun lx3_5 h => ?_)
    refine X.iincN (lv2 := fun lx4_6 => [(4, vi lx4_6), (3, vi lx3_5), (0, .ref ((q 11) 31)), (1, vi lx1), (2, vi lx2)]) C h dX7_blowMany_39 4 rfl (by decide) (fun _ => rfl) (fun lx4_6 h => ?_)
    refine X.goto (tgt := 22) C dX7_blowMany_42 (by decide) ?_
    refine X.sub [2, 3, 4, 1, 0] rfl ?_
    exact ih lx3_5 lx4_6 T_4 h
set_option maxHeartbeats 4000000 in
set_option maxRecDepth 100000 in
theorem kX7_blowMany {l : Launch} {G : GT} (q : Nat → Nat → Nat) (T : Nat → Ob) (lx1 : Int) (lx2 : Int) (v : (Int × (Nat → Ob))) (h : fX7_blowMany T lx1 lx2 = some v) : CT l G yX7_blowMany cX7_blowMany 5 (some .int) rX7_blowMany [.ref ((q 11) 31), vi lx1, vi lx2] (W_T G q T) (W_T G q v.2) (some (vi v.1)) := by
  unfold fX7_blowMany at h
  refine CT.of (by decide) (Nat.le_of_ble_eq_true rfl) rfl (fun κ _ C => ?_)
  refine X.aload_n C dX7_blowMany_0 rfl 0 rfl ?_
  refine X.callVi (q0 := 0) (As := []) (rest := []) (g := fun rr_1 => rr_1) (W1 := fun rr_1 => (W_T G q T)) (ws2 := fun rr_1 => (W_T G q T)) C h dX7_blowMany_1 ml_X7_178 mX7_hasSquare (fun v hv => kX7_hasSquare q T v hv) (fun rr_1 => ln_T_T_id_n (G := G) (q := q) (T := T)) rfl rfl rfl rfl rfl rfl rfl rfl (fun rr_1 h => ?_)
  refine X.if_eq (tgt := 14) C h dX7_blowMany_4 (by decide) (fun h => ?_) (fun h => ?_)
  · refine X.bipush C dX7_blowMany_14 (by decide) ?_
    cases h
    exact X.iret C dX7_blowMany_16 (Nat.zero_le _) (Nat.zero_le _)
  refine X.iload_n C dX7_blowMany_7 rfl 1 rfl ?_
  refine X.callSi (As := [vi lx1]) (rest := []) (g := fun rr_2 => rr_2) (W1 := fun rr_2 => W_0) (ws2 := fun rr_2 => (W_T G q T)) C h dX7_blowMany_8 ml_X7_246 mX7_isWind (fun v hv => kX7_isWind lx1 v hv) (fun rr_2 => ln_T_0__n (G := G) (q := q) (T := T)) rfl rfl rfl rfl rfl rfl (fun rr_2 h => ?_)
  refine X.if_ne (tgt := 17) C h dX7_blowMany_11 (by decide) (fun h => ?_) (fun h => ?_)
  · refine X.iconst C dX7_blowMany_17 ?_
    refine X.istore_n (lv2 := [(3, vi 0), (0, .ref ((q 11) 31)), (1, vi lx1), (2, vi lx2)]) C dX7_blowMany_18 rfl (by decide) rfl ?_
    refine X.iconst C dX7_blowMany_19 ?_
    refine X.istore (lv2 := [(4, vi 0), (3, vi 0), (0, .ref ((q 11) 31)), (1, vi lx1), (2, vi lx2)]) C dX7_blowMany_20 (by decide) rfl ?_
    refine X.sub [2, 3, 4, 1, 0] rfl ?_
    refine xX7_blowMany_22 C q lx1 lx2 v FU 0 0 T h
  refine X.bipush C dX7_blowMany_14 (by decide) ?_
  cases h
  exact X.iret C dX7_blowMany_16 (Nat.zero_le _) (Nat.zero_le _)
def rX7_blow : Room := { frames := 5, cells := 0, slots := 0, locals := 124 }
theorem mX7_blow : MV yX7_blow cX7_blow 2 (some .int) 1 := ⟨cd_X7_blow, in_X7, ⟨⟨by decide, by decide⟩, by decide +kernel⟩, im_X7_blow, se_X7_blow⟩
set_option maxHeartbeats 4000000 in
set_option maxRecDepth 100000 in
theorem kX7_blow {l : Launch} {G : GT} (q : Nat → Nat → Nat) (T : Nat → Ob) (lx1 : Int) (v : (Int × (Nat → Ob))) (h : fX7_blow T lx1 = some v) : CT l G yX7_blow cX7_blow 2 (some .int) rX7_blow [.ref ((q 11) 31), vi lx1] (W_T G q T) (W_T G q v.2) (some (vi v.1)) := by
  unfold fX7_blow at h
  refine CT.of (by decide) (Nat.le_of_ble_eq_true rfl) rfl (fun κ _ C => ?_)
  refine X.aload_n C dX7_blow_0 rfl 0 rfl ?_
  refine X.iload_n C dX7_blow_1 rfl 1 rfl ?_
  refine X.iconst C dX7_blow_2 ?_
  refine X.callVi (q0 := 0) (As := [vi lx1, vi 1]) (rest := []) (g := fun rr_1 => rr_1.1) (W1 := fun rr_1 => (W_T G q rr_1.2)) (ws2 := fun rr_1 => (W_T G q rr_1.2)) C h dX7_blow_3 ml_X7_101 mX7_blowMany (fun v hv => kX7_blowMany q T lx1 1 v hv) (fun rr_1 => ln_T_T_id_T (G := G) (q := q) (T := T) (NT := rr_1.2)) rfl rfl rfl rfl rfl rfl rfl rfl (fun rr_1 h => ?_)
  cases h
  exact X.iret C dX7_blow_6 (Nat.zero_le _) (Nat.zero_le _)
def rX7_blows : Room := { frames := 5, cells := 0, slots := 0, locals := 124 }
theorem mX7_blows : MV yX7_blows cX7_blows 3 (some .int) 2 := ⟨cd_X7_blows, in_X7, ⟨⟨by decide, by decide⟩, by decide +kernel⟩, im_X7_blows, se_X7_blows⟩
set_option maxHeartbeats 4000000 in
set_option maxRecDepth 100000 in
theorem kX7_blows {l : Launch} {G : GT} (q : Nat → Nat → Nat) (T : Nat → Ob) (lx1 : Int) (lx2 : Int) (v : (Int × (Nat → Ob))) (h : fX7_blows T lx1 lx2 = some v) : CT l G yX7_blows cX7_blows 3 (some .int) rX7_blows [.ref ((q 11) 31), vi lx1, vi lx2] (W_T G q T) (W_T G q v.2) (some (vi v.1)) := by
  unfold fX7_blows at h
  refine CT.of (by decide) (Nat.le_of_ble_eq_true rfl) rfl (fun κ _ C => ?_)
  refine X.iload_n C dX7_blows_0 rfl 2 rfl ?_
  refine X.iconst C dX7_blows_1 ?_
  refine X.sipush C dX7_blows_2 (by decide) ?_
  refine X.callSi (As := [vi lx2, vi 0, vi 400]) (rest := []) (g := fun rr_1 => rr_1) (W1 := fun rr_1 => W_0) (ws2 := fun rr_1 => (W_T G q T)) C h dX7_blows_5 ml_X7_93 mX7_isWithin (fun v hv => kX7_isWithin lx2 0 400 v hv) (fun rr_1 => ln_T_0__n (G := G) (q := q) (T := T)) rfl rfl rfl rfl rfl rfl (fun rr_1 h => ?_)
  refine X.if_eq (tgt := 20) C h dX7_blows_8 (by decide) (fun h => ?_) (fun h => ?_)
  · refine X.bipush C dX7_blows_20 (by decide) ?_
    cases h
    exact X.iret C dX7_blows_22 (Nat.zero_le _) (Nat.zero_le _)
  refine X.aload_n C dX7_blows_11 rfl 0 rfl ?_
  refine X.iload_n C dX7_blows_12 rfl 1 rfl ?_
  refine X.iload_n C dX7_blows_13 rfl 2 rfl ?_
  refine X.callVi (q0 := 0) (As := [vi lx1, vi lx2]) (rest := []) (g := fun rr_2 => rr_2.1) (W1 := fun rr_2 => (W_T G q rr_2.2)) (ws2 := fun rr_2 => (W_T G q rr_2.2)) C h dX7_blows_14 ml_X7_101 mX7_blowMany (fun v hv => kX7_blowMany q T lx1 lx2 v hv) (fun rr_2 => ln_T_T_id_T (G := G) (q := q) (T := T) (NT := rr_2.2)) rfl rfl rfl rfl rfl rfl rfl rfl (fun rr_2 h => ?_)
  refine X.goto (tgt := 22) C dX7_blows_17 (by decide) ?_
  cases h
  exact X.iret C dX7_blows_22 (Nat.zero_le _) (Nat.zero_le _)
def rX7_isSlot : Room := { frames := 1, cells := 0, slots := 0, locals := 22 }
theorem mX7_isSlot : MS yX7_isSlot cX7_isSlot 1 (some .boolean) 1 := ⟨cd_X7_isSlot, in_X7, ⟨⟨by decide, by decide⟩, by decide +kernel⟩, sm_X7_isSlot⟩
set_option maxHeartbeats 4000000 in
set_option maxRecDepth 100000 in
theorem kX7_isSlot {l : Launch} {G : GT} (lx0 : Int) (v : (Int)) (h : fX7_isSlot lx0 = some v) : CT l G yX7_isSlot cX7_isSlot 1 (some .boolean) rX7_isSlot [vi lx0] W_0 W_0 (some (vi v)) := by
  unfold fX7_isSlot at h
  refine CT.of (by decide) (Nat.le_of_ble_eq_true rfl) rfl (fun κ _ C => ?_)
  refine X.iload_n C dX7_isSlot_0 rfl 0 rfl ?_
  refine X.iconst C dX7_isSlot_1 ?_
  refine X.iconst C dX7_isSlot_2 ?_
  refine X.callSi (As := [vi lx0, vi 0, vi 3]) (rest := []) (g := fun rr_1 => rr_1) (W1 := fun rr_1 => W_0) (ws2 := fun rr_1 => W_0) C h dX7_isSlot_3 ml_X7_93 mX7_isWithin (fun v hv => kX7_isWithin lx0 0 3 v hv) (fun rr_1 => ln_0_0__n) rfl rfl rfl rfl rfl rfl (fun rr_1 h => ?_)
  obtain ⟨hz, h⟩ := gd_out h
  cases h
  exact X.zret C hz dX7_isSlot_6 (Nat.zero_le _) (Nat.zero_le _)
def rX7_refusalOf : Room := { frames := 2, cells := 0, slots := 0, locals := 42 }
theorem mX7_refusalOf : MV yX7_refusalOf cX7_refusalOf 2 (some .int) 1 := ⟨cd_X7_refusalOf, in_X7, ⟨⟨by decide, by decide⟩, by decide +kernel⟩, im_X7_refusalOf, se_X7_refusalOf⟩
set_option maxHeartbeats 4000000 in
set_option maxRecDepth 100000 in
theorem kX7_refusalOf {l : Launch} {G : GT} (q : Nat → Nat → Nat) (T : Nat → Ob) (lx1 : Int) (v : (Int)) (h : fX7_refusalOf T lx1 = some v) : CT l G yX7_refusalOf cX7_refusalOf 2 (some .int) rX7_refusalOf [.ref ((q 11) 31), vi lx1] (W_T G q T) (W_T G q T) (some (vi v)) := by
  unfold fX7_refusalOf at h
  refine CT.of (by decide) (Nat.le_of_ble_eq_true rfl) rfl (fun κ _ C => ?_)
  refine X.iload_n C dX7_refusalOf_0 rfl 1 rfl ?_
  refine X.callSi (As := [vi lx1]) (rest := []) (g := fun rr_1 => rr_1) (W1 := fun rr_1 => W_0) (ws2 := fun rr_1 => (W_T G q T)) C h dX7_refusalOf_1 ml_X7_275 mX7_isSlot (fun v hv => kX7_isSlot lx1 v hv) (fun rr_1 => ln_T_0__n (G := G) (q := q) (T := T)) rfl rfl rfl rfl rfl rfl (fun rr_1 h => ?_)
  refine X.if_eq (tgt := 14) C h dX7_refusalOf_4 (by decide) (fun h => ?_) (fun h => ?_)
  · refine X.bipush C dX7_refusalOf_14 (by decide) ?_
    cases h
    exact X.iret C dX7_refusalOf_16 (Nat.zero_le _) (Nat.zero_le _)
  refine X.aload_n C dX7_refusalOf_7 rfl 0 rfl ?_
  refine X.callVi (q0 := 0) (As := []) (rest := []) (g := fun rr_2 => rr_2) (W1 := fun rr_2 => (W_T G q T)) (ws2 := fun rr_2 => (W_T G q T)) C h dX7_refusalOf_8 ml_X7_178 mX7_hasSquare (fun v hv => kX7_hasSquare q T v hv) (fun rr_2 => ln_T_T_id_n (G := G) (q := q) (T := T)) rfl rfl rfl rfl rfl rfl rfl rfl (fun rr_2 h => ?_)
  refine X.if_ne (tgt := 17) C h dX7_refusalOf_11 (by decide) (fun h => ?_) (fun h => ?_)
  · refine X.aload_n C dX7_refusalOf_17 rfl 0 rfl ?_
    refine X.get C dX7_refusalOf_18 lay_X7 0 rfl rfl 5 (by decide) fl_X7_45 rfl rfl ?_
    refine X.iload_n C dX7_refusalOf_21 rfl 1 rfl ?_
    refine X.aldR C h dX7_refusalOf_22 1 rfl (fun h hj_3 => ?_)
    refine X.get C dX7_refusalOf_23 lay_X2 (41 + 2 * (ix lx1)) (row_o hj_3) rfl 0 (by decide) fl_X7_278 rfl rfl ?_
    refine X.if_ne (tgt := 32) C h dX7_refusalOf_26 (by decide) (fun h => ?_) (fun h => ?_)
    · refine X.aload_n C dX7_refusalOf_32 rfl 0 rfl ?_
      refine X.get C dX7_refusalOf_33 lay_X7 0 rfl rfl 5 (by decide) fl_X7_45 rfl rfl ?_
      refine X.iload_n C dX7_refusalOf_36 rfl 1 rfl ?_
      refine X.aldR C h dX7_refusalOf_37 1 rfl (fun h hj_4 => ?_)
      refine X.callVi (q0 := (41 + 2 * (ix lx1))) (As := []) (rest := []) (g := fun rr_5 => rr_5) (W1 := fun rr_5 => (W_R G (q (6 + (ix lx1))) (T (6 + (ix lx1))))) (ws2 := fun rr_5 => (W_T G q T)) C h dX7_refusalOf_38 ml_X7_392 mX2_isOfWinds (fun v hv => kX2_isOfWinds (q (6 + (ix lx1))) (T (6 + (ix lx1))) v hv) (fun rr_5 => ln_T_R_row_n (G := G) (q := q) (T := T) hj_4) (row_o hj_4) rfl rfl rfl rfl rfl rfl rfl (fun rr_5 h => ?_)
      refine X.if_eq (tgt := 48) C h dX7_refusalOf_41 (by decide) (fun h => ?_) (fun h => ?_)
      · refine X.bipush C dX7_refusalOf_48 (by decide) ?_
        cases h
        exact X.iret C dX7_refusalOf_50 (Nat.zero_le _) (Nat.zero_le _)
      refine X.iconst C dX7_refusalOf_44 ?_
      refine X.goto (tgt := 50) C dX7_refusalOf_45 (by decide) ?_
      cases h
      exact X.iret C dX7_refusalOf_50 (Nat.zero_le _) (Nat.zero_le _)
    refine X.bipush C dX7_refusalOf_29 (by decide) ?_
    cases h
    exact X.iret C dX7_refusalOf_31 (Nat.zero_le _) (Nat.zero_le _)
  refine X.bipush C dX7_refusalOf_14 (by decide) ?_
  cases h
  exact X.iret C dX7_refusalOf_16 (Nat.zero_le _) (Nat.zero_le _)
def rX7_day : Room := { frames := 5, cells := 0, slots := 0, locals := 123 }
theorem mX7_day : MV yX7_day cX7_day 3 (some .int) 1 := ⟨cd_X7_day, in_X7, ⟨⟨by decide, by decide⟩, by decide +kernel⟩, im_X7_day, se_X7_day⟩
set_option maxHeartbeats 4000000 in
set_option maxRecDepth 100000 in
theorem kX7_day {l : Launch} {G : GT} (q : Nat → Nat → Nat) (T : Nat → Ob) (lx1 : Int) (v : (Int × (Nat → Ob))) (h : fX7_day T lx1 = some v) : CT l G yX7_day cX7_day 3 (some .int) rX7_day [.ref ((q 11) 31), vi lx1] (W_T G q T) (W_T G q v.2) (some (vi v.1)) := by
  unfold fX7_day at h
  refine CT.of (by decide) (Nat.le_of_ble_eq_true rfl) rfl (fun κ _ C => ?_)
  refine X.aload_n C dX7_day_0 rfl 0 rfl ?_
  refine X.iload_n C dX7_day_1 rfl 1 rfl ?_
  refine X.callVi (q0 := 0) (As := [vi lx1]) (rest := []) (g := fun rr_1 => rr_1) (W1 := fun rr_1 => (W_T G q T)) (ws2 := fun rr_1 => (W_T G q T)) C h dX7_day_2 ml_X7_105 mX7_refusalOf (fun v hv => kX7_refusalOf q T lx1 v hv) (fun rr_1 => ln_T_T_id_n (G := G) (q := q) (T := T)) rfl rfl rfl rfl rfl rfl rfl rfl (fun rr_1 h => ?_)
  refine X.istore_n (lv2 := [(2, vi rr_1), (0, .ref ((q 11) 31)), (1, vi lx1)]) C dX7_day_5 rfl (by decide) rfl ?_
  refine X.iload_n C dX7_day_6 rfl 0 rfl ?_
  refine X.if_eq (tgt := 12) C h dX7_day_7 (by decide) (fun h => ?_) (fun h => ?_)
  · refine X.aload_n C dX7_day_12 rfl 1 rfl ?_
    refine X.get C dX7_day_13 lay_X7 0 rfl rfl 2 (by decide) fl_X7_19 rfl rfl ?_
    refine X.aload_n C dX7_day_16 rfl 1 rfl ?_
    refine X.get C dX7_day_17 lay_X7 0 rfl rfl 5 (by decide) fl_X7_45 rfl rfl ?_
    refine X.iload_n C dX7_day_20 rfl 2 rfl ?_
    refine X.aldR C h dX7_day_21 1 rfl (fun h hj_2 => ?_)
    refine X.callVi (q0 := 5) (As := [.ref ((q (6 + (ix lx1))) 31)]) (rest := []) (g := fun rr_3 => rr_3.1) (W1 := fun rr_3 => (W_SR G (q 12) (q 2) (q 3) (q (6 + (ix lx1))) (T 2) rr_3.2 (T (6 + (ix lx1))))) (ws2 := fun rr_3 => (W_T G q (upO T 3 rr_3.2))) C h dX7_day_22 ml_X7_108 mX3_playRow (fun v hv => kX3_playRow (q 12) (q 2) (q 3) (q (6 + (ix lx1))) (T 2) (T 3) (T (6 + (ix lx1))) v hv) (fun rr_3 => ln_T_SR_ns_np_na_row_A (G := G) (q := q) (T := T) (NA := rr_3.2) hj_2) rfl rfl rfl rfl rfl rfl rfl rfl (fun rr_3 h => ?_)
    refine X.nameS (ws := fun T_4 => (W_T G q T_4)) h (fun T_4 h => ?_)
    cases h
    exact X.iret C dX7_day_25 (Nat.zero_le _) (Nat.zero_le _)
  refine X.iload_n C dX7_day_10 rfl 0 rfl ?_
  cases h
  exact X.iret C dX7_day_11 (Nat.zero_le _) (Nat.zero_le _)
def rX7_areGusts : Room := { frames := 2, cells := 0, slots := 0, locals := 42 }
theorem mX7_areGusts : MV yX7_areGusts cX7_areGusts 5 (some .boolean) 4 := ⟨cd_X7_areGusts, in_X7, ⟨⟨by decide, by decide⟩, by decide +kernel⟩, im_X7_areGusts, se_X7_areGusts⟩
set_option maxHeartbeats 4000000 in
set_option maxRecDepth 100000 in
theorem kX7_areGusts {l : Launch} {G : GT} (q : Nat → Nat → Nat) (T : Nat → Ob) (lx1 : Int) (lx2 : Int) (lx3 : Int) (lx4 : Int) (v : (Int)) (h : fX7_areGusts T lx1 lx2 lx3 lx4 = some v) : CT l G yX7_areGusts cX7_areGusts 5 (some .boolean) rX7_areGusts [.ref ((q 11) 31), vi lx1, vi lx2, vi lx3, vi lx4] (W_T G q T) (W_T G q T) (some (vi v)) := by
  unfold fX7_areGusts at h
  refine CT.of (by decide) (Nat.le_of_ble_eq_true rfl) rfl (fun κ _ C => ?_)
  refine X.aload_n C dX7_areGusts_0 rfl 0 rfl ?_
  refine X.callVi (q0 := 0) (As := []) (rest := []) (g := fun rr_1 => rr_1) (W1 := fun rr_1 => (W_T G q T)) (ws2 := fun rr_1 => (W_T G q T)) C h dX7_areGusts_1 ml_X7_178 mX7_hasSquare (fun v hv => kX7_hasSquare q T v hv) (fun rr_1 => ln_T_T_id_n (G := G) (q := q) (T := T)) rfl rfl rfl rfl rfl rfl rfl rfl (fun rr_1 h => ?_)
  refine X.if_eq (tgt := 51) C h dX7_areGusts_4 (by decide) (fun h => ?_) (fun h => ?_)
  · refine X.iconst C dX7_areGusts_51 ?_
    cases h
    exact X.zret C rfl dX7_areGusts_52 (Nat.zero_le _) (Nat.zero_le _)
  refine X.iload_n C dX7_areGusts_7 rfl 1 rfl ?_
  refine X.iconst C dX7_areGusts_8 ?_
  refine X.ldc_w (z := 2000000000) C ct_X7_391 (by decide) dX7_areGusts_9 ?_
  refine X.callSi (As := [vi lx1, vi 0, vi 2000000000]) (rest := []) (g := fun rr_2 => rr_2) (W1 := fun rr_2 => W_0) (ws2 := fun rr_2 => (W_T G q T)) C h dX7_areGusts_12 ml_X7_93 mX7_isWithin (fun v hv => kX7_isWithin lx1 0 2000000000 v hv) (fun rr_2 => ln_T_0__n (G := G) (q := q) (T := T)) rfl rfl rfl rfl rfl rfl (fun rr_2 h => ?_)
  refine X.if_eq (tgt := 51) C h dX7_areGusts_15 (by decide) (fun h => ?_) (fun h => ?_)
  · refine X.iconst C dX7_areGusts_51 ?_
    cases h
    exact X.zret C rfl dX7_areGusts_52 (Nat.zero_le _) (Nat.zero_le _)
  refine X.iload_n C dX7_areGusts_18 rfl 2 rfl ?_
  refine X.callSi (As := [vi lx2]) (rest := []) (g := fun rr_3 => rr_3) (W1 := fun rr_3 => W_0) (ws2 := fun rr_3 => (W_T G q T)) C h dX7_areGusts_19 ml_X7_246 mX7_isWind (fun v hv => kX7_isWind lx2 v hv) (fun rr_3 => ln_T_0__n (G := G) (q := q) (T := T)) rfl rfl rfl rfl rfl rfl (fun rr_3 h => ?_)
  refine X.if_eq (tgt := 51) C h dX7_areGusts_22 (by decide) (fun h => ?_) (fun h => ?_)
  · refine X.iconst C dX7_areGusts_51 ?_
    cases h
    exact X.zret C rfl dX7_areGusts_52 (Nat.zero_le _) (Nat.zero_le _)
  refine X.iload_n C dX7_areGusts_25 rfl 3 rfl ?_
  refine X.iconst C dX7_areGusts_26 ?_
  refine X.sipush C dX7_areGusts_27 (by decide) ?_
  refine X.callSi (As := [vi lx3, vi 0, vi 400]) (rest := []) (g := fun rr_4 => rr_4) (W1 := fun rr_4 => W_0) (ws2 := fun rr_4 => (W_T G q T)) C h dX7_areGusts_30 ml_X7_93 mX7_isWithin (fun v hv => kX7_isWithin lx3 0 400 v hv) (fun rr_4 => ln_T_0__n (G := G) (q := q) (T := T)) rfl rfl rfl rfl rfl rfl (fun rr_4 h => ?_)
  refine X.if_eq (tgt := 51) C h dX7_areGusts_33 (by decide) (fun h => ?_) (fun h => ?_)
  · refine X.iconst C dX7_areGusts_51 ?_
    cases h
    exact X.zret C rfl dX7_areGusts_52 (Nat.zero_le _) (Nat.zero_le _)
  refine X.iload C dX7_areGusts_36 4 rfl ?_
  refine X.iconst C dX7_areGusts_38 ?_
  refine X.bipush C dX7_areGusts_39 (by decide) ?_
  refine X.callSi (As := [vi lx4, vi 0, vi 100]) (rest := []) (g := fun rr_5 => rr_5) (W1 := fun rr_5 => W_0) (ws2 := fun rr_5 => (W_T G q T)) C h dX7_areGusts_41 ml_X7_93 mX7_isWithin (fun v hv => kX7_isWithin lx4 0 100 v hv) (fun rr_5 => ln_T_0__n (G := G) (q := q) (T := T)) rfl rfl rfl rfl rfl rfl (fun rr_5 h => ?_)
  refine X.if_eq (tgt := 51) C h dX7_areGusts_44 (by decide) (fun h => ?_) (fun h => ?_)
  · refine X.iconst C dX7_areGusts_51 ?_
    cases h
    exact X.zret C rfl dX7_areGusts_52 (Nat.zero_le _) (Nat.zero_le _)
  refine X.iconst C dX7_areGusts_47 ?_
  refine X.goto (tgt := 52) C dX7_areGusts_48 (by decide) ?_
  cases h
  exact X.zret C rfl dX7_areGusts_52 (Nat.zero_le _) (Nat.zero_le _)
def rX7_gusts : Room := { frames := 5, cells := 0, slots := 0, locals := 130 }
theorem mX7_gusts : MV yX7_gusts cX7_gusts 5 (some .int) 4 := ⟨cd_X7_gusts, in_X7, ⟨⟨by decide, by decide⟩, by decide +kernel⟩, im_X7_gusts, se_X7_gusts⟩
set_option maxHeartbeats 4000000 in
set_option maxRecDepth 100000 in
theorem kX7_gusts {l : Launch} {G : GT} (q : Nat → Nat → Nat) (T : Nat → Ob) (lx1 : Int) (lx2 : Int) (lx3 : Int) (lx4 : Int) (v : (Int × (Nat → Ob))) (h : fX7_gusts T lx1 lx2 lx3 lx4 = some v) : CT l G yX7_gusts cX7_gusts 5 (some .int) rX7_gusts [.ref ((q 11) 31), vi lx1, vi lx2, vi lx3, vi lx4] (W_T G q T) (W_T G q v.2) (some (vi v.1)) := by
  unfold fX7_gusts at h
  refine CT.of (by decide) (Nat.le_of_ble_eq_true rfl) rfl (fun κ _ C => ?_)
  refine X.aload_n C dX7_gusts_0 rfl 0 rfl ?_
  refine X.iload_n C dX7_gusts_1 rfl 1 rfl ?_
  refine X.iload_n C dX7_gusts_2 rfl 2 rfl ?_
  refine X.iload_n C dX7_gusts_3 rfl 3 rfl ?_
  refine X.iload C dX7_gusts_4 4 rfl ?_
  refine X.callVi (q0 := 0) (As := [vi lx1, vi lx2, vi lx3, vi lx4]) (rest := []) (g := fun rr_1 => rr_1) (W1 := fun rr_1 => (W_T G q T)) (ws2 := fun rr_1 => (W_T G q T)) C h dX7_gusts_6 ml_X7_112 mX7_areGusts (fun v hv => kX7_areGusts q T lx1 lx2 lx3 lx4 v hv) (fun rr_1 => ln_T_T_id_n (G := G) (q := q) (T := T)) rfl rfl rfl rfl rfl rfl rfl rfl (fun rr_1 h => ?_)
  refine X.if_ne (tgt := 15) C h dX7_gusts_9 (by decide) (fun h => ?_) (fun h => ?_)
  · refine X.aload_n C dX7_gusts_15 rfl 0 rfl ?_
    refine X.get C dX7_gusts_16 lay_X7 0 rfl rfl 2 (by decide) fl_X7_19 rfl rfl ?_
    refine X.iload_n C dX7_gusts_19 rfl 1 rfl ?_
    refine X.iload_n C dX7_gusts_20 rfl 2 rfl ?_
    refine X.iload_n C dX7_gusts_21 rfl 3 rfl ?_
    refine X.iload C dX7_gusts_22 4 rfl ?_
    refine X.callVi (q0 := 5) (As := [vi lx1, vi lx2, vi lx3, vi lx4]) (rest := []) (g := fun rr_2 => rr_2.1) (W1 := fun rr_2 => (W_S G (q 12) (q 2) (q 3) (T 2) rr_2.2)) (ws2 := fun rr_2 => (W_T G q (upO T 3 rr_2.2))) C h dX7_gusts_24 ml_X7_116 mX3_playGusts (fun v hv => kX3_playGusts (q 12) (q 2) (q 3) (T 2) (T 3) lx1 lx2 lx3 lx4 v hv) (fun rr_2 => ln_T_S_ns_np_na_A (G := G) (q := q) (T := T) (NA := rr_2.2)) rfl rfl rfl rfl rfl rfl rfl rfl (fun rr_2 h => ?_)
    refine X.nameS (ws := fun T_3 => (W_T G q T_3)) h (fun T_3 h => ?_)
    cases h
    exact X.iret C dX7_gusts_27 (Nat.zero_le _) (Nat.zero_le _)
  refine X.bipush C dX7_gusts_12 (by decide) ?_
  cases h
  exact X.iret C dX7_gusts_14 (Nat.zero_le _) (Nat.zero_le _)
def rX7_wet : Room := { frames := 1, cells := 0, slots := 0, locals := 22 }
theorem mX7_wet : MV yX7_wet cX7_wet 3 (some .int) 2 := ⟨cd_X7_wet, in_X7, ⟨⟨by decide, by decide⟩, by decide +kernel⟩, im_X7_wet, se_X7_wet⟩
set_option maxHeartbeats 4000000 in
set_option maxRecDepth 100000 in
theorem kX7_wet {l : Launch} {G : GT} (q : Nat → Nat → Nat) (T : Nat → Ob) (lx1 : Int) (lx2 : Int) (v : (Int)) (h : fX7_wet T lx1 lx2 = some v) : CT l G yX7_wet cX7_wet 3 (some .int) rX7_wet [.ref ((q 11) 31), vi lx1, vi lx2] (W_T G q T) (W_T G q T) (some (vi v)) := by
  unfold fX7_wet at h
  refine CT.of (by decide) (Nat.le_of_ble_eq_true rfl) rfl (fun κ _ C => ?_)
  refine X.aload_n C dX7_wet_0 rfl 0 rfl ?_
  refine X.get C dX7_wet_1 lay_X7 0 rfl rfl 2 (by decide) fl_X7_19 rfl rfl ?_
  refine X.get C dX7_wet_4 lay_X3 5 rfl rfl 0 (by decide) fl_X7_28 rfl rfl ?_
  refine X.iload_n C dX7_wet_7 rfl 1 rfl ?_
  refine X.iload_n C dX7_wet_8 rfl 2 rfl ?_
  refine X.callVi (q0 := 6) (As := [vi lx1, vi lx2]) (rest := []) (g := fun rr_1 => rr_1) (W1 := fun rr_1 => (W_P G (q 2) (T 2))) (ws2 := fun rr_1 => (W_T G q T)) C h dX7_wet_9 ml_X7_120 mX1_isCell (fun v hv => kX1_isCell (q 2) (T 2) lx1 lx2 v hv) (fun rr_1 => ln_T_P_np_n (G := G) (q := q) (T := T)) rfl rfl rfl rfl rfl rfl rfl rfl (fun rr_1 h => ?_)
  refine X.if_eq (tgt := 30) C h dX7_wet_12 (by decide) (fun h => ?_) (fun h => ?_)
  · refine X.bipush C dX7_wet_30 (by decide) ?_
    cases h
    exact X.iret C dX7_wet_32 (Nat.zero_le _) (Nat.zero_le _)
  refine X.aload_n C dX7_wet_15 rfl 0 rfl ?_
  refine X.get C dX7_wet_16 lay_X7 0 rfl rfl 2 (by decide) fl_X7_19 rfl rfl ?_
  refine X.get C dX7_wet_19 lay_X3 5 rfl rfl 1 (by decide) fl_X7_75 rfl rfl ?_
  refine X.iload_n C dX7_wet_22 rfl 1 rfl ?_
  refine X.iload_n C dX7_wet_23 rfl 2 rfl ?_
  refine X.callVi (q0 := 13) (As := [vi lx1, vi lx2]) (rest := []) (g := fun rr_2 => rr_2) (W1 := fun rr_2 => (W_A G (q 3) (T 3))) (ws2 := fun rr_2 => (W_T G q T)) C h dX7_wet_24 ml_X7_124 mX0_wetAt (fun v hv => kX0_wetAt (q 3) (T 3) lx1 lx2 v hv) (fun rr_2 => ln_T_A_na_n (G := G) (q := q) (T := T)) rfl rfl rfl rfl rfl rfl rfl rfl (fun rr_2 h => ?_)
  refine X.goto (tgt := 32) C dX7_wet_27 (by decide) ?_
  cases h
  exact X.iret C dX7_wet_32 (Nat.zero_le _) (Nat.zero_le _)
def rX7_isTable : Room := { frames := 1, cells := 0, slots := 0, locals := 22 }
theorem mX7_isTable : MV yX7_isTable cX7_isTable 2 (some .boolean) 1 := ⟨cd_X7_isTable, in_X7, ⟨⟨by decide, by decide⟩, by decide +kernel⟩, im_X7_isTable, se_X7_isTable⟩
set_option maxHeartbeats 4000000 in
set_option maxRecDepth 100000 in
theorem kX7_isTable {l : Launch} {G : GT} (q : Nat → Nat → Nat) (T : Nat → Ob) (lx1 : Int) (v : (Int)) (h : fX7_isTable T lx1 = some v) : CT l G yX7_isTable cX7_isTable 2 (some .boolean) rX7_isTable [.ref ((q 11) 31), vi lx1] (W_T G q T) (W_T G q T) (some (vi v)) := by
  unfold fX7_isTable at h
  refine CT.of (by decide) (Nat.le_of_ble_eq_true rfl) rfl (fun κ _ C => ?_)
  refine X.iload_n C dX7_isTable_0 rfl 1 rfl ?_
  refine X.iconst C dX7_isTable_1 ?_
  refine X.aload_n C dX7_isTable_2 rfl 0 rfl ?_
  refine X.get C dX7_isTable_3 lay_X7 0 rfl rfl 2 (by decide) fl_X7_19 rfl rfl ?_
  refine X.get C dX7_isTable_6 lay_X3 5 rfl rfl 0 (by decide) fl_X7_28 rfl rfl ?_
  refine X.get C dX7_isTable_9 lay_X1 6 rfl rfl 14 (by decide) fl_X7_202 rfl rfl ?_
  refine X.iconst C dX7_isTable_12 ?_
  refine X.isub C dX7_isTable_13 ?_
  refine X.callSi (As := [vi lx1, vi 0, vi (((T 2) 14 0) - 1)]) (rest := []) (g := fun rr_1 => rr_1) (W1 := fun rr_1 => W_0) (ws2 := fun rr_1 => (W_T G q T)) C h dX7_isTable_14 ml_X7_93 mX7_isWithin (fun v hv => kX7_isWithin lx1 0 (((T 2) 14 0) - 1) v hv) (fun rr_1 => ln_T_0__n (G := G) (q := q) (T := T)) rfl rfl rfl rfl rfl rfl (fun rr_1 h => ?_)
  obtain ⟨hz, h⟩ := gd_out h
  cases h
  exact X.zret C hz dX7_isTable_17 (Nat.zero_le _) (Nat.zero_le _)
def rX7_table : Room := { frames := 2, cells := 0, slots := 0, locals := 43 }
theorem mX7_table : MV yX7_table cX7_table 3 (some .int) 2 := ⟨cd_X7_table, in_X7, ⟨⟨by decide, by decide⟩, by decide +kernel⟩, im_X7_table, se_X7_table⟩
set_option maxHeartbeats 4000000 in
set_option maxRecDepth 100000 in
theorem kX7_table {l : Launch} {G : GT} (q : Nat → Nat → Nat) (T : Nat → Ob) (lx1 : Int) (lx2 : Int) (v : (Int)) (h : fX7_table T lx1 lx2 = some v) : CT l G yX7_table cX7_table 3 (some .int) rX7_table [.ref ((q 11) 31), vi lx1, vi lx2] (W_T G q T) (W_T G q T) (some (vi v)) := by
  unfold fX7_table at h
  refine CT.of (by decide) (Nat.le_of_ble_eq_true rfl) rfl (fun κ _ C => ?_)
  refine X.aload_n C dX7_table_0 rfl 0 rfl ?_
  refine X.iload_n C dX7_table_1 rfl 1 rfl ?_
  refine X.callVi (q0 := 0) (As := [vi lx1]) (rest := []) (g := fun rr_1 => rr_1) (W1 := fun rr_1 => (W_T G q T)) (ws2 := fun rr_1 => (W_T G q T)) C h dX7_table_2 ml_X7_127 mX7_isTable (fun v hv => kX7_isTable q T lx1 v hv) (fun rr_1 => ln_T_T_id_n (G := G) (q := q) (T := T)) rfl rfl rfl rfl rfl rfl rfl rfl (fun rr_1 h => ?_)
  refine X.if_ne (tgt := 11) C h dX7_table_5 (by decide) (fun h => ?_) (fun h => ?_)
  · refine X.iload_n C dX7_table_11 rfl 2 rfl ?_
    rcases bq_out h with ⟨c0, h⟩ | ⟨c0, h⟩
    · refine X.tsIn (tgt := 44) c0 C dX7_table_12 (by decide) (by decide) rfl (by decide) ?_
      refine X.aload_n C dX7_table_44 rfl 0 rfl ?_
      refine X.get C dX7_table_45 lay_X7 0 rfl rfl 2 (by decide) fl_X7_19 rfl rfl ?_
      refine X.get C dX7_table_48 lay_X3 5 rfl rfl 0 (by decide) fl_X7_28 rfl rfl ?_
      refine X.get C dX7_table_51 lay_X1 6 rfl rfl 15 (by decide) fl_X7_131 rfl rfl ?_
      refine X.iload_n C dX7_table_54 rfl 1 rfl ?_
      refine X.iald C h dX7_table_55 9 rfl (fun h => ?_)
      cases h
      exact X.iret C dX7_table_56 (Nat.zero_le _) (Nat.zero_le _)
    rcases bq_out h with ⟨c1, h⟩ | ⟨c1, h⟩
    · refine X.tsIn (tgt := 57) c1 C dX7_table_12 (by decide) (by decide) rfl (by decide) ?_
      refine X.aload_n C dX7_table_57 rfl 0 rfl ?_
      refine X.get C dX7_table_58 lay_X7 0 rfl rfl 2 (by decide) fl_X7_19 rfl rfl ?_
      refine X.get C dX7_table_61 lay_X3 5 rfl rfl 0 (by decide) fl_X7_28 rfl rfl ?_
      refine X.get C dX7_table_64 lay_X1 6 rfl rfl 16 (by decide) fl_X7_135 rfl rfl ?_
      refine X.iload_n C dX7_table_67 rfl 1 rfl ?_
      refine X.iald C h dX7_table_68 10 rfl (fun h => ?_)
      cases h
      exact X.iret C dX7_table_69 (Nat.zero_le _) (Nat.zero_le _)
    rcases bq_out h with ⟨c2, h⟩ | ⟨c2, h⟩
    · refine X.tsIn (tgt := 70) c2 C dX7_table_12 (by decide) (by decide) rfl (by decide) ?_
      refine X.aload_n C dX7_table_70 rfl 0 rfl ?_
      refine X.get C dX7_table_71 lay_X7 0 rfl rfl 2 (by decide) fl_X7_19 rfl rfl ?_
      refine X.get C dX7_table_74 lay_X3 5 rfl rfl 0 (by decide) fl_X7_28 rfl rfl ?_
      refine X.get C dX7_table_77 lay_X1 6 rfl rfl 17 (by decide) fl_X7_138 rfl rfl ?_
      refine X.iload_n C dX7_table_80 rfl 1 rfl ?_
      refine X.iald C h dX7_table_81 11 rfl (fun h => ?_)
      cases h
      exact X.iret C dX7_table_82 (Nat.zero_le _) (Nat.zero_le _)
    rcases bq_out h with ⟨c3, h⟩ | ⟨c3, h⟩
    · refine X.tsIn (tgt := 83) c3 C dX7_table_12 (by decide) (by decide) rfl (by decide) ?_
      refine X.aload_n C dX7_table_83 rfl 0 rfl ?_
      refine X.get C dX7_table_84 lay_X7 0 rfl rfl 2 (by decide) fl_X7_19 rfl rfl ?_
      refine X.iload_n C dX7_table_87 rfl 1 rfl ?_
      refine X.callVi (q0 := 5) (As := [vi lx1]) (rest := []) (g := fun rr_2 => rr_2) (W1 := fun rr_2 => (W_S G (q 12) (q 2) (q 3) (T 2) (T 3))) (ws2 := fun rr_2 => (W_T G q T)) C h dX7_table_88 ml_X7_141 mX3_tableWet (fun v hv => kX3_tableWet (q 12) (q 2) (q 3) (T 2) (T 3) lx1 v hv) (fun rr_2 => ln_T_S_ns_np_na_n (G := G) (q := q) (T := T)) rfl rfl rfl rfl rfl rfl rfl rfl (fun rr_2 h => ?_)
      cases h
      exact X.iret C dX7_table_91 (Nat.zero_le _) (Nat.zero_le _)
    refine X.tsOut4 (tgt := 92) c0 c1 c2 c3 C dX7_table_12 (by decide) ?_
    refine X.bipush C dX7_table_92 (by decide) ?_
    cases h
    exact X.iret C dX7_table_94 (Nat.zero_le _) (Nat.zero_le _)
  refine X.bipush C dX7_table_8 (by decide) ?_
  cases h
  exact X.iret C dX7_table_10 (Nat.zero_le _) (Nat.zero_le _)
def rX7_over : Room := { frames := 4, cells := 0, slots := 0, locals := 86 }
theorem mX7_over : MV yX7_over cX7_over 1 (some .int) 0 := ⟨cd_X7_over, in_X7, ⟨⟨by decide, by decide⟩, by decide +kernel⟩, im_X7_over, se_X7_over⟩
set_option maxHeartbeats 4000000 in
set_option maxRecDepth 100000 in
theorem kX7_over {l : Launch} {G : GT} (q : Nat → Nat → Nat) (T : Nat → Ob) (v : (Int)) (h : fX7_over T = some v) : CT l G yX7_over cX7_over 1 (some .int) rX7_over [.ref ((q 11) 31)] (W_T G q T) (W_T G q T) (some (vi v)) := by
  unfold fX7_over at h
  refine CT.of (by decide) (Nat.le_of_ble_eq_true rfl) rfl (fun κ _ C => ?_)
  refine X.aload_n C dX7_over_0 rfl 0 rfl ?_
  refine X.get C dX7_over_1 lay_X7 0 rfl rfl 2 (by decide) fl_X7_19 rfl rfl ?_
  refine X.callVi (q0 := 5) (As := []) (rest := []) (g := fun rr_1 => rr_1) (W1 := fun rr_1 => (W_S G (q 12) (q 2) (q 3) (T 2) (T 3))) (ws2 := fun rr_1 => (W_T G q T)) C h dX7_over_4 ml_X7_144 mX3_tablesOver (fun v hv => kX3_tablesOver (q 12) (q 2) (q 3) (T 2) (T 3) v hv) (fun rr_1 => ln_T_S_ns_np_na_n (G := G) (q := q) (T := T)) rfl rfl rfl rfl rfl rfl rfl rfl (fun rr_1 h => ?_)
  cases h
  exact X.iret C dX7_over_7 (Nat.zero_le _) (Nat.zero_le _)
def rX7_water : Room := { frames := 1, cells := 0, slots := 0, locals := 22 }
theorem mX7_water : MV yX7_water cX7_water 3 (some .int) 1 := ⟨cd_X7_water, in_X7, ⟨⟨by decide, by decide⟩, by decide +kernel⟩, im_X7_water, se_X7_water⟩
set_option maxHeartbeats 4000000 in
set_option maxRecDepth 100000 in
theorem kX7_water {l : Launch} {G : GT} (q : Nat → Nat → Nat) (T : Nat → Ob) (lx1 : Int) (v : (Int)) (h : fX7_water T lx1 = some v) : CT l G yX7_water cX7_water 3 (some .int) rX7_water [.ref ((q 11) 31), vi lx1] (W_T G q T) (W_T G q T) (some (vi v)) := by
  unfold fX7_water at h
  refine CT.of (by decide) (Nat.le_of_ble_eq_true rfl) rfl (fun κ _ C => ?_)
  refine X.aload_n C dX7_water_0 rfl 0 rfl ?_
  refine X.get C dX7_water_1 lay_X7 0 rfl rfl 2 (by decide) fl_X7_19 rfl rfl ?_
  refine X.get C dX7_water_4 lay_X3 5 rfl rfl 1 (by decide) fl_X7_75 rfl rfl ?_
  refine X.astore_n (lv2 := [(2, .ref ((q 3) 31)), (0, .ref ((q 11) 31)), (1, vi lx1)]) C dX7_water_7 rfl (by decide) rfl ?_
  refine X.iload_n C dX7_water_8 rfl 2 rfl ?_
  rcases bq_out h with ⟨c0, h⟩ | ⟨c0, h⟩
  · refine X.tsIn (tgt := 48) c0 C dX7_water_9 (by decide) (by decide) rfl (by decide) ?_
    refine X.aload_n C dX7_water_48 rfl 0 rfl ?_
    refine X.callVi (q0 := 13) (As := []) (rest := []) (g := fun rr_1 => rr_1) (W1 := fun rr_1 => (W_A G (q 3) (T 3))) (ws2 := fun rr_1 => (W_T G q T)) C h dX7_water_49 ml_X7_148 mX0_dropsUp (fun v hv => kX0_dropsUp (q 3) (T 3) v hv) (fun rr_1 => ln_T_A_na_n (G := G) (q := q) (T := T)) rfl rfl rfl rfl rfl rfl rfl rfl (fun rr_1 h => ?_)
    cases h
    exact X.iret C dX7_water_52 (Nat.zero_le _) (Nat.zero_le _)
  rcases bq_out h with ⟨c1, h⟩ | ⟨c1, h⟩
  · refine X.tsIn (tgt := 53) c1 C dX7_water_9 (by decide) (by decide) rfl (by decide) ?_
    refine X.aload_n C dX7_water_53 rfl 0 rfl ?_
    refine X.callVi (q0 := 13) (As := []) (rest := []) (g := fun rr_2 => rr_2) (W1 := fun rr_2 => (W_A G (q 3) (T 3))) (ws2 := fun rr_2 => (W_T G q T)) C h dX7_water_54 ml_X7_148 mX0_dropsUp (fun v hv => kX0_dropsUp (q 3) (T 3) v hv) (fun rr_2 => ln_T_A_na_n (G := G) (q := q) (T := T)) rfl rfl rfl rfl rfl rfl rfl rfl (fun rr_2 h => ?_)
    refine X.if_le (tgt := 67) C h dX7_water_57 (by decide) (fun h => ?_) (fun h => ?_)
    · refine X.iconst C dX7_water_67 ?_
      cases h
      exact X.iret C dX7_water_68 (Nat.zero_le _) (Nat.zero_le _)
    refine X.aload_n C dX7_water_60 rfl 0 rfl ?_
    refine X.callVi (q0 := 13) (As := []) (rest := []) (g := fun rr_3 => rr_3) (W1 := fun rr_3 => (W_A G (q 3) (T 3))) (ws2 := fun rr_3 => (W_T G q T)) C h dX7_water_61 ml_X7_151 mX0_lumpsUp (fun v hv => kX0_lumpsUp (q 3) (T 3) v hv) (fun rr_3 => ln_T_A_na_n (G := G) (q := q) (T := T)) rfl rfl rfl rfl rfl rfl rfl rfl (fun rr_3 h => ?_)
    refine X.goto (tgt := 68) C dX7_water_64 (by decide) ?_
    cases h
    exact X.iret C dX7_water_68 (Nat.zero_le _) (Nat.zero_le _)
  rcases bq_out h with ⟨c2, h⟩ | ⟨c2, h⟩
  · refine X.tsIn (tgt := 69) c2 C dX7_water_9 (by decide) (by decide) rfl (by decide) ?_
    refine X.aload_n C dX7_water_69 rfl 0 rfl ?_
    refine X.get C dX7_water_70 lay_X0 13 rfl rfl 4 (by decide) fl_X7_154 rfl rfl ?_
    cases h
    exact X.iret C dX7_water_73 (Nat.zero_le _) (Nat.zero_le _)
  rcases bq_out h with ⟨c3, h⟩ | ⟨c3, h⟩
  · refine X.tsIn (tgt := 74) c3 C dX7_water_9 (by decide) (by decide) rfl (by decide) ?_
    refine X.aload_n C dX7_water_74 rfl 0 rfl ?_
    refine X.get C dX7_water_75 lay_X0 13 rfl rfl 5 (by decide) fl_X7_157 rfl rfl ?_
    cases h
    exact X.iret C dX7_water_78 (Nat.zero_le _) (Nat.zero_le _)
  rcases bq_out h with ⟨c4, h⟩ | ⟨c4, h⟩
  · refine X.tsIn (tgt := 79) c4 C dX7_water_9 (by decide) (by decide) rfl (by decide) ?_
    refine X.aload_n C dX7_water_79 rfl 0 rfl ?_
    refine X.get C dX7_water_80 lay_X0 13 rfl rfl 6 (by decide) fl_X7_160 rfl rfl ?_
    cases h
    exact X.iret C dX7_water_83 (Nat.zero_le _) (Nat.zero_le _)
  rcases bq_out h with ⟨c5, h⟩ | ⟨c5, h⟩
  · refine X.tsIn (tgt := 84) c5 C dX7_water_9 (by decide) (by decide) rfl (by decide) ?_
    refine X.aload_n C dX7_water_84 rfl 0 rfl ?_
    refine X.get C dX7_water_85 lay_X0 13 rfl rfl 7 (by decide) fl_X7_163 rfl rfl ?_
    cases h
    exact X.iret C dX7_water_88 (Nat.zero_le _) (Nat.zero_le _)
  refine X.tsOut6 (tgt := 89) c0 c1 c2 c3 c4 c5 C dX7_water_9 (by decide) ?_
  refine X.iconst C dX7_water_89 ?_
  cases h
  exact X.iret C dX7_water_90 (Nat.zero_le _) (Nat.zero_le _)
def rX7_jet : Room := { frames := 0, cells := 0, slots := 0, locals := 0 }
theorem mX7_jet : MV yX7_jet cX7_jet 2 (some .int) 1 := ⟨cd_X7_jet, in_X7, ⟨⟨by decide, by decide⟩, by decide +kernel⟩, im_X7_jet, se_X7_jet⟩
set_option maxHeartbeats 4000000 in
set_option maxRecDepth 100000 in
theorem kX7_jet {l : Launch} {G : GT} (q : Nat → Nat → Nat) (T : Nat → Ob) (lx1 : Int) (v : (Int)) (h : fX7_jet T lx1 = some v) : CT l G yX7_jet cX7_jet 2 (some .int) rX7_jet [.ref ((q 11) 31), vi lx1] (W_T G q T) (W_T G q T) (some (vi v)) := by
  unfold fX7_jet at h
  refine CT.of (by decide) (Nat.le_of_ble_eq_true rfl) rfl (fun κ _ C => ?_)
  refine X.iload_n C dX7_jet_0 rfl 1 rfl ?_
  rcases bq_out h with ⟨c0, h⟩ | ⟨c0, h⟩
  · refine X.tsIn (tgt := 32) c0 C dX7_jet_1 (by decide) (by decide) rfl (by decide) ?_
    refine X.aload_n C dX7_jet_32 rfl 0 rfl ?_
    refine X.get C dX7_jet_33 lay_X7 0 rfl rfl 2 (by decide) fl_X7_19 rfl rfl ?_
    refine X.get C dX7_jet_36 lay_X3 5 rfl rfl 1 (by decide) fl_X7_75 rfl rfl ?_
    refine X.get C dX7_jet_39 lay_X0 13 rfl rfl 1 (by decide) fl_X7_166 rfl rfl ?_
    cases h
    exact X.iret C dX7_jet_42 (Nat.zero_le _) (Nat.zero_le _)
  rcases bq_out h with ⟨c1, h⟩ | ⟨c1, h⟩
  · refine X.tsIn (tgt := 43) c1 C dX7_jet_1 (by decide) (by decide) rfl (by decide) ?_
    refine X.aload_n C dX7_jet_43 rfl 0 rfl ?_
    refine X.get C dX7_jet_44 lay_X7 0 rfl rfl 2 (by decide) fl_X7_19 rfl rfl ?_
    refine X.get C dX7_jet_47 lay_X3 5 rfl rfl 1 (by decide) fl_X7_75 rfl rfl ?_
    refine X.get C dX7_jet_50 lay_X0 13 rfl rfl 2 (by decide) fl_X7_169 rfl rfl ?_
    cases h
    exact X.iret C dX7_jet_53 (Nat.zero_le _) (Nat.zero_le _)
  rcases bq_out h with ⟨c2, h⟩ | ⟨c2, h⟩
  · refine X.tsIn (tgt := 54) c2 C dX7_jet_1 (by decide) (by decide) rfl (by decide) ?_
    refine X.aload_n C dX7_jet_54 rfl 0 rfl ?_
    refine X.get C dX7_jet_55 lay_X7 0 rfl rfl 2 (by decide) fl_X7_19 rfl rfl ?_
    refine X.get C dX7_jet_58 lay_X3 5 rfl rfl 1 (by decide) fl_X7_75 rfl rfl ?_
    refine X.get C dX7_jet_61 lay_X0 13 rfl rfl 0 (by decide) fl_X7_172 rfl rfl ?_
    cases h
    exact X.iret C dX7_jet_64 (Nat.zero_le _) (Nat.zero_le _)
  rcases bq_out h with ⟨c3, h⟩ | ⟨c3, h⟩
  · refine X.tsIn (tgt := 65) c3 C dX7_jet_1 (by decide) (by decide) rfl (by decide) ?_
    refine X.aload_n C dX7_jet_65 rfl 0 rfl ?_
    refine X.get C dX7_jet_66 lay_X7 0 rfl rfl 2 (by decide) fl_X7_19 rfl rfl ?_
    refine X.get C dX7_jet_69 lay_X3 5 rfl rfl 1 (by decide) fl_X7_75 rfl rfl ?_
    refine X.get C dX7_jet_72 lay_X0 13 rfl rfl 3 (by decide) fl_X7_175 rfl rfl ?_
    cases h
    exact X.iret C dX7_jet_75 (Nat.zero_le _) (Nat.zero_le _)
  refine X.tsOut4 (tgt := 76) c0 c1 c2 c3 C dX7_jet_1 (by decide) ?_
  refine X.iconst C dX7_jet_76 ?_
  cases h
  exact X.iret C dX7_jet_77 (Nat.zero_le _) (Nat.zero_le _)
def rX7_lets : Room := { frames := 2, cells := 0, slots := 0, locals := 51 }
theorem mX7_lets : MV yX7_lets cX7_lets 2 (some .int) 1 := ⟨cd_X7_lets, in_X7, ⟨⟨by decide, by decide⟩, by decide +kernel⟩, im_X7_lets, se_X7_lets⟩
set_option maxHeartbeats 4000000 in
set_option maxRecDepth 100000 in
theorem kX7_lets {l : Launch} {G : GT} (q : Nat → Nat → Nat) (T : Nat → Ob) (lx1 : Int) (v : (Int)) (h : fX7_lets T lx1 = some v) : CT l G yX7_lets cX7_lets 2 (some .int) rX7_lets [.ref ((q 11) 31), vi lx1] (W_T G q T) (W_T G q T) (some (vi v)) := by
  unfold fX7_lets at h
  refine CT.of (by decide) (Nat.le_of_ble_eq_true rfl) rfl (fun κ _ C => ?_)
  refine X.aload_n C dX7_lets_0 rfl 0 rfl ?_
  refine X.callVi (q0 := 0) (As := []) (rest := []) (g := fun rr_1 => rr_1) (W1 := fun rr_1 => (W_T G q T)) (ws2 := fun rr_1 => (W_T G q T)) C h dX7_lets_1 ml_X7_178 mX7_hasSquare (fun v hv => kX7_hasSquare q T v hv) (fun rr_1 => ln_T_T_id_n (G := G) (q := q) (T := T)) rfl rfl rfl rfl rfl rfl rfl rfl (fun rr_1 h => ?_)
  refine X.if_eq (tgt := 31) C h dX7_lets_4 (by decide) (fun h => ?_) (fun h => ?_)
  · refine X.bipush C dX7_lets_31 (by decide) ?_
    cases h
    exact X.iret C dX7_lets_33 (Nat.zero_le _) (Nat.zero_le _)
  refine X.iload_n C dX7_lets_7 rfl 1 rfl ?_
  refine X.iconst C dX7_lets_8 ?_
  refine X.bipush C dX7_lets_9 (by decide) ?_
  refine X.callSi (As := [vi lx1, vi 0, vi 9]) (rest := []) (g := fun rr_2 => rr_2) (W1 := fun rr_2 => W_0) (ws2 := fun rr_2 => (W_T G q T)) C h dX7_lets_11 ml_X7_93 mX7_isWithin (fun v hv => kX7_isWithin lx1 0 9 v hv) (fun rr_2 => ln_T_0__n (G := G) (q := q) (T := T)) rfl rfl rfl rfl rfl rfl (fun rr_2 h => ?_)
  refine X.if_eq (tgt := 31) C h dX7_lets_14 (by decide) (fun h => ?_) (fun h => ?_)
  · refine X.bipush C dX7_lets_31 (by decide) ?_
    cases h
    exact X.iret C dX7_lets_33 (Nat.zero_le _) (Nat.zero_le _)
  refine X.aload_n C dX7_lets_17 rfl 0 rfl ?_
  refine X.get C dX7_lets_18 lay_X7 0 rfl rfl 2 (by decide) fl_X7_19 rfl rfl ?_
  refine X.get C dX7_lets_21 lay_X3 5 rfl rfl 0 (by decide) fl_X7_28 rfl rfl ?_
  refine X.iload_n C dX7_lets_24 rfl 1 rfl ?_
  refine X.callVi (q0 := 6) (As := [vi lx1]) (rest := []) (g := fun rr_3 => rr_3) (W1 := fun rr_3 => (W_P G (q 2) (T 2))) (ws2 := fun rr_3 => (W_T G q T)) C h dX7_lets_25 ml_X7_181 mX1_highLetBy (fun v hv => kX1_highLetBy (q 2) (T 2) lx1 v hv) (fun rr_3 => ln_T_P_np_n (G := G) (q := q) (T := T)) rfl rfl rfl rfl rfl rfl rfl rfl (fun rr_3 h => ?_)
  refine X.goto (tgt := 33) C dX7_lets_28 (by decide) ?_
  cases h
  exact X.iret C dX7_lets_33 (Nat.zero_le _) (Nat.zero_le _)
def rX7_ice : Room := { frames := 2, cells := 0, slots := 0, locals := 44 }
theorem mX7_ice : MV yX7_ice cX7_ice 1 (some .int) 0 := ⟨cd_X7_ice, in_X7, ⟨⟨by decide, by decide⟩, by decide +kernel⟩, im_X7_ice, se_X7_ice⟩
set_option maxHeartbeats 4000000 in
set_option maxRecDepth 100000 in
theorem kX7_ice {l : Launch} {G : GT} (q : Nat → Nat → Nat) (T : Nat → Ob) (v : (Int)) (h : fX7_ice T = some v) : CT l G yX7_ice cX7_ice 1 (some .int) rX7_ice [.ref ((q 11) 31)] (W_T G q T) (W_T G q T) (some (vi v)) := by
  unfold fX7_ice at h
  refine CT.of (by decide) (Nat.le_of_ble_eq_true rfl) rfl (fun κ _ C => ?_)
  refine X.aload_n C dX7_ice_0 rfl 0 rfl ?_
  refine X.get C dX7_ice_1 lay_X7 0 rfl rfl 2 (by decide) fl_X7_19 rfl rfl ?_
  refine X.callVi (q0 := 5) (As := []) (rest := []) (g := fun rr_1 => rr_1) (W1 := fun rr_1 => (W_S G (q 12) (q 2) (q 3) (T 2) (T 3))) (ws2 := fun rr_1 => (W_T G q T)) C h dX7_ice_4 ml_X7_184 mX3_roadWet (fun v hv => kX3_roadWet (q 12) (q 2) (q 3) (T 2) (T 3) v hv) (fun rr_1 => ln_T_S_ns_np_na_n (G := G) (q := q) (T := T)) rfl rfl rfl rfl rfl rfl rfl rfl (fun rr_1 h => ?_)
  cases h
  exact X.iret C dX7_ice_7 (Nat.zero_le _) (Nat.zero_le _)
def rX7_sum : Room := { frames := 1, cells := 0, slots := 0, locals := 30 }
theorem mX7_sum : MV yX7_sum cX7_sum 10 (some .int) 4 := ⟨cd_X7_sum, in_X7, ⟨⟨by decide, by decide⟩, by decide +kernel⟩, im_X7_sum, se_X7_sum⟩
set_option maxHeartbeats 4000000 in
set_option maxRecDepth 100000 in
theorem xX7_sum_92 {κ : Kx} {G : GT} (C : Cx κ G yX7_sum cX7_sum (some .int) 10 rX7_sum) (q : Nat → Nat → Nat) (T : Nat → Ob) (lx1 : Int) (lx5 : Int) (lx6 : Int) (lx8 : Int) (kx0 : Int → Option (Int)) (v : (Int)) (hk0 : ∀ (lx7 : Int), kx0 lx7 = some v → X κ G 10 (W_T G q T) 124 [(0, .ref ((q 11) 31)), (1, vi lx1), (5, vi lx5), (6, vi lx6), (7, vi lx7), (8, vi lx8)] [] 0 0 (QM κ G (W_T G q T) (some (vi v)) rX7_sum.cells rX7_sum.slots)) : ∀ (n : Nat) (lx7 : Int) (lx9 : Int), lX7_sum_92 T lx1 lx5 lx6 lx8 kx0 n lx7 lx9 = some v → X κ G 10 (W_T G q T) 92 [(0, .ref ((q 11) 31)), (1, vi lx1), (5, vi lx5), (6, vi lx6), (7, vi lx7), (8, vi lx8), (9, vi lx9)] [] 0 0 (QM κ G (W_T G q T) (some (vi v)) rX7_sum.cells rX7_sum.slots) := by
  intro n
  induction n with
  | zero => intro _ _ h; exact absurd h (fun h => nomatch h)
  | succ n ih =>
    intro lx7 lx9 h
    rw [lX7_sum_92] at h
    refine X.iload C dX7_sum_92 6 rfl ?_
    refine X.iload C dX7_sum_94 2 rfl ?_
    refine X.icmp_ge (tgt := 124) C h dX7_sum_96 (by decide) (fun h => ?_) (fun h => ?_)
    · refine X.sub [0, 1, 2, 3, 4, 5] rfl ?_
      exact hk0 lx7 h
    refine X.iload C dX7_sum_99 4 rfl ?_
    refine X.aload_n C dX7_sum_101 rfl 0 rfl ?_
    refine X.get C dX7_sum_102 lay_X7 0 rfl rfl 2 (by decide) fl_X7_19 rfl rfl ?_
    refine X.get C dX7_sum_105 lay_X3 5 rfl rfl 1 (by decide) fl_X7_75 rfl rfl ?_
    refine X.iload C dX7_sum_108 6 rfl ?_
    refine X.iload C dX7_sum_110 5 rfl ?_
    refine X.callVi (q0 := 13) (As := [vi lx9, vi lx8]) (rest := [vi lx7]) (g := fun rr_6 => rr_6) (W1 := fun rr_6 => (W_A G (q 3) (T 3))) (ws2 := fun rr_6 => (W_T G q T)) C h dX7_sum_112 ml_X7_124 mX0_wetAt (fun v hv => kX0_wetAt (q 3) (T 3) lx9 lx8 v hv) (fun rr_6 => ln_T_A_na_n (G := G) (q := q) (T := T)) rfl rfl rfl rfl rfl rfl rfl rfl (fun rr_6 h => ?_)
    refine X.iadd C dX7_sum_115 ?_
    refine X.istoreN (lv2 := fun lx7_7 => [(7, vi lx7_7), (0, .ref ((q 11) 31)), (1, vi lx1), (5, vi lx5), (6, vi lx6), (8, vi lx8), (9, vi lx9)]) C h dX7_sum_116 (by decide) (fun _ => rfl) (fun lx7_7 h => ?_)
    refine X.iincN (lv2 := fun lx9_8 => [(9, vi lx9_8), (7, vi lx7_7), (0, .ref ((q 11) 31)), (1, vi lx1), (5, vi lx5), (6, vi lx6), (8, vi lx8)]) C h dX7_sum_118 6 rfl (by decide) (fun _ => rfl) (fun lx9_8 h => ?_)
    refine X.goto (tgt := 92) C dX7_sum_121 (by decide) ?_
    refine X.sub [2, 3, 4, 5, 1, 6, 0] rfl ?_
    exact ih lx7_7 lx9_8 h
set_option maxHeartbeats 4000000 in
set_option maxRecDepth 100000 in
theorem xX7_sum_82 {κ : Kx} {G : GT} (C : Cx κ G yX7_sum cX7_sum (some .int) 10 rX7_sum) (q : Nat → Nat → Nat) (T : Nat → Ob) (lx1 : Int) (lx5 : Int) (lx6 : Int) (v : (Int)) : ∀ (n : Nat) (lx7 : Int) (lx8 : Int), lX7_sum_82 T lx1 lx5 lx6 n lx7 lx8 = some v → X κ G 10 (W_T G q T) 82 [(0, .ref ((q 11) 31)), (1, vi lx1), (5, vi lx5), (6, vi lx6), (7, vi lx7), (8, vi lx8)] [] 0 0 (QM κ G (W_T G q T) (some (vi v)) rX7_sum.cells rX7_sum.slots) := by
  intro n
  induction n with
  | zero => intro _ _ h; exact absurd h (fun h => nomatch h)
  | succ n ih =>
    intro lx7 lx8 h
    rw [lX7_sum_82] at h
    refine X.iload C dX7_sum_82 5 rfl ?_
    refine X.iload C dX7_sum_84 3 rfl ?_
    refine X.icmp_ge (tgt := 130) C h dX7_sum_86 (by decide) (fun h => ?_) (fun h => ?_)
    · refine X.iload C dX7_sum_130 4 rfl ?_
      cases h
      exact X.iret C dX7_sum_132 (Nat.zero_le _) (Nat.zero_le _)
    refine X.iload_n C dX7_sum_89 rfl 1 rfl ?_
    refine X.istore (lv2 := [(9, vi lx1), (0, .ref ((q 11) 31)), (1, vi lx1), (5, vi lx5), (6, vi lx6), (7, vi lx7), (8, vi lx8)]) C dX7_sum_90 (by decide) rfl ?_
    refine X.sub [1, 2, 3, 4, 5, 6, 0] rfl ?_
    refine xX7_sum_92 C q T lx1 lx5 lx6 lx8 _ v (fun lx7_9 h => ?_) FU lx7 lx1 h
    · refine X.iincN (lv2 := fun lx8_10 => [(8, vi lx8_10), (0, .ref ((q 11) 31)), (1, vi lx1), (5, vi lx5), (6, vi lx6), (7, vi lx7_9)]) C h dX7_sum_124 5 rfl (by decide) (fun _ => rfl) (fun lx8_10 h => ?_)
      refine X.goto (tgt := 82) C dX7_sum_127 (by decide) ?_
      refine X.sub [1, 2, 3, 4, 5, 0] rfl ?_
      exact ih lx7_9 lx8_10 h
set_option maxHeartbeats 4000000 in
set_option maxRecDepth 100000 in
theorem kX7_sum {l : Launch} {G : GT} (q : Nat → Nat → Nat) (T : Nat → Ob) (lx1 : Int) (lx2 : Int) (lx3 : Int) (lx4 : Int) (v : (Int)) (h : fX7_sum T lx1 lx2 lx3 lx4 = some v) : CT l G yX7_sum cX7_sum 10 (some .int) rX7_sum [.ref ((q 11) 31), vi lx1, vi lx2, vi lx3, vi lx4] (W_T G q T) (W_T G q T) (some (vi v)) := by
  unfold fX7_sum at h
  refine CT.of (by decide) (Nat.le_of_ble_eq_true rfl) rfl (fun κ _ C => ?_)
  refine X.aload_n C dX7_sum_0 rfl 0 rfl ?_
  refine X.get C dX7_sum_1 lay_X7 0 rfl rfl 2 (by decide) fl_X7_19 rfl rfl ?_
  refine X.get C dX7_sum_4 lay_X3 5 rfl rfl 0 (by decide) fl_X7_28 rfl rfl ?_
  refine X.iload_n C dX7_sum_7 rfl 1 rfl ?_
  refine X.iload_n C dX7_sum_8 rfl 2 rfl ?_
  refine X.callVi (q0 := 6) (As := [vi lx1, vi lx2]) (rest := []) (g := fun rr_1 => rr_1) (W1 := fun rr_1 => (W_P G (q 2) (T 2))) (ws2 := fun rr_1 => (W_T G q T)) C h dX7_sum_9 ml_X7_120 mX1_isCell (fun v hv => kX1_isCell (q 2) (T 2) lx1 lx2 v hv) (fun rr_1 => ln_T_P_np_n (G := G) (q := q) (T := T)) rfl rfl rfl rfl rfl rfl rfl rfl (fun rr_1 h => ?_)
  refine X.if_eq (tgt := 36) C h dX7_sum_12 (by decide) (fun h => ?_) (fun h => ?_)
  · refine X.bipush C dX7_sum_36 (by decide) ?_
    cases h
    exact X.iret C dX7_sum_38 (Nat.zero_le _) (Nat.zero_le _)
  refine X.iload_n C dX7_sum_15 rfl 3 rfl ?_
  refine X.iconst C dX7_sum_16 ?_
  refine X.bipush C dX7_sum_17 (by decide) ?_
  refine X.callSi (As := [vi lx3, vi 1, vi 30]) (rest := []) (g := fun rr_2 => rr_2) (W1 := fun rr_2 => W_0) (ws2 := fun rr_2 => (W_T G q T)) C h dX7_sum_19 ml_X7_93 mX7_isWithin (fun v hv => kX7_isWithin lx3 1 30 v hv) (fun rr_2 => ln_T_0__n (G := G) (q := q) (T := T)) rfl rfl rfl rfl rfl rfl (fun rr_2 h => ?_)
  refine X.if_eq (tgt := 36) C h dX7_sum_22 (by decide) (fun h => ?_) (fun h => ?_)
  · refine X.bipush C dX7_sum_36 (by decide) ?_
    cases h
    exact X.iret C dX7_sum_38 (Nat.zero_le _) (Nat.zero_le _)
  refine X.iload C dX7_sum_25 4 rfl ?_
  refine X.iconst C dX7_sum_27 ?_
  refine X.bipush C dX7_sum_28 (by decide) ?_
  refine X.callSi (As := [vi lx4, vi 1, vi 30]) (rest := []) (g := fun rr_3 => rr_3) (W1 := fun rr_3 => W_0) (ws2 := fun rr_3 => (W_T G q T)) C h dX7_sum_30 ml_X7_93 mX7_isWithin (fun v hv => kX7_isWithin lx4 1 30 v hv) (fun rr_3 => ln_T_0__n (G := G) (q := q) (T := T)) rfl rfl rfl rfl rfl rfl (fun rr_3 h => ?_)
  refine X.if_ne (tgt := 39) C h dX7_sum_33 (by decide) (fun h => ?_) (fun h => ?_)
  · refine X.iload_n C dX7_sum_39 rfl 1 rfl ?_
    refine X.iload_n C dX7_sum_40 rfl 3 rfl ?_
    refine X.iadd C dX7_sum_41 ?_
    refine X.aload_n C dX7_sum_42 rfl 0 rfl ?_
    refine X.get C dX7_sum_43 lay_X7 0 rfl rfl 2 (by decide) fl_X7_19 rfl rfl ?_
    refine X.get C dX7_sum_46 lay_X3 5 rfl rfl 0 (by decide) fl_X7_28 rfl rfl ?_
    refine X.get C dX7_sum_49 lay_X1 6 rfl rfl 1 (by decide) fl_X7_187 rfl rfl ?_
    refine X.mmin C dX7_sum_52 ml_X7_190 sm_J9_min_7cf53 in_java_lang_Math cd_J9_min_7cf53 (Nat.le_of_ble_eq_true rfl) (Nat.le_of_ble_eq_true rfl) (Nat.zero_le _) (Nat.zero_le _) ?_
    refine X.istoreN (lv2 := fun lx5_4 => [(5, vi lx5_4), (0, .ref ((q 11) 31)), (1, vi lx1), (2, vi lx2), (3, vi lx3), (4, vi lx4)]) C h dX7_sum_55 (by decide) (fun _ => rfl) (fun lx5_4 h => ?_)
    refine X.iload_n C dX7_sum_57 rfl 3 rfl ?_
    refine X.iload C dX7_sum_58 5 rfl ?_
    refine X.iadd C dX7_sum_60 ?_
    refine X.aload_n C dX7_sum_61 rfl 1 rfl ?_
    refine X.get C dX7_sum_62 lay_X7 0 rfl rfl 2 (by decide) fl_X7_19 rfl rfl ?_
    refine X.get C dX7_sum_65 lay_X3 5 rfl rfl 0 (by decide) fl_X7_28 rfl rfl ?_
    refine X.get C dX7_sum_68 lay_X1 6 rfl rfl 2 (by decide) fl_X7_195 rfl rfl ?_
    refine X.mmin C dX7_sum_71 ml_X7_190 sm_J9_min_7cf53 in_java_lang_Math cd_J9_min_7cf53 (Nat.le_of_ble_eq_true rfl) (Nat.le_of_ble_eq_true rfl) (Nat.zero_le _) (Nat.zero_le _) ?_
    refine X.istoreN (lv2 := fun lx6_5 => [(6, vi lx6_5), (5, vi lx5_4), (0, .ref ((q 11) 31)), (1, vi lx1), (2, vi lx2), (3, vi lx3), (4, vi lx4)]) C h dX7_sum_74 (by decide) (fun _ => rfl) (fun lx6_5 h => ?_)
    refine X.iconst C dX7_sum_76 ?_
    refine X.istore (lv2 := [(7, vi 0), (6, vi lx6_5), (5, vi lx5_4), (0, .ref ((q 11) 31)), (1, vi lx1), (2, vi lx2), (3, vi lx3), (4, vi lx4)]) C dX7_sum_77 (by decide) rfl ?_
    refine X.iload_n C dX7_sum_79 rfl 5 rfl ?_
    refine X.istore (lv2 := [(8, vi lx2), (7, vi 0), (6, vi lx6_5), (5, vi lx5_4), (0, .ref ((q 11) 31)), (1, vi lx1), (2, vi lx2), (3, vi lx3), (4, vi lx4)]) C dX7_sum_80 (by decide) rfl ?_
    refine X.sub [4, 5, 3, 2, 1, 0] rfl ?_
    refine xX7_sum_82 C q T lx1 lx5_4 lx6_5 v FU 0 lx2 h
  refine X.bipush C dX7_sum_36 (by decide) ?_
  cases h
  exact X.iret C dX7_sum_38 (Nat.zero_le _) (Nat.zero_le _)
def rX7_wettest : Room := { frames := 1, cells := 0, slots := 0, locals := 22 }
theorem mX7_wettest : MV yX7_wettest cX7_wettest 6 (some .int) 1 := ⟨cd_X7_wettest, in_X7, ⟨⟨by decide, by decide⟩, by decide +kernel⟩, im_X7_wettest, se_X7_wettest⟩
set_option maxHeartbeats 4000000 in
set_option maxRecDepth 100000 in
theorem xX7_wettest_44 {κ : Kx} {G : GT} (C : Cx κ G yX7_wettest cX7_wettest (some .int) 6 rX7_wettest) (q : Nat → Nat → Nat) (T : Nat → Ob) (lx1 : Int) (lx4 : Int) (kx0 : Int → Int → Option (Int)) (v : (Int)) (hk0 : ∀ (lx2 : Int) (lx3 : Int), kx0 lx2 lx3 = some v → X κ G 6 (W_T G q T) 106 [(0, .ref ((q 11) 31)), (1, vi lx1), (2, vi lx2), (3, vi lx3), (4, vi lx4)] [] 0 0 (QM κ G (W_T G q T) (some (vi v)) rX7_wettest.cells rX7_wettest.slots)) : ∀ (n : Nat) (lx2 : Int) (lx3 : Int) (lx5 : Int), lX7_wettest_44 T lx1 lx4 kx0 n lx2 lx3 lx5 = some v → X κ G 6 (W_T G q T) 44 [(0, .ref ((q 11) 31)), (1, vi lx1), (2, vi lx2), (3, vi lx3), (4, vi lx4), (5, vi lx5)] [] 0 0 (QM κ G (W_T G q T) (some (vi v)) rX7_wettest.cells rX7_wettest.slots) := by
  intro n
  induction n with
  | zero => intro _ _ _ h; exact absurd h (fun h => nomatch h)
  | succ n ih =>
    intro lx2 lx3 lx5 h
    rw [lX7_wettest_44] at h
    refine X.iload C dX7_wettest_44 5 rfl ?_
    refine X.aload_n C dX7_wettest_46 rfl 0 rfl ?_
    refine X.get C dX7_wettest_47 lay_X7 0 rfl rfl 2 (by decide) fl_X7_19 rfl rfl ?_
    refine X.get C dX7_wettest_50 lay_X3 5 rfl rfl 0 (by decide) fl_X7_28 rfl rfl ?_
    refine X.get C dX7_wettest_53 lay_X1 6 rfl rfl 1 (by decide) fl_X7_187 rfl rfl ?_
    refine X.icmp_ge (tgt := 106) C h dX7_wettest_56 (by decide) (fun h => ?_) (fun h => ?_)
    · refine X.sub [0, 1, 2, 3, 4] rfl ?_
      exact hk0 lx2 lx3 h
    refine X.aload_n C dX7_wettest_59 rfl 0 rfl ?_
    refine X.get C dX7_wettest_60 lay_X7 0 rfl rfl 2 (by decide) fl_X7_19 rfl rfl ?_
    refine X.get C dX7_wettest_63 lay_X3 5 rfl rfl 1 (by decide) fl_X7_75 rfl rfl ?_
    refine X.iload C dX7_wettest_66 5 rfl ?_
    refine X.iload C dX7_wettest_68 4 rfl ?_
    refine X.callVi (q0 := 13) (As := [vi lx5, vi lx4]) (rest := []) (g := fun rr_3 => rr_3) (W1 := fun rr_3 => (W_A G (q 3) (T 3))) (ws2 := fun rr_3 => (W_T G q T)) C h dX7_wettest_70 ml_X7_124 mX0_wetAt (fun v hv => kX0_wetAt (q 3) (T 3) lx5 lx4 v hv) (fun rr_3 => ln_T_A_na_n (G := G) (q := q) (T := T)) rfl rfl rfl rfl rfl rfl rfl rfl (fun rr_3 h => ?_)
    refine X.iload_n C dX7_wettest_73 rfl 2 rfl ?_
    refine X.icmp_le (tgt := 100) C h dX7_wettest_74 (by decide) (fun h => ?_) (fun h => ?_)
    · refine X.iincN (lv2 := fun lx5_4 => [(5, vi lx5_4), (0, .ref ((q 11) 31)), (1, vi lx1), (2, vi lx2), (3, vi lx3), (4, vi lx4)]) C h dX7_wettest_100 5 rfl (by decide) (fun _ => rfl) (fun lx5_4 h => ?_)
      refine X.goto (tgt := 44) C dX7_wettest_103 (by decide) ?_
      refine X.sub [1, 2, 3, 4, 5, 0] rfl ?_
      exact ih lx2 lx3 lx5_4 h
    refine X.aload_n C dX7_wettest_77 rfl 0 rfl ?_
    refine X.get C dX7_wettest_78 lay_X7 0 rfl rfl 2 (by decide) fl_X7_19 rfl rfl ?_
    refine X.get C dX7_wettest_81 lay_X3 5 rfl rfl 1 (by decide) fl_X7_75 rfl rfl ?_
    refine X.iload C dX7_wettest_84 5 rfl ?_
    refine X.iload C dX7_wettest_86 4 rfl ?_
    refine X.callVi (q0 := 13) (As := [vi lx5, vi lx4]) (rest := []) (g := fun rr_5 => rr_5) (W1 := fun rr_5 => (W_A G (q 3) (T 3))) (ws2 := fun rr_5 => (W_T G q T)) C h dX7_wettest_88 ml_X7_124 mX0_wetAt (fun v hv => kX0_wetAt (q 3) (T 3) lx5 lx4 v hv) (fun rr_5 => ln_T_A_na_n (G := G) (q := q) (T := T)) rfl rfl rfl rfl rfl rfl rfl rfl (fun rr_5 h => ?_)
    refine X.istore_n (lv2 := [(2, vi rr_5), (0, .ref ((q 11) 31)), (1, vi lx1), (3, vi lx3), (4, vi lx4), (5, vi lx5)]) C dX7_wettest_91 rfl (by decide) rfl ?_
    refine X.iload C dX7_wettest_92 5 rfl ?_
    refine X.iload C dX7_wettest_94 4 rfl ?_
    refine X.callSi (As := [vi lx5, vi lx4]) (rest := []) (g := fun rr_6 => rr_6) (W1 := fun rr_6 => W_0) (ws2 := fun rr_6 => (W_T G q T)) C h dX7_wettest_96 ml_X7_196 mX7_placeOf (fun v hv => kX7_placeOf lx5 lx4 v hv) (fun rr_6 => ln_T_0__n (G := G) (q := q) (T := T)) rfl rfl rfl rfl rfl rfl (fun rr_6 h => ?_)
    refine X.istore_n (lv2 := [(3, vi rr_6), (2, vi rr_5), (0, .ref ((q 11) 31)), (1, vi lx1), (4, vi lx4), (5, vi lx5)]) C dX7_wettest_99 rfl (by decide) rfl ?_
    refine X.iincN (lv2 := fun lx5_7 => [(5, vi lx5_7), (3, vi rr_6), (2, vi rr_5), (0, .ref ((q 11) 31)), (1, vi lx1), (4, vi lx4)]) C h dX7_wettest_100 5 rfl (by decide) (fun _ => rfl) (fun lx5_7 h => ?_)
    refine X.goto (tgt := 44) C dX7_wettest_103 (by decide) ?_
    refine X.sub [3, 4, 2, 1, 5, 0] rfl ?_
    exact ih rr_5 rr_6 lx5_7 h
set_option maxHeartbeats 4000000 in
set_option maxRecDepth 100000 in
theorem xX7_wettest_26 {κ : Kx} {G : GT} (C : Cx κ G yX7_wettest cX7_wettest (some .int) 6 rX7_wettest) (q : Nat → Nat → Nat) (T : Nat → Ob) (lx1 : Int) (kx0 : Int → Int → Option (Int)) (v : (Int)) (hk0 : ∀ (lx2 : Int) (lx3 : Int), kx0 lx2 lx3 = some v → X κ G 6 (W_T G q T) 112 [(1, vi lx1), (2, vi lx2), (3, vi lx3)] [] 0 0 (QM κ G (W_T G q T) (some (vi v)) rX7_wettest.cells rX7_wettest.slots)) : ∀ (n : Nat) (lx2 : Int) (lx3 : Int) (lx4 : Int), lX7_wettest_26 T lx1 kx0 n lx2 lx3 lx4 = some v → X κ G 6 (W_T G q T) 26 [(0, .ref ((q 11) 31)), (1, vi lx1), (2, vi lx2), (3, vi lx3), (4, vi lx4)] [] 0 0 (QM κ G (W_T G q T) (some (vi v)) rX7_wettest.cells rX7_wettest.slots) := by
  intro n
  induction n with
  | zero => intro _ _ _ h; exact absurd h (fun h => nomatch h)
  | succ n ih =>
    intro lx2 lx3 lx4 h
    rw [lX7_wettest_26] at h
    refine X.iload C dX7_wettest_26 4 rfl ?_
    refine X.aload_n C dX7_wettest_28 rfl 0 rfl ?_
    refine X.get C dX7_wettest_29 lay_X7 0 rfl rfl 2 (by decide) fl_X7_19 rfl rfl ?_
    refine X.get C dX7_wettest_32 lay_X3 5 rfl rfl 0 (by decide) fl_X7_28 rfl rfl ?_
    refine X.get C dX7_wettest_35 lay_X1 6 rfl rfl 2 (by decide) fl_X7_195 rfl rfl ?_
    refine X.icmp_ge (tgt := 112) C h dX7_wettest_38 (by decide) (fun h => ?_) (fun h => ?_)
    · refine X.sub [1, 2, 3] rfl ?_
      exact hk0 lx2 lx3 h
    refine X.iconst C dX7_wettest_41 ?_
    refine X.istore (lv2 := [(5, vi 0), (0, .ref ((q 11) 31)), (1, vi lx1), (2, vi lx2), (3, vi lx3), (4, vi lx4)]) C dX7_wettest_42 (by decide) rfl ?_
    refine X.sub [1, 2, 3, 4, 5, 0] rfl ?_
    refine xX7_wettest_44 C q T lx1 lx4 _ v (fun lx2_8 lx3_9 h => ?_) FU lx2 lx3 0 h
    · refine X.iincN (lv2 := fun lx4_10 => [(4, vi lx4_10), (0, .ref ((q 11) 31)), (1, vi lx1), (2, vi lx2_8), (3, vi lx3_9)]) C h dX7_wettest_106 4 rfl (by decide) (fun _ => rfl) (fun lx4_10 h => ?_)
      refine X.goto (tgt := 26) C dX7_wettest_109 (by decide) ?_
      refine X.sub [1, 2, 3, 4, 0] rfl ?_
      exact ih lx2_8 lx3_9 lx4_10 h
set_option maxHeartbeats 4000000 in
set_option maxRecDepth 100000 in
theorem kX7_wettest {l : Launch} {G : GT} (q : Nat → Nat → Nat) (T : Nat → Ob) (lx1 : Int) (v : (Int)) (h : fX7_wettest T lx1 = some v) : CT l G yX7_wettest cX7_wettest 6 (some .int) rX7_wettest [.ref ((q 11) 31), vi lx1] (W_T G q T) (W_T G q T) (some (vi v)) := by
  unfold fX7_wettest at h
  refine CT.of (by decide) (Nat.le_of_ble_eq_true rfl) rfl (fun κ _ C => ?_)
  refine X.aload_n C dX7_wettest_0 rfl 0 rfl ?_
  refine X.callVi (q0 := 0) (As := []) (rest := []) (g := fun rr_1 => rr_1) (W1 := fun rr_1 => (W_T G q T)) (ws2 := fun rr_1 => (W_T G q T)) C h dX7_wettest_1 ml_X7_178 mX7_hasSquare (fun v hv => kX7_hasSquare q T v hv) (fun rr_1 => ln_T_T_id_n (G := G) (q := q) (T := T)) rfl rfl rfl rfl rfl rfl rfl rfl (fun rr_1 h => ?_)
  refine X.if_eq (tgt := 16) C h dX7_wettest_4 (by decide) (fun h => ?_) (fun h => ?_)
  · refine X.bipush C dX7_wettest_16 (by decide) ?_
    cases h
    exact X.iret C dX7_wettest_18 (Nat.zero_le _) (Nat.zero_le _)
  refine X.iload_n C dX7_wettest_7 rfl 1 rfl ?_
  refine X.iconst C dX7_wettest_8 ?_
  refine X.iconst C dX7_wettest_9 ?_
  refine X.callSi (As := [vi lx1, vi 0, vi 1]) (rest := []) (g := fun rr_2 => rr_2) (W1 := fun rr_2 => W_0) (ws2 := fun rr_2 => (W_T G q T)) C h dX7_wettest_10 ml_X7_93 mX7_isWithin (fun v hv => kX7_isWithin lx1 0 1 v hv) (fun rr_2 => ln_T_0__n (G := G) (q := q) (T := T)) rfl rfl rfl rfl rfl rfl (fun rr_2 h => ?_)
  refine X.if_ne (tgt := 19) C h dX7_wettest_13 (by decide) (fun h => ?_) (fun h => ?_)
  · refine X.iconst C dX7_wettest_19 ?_
    refine X.istore_n (lv2 := [(2, vi 0), (0, .ref ((q 11) 31)), (1, vi lx1)]) C dX7_wettest_20 rfl (by decide) rfl ?_
    refine X.iconst C dX7_wettest_21 ?_
    refine X.istore_n (lv2 := [(3, vi (-1)), (2, vi 0), (0, .ref ((q 11) 31)), (1, vi lx1)]) C dX7_wettest_22 rfl (by decide) rfl ?_
    refine X.iconst C dX7_wettest_23 ?_
    refine X.istore (lv2 := [(4, vi 0), (3, vi (-1)), (2, vi 0), (0, .ref ((q 11) 31)), (1, vi lx1)]) C dX7_wettest_24 (by decide) rfl ?_
    refine X.sub [3, 4, 2, 1, 0] rfl ?_
    refine xX7_wettest_26 C q T lx1 _ v (fun lx2_11 lx3_12 h => ?_) FU 0 (-1) 0 h
    · refine X.iload_n C dX7_wettest_112 rfl 0 rfl ?_
      refine X.if_eq (tgt := 121) C h dX7_wettest_113 (by decide) (fun h => ?_) (fun h => ?_)
      · refine X.iload_n C dX7_wettest_121 rfl 2 rfl ?_
        refine X.goto (tgt := 126) C dX7_wettest_122 (by decide) ?_
        cases h
        exact X.iret C dX7_wettest_126 (Nat.zero_le _) (Nat.zero_le _)
      refine X.iload_n C dX7_wettest_116 rfl 2 rfl ?_
      refine X.iconst C dX7_wettest_117 ?_
      refine X.icmp_ne (tgt := 125) C h dX7_wettest_118 (by decide) (fun h => ?_) (fun h => ?_)
      · refine X.iload_n C dX7_wettest_125 rfl 1 rfl ?_
        cases h
        exact X.iret C dX7_wettest_126 (Nat.zero_le _) (Nat.zero_le _)
      refine X.iload_n C dX7_wettest_121 rfl 2 rfl ?_
      refine X.goto (tgt := 126) C dX7_wettest_122 (by decide) ?_
      cases h
      exact X.iret C dX7_wettest_126 (Nat.zero_le _) (Nat.zero_le _)
  refine X.bipush C dX7_wettest_16 (by decide) ?_
  cases h
  exact X.iret C dX7_wettest_18 (Nat.zero_le _) (Nat.zero_le _)
def rX7_countRows : Room := { frames := 0, cells := 0, slots := 0, locals := 0 }
theorem mX7_countRows : MV yX7_countRows cX7_countRows 3 (some .int) 0 := ⟨cd_X7_countRows, in_X7, ⟨⟨by decide, by decide⟩, by decide +kernel⟩, im_X7_countRows, se_X7_countRows⟩
set_option maxHeartbeats 4000000 in
set_option maxRecDepth 100000 in
theorem xX7_countRows_4 {κ : Kx} {G : GT} (C : Cx κ G yX7_countRows cX7_countRows (some .int) 3 rX7_countRows) (q : Nat → Nat → Nat) (T : Nat → Ob) (v : (Int)) : ∀ (n : Nat) (lx1 : Int) (lx2 : Int), lX7_countRows_4 T n lx1 lx2 = some v → X κ G 3 (W_T G q T) 4 [(0, .ref ((q 11) 31)), (1, vi lx1), (2, vi lx2)] [] 0 0 (QM κ G (W_T G q T) (some (vi v)) rX7_countRows.cells rX7_countRows.slots) := by
  intro n
  induction n with
  | zero => intro _ _ h; exact absurd h (fun h => nomatch h)
  | succ n ih =>
    intro lx1 lx2 h
    rw [lX7_countRows_4] at h
    refine X.iload_n C dX7_countRows_4 rfl 2 rfl ?_
    refine X.iconst C dX7_countRows_5 ?_
    refine X.icmp_ge (tgt := 30) C h dX7_countRows_6 (by decide) (fun h => ?_) (fun h => ?_)
    · refine X.iload_n C dX7_countRows_30 rfl 1 rfl ?_
      cases h
      exact X.iret C dX7_countRows_31 (Nat.zero_le _) (Nat.zero_le _)
    refine X.aload_n C dX7_countRows_9 rfl 0 rfl ?_
    refine X.get C dX7_countRows_10 lay_X7 0 rfl rfl 5 (by decide) fl_X7_45 rfl rfl ?_
    refine X.iload_n C dX7_countRows_13 rfl 2 rfl ?_
    refine X.aldR C h dX7_countRows_14 1 rfl (fun h hj_1 => ?_)
    refine X.get C dX7_countRows_15 lay_X2 (41 + 2 * (ix lx2)) (row_o hj_1) rfl 0 (by decide) fl_X7_278 rfl rfl ?_
    refine X.if_eq (tgt := 24) C h dX7_countRows_18 (by decide) (fun h => ?_) (fun h => ?_)
    · refine X.iincN (lv2 := fun lx2_2 => [(2, vi lx2_2), (0, .ref ((q 11) 31)), (1, vi lx1)]) C h dX7_countRows_24 2 rfl (by decide) (fun _ => rfl) (fun lx2_2 h => ?_)
      refine X.goto (tgt := 4) C dX7_countRows_27 (by decide) ?_
      refine X.sub [1, 2, 0] rfl ?_
      exact ih lx1 lx2_2 h
    refine X.iincN (lv2 := fun lx1_3 => [(1, vi lx1_3), (0, .ref ((q 11) 31)), (2, vi lx2)]) C h dX7_countRows_21 1 rfl (by decide) (fun _ => rfl) (fun lx1_3 h => ?_)
    refine X.iincN (lv2 := fun lx2_4 => [(2, vi lx2_4), (1, vi lx1_3), (0, .ref ((q 11) 31))]) C h dX7_countRows_24 2 rfl (by decide) (fun _ => rfl) (fun lx2_4 h => ?_)
    refine X.goto (tgt := 4) C dX7_countRows_27 (by decide) ?_
    refine X.sub [2, 1, 0] rfl ?_
    exact ih lx1_3 lx2_4 h
set_option maxHeartbeats 4000000 in
set_option maxRecDepth 100000 in
theorem kX7_countRows {l : Launch} {G : GT} (q : Nat → Nat → Nat) (T : Nat → Ob) (v : (Int)) (h : fX7_countRows T = some v) : CT l G yX7_countRows cX7_countRows 3 (some .int) rX7_countRows [.ref ((q 11) 31)] (W_T G q T) (W_T G q T) (some (vi v)) := by
  unfold fX7_countRows at h
  refine CT.of (by decide) (Nat.le_of_ble_eq_true rfl) rfl (fun κ _ C => ?_)
  refine X.iconst C dX7_countRows_0 ?_
  refine X.istore_n (lv2 := [(1, vi 0), (0, .ref ((q 11) 31))]) C dX7_countRows_1 rfl (by decide) rfl ?_
  refine X.iconst C dX7_countRows_2 ?_
  refine X.istore_n (lv2 := [(2, vi 0), (1, vi 0), (0, .ref ((q 11) 31))]) C dX7_countRows_3 rfl (by decide) rfl ?_
  refine X.sub [2, 1, 0] rfl ?_
  refine xX7_countRows_4 C q T v FU 0 0 h
def rX7_count : Room := { frames := 1, cells := 0, slots := 0, locals := 22 }
theorem mX7_count : MV yX7_count cX7_count 3 (some .int) 1 := ⟨cd_X7_count, in_X7, ⟨⟨by decide, by decide⟩, by decide +kernel⟩, im_X7_count, se_X7_count⟩
set_option maxHeartbeats 4000000 in
set_option maxRecDepth 100000 in
theorem kX7_count {l : Launch} {G : GT} (q : Nat → Nat → Nat) (T : Nat → Ob) (lx1 : Int) (v : (Int)) (h : fX7_count T lx1 = some v) : CT l G yX7_count cX7_count 3 (some .int) rX7_count [.ref ((q 11) 31), vi lx1] (W_T G q T) (W_T G q T) (some (vi v)) := by
  unfold fX7_count at h
  refine CT.of (by decide) (Nat.le_of_ble_eq_true rfl) rfl (fun κ _ C => ?_)
  refine X.aload_n C dX7_count_0 rfl 0 rfl ?_
  refine X.get C dX7_count_1 lay_X7 0 rfl rfl 2 (by decide) fl_X7_19 rfl rfl ?_
  refine X.get C dX7_count_4 lay_X3 5 rfl rfl 0 (by decide) fl_X7_28 rfl rfl ?_
  refine X.astore_n (lv2 := [(2, .ref ((q 2) 31)), (0, .ref ((q 11) 31)), (1, vi lx1)]) C dX7_count_7 rfl (by decide) rfl ?_
  refine X.iload_n C dX7_count_8 rfl 2 rfl ?_
  rcases bq_out h with ⟨c0, h⟩ | ⟨c0, h⟩
  · refine X.tsIn (tgt := 76) c0 C dX7_count_9 (by decide) (by decide) rfl (by decide) ?_
    refine X.aload_n C dX7_count_76 rfl 0 rfl ?_
    refine X.get C dX7_count_77 lay_X1 6 rfl rfl 1 (by decide) fl_X7_187 rfl rfl ?_
    cases h
    exact X.iret C dX7_count_80 (Nat.zero_le _) (Nat.zero_le _)
  rcases bq_out h with ⟨c1, h⟩ | ⟨c1, h⟩
  · refine X.tsIn (tgt := 81) c1 C dX7_count_9 (by decide) (by decide) rfl (by decide) ?_
    refine X.aload_n C dX7_count_81 rfl 0 rfl ?_
    refine X.get C dX7_count_82 lay_X1 6 rfl rfl 2 (by decide) fl_X7_195 rfl rfl ?_
    cases h
    exact X.iret C dX7_count_85 (Nat.zero_le _) (Nat.zero_le _)
  rcases bq_out h with ⟨c2, h⟩ | ⟨c2, h⟩
  · refine X.tsIn (tgt := 86) c2 C dX7_count_9 (by decide) (by decide) rfl (by decide) ?_
    refine X.aload_n C dX7_count_86 rfl 0 rfl ?_
    refine X.get C dX7_count_87 lay_X1 6 rfl rfl 11 (by decide) fl_X7_199 rfl rfl ?_
    cases h
    exact X.iret C dX7_count_90 (Nat.zero_le _) (Nat.zero_le _)
  rcases bq_out h with ⟨c3, h⟩ | ⟨c3, h⟩
  · refine X.tsIn (tgt := 91) c3 C dX7_count_9 (by decide) (by decide) rfl (by decide) ?_
    refine X.aload_n C dX7_count_91 rfl 0 rfl ?_
    refine X.get C dX7_count_92 lay_X1 6 rfl rfl 14 (by decide) fl_X7_202 rfl rfl ?_
    cases h
    exact X.iret C dX7_count_95 (Nat.zero_le _) (Nat.zero_le _)
  rcases bq_out h with ⟨c4, h⟩ | ⟨c4, h⟩
  · refine X.tsIn (tgt := 96) c4 C dX7_count_9 (by decide) (by decide) rfl (by decide) ?_
    refine X.aload_n C dX7_count_96 rfl 0 rfl ?_
    refine X.get C dX7_count_97 lay_X1 6 rfl rfl 18 (by decide) fl_X7_205 rfl rfl ?_
    cases h
    exact X.iret C dX7_count_100 (Nat.zero_le _) (Nat.zero_le _)
  rcases bq_out h with ⟨c5, h⟩ | ⟨c5, h⟩
  · refine X.tsIn (tgt := 101) c5 C dX7_count_9 (by decide) (by decide) rfl (by decide) ?_
    refine X.aload_n C dX7_count_101 rfl 0 rfl ?_
    refine X.get C dX7_count_102 lay_X1 6 rfl rfl 0 (by decide) fl_X7_84 rfl rfl ?_
    cases h
    exact X.iret C dX7_count_105 (Nat.zero_le _) (Nat.zero_le _)
  rcases bq_out h with ⟨c6, h⟩ | ⟨c6, h⟩
  · refine X.tsIn (tgt := 106) c6 C dX7_count_9 (by decide) (by decide) rfl (by decide) ?_
    refine X.aload_n C dX7_count_106 rfl 1 rfl ?_
    refine X.get C dX7_count_107 lay_X7 0 rfl rfl 0 (by decide) fl_X7_10 rfl rfl ?_
    refine X.get C dX7_count_110 lay_X4 2 rfl rfl 1 (by decide) fl_X7_57 rfl rfl ?_
    cases h
    exact X.iret C dX7_count_113 (Nat.zero_le _) (Nat.zero_le _)
  rcases bq_out h with ⟨c7, h⟩ | ⟨c7, h⟩
  · refine X.tsIn (tgt := 114) c7 C dX7_count_9 (by decide) (by decide) rfl (by decide) ?_
    refine X.aload_n C dX7_count_114 rfl 0 rfl ?_
    refine X.get C dX7_count_115 lay_X1 6 rfl rfl 5 (by decide) fl_X7_208 rfl rfl ?_
    cases h
    exact X.iret C dX7_count_118 (Nat.zero_le _) (Nat.zero_le _)
  rcases bq_out h with ⟨c8, h⟩ | ⟨c8, h⟩
  · refine X.tsIn (tgt := 119) c8 C dX7_count_9 (by decide) (by decide) rfl (by decide) ?_
    refine X.aload_n C dX7_count_119 rfl 0 rfl ?_
    refine X.get C dX7_count_120 lay_X1 6 rfl rfl 6 (by decide) fl_X7_211 rfl rfl ?_
    cases h
    exact X.iret C dX7_count_123 (Nat.zero_le _) (Nat.zero_le _)
  rcases bq_out h with ⟨c9, h⟩ | ⟨c9, h⟩
  · refine X.tsIn (tgt := 124) c9 C dX7_count_9 (by decide) (by decide) rfl (by decide) ?_
    refine X.aload_n C dX7_count_124 rfl 0 rfl ?_
    refine X.get C dX7_count_125 lay_X1 6 rfl rfl 8 (by decide) fl_X7_212 rfl rfl ?_
    cases h
    exact X.iret C dX7_count_128 (Nat.zero_le _) (Nat.zero_le _)
  rcases bq_out h with ⟨c10, h⟩ | ⟨c10, h⟩
  · refine X.tsIn (tgt := 129) c10 C dX7_count_9 (by decide) (by decide) rfl (by decide) ?_
    refine X.aload_n C dX7_count_129 rfl 0 rfl ?_
    refine X.get C dX7_count_130 lay_X1 6 rfl rfl 10 (by decide) fl_X7_215 rfl rfl ?_
    cases h
    exact X.iret C dX7_count_133 (Nat.zero_le _) (Nat.zero_le _)
  rcases bq_out h with ⟨c11, h⟩ | ⟨c11, h⟩
  · refine X.tsIn (tgt := 134) c11 C dX7_count_9 (by decide) (by decide) rfl (by decide) ?_
    refine X.aload_n C dX7_count_134 rfl 0 rfl ?_
    refine X.get C dX7_count_135 lay_X1 6 rfl rfl 7 (by decide) fl_X7_218 rfl rfl ?_
    cases h
    exact X.iret C dX7_count_138 (Nat.zero_le _) (Nat.zero_le _)
  rcases bq_out h with ⟨c12, h⟩ | ⟨c12, h⟩
  · refine X.tsIn (tgt := 139) c12 C dX7_count_9 (by decide) (by decide) rfl (by decide) ?_
    refine X.aload_n C dX7_count_139 rfl 1 rfl ?_
    refine X.callVi (q0 := 0) (As := []) (rest := []) (g := fun rr_1 => rr_1) (W1 := fun rr_1 => (W_T G q T)) (ws2 := fun rr_1 => (W_T G q T)) C h dX7_count_140 ml_X7_221 mX7_countRows (fun v hv => kX7_countRows q T v hv) (fun rr_1 => ln_T_T_id_n (G := G) (q := q) (T := T)) rfl rfl rfl rfl rfl rfl rfl rfl (fun rr_1 h => ?_)
    cases h
    exact X.iret C dX7_count_143 (Nat.zero_le _) (Nat.zero_le _)
  refine X.tsOut13 (tgt := 144) c0 c1 c2 c3 c4 c5 c6 c7 c8 c9 c10 c11 c12 C dX7_count_9 (by decide) ?_
  refine X.iconst C dX7_count_144 ?_
  cases h
  exact X.iret C dX7_count_145 (Nat.zero_le _) (Nat.zero_le _)
def rX7_isSize : Room := { frames := 1, cells := 0, slots := 0, locals := 22 }
theorem mX7_isSize : MV yX7_isSize cX7_isSize 2 (some .boolean) 1 := ⟨cd_X7_isSize, in_X7, ⟨⟨by decide, by decide⟩, by decide +kernel⟩, im_X7_isSize, se_X7_isSize⟩
set_option maxHeartbeats 4000000 in
set_option maxRecDepth 100000 in
theorem kX7_isSize {l : Launch} {G : GT} (q : Nat → Nat → Nat) (T : Nat → Ob) (lx1 : Int) (v : (Int)) (h : fX7_isSize T lx1 = some v) : CT l G yX7_isSize cX7_isSize 2 (some .boolean) rX7_isSize [.ref ((q 11) 31), vi lx1] (W_T G q T) (W_T G q T) (some (vi v)) := by
  unfold fX7_isSize at h
  refine CT.of (by decide) (Nat.le_of_ble_eq_true rfl) rfl (fun κ _ C => ?_)
  refine X.iload_n C dX7_isSize_0 rfl 1 rfl ?_
  refine X.iconst C dX7_isSize_1 ?_
  refine X.aload_n C dX7_isSize_2 rfl 0 rfl ?_
  refine X.get C dX7_isSize_3 lay_X7 0 rfl rfl 2 (by decide) fl_X7_19 rfl rfl ?_
  refine X.get C dX7_isSize_6 lay_X3 5 rfl rfl 0 (by decide) fl_X7_28 rfl rfl ?_
  refine X.get C dX7_isSize_9 lay_X1 6 rfl rfl 11 (by decide) fl_X7_199 rfl rfl ?_
  refine X.iconst C dX7_isSize_12 ?_
  refine X.isub C dX7_isSize_13 ?_
  refine X.callSi (As := [vi lx1, vi 0, vi (((T 2) 11 0) - 1)]) (rest := []) (g := fun rr_1 => rr_1) (W1 := fun rr_1 => W_0) (ws2 := fun rr_1 => (W_T G q T)) C h dX7_isSize_14 ml_X7_93 mX7_isWithin (fun v hv => kX7_isWithin lx1 0 (((T 2) 11 0) - 1) v hv) (fun rr_1 => ln_T_0__n (G := G) (q := q) (T := T)) rfl rfl rfl rfl rfl rfl (fun rr_1 h => ?_)
  obtain ⟨hz, h⟩ := gd_out h
  cases h
  exact X.zret C hz dX7_isSize_17 (Nat.zero_le _) (Nat.zero_le _)
def rX7_isThrow : Room := { frames := 2, cells := 0, slots := 0, locals := 43 }
theorem mX7_isThrow : MV yX7_isThrow cX7_isThrow 4 (some .boolean) 3 := ⟨cd_X7_isThrow, in_X7, ⟨⟨by decide, by decide⟩, by decide +kernel⟩, im_X7_isThrow, se_X7_isThrow⟩
set_option maxHeartbeats 4000000 in
set_option maxRecDepth 100000 in
theorem kX7_isThrow {l : Launch} {G : GT} (q : Nat → Nat → Nat) (T : Nat → Ob) (lx1 : Int) (lx2 : Int) (lx3 : Int) (v : (Int)) (h : fX7_isThrow T lx1 lx2 lx3 = some v) : CT l G yX7_isThrow cX7_isThrow 4 (some .boolean) rX7_isThrow [.ref ((q 11) 31), vi lx1, vi lx2, vi lx3] (W_T G q T) (W_T G q T) (some (vi v)) := by
  unfold fX7_isThrow at h
  refine CT.of (by decide) (Nat.le_of_ble_eq_true rfl) rfl (fun κ _ C => ?_)
  refine X.aload_n C dX7_isThrow_0 rfl 0 rfl ?_
  refine X.iload_n C dX7_isThrow_1 rfl 1 rfl ?_
  refine X.callVi (q0 := 0) (As := [vi lx1]) (rest := []) (g := fun rr_1 => rr_1) (W1 := fun rr_1 => (W_T G q T)) (ws2 := fun rr_1 => (W_T G q T)) C h dX7_isThrow_2 ml_X7_258 mX7_isSize (fun v hv => kX7_isSize q T lx1 v hv) (fun rr_1 => ln_T_T_id_n (G := G) (q := q) (T := T)) rfl rfl rfl rfl rfl rfl rfl rfl (fun rr_1 h => ?_)
  refine X.if_eq (tgt := 29) C h dX7_isThrow_5 (by decide) (fun h => ?_) (fun h => ?_)
  · refine X.iconst C dX7_isThrow_29 ?_
    cases h
    exact X.zret C rfl dX7_isThrow_30 (Nat.zero_le _) (Nat.zero_le _)
  refine X.iload_n C dX7_isThrow_8 rfl 2 rfl ?_
  refine X.iconst C dX7_isThrow_9 ?_
  refine X.bipush C dX7_isThrow_10 (by decide) ?_
  refine X.callSi (As := [vi lx2, vi 1, vi 60]) (rest := []) (g := fun rr_2 => rr_2) (W1 := fun rr_2 => W_0) (ws2 := fun rr_2 => (W_T G q T)) C h dX7_isThrow_12 ml_X7_93 mX7_isWithin (fun v hv => kX7_isWithin lx2 1 60 v hv) (fun rr_2 => ln_T_0__n (G := G) (q := q) (T := T)) rfl rfl rfl rfl rfl rfl (fun rr_2 h => ?_)
  refine X.if_eq (tgt := 29) C h dX7_isThrow_15 (by decide) (fun h => ?_) (fun h => ?_)
  · refine X.iconst C dX7_isThrow_29 ?_
    cases h
    exact X.zret C rfl dX7_isThrow_30 (Nat.zero_le _) (Nat.zero_le _)
  refine X.iload_n C dX7_isThrow_18 rfl 3 rfl ?_
  refine X.callSi (As := [vi lx3]) (rest := []) (g := fun rr_3 => rr_3) (W1 := fun rr_3 => W_0) (ws2 := fun rr_3 => (W_T G q T)) C h dX7_isThrow_19 ml_X7_246 mX7_isWind (fun v hv => kX7_isWind lx3 v hv) (fun rr_3 => ln_T_0__n (G := G) (q := q) (T := T)) rfl rfl rfl rfl rfl rfl (fun rr_3 h => ?_)
  refine X.if_eq (tgt := 29) C h dX7_isThrow_22 (by decide) (fun h => ?_) (fun h => ?_)
  · refine X.iconst C dX7_isThrow_29 ?_
    cases h
    exact X.zret C rfl dX7_isThrow_30 (Nat.zero_le _) (Nat.zero_le _)
  refine X.iconst C dX7_isThrow_25 ?_
  refine X.goto (tgt := 30) C dX7_isThrow_26 (by decide) ?_
  cases h
  exact X.zret C rfl dX7_isThrow_30 (Nat.zero_le _) (Nat.zero_le _)
def rX7_land : Room := { frames := 3, cells := 0, slots := 0, locals := 66 }
theorem mX7_land : MV yX7_land cX7_land 7 (some .int) 3 := ⟨cd_X7_land, in_X7, ⟨⟨by decide, by decide⟩, by decide +kernel⟩, im_X7_land, se_X7_land⟩
set_option maxHeartbeats 4000000 in
set_option maxRecDepth 100000 in
theorem kX7_land {l : Launch} {G : GT} (q : Nat → Nat → Nat) (T : Nat → Ob) (lx1 : Int) (lx2 : Int) (lx3 : Int) (v : (Int)) (h : fX7_land T lx1 lx2 lx3 = some v) : CT l G yX7_land cX7_land 7 (some .int) rX7_land [.ref ((q 11) 31), vi lx1, vi lx2, vi lx3] (W_T G q T) (W_T G q T) (some (vi v)) := by
  unfold fX7_land at h
  refine CT.of (by decide) (Nat.le_of_ble_eq_true rfl) rfl (fun κ _ C => ?_)
  refine X.aload_n C dX7_land_0 rfl 0 rfl ?_
  refine X.iload_n C dX7_land_1 rfl 1 rfl ?_
  refine X.iload_n C dX7_land_2 rfl 2 rfl ?_
  refine X.iload_n C dX7_land_3 rfl 3 rfl ?_
  refine X.callVi (q0 := 0) (As := [vi lx1, vi lx2, vi lx3]) (rest := []) (g := fun rr_1 => rr_1) (W1 := fun rr_1 => (W_T G q T)) (ws2 := fun rr_1 => (W_T G q T)) C h dX7_land_4 ml_X7_224 mX7_isThrow (fun v hv => kX7_isThrow q T lx1 lx2 lx3 v hv) (fun rr_1 => ln_T_T_id_n (G := G) (q := q) (T := T)) rfl rfl rfl rfl rfl rfl rfl rfl (fun rr_1 h => ?_)
  refine X.if_ne (tgt := 13) C h dX7_land_7 (by decide) (fun h => ?_) (fun h => ?_)
  · refine X.aload_n C dX7_land_13 rfl 0 rfl ?_
    refine X.get C dX7_land_14 lay_X7 0 rfl rfl 2 (by decide) fl_X7_19 rfl rfl ?_
    refine X.get C dX7_land_17 lay_X3 5 rfl rfl 0 (by decide) fl_X7_28 rfl rfl ?_
    refine X.iload_n C dX7_land_20 rfl 1 rfl ?_
    refine X.iload_n C dX7_land_21 rfl 2 rfl ?_
    refine X.callSi (As := [vi lx2]) (rest := [vi lx1, .ref ((q 2) 31)]) (g := fun rr_2 => rr_2) (W1 := fun rr_2 => W_0) (ws2 := fun rr_2 => (W_T G q T)) C h dX7_land_22 ml_X7_227 mX7_flightOf (fun v hv => kX7_flightOf lx2 v hv) (fun rr_2 => ln_T_0__n (G := G) (q := q) (T := T)) rfl rfl rfl rfl rfl rfl (fun rr_2 h => ?_)
    refine X.iload_n C dX7_land_25 rfl 3 rfl ?_
    refine X.callVi (q0 := 6) (As := [vi lx1, vi rr_2, vi lx3]) (rest := []) (g := fun rr_3 => rr_3) (W1 := fun rr_3 => (W_P G (q 2) (T 2))) (ws2 := fun rr_3 => (W_T G q T)) C h dX7_land_26 ml_X7_230 mX1_steadyDrift (fun v hv => kX1_steadyDrift (q 2) (T 2) lx1 rr_2 lx3 v hv) (fun rr_3 => ln_T_P_np_n (G := G) (q := q) (T := T)) rfl rfl rfl rfl rfl rfl rfl rfl (fun rr_3 h => ?_)
    refine X.bipush C dX7_land_29 (by decide) ?_
    refine X.idiv C (by decide) dX7_land_31 ?_
    refine X.istoreN (lv2 := fun lx4_4 => [(4, vi lx4_4), (0, .ref ((q 11) 31)), (1, vi lx1), (2, vi lx2), (3, vi lx3)]) C h dX7_land_32 (by decide) (fun _ => rfl) (fun lx4_4 h => ?_)
    refine X.aload_n C dX7_land_34 rfl 1 rfl ?_
    refine X.get C dX7_land_35 lay_X7 0 rfl rfl 2 (by decide) fl_X7_19 rfl rfl ?_
    refine X.get C dX7_land_38 lay_X3 5 rfl rfl 0 (by decide) fl_X7_28 rfl rfl ?_
    refine X.get C dX7_land_41 lay_X1 6 rfl rfl 3 (by decide) fl_X7_234 rfl rfl ?_
    refine X.iload C dX7_land_44 0 rfl ?_
    refine X.getsX C dX7_land_46 fl_X7_237 ?_
    refine X.iload_n C dX7_land_49 rfl 4 rfl ?_
    refine X.bipush C dX7_land_50 (by decide) ?_
    refine X.idiv C (by decide) dX7_land_52 ?_
    refine X.aldX C h dX7_land_53 (fun h => ?_)
    refine X.imul C dX7_land_54 ?_
    refine X.iadd C dX7_land_55 ?_
    refine X.istoreN (lv2 := fun lx5_5 => [(5, vi lx5_5), (4, vi lx4_4), (0, .ref ((q 11) 31)), (1, vi lx1), (2, vi lx2), (3, vi lx3)]) C h dX7_land_56 (by decide) (fun _ => rfl) (fun lx5_5 h => ?_)
    refine X.aload_n C dX7_land_58 rfl 2 rfl ?_
    refine X.get C dX7_land_59 lay_X7 0 rfl rfl 2 (by decide) fl_X7_19 rfl rfl ?_
    refine X.get C dX7_land_62 lay_X3 5 rfl rfl 0 (by decide) fl_X7_28 rfl rfl ?_
    refine X.get C dX7_land_65 lay_X1 6 rfl rfl 4 (by decide) fl_X7_240 rfl rfl ?_
    refine X.iload C dX7_land_68 1 rfl ?_
    refine X.getsY C dX7_land_70 fl_X7_243 ?_
    refine X.iload_n C dX7_land_73 rfl 5 rfl ?_
    refine X.bipush C dX7_land_74 (by decide) ?_
    refine X.idiv C (by decide) dX7_land_76 ?_
    refine X.aldY C h dX7_land_77 (fun h => ?_)
    refine X.imul C dX7_land_78 ?_
    refine X.iadd C dX7_land_79 ?_
    refine X.istoreN (lv2 := fun lx6_6 => [(6, vi lx6_6), (5, vi lx5_5), (4, vi lx4_4), (0, .ref ((q 11) 31)), (1, vi lx1), (2, vi lx2), (3, vi lx3)]) C h dX7_land_80 (by decide) (fun _ => rfl) (fun lx6_6 h => ?_)
    refine X.aload_n C dX7_land_82 rfl 3 rfl ?_
    refine X.get C dX7_land_83 lay_X7 0 rfl rfl 2 (by decide) fl_X7_19 rfl rfl ?_
    refine X.get C dX7_land_86 lay_X3 5 rfl rfl 0 (by decide) fl_X7_28 rfl rfl ?_
    refine X.iload C dX7_land_89 1 rfl ?_
    refine X.iload C dX7_land_91 0 rfl ?_
    refine X.callVi (q0 := 6) (As := [vi lx5_5, vi lx6_6]) (rest := []) (g := fun rr_7 => rr_7) (W1 := fun rr_7 => (W_P G (q 2) (T 2))) (ws2 := fun rr_7 => (W_T G q T)) C h dX7_land_93 ml_X7_120 mX1_isCell (fun v hv => kX1_isCell (q 2) (T 2) lx5_5 lx6_6 v hv) (fun rr_7 => ln_T_P_np_n (G := G) (q := q) (T := T)) rfl rfl rfl rfl rfl rfl rfl rfl (fun rr_7 h => ?_)
    refine X.if_eq (tgt := 109) C h dX7_land_96 (by decide) (fun h => ?_) (fun h => ?_)
    · refine X.iconst C dX7_land_109 ?_
      cases h
      exact X.iret C dX7_land_110 (Nat.zero_le _) (Nat.zero_le _)
    refine X.iload C dX7_land_99 1 rfl ?_
    refine X.iload C dX7_land_101 0 rfl ?_
    refine X.callSi (As := [vi lx5_5, vi lx6_6]) (rest := []) (g := fun rr_8 => rr_8) (W1 := fun rr_8 => W_0) (ws2 := fun rr_8 => (W_T G q T)) C h dX7_land_103 ml_X7_196 mX7_placeOf (fun v hv => kX7_placeOf lx5_5 lx6_6 v hv) (fun rr_8 => ln_T_0__n (G := G) (q := q) (T := T)) rfl rfl rfl rfl rfl rfl (fun rr_8 h => ?_)
    refine X.goto (tgt := 110) C dX7_land_106 (by decide) ?_
    cases h
    exact X.iret C dX7_land_110 (Nat.zero_le _) (Nat.zero_le _)
  refine X.bipush C dX7_land_10 (by decide) ?_
  cases h
  exact X.iret C dX7_land_12 (Nat.zero_le _) (Nat.zero_le _)
def rX7_drift : Room := { frames := 3, cells := 0, slots := 0, locals := 66 }
theorem mX7_drift : MV yX7_drift cX7_drift 4 (some .int) 3 := ⟨cd_X7_drift, in_X7, ⟨⟨by decide, by decide⟩, by decide +kernel⟩, im_X7_drift, se_X7_drift⟩
set_option maxHeartbeats 4000000 in
set_option maxRecDepth 100000 in
theorem kX7_drift {l : Launch} {G : GT} (q : Nat → Nat → Nat) (T : Nat → Ob) (lx1 : Int) (lx2 : Int) (lx3 : Int) (v : (Int)) (h : fX7_drift T lx1 lx2 lx3 = some v) : CT l G yX7_drift cX7_drift 4 (some .int) rX7_drift [.ref ((q 11) 31), vi lx1, vi lx2, vi lx3] (W_T G q T) (W_T G q T) (some (vi v)) := by
  unfold fX7_drift at h
  refine CT.of (by decide) (Nat.le_of_ble_eq_true rfl) rfl (fun κ _ C => ?_)
  refine X.aload_n C dX7_drift_0 rfl 0 rfl ?_
  refine X.iload_n C dX7_drift_1 rfl 1 rfl ?_
  refine X.iload_n C dX7_drift_2 rfl 2 rfl ?_
  refine X.iload_n C dX7_drift_3 rfl 3 rfl ?_
  refine X.callVi (q0 := 0) (As := [vi lx1, vi lx2, vi lx3]) (rest := []) (g := fun rr_1 => rr_1) (W1 := fun rr_1 => (W_T G q T)) (ws2 := fun rr_1 => (W_T G q T)) C h dX7_drift_4 ml_X7_224 mX7_isThrow (fun v hv => kX7_isThrow q T lx1 lx2 lx3 v hv) (fun rr_1 => ln_T_T_id_n (G := G) (q := q) (T := T)) rfl rfl rfl rfl rfl rfl rfl rfl (fun rr_1 h => ?_)
  refine X.if_eq (tgt := 29) C h dX7_drift_7 (by decide) (fun h => ?_) (fun h => ?_)
  · refine X.bipush C dX7_drift_29 (by decide) ?_
    cases h
    exact X.iret C dX7_drift_31 (Nat.zero_le _) (Nat.zero_le _)
  refine X.aload_n C dX7_drift_10 rfl 0 rfl ?_
  refine X.get C dX7_drift_11 lay_X7 0 rfl rfl 2 (by decide) fl_X7_19 rfl rfl ?_
  refine X.get C dX7_drift_14 lay_X3 5 rfl rfl 0 (by decide) fl_X7_28 rfl rfl ?_
  refine X.iload_n C dX7_drift_17 rfl 1 rfl ?_
  refine X.iload_n C dX7_drift_18 rfl 2 rfl ?_
  refine X.callSi (As := [vi lx2]) (rest := [vi lx1, .ref ((q 2) 31)]) (g := fun rr_2 => rr_2) (W1 := fun rr_2 => W_0) (ws2 := fun rr_2 => (W_T G q T)) C h dX7_drift_19 ml_X7_227 mX7_flightOf (fun v hv => kX7_flightOf lx2 v hv) (fun rr_2 => ln_T_0__n (G := G) (q := q) (T := T)) rfl rfl rfl rfl rfl rfl (fun rr_2 h => ?_)
  refine X.iload_n C dX7_drift_22 rfl 3 rfl ?_
  refine X.callVi (q0 := 6) (As := [vi lx1, vi rr_2, vi lx3]) (rest := []) (g := fun rr_3 => rr_3) (W1 := fun rr_3 => (W_P G (q 2) (T 2))) (ws2 := fun rr_3 => (W_T G q T)) C h dX7_drift_23 ml_X7_230 mX1_steadyDrift (fun v hv => kX1_steadyDrift (q 2) (T 2) lx1 rr_2 lx3 v hv) (fun rr_3 => ln_T_P_np_n (G := G) (q := q) (T := T)) rfl rfl rfl rfl rfl rfl rfl rfl (fun rr_3 h => ?_)
  refine X.goto (tgt := 31) C dX7_drift_26 (by decide) ?_
  cases h
  exact X.iret C dX7_drift_31 (Nat.zero_le _) (Nat.zero_le _)
def rX7_stray : Room := { frames := 3, cells := 0, slots := 0, locals := 72 }
theorem mX7_stray : MV yX7_stray cX7_stray 3 (some .int) 2 := ⟨cd_X7_stray, in_X7, ⟨⟨by decide, by decide⟩, by decide +kernel⟩, im_X7_stray, se_X7_stray⟩
set_option maxHeartbeats 4000000 in
set_option maxRecDepth 100000 in
theorem kX7_stray {l : Launch} {G : GT} (q : Nat → Nat → Nat) (T : Nat → Ob) (lx1 : Int) (lx2 : Int) (v : (Int)) (h : fX7_stray T lx1 lx2 = some v) : CT l G yX7_stray cX7_stray 3 (some .int) rX7_stray [.ref ((q 11) 31), vi lx1, vi lx2] (W_T G q T) (W_T G q T) (some (vi v)) := by
  unfold fX7_stray at h
  refine CT.of (by decide) (Nat.le_of_ble_eq_true rfl) rfl (fun κ _ C => ?_)
  refine X.aload_n C dX7_stray_0 rfl 0 rfl ?_
  refine X.callVi (q0 := 0) (As := []) (rest := []) (g := fun rr_1 => rr_1) (W1 := fun rr_1 => (W_T G q T)) (ws2 := fun rr_1 => (W_T G q T)) C h dX7_stray_1 ml_X7_178 mX7_hasSquare (fun v hv => kX7_hasSquare q T v hv) (fun rr_1 => ln_T_T_id_n (G := G) (q := q) (T := T)) rfl rfl rfl rfl rfl rfl rfl rfl (fun rr_1 h => ?_)
  refine X.if_eq (tgt := 24) C h dX7_stray_4 (by decide) (fun h => ?_) (fun h => ?_)
  · refine X.bipush C dX7_stray_24 (by decide) ?_
    cases h
    exact X.iret C dX7_stray_26 (Nat.zero_le _) (Nat.zero_le _)
  refine X.iload_n C dX7_stray_7 rfl 1 rfl ?_
  refine X.iconst C dX7_stray_8 ?_
  refine X.bipush C dX7_stray_9 (by decide) ?_
  refine X.callSi (As := [vi lx1, vi 0, vi 60]) (rest := []) (g := fun rr_2 => rr_2) (W1 := fun rr_2 => W_0) (ws2 := fun rr_2 => (W_T G q T)) C h dX7_stray_11 ml_X7_93 mX7_isWithin (fun v hv => kX7_isWithin lx1 0 60 v hv) (fun rr_2 => ln_T_0__n (G := G) (q := q) (T := T)) rfl rfl rfl rfl rfl rfl (fun rr_2 h => ?_)
  refine X.if_eq (tgt := 24) C h dX7_stray_14 (by decide) (fun h => ?_) (fun h => ?_)
  · refine X.bipush C dX7_stray_24 (by decide) ?_
    cases h
    exact X.iret C dX7_stray_26 (Nat.zero_le _) (Nat.zero_le _)
  refine X.iload_n C dX7_stray_17 rfl 2 rfl ?_
  refine X.callSi (As := [vi lx2]) (rest := []) (g := fun rr_3 => rr_3) (W1 := fun rr_3 => W_0) (ws2 := fun rr_3 => (W_T G q T)) C h dX7_stray_18 ml_X7_246 mX7_isWind (fun v hv => kX7_isWind lx2 v hv) (fun rr_3 => ln_T_0__n (G := G) (q := q) (T := T)) rfl rfl rfl rfl rfl rfl (fun rr_3 h => ?_)
  refine X.if_ne (tgt := 27) C h dX7_stray_21 (by decide) (fun h => ?_) (fun h => ?_)
  · refine X.aload_n C dX7_stray_27 rfl 0 rfl ?_
    refine X.get C dX7_stray_28 lay_X7 0 rfl rfl 2 (by decide) fl_X7_19 rfl rfl ?_
    refine X.get C dX7_stray_31 lay_X3 5 rfl rfl 0 (by decide) fl_X7_28 rfl rfl ?_
    refine X.iload_n C dX7_stray_34 rfl 1 rfl ?_
    refine X.iload_n C dX7_stray_35 rfl 2 rfl ?_
    refine X.callVi (q0 := 6) (As := [vi lx1, vi lx2]) (rest := []) (g := fun rr_4 => rr_4) (W1 := fun rr_4 => (W_P G (q 2) (T 2))) (ws2 := fun rr_4 => (W_T G q T)) C h dX7_stray_36 ml_X7_249 mX1_strayFrom (fun v hv => kX1_strayFrom (q 2) (T 2) lx1 lx2 v hv) (fun rr_4 => ln_T_P_np_n (G := G) (q := q) (T := T)) rfl rfl rfl rfl rfl rfl rfl rfl (fun rr_4 h => ?_)
    cases h
    exact X.iret C dX7_stray_39 (Nat.zero_le _) (Nat.zero_le _)
  refine X.bipush C dX7_stray_24 (by decide) ?_
  cases h
  exact X.iret C dX7_stray_26 (Nat.zero_le _) (Nat.zero_le _)
def rX7_low : Room := { frames := 3, cells := 0, slots := 0, locals := 72 }
theorem mX7_low : MV yX7_low cX7_low 4 (some .int) 2 := ⟨cd_X7_low, in_X7, ⟨⟨by decide, by decide⟩, by decide +kernel⟩, im_X7_low, se_X7_low⟩
set_option maxHeartbeats 4000000 in
set_option maxRecDepth 100000 in
theorem xX7_low_29 {κ : Kx} {G : GT} (C : Cx κ G yX7_low cX7_low (some .int) 4 rX7_low) (q : Nat → Nat → Nat) (T : Nat → Ob) (lx1 : Int) (lx2 : Int) (v : (Int)) : ∀ (n : Nat) (lx3 : Int), lX7_low_29 T lx1 lx2 n lx3 = some v → X κ G 4 (W_T G q T) 29 [(0, .ref ((q 11) 31)), (1, vi lx1), (2, vi lx2), (3, vi lx3)] [] 0 0 (QM κ G (W_T G q T) (some (vi v)) rX7_low.cells rX7_low.slots) := by
  intro n
  induction n with
  | zero => intro _ h; exact absurd h (fun h => nomatch h)
  | succ n ih =>
    intro lx3 h
    rw [lX7_low_29] at h
    refine X.iload_n C dX7_low_29 rfl 3 rfl ?_
    refine X.bipush C dX7_low_30 (by decide) ?_
    refine X.icmp_gt (tgt := 61) C h dX7_low_32 (by decide) (fun h => ?_) (fun h => ?_)
    · refine X.bipush C dX7_low_61 (by decide) ?_
      cases h
      exact X.iret C dX7_low_63 (Nat.zero_le _) (Nat.zero_le _)
    refine X.aload_n C dX7_low_35 rfl 0 rfl ?_
    refine X.get C dX7_low_36 lay_X7 0 rfl rfl 2 (by decide) fl_X7_19 rfl rfl ?_
    refine X.get C dX7_low_39 lay_X3 5 rfl rfl 0 (by decide) fl_X7_28 rfl rfl ?_
    refine X.iload_n C dX7_low_42 rfl 3 rfl ?_
    refine X.iload_n C dX7_low_43 rfl 1 rfl ?_
    refine X.callVi (q0 := 6) (As := [vi lx3, vi lx1]) (rest := []) (g := fun rr_4 => rr_4) (W1 := fun rr_4 => (W_P G (q 2) (T 2))) (ws2 := fun rr_4 => (W_T G q T)) C h dX7_low_44 ml_X7_249 mX1_strayFrom (fun v hv => kX1_strayFrom (q 2) (T 2) lx3 lx1 v hv) (fun rr_4 => ln_T_P_np_n (G := G) (q := q) (T := T)) rfl rfl rfl rfl rfl rfl rfl rfl (fun rr_4 h => ?_)
    refine X.iload_n C dX7_low_47 rfl 2 rfl ?_
    refine X.icmp_le (tgt := 55) C h dX7_low_48 (by decide) (fun h => ?_) (fun h => ?_)
    · refine X.iincN (lv2 := fun lx3_5 => [(3, vi lx3_5), (0, .ref ((q 11) 31)), (1, vi lx1), (2, vi lx2)]) C h dX7_low_55 3 rfl (by decide) (fun _ => rfl) (fun lx3_5 h => ?_)
      refine X.goto (tgt := 29) C dX7_low_58 (by decide) ?_
      refine X.sub [1, 2, 3, 0] rfl ?_
      exact ih lx3_5 h
    refine X.iload_n C dX7_low_51 rfl 3 rfl ?_
    refine X.iconst C dX7_low_52 ?_
    refine X.isub C dX7_low_53 ?_
    cases h
    exact X.iret C dX7_low_54 (Nat.zero_le _) (Nat.zero_le _)
set_option maxHeartbeats 4000000 in
set_option maxRecDepth 100000 in
theorem kX7_low {l : Launch} {G : GT} (q : Nat → Nat → Nat) (T : Nat → Ob) (lx1 : Int) (lx2 : Int) (v : (Int)) (h : fX7_low T lx1 lx2 = some v) : CT l G yX7_low cX7_low 4 (some .int) rX7_low [.ref ((q 11) 31), vi lx1, vi lx2] (W_T G q T) (W_T G q T) (some (vi v)) := by
  unfold fX7_low at h
  refine CT.of (by decide) (Nat.le_of_ble_eq_true rfl) rfl (fun κ _ C => ?_)
  refine X.aload_n C dX7_low_0 rfl 0 rfl ?_
  refine X.callVi (q0 := 0) (As := []) (rest := []) (g := fun rr_1 => rr_1) (W1 := fun rr_1 => (W_T G q T)) (ws2 := fun rr_1 => (W_T G q T)) C h dX7_low_1 ml_X7_178 mX7_hasSquare (fun v hv => kX7_hasSquare q T v hv) (fun rr_1 => ln_T_T_id_n (G := G) (q := q) (T := T)) rfl rfl rfl rfl rfl rfl rfl rfl (fun rr_1 h => ?_)
  refine X.if_eq (tgt := 24) C h dX7_low_4 (by decide) (fun h => ?_) (fun h => ?_)
  · refine X.bipush C dX7_low_24 (by decide) ?_
    cases h
    exact X.iret C dX7_low_26 (Nat.zero_le _) (Nat.zero_le _)
  refine X.iload_n C dX7_low_7 rfl 1 rfl ?_
  refine X.callSi (As := [vi lx1]) (rest := []) (g := fun rr_2 => rr_2) (W1 := fun rr_2 => W_0) (ws2 := fun rr_2 => (W_T G q T)) C h dX7_low_8 ml_X7_246 mX7_isWind (fun v hv => kX7_isWind lx1 v hv) (fun rr_2 => ln_T_0__n (G := G) (q := q) (T := T)) rfl rfl rfl rfl rfl rfl (fun rr_2 h => ?_)
  refine X.if_eq (tgt := 24) C h dX7_low_11 (by decide) (fun h => ?_) (fun h => ?_)
  · refine X.bipush C dX7_low_24 (by decide) ?_
    cases h
    exact X.iret C dX7_low_26 (Nat.zero_le _) (Nat.zero_le _)
  refine X.iload_n C dX7_low_14 rfl 2 rfl ?_
  refine X.iconst C dX7_low_15 ?_
  refine X.bipush C dX7_low_16 (by decide) ?_
  refine X.callSi (As := [vi lx2, vi 0, vi 99]) (rest := []) (g := fun rr_3 => rr_3) (W1 := fun rr_3 => W_0) (ws2 := fun rr_3 => (W_T G q T)) C h dX7_low_18 ml_X7_93 mX7_isWithin (fun v hv => kX7_isWithin lx2 0 99 v hv) (fun rr_3 => ln_T_0__n (G := G) (q := q) (T := T)) rfl rfl rfl rfl rfl rfl (fun rr_3 h => ?_)
  refine X.if_ne (tgt := 27) C h dX7_low_21 (by decide) (fun h => ?_) (fun h => ?_)
  · refine X.iconst C dX7_low_27 ?_
    refine X.istore_n (lv2 := [(3, vi 1), (0, .ref ((q 11) 31)), (1, vi lx1), (2, vi lx2)]) C dX7_low_28 rfl (by decide) rfl ?_
    refine X.sub [1, 2, 3, 0] rfl ?_
    refine xX7_low_29 C q T lx1 lx2 v FU 1 h
  refine X.bipush C dX7_low_24 (by decide) ?_
  cases h
  exact X.iret C dX7_low_26 (Nat.zero_le _) (Nat.zero_le _)
def rX7_lowestHit : Room := { frames := 3, cells := 0, slots := 0, locals := 72 }
theorem mX7_lowestHit : MV yX7_lowestHit cX7_lowestHit 5 (some .int) 2 := ⟨cd_X7_lowestHit, in_X7, ⟨⟨by decide, by decide⟩, by decide +kernel⟩, im_X7_lowestHit, se_X7_lowestHit⟩
set_option maxHeartbeats 4000000 in
set_option maxRecDepth 100000 in
theorem xX7_lowestHit_15 {κ : Kx} {G : GT} (C : Cx κ G yX7_lowestHit cX7_lowestHit (some .int) 5 rX7_lowestHit) (q : Nat → Nat → Nat) (T : Nat → Ob) (lx2 : Int) (lx3 : Int) (v : (Int)) : ∀ (n : Nat) (lx4 : Int), lX7_lowestHit_15 T lx2 lx3 n lx4 = some v → X κ G 5 (W_T G q T) 15 [(0, .ref ((q 11) 31)), (2, vi lx2), (3, vi lx3), (4, vi lx4)] [] 0 0 (QM κ G (W_T G q T) (some (vi v)) rX7_lowestHit.cells rX7_lowestHit.slots) := by
  intro n
  induction n with
  | zero => intro _ h; exact absurd h (fun h => nomatch h)
  | succ n ih =>
    intro lx4 h
    rw [lX7_lowestHit_15] at h
    refine X.iload C dX7_lowestHit_15 3 rfl ?_
    refine X.bipush C dX7_lowestHit_17 (by decide) ?_
    refine X.icmp_gt (tgt := 51) C h dX7_lowestHit_19 (by decide) (fun h => ?_) (fun h => ?_)
    · refine X.bipush C dX7_lowestHit_51 (by decide) ?_
      cases h
      exact X.iret C dX7_lowestHit_53 (Nat.zero_le _) (Nat.zero_le _)
    refine X.aload_n C dX7_lowestHit_22 rfl 0 rfl ?_
    refine X.get C dX7_lowestHit_23 lay_X7 0 rfl rfl 2 (by decide) fl_X7_19 rfl rfl ?_
    refine X.get C dX7_lowestHit_26 lay_X3 5 rfl rfl 0 (by decide) fl_X7_28 rfl rfl ?_
    refine X.iload_n C dX7_lowestHit_29 rfl 2 rfl ?_
    refine X.iload C dX7_lowestHit_30 3 rfl ?_
    refine X.callSi (As := [vi lx4]) (rest := [vi lx3, .ref ((q 2) 31)]) (g := fun rr_2 => rr_2) (W1 := fun rr_2 => W_0) (ws2 := fun rr_2 => (W_T G q T)) C h dX7_lowestHit_32 ml_X7_227 mX7_flightOf (fun v hv => kX7_flightOf lx4 v hv) (fun rr_2 => ln_T_0__n (G := G) (q := q) (T := T)) rfl rfl rfl rfl rfl rfl (fun rr_2 h => ?_)
    refine X.iload_n C dX7_lowestHit_35 rfl 1 rfl ?_
    refine X.callVi (q0 := 6) (As := [vi lx3, vi rr_2, vi lx2]) (rest := []) (g := fun rr_3 => rr_3) (W1 := fun rr_3 => (W_P G (q 2) (T 2))) (ws2 := fun rr_3 => (W_T G q T)) C h dX7_lowestHit_36 ml_X7_264 mX1_sizesHitting (fun v hv => kX1_sizesHitting (q 2) (T 2) lx3 rr_2 lx2 v hv) (fun rr_3 => ln_T_P_np_n (G := G) (q := q) (T := T)) rfl rfl rfl rfl rfl rfl rfl rfl (fun rr_3 h => ?_)
    refine X.if_eq (tgt := 45) C h dX7_lowestHit_39 (by decide) (fun h => ?_) (fun h => ?_)
    · refine X.iincN (lv2 := fun lx4_4 => [(4, vi lx4_4), (0, .ref ((q 11) 31)), (2, vi lx2), (3, vi lx3)]) C h dX7_lowestHit_45 3 rfl (by decide) (fun _ => rfl) (fun lx4_4 h => ?_)
      refine X.goto (tgt := 15) C dX7_lowestHit_48 (by decide) ?_
      refine X.sub [1, 2, 3, 0] rfl ?_
      exact ih lx4_4 h
    refine X.iload C dX7_lowestHit_42 3 rfl ?_
    cases h
    exact X.iret C dX7_lowestHit_44 (Nat.zero_le _) (Nat.zero_le _)
set_option maxHeartbeats 4000000 in
set_option maxRecDepth 100000 in
theorem kX7_lowestHit {l : Launch} {G : GT} (q : Nat → Nat → Nat) (T : Nat → Ob) (lx1 : Int) (lx2 : Int) (v : (Int)) (h : fX7_lowestHit T lx1 lx2 = some v) : CT l G yX7_lowestHit cX7_lowestHit 5 (some .int) rX7_lowestHit [.ref ((q 11) 31), vi lx1, vi lx2] (W_T G q T) (W_T G q T) (some (vi v)) := by
  unfold fX7_lowestHit at h
  refine CT.of (by decide) (Nat.le_of_ble_eq_true rfl) rfl (fun κ _ C => ?_)
  refine X.aload_n C dX7_lowestHit_0 rfl 0 rfl ?_
  refine X.get C dX7_lowestHit_1 lay_X7 0 rfl rfl 2 (by decide) fl_X7_19 rfl rfl ?_
  refine X.get C dX7_lowestHit_4 lay_X3 5 rfl rfl 0 (by decide) fl_X7_28 rfl rfl ?_
  refine X.iload_n C dX7_lowestHit_7 rfl 1 rfl ?_
  refine X.callVi (q0 := 6) (As := [vi lx1]) (rest := []) (g := fun rr_1 => rr_1) (W1 := fun rr_1 => (W_P G (q 2) (T 2))) (ws2 := fun rr_1 => (W_T G q T)) C h dX7_lowestHit_8 ml_X7_349 mX1_tablePlace (fun v hv => kX1_tablePlace (q 2) (T 2) lx1 v hv) (fun rr_1 => ln_T_P_np_n (G := G) (q := q) (T := T)) rfl rfl rfl rfl rfl rfl rfl rfl (fun rr_1 h => ?_)
  refine X.istore_n (lv2 := [(3, vi rr_1), (0, .ref ((q 11) 31)), (1, vi lx1), (2, vi lx2)]) C dX7_lowestHit_11 rfl (by decide) rfl ?_
  refine X.iconst C dX7_lowestHit_12 ?_
  refine X.istore (lv2 := [(4, vi 1), (3, vi rr_1), (0, .ref ((q 11) 31)), (1, vi lx1), (2, vi lx2)]) C dX7_lowestHit_13 (by decide) rfl ?_
  refine X.sub [2, 4, 1, 0] rfl ?_
  refine xX7_lowestHit_15 C q T lx2 rr_1 v FU 1 h
def rX7_bound : Room := { frames := 4, cells := 0, slots := 0, locals := 96 }
theorem mX7_bound : MV yX7_bound cX7_bound 3 (some .int) 2 := ⟨cd_X7_bound, in_X7, ⟨⟨by decide, by decide⟩, by decide +kernel⟩, im_X7_bound, se_X7_bound⟩
set_option maxHeartbeats 4000000 in
set_option maxRecDepth 100000 in
theorem kX7_bound {l : Launch} {G : GT} (q : Nat → Nat → Nat) (T : Nat → Ob) (lx1 : Int) (lx2 : Int) (v : (Int)) (h : fX7_bound T lx1 lx2 = some v) : CT l G yX7_bound cX7_bound 3 (some .int) rX7_bound [.ref ((q 11) 31), vi lx1, vi lx2] (W_T G q T) (W_T G q T) (some (vi v)) := by
  unfold fX7_bound at h
  refine CT.of (by decide) (Nat.le_of_ble_eq_true rfl) rfl (fun κ _ C => ?_)
  refine X.aload_n C dX7_bound_0 rfl 0 rfl ?_
  refine X.iload_n C dX7_bound_1 rfl 1 rfl ?_
  refine X.callVi (q0 := 0) (As := [vi lx1]) (rest := []) (g := fun rr_1 => rr_1) (W1 := fun rr_1 => (W_T G q T)) (ws2 := fun rr_1 => (W_T G q T)) C h dX7_bound_2 ml_X7_127 mX7_isTable (fun v hv => kX7_isTable q T lx1 v hv) (fun rr_1 => ln_T_T_id_n (G := G) (q := q) (T := T)) rfl rfl rfl rfl rfl rfl rfl rfl (fun rr_1 h => ?_)
  refine X.if_eq (tgt := 15) C h dX7_bound_5 (by decide) (fun h => ?_) (fun h => ?_)
  · refine X.bipush C dX7_bound_15 (by decide) ?_
    cases h
    exact X.iret C dX7_bound_17 (Nat.zero_le _) (Nat.zero_le _)
  refine X.iload_n C dX7_bound_8 rfl 2 rfl ?_
  refine X.callSi (As := [vi lx2]) (rest := []) (g := fun rr_2 => rr_2) (W1 := fun rr_2 => W_0) (ws2 := fun rr_2 => (W_T G q T)) C h dX7_bound_9 ml_X7_246 mX7_isWind (fun v hv => kX7_isWind lx2 v hv) (fun rr_2 => ln_T_0__n (G := G) (q := q) (T := T)) rfl rfl rfl rfl rfl rfl (fun rr_2 h => ?_)
  refine X.if_ne (tgt := 18) C h dX7_bound_12 (by decide) (fun h => ?_) (fun h => ?_)
  · refine X.aload_n C dX7_bound_18 rfl 0 rfl ?_
    refine X.iload_n C dX7_bound_19 rfl 1 rfl ?_
    refine X.iload_n C dX7_bound_20 rfl 2 rfl ?_
    refine X.callVi (q0 := 0) (As := [vi lx1, vi lx2]) (rest := []) (g := fun rr_3 => rr_3) (W1 := fun rr_3 => (W_T G q T)) (ws2 := fun rr_3 => (W_T G q T)) C h dX7_bound_21 ml_X7_252 mX7_lowestHit (fun v hv => kX7_lowestHit q T lx1 lx2 v hv) (fun rr_3 => ln_T_T_id_n (G := G) (q := q) (T := T)) rfl rfl rfl rfl rfl rfl rfl rfl (fun rr_3 h => ?_)
    refine X.iconst C dX7_bound_24 ?_
    refine X.isub C dX7_bound_25 ?_
    cases h
    exact X.iret C dX7_bound_26 (Nat.zero_le _) (Nat.zero_le _)
  refine X.bipush C dX7_bound_15 (by decide) ?_
  cases h
  exact X.iret C dX7_bound_17 (Nat.zero_le _) (Nat.zero_le _)
def rX7_isWay : Room := { frames := 1, cells := 0, slots := 0, locals := 22 }
theorem mX7_isWay : MS yX7_isWay cX7_isWay 1 (some .boolean) 1 := ⟨cd_X7_isWay, in_X7, ⟨⟨by decide, by decide⟩, by decide +kernel⟩, sm_X7_isWay⟩
set_option maxHeartbeats 4000000 in
set_option maxRecDepth 100000 in
theorem kX7_isWay {l : Launch} {G : GT} (lx0 : Int) (v : (Int)) (h : fX7_isWay lx0 = some v) : CT l G yX7_isWay cX7_isWay 1 (some .boolean) rX7_isWay [vi lx0] W_0 W_0 (some (vi v)) := by
  unfold fX7_isWay at h
  refine CT.of (by decide) (Nat.le_of_ble_eq_true rfl) rfl (fun κ _ C => ?_)
  refine X.iload_n C dX7_isWay_0 rfl 0 rfl ?_
  refine X.iconst C dX7_isWay_1 ?_
  refine X.iconst C dX7_isWay_2 ?_
  refine X.callSi (As := [vi lx0, vi 0, vi 3]) (rest := []) (g := fun rr_1 => rr_1) (W1 := fun rr_1 => W_0) (ws2 := fun rr_1 => W_0) C h dX7_isWay_3 ml_X7_93 mX7_isWithin (fun v hv => kX7_isWithin lx0 0 3 v hv) (fun rr_1 => ln_0_0__n) rfl rfl rfl rfl rfl rfl (fun rr_1 h => ?_)
  obtain ⟨hz, h⟩ := gd_out h
  cases h
  exact X.zret C hz dX7_isWay_6 (Nat.zero_le _) (Nat.zero_le _)
