def rX2_windAt : Room := { frames := 0, cells := 0, slots := 0, locals := 0 }
theorem mX2_windAt : MV yX2_windAt cX2_windAt 2 (some .int) 1 := ⟨cd_X2_windAt, in_X2, ⟨⟨by decide, by decide⟩, by decide +kernel⟩, im_X2_windAt, se_X2_windAt⟩
set_option maxHeartbeats 4000000 in
set_option maxRecDepth 100000 in
theorem kX2_windAt {l : Launch} {G : GT} (q : Nat → Nat) (R : Ob) (lx1 : Int) (v : (Int)) (h : fX2_windAt R lx1 = some v) : CT l G yX2_windAt cX2_windAt 2 (some .int) rX2_windAt [.ref (q 31), vi lx1] (W_R G q R) (W_R G q R) (some (vi v)) := by
  unfold fX2_windAt at h
  refine CT.of (by decide) (Nat.le_of_ble_eq_true rfl) rfl (fun κ _ C => ?_)
  refine X.aload_n C dX2_windAt_0 rfl 0 rfl ?_
  refine X.get C dX2_windAt_1 lay_X2 0 rfl rfl 3 (by decide) fl_X2_9 rfl rfl ?_
  refine X.iload_n C dX2_windAt_4 rfl 1 rfl ?_
  refine X.lald C h dX2_windAt_5 1 rfl (fun h => ?_)
  refine X.l2i C dX2_windAt_6 ?_
  cases h
  exact X.iret C dX2_windAt_7 (Nat.zero_le _) (Nat.zero_le _)
def rX3_copyFrom : Room := { frames := 2, cells := 0, slots := 0, locals := 81 }
theorem mX3_copyFrom : MV yX3_copyFrom cX3_copyFrom 2 none 1 := ⟨cd_X3_copyFrom, in_X3, ⟨⟨by decide, by decide⟩, by decide +kernel⟩, im_X3_copyFrom, se_X3_copyFrom⟩
set_option maxHeartbeats 4000000 in
set_option maxRecDepth 100000 in
theorem kX3_copyFrom {l : Launch} {G : GT} (qs : Nat → Nat) (qp : Nat → Nat) (qa : Nat → Nat) (rs : Nat → Nat) (rp : Nat → Nat) (ra : Nat → Nat) (P : Ob) (A : Ob) (P2 : Ob) (A2 : Ob) (v : (Ob × Ob)) (h : fX3_copyFrom P A P2 A2 = some v) : CT l G yX3_copyFrom cX3_copyFrom 2 none rX3_copyFrom [.ref (qs 31), .ref (rs 31)] (W_SS G qs qp qa rs rp ra P A P2 A2) (W_SS G qs qp qa rs rp ra v.1 v.2 P2 A2) none := by
  unfold fX3_copyFrom at h
  refine CT.of (by decide) (Nat.le_of_ble_eq_true rfl) rfl (fun κ _ C => ?_)
  refine X.aload_n C dX3_copyFrom_0 rfl 0 rfl ?_
  refine X.get C dX3_copyFrom_1 lay_X3 0 rfl rfl 0 (by decide) fl_X3_12 rfl rfl ?_
  refine X.aload_n C dX3_copyFrom_4 rfl 1 rfl ?_
  refine X.get C dX3_copyFrom_5 lay_X3 18 rfl rfl 0 (by decide) fl_X3_12 rfl rfl ?_
  refine X.callVv (q0 := 1) (As := [.ref (rp 31)]) (rest := []) (W1 := fun rr_1 => (W_PP G qp rp rr_1 P2)) (ws2 := fun rr_1 => (W_SS G qs qp qa rs rp ra rr_1 A P2 A2)) C h dX3_copyFrom_8 ml_X3_25 mX1_copyFrom (fun v hv => kX1_copyFrom qp rp P P2 v hv) (fun rr_1 => ln_SS_PP_p_p2_P (G := G) (qs := qs) (qp := qp) (qa := qa) (rs := rs) (rp := rp) (ra := ra) (P := P) (A := A) (P2 := P2) (A2 := A2) (NP := rr_1)) rfl rfl rfl rfl rfl rfl rfl rfl (fun rr_1 h => ?_)
  refine X.aload_n C dX3_copyFrom_11 rfl 0 rfl ?_
  refine X.get C dX3_copyFrom_12 lay_X3 0 rfl rfl 1 (by decide) fl_X3_21 rfl rfl ?_
  refine X.aload_n C dX3_copyFrom_15 rfl 1 rfl ?_
  refine X.get C dX3_copyFrom_16 lay_X3 18 rfl rfl 1 (by decide) fl_X3_21 rfl rfl ?_
  refine X.callVv (q0 := 8) (As := [.ref (ra 31)]) (rest := []) (W1 := fun rr_2 => (W_AA G qa ra rr_2 A2)) (ws2 := fun rr_2 => (W_SS G qs qp qa rs rp ra rr_1 rr_2 P2 A2)) C h dX3_copyFrom_19 ml_X3_29 mX0_copyFrom (fun v hv => kX0_copyFrom qa ra A A2 v hv) (fun rr_2 => ln_SS_AA_a_a2_A (G := G) (qs := qs) (qp := qp) (qa := qa) (rs := rs) (rp := rp) (ra := ra) (P := rr_1) (A := A) (P2 := P2) (A2 := A2) (NA := rr_2)) rfl rfl rfl rfl rfl rfl rfl rfl (fun rr_2 h => ?_)
  cases h
  exact X.vret C dX3_copyFrom_22 (Nat.zero_le _) (Nat.zero_le _)
def rX3_playWind : Room := { frames := 3, cells := 0, slots := 0, locals := 76 }
theorem mX3_playWind : MV yX3_playWind cX3_playWind 5 (some .int) 1 := ⟨cd_X3_playWind, in_X3, ⟨⟨by decide, by decide⟩, by decide +kernel⟩, im_X3_playWind, se_X3_playWind⟩
set_option maxHeartbeats 4000000 in
set_option maxRecDepth 100000 in
theorem xX3_playWind_30 {κ : Kx} {G : GT} (C : Cx κ G yX3_playWind cX3_playWind (some .int) 5 rX3_playWind) (qs : Nat → Nat) (qp : Nat → Nat) (qa : Nat → Nat) (P : Ob) (lx1 : Int) (lx2 : Int) (kx0 : Ob → Option (Int × Ob)) (v : (Int × Ob)) (hk0 : ∀ (A : Ob), kx0 A = some v → X κ G 5 (W_S G qs qp qa P A) 85 [(0, .ref (qs 31)), (1, vi lx1), (2, vi lx2)] [] 0 0 (QM κ G (W_S G qs qp qa P v.2) (some (vi v.1)) rX3_playWind.cells rX3_playWind.slots)) : ∀ (n : Nat) (lx3 : Int) (A : Ob), lX3_playWind_30 P lx1 lx2 kx0 n lx3 A = some v → X κ G 5 (W_S G qs qp qa P A) 30 [(0, .ref (qs 31)), (1, vi lx1), (2, vi lx2), (3, vi lx3)] [] 0 0 (QM κ G (W_S G qs qp qa P v.2) (some (vi v.1)) rX3_playWind.cells rX3_playWind.slots) := by
  intro n
  induction n with
  | zero => intro _ _ h; exact absurd h (fun h => nomatch h)
  | succ n ih =>
    intro lx3 A h
    rw [lX3_playWind_30] at h
    refine X.iload_n C dX3_playWind_30 rfl 3 rfl ?_
    refine X.bipush C dX3_playWind_31 (by decide) ?_
    refine X.icmp_gt (tgt := 85) C h dX3_playWind_33 (by decide) (fun h => ?_) (fun h => ?_)
    · refine X.sub [0, 1, 2] rfl ?_
      exact hk0 A h
    refine X.aload_n C dX3_playWind_36 rfl 0 rfl ?_
    refine X.get C dX3_playWind_37 lay_X3 0 rfl rfl 1 (by decide) fl_X3_21 rfl rfl ?_
    refine X.get C dX3_playWind_40 lay_X0 8 rfl rfl 0 (by decide) fl_X3_43 rfl rfl ?_
    refine X.iconst C dX3_playWind_43 ?_
    refine X.iload_n C dX3_playWind_44 rfl 3 rfl ?_
    refine X.imul C dX3_playWind_45 ?_
    refine X.isub C dX3_playWind_46 ?_
    refine X.bipush C dX3_playWind_47 (by decide) ?_
    refine X.iand C dX3_playWind_49 ?_
    refine X.istoreN (lv2 := fun lx4_3 => [(4, vi lx4_3), (0, .ref (qs 31)), (1, vi lx1), (2, vi lx2), (3, vi lx3)]) C h dX3_playWind_50 (by decide) (fun _ => rfl) (fun lx4_3 h => ?_)
    refine X.aload_n C dX3_playWind_52 rfl 1 rfl ?_
    refine X.get C dX3_playWind_53 lay_X3 0 rfl rfl 1 (by decide) fl_X3_21 rfl rfl ?_
    refine X.get C dX3_playWind_56 lay_X0 8 rfl rfl 9 (by decide) fl_X3_46 rfl rfl ?_
    refine X.iload C dX3_playWind_59 0 rfl ?_
    refine X.iald C h dX3_playWind_61 10 rfl (fun h => ?_)
    refine X.iload_n C dX3_playWind_62 rfl 4 rfl ?_
    refine X.icmp_ne (tgt := 79) C h dX3_playWind_63 (by decide) (fun h => ?_) (fun h => ?_)
    · refine X.iincN (lv2 := fun lx3_4 => [(3, vi lx3_4), (4, vi lx4_3), (0, .ref (qs 31)), (1, vi lx1), (2, vi lx2)]) C h dX3_playWind_79 4 rfl (by decide) (fun _ => rfl) (fun lx3_4 h => ?_)
      refine X.goto (tgt := 30) C dX3_playWind_82 (by decide) ?_
      refine X.sub [2, 3, 4, 0] rfl ?_
      exact ih lx3_4 A h
    refine X.aload_n C dX3_playWind_66 rfl 1 rfl ?_
    refine X.get C dX3_playWind_67 lay_X3 0 rfl rfl 1 (by decide) fl_X3_21 rfl rfl ?_
    refine X.aload_n C dX3_playWind_70 rfl 1 rfl ?_
    refine X.get C dX3_playWind_71 lay_X3 0 rfl rfl 0 (by decide) fl_X3_12 rfl rfl ?_
    refine X.iload C dX3_playWind_74 0 rfl ?_
    refine X.callVv (q0 := 8) (As := [.ref (qp 31), vi lx4_3]) (rest := []) (W1 := fun rr_5 => (W_AP G qa qp rr_5 P)) (ws2 := fun rr_5 => (W_S G qs qp qa P rr_5)) C h dX3_playWind_76 ml_X3_50 mX0_dropLump (fun v hv => kX0_dropLump qa qp A P lx4_3 v hv) (fun rr_5 => ln_S_AP_a_p_A (G := G) (qs := qs) (qp := qp) (qa := qa) (P := P) (A := A) (NA := rr_5)) rfl rfl rfl rfl rfl rfl rfl rfl (fun rr_5 h => ?_)
    refine X.iincN (lv2 := fun lx3_6 => [(3, vi lx3_6), (4, vi lx4_3), (0, .ref (qs 31)), (1, vi lx1), (2, vi lx2)]) C h dX3_playWind_79 4 rfl (by decide) (fun _ => rfl) (fun lx3_6 h => ?_)
    refine X.goto (tgt := 30) C dX3_playWind_82 (by decide) ?_
    refine X.sub [2, 3, 4, 0] rfl ?_
    exact ih lx3_6 rr_5 h
set_option maxHeartbeats 4000000 in
set_option maxRecDepth 100000 in
theorem kX3_playWind {l : Launch} {G : GT} (qs : Nat → Nat) (qp : Nat → Nat) (qa : Nat → Nat) (P : Ob) (A : Ob) (lx1 : Int) (v : (Int × Ob)) (h : fX3_playWind P A lx1 = some v) : CT l G yX3_playWind cX3_playWind 5 (some .int) rX3_playWind [.ref (qs 31), vi lx1] (W_S G qs qp qa P A) (W_S G qs qp qa P v.2) (some (vi v.1)) := by
  unfold fX3_playWind at h
  refine CT.of (by decide) (Nat.le_of_ble_eq_true rfl) rfl (fun κ _ C => ?_)
  refine X.aload_n C dX3_playWind_0 rfl 0 rfl ?_
  refine X.get C dX3_playWind_1 lay_X3 0 rfl rfl 1 (by decide) fl_X3_21 rfl rfl ?_
  refine X.get C dX3_playWind_4 lay_X0 8 rfl rfl 5 (by decide) fl_X3_32 rfl rfl ?_
  refine X.aload_n C dX3_playWind_7 rfl 0 rfl ?_
  refine X.get C dX3_playWind_8 lay_X3 0 rfl rfl 1 (by decide) fl_X3_21 rfl rfl ?_
  refine X.get C dX3_playWind_11 lay_X0 8 rfl rfl 6 (by decide) fl_X3_36 rfl rfl ?_
  refine X.iadd C dX3_playWind_14 ?_
  refine X.istoreN_n (lv2 := fun lx2_1 => [(2, vi lx2_1), (0, .ref (qs 31)), (1, vi lx1)]) C h dX3_playWind_15 rfl (by decide) (fun _ => rfl) (fun lx2_1 h => ?_)
  refine X.aload_n C dX3_playWind_16 rfl 1 rfl ?_
  refine X.get C dX3_playWind_17 lay_X3 0 rfl rfl 1 (by decide) fl_X3_21 rfl rfl ?_
  refine X.aload_n C dX3_playWind_20 rfl 1 rfl ?_
  refine X.get C dX3_playWind_21 lay_X3 0 rfl rfl 0 (by decide) fl_X3_12 rfl rfl ?_
  refine X.iload_n C dX3_playWind_24 rfl 2 rfl ?_
  refine X.callVv (q0 := 8) (As := [.ref (qp 31), vi lx1]) (rest := []) (W1 := fun rr_2 => (W_AP G qa qp rr_2 P)) (ws2 := fun rr_2 => (W_S G qs qp qa P rr_2)) C h dX3_playWind_25 ml_X3_39 mX0_driftAll (fun v hv => kX0_driftAll qa qp A P lx1 v hv) (fun rr_2 => ln_S_AP_a_p_A (G := G) (qs := qs) (qp := qp) (qa := qa) (P := P) (A := A) (NA := rr_2)) rfl rfl rfl rfl rfl rfl rfl rfl (fun rr_2 h => ?_)
  refine X.iconst C dX3_playWind_28 ?_
  refine X.istore_n (lv2 := [(3, vi 1), (2, vi lx2_1), (0, .ref (qs 31)), (1, vi lx1)]) C dX3_playWind_29 rfl (by decide) rfl ?_
  refine X.sub [2, 3, 1, 0] rfl ?_
  refine xX3_playWind_30 C qs qp qa P lx1 lx2_1 _ v (fun A_7 h => ?_) FU 1 rr_2 h
  · refine X.aload_n C dX3_playWind_85 rfl 0 rfl ?_
    refine X.get C dX3_playWind_86 lay_X3 0 rfl rfl 1 (by decide) fl_X3_21 rfl rfl ?_
    refine X.aload_n C dX3_playWind_89 rfl 0 rfl ?_
    refine X.get C dX3_playWind_90 lay_X3 0 rfl rfl 0 (by decide) fl_X3_12 rfl rfl ?_
    refine X.iload_n C dX3_playWind_93 rfl 1 rfl ?_
    refine X.callVv (q0 := 8) (As := [.ref (qp 31), vi lx1]) (rest := []) (W1 := fun rr_8 => (W_AP G qa qp rr_8 P)) (ws2 := fun rr_8 => (W_S G qs qp qa P rr_8)) C h dX3_playWind_94 ml_X3_53 mX0_throwLump (fun v hv => kX0_throwLump qa qp A_7 P lx1 v hv) (fun rr_8 => ln_S_AP_a_p_A (G := G) (qs := qs) (qp := qp) (qa := qa) (P := P) (A := A_7) (NA := rr_8)) rfl rfl rfl rfl rfl rfl rfl rfl (fun rr_8 h => ?_)
    refine X.aload_n C dX3_playWind_97 rfl 0 rfl ?_
    refine X.get C dX3_playWind_98 lay_X3 0 rfl rfl 1 (by decide) fl_X3_21 rfl rfl ?_
    refine X.get C dX3_playWind_101 lay_X0 8 rfl rfl 5 (by decide) fl_X3_32 rfl rfl ?_
    refine X.aload_n C dX3_playWind_104 rfl 0 rfl ?_
    refine X.get C dX3_playWind_105 lay_X3 0 rfl rfl 1 (by decide) fl_X3_21 rfl rfl ?_
    refine X.get C dX3_playWind_108 lay_X0 8 rfl rfl 6 (by decide) fl_X3_36 rfl rfl ?_
    refine X.iadd C dX3_playWind_111 ?_
    refine X.iload_n C dX3_playWind_112 rfl 2 rfl ?_
    refine X.isub C dX3_playWind_113 ?_
    cases h
    exact X.iret C dX3_playWind_114 (Nat.zero_le _) (Nat.zero_le _)
def rX3_playRow : Room := { frames := 4, cells := 0, slots := 0, locals := 100 }
theorem mX3_playRow : MV yX3_playRow cX3_playRow 4 (some .int) 1 := ⟨cd_X3_playRow, in_X3, ⟨⟨by decide, by decide⟩, by decide +kernel⟩, im_X3_playRow, se_X3_playRow⟩
set_option maxHeartbeats 4000000 in
set_option maxRecDepth 100000 in
theorem xX3_playRow_4 {κ : Kx} {G : GT} (C : Cx κ G yX3_playRow cX3_playRow (some .int) 4 rX3_playRow) (qs : Nat → Nat) (qp : Nat → Nat) (qa : Nat → Nat) (qr : Nat → Nat) (P : Ob) (R : Ob) (v : (Int × Ob)) : ∀ (n : Nat) (lx2 : Int) (lx3 : Int) (A : Ob), lX3_playRow_4 P R n lx2 lx3 A = some v → X κ G 4 (W_SR G qs qp qa qr P A R) 4 [(0, .ref (qs 31)), (1, .ref (qr 31)), (2, vi lx2), (3, vi lx3)] [] 0 0 (QM κ G (W_SR G qs qp qa qr P v.2 R) (some (vi v.1)) rX3_playRow.cells rX3_playRow.slots) := by
  intro n
  induction n with
  | zero => intro _ _ _ h; exact absurd h (fun h => nomatch h)
  | succ n ih =>
    intro lx2 lx3 A h
    rw [lX3_playRow_4] at h
    refine X.iload_n C dX3_playRow_4 rfl 3 rfl ?_
    refine X.aload_n C dX3_playRow_5 rfl 1 rfl ?_
    refine X.get C dX3_playRow_6 lay_X2 18 rfl rfl 2 (by decide) fl_X3_56 rfl rfl ?_
    refine X.icmp_ge (tgt := 30) C h dX3_playRow_9 (by decide) (fun h => ?_) (fun h => ?_)
    · refine X.iload_n C dX3_playRow_30 rfl 2 rfl ?_
      cases h
      exact X.iret C dX3_playRow_31 (Nat.zero_le _) (Nat.zero_le _)
    refine X.iload_n C dX3_playRow_12 rfl 2 rfl ?_
    refine X.aload_n C dX3_playRow_13 rfl 0 rfl ?_
    refine X.aload_n C dX3_playRow_14 rfl 1 rfl ?_
    refine X.iload_n C dX3_playRow_15 rfl 3 rfl ?_
    refine X.callVi (q0 := 18) (As := [vi lx3]) (rest := [.ref (qs 31), vi lx2]) (g := fun rr_1 => rr_1) (W1 := fun rr_1 => (W_R G qr R)) (ws2 := fun rr_1 => (W_SR G qs qp qa qr P A R)) C h dX3_playRow_16 ml_X3_61 mX2_windAt (fun v hv => kX2_windAt qr R lx3 v hv) (fun rr_1 => ln_SR_R_r_n (G := G) (qs := qs) (qp := qp) (qa := qa) (qr := qr) (P := P) (A := A) (R := R)) rfl rfl rfl rfl rfl rfl rfl rfl (fun rr_1 h => ?_)
    refine X.callVi (q0 := 0) (As := [vi rr_1]) (rest := [vi lx2]) (g := fun rr_2 => rr_2.1) (W1 := fun rr_2 => (W_S G qs qp qa P rr_2.2)) (ws2 := fun rr_2 => (W_SR G qs qp qa qr P rr_2.2 R)) C h dX3_playRow_19 ml_X3_65 mX3_playWind (fun v hv => kX3_playWind qs qp qa P A rr_1 v hv) (fun rr_2 => ln_SR_S_s_p_a_A (G := G) (qs := qs) (qp := qp) (qa := qa) (qr := qr) (P := P) (A := A) (R := R) (NA := rr_2.2)) rfl rfl rfl rfl rfl rfl rfl rfl (fun rr_2 h => ?_)
    refine X.iadd C dX3_playRow_22 ?_
    refine X.istoreN_n (lv2 := fun lx2_3 => [(2, vi lx2_3), (0, .ref (qs 31)), (1, .ref (qr 31)), (3, vi lx3)]) C h dX3_playRow_23 rfl (by decide) (fun _ => rfl) (fun lx2_3 h => ?_)
    refine X.iincN (lv2 := fun lx3_4 => [(3, vi lx3_4), (2, vi lx2_3), (0, .ref (qs 31)), (1, .ref (qr 31))]) C h dX3_playRow_24 3 rfl (by decide) (fun _ => rfl) (fun lx3_4 h => ?_)
    refine X.goto (tgt := 4) C dX3_playRow_27 (by decide) ?_
    refine X.sub [2, 3, 1, 0] rfl ?_
    exact ih lx2_3 lx3_4 rr_2.2 h
set_option maxHeartbeats 4000000 in
set_option maxRecDepth 100000 in
theorem kX3_playRow {l : Launch} {G : GT} (qs : Nat → Nat) (qp : Nat → Nat) (qa : Nat → Nat) (qr : Nat → Nat) (P : Ob) (A : Ob) (R : Ob) (v : (Int × Ob)) (h : fX3_playRow P A R = some v) : CT l G yX3_playRow cX3_playRow 4 (some .int) rX3_playRow [.ref (qs 31), .ref (qr 31)] (W_SR G qs qp qa qr P A R) (W_SR G qs qp qa qr P v.2 R) (some (vi v.1)) := by
  unfold fX3_playRow at h
  refine CT.of (by decide) (Nat.le_of_ble_eq_true rfl) rfl (fun κ _ C => ?_)
  refine X.iconst C dX3_playRow_0 ?_
  refine X.istore_n (lv2 := [(2, vi 0), (0, .ref (qs 31)), (1, .ref (qr 31))]) C dX3_playRow_1 rfl (by decide) rfl ?_
  refine X.iconst C dX3_playRow_2 ?_
  refine X.istore_n (lv2 := [(3, vi 0), (2, vi 0), (0, .ref (qs 31)), (1, .ref (qr 31))]) C dX3_playRow_3 rfl (by decide) rfl ?_
  refine X.sub [2, 3, 1, 0] rfl ?_
  refine xX3_playRow_4 C qs qp qa qr P R v FU 0 0 A h
def rX3_playGusts : Room := { frames := 4, cells := 0, slots := 0, locals := 100 }
theorem mX3_playGusts : MV yX3_playGusts cX3_playGusts 11 (some .int) 4 := ⟨cd_X3_playGusts, in_X3, ⟨⟨by decide, by decide⟩, by decide +kernel⟩, im_X3_playGusts, se_X3_playGusts⟩
set_option maxHeartbeats 4000000 in
set_option maxRecDepth 100000 in
theorem xX3_playGusts_81 {κ : Kx} {G : GT} (C : Cx κ G yX3_playGusts cX3_playGusts (some .int) 11 rX3_playGusts) (qs : Nat → Nat) (qp : Nat → Nat) (qa : Nat → Nat) (kc0 : Int → Int → Int → Ob → Option (Int × Ob)) (P : Ob) (A : Ob) (lx2 : Int) (lx3 : Int) (lx4 : Int) (lx5 : Int) (lx6 : Int) (lx9 : Int) (lt0 : Int) (lt2 : Int) (v : (Int × Ob)) (hc0 : ∀ (lx6 : Int) (lx8 : Int) (lx9 : Int) (A : Ob), kc0 lx6 lx8 lx9 A = some v → X κ G 11 (W_S G qs qp qa P A) 21 [(0, .ref (qs 31)), (2, vi lx2), (3, vi lx3), (4, vi lx4), (5, vi lx5), (6, vl lx6), (8, vi lx8), (9, vi lx9)] [] 0 0 (QM κ G (W_S G qs qp qa P v.2) (some (vi v.1)) rX3_playGusts.cells rX3_playGusts.slots)) (h : jX3_playGusts_81 kc0 P A lx2 lx3 lx4 lx5 lx6 lx9 lt0 lt2 = some v) : X κ G 11 (W_S G qs qp qa P A) 81 [(0, .ref (qs 31)), (2, vi lx2), (3, vi lx3), (4, vi lx4), (5, vi lx5), (6, vl lx6), (9, vi lx9)] [vi lt0, .ref (qs 31), vi lt2] 0 0 (QM κ G (W_S G qs qp qa P v.2) (some (vi v.1)) rX3_playGusts.cells rX3_playGusts.slots) := by
  unfold jX3_playGusts_81 at h
  refine X.callVi (q0 := 0) (As := [vi lt0]) (rest := [vi lt2]) (g := fun rr_4 => rr_4.1) (W1 := fun rr_4 => (W_S G qs qp qa P rr_4.2)) (ws2 := fun rr_4 => (W_S G qs qp qa P rr_4.2)) C h dX3_playGusts_81 ml_X3_65 mX3_playWind (fun v hv => kX3_playWind qs qp qa P A lt0 v hv) (fun rr_4 => ln_S_S_s_p_a_A (G := G) (qs := qs) (qp := qp) (qa := qa) (P := P) (A := A) (NA := rr_4.2)) rfl rfl rfl rfl rfl rfl rfl rfl (fun rr_4 h => ?_)
  refine X.iadd C dX3_playGusts_84 ?_
  refine X.istoreN (lv2 := fun lx8_5 => [(8, vi lx8_5), (0, .ref (qs 31)), (2, vi lx2), (3, vi lx3), (4, vi lx4), (5, vi lx5), (6, vl lx6), (9, vi lx9)]) C h dX3_playGusts_85 (by decide) (fun _ => rfl) (fun lx8_5 h => ?_)
  refine X.iincN (lv2 := fun lx9_6 => [(9, vi lx9_6), (8, vi lx8_5), (0, .ref (qs 31)), (2, vi lx2), (3, vi lx3), (4, vi lx4), (5, vi lx5), (6, vl lx6)]) C h dX3_playGusts_87 7 rfl (by decide) (fun _ => rfl) (fun lx9_6 h => ?_)
  refine X.goto (tgt := 21) C dX3_playGusts_90 (by decide) ?_
  refine X.sub [2, 3, 4, 5, 6, 7, 1, 0] rfl ?_
  exact hc0 lx6 lx8_5 lx9_6 rr_4.2 h
set_option maxHeartbeats 4000000 in
set_option maxRecDepth 100000 in
theorem xX3_playGusts_65 {κ : Kx} {G : GT} (C : Cx κ G yX3_playGusts cX3_playGusts (some .int) 11 rX3_playGusts) (qs : Nat → Nat) (qp : Nat → Nat) (qa : Nat → Nat) (kc0 : Int → Int → Int → Ob → Option (Int × Ob)) (P : Ob) (A : Ob) (lx2 : Int) (lx3 : Int) (lx4 : Int) (lx5 : Int) (lx6 : Int) (lx8 : Int) (lx9 : Int) (lt0 : Int) (v : (Int × Ob)) (hc0 : ∀ (lx6 : Int) (lx8 : Int) (lx9 : Int) (A : Ob), kc0 lx6 lx8 lx9 A = some v → X κ G 11 (W_S G qs qp qa P A) 21 [(0, .ref (qs 31)), (2, vi lx2), (3, vi lx3), (4, vi lx4), (5, vi lx5), (6, vl lx6), (8, vi lx8), (9, vi lx9)] [] 0 0 (QM κ G (W_S G qs qp qa P v.2) (some (vi v.1)) rX3_playGusts.cells rX3_playGusts.slots)) (h : jX3_playGusts_65 kc0 P A lx2 lx3 lx4 lx5 lx6 lx8 lx9 lt0 = some v) : X κ G 11 (W_S G qs qp qa P A) 65 [(0, .ref (qs 31)), (2, vi lx2), (3, vi lx3), (4, vi lx4), (5, vi lx5), (6, vl lx6), (8, vi lx8), (9, vi lx9)] [vi lt0] 0 0 (QM κ G (W_S G qs qp qa P v.2) (some (vi v.1)) rX3_playGusts.cells rX3_playGusts.slots) := by
  unfold jX3_playGusts_65 at h
  refine X.istore (lv2 := [(10, vi lt0), (0, .ref (qs 31)), (2, vi lx2), (3, vi lx3), (4, vi lx4), (5, vi lx5), (6, vl lx6), (8, vi lx8), (9, vi lx9)]) C dX3_playGusts_65 (by decide) rfl ?_
  refine X.iload C dX3_playGusts_67 7 rfl ?_
  refine X.aload_n C dX3_playGusts_69 rfl 1 rfl ?_
  refine X.iload C dX3_playGusts_70 0 rfl ?_
  refine X.if_eq (tgt := 80) C h dX3_playGusts_72 (by decide) (fun h => ?_) (fun h => ?_)
  · refine X.iload_n C dX3_playGusts_80 rfl 2 rfl ?_
    refine X.sub [1, 2, 3, 4, 5, 6, 8] rfl ?_
    exact xX3_playGusts_81 C qs qp qa kc0 P A lx2 lx3 lx4 lx5 lx6 lx9 lx2 lx8 v hc0 h
  refine X.iload C dX3_playGusts_75 5 rfl ?_
  refine X.goto (tgt := 81) C dX3_playGusts_77 (by decide) ?_
  refine X.sub [1, 2, 3, 4, 5, 6, 8] rfl ?_
  exact xX3_playGusts_81 C qs qp qa kc0 P A lx2 lx3 lx4 lx5 lx6 lx9 lx5 lx8 v hc0 h
set_option maxHeartbeats 4000000 in
set_option maxRecDepth 100000 in
theorem xX3_playGusts_21 {κ : Kx} {G : GT} (C : Cx κ G yX3_playGusts cX3_playGusts (some .int) 11 rX3_playGusts) (qs : Nat → Nat) (qp : Nat → Nat) (qa : Nat → Nat) (P : Ob) (lx2 : Int) (lx3 : Int) (lx4 : Int) (lx5 : Int) (v : (Int × Ob)) : ∀ (n : Nat) (lx6 : Int) (lx8 : Int) (lx9 : Int) (A : Ob), lX3_playGusts_21 P lx2 lx3 lx4 lx5 n lx6 lx8 lx9 A = some v → X κ G 11 (W_S G qs qp qa P A) 21 [(0, .ref (qs 31)), (2, vi lx2), (3, vi lx3), (4, vi lx4), (5, vi lx5), (6, vl lx6), (8, vi lx8), (9, vi lx9)] [] 0 0 (QM κ G (W_S G qs qp qa P v.2) (some (vi v.1)) rX3_playGusts.cells rX3_playGusts.slots) := by
  intro n
  induction n with
  | zero => intro _ _ _ _ h; exact absurd h (fun h => nomatch h)
  | succ n ih =>
    intro lx6 lx8 lx9 A h
    rw [lX3_playGusts_21] at h
    refine X.iload C dX3_playGusts_21 7 rfl ?_
    refine X.iload_n C dX3_playGusts_23 rfl 2 rfl ?_
    refine X.icmp_ge (tgt := 93) C h dX3_playGusts_24 (by decide) (fun h => ?_) (fun h => ?_)
    · refine X.iload C dX3_playGusts_93 6 rfl ?_
      cases h
      exact X.iret C dX3_playGusts_95 (Nat.zero_le _) (Nat.zero_le _)
    refine X.ldc2 (z := 1103515245) C cl_X3_68 (by decide) dX3_playGusts_27 ?_
    refine X.lload C dX3_playGusts_30 5 rfl ?_
    refine X.lmul C dX3_playGusts_32 ?_
    refine X.ldc2 (z := 12345) C cl_X3_70 (by decide) dX3_playGusts_33 ?_
    refine X.ladd C dX3_playGusts_36 ?_
    refine X.ldc2 (z := 2147483647) C cl_X3_72 (by decide) dX3_playGusts_37 ?_
    refine X.land C dX3_playGusts_40 ?_
    refine X.lstoreN (lv2 := fun lx6_3 => [(6, vl lx6_3), (0, .ref (qs 31)), (2, vi lx2), (3, vi lx3), (4, vi lx4), (5, vi lx5), (8, vi lx8), (9, vi lx9)]) C h dX3_playGusts_41 (by decide) (fun _ => rfl) (fun lx6_3 h => ?_)
    refine X.lload C dX3_playGusts_43 0 rfl ?_
    refine X.ldc2 (z := 65536) C cl_X3_74 (by decide) dX3_playGusts_45 ?_
    refine X.ldiv C (by decide) dX3_playGusts_48 ?_
    refine X.ldc2 (z := 100) C cl_X3_76 (by decide) dX3_playGusts_49 ?_
    refine X.lrem C (by decide) dX3_playGusts_52 ?_
    refine X.iload C dX3_playGusts_53 4 rfl ?_
    refine X.i2l C dX3_playGusts_55 ?_
    refine X.lcmp C dX3_playGusts_56 ?_
    refine X.if_ge (tgt := 64) C h dX3_playGusts_57 (by decide) (fun h => ?_) (fun h => ?_)
    · refine X.iconst C dX3_playGusts_64 ?_
      refine X.sub [1, 2, 3, 4, 5, 0, 6, 7] rfl ?_
      exact xX3_playGusts_65 C qs qp qa (lX3_playGusts_21 P lx2 lx3 lx4 lx5 n) P A lx2 lx3 lx4 lx5 lx6_3 lx8 lx9 0 v ih h
    refine X.iconst C dX3_playGusts_60 ?_
    refine X.goto (tgt := 65) C dX3_playGusts_61 (by decide) ?_
    refine X.sub [1, 2, 3, 4, 5, 0, 6, 7] rfl ?_
    exact xX3_playGusts_65 C qs qp qa (lX3_playGusts_21 P lx2 lx3 lx4 lx5 n) P A lx2 lx3 lx4 lx5 lx6_3 lx8 lx9 1 v ih h
set_option maxHeartbeats 4000000 in
set_option maxRecDepth 100000 in
theorem kX3_playGusts {l : Launch} {G : GT} (qs : Nat → Nat) (qp : Nat → Nat) (qa : Nat → Nat) (P : Ob) (A : Ob) (lx1 : Int) (lx2 : Int) (lx3 : Int) (lx4 : Int) (v : (Int × Ob)) (h : fX3_playGusts P A lx1 lx2 lx3 lx4 = some v) : CT l G yX3_playGusts cX3_playGusts 11 (some .int) rX3_playGusts [.ref (qs 31), vi lx1, vi lx2, vi lx3, vi lx4] (W_S G qs qp qa P A) (W_S G qs qp qa P v.2) (some (vi v.1)) := by
  unfold fX3_playGusts at h
  refine CT.of (by decide) (Nat.le_of_ble_eq_true rfl) rfl (fun κ _ C => ?_)
  refine X.iload_n C dX3_playGusts_0 rfl 2 rfl ?_
  refine X.iload_n C dX3_playGusts_1 rfl 2 rfl ?_
  refine X.bipush C dX3_playGusts_2 (by decide) ?_
  refine X.irem C (by decide) dX3_playGusts_4 ?_
  refine X.isub C dX3_playGusts_5 ?_
  refine X.bipush C dX3_playGusts_6 (by decide) ?_
  refine X.iadd C dX3_playGusts_8 ?_
  refine X.istoreN (lv2 := fun lx5_1 => [(5, vi lx5_1), (0, .ref (qs 31)), (1, vi lx1), (2, vi lx2), (3, vi lx3), (4, vi lx4)]) C h dX3_playGusts_9 (by decide) (fun _ => rfl) (fun lx5_1 h => ?_)
  refine X.iload_n C dX3_playGusts_11 rfl 2 rfl ?_
  refine X.i2l C dX3_playGusts_12 ?_
  refine X.lstoreN (lv2 := fun lx6_2 => [(6, vl lx6_2), (5, vi lx5_1), (0, .ref (qs 31)), (1, vi lx1), (2, vi lx2), (3, vi lx3), (4, vi lx4)]) C h dX3_playGusts_13 (by decide) (fun _ => rfl) (fun lx6_2 h => ?_)
  refine X.iconst C dX3_playGusts_15 ?_
  refine X.istore (lv2 := [(8, vi 0), (6, vl lx6_2), (5, vi lx5_1), (0, .ref (qs 31)), (1, vi lx1), (2, vi lx2), (3, vi lx3), (4, vi lx4)]) C dX3_playGusts_16 (by decide) rfl ?_
  refine X.iconst C dX3_playGusts_18 ?_
  refine X.istore (lv2 := [(9, vi 0), (8, vi 0), (6, vl lx6_2), (5, vi lx5_1), (0, .ref (qs 31)), (1, vi lx1), (2, vi lx2), (3, vi lx3), (4, vi lx4)]) C dX3_playGusts_19 (by decide) rfl ?_
  refine X.sub [4, 6, 7, 8, 3, 2, 1, 0] rfl ?_
  refine xX3_playGusts_21 C qs qp qa P lx2 lx3 lx4 lx5_1 v FU lx6_2 0 0 A h
def rX3_tableWet : Room := { frames := 1, cells := 0, slots := 0, locals := 22 }
theorem mX3_tableWet : MV yX3_tableWet cX3_tableWet 2 (some .int) 1 := ⟨cd_X3_tableWet, in_X3, ⟨⟨by decide, by decide⟩, by decide +kernel⟩, im_X3_tableWet, se_X3_tableWet⟩
set_option maxHeartbeats 4000000 in
set_option maxRecDepth 100000 in
theorem kX3_tableWet {l : Launch} {G : GT} (qs : Nat → Nat) (qp : Nat → Nat) (qa : Nat → Nat) (P : Ob) (A : Ob) (lx1 : Int) (v : (Int)) (h : fX3_tableWet P A lx1 = some v) : CT l G yX3_tableWet cX3_tableWet 2 (some .int) rX3_tableWet [.ref (qs 31), vi lx1] (W_S G qs qp qa P A) (W_S G qs qp qa P A) (some (vi v)) := by
  unfold fX3_tableWet at h
  refine CT.of (by decide) (Nat.le_of_ble_eq_true rfl) rfl (fun κ _ C => ?_)
  refine X.aload_n C dX3_tableWet_0 rfl 0 rfl ?_
  refine X.get C dX3_tableWet_1 lay_X3 0 rfl rfl 1 (by decide) fl_X3_21 rfl rfl ?_
  refine X.aload_n C dX3_tableWet_4 rfl 0 rfl ?_
  refine X.get C dX3_tableWet_5 lay_X3 0 rfl rfl 0 (by decide) fl_X3_12 rfl rfl ?_
  refine X.get C dX3_tableWet_8 lay_X1 1 rfl rfl 15 (by decide) fl_X3_78 rfl rfl ?_
  refine X.iload_n C dX3_tableWet_11 rfl 1 rfl ?_
  refine X.iald C h dX3_tableWet_12 4 rfl (fun h => ?_)
  refine X.aload_n C dX3_tableWet_13 rfl 0 rfl ?_
  refine X.get C dX3_tableWet_14 lay_X3 0 rfl rfl 0 (by decide) fl_X3_12 rfl rfl ?_
  refine X.get C dX3_tableWet_17 lay_X1 1 rfl rfl 16 (by decide) fl_X3_81 rfl rfl ?_
  refine X.iload_n C dX3_tableWet_20 rfl 1 rfl ?_
  refine X.iald C h dX3_tableWet_21 5 rfl (fun h => ?_)
  refine X.callVi (q0 := 8) (As := [vi (P 15 (ix lx1)), vi (P 16 (ix lx1))]) (rest := []) (g := fun rr_1 => rr_1) (W1 := fun rr_1 => (W_A G qa A)) (ws2 := fun rr_1 => (W_S G qs qp qa P A)) C h dX3_tableWet_22 ml_X3_84 mX0_wetAt (fun v hv => kX0_wetAt qa A (P 15 (ix lx1)) (P 16 (ix lx1)) v hv) (fun rr_1 => ln_S_A_a_n (G := G) (qs := qs) (qp := qp) (qa := qa) (P := P) (A := A)) rfl rfl rfl rfl rfl rfl rfl rfl (fun rr_1 h => ?_)
  cases h
  exact X.iret C dX3_tableWet_25 (Nat.zero_le _) (Nat.zero_le _)
def rX3_allTablesWet : Room := { frames := 2, cells := 0, slots := 0, locals := 43 }
theorem mX3_allTablesWet : MV yX3_allTablesWet cX3_allTablesWet 3 (some .int) 0 := ⟨cd_X3_allTablesWet, in_X3, ⟨⟨by decide, by decide⟩, by decide +kernel⟩, im_X3_allTablesWet, se_X3_allTablesWet⟩
set_option maxHeartbeats 4000000 in
set_option maxRecDepth 100000 in
theorem xX3_allTablesWet_4 {κ : Kx} {G : GT} (C : Cx κ G yX3_allTablesWet cX3_allTablesWet (some .int) 3 rX3_allTablesWet) (qs : Nat → Nat) (qp : Nat → Nat) (qa : Nat → Nat) (P : Ob) (A : Ob) (v : (Int)) : ∀ (n : Nat) (lx1 : Int) (lx2 : Int), lX3_allTablesWet_4 P A n lx1 lx2 = some v → X κ G 3 (W_S G qs qp qa P A) 4 [(0, .ref (qs 31)), (1, vi lx1), (2, vi lx2)] [] 0 0 (QM κ G (W_S G qs qp qa P A) (some (vi v)) rX3_allTablesWet.cells rX3_allTablesWet.slots) := by
  intro n
  induction n with
  | zero => intro _ _ h; exact absurd h (fun h => nomatch h)
  | succ n ih =>
    intro lx1 lx2 h
    rw [lX3_allTablesWet_4] at h
    refine X.iload_n C dX3_allTablesWet_4 rfl 2 rfl ?_
    refine X.aload_n C dX3_allTablesWet_5 rfl 0 rfl ?_
    refine X.get C dX3_allTablesWet_6 lay_X3 0 rfl rfl 0 (by decide) fl_X3_12 rfl rfl ?_
    refine X.get C dX3_allTablesWet_9 lay_X1 1 rfl rfl 14 (by decide) fl_X3_88 rfl rfl ?_
    refine X.icmp_ge (tgt := 29) C h dX3_allTablesWet_12 (by decide) (fun h => ?_) (fun h => ?_)
    · refine X.iload_n C dX3_allTablesWet_29 rfl 1 rfl ?_
      cases h
      exact X.iret C dX3_allTablesWet_30 (Nat.zero_le _) (Nat.zero_le _)
    refine X.iload_n C dX3_allTablesWet_15 rfl 1 rfl ?_
    refine X.aload_n C dX3_allTablesWet_16 rfl 0 rfl ?_
    refine X.iload_n C dX3_allTablesWet_17 rfl 2 rfl ?_
    refine X.callVi (q0 := 0) (As := [vi lx2]) (rest := [vi lx1]) (g := fun rr_1 => rr_1) (W1 := fun rr_1 => (W_S G qs qp qa P A)) (ws2 := fun rr_1 => (W_S G qs qp qa P A)) C h dX3_allTablesWet_18 ml_X3_91 mX3_tableWet (fun v hv => kX3_tableWet qs qp qa P A lx2 v hv) (fun rr_1 => ln_S_S_s_p_a_n (G := G) (qs := qs) (qp := qp) (qa := qa) (P := P) (A := A)) rfl rfl rfl rfl rfl rfl rfl rfl (fun rr_1 h => ?_)
    refine X.iadd C dX3_allTablesWet_21 ?_
    refine X.istoreN_n (lv2 := fun lx1_2 => [(1, vi lx1_2), (0, .ref (qs 31)), (2, vi lx2)]) C h dX3_allTablesWet_22 rfl (by decide) (fun _ => rfl) (fun lx1_2 h => ?_)
    refine X.iincN (lv2 := fun lx2_3 => [(2, vi lx2_3), (1, vi lx1_2), (0, .ref (qs 31))]) C h dX3_allTablesWet_23 2 rfl (by decide) (fun _ => rfl) (fun lx2_3 h => ?_)
    refine X.goto (tgt := 4) C dX3_allTablesWet_26 (by decide) ?_
    refine X.sub [2, 1, 0] rfl ?_
    exact ih lx1_2 lx2_3 h
set_option maxHeartbeats 4000000 in
set_option maxRecDepth 100000 in
theorem kX3_allTablesWet {l : Launch} {G : GT} (qs : Nat → Nat) (qp : Nat → Nat) (qa : Nat → Nat) (P : Ob) (A : Ob) (v : (Int)) (h : fX3_allTablesWet P A = some v) : CT l G yX3_allTablesWet cX3_allTablesWet 3 (some .int) rX3_allTablesWet [.ref (qs 31)] (W_S G qs qp qa P A) (W_S G qs qp qa P A) (some (vi v)) := by
  unfold fX3_allTablesWet at h
  refine CT.of (by decide) (Nat.le_of_ble_eq_true rfl) rfl (fun κ _ C => ?_)
  refine X.iconst C dX3_allTablesWet_0 ?_
  refine X.istore_n (lv2 := [(1, vi 0), (0, .ref (qs 31))]) C dX3_allTablesWet_1 rfl (by decide) rfl ?_
  refine X.iconst C dX3_allTablesWet_2 ?_
  refine X.istore_n (lv2 := [(2, vi 0), (1, vi 0), (0, .ref (qs 31))]) C dX3_allTablesWet_3 rfl (by decide) rfl ?_
  refine X.sub [2, 1, 0] rfl ?_
  refine xX3_allTablesWet_4 C qs qp qa P A v FU 0 0 h
def rX3_isOver : Room := { frames := 2, cells := 0, slots := 0, locals := 43 }
theorem mX3_isOver : MV yX3_isOver cX3_isOver 2 (some .boolean) 1 := ⟨cd_X3_isOver, in_X3, ⟨⟨by decide, by decide⟩, by decide +kernel⟩, im_X3_isOver, se_X3_isOver⟩
set_option maxHeartbeats 4000000 in
set_option maxRecDepth 100000 in
theorem kX3_isOver {l : Launch} {G : GT} (qs : Nat → Nat) (qp : Nat → Nat) (qa : Nat → Nat) (P : Ob) (A : Ob) (lx1 : Int) (v : (Int)) (h : fX3_isOver P A lx1 = some v) : CT l G yX3_isOver cX3_isOver 2 (some .boolean) rX3_isOver [.ref (qs 31), vi lx1] (W_S G qs qp qa P A) (W_S G qs qp qa P A) (some (vi v)) := by
  unfold fX3_isOver at h
  refine CT.of (by decide) (Nat.le_of_ble_eq_true rfl) rfl (fun κ _ C => ?_)
  refine X.aload_n C dX3_isOver_0 rfl 0 rfl ?_
  refine X.iload_n C dX3_isOver_1 rfl 1 rfl ?_
  refine X.callVi (q0 := 0) (As := [vi lx1]) (rest := []) (g := fun rr_1 => rr_1) (W1 := fun rr_1 => (W_S G qs qp qa P A)) (ws2 := fun rr_1 => (W_S G qs qp qa P A)) C h dX3_isOver_2 ml_X3_91 mX3_tableWet (fun v hv => kX3_tableWet qs qp qa P A lx1 v hv) (fun rr_1 => ln_S_S_s_p_a_n (G := G) (qs := qs) (qp := qp) (qa := qa) (P := P) (A := A)) rfl rfl rfl rfl rfl rfl rfl rfl (fun rr_1 h => ?_)
  refine X.aload_n C dX3_isOver_5 rfl 0 rfl ?_
  refine X.get C dX3_isOver_6 lay_X3 0 rfl rfl 0 (by decide) fl_X3_12 rfl rfl ?_
  refine X.get C dX3_isOver_9 lay_X1 1 rfl rfl 17 (by decide) fl_X3_94 rfl rfl ?_
  refine X.iload_n C dX3_isOver_12 rfl 1 rfl ?_
  refine X.iald C h dX3_isOver_13 6 rfl (fun h => ?_)
  refine X.icmp_le (tgt := 21) C h dX3_isOver_14 (by decide) (fun h => ?_) (fun h => ?_)
  · refine X.iconst C dX3_isOver_21 ?_
    cases h
    exact X.zret C rfl dX3_isOver_22 (Nat.zero_le _) (Nat.zero_le _)
  refine X.iconst C dX3_isOver_17 ?_
  refine X.goto (tgt := 22) C dX3_isOver_18 (by decide) ?_
  cases h
  exact X.zret C rfl dX3_isOver_22 (Nat.zero_le _) (Nat.zero_le _)
def rX3_tablesOver : Room := { frames := 3, cells := 0, slots := 0, locals := 64 }
theorem mX3_tablesOver : MV yX3_tablesOver cX3_tablesOver 3 (some .int) 0 := ⟨cd_X3_tablesOver, in_X3, ⟨⟨by decide, by decide⟩, by decide +kernel⟩, im_X3_tablesOver, se_X3_tablesOver⟩
set_option maxHeartbeats 4000000 in
set_option maxRecDepth 100000 in
theorem xX3_tablesOver_4 {κ : Kx} {G : GT} (C : Cx κ G yX3_tablesOver cX3_tablesOver (some .int) 3 rX3_tablesOver) (qs : Nat → Nat) (qp : Nat → Nat) (qa : Nat → Nat) (P : Ob) (A : Ob) (v : (Int)) : ∀ (n : Nat) (lx1 : Int) (lx2 : Int), lX3_tablesOver_4 P A n lx1 lx2 = some v → X κ G 3 (W_S G qs qp qa P A) 4 [(0, .ref (qs 31)), (1, vi lx1), (2, vi lx2)] [] 0 0 (QM κ G (W_S G qs qp qa P A) (some (vi v)) rX3_tablesOver.cells rX3_tablesOver.slots) := by
  intro n
  induction n with
  | zero => intro _ _ h; exact absurd h (fun h => nomatch h)
  | succ n ih =>
    intro lx1 lx2 h
    rw [lX3_tablesOver_4] at h
    refine X.iload_n C dX3_tablesOver_4 rfl 2 rfl ?_
    refine X.aload_n C dX3_tablesOver_5 rfl 0 rfl ?_
    refine X.get C dX3_tablesOver_6 lay_X3 0 rfl rfl 0 (by decide) fl_X3_12 rfl rfl ?_
    refine X.get C dX3_tablesOver_9 lay_X1 1 rfl rfl 14 (by decide) fl_X3_88 rfl rfl ?_
    refine X.icmp_ge (tgt := 35) C h dX3_tablesOver_12 (by decide) (fun h => ?_) (fun h => ?_)
    · refine X.iload_n C dX3_tablesOver_35 rfl 1 rfl ?_
      cases h
      exact X.iret C dX3_tablesOver_36 (Nat.zero_le _) (Nat.zero_le _)
    refine X.aload_n C dX3_tablesOver_15 rfl 0 rfl ?_
    refine X.iload_n C dX3_tablesOver_16 rfl 2 rfl ?_
    refine X.callVi (q0 := 0) (As := [vi lx2]) (rest := []) (g := fun rr_1 => rr_1) (W1 := fun rr_1 => (W_S G qs qp qa P A)) (ws2 := fun rr_1 => (W_S G qs qp qa P A)) C h dX3_tablesOver_17 ml_X3_97 mX3_isOver (fun v hv => kX3_isOver qs qp qa P A lx2 v hv) (fun rr_1 => ln_S_S_s_p_a_n (G := G) (qs := qs) (qp := qp) (qa := qa) (P := P) (A := A)) rfl rfl rfl rfl rfl rfl rfl rfl (fun rr_1 h => ?_)
    refine X.if_eq (tgt := 29) C h dX3_tablesOver_20 (by decide) (fun h => ?_) (fun h => ?_)
    · refine X.iincN (lv2 := fun lx2_2 => [(2, vi lx2_2), (0, .ref (qs 31)), (1, vi lx1)]) C h dX3_tablesOver_29 2 rfl (by decide) (fun _ => rfl) (fun lx2_2 h => ?_)
      refine X.goto (tgt := 4) C dX3_tablesOver_32 (by decide) ?_
      refine X.sub [1, 2, 0] rfl ?_
      exact ih lx1 lx2_2 h
    refine X.iload_n C dX3_tablesOver_23 rfl 1 rfl ?_
    refine X.iconst C dX3_tablesOver_24 ?_
    refine X.iload_n C dX3_tablesOver_25 rfl 2 rfl ?_
    refine X.ishl C dX3_tablesOver_26 ?_
    refine X.ior C dX3_tablesOver_27 ?_
    refine X.istoreN_n (lv2 := fun lx1_3 => [(1, vi lx1_3), (0, .ref (qs 31)), (2, vi lx2)]) C h dX3_tablesOver_28 rfl (by decide) (fun _ => rfl) (fun lx1_3 h => ?_)
    refine X.iincN (lv2 := fun lx2_4 => [(2, vi lx2_4), (1, vi lx1_3), (0, .ref (qs 31))]) C h dX3_tablesOver_29 2 rfl (by decide) (fun _ => rfl) (fun lx2_4 h => ?_)
    refine X.goto (tgt := 4) C dX3_tablesOver_32 (by decide) ?_
    refine X.sub [2, 1, 0] rfl ?_
    exact ih lx1_3 lx2_4 h
set_option maxHeartbeats 4000000 in
set_option maxRecDepth 100000 in
theorem kX3_tablesOver {l : Launch} {G : GT} (qs : Nat → Nat) (qp : Nat → Nat) (qa : Nat → Nat) (P : Ob) (A : Ob) (v : (Int)) (h : fX3_tablesOver P A = some v) : CT l G yX3_tablesOver cX3_tablesOver 3 (some .int) rX3_tablesOver [.ref (qs 31)] (W_S G qs qp qa P A) (W_S G qs qp qa P A) (some (vi v)) := by
  unfold fX3_tablesOver at h
  refine CT.of (by decide) (Nat.le_of_ble_eq_true rfl) rfl (fun κ _ C => ?_)
  refine X.iconst C dX3_tablesOver_0 ?_
  refine X.istore_n (lv2 := [(1, vi 0), (0, .ref (qs 31))]) C dX3_tablesOver_1 rfl (by decide) rfl ?_
  refine X.iconst C dX3_tablesOver_2 ?_
  refine X.istore_n (lv2 := [(2, vi 0), (1, vi 0), (0, .ref (qs 31))]) C dX3_tablesOver_3 rfl (by decide) rfl ?_
  refine X.sub [2, 1, 0] rfl ?_
  refine xX3_tablesOver_4 C qs qp qa P A v FU 0 0 h
def rX3_roadWet : Room := { frames := 1, cells := 0, slots := 0, locals := 22 }
theorem mX3_roadWet : MV yX3_roadWet cX3_roadWet 3 (some .int) 0 := ⟨cd_X3_roadWet, in_X3, ⟨⟨by decide, by decide⟩, by decide +kernel⟩, im_X3_roadWet, se_X3_roadWet⟩
set_option maxHeartbeats 4000000 in
set_option maxRecDepth 100000 in
theorem xX3_roadWet_17 {κ : Kx} {G : GT} (C : Cx κ G yX3_roadWet cX3_roadWet (some .int) 3 rX3_roadWet) (qs : Nat → Nat) (qp : Nat → Nat) (qa : Nat → Nat) (P : Ob) (A : Ob) (v : (Int)) : ∀ (n : Nat) (lx1 : Int) (lx2 : Int), lX3_roadWet_17 P A n lx1 lx2 = some v → X κ G 3 (W_S G qs qp qa P A) 17 [(0, .ref (qs 31)), (1, vi lx1), (2, vi lx2)] [] 0 0 (QM κ G (W_S G qs qp qa P A) (some (vi v)) rX3_roadWet.cells rX3_roadWet.slots) := by
  intro n
  induction n with
  | zero => intro _ _ h; exact absurd h (fun h => nomatch h)
  | succ n ih =>
    intro lx1 lx2 h
    rw [lX3_roadWet_17] at h
    refine X.iload_n C dX3_roadWet_17 rfl 2 rfl ?_
    refine X.aload_n C dX3_roadWet_18 rfl 0 rfl ?_
    refine X.get C dX3_roadWet_19 lay_X3 0 rfl rfl 0 (by decide) fl_X3_12 rfl rfl ?_
    refine X.get C dX3_roadWet_22 lay_X1 1 rfl rfl 1 (by decide) fl_X3_104 rfl rfl ?_
    refine X.icmp_ge (tgt := 52) C h dX3_roadWet_25 (by decide) (fun h => ?_) (fun h => ?_)
    · refine X.iload_n C dX3_roadWet_52 rfl 1 rfl ?_
      cases h
      exact X.iret C dX3_roadWet_53 (Nat.zero_le _) (Nat.zero_le _)
    refine X.iload_n C dX3_roadWet_28 rfl 1 rfl ?_
    refine X.aload_n C dX3_roadWet_29 rfl 0 rfl ?_
    refine X.get C dX3_roadWet_30 lay_X3 0 rfl rfl 1 (by decide) fl_X3_21 rfl rfl ?_
    refine X.iload_n C dX3_roadWet_33 rfl 2 rfl ?_
    refine X.aload_n C dX3_roadWet_34 rfl 0 rfl ?_
    refine X.get C dX3_roadWet_35 lay_X3 0 rfl rfl 0 (by decide) fl_X3_12 rfl rfl ?_
    refine X.get C dX3_roadWet_38 lay_X1 1 rfl rfl 7 (by decide) fl_X3_101 rfl rfl ?_
    refine X.callVi (q0 := 8) (As := [vi lx2, vi (P 7 0)]) (rest := [vi lx1]) (g := fun rr_1 => rr_1) (W1 := fun rr_1 => (W_A G qa A)) (ws2 := fun rr_1 => (W_S G qs qp qa P A)) C h dX3_roadWet_41 ml_X3_84 mX0_wetAt (fun v hv => kX0_wetAt qa A lx2 (P 7 0) v hv) (fun rr_1 => ln_S_A_a_n (G := G) (qs := qs) (qp := qp) (qa := qa) (P := P) (A := A)) rfl rfl rfl rfl rfl rfl rfl rfl (fun rr_1 h => ?_)
    refine X.iadd C dX3_roadWet_44 ?_
    refine X.istoreN_n (lv2 := fun lx1_2 => [(1, vi lx1_2), (0, .ref (qs 31)), (2, vi lx2)]) C h dX3_roadWet_45 rfl (by decide) (fun _ => rfl) (fun lx1_2 h => ?_)
    refine X.iincN (lv2 := fun lx2_3 => [(2, vi lx2_3), (1, vi lx1_2), (0, .ref (qs 31))]) C h dX3_roadWet_46 2 rfl (by decide) (fun _ => rfl) (fun lx2_3 h => ?_)
    refine X.goto (tgt := 17) C dX3_roadWet_49 (by decide) ?_
    refine X.sub [2, 1, 0] rfl ?_
    exact ih lx1_2 lx2_3 h
set_option maxHeartbeats 4000000 in
set_option maxRecDepth 100000 in
theorem kX3_roadWet {l : Launch} {G : GT} (qs : Nat → Nat) (qp : Nat → Nat) (qa : Nat → Nat) (P : Ob) (A : Ob) (v : (Int)) (h : fX3_roadWet P A = some v) : CT l G yX3_roadWet cX3_roadWet 3 (some .int) rX3_roadWet [.ref (qs 31)] (W_S G qs qp qa P A) (W_S G qs qp qa P A) (some (vi v)) := by
  unfold fX3_roadWet at h
  refine CT.of (by decide) (Nat.le_of_ble_eq_true rfl) rfl (fun κ _ C => ?_)
  refine X.aload_n C dX3_roadWet_0 rfl 0 rfl ?_
  refine X.get C dX3_roadWet_1 lay_X3 0 rfl rfl 0 (by decide) fl_X3_12 rfl rfl ?_
  refine X.get C dX3_roadWet_4 lay_X1 1 rfl rfl 7 (by decide) fl_X3_101 rfl rfl ?_
  refine X.iconst C dX3_roadWet_7 ?_
  refine X.icmp_ne (tgt := 13) C h dX3_roadWet_8 (by decide) (fun h => ?_) (fun h => ?_)
  · refine X.iconst C dX3_roadWet_13 ?_
    refine X.istore_n (lv2 := [(1, vi 0), (0, .ref (qs 31))]) C dX3_roadWet_14 rfl (by decide) rfl ?_
    refine X.iconst C dX3_roadWet_15 ?_
    refine X.istore_n (lv2 := [(2, vi 0), (1, vi 0), (0, .ref (qs 31))]) C dX3_roadWet_16 rfl (by decide) rfl ?_
    refine X.sub [2, 1, 0] rfl ?_
    refine xX3_roadWet_17 C qs qp qa P A v FU 0 0 h
  refine X.iconst C dX3_roadWet_11 ?_
  cases h
  exact X.iret C dX3_roadWet_12 (Nat.zero_le _) (Nat.zero_le _)
def rX3_placeBy : Room := { frames := 2, cells := 0, slots := 0, locals := 50 }
theorem mX3_placeBy : MV yX3_placeBy cX3_placeBy 6 (some .int) 3 := ⟨cd_X3_placeBy, in_X3, ⟨⟨by decide, by decide⟩, by decide +kernel⟩, im_X3_placeBy, se_X3_placeBy⟩
set_option maxHeartbeats 4000000 in
set_option maxRecDepth 100000 in
theorem kX3_placeBy {l : Launch} {G : GT} (qs : Nat → Nat) (qp : Nat → Nat) (qa : Nat → Nat) (P : Ob) (A : Ob) (lx1 : Int) (lx2 : Int) (lx3 : Int) (v : (Int)) (h : fX3_placeBy P A lx1 lx2 lx3 = some v) : CT l G yX3_placeBy cX3_placeBy 6 (some .int) rX3_placeBy [.ref (qs 31), vi lx1, vi lx2, vi lx3] (W_S G qs qp qa P A) (W_S G qs qp qa P A) (some (vi v)) := by
  unfold fX3_placeBy at h
  refine CT.of (by decide) (Nat.le_of_ble_eq_true rfl) rfl (fun κ _ C => ?_)
  refine X.aload_n C dX3_placeBy_0 rfl 0 rfl ?_
  refine X.get C dX3_placeBy_1 lay_X3 0 rfl rfl 1 (by decide) fl_X3_21 rfl rfl ?_
  refine X.iload_n C dX3_placeBy_4 rfl 1 rfl ?_
  refine X.callVi (q0 := 8) (As := [vi lx1]) (rest := []) (g := fun rr_1 => rr_1) (W1 := fun rr_1 => (W_A G qa A)) (ws2 := fun rr_1 => (W_S G qs qp qa P A)) C h dX3_placeBy_5 ml_X3_120 mX0_beatsLeft (fun v hv => kX0_beatsLeft qa A lx1 v hv) (fun rr_1 => ln_S_A_a_n (G := G) (qs := qs) (qp := qp) (qa := qa) (P := P) (A := A)) rfl rfl rfl rfl rfl rfl rfl rfl (fun rr_1 h => ?_)
  refine X.iload_n C dX3_placeBy_8 rfl 3 rfl ?_
  refine X.bipush C dX3_placeBy_9 (by decide) ?_
  refine X.irem C (by decide) dX3_placeBy_11 ?_
  refine X.imul C dX3_placeBy_12 ?_
  refine X.istoreN (lv2 := fun lx4_2 => [(4, vi lx4_2), (0, .ref (qs 31)), (1, vi lx1), (2, vi lx2), (3, vi lx3)]) C h dX3_placeBy_13 (by decide) (fun _ => rfl) (fun lx4_2 h => ?_)
  refine X.iload_n C dX3_placeBy_15 rfl 4 rfl ?_
  refine X.bipush C dX3_placeBy_16 (by decide) ?_
  refine X.idiv C (by decide) dX3_placeBy_18 ?_
  refine X.istoreN (lv2 := fun lx5_3 => [(5, vi lx5_3), (4, vi lx4_2), (0, .ref (qs 31)), (1, vi lx1), (2, vi lx2), (3, vi lx3)]) C h dX3_placeBy_19 (by decide) (fun _ => rfl) (fun lx5_3 h => ?_)
  refine X.aload_n C dX3_placeBy_21 rfl 2 rfl ?_
  refine X.get C dX3_placeBy_22 lay_X3 0 rfl rfl 1 (by decide) fl_X3_21 rfl rfl ?_
  refine X.aload_n C dX3_placeBy_25 rfl 2 rfl ?_
  refine X.get C dX3_placeBy_26 lay_X3 0 rfl rfl 0 (by decide) fl_X3_12 rfl rfl ?_
  refine X.iload_n C dX3_placeBy_29 rfl 3 rfl ?_
  refine X.iload_n C dX3_placeBy_30 rfl 4 rfl ?_
  refine X.iload C dX3_placeBy_31 1 rfl ?_
  refine X.getsNX C dX3_placeBy_33 fn_X3_128 ?_
  refine X.iload C dX3_placeBy_36 0 rfl ?_
  refine X.aldX C h dX3_placeBy_38 (fun h => ?_)
  refine X.imul C dX3_placeBy_39 ?_
  refine X.iload C dX3_placeBy_40 1 rfl ?_
  refine X.getsNY C dX3_placeBy_42 fn_X3_131 ?_
  refine X.iload C dX3_placeBy_45 0 rfl ?_
  refine X.aldY C h dX3_placeBy_47 (fun h => ?_)
  refine X.imul C dX3_placeBy_48 ?_
  refine X.callVi (q0 := 8) (As := [.ref (qp 31), vi lx1, vi lx2, vi (lx4_2 * (wayX (ix lx5_3))), vi (lx4_2 * (wayY (ix lx5_3)))]) (rest := []) (g := fun rr_4 => rr_4) (W1 := fun rr_4 => (W_AP G qa qp A P)) (ws2 := fun rr_4 => (W_S G qs qp qa P A)) C h dX3_placeBy_49 ml_X3_134 mX0_placeIn (fun v hv => kX0_placeIn qa qp A P lx1 lx2 (lx4_2 * (wayX (ix lx5_3))) (lx4_2 * (wayY (ix lx5_3))) v hv) (fun rr_4 => ln_S_AP_a_p_n (G := G) (qs := qs) (qp := qp) (qa := qa) (P := P) (A := A)) rfl rfl rfl rfl rfl rfl rfl rfl (fun rr_4 h => ?_)
  cases h
  exact X.iret C dX3_placeBy_52 (Nat.zero_le _) (Nat.zero_le _)
def rX3_dropsComing : Room := { frames := 3, cells := 0, slots := 0, locals := 75 }
theorem mX3_dropsComing : MV yX3_dropsComing cX3_dropsComing 7 (some .int) 2 := ⟨cd_X3_dropsComing, in_X3, ⟨⟨by decide, by decide⟩, by decide +kernel⟩, im_X3_dropsComing, se_X3_dropsComing⟩
set_option maxHeartbeats 4000000 in
set_option maxRecDepth 100000 in
theorem xX3_dropsComing_25 {κ : Kx} {G : GT} (C : Cx κ G yX3_dropsComing cX3_dropsComing (some .int) 7 rX3_dropsComing) (qs : Nat → Nat) (qp : Nat → Nat) (qa : Nat → Nat) (P : Ob) (A : Ob) (lx2 : Int) (lx3 : Int) (lx5 : Int) (kx0 : Int → Option (Int)) (v : (Int)) (hk0 : ∀ (lx4 : Int), kx0 lx4 = some v → X κ G 7 (W_S G qs qp qa P A) 84 [(0, .ref (qs 31)), (2, vi lx2), (3, vi lx3), (4, vi lx4), (5, vi lx5)] [] 0 0 (QM κ G (W_S G qs qp qa P A) (some (vi v)) rX3_dropsComing.cells rX3_dropsComing.slots)) : ∀ (n : Nat) (lx4 : Int) (lx6 : Int), lX3_dropsComing_25 P A lx2 lx3 lx5 kx0 n lx4 lx6 = some v → X κ G 7 (W_S G qs qp qa P A) 25 [(0, .ref (qs 31)), (2, vi lx2), (3, vi lx3), (4, vi lx4), (5, vi lx5), (6, vi lx6)] [] 0 0 (QM κ G (W_S G qs qp qa P A) (some (vi v)) rX3_dropsComing.cells rX3_dropsComing.slots) := by
  intro n
  induction n with
  | zero => intro _ _ h; exact absurd h (fun h => nomatch h)
  | succ n ih =>
    intro lx4 lx6 h
    rw [lX3_dropsComing_25] at h
    refine X.iload C dX3_dropsComing_25 5 rfl ?_
    refine X.aload_n C dX3_dropsComing_27 rfl 0 rfl ?_
    refine X.get C dX3_dropsComing_28 lay_X3 0 rfl rfl 0 (by decide) fl_X3_12 rfl rfl ?_
    refine X.get C dX3_dropsComing_31 lay_X1 1 rfl rfl 11 (by decide) fl_X3_110 rfl rfl ?_
    refine X.icmp_ge (tgt := 84) C h dX3_dropsComing_34 (by decide) (fun h => ?_) (fun h => ?_)
    · refine X.sub [0, 1, 2, 3, 4] rfl ?_
      exact hk0 lx4 h
    refine X.aload_n C dX3_dropsComing_37 rfl 0 rfl ?_
    refine X.get C dX3_dropsComing_38 lay_X3 0 rfl rfl 1 (by decide) fl_X3_21 rfl rfl ?_
    refine X.get C dX3_dropsComing_41 lay_X0 8 rfl rfl 9 (by decide) fl_X3_46 rfl rfl ?_
    refine X.iload C dX3_dropsComing_44 4 rfl ?_
    refine X.iald C h dX3_dropsComing_46 10 rfl (fun h => ?_)
    refine X.if_le (tgt := 78) C h dX3_dropsComing_47 (by decide) (fun h => ?_) (fun h => ?_)
    · refine X.iincN (lv2 := fun lx6_2 => [(6, vi lx6_2), (0, .ref (qs 31)), (2, vi lx2), (3, vi lx3), (4, vi lx4), (5, vi lx5)]) C h dX3_dropsComing_78 5 rfl (by decide) (fun _ => rfl) (fun lx6_2 h => ?_)
      refine X.goto (tgt := 25) C dX3_dropsComing_81 (by decide) ?_
      refine X.sub [1, 2, 3, 4, 5, 0] rfl ?_
      exact ih lx4 lx6_2 h
    refine X.aload_n C dX3_dropsComing_50 rfl 0 rfl ?_
    refine X.iload C dX3_dropsComing_51 4 rfl ?_
    refine X.iload C dX3_dropsComing_53 5 rfl ?_
    refine X.iload_n C dX3_dropsComing_55 rfl 1 rfl ?_
    refine X.callVi (q0 := 0) (As := [vi lx5, vi lx6, vi lx2]) (rest := []) (g := fun rr_3 => rr_3) (W1 := fun rr_3 => (W_S G qs qp qa P A)) (ws2 := fun rr_3 => (W_S G qs qp qa P A)) C h dX3_dropsComing_56 ml_X3_113 mX3_placeBy (fun v hv => kX3_placeBy qs qp qa P A lx5 lx6 lx2 v hv) (fun rr_3 => ln_S_S_s_p_a_n (G := G) (qs := qs) (qp := qp) (qa := qa) (P := P) (A := A)) rfl rfl rfl rfl rfl rfl rfl rfl (fun rr_3 h => ?_)
    refine X.iload_n C dX3_dropsComing_59 rfl 2 rfl ?_
    refine X.icmp_ne (tgt := 78) C h dX3_dropsComing_60 (by decide) (fun h => ?_) (fun h => ?_)
    · refine X.iincN (lv2 := fun lx6_4 => [(6, vi lx6_4), (0, .ref (qs 31)), (2, vi lx2), (3, vi lx3), (4, vi lx4), (5, vi lx5)]) C h dX3_dropsComing_78 5 rfl (by decide) (fun _ => rfl) (fun lx6_4 h => ?_)
      refine X.goto (tgt := 25) C dX3_dropsComing_81 (by decide) ?_
      refine X.sub [1, 2, 3, 4, 5, 0] rfl ?_
      exact ih lx4 lx6_4 h
    refine X.iload C dX3_dropsComing_63 3 rfl ?_
    refine X.aload_n C dX3_dropsComing_65 rfl 0 rfl ?_
    refine X.get C dX3_dropsComing_66 lay_X3 0 rfl rfl 0 (by decide) fl_X3_12 rfl rfl ?_
    refine X.get C dX3_dropsComing_69 lay_X1 1 rfl rfl 13 (by decide) fl_X3_117 rfl rfl ?_
    refine X.iload C dX3_dropsComing_72 5 rfl ?_
    refine X.iald C h dX3_dropsComing_74 3 rfl (fun h => ?_)
    refine X.iadd C dX3_dropsComing_75 ?_
    refine X.istoreN (lv2 := fun lx4_5 => [(4, vi lx4_5), (0, .ref (qs 31)), (2, vi lx2), (3, vi lx3), (5, vi lx5), (6, vi lx6)]) C h dX3_dropsComing_76 (by decide) (fun _ => rfl) (fun lx4_5 h => ?_)
    refine X.iincN (lv2 := fun lx6_6 => [(6, vi lx6_6), (4, vi lx4_5), (0, .ref (qs 31)), (2, vi lx2), (3, vi lx3), (5, vi lx5)]) C h dX3_dropsComing_78 5 rfl (by decide) (fun _ => rfl) (fun lx6_6 h => ?_)
    refine X.goto (tgt := 25) C dX3_dropsComing_81 (by decide) ?_
    refine X.sub [2, 3, 4, 1, 5, 0] rfl ?_
    exact ih lx4_5 lx6_6 h
set_option maxHeartbeats 4000000 in
set_option maxRecDepth 100000 in
theorem xX3_dropsComing_15 {κ : Kx} {G : GT} (C : Cx κ G yX3_dropsComing cX3_dropsComing (some .int) 7 rX3_dropsComing) (qs : Nat → Nat) (qp : Nat → Nat) (qa : Nat → Nat) (P : Ob) (A : Ob) (lx2 : Int) (lx3 : Int) (v : (Int)) : ∀ (n : Nat) (lx4 : Int) (lx5 : Int), lX3_dropsComing_15 P A lx2 lx3 n lx4 lx5 = some v → X κ G 7 (W_S G qs qp qa P A) 15 [(0, .ref (qs 31)), (2, vi lx2), (3, vi lx3), (4, vi lx4), (5, vi lx5)] [] 0 0 (QM κ G (W_S G qs qp qa P A) (some (vi v)) rX3_dropsComing.cells rX3_dropsComing.slots) := by
  intro n
  induction n with
  | zero => intro _ _ h; exact absurd h (fun h => nomatch h)
  | succ n ih =>
    intro lx4 lx5 h
    rw [lX3_dropsComing_15] at h
    refine X.iload C dX3_dropsComing_15 4 rfl ?_
    refine X.bipush C dX3_dropsComing_17 (by decide) ?_
    refine X.icmp_ge (tgt := 90) C h dX3_dropsComing_19 (by decide) (fun h => ?_) (fun h => ?_)
    · refine X.iload C dX3_dropsComing_90 3 rfl ?_
      cases h
      exact X.iret C dX3_dropsComing_92 (Nat.zero_le _) (Nat.zero_le _)
    refine X.iconst C dX3_dropsComing_22 ?_
    refine X.istore (lv2 := [(6, vi 0), (0, .ref (qs 31)), (2, vi lx2), (3, vi lx3), (4, vi lx4), (5, vi lx5)]) C dX3_dropsComing_23 (by decide) rfl ?_
    refine X.sub [1, 2, 3, 4, 5, 0] rfl ?_
    refine xX3_dropsComing_25 C qs qp qa P A lx2 lx3 lx5 _ v (fun lx4_7 h => ?_) FU lx4 0 h
    · refine X.iincN (lv2 := fun lx5_8 => [(5, vi lx5_8), (0, .ref (qs 31)), (2, vi lx2), (3, vi lx3), (4, vi lx4_7)]) C h dX3_dropsComing_84 4 rfl (by decide) (fun _ => rfl) (fun lx5_8 h => ?_)
      refine X.goto (tgt := 15) C dX3_dropsComing_87 (by decide) ?_
      refine X.sub [1, 2, 3, 4, 0] rfl ?_
      exact ih lx4_7 lx5_8 h
set_option maxHeartbeats 4000000 in
set_option maxRecDepth 100000 in
theorem kX3_dropsComing {l : Launch} {G : GT} (qs : Nat → Nat) (qp : Nat → Nat) (qa : Nat → Nat) (P : Ob) (A : Ob) (lx1 : Int) (lx2 : Int) (v : (Int)) (h : fX3_dropsComing P A lx1 lx2 = some v) : CT l G yX3_dropsComing cX3_dropsComing 7 (some .int) rX3_dropsComing [.ref (qs 31), vi lx1, vi lx2] (W_S G qs qp qa P A) (W_S G qs qp qa P A) (some (vi v)) := by
  unfold fX3_dropsComing at h
  refine CT.of (by decide) (Nat.le_of_ble_eq_true rfl) rfl (fun κ _ C => ?_)
  refine X.aload_n C dX3_dropsComing_0 rfl 0 rfl ?_
  refine X.get C dX3_dropsComing_1 lay_X3 0 rfl rfl 0 (by decide) fl_X3_12 rfl rfl ?_
  refine X.iload_n C dX3_dropsComing_4 rfl 1 rfl ?_
  refine X.callVi (q0 := 1) (As := [vi lx1]) (rest := []) (g := fun rr_1 => rr_1) (W1 := fun rr_1 => (W_P G qp P)) (ws2 := fun rr_1 => (W_S G qs qp qa P A)) C h dX3_dropsComing_5 ml_X3_107 mX1_tablePlace (fun v hv => kX1_tablePlace qp P lx1 v hv) (fun rr_1 => ln_S_P_p_n (G := G) (qs := qs) (qp := qp) (qa := qa) (P := P) (A := A)) rfl rfl rfl rfl rfl rfl rfl rfl (fun rr_1 h => ?_)
  refine X.istore_n (lv2 := [(3, vi rr_1), (0, .ref (qs 31)), (1, vi lx1), (2, vi lx2)]) C dX3_dropsComing_8 rfl (by decide) rfl ?_
  refine X.iconst C dX3_dropsComing_9 ?_
  refine X.istore (lv2 := [(4, vi 0), (3, vi rr_1), (0, .ref (qs 31)), (1, vi lx1), (2, vi lx2)]) C dX3_dropsComing_10 (by decide) rfl ?_
  refine X.iconst C dX3_dropsComing_12 ?_
  refine X.istore (lv2 := [(5, vi 0), (4, vi 0), (3, vi rr_1), (0, .ref (qs 31)), (1, vi lx1), (2, vi lx2)]) C dX3_dropsComing_13 (by decide) rfl ?_
  refine X.sub [3, 5, 2, 1, 0] rfl ?_
  refine xX3_dropsComing_15 C qs qp qa P A lx2 rr_1 v FU 0 0 h
def rX3_dropsStraying : Room := { frames := 3, cells := 0, slots := 0, locals := 75 }
theorem mX3_dropsStraying : MV yX3_dropsStraying cX3_dropsStraying 5 (some .int) 1 := ⟨cd_X3_dropsStraying, in_X3, ⟨⟨by decide, by decide⟩, by decide +kernel⟩, im_X3_dropsStraying, se_X3_dropsStraying⟩
set_option maxHeartbeats 4000000 in
set_option maxRecDepth 100000 in
theorem xX3_dropsStraying_13 {κ : Kx} {G : GT} (C : Cx κ G yX3_dropsStraying cX3_dropsStraying (some .int) 5 rX3_dropsStraying) (qs : Nat → Nat) (qp : Nat → Nat) (qa : Nat → Nat) (P : Ob) (A : Ob) (lx1 : Int) (lx3 : Int) (kx0 : Int → Option (Int)) (v : (Int)) (hk0 : ∀ (lx2 : Int), kx0 lx2 = some v → X κ G 5 (W_S G qs qp qa P A) 69 [(0, .ref (qs 31)), (1, vi lx1), (2, vi lx2), (3, vi lx3)] [] 0 0 (QM κ G (W_S G qs qp qa P A) (some (vi v)) rX3_dropsStraying.cells rX3_dropsStraying.slots)) : ∀ (n : Nat) (lx2 : Int) (lx4 : Int), lX3_dropsStraying_13 P A lx1 lx3 kx0 n lx2 lx4 = some v → X κ G 5 (W_S G qs qp qa P A) 13 [(0, .ref (qs 31)), (1, vi lx1), (2, vi lx2), (3, vi lx3), (4, vi lx4)] [] 0 0 (QM κ G (W_S G qs qp qa P A) (some (vi v)) rX3_dropsStraying.cells rX3_dropsStraying.slots) := by
  intro n
  induction n with
  | zero => intro _ _ h; exact absurd h (fun h => nomatch h)
  | succ n ih =>
    intro lx2 lx4 h
    rw [lX3_dropsStraying_13] at h
    refine X.iload C dX3_dropsStraying_13 4 rfl ?_
    refine X.aload_n C dX3_dropsStraying_15 rfl 0 rfl ?_
    refine X.get C dX3_dropsStraying_16 lay_X3 0 rfl rfl 0 (by decide) fl_X3_12 rfl rfl ?_
    refine X.get C dX3_dropsStraying_19 lay_X1 1 rfl rfl 11 (by decide) fl_X3_110 rfl rfl ?_
    refine X.icmp_ge (tgt := 69) C h dX3_dropsStraying_22 (by decide) (fun h => ?_) (fun h => ?_)
    · refine X.sub [0, 1, 2, 3] rfl ?_
      exact hk0 lx2 h
    refine X.aload_n C dX3_dropsStraying_25 rfl 0 rfl ?_
    refine X.get C dX3_dropsStraying_26 lay_X3 0 rfl rfl 1 (by decide) fl_X3_21 rfl rfl ?_
    refine X.get C dX3_dropsStraying_29 lay_X0 8 rfl rfl 9 (by decide) fl_X3_46 rfl rfl ?_
    refine X.iload_n C dX3_dropsStraying_32 rfl 3 rfl ?_
    refine X.iald C h dX3_dropsStraying_33 10 rfl (fun h => ?_)
    refine X.if_le (tgt := 63) C h dX3_dropsStraying_34 (by decide) (fun h => ?_) (fun h => ?_)
    · refine X.iincN (lv2 := fun lx4_1 => [(4, vi lx4_1), (0, .ref (qs 31)), (1, vi lx1), (2, vi lx2), (3, vi lx3)]) C h dX3_dropsStraying_63 4 rfl (by decide) (fun _ => rfl) (fun lx4_1 h => ?_)
      refine X.goto (tgt := 13) C dX3_dropsStraying_66 (by decide) ?_
      refine X.sub [1, 2, 3, 4, 0] rfl ?_
      exact ih lx2 lx4_1 h
    refine X.aload_n C dX3_dropsStraying_37 rfl 0 rfl ?_
    refine X.iload_n C dX3_dropsStraying_38 rfl 3 rfl ?_
    refine X.iload C dX3_dropsStraying_39 4 rfl ?_
    refine X.iload_n C dX3_dropsStraying_41 rfl 1 rfl ?_
    refine X.callVi (q0 := 0) (As := [vi lx3, vi lx4, vi lx1]) (rest := []) (g := fun rr_2 => rr_2) (W1 := fun rr_2 => (W_S G qs qp qa P A)) (ws2 := fun rr_2 => (W_S G qs qp qa P A)) C h dX3_dropsStraying_42 ml_X3_113 mX3_placeBy (fun v hv => kX3_placeBy qs qp qa P A lx3 lx4 lx1 v hv) (fun rr_2 => ln_S_S_s_p_a_n (G := G) (qs := qs) (qp := qp) (qa := qa) (P := P) (A := A)) rfl rfl rfl rfl rfl rfl rfl rfl (fun rr_2 h => ?_)
    refine X.bipush C dX3_dropsStraying_45 (by decide) ?_
    refine X.icmp_eq (tgt := 63) C h dX3_dropsStraying_47 (by decide) (fun h => ?_) (fun h => ?_)
    · refine X.iincN (lv2 := fun lx4_3 => [(4, vi lx4_3), (0, .ref (qs 31)), (1, vi lx1), (2, vi lx2), (3, vi lx3)]) C h dX3_dropsStraying_63 4 rfl (by decide) (fun _ => rfl) (fun lx4_3 h => ?_)
      refine X.goto (tgt := 13) C dX3_dropsStraying_66 (by decide) ?_
      refine X.sub [1, 2, 3, 4, 0] rfl ?_
      exact ih lx2 lx4_3 h
    refine X.iload_n C dX3_dropsStraying_50 rfl 2 rfl ?_
    refine X.aload_n C dX3_dropsStraying_51 rfl 0 rfl ?_
    refine X.get C dX3_dropsStraying_52 lay_X3 0 rfl rfl 0 (by decide) fl_X3_12 rfl rfl ?_
    refine X.get C dX3_dropsStraying_55 lay_X1 1 rfl rfl 13 (by decide) fl_X3_117 rfl rfl ?_
    refine X.iload C dX3_dropsStraying_58 4 rfl ?_
    refine X.iald C h dX3_dropsStraying_60 3 rfl (fun h => ?_)
    refine X.iadd C dX3_dropsStraying_61 ?_
    refine X.istoreN_n (lv2 := fun lx2_4 => [(2, vi lx2_4), (0, .ref (qs 31)), (1, vi lx1), (3, vi lx3), (4, vi lx4)]) C h dX3_dropsStraying_62 rfl (by decide) (fun _ => rfl) (fun lx2_4 h => ?_)
    refine X.iincN (lv2 := fun lx4_5 => [(4, vi lx4_5), (2, vi lx2_4), (0, .ref (qs 31)), (1, vi lx1), (3, vi lx3)]) C h dX3_dropsStraying_63 4 rfl (by decide) (fun _ => rfl) (fun lx4_5 h => ?_)
    refine X.goto (tgt := 13) C dX3_dropsStraying_66 (by decide) ?_
    refine X.sub [2, 3, 1, 4, 0] rfl ?_
    exact ih lx2_4 lx4_5 h
set_option maxHeartbeats 4000000 in
set_option maxRecDepth 100000 in
theorem xX3_dropsStraying_4 {κ : Kx} {G : GT} (C : Cx κ G yX3_dropsStraying cX3_dropsStraying (some .int) 5 rX3_dropsStraying) (qs : Nat → Nat) (qp : Nat → Nat) (qa : Nat → Nat) (P : Ob) (A : Ob) (lx1 : Int) (v : (Int)) : ∀ (n : Nat) (lx2 : Int) (lx3 : Int), lX3_dropsStraying_4 P A lx1 n lx2 lx3 = some v → X κ G 5 (W_S G qs qp qa P A) 4 [(0, .ref (qs 31)), (1, vi lx1), (2, vi lx2), (3, vi lx3)] [] 0 0 (QM κ G (W_S G qs qp qa P A) (some (vi v)) rX3_dropsStraying.cells rX3_dropsStraying.slots) := by
  intro n
  induction n with
  | zero => intro _ _ h; exact absurd h (fun h => nomatch h)
  | succ n ih =>
    intro lx2 lx3 h
    rw [lX3_dropsStraying_4] at h
    refine X.iload_n C dX3_dropsStraying_4 rfl 3 rfl ?_
    refine X.bipush C dX3_dropsStraying_5 (by decide) ?_
    refine X.icmp_ge (tgt := 75) C h dX3_dropsStraying_7 (by decide) (fun h => ?_) (fun h => ?_)
    · refine X.iload_n C dX3_dropsStraying_75 rfl 2 rfl ?_
      cases h
      exact X.iret C dX3_dropsStraying_76 (Nat.zero_le _) (Nat.zero_le _)
    refine X.iconst C dX3_dropsStraying_10 ?_
    refine X.istore (lv2 := [(4, vi 0), (0, .ref (qs 31)), (1, vi lx1), (2, vi lx2), (3, vi lx3)]) C dX3_dropsStraying_11 (by decide) rfl ?_
    refine X.sub [1, 2, 3, 4, 0] rfl ?_
    refine xX3_dropsStraying_13 C qs qp qa P A lx1 lx3 _ v (fun lx2_6 h => ?_) FU lx2 0 h
    · refine X.iincN (lv2 := fun lx3_7 => [(3, vi lx3_7), (0, .ref (qs 31)), (1, vi lx1), (2, vi lx2_6)]) C h dX3_dropsStraying_69 3 rfl (by decide) (fun _ => rfl) (fun lx3_7 h => ?_)
      refine X.goto (tgt := 4) C dX3_dropsStraying_72 (by decide) ?_
      refine X.sub [1, 2, 3, 0] rfl ?_
      exact ih lx2_6 lx3_7 h
set_option maxHeartbeats 4000000 in
set_option maxRecDepth 100000 in
theorem kX3_dropsStraying {l : Launch} {G : GT} (qs : Nat → Nat) (qp : Nat → Nat) (qa : Nat → Nat) (P : Ob) (A : Ob) (lx1 : Int) (v : (Int)) (h : fX3_dropsStraying P A lx1 = some v) : CT l G yX3_dropsStraying cX3_dropsStraying 5 (some .int) rX3_dropsStraying [.ref (qs 31), vi lx1] (W_S G qs qp qa P A) (W_S G qs qp qa P A) (some (vi v)) := by
  unfold fX3_dropsStraying at h
  refine CT.of (by decide) (Nat.le_of_ble_eq_true rfl) rfl (fun κ _ C => ?_)
  refine X.iconst C dX3_dropsStraying_0 ?_
  refine X.istore_n (lv2 := [(2, vi 0), (0, .ref (qs 31)), (1, vi lx1)]) C dX3_dropsStraying_1 rfl (by decide) rfl ?_
  refine X.iconst C dX3_dropsStraying_2 ?_
  refine X.istore_n (lv2 := [(3, vi 0), (2, vi 0), (0, .ref (qs 31)), (1, vi lx1)]) C dX3_dropsStraying_3 rfl (by decide) rfl ?_
  refine X.sub [2, 3, 1, 0] rfl ?_
  refine xX3_dropsStraying_4 C qs qp qa P A lx1 v FU 0 0 h
def rX3_lastComing : Room := { frames := 3, cells := 0, slots := 0, locals := 75 }
theorem mX3_lastComing : MV yX3_lastComing cX3_lastComing 7 (some .int) 2 := ⟨cd_X3_lastComing, in_X3, ⟨⟨by decide, by decide⟩, by decide +kernel⟩, im_X3_lastComing, se_X3_lastComing⟩
set_option maxHeartbeats 4000000 in
set_option maxRecDepth 100000 in
theorem xX3_lastComing_25 {κ : Kx} {G : GT} (C : Cx κ G yX3_lastComing cX3_lastComing (some .int) 7 rX3_lastComing) (qs : Nat → Nat) (qp : Nat → Nat) (qa : Nat → Nat) (P : Ob) (A : Ob) (lx2 : Int) (lx3 : Int) (lx5 : Int) (kx0 : Int → Option (Int)) (v : (Int)) (hk0 : ∀ (lx4 : Int), kx0 lx4 = some v → X κ G 7 (W_S G qs qp qa P A) 85 [(0, .ref (qs 31)), (2, vi lx2), (3, vi lx3), (4, vi lx4), (5, vi lx5)] [] 0 0 (QM κ G (W_S G qs qp qa P A) (some (vi v)) rX3_lastComing.cells rX3_lastComing.slots)) : ∀ (n : Nat) (lx4 : Int) (lx6 : Int), lX3_lastComing_25 P A lx2 lx3 lx5 kx0 n lx4 lx6 = some v → X κ G 7 (W_S G qs qp qa P A) 25 [(0, .ref (qs 31)), (2, vi lx2), (3, vi lx3), (4, vi lx4), (5, vi lx5), (6, vi lx6)] [] 0 0 (QM κ G (W_S G qs qp qa P A) (some (vi v)) rX3_lastComing.cells rX3_lastComing.slots) := by
  intro n
  induction n with
  | zero => intro _ _ h; exact absurd h (fun h => nomatch h)
  | succ n ih =>
    intro lx4 lx6 h
    rw [lX3_lastComing_25] at h
    refine X.iload C dX3_lastComing_25 5 rfl ?_
    refine X.aload_n C dX3_lastComing_27 rfl 0 rfl ?_
    refine X.get C dX3_lastComing_28 lay_X3 0 rfl rfl 0 (by decide) fl_X3_12 rfl rfl ?_
    refine X.get C dX3_lastComing_31 lay_X1 1 rfl rfl 11 (by decide) fl_X3_110 rfl rfl ?_
    refine X.icmp_ge (tgt := 85) C h dX3_lastComing_34 (by decide) (fun h => ?_) (fun h => ?_)
    · refine X.sub [0, 1, 2, 3, 4] rfl ?_
      exact hk0 lx4 h
    refine X.aload_n C dX3_lastComing_37 rfl 0 rfl ?_
    refine X.get C dX3_lastComing_38 lay_X3 0 rfl rfl 1 (by decide) fl_X3_21 rfl rfl ?_
    refine X.get C dX3_lastComing_41 lay_X0 8 rfl rfl 9 (by decide) fl_X3_46 rfl rfl ?_
    refine X.iload C dX3_lastComing_44 4 rfl ?_
    refine X.iald C h dX3_lastComing_46 10 rfl (fun h => ?_)
    refine X.if_le (tgt := 79) C h dX3_lastComing_47 (by decide) (fun h => ?_) (fun h => ?_)
    · refine X.iincN (lv2 := fun lx6_2 => [(6, vi lx6_2), (0, .ref (qs 31)), (2, vi lx2), (3, vi lx3), (4, vi lx4), (5, vi lx5)]) C h dX3_lastComing_79 5 rfl (by decide) (fun _ => rfl) (fun lx6_2 h => ?_)
      refine X.goto (tgt := 25) C dX3_lastComing_82 (by decide) ?_
      refine X.sub [1, 2, 3, 4, 5, 0] rfl ?_
      exact ih lx4 lx6_2 h
    refine X.aload_n C dX3_lastComing_50 rfl 0 rfl ?_
    refine X.iload C dX3_lastComing_51 4 rfl ?_
    refine X.iload C dX3_lastComing_53 5 rfl ?_
    refine X.iload_n C dX3_lastComing_55 rfl 1 rfl ?_
    refine X.callVi (q0 := 0) (As := [vi lx5, vi lx6, vi lx2]) (rest := []) (g := fun rr_3 => rr_3) (W1 := fun rr_3 => (W_S G qs qp qa P A)) (ws2 := fun rr_3 => (W_S G qs qp qa P A)) C h dX3_lastComing_56 ml_X3_113 mX3_placeBy (fun v hv => kX3_placeBy qs qp qa P A lx5 lx6 lx2 v hv) (fun rr_3 => ln_S_S_s_p_a_n (G := G) (qs := qs) (qp := qp) (qa := qa) (P := P) (A := A)) rfl rfl rfl rfl rfl rfl rfl rfl (fun rr_3 h => ?_)
    refine X.iload_n C dX3_lastComing_59 rfl 2 rfl ?_
    refine X.icmp_ne (tgt := 79) C h dX3_lastComing_60 (by decide) (fun h => ?_) (fun h => ?_)
    · refine X.iincN (lv2 := fun lx6_4 => [(6, vi lx6_4), (0, .ref (qs 31)), (2, vi lx2), (3, vi lx3), (4, vi lx4), (5, vi lx5)]) C h dX3_lastComing_79 5 rfl (by decide) (fun _ => rfl) (fun lx6_4 h => ?_)
      refine X.goto (tgt := 25) C dX3_lastComing_82 (by decide) ?_
      refine X.sub [1, 2, 3, 4, 5, 0] rfl ?_
      exact ih lx4 lx6_4 h
    refine X.iload C dX3_lastComing_63 3 rfl ?_
    refine X.aload_n C dX3_lastComing_65 rfl 0 rfl ?_
    refine X.get C dX3_lastComing_66 lay_X3 0 rfl rfl 1 (by decide) fl_X3_21 rfl rfl ?_
    refine X.iload C dX3_lastComing_69 4 rfl ?_
    refine X.callVi (q0 := 8) (As := [vi lx5]) (rest := [vi lx4]) (g := fun rr_5 => rr_5) (W1 := fun rr_5 => (W_A G qa A)) (ws2 := fun rr_5 => (W_S G qs qp qa P A)) C h dX3_lastComing_71 ml_X3_120 mX0_beatsLeft (fun v hv => kX0_beatsLeft qa A lx5 v hv) (fun rr_5 => ln_S_A_a_n (G := G) (qs := qs) (qp := qp) (qa := qa) (P := P) (A := A)) rfl rfl rfl rfl rfl rfl rfl rfl (fun rr_5 h => ?_)
    refine X.mmax C dX3_lastComing_74 ml_X3_123 sm_J9_max_7cf53 in_java_lang_Math cd_J9_max_7cf53 (Nat.le_of_ble_eq_true rfl) (Nat.le_of_ble_eq_true rfl) (Nat.zero_le _) (Nat.zero_le _) ?_
    refine X.istoreN (lv2 := fun lx4_6 => [(4, vi lx4_6), (0, .ref (qs 31)), (2, vi lx2), (3, vi lx3), (5, vi lx5), (6, vi lx6)]) C h dX3_lastComing_77 (by decide) (fun _ => rfl) (fun lx4_6 h => ?_)
    refine X.iincN (lv2 := fun lx6_7 => [(6, vi lx6_7), (4, vi lx4_6), (0, .ref (qs 31)), (2, vi lx2), (3, vi lx3), (5, vi lx5)]) C h dX3_lastComing_79 5 rfl (by decide) (fun _ => rfl) (fun lx6_7 h => ?_)
    refine X.goto (tgt := 25) C dX3_lastComing_82 (by decide) ?_
    refine X.sub [2, 3, 4, 1, 5, 0] rfl ?_
    exact ih lx4_6 lx6_7 h
set_option maxHeartbeats 4000000 in
set_option maxRecDepth 100000 in
theorem xX3_lastComing_15 {κ : Kx} {G : GT} (C : Cx κ G yX3_lastComing cX3_lastComing (some .int) 7 rX3_lastComing) (qs : Nat → Nat) (qp : Nat → Nat) (qa : Nat → Nat) (P : Ob) (A : Ob) (lx2 : Int) (lx3 : Int) (v : (Int)) : ∀ (n : Nat) (lx4 : Int) (lx5 : Int), lX3_lastComing_15 P A lx2 lx3 n lx4 lx5 = some v → X κ G 7 (W_S G qs qp qa P A) 15 [(0, .ref (qs 31)), (2, vi lx2), (3, vi lx3), (4, vi lx4), (5, vi lx5)] [] 0 0 (QM κ G (W_S G qs qp qa P A) (some (vi v)) rX3_lastComing.cells rX3_lastComing.slots) := by
  intro n
  induction n with
  | zero => intro _ _ h; exact absurd h (fun h => nomatch h)
  | succ n ih =>
    intro lx4 lx5 h
    rw [lX3_lastComing_15] at h
    refine X.iload C dX3_lastComing_15 4 rfl ?_
    refine X.bipush C dX3_lastComing_17 (by decide) ?_
    refine X.icmp_ge (tgt := 91) C h dX3_lastComing_19 (by decide) (fun h => ?_) (fun h => ?_)
    · refine X.iload C dX3_lastComing_91 3 rfl ?_
      cases h
      exact X.iret C dX3_lastComing_93 (Nat.zero_le _) (Nat.zero_le _)
    refine X.iconst C dX3_lastComing_22 ?_
    refine X.istore (lv2 := [(6, vi 0), (0, .ref (qs 31)), (2, vi lx2), (3, vi lx3), (4, vi lx4), (5, vi lx5)]) C dX3_lastComing_23 (by decide) rfl ?_
    refine X.sub [1, 2, 3, 4, 5, 0] rfl ?_
    refine xX3_lastComing_25 C qs qp qa P A lx2 lx3 lx5 _ v (fun lx4_8 h => ?_) FU lx4 0 h
    · refine X.iincN (lv2 := fun lx5_9 => [(5, vi lx5_9), (0, .ref (qs 31)), (2, vi lx2), (3, vi lx3), (4, vi lx4_8)]) C h dX3_lastComing_85 4 rfl (by decide) (fun _ => rfl) (fun lx5_9 h => ?_)
      refine X.goto (tgt := 15) C dX3_lastComing_88 (by decide) ?_
      refine X.sub [1, 2, 3, 4, 0] rfl ?_
      exact ih lx4_8 lx5_9 h
set_option maxHeartbeats 4000000 in
set_option maxRecDepth 100000 in
theorem kX3_lastComing {l : Launch} {G : GT} (qs : Nat → Nat) (qp : Nat → Nat) (qa : Nat → Nat) (P : Ob) (A : Ob) (lx1 : Int) (lx2 : Int) (v : (Int)) (h : fX3_lastComing P A lx1 lx2 = some v) : CT l G yX3_lastComing cX3_lastComing 7 (some .int) rX3_lastComing [.ref (qs 31), vi lx1, vi lx2] (W_S G qs qp qa P A) (W_S G qs qp qa P A) (some (vi v)) := by
  unfold fX3_lastComing at h
  refine CT.of (by decide) (Nat.le_of_ble_eq_true rfl) rfl (fun κ _ C => ?_)
  refine X.aload_n C dX3_lastComing_0 rfl 0 rfl ?_
  refine X.get C dX3_lastComing_1 lay_X3 0 rfl rfl 0 (by decide) fl_X3_12 rfl rfl ?_
  refine X.iload_n C dX3_lastComing_4 rfl 1 rfl ?_
  refine X.callVi (q0 := 1) (As := [vi lx1]) (rest := []) (g := fun rr_1 => rr_1) (W1 := fun rr_1 => (W_P G qp P)) (ws2 := fun rr_1 => (W_S G qs qp qa P A)) C h dX3_lastComing_5 ml_X3_107 mX1_tablePlace (fun v hv => kX1_tablePlace qp P lx1 v hv) (fun rr_1 => ln_S_P_p_n (G := G) (qs := qs) (qp := qp) (qa := qa) (P := P) (A := A)) rfl rfl rfl rfl rfl rfl rfl rfl (fun rr_1 h => ?_)
  refine X.istore_n (lv2 := [(3, vi rr_1), (0, .ref (qs 31)), (1, vi lx1), (2, vi lx2)]) C dX3_lastComing_8 rfl (by decide) rfl ?_
  refine X.iconst C dX3_lastComing_9 ?_
  refine X.istore (lv2 := [(4, vi 0), (3, vi rr_1), (0, .ref (qs 31)), (1, vi lx1), (2, vi lx2)]) C dX3_lastComing_10 (by decide) rfl ?_
  refine X.iconst C dX3_lastComing_12 ?_
  refine X.istore (lv2 := [(5, vi 0), (4, vi 0), (3, vi rr_1), (0, .ref (qs 31)), (1, vi lx1), (2, vi lx2)]) C dX3_lastComing_13 (by decide) rfl ?_
  refine X.sub [3, 5, 2, 1, 0] rfl ?_
  refine xX3_lastComing_15 C qs qp qa P A lx2 rr_1 v FU 0 0 h
def rX4_append : Room := { frames := 0, cells := 0, slots := 0, locals := 0 }
theorem mX4_append : MV yX4_append cX4_append 3 none 1 := ⟨cd_X4_append, in_X4, ⟨⟨by decide, by decide⟩, by decide +kernel⟩, im_X4_append, se_X4_append⟩
set_option maxHeartbeats 4000000 in
set_option maxRecDepth 100000 in
theorem xX4_append_3 {κ : Kx} {G : GT} (C : Cx κ G yX4_append cX4_append none 3 rX4_append) (q : Nat → Nat) (lx1 : Int) (v : (Ob)) : ∀ (n : Nat) (lx2 : Int) (Y : Ob), lX4_append_3 lx1 n lx2 Y = some v → X κ G 3 (W_Y G q Y) 3 [(0, .ref (q 31)), (1, vi lx1), (2, vi lx2)] [] 0 0 (QM κ G (W_Y G q v) none rX4_append.cells rX4_append.slots) := by
  intro n
  induction n with
  | zero => intro _ _ h; exact absurd h (fun h => nomatch h)
  | succ n ih =>
    intro lx2 Y h
    rw [lX4_append_3] at h
    refine X.iload_n C dX4_append_3 rfl 2 rfl ?_
    refine X.if_lt (tgt := 46) C h dX4_append_4 (by decide) (fun h => ?_) (fun h => ?_)
    · cases h
      exact X.vret C dX4_append_46 (Nat.zero_le _) (Nat.zero_le _)
    refine X.aload_n C dX4_append_7 rfl 0 rfl ?_
    refine X.get C dX4_append_8 lay_X4 0 rfl rfl 1 (by decide) fl_X4_15 rfl rfl ?_
    refine X.sipush C dX4_append_11 (by decide) ?_
    refine X.icmp_ge (tgt := 46) C h dX4_append_14 (by decide) (fun h => ?_) (fun h => ?_)
    · cases h
      exact X.vret C dX4_append_46 (Nat.zero_le _) (Nat.zero_le _)
    refine X.aload_n C dX4_append_17 rfl 0 rfl ?_
    refine X.get C dX4_append_18 lay_X4 0 rfl rfl 0 (by decide) fl_X4_9 rfl rfl ?_
    refine X.aload_n C dX4_append_21 rfl 0 rfl ?_
    refine X.get C dX4_append_22 lay_X4 0 rfl rfl 1 (by decide) fl_X4_15 rfl rfl ?_
    refine X.iload_n C dX4_append_25 rfl 1 rfl ?_
    refine X.iload_n C dX4_append_26 rfl 2 rfl ?_
    refine X.ishr C dX4_append_27 ?_
    refine X.i2b C dX4_append_28 ?_
    refine X.bast (ws2 := (W_Y G q (up2 Y 0 (ix (Y 1 0)) (jnb (jb8 (jsr lx1 lx2)))))) C h dX4_append_29 1 rfl rfl (fun h => ?_)
    refine X.nameS (ws := fun Y_1 => (W_Y G q Y_1)) h (fun Y_1 h => ?_)
    refine X.aload_n C dX4_append_30 rfl 0 rfl ?_
    refine X.dup C dX4_append_31 rfl ?_
    refine X.get C dX4_append_32 lay_X4 0 rfl rfl 1 (by decide) fl_X4_15 rfl rfl ?_
    refine X.iconst C dX4_append_35 ?_
    refine X.iadd C dX4_append_36 ?_
    refine X.put (ws2 := (W_Y G q (up2 Y_1 1 0 ((Y_1 1 0) + 1)))) (ty := .int) C dX4_append_37 lay_X4 tyX4_ok nmX4 0 rfl rfl 1 (by decide) fl_X4_15 rfl rfl (by decide +kernel) rfl rfl (Nat.le_of_ble_eq_true rfl) rfl ?_
    refine X.nameS (ws := fun Y_2 => (W_Y G q Y_2)) h (fun Y_2 h => ?_)
    refine X.iincN (lv2 := fun lx2_3 => [(2, vi lx2_3), (0, .ref (q 31)), (1, vi lx1)]) C h dX4_append_40 2 rfl (by decide) (fun _ => rfl) (fun lx2_3 h => ?_)
    refine X.goto (tgt := 3) C dX4_append_43 (by decide) ?_
    refine X.sub [1, 2, 0] rfl ?_
    exact ih lx2_3 Y_2 h
set_option maxHeartbeats 4000000 in
set_option maxRecDepth 100000 in
theorem kX4_append {l : Launch} {G : GT} (q : Nat → Nat) (Y : Ob) (lx1 : Int) (v : (Ob)) (h : fX4_append Y lx1 = some v) : CT l G yX4_append cX4_append 3 none rX4_append [.ref (q 31), vi lx1] (W_Y G q Y) (W_Y G q v) none := by
  unfold fX4_append at h
  refine CT.of (by decide) (Nat.le_of_ble_eq_true rfl) rfl (fun κ _ C => ?_)
  refine X.bipush C dX4_append_0 (by decide) ?_
  refine X.istore_n (lv2 := [(2, vi 24), (0, .ref (q 31)), (1, vi lx1)]) C dX4_append_2 rfl (by decide) rfl ?_
  refine X.sub [1, 2, 0] rfl ?_
  refine xX4_append_3 C q lx1 v FU 24 Y h
def rX4_kindAt : Room := { frames := 0, cells := 0, slots := 0, locals := 0 }
theorem mX4_kindAt : MV yX4_kindAt cX4_kindAt 3 (some .int) 1 := ⟨cd_X4_kindAt, in_X4, ⟨⟨by decide, by decide⟩, by decide +kernel⟩, im_X4_kindAt, se_X4_kindAt⟩
set_option maxHeartbeats 4000000 in
set_option maxRecDepth 100000 in
theorem xX4_kindAt_45 {κ : Kx} {G : GT} (C : Cx κ G yX4_kindAt cX4_kindAt (some .int) 3 rX4_kindAt) (q : Nat → Nat) (Y : Ob) (lx2 : Int) (v : (Int)) (h : jX4_kindAt_45 Y lx2 = some v) : X κ G 3 (W_Y G q Y) 45 [(2, vi lx2)] [] 0 0 (QM κ G (W_Y G q Y) (some (vi v)) rX4_kindAt.cells rX4_kindAt.slots) := by
  unfold jX4_kindAt_45 at h
  refine X.iload_n C dX4_kindAt_45 rfl 0 rfl ?_
  refine X.bipush C dX4_kindAt_46 (by decide) ?_
  refine X.icmp_ne (tgt := 55) C h dX4_kindAt_48 (by decide) (fun h => ?_) (fun h => ?_)
  · refine X.iconst C dX4_kindAt_55 ?_
    cases h
    exact X.iret C dX4_kindAt_56 (Nat.zero_le _) (Nat.zero_le _)
  refine X.iconst C dX4_kindAt_51 ?_
  refine X.goto (tgt := 56) C dX4_kindAt_52 (by decide) ?_
  cases h
  exact X.iret C dX4_kindAt_56 (Nat.zero_le _) (Nat.zero_le _)
set_option maxHeartbeats 4000000 in
set_option maxRecDepth 100000 in
theorem xX4_kindAt_31 {κ : Kx} {G : GT} (C : Cx κ G yX4_kindAt cX4_kindAt (some .int) 3 rX4_kindAt) (q : Nat → Nat) (Y : Ob) (lx2 : Int) (v : (Int)) (h : jX4_kindAt_31 Y lx2 = some v) : X κ G 3 (W_Y G q Y) 31 [(2, vi lx2)] [] 0 0 (QM κ G (W_Y G q Y) (some (vi v)) rX4_kindAt.cells rX4_kindAt.slots) := by
  unfold jX4_kindAt_31 at h
  refine X.iload_n C dX4_kindAt_31 rfl 0 rfl ?_
  refine X.bipush C dX4_kindAt_32 (by decide) ?_
  refine X.icmp_lt (tgt := 45) C h dX4_kindAt_34 (by decide) (fun h => ?_) (fun h => ?_)
  · refine X.sub [0] rfl ?_
    exact xX4_kindAt_45 C q Y lx2 v h
  refine X.iload_n C dX4_kindAt_37 rfl 0 rfl ?_
  refine X.bipush C dX4_kindAt_38 (by decide) ?_
  refine X.icmp_gt (tgt := 45) C h dX4_kindAt_40 (by decide) (fun h => ?_) (fun h => ?_)
  · refine X.sub [0] rfl ?_
    exact xX4_kindAt_45 C q Y lx2 v h
  refine X.iconst C dX4_kindAt_43 ?_
  cases h
  exact X.iret C dX4_kindAt_44 (Nat.zero_le _) (Nat.zero_le _)
set_option maxHeartbeats 4000000 in
set_option maxRecDepth 100000 in
theorem kX4_kindAt {l : Launch} {G : GT} (q : Nat → Nat) (Y : Ob) (lx1 : Int) (v : (Int)) (h : fX4_kindAt Y lx1 = some v) : CT l G yX4_kindAt cX4_kindAt 3 (some .int) rX4_kindAt [.ref (q 31), vi lx1] (W_Y G q Y) (W_Y G q Y) (some (vi v)) := by
  unfold fX4_kindAt at h
  refine CT.of (by decide) (Nat.le_of_ble_eq_true rfl) rfl (fun κ _ C => ?_)
  refine X.iload_n C dX4_kindAt_0 rfl 1 rfl ?_
  refine X.aload_n C dX4_kindAt_1 rfl 0 rfl ?_
  refine X.get C dX4_kindAt_2 lay_X4 0 rfl rfl 1 (by decide) fl_X4_15 rfl rfl ?_
  refine X.icmp_lt (tgt := 10) C h dX4_kindAt_5 (by decide) (fun h => ?_) (fun h => ?_)
  · refine X.aload_n C dX4_kindAt_10 rfl 0 rfl ?_
    refine X.get C dX4_kindAt_11 lay_X4 0 rfl rfl 0 (by decide) fl_X4_9 rfl rfl ?_
    refine X.iload_n C dX4_kindAt_14 rfl 1 rfl ?_
    refine X.bald C h dX4_kindAt_15 1 rfl (fun h => ?_)
    refine X.istoreN_n (lv2 := fun lx2_1 => [(2, vi lx2_1), (0, .ref (q 31)), (1, vi lx1)]) C h dX4_kindAt_16 rfl (by decide) (fun _ => rfl) (fun lx2_1 h => ?_)
    refine X.iload_n C dX4_kindAt_17 rfl 0 rfl ?_
    refine X.bipush C dX4_kindAt_18 (by decide) ?_
    refine X.icmp_lt (tgt := 31) C h dX4_kindAt_20 (by decide) (fun h => ?_) (fun h => ?_)
    · refine X.sub [0] rfl ?_
      exact xX4_kindAt_31 C q Y lx2_1 v h
    refine X.iload_n C dX4_kindAt_23 rfl 0 rfl ?_
    refine X.bipush C dX4_kindAt_24 (by decide) ?_
    refine X.icmp_gt (tgt := 31) C h dX4_kindAt_26 (by decide) (fun h => ?_) (fun h => ?_)
    · refine X.sub [0] rfl ?_
      exact xX4_kindAt_31 C q Y lx2_1 v h
    refine X.iconst C dX4_kindAt_29 ?_
    cases h
    exact X.iret C dX4_kindAt_30 (Nat.zero_le _) (Nat.zero_le _)
  refine X.iconst C dX4_kindAt_8 ?_
  cases h
  exact X.iret C dX4_kindAt_9 (Nat.zero_le _) (Nat.zero_le _)
def rX4_step : Room := { frames := 1, cells := 0, slots := 0, locals := 22 }
theorem mX4_step : MV yX4_step cX4_step 2 none 0 := ⟨cd_X4_step, in_X4, ⟨⟨by decide, by decide⟩, by decide +kernel⟩, im_X4_step, se_X4_step⟩
set_option maxHeartbeats 4000000 in
set_option maxRecDepth 100000 in
theorem xX4_step_5 {κ : Kx} {G : GT} (C : Cx κ G yX4_step cX4_step none 2 rX4_step) (q : Nat → Nat) (Y : Ob) (kx0 : Int → Option (Ob)) (v : (Ob)) (hk0 : ∀ (lx1 : Int), kx0 lx1 = some v → X κ G 2 (W_Y G q Y) 41 [(0, .ref (q 31)), (1, vi lx1)] [] 0 0 (QM κ G (W_Y G q v) none rX4_step.cells rX4_step.slots)) : ∀ (n : Nat) (lx1 : Int), lX4_step_5 Y kx0 n lx1 = some v → X κ G 2 (W_Y G q Y) 5 [(0, .ref (q 31)), (1, vi lx1)] [] 0 0 (QM κ G (W_Y G q v) none rX4_step.cells rX4_step.slots) := by
  intro n
  induction n with
  | zero => intro _ h; exact absurd h (fun h => nomatch h)
  | succ n ih =>
    intro lx1 h
    rw [lX4_step_5] at h
    refine X.iload_n C dX4_step_5 rfl 1 rfl ?_
    refine X.aload_n C dX4_step_6 rfl 0 rfl ?_
    refine X.get C dX4_step_7 lay_X4 0 rfl rfl 1 (by decide) fl_X4_15 rfl rfl ?_
    refine X.icmp_ge (tgt := 41) C h dX4_step_10 (by decide) (fun h => ?_) (fun h => ?_)
    · refine X.sub [0, 1] rfl ?_
      exact hk0 lx1 h
    refine X.aload_n C dX4_step_13 rfl 0 rfl ?_
    refine X.get C dX4_step_14 lay_X4 0 rfl rfl 0 (by decide) fl_X4_9 rfl rfl ?_
    refine X.iload_n C dX4_step_17 rfl 1 rfl ?_
    refine X.bald C h dX4_step_18 1 rfl (fun h => ?_)
    refine X.bipush C dX4_step_19 (by decide) ?_
    refine X.icmp_eq (tgt := 35) C h dX4_step_21 (by decide) (fun h => ?_) (fun h => ?_)
    · refine X.iincN (lv2 := fun lx1_2 => [(1, vi lx1_2), (0, .ref (q 31))]) C h dX4_step_35 1 rfl (by decide) (fun _ => rfl) (fun lx1_2 h => ?_)
      refine X.goto (tgt := 5) C dX4_step_38 (by decide) ?_
      refine X.sub [1, 0] rfl ?_
      exact ih lx1_2 h
    refine X.aload_n C dX4_step_24 rfl 0 rfl ?_
    refine X.get C dX4_step_25 lay_X4 0 rfl rfl 0 (by decide) fl_X4_9 rfl rfl ?_
    refine X.iload_n C dX4_step_28 rfl 1 rfl ?_
    refine X.bald C h dX4_step_29 1 rfl (fun h => ?_)
    refine X.bipush C dX4_step_30 (by decide) ?_
    refine X.icmp_ne (tgt := 41) C h dX4_step_32 (by decide) (fun h => ?_) (fun h => ?_)
    · refine X.sub [0, 1] rfl ?_
      exact hk0 lx1 h
    refine X.iincN (lv2 := fun lx1_3 => [(1, vi lx1_3), (0, .ref (q 31))]) C h dX4_step_35 1 rfl (by decide) (fun _ => rfl) (fun lx1_3 h => ?_)
    refine X.goto (tgt := 5) C dX4_step_38 (by decide) ?_
    refine X.sub [1, 0] rfl ?_
    exact ih lx1_3 h
set_option maxHeartbeats 4000000 in
set_option maxRecDepth 100000 in
theorem xX4_step_71 {κ : Kx} {G : GT} (C : Cx κ G yX4_step cX4_step none 2 rX4_step) (q : Nat → Nat) (Y : Ob) (kx0 : Int → Option (Ob)) (v : (Ob)) (hk0 : ∀ (lx1 : Int), kx0 lx1 = some v → X κ G 2 (W_Y G q Y) 107 [(0, .ref (q 31)), (1, vi lx1)] [] 0 0 (QM κ G (W_Y G q v) none rX4_step.cells rX4_step.slots)) : ∀ (n : Nat) (lx1 : Int), lX4_step_71 Y kx0 n lx1 = some v → X κ G 2 (W_Y G q Y) 71 [(0, .ref (q 31)), (1, vi lx1)] [] 0 0 (QM κ G (W_Y G q v) none rX4_step.cells rX4_step.slots) := by
  intro n
  induction n with
  | zero => intro _ h; exact absurd h (fun h => nomatch h)
  | succ n ih =>
    intro lx1 h
    rw [lX4_step_71] at h
    refine X.iload_n C dX4_step_71 rfl 1 rfl ?_
    refine X.aload_n C dX4_step_72 rfl 0 rfl ?_
    refine X.get C dX4_step_73 lay_X4 0 rfl rfl 1 (by decide) fl_X4_15 rfl rfl ?_
    refine X.icmp_ge (tgt := 107) C h dX4_step_76 (by decide) (fun h => ?_) (fun h => ?_)
    · refine X.sub [0, 1] rfl ?_
      exact hk0 lx1 h
    refine X.aload_n C dX4_step_79 rfl 0 rfl ?_
    refine X.iload_n C dX4_step_80 rfl 1 rfl ?_
    refine X.callVi (q0 := 0) (As := [vi lx1]) (rest := []) (g := fun rr_8 => rr_8) (W1 := fun rr_8 => (W_Y G q Y)) (ws2 := fun rr_8 => (W_Y G q Y)) C h dX4_step_81 ml_X4_28 mX4_kindAt (fun v hv => kX4_kindAt q Y lx1 v hv) (fun rr_8 => ln_Y_Y_y_n (G := G) (q := q) (Y := Y)) rfl rfl rfl rfl rfl rfl rfl rfl (fun rr_8 h => ?_)
    refine X.aload_n C dX4_step_84 rfl 0 rfl ?_
    refine X.get C dX4_step_85 lay_X4 0 rfl rfl 2 (by decide) fl_X4_32 rfl rfl ?_
    refine X.icmp_ne (tgt := 107) C h dX4_step_88 (by decide) (fun h => ?_) (fun h => ?_)
    · refine X.sub [0, 1] rfl ?_
      exact hk0 lx1 h
    refine X.iincN (lv2 := fun lx1_9 => [(1, vi lx1_9), (0, .ref (q 31))]) C h dX4_step_91 1 rfl (by decide) (fun _ => rfl) (fun lx1_9 h => ?_)
    refine X.goto (tgt := 71) C dX4_step_94 (by decide) ?_
    refine X.sub [1, 0] rfl ?_
    exact ih lx1_9 h
set_option maxHeartbeats 4000000 in
set_option maxRecDepth 100000 in
theorem xX4_step_107 {κ : Kx} {G : GT} (C : Cx κ G yX4_step cX4_step none 2 rX4_step) (q : Nat → Nat) (Y : Ob) (lx1 : Int) (v : (Ob)) (h : jX4_step_107 Y lx1 = some v) : X κ G 2 (W_Y G q Y) 107 [(0, .ref (q 31)), (1, vi lx1)] [] 0 0 (QM κ G (W_Y G q v) none rX4_step.cells rX4_step.slots) := by
  unfold jX4_step_107 at h
  refine X.aload_n C dX4_step_107 rfl 0 rfl ?_
  refine X.iload_n C dX4_step_108 rfl 1 rfl ?_
  refine X.put (ws2 := (W_Y G q (up2 Y 4 0 lx1))) (ty := .int) C dX4_step_109 lay_X4 tyX4_ok nmX4 0 rfl rfl 4 (by decide) fl_X4_19 rfl rfl (by decide +kernel) rfl rfl (Nat.le_of_ble_eq_true rfl) rfl ?_
  refine X.nameS (ws := fun Y_11 => (W_Y G q Y_11)) h (fun Y_11 h => ?_)
  cases h
  exact X.vret C dX4_step_112 (Nat.zero_le _) (Nat.zero_le _)
set_option maxHeartbeats 4000000 in
set_option maxRecDepth 100000 in
theorem xX4_step_41 {κ : Kx} {G : GT} (C : Cx κ G yX4_step cX4_step none 2 rX4_step) (q : Nat → Nat) (Y : Ob) (lx1 : Int) (v : (Ob)) (h : jX4_step_41 Y lx1 = some v) : X κ G 2 (W_Y G q Y) 41 [(0, .ref (q 31)), (1, vi lx1)] [] 0 0 (QM κ G (W_Y G q v) none rX4_step.cells rX4_step.slots) := by
  unfold jX4_step_41 at h
  refine X.aload_n C dX4_step_41 rfl 0 rfl ?_
  refine X.iload_n C dX4_step_42 rfl 1 rfl ?_
  refine X.put (ws2 := (W_Y G q (up2 Y 3 0 lx1))) (ty := .int) C dX4_step_43 lay_X4 tyX4_ok nmX4 0 rfl rfl 3 (by decide) fl_X4_25 rfl rfl (by decide +kernel) rfl rfl (Nat.le_of_ble_eq_true rfl) rfl ?_
  refine X.nameS (ws := fun Y_5 => (W_Y G q Y_5)) h (fun Y_5 h => ?_)
  refine X.aload_n C dX4_step_46 rfl 0 rfl ?_
  refine X.aload_n C dX4_step_47 rfl 0 rfl ?_
  refine X.iload_n C dX4_step_48 rfl 1 rfl ?_
  refine X.callVi (q0 := 0) (As := [vi lx1]) (rest := [.ref (q 31)]) (g := fun rr_6 => rr_6) (W1 := fun rr_6 => (W_Y G q Y_5)) (ws2 := fun rr_6 => (W_Y G q Y_5)) C h dX4_step_49 ml_X4_28 mX4_kindAt (fun v hv => kX4_kindAt q Y_5 lx1 v hv) (fun rr_6 => ln_Y_Y_y_n (G := G) (q := q) (Y := Y_5)) rfl rfl rfl rfl rfl rfl rfl rfl (fun rr_6 h => ?_)
  refine X.put (ws2 := (W_Y G q (up2 Y_5 2 0 rr_6))) (ty := .int) C dX4_step_52 lay_X4 tyX4_ok nmX4 0 rfl rfl 2 (by decide) fl_X4_32 rfl rfl (by decide +kernel) rfl rfl (Nat.le_of_ble_eq_true rfl) rfl ?_
  refine X.nameS (ws := fun Y_7 => (W_Y G q Y_7)) h (fun Y_7 h => ?_)
  refine X.aload_n C dX4_step_55 rfl 0 rfl ?_
  refine X.get C dX4_step_56 lay_X4 0 rfl rfl 2 (by decide) fl_X4_32 rfl rfl ?_
  refine X.iconst C dX4_step_59 ?_
  refine X.icmp_eq (tgt := 71) C h dX4_step_60 (by decide) (fun h => ?_) (fun h => ?_)
  · refine X.sub [0, 1] rfl ?_
    refine xX4_step_71 C q Y_7 _ v (fun lx1_10 h => ?_) FU lx1 h
    · refine X.sub [0, 1] rfl ?_
      exact xX4_step_107 C q Y_7 lx1_10 v h
  refine X.aload_n C dX4_step_63 rfl 0 rfl ?_
  refine X.get C dX4_step_64 lay_X4 0 rfl rfl 2 (by decide) fl_X4_32 rfl rfl ?_
  refine X.iconst C dX4_step_67 ?_
  refine X.icmp_ne (tgt := 97) C h dX4_step_68 (by decide) (fun h => ?_) (fun h => ?_)
  · refine X.aload_n C dX4_step_97 rfl 0 rfl ?_
    refine X.get C dX4_step_98 lay_X4 0 rfl rfl 2 (by decide) fl_X4_32 rfl rfl ?_
    refine X.if_eq (tgt := 107) C h dX4_step_101 (by decide) (fun h => ?_) (fun h => ?_)
    · refine X.sub [0, 1] rfl ?_
      exact xX4_step_107 C q Y_7 lx1 v h
    refine X.iincN (lv2 := fun lx1_12 => [(1, vi lx1_12), (0, .ref (q 31))]) C h dX4_step_104 1 rfl (by decide) (fun _ => rfl) (fun lx1_12 h => ?_)
    refine X.sub [1, 0] rfl ?_
    exact xX4_step_107 C q Y_7 lx1_12 v h
  refine X.sub [0, 1] rfl ?_
  refine xX4_step_71 C q Y_7 _ v (fun lx1_13 h => ?_) FU lx1 h
  · refine X.sub [0, 1] rfl ?_
    exact xX4_step_107 C q Y_7 lx1_13 v h
set_option maxHeartbeats 4000000 in
set_option maxRecDepth 100000 in
theorem kX4_step {l : Launch} {G : GT} (q : Nat → Nat) (Y : Ob) (v : (Ob)) (h : fX4_step Y = some v) : CT l G yX4_step cX4_step 2 none rX4_step [.ref (q 31)] (W_Y G q Y) (W_Y G q v) none := by
  unfold fX4_step at h
  refine CT.of (by decide) (Nat.le_of_ble_eq_true rfl) rfl (fun κ _ C => ?_)
  refine X.aload_n C dX4_step_0 rfl 0 rfl ?_
  refine X.get C dX4_step_1 lay_X4 0 rfl rfl 4 (by decide) fl_X4_19 rfl rfl ?_
  refine X.istoreN_n (lv2 := fun lx1_1 => [(1, vi lx1_1), (0, .ref (q 31))]) C h dX4_step_4 rfl (by decide) (fun _ => rfl) (fun lx1_1 h => ?_)
  refine X.sub [1, 0] rfl ?_
  refine xX4_step_5 C q Y _ v (fun lx1_4 h => ?_) FU lx1_1 h
  · refine X.sub [0, 1] rfl ?_
    exact xX4_step_41 C q Y lx1_4 v h
def rX4_rewind : Room := { frames := 2, cells := 0, slots := 0, locals := 43 }
theorem mX4_rewind : MV yX4_rewind cX4_rewind 1 none 0 := ⟨cd_X4_rewind, in_X4, ⟨⟨by decide, by decide⟩, by decide +kernel⟩, im_X4_rewind, se_X4_rewind⟩
set_option maxHeartbeats 4000000 in
set_option maxRecDepth 100000 in
theorem kX4_rewind {l : Launch} {G : GT} (q : Nat → Nat) (Y : Ob) (v : (Ob)) (h : fX4_rewind Y = some v) : CT l G yX4_rewind cX4_rewind 1 none rX4_rewind [.ref (q 31)] (W_Y G q Y) (W_Y G q v) none := by
  unfold fX4_rewind at h
  refine CT.of (by decide) (Nat.le_of_ble_eq_true rfl) rfl (fun κ _ C => ?_)
  refine X.aload_n C dX4_rewind_0 rfl 0 rfl ?_
  refine X.iconst C dX4_rewind_1 ?_
  refine X.put (ws2 := (W_Y G q (up2 Y 4 0 0))) (ty := .int) C dX4_rewind_2 lay_X4 tyX4_ok nmX4 0 rfl rfl 4 (by decide) fl_X4_19 rfl rfl (by decide +kernel) rfl rfl (Nat.le_of_ble_eq_true rfl) rfl ?_
  refine X.nameS (ws := fun Y_1 => (W_Y G q Y_1)) h (fun Y_1 h => ?_)
  refine X.aload_n C dX4_rewind_5 rfl 0 rfl ?_
  refine X.callVv (q0 := 0) (As := []) (rest := []) (W1 := fun rr_2 => (W_Y G q rr_2)) (ws2 := fun rr_2 => (W_Y G q rr_2)) C h dX4_rewind_6 ml_X4_22 mX4_step (fun v hv => kX4_step q Y_1 v hv) (fun rr_2 => ln_Y_Y_y_Y (G := G) (q := q) (Y := Y_1) (NY := rr_2)) rfl rfl rfl rfl rfl rfl rfl rfl (fun rr_2 h => ?_)
  cases h
  exact X.vret C dX4_rewind_9 (Nat.zero_le _) (Nat.zero_le _)
def rX4_isWord : Room := { frames := 5, cells := 0, slots := 0, locals := 160 }
theorem mX4_isWord : MV yX4_isWord cX4_isWord 3 (some .boolean) 1 := ⟨cd_X4_isWord, in_X4, ⟨⟨by decide, by decide⟩, by decide +kernel⟩, im_X4_isWord, se_X4_isWord⟩
set_option maxHeartbeats 4000000 in
set_option maxRecDepth 100000 in
theorem xX4_isWord_28 {κ : Kx} {G : GT} (C : Cx κ G yX4_isWord cX4_isWord (some .boolean) 3 rX4_isWord) (q : Nat → Nat) (Y : Ob) (lw1 : Nat) (v : (Int)) : ∀ (n : Nat) (lx2 : Int), lX4_isWord_28 Y lw1 n lx2 = some v → X κ G 3 (W_Y G q Y) 28 [(0, .ref (q 31)), (1, .ref (G.2.2.2.1 lw1)), (2, vi lx2)] [] 0 0 (QM κ G (W_Y G q Y) (some (vi v)) rX4_isWord.cells rX4_isWord.slots) := by
  intro n
  induction n with
  | zero => intro _ h; exact absurd h (fun h => nomatch h)
  | succ n ih =>
    intro lx2 h
    rw [lX4_isWord_28] at h
    refine X.iload_n C dX4_isWord_28 rfl 2 rfl ?_
    refine X.aload_n C dX4_isWord_29 rfl 1 rfl ?_
    refine X.slen C h dX4_isWord_30 ml_X4_35 rfl rfl (fun h => ?_)
    refine X.icmp_ge (tgt := 63) C h dX4_isWord_33 (by decide) (fun h => ?_) (fun h => ?_)
    · refine X.iconst C dX4_isWord_63 ?_
      cases h
      exact X.zret C rfl dX4_isWord_64 (Nat.zero_le _) (Nat.zero_le _)
    refine X.aload_n C dX4_isWord_36 rfl 0 rfl ?_
    refine X.get C dX4_isWord_37 lay_X4 0 rfl rfl 0 (by decide) fl_X4_9 rfl rfl ?_
    refine X.aload_n C dX4_isWord_40 rfl 0 rfl ?_
    refine X.get C dX4_isWord_41 lay_X4 0 rfl rfl 3 (by decide) fl_X4_25 rfl rfl ?_
    refine X.iload_n C dX4_isWord_44 rfl 2 rfl ?_
    refine X.iadd C dX4_isWord_45 ?_
    refine X.bald C h dX4_isWord_46 1 rfl (fun h => ?_)
    refine X.aload_n C dX4_isWord_47 rfl 1 rfl ?_
    refine X.iload_n C dX4_isWord_48 rfl 2 rfl ?_
    refine X.schar C h dX4_isWord_49 ml_X4_40 rfl rfl (fun h => ?_)
    refine X.icmp_eq (tgt := 57) C h dX4_isWord_52 (by decide) (fun h => ?_) (fun h => ?_)
    · refine X.iincN (lv2 := fun lx2_1 => [(2, vi lx2_1), (0, .ref (q 31)), (1, .ref (G.2.2.2.1 lw1))]) C h dX4_isWord_57 2 rfl (by decide) (fun _ => rfl) (fun lx2_1 h => ?_)
      refine X.goto (tgt := 28) C dX4_isWord_60 (by decide) ?_
      refine X.sub [1, 2, 0] rfl ?_
      exact ih lx2_1 h
    refine X.iconst C dX4_isWord_55 ?_
    cases h
    exact X.zret C rfl dX4_isWord_56 (Nat.zero_le _) (Nat.zero_le _)
set_option maxHeartbeats 4000000 in
set_option maxRecDepth 100000 in
theorem kX4_isWord {l : Launch} {G : GT} (q : Nat → Nat) (Y : Ob) (lw1 : Nat) (v : (Int)) (h : fX4_isWord Y lw1 = some v) : CT l G yX4_isWord cX4_isWord 3 (some .boolean) rX4_isWord [.ref (q 31), .ref (G.2.2.2.1 lw1)] (W_Y G q Y) (W_Y G q Y) (some (vi v)) := by
  unfold fX4_isWord at h
  refine CT.of (by decide) (Nat.le_of_ble_eq_true rfl) rfl (fun κ _ C => ?_)
  refine X.aload_n C dX4_isWord_0 rfl 0 rfl ?_
  refine X.get C dX4_isWord_1 lay_X4 0 rfl rfl 2 (by decide) fl_X4_32 rfl rfl ?_
  refine X.iconst C dX4_isWord_4 ?_
  refine X.icmp_ne (tgt := 24) C h dX4_isWord_5 (by decide) (fun h => ?_) (fun h => ?_)
  · refine X.iconst C dX4_isWord_24 ?_
    cases h
    exact X.zret C rfl dX4_isWord_25 (Nat.zero_le _) (Nat.zero_le _)
  refine X.aload_n C dX4_isWord_8 rfl 0 rfl ?_
  refine X.get C dX4_isWord_9 lay_X4 0 rfl rfl 4 (by decide) fl_X4_19 rfl rfl ?_
  refine X.aload_n C dX4_isWord_12 rfl 0 rfl ?_
  refine X.get C dX4_isWord_13 lay_X4 0 rfl rfl 3 (by decide) fl_X4_25 rfl rfl ?_
  refine X.isub C dX4_isWord_16 ?_
  refine X.aload_n C dX4_isWord_17 rfl 1 rfl ?_
  refine X.slen C h dX4_isWord_18 ml_X4_35 rfl rfl (fun h => ?_)
  refine X.icmp_eq (tgt := 26) C h dX4_isWord_21 (by decide) (fun h => ?_) (fun h => ?_)
  · refine X.iconst C dX4_isWord_26 ?_
    refine X.istore_n (lv2 := [(2, vi 0), (0, .ref (q 31)), (1, .ref (G.2.2.2.1 lw1))]) C dX4_isWord_27 rfl (by decide) rfl ?_
    refine X.sub [1, 2, 0] rfl ?_
    refine xX4_isWord_28 C q Y lw1 v FU 0 h
  refine X.iconst C dX4_isWord_24 ?_
  cases h
  exact X.zret C rfl dX4_isWord_25 (Nat.zero_le _) (Nat.zero_le _)
def rX4_value : Room := { frames := 1, cells := 0, slots := 0, locals := 30 }
theorem mX4_value : MV yX4_value cX4_value 3 (some .int) 0 := ⟨cd_X4_value, in_X4, ⟨⟨by decide, by decide⟩, by decide +kernel⟩, im_X4_value, se_X4_value⟩
set_option maxHeartbeats 4000000 in
set_option maxRecDepth 100000 in
theorem xX4_value_7 {κ : Kx} {G : GT} (C : Cx κ G yX4_value cX4_value (some .int) 3 rX4_value) (q : Nat → Nat) (Y : Ob) (v : (Int)) : ∀ (n : Nat) (lx1 : Int) (lx2 : Int), lX4_value_7 Y n lx1 lx2 = some v → X κ G 3 (W_Y G q Y) 7 [(0, .ref (q 31)), (1, vi lx1), (2, vi lx2)] [] 0 0 (QM κ G (W_Y G q Y) (some (vi v)) rX4_value.cells rX4_value.slots) := by
  intro n
  induction n with
  | zero => intro _ _ h; exact absurd h (fun h => nomatch h)
  | succ n ih =>
    intro lx1 lx2 h
    rw [lX4_value_7] at h
    refine X.iload_n C dX4_value_7 rfl 2 rfl ?_
    refine X.aload_n C dX4_value_8 rfl 0 rfl ?_
    refine X.get C dX4_value_9 lay_X4 0 rfl rfl 4 (by decide) fl_X4_19 rfl rfl ?_
    refine X.icmp_ge (tgt := 41) C h dX4_value_12 (by decide) (fun h => ?_) (fun h => ?_)
    · refine X.iload_n C dX4_value_41 rfl 1 rfl ?_
      cases h
      exact X.iret C dX4_value_42 (Nat.zero_le _) (Nat.zero_le _)
    refine X.ldc (z := 1000000) C ct_X4_44 (by decide) dX4_value_15 ?_
    refine X.bipush C dX4_value_17 (by decide) ?_
    refine X.iload_n C dX4_value_19 rfl 1 rfl ?_
    refine X.imul C dX4_value_20 ?_
    refine X.aload_n C dX4_value_21 rfl 0 rfl ?_
    refine X.get C dX4_value_22 lay_X4 0 rfl rfl 0 (by decide) fl_X4_9 rfl rfl ?_
    refine X.iload_n C dX4_value_25 rfl 2 rfl ?_
    refine X.bald C h dX4_value_26 1 rfl (fun h => ?_)
    refine X.iadd C dX4_value_27 ?_
    refine X.bipush C dX4_value_28 (by decide) ?_
    refine X.isub C dX4_value_30 ?_
    refine X.mmin C dX4_value_31 ml_X4_45 sm_J9_min_7cf53 in_java_lang_Math cd_J9_min_7cf53 (Nat.le_of_ble_eq_true rfl) (Nat.le_of_ble_eq_true rfl) (Nat.zero_le _) (Nat.zero_le _) ?_
    refine X.istoreN_n (lv2 := fun lx1_2 => [(1, vi lx1_2), (0, .ref (q 31)), (2, vi lx2)]) C h dX4_value_34 rfl (by decide) (fun _ => rfl) (fun lx1_2 h => ?_)
    refine X.iincN (lv2 := fun lx2_3 => [(2, vi lx2_3), (1, vi lx1_2), (0, .ref (q 31))]) C h dX4_value_35 2 rfl (by decide) (fun _ => rfl) (fun lx2_3 h => ?_)
    refine X.goto (tgt := 7) C dX4_value_38 (by decide) ?_
    refine X.sub [2, 1, 0] rfl ?_
    exact ih lx1_2 lx2_3 h
set_option maxHeartbeats 4000000 in
set_option maxRecDepth 100000 in
theorem kX4_value {l : Launch} {G : GT} (q : Nat → Nat) (Y : Ob) (v : (Int)) (h : fX4_value Y = some v) : CT l G yX4_value cX4_value 3 (some .int) rX4_value [.ref (q 31)] (W_Y G q Y) (W_Y G q Y) (some (vi v)) := by
  unfold fX4_value at h
  refine CT.of (by decide) (Nat.le_of_ble_eq_true rfl) rfl (fun κ _ C => ?_)
  refine X.iconst C dX4_value_0 ?_
  refine X.istore_n (lv2 := [(1, vi 0), (0, .ref (q 31))]) C dX4_value_1 rfl (by decide) rfl ?_
  refine X.aload_n C dX4_value_2 rfl 1 rfl ?_
  refine X.get C dX4_value_3 lay_X4 0 rfl rfl 3 (by decide) fl_X4_25 rfl rfl ?_
  refine X.istoreN_n (lv2 := fun lx2_1 => [(2, vi lx2_1), (1, vi 0), (0, .ref (q 31))]) C h dX4_value_6 rfl (by decide) (fun _ => rfl) (fun lx2_1 h => ?_)
  refine X.sub [2, 1, 0] rfl ?_
  refine xX4_value_7 C q Y v FU 0 lx2_1 h
def rX5_note : Room := { frames := 0, cells := 0, slots := 0, locals := 0 }
theorem mX5_note : MV yX5_note cX5_note 2 none 1 := ⟨cd_X5_note, in_X5, ⟨⟨by decide, by decide⟩, by decide +kernel⟩, im_X5_note, se_X5_note⟩
set_option maxHeartbeats 4000000 in
set_option maxRecDepth 100000 in
theorem kX5_note {l : Launch} {G : GT} (ql : Nat → Nat) (qy : Nat → Nat) (qp : Nat → Nat) (L : Ob) (Y : Ob) (P : Ob) (lx1 : Int) (v : (Ob)) (h : fX5_note L Y P lx1 = some v) : CT l G yX5_note cX5_note 2 none rX5_note [.ref (ql 31), vi lx1] (W_L G ql qy qp L Y P) (W_L G ql qy qp v Y P) none := by
  unfold fX5_note at h
  refine CT.of (by decide) (Nat.le_of_ble_eq_true rfl) rfl (fun κ _ C => ?_)
  refine X.aload_n C dX5_note_0 rfl 0 rfl ?_
  refine X.get C dX5_note_1 lay_X5 0 rfl rfl 2 (by decide) fl_X5_23 rfl rfl ?_
  refine X.if_ne (tgt := 23) C h dX5_note_4 (by decide) (fun h => ?_) (fun h => ?_)
  · cases h
    exact X.vret C dX5_note_23 (Nat.zero_le _) (Nat.zero_le _)
  refine X.aload_n C dX5_note_7 rfl 0 rfl ?_
  refine X.iload_n C dX5_note_8 rfl 1 rfl ?_
  refine X.put (ws2 := (W_L G ql qy qp (up2 L 2 0 lx1) Y P)) (ty := .int) C dX5_note_9 lay_X5 tyX5_ok nmX5 0 rfl rfl 2 (by decide) fl_X5_23 rfl rfl (by decide +kernel) rfl rfl (Nat.le_of_ble_eq_true rfl) rfl ?_
  refine X.nameS (ws := fun L_1 => (W_L G ql qy qp L_1 Y P)) h (fun L_1 h => ?_)
  refine X.aload_n C dX5_note_12 rfl 0 rfl ?_
  refine X.aload_n C dX5_note_13 rfl 0 rfl ?_
  refine X.get C dX5_note_14 lay_X5 0 rfl rfl 0 (by decide) fl_X5_15 rfl rfl ?_
  refine X.get C dX5_note_17 lay_X4 1 rfl rfl 3 (by decide) fl_X5_194 rfl rfl ?_
  refine X.put (ws2 := (W_L G ql qy qp (up2 L_1 3 0 (Y 3 0)) Y P)) (ty := .int) C dX5_note_20 lay_X5 tyX5_ok nmX5 0 rfl rfl 3 (by decide) fl_X5_9 rfl rfl (by decide +kernel) rfl rfl (Nat.le_of_ble_eq_true rfl) rfl ?_
  refine X.nameS (ws := fun L_2 => (W_L G ql qy qp L_2 Y P)) h (fun L_2 h => ?_)
  cases h
  exact X.vret C dX5_note_23 (Nat.zero_le _) (Nat.zero_le _)
def rX5_readWord : Room := { frames := 6, cells := 0, slots := 0, locals := 182 }
theorem mX5_readWord : MV yX5_readWord cX5_readWord 2 none 1 := ⟨cd_X5_readWord, in_X5, ⟨⟨by decide, by decide⟩, by decide +kernel⟩, im_X5_readWord, se_X5_readWord⟩
set_option maxHeartbeats 4000000 in
set_option maxRecDepth 100000 in
theorem kX5_readWord {l : Launch} {G : GT} (ql : Nat → Nat) (qy : Nat → Nat) (qp : Nat → Nat) (L : Ob) (Y : Ob) (P : Ob) (lw1 : Nat) (v : (Ob × Ob)) (h : fX5_readWord L Y P lw1 = some v) : CT l G yX5_readWord cX5_readWord 2 none rX5_readWord [.ref (ql 31), .ref (G.2.2.2.1 lw1)] (W_L G ql qy qp L Y P) (W_L G ql qy qp v.1 v.2 P) none := by
  unfold fX5_readWord at h
  refine CT.of (by decide) (Nat.le_of_ble_eq_true rfl) rfl (fun κ _ C => ?_)
  refine X.aload_n C dX5_readWord_0 rfl 0 rfl ?_
  refine X.get C dX5_readWord_1 lay_X5 0 rfl rfl 2 (by decide) fl_X5_23 rfl rfl ?_
  refine X.if_eq (tgt := 8) C h dX5_readWord_4 (by decide) (fun h => ?_) (fun h => ?_)
  · refine X.aload_n C dX5_readWord_8 rfl 0 rfl ?_
    refine X.get C dX5_readWord_9 lay_X5 0 rfl rfl 0 (by decide) fl_X5_15 rfl rfl ?_
    refine X.aload_n C dX5_readWord_12 rfl 1 rfl ?_
    refine X.callVi (q0 := 1) (As := [.ref (G.2.2.2.1 lw1)]) (rest := []) (g := fun rr_1 => rr_1) (W1 := fun rr_1 => (W_Y G qy Y)) (ws2 := fun rr_1 => (W_L G ql qy qp L Y P)) C h dX5_readWord_13 ml_X5_60 mX4_isWord (fun v hv => kX4_isWord qy Y lw1 v hv) (fun rr_1 => ln_L_Y_y_n (G := G) (ql := ql) (qy := qy) (qp := qp) (L := L) (Y := Y) (P := P)) rfl rfl rfl rfl rfl rfl rfl rfl (fun rr_1 h => ?_)
    refine X.if_eq (tgt := 29) C h dX5_readWord_16 (by decide) (fun h => ?_) (fun h => ?_)
    · refine X.aload_n C dX5_readWord_29 rfl 0 rfl ?_
      refine X.iconst C dX5_readWord_30 ?_
      refine X.callVv (q0 := 0) (As := [vi 1]) (rest := []) (W1 := fun rr_2 => (W_L G ql qy qp rr_2 Y P)) (ws2 := fun rr_2 => (W_L G ql qy qp rr_2 Y P)) C h dX5_readWord_31 ml_X5_92 mX5_note (fun v hv => kX5_note ql qy qp L Y P 1 v hv) (fun rr_2 => ln_L_L_l_y_p_L (G := G) (ql := ql) (qy := qy) (qp := qp) (L := L) (Y := Y) (P := P) (NL := rr_2)) rfl rfl rfl rfl rfl rfl rfl rfl (fun rr_2 h => ?_)
      cases h
      exact X.vret C dX5_readWord_34 (Nat.zero_le _) (Nat.zero_le _)
    refine X.aload_n C dX5_readWord_19 rfl 0 rfl ?_
    refine X.get C dX5_readWord_20 lay_X5 0 rfl rfl 0 (by decide) fl_X5_15 rfl rfl ?_
    refine X.callVv (q0 := 1) (As := []) (rest := []) (W1 := fun rr_3 => (W_Y G qy rr_3)) (ws2 := fun rr_3 => (W_L G ql qy qp L rr_3 P)) C h dX5_readWord_23 ml_X5_183 mX4_step (fun v hv => kX4_step qy Y v hv) (fun rr_3 => ln_L_Y_y_Y (G := G) (ql := ql) (qy := qy) (qp := qp) (L := L) (Y := Y) (P := P) (NY := rr_3)) rfl rfl rfl rfl rfl rfl rfl rfl (fun rr_3 h => ?_)
    refine X.goto (tgt := 34) C dX5_readWord_26 (by decide) ?_
    cases h
    exact X.vret C dX5_readWord_34 (Nat.zero_le _) (Nat.zero_le _)
  cases h
  exact X.vret C dX5_readWord_7 (Nat.zero_le _) (Nat.zero_le _)
def rX5_readNumber : Room := { frames := 2, cells := 0, slots := 0, locals := 52 }
theorem mX5_readNumber : MV yX5_readNumber cX5_readNumber 4 (some .int) 2 := ⟨cd_X5_readNumber, in_X5, ⟨⟨by decide, by decide⟩, by decide +kernel⟩, im_X5_readNumber, se_X5_readNumber⟩
set_option maxHeartbeats 4000000 in
set_option maxRecDepth 100000 in
theorem kX5_readNumber {l : Launch} {G : GT} (ql : Nat → Nat) (qy : Nat → Nat) (qp : Nat → Nat) (L : Ob) (Y : Ob) (P : Ob) (lx1 : Int) (lx2 : Int) (v : (Int × Ob × Ob)) (h : fX5_readNumber L Y P lx1 lx2 = some v) : CT l G yX5_readNumber cX5_readNumber 4 (some .int) rX5_readNumber [.ref (ql 31), vi lx1, vi lx2] (W_L G ql qy qp L Y P) (W_L G ql qy qp v.2.1 v.2.2 P) (some (vi v.1)) := by
  unfold fX5_readNumber at h
  refine CT.of (by decide) (Nat.le_of_ble_eq_true rfl) rfl (fun κ _ C => ?_)
  refine X.aload_n C dX5_readNumber_0 rfl 0 rfl ?_
  refine X.get C dX5_readNumber_1 lay_X5 0 rfl rfl 2 (by decide) fl_X5_23 rfl rfl ?_
  refine X.if_eq (tgt := 9) C h dX5_readNumber_4 (by decide) (fun h => ?_) (fun h => ?_)
  · refine X.aload_n C dX5_readNumber_9 rfl 0 rfl ?_
    refine X.get C dX5_readNumber_10 lay_X5 0 rfl rfl 0 (by decide) fl_X5_15 rfl rfl ?_
    refine X.get C dX5_readNumber_13 lay_X4 1 rfl rfl 2 (by decide) fl_X5_46 rfl rfl ?_
    refine X.iconst C dX5_readNumber_16 ?_
    refine X.icmp_eq (tgt := 27) C h dX5_readNumber_17 (by decide) (fun h => ?_) (fun h => ?_)
    · refine X.aload_n C dX5_readNumber_27 rfl 0 rfl ?_
      refine X.get C dX5_readNumber_28 lay_X5 0 rfl rfl 0 (by decide) fl_X5_15 rfl rfl ?_
      refine X.callVi (q0 := 1) (As := []) (rest := []) (g := fun rr_1 => rr_1) (W1 := fun rr_1 => (W_Y G qy Y)) (ws2 := fun rr_1 => (W_L G ql qy qp L Y P)) C h dX5_readNumber_31 ml_X5_186 mX4_value (fun v hv => kX4_value qy Y v hv) (fun rr_1 => ln_L_Y_y_n (G := G) (ql := ql) (qy := qy) (qp := qp) (L := L) (Y := Y) (P := P)) rfl rfl rfl rfl rfl rfl rfl rfl (fun rr_1 h => ?_)
      refine X.istore_n (lv2 := [(3, vi rr_1), (0, .ref (ql 31)), (1, vi lx1), (2, vi lx2)]) C dX5_readNumber_34 rfl (by decide) rfl ?_
      refine X.iload_n C dX5_readNumber_35 rfl 0 rfl ?_
      refine X.iload_n C dX5_readNumber_36 rfl 2 rfl ?_
      refine X.iload_n C dX5_readNumber_37 rfl 3 rfl ?_
      refine X.callSNi (As := [vi rr_1, vi lx1, vi lx2]) (rest := []) (g := fun rr_2 => rr_2) (W1 := fun rr_2 => W_0) (ws2 := fun rr_2 => (W_L G ql qy qp L Y P)) C h dX5_readNumber_38 mn_X5_190 mX7_isWithin (fun v hv => kX7_isWithin rr_1 lx1 lx2 v hv) (fun rr_2 => ln_L_0__n (G := G) (ql := ql) (qy := qy) (qp := qp) (L := L) (Y := Y) (P := P)) rfl rfl rfl rfl rfl rfl (fun rr_2 h => ?_)
      refine X.if_eq (tgt := 54) C h dX5_readNumber_41 (by decide) (fun h => ?_) (fun h => ?_)
      · refine X.aload_n C dX5_readNumber_54 rfl 1 rfl ?_
        refine X.iconst C dX5_readNumber_55 ?_
        refine X.callVv (q0 := 0) (As := [vi 2]) (rest := []) (W1 := fun rr_3 => (W_L G ql qy qp rr_3 Y P)) (ws2 := fun rr_3 => (W_L G ql qy qp rr_3 Y P)) C h dX5_readNumber_56 ml_X5_92 mX5_note (fun v hv => kX5_note ql qy qp L Y P 2 v hv) (fun rr_3 => ln_L_L_l_y_p_L (G := G) (ql := ql) (qy := qy) (qp := qp) (L := L) (Y := Y) (P := P) (NL := rr_3)) rfl rfl rfl rfl rfl rfl rfl rfl (fun rr_3 h => ?_)
        refine X.iload_n C dX5_readNumber_59 rfl 0 rfl ?_
        cases h
        exact X.iret C dX5_readNumber_60 (Nat.zero_le _) (Nat.zero_le _)
      refine X.aload_n C dX5_readNumber_44 rfl 1 rfl ?_
      refine X.get C dX5_readNumber_45 lay_X5 0 rfl rfl 0 (by decide) fl_X5_15 rfl rfl ?_
      refine X.callVv (q0 := 1) (As := []) (rest := []) (W1 := fun rr_4 => (W_Y G qy rr_4)) (ws2 := fun rr_4 => (W_L G ql qy qp L rr_4 P)) C h dX5_readNumber_48 ml_X5_183 mX4_step (fun v hv => kX4_step qy Y v hv) (fun rr_4 => ln_L_Y_y_Y (G := G) (ql := ql) (qy := qy) (qp := qp) (L := L) (Y := Y) (P := P) (NY := rr_4)) rfl rfl rfl rfl rfl rfl rfl rfl (fun rr_4 h => ?_)
      refine X.goto (tgt := 59) C dX5_readNumber_51 (by decide) ?_
      refine X.iload_n C dX5_readNumber_59 rfl 0 rfl ?_
      cases h
      exact X.iret C dX5_readNumber_60 (Nat.zero_le _) (Nat.zero_le _)
    refine X.aload_n C dX5_readNumber_20 rfl 0 rfl ?_
    refine X.iconst C dX5_readNumber_21 ?_
    refine X.callVv (q0 := 0) (As := [vi 1]) (rest := []) (W1 := fun rr_5 => (W_L G ql qy qp rr_5 Y P)) (ws2 := fun rr_5 => (W_L G ql qy qp rr_5 Y P)) C h dX5_readNumber_22 ml_X5_92 mX5_note (fun v hv => kX5_note ql qy qp L Y P 1 v hv) (fun rr_5 => ln_L_L_l_y_p_L (G := G) (ql := ql) (qy := qy) (qp := qp) (L := L) (Y := Y) (P := P) (NL := rr_5)) rfl rfl rfl rfl rfl rfl rfl rfl (fun rr_5 h => ?_)
    refine X.iconst C dX5_readNumber_25 ?_
    cases h
    exact X.iret C dX5_readNumber_26 (Nat.zero_le _) (Nat.zero_le _)
  refine X.iconst C dX5_readNumber_7 ?_
  cases h
  exact X.iret C dX5_readNumber_8 (Nat.zero_le _) (Nat.zero_le _)
def rX5_readSquare : Room := { frames := 7, cells := 0, slots := 0, locals := 203 }
theorem mX5_readSquare : MV yX5_readSquare cX5_readSquare 1 none 0 := ⟨cd_X5_readSquare, in_X5, ⟨⟨by decide, by decide⟩, by decide +kernel⟩, im_X5_readSquare, se_X5_readSquare⟩
set_option maxHeartbeats 4000000 in
set_option maxRecDepth 100000 in
theorem kX5_readSquare {l : Launch} {G : GT} (ql : Nat → Nat) (qy : Nat → Nat) (qp : Nat → Nat) (L : Ob) (Y : Ob) (P : Ob) (v : (Ob × Ob × Ob)) (h : fX5_readSquare L Y P = some v) : CT l G yX5_readSquare cX5_readSquare 1 none rX5_readSquare [.ref (ql 31)] (W_L G ql qy qp L Y P) (W_L G ql qy qp v.1 v.2.1 v.2.2) none := by
  unfold fX5_readSquare at h
  refine CT.of (by decide) (Nat.le_of_ble_eq_true rfl) rfl (fun κ _ C => ?_)
  refine X.aload_n C dX5_readSquare_0 rfl 0 rfl ?_
  refine X.ldcS (q := ("TableNine$Teller", 99, "square", 13)) C (by decide) rfl dX5_readSquare_1 ?_
  refine X.callVv (q0 := 0) (As := [.ref (G.2.2.2.1 13)]) (rest := []) (W1 := fun rr_1 => (W_L G ql qy qp rr_1.1 rr_1.2 P)) (ws2 := fun rr_1 => (W_L G ql qy qp rr_1.1 rr_1.2 P)) C h dX5_readSquare_3 ml_X5_101 mX5_readWord (fun v hv => kX5_readWord ql qy qp L Y P 13 v hv) (fun rr_1 => ln_L_L_l_y_p_LY (G := G) (ql := ql) (qy := qy) (qp := qp) (L := L) (Y := Y) (P := P) (NL := rr_1.1) (NY := rr_1.2)) rfl rfl rfl rfl rfl rfl rfl rfl (fun rr_1 h => ?_)
  refine X.aload_n C dX5_readSquare_6 rfl 0 rfl ?_
  refine X.ldcS (q := ("TableNine$Teller", 105, "wide", 16)) C (by decide) rfl dX5_readSquare_7 ?_
  refine X.callVv (q0 := 0) (As := [.ref (G.2.2.2.1 16)]) (rest := []) (W1 := fun rr_2 => (W_L G ql qy qp rr_2.1 rr_2.2 P)) (ws2 := fun rr_2 => (W_L G ql qy qp rr_2.1 rr_2.2 P)) C h dX5_readSquare_9 ml_X5_101 mX5_readWord (fun v hv => kX5_readWord ql qy qp rr_1.1 rr_1.2 P 16 v hv) (fun rr_2 => ln_L_L_l_y_p_LY (G := G) (ql := ql) (qy := qy) (qp := qp) (L := rr_1.1) (Y := rr_1.2) (P := P) (NL := rr_2.1) (NY := rr_2.2)) rfl rfl rfl rfl rfl rfl rfl rfl (fun rr_2 h => ?_)
  refine X.aload_n C dX5_readSquare_12 rfl 0 rfl ?_
  refine X.get C dX5_readSquare_13 lay_X5 0 rfl rfl 1 (by decide) fl_X5_19 rfl rfl ?_
  refine X.aload_n C dX5_readSquare_16 rfl 0 rfl ?_
  refine X.iconst C dX5_readSquare_17 ?_
  refine X.bipush C dX5_readSquare_18 (by decide) ?_
  refine X.callVi (q0 := 0) (As := [vi 5, vi 30]) (rest := [.ref (qp 31)]) (g := fun rr_3 => rr_3.1) (W1 := fun rr_3 => (W_L G ql qy qp rr_3.2.1 rr_3.2.2 P)) (ws2 := fun rr_3 => (W_L G ql qy qp rr_3.2.1 rr_3.2.2 P)) C h dX5_readSquare_20 ml_X5_107 mX5_readNumber (fun v hv => kX5_readNumber ql qy qp rr_2.1 rr_2.2 P 5 30 v hv) (fun rr_3 => ln_L_L_l_y_p_LY (G := G) (ql := ql) (qy := qy) (qp := qp) (L := rr_2.1) (Y := rr_2.2) (P := P) (NL := rr_3.2.1) (NY := rr_3.2.2)) rfl rfl rfl rfl rfl rfl rfl rfl (fun rr_3 h => ?_)
  refine X.put (ws2 := (W_L G ql qy qp rr_3.2.1 rr_3.2.2 (up2 P 1 0 rr_3.1))) (ty := .int) C dX5_readSquare_23 lay_X1 tyX1_ok nmX1 3 rfl rfl 1 (by decide) fl_X5_111 rfl rfl (by decide +kernel) rfl rfl (Nat.le_of_ble_eq_true rfl) rfl ?_
  refine X.nameS (ws := fun P_4 => (W_L G ql qy qp rr_3.2.1 rr_3.2.2 P_4)) h (fun P_4 h => ?_)
  refine X.aload_n C dX5_readSquare_26 rfl 0 rfl ?_
  refine X.ldcS (q := ("TableNine$Teller", 113, "long", 7)) C (by decide) rfl dX5_readSquare_27 ?_
  refine X.callVv (q0 := 0) (As := [.ref (G.2.2.2.1 7)]) (rest := []) (W1 := fun rr_5 => (W_L G ql qy qp rr_5.1 rr_5.2 P_4)) (ws2 := fun rr_5 => (W_L G ql qy qp rr_5.1 rr_5.2 P_4)) C h dX5_readSquare_29 ml_X5_101 mX5_readWord (fun v hv => kX5_readWord ql qy qp rr_3.2.1 rr_3.2.2 P_4 7 v hv) (fun rr_5 => ln_L_L_l_y_p_LY (G := G) (ql := ql) (qy := qy) (qp := qp) (L := rr_3.2.1) (Y := rr_3.2.2) (P := P_4) (NL := rr_5.1) (NY := rr_5.2)) rfl rfl rfl rfl rfl rfl rfl rfl (fun rr_5 h => ?_)
  refine X.aload_n C dX5_readSquare_32 rfl 0 rfl ?_
  refine X.get C dX5_readSquare_33 lay_X5 0 rfl rfl 1 (by decide) fl_X5_19 rfl rfl ?_
  refine X.aload_n C dX5_readSquare_36 rfl 0 rfl ?_
  refine X.iconst C dX5_readSquare_37 ?_
  refine X.bipush C dX5_readSquare_38 (by decide) ?_
  refine X.callVi (q0 := 0) (As := [vi 5, vi 30]) (rest := [.ref (qp 31)]) (g := fun rr_6 => rr_6.1) (W1 := fun rr_6 => (W_L G ql qy qp rr_6.2.1 rr_6.2.2 P_4)) (ws2 := fun rr_6 => (W_L G ql qy qp rr_6.2.1 rr_6.2.2 P_4)) C h dX5_readSquare_40 ml_X5_107 mX5_readNumber (fun v hv => kX5_readNumber ql qy qp rr_5.1 rr_5.2 P_4 5 30 v hv) (fun rr_6 => ln_L_L_l_y_p_LY (G := G) (ql := ql) (qy := qy) (qp := qp) (L := rr_5.1) (Y := rr_5.2) (P := P_4) (NL := rr_6.2.1) (NY := rr_6.2.2)) rfl rfl rfl rfl rfl rfl rfl rfl (fun rr_6 h => ?_)
  refine X.put (ws2 := (W_L G ql qy qp rr_6.2.1 rr_6.2.2 (up2 P_4 2 0 rr_6.1))) (ty := .int) C dX5_readSquare_43 lay_X1 tyX1_ok nmX1 3 rfl rfl 2 (by decide) fl_X5_115 rfl rfl (by decide +kernel) rfl rfl (Nat.le_of_ble_eq_true rfl) rfl ?_
  refine X.nameS (ws := fun P_7 => (W_L G ql qy qp rr_6.2.1 rr_6.2.2 P_7)) h (fun P_7 h => ?_)
  refine X.aload_n C dX5_readSquare_46 rfl 0 rfl ?_
  refine X.get C dX5_readSquare_47 lay_X5 0 rfl rfl 1 (by decide) fl_X5_19 rfl rfl ?_
  refine X.aload_n C dX5_readSquare_50 rfl 0 rfl ?_
  refine X.get C dX5_readSquare_51 lay_X5 0 rfl rfl 1 (by decide) fl_X5_19 rfl rfl ?_
  refine X.get C dX5_readSquare_54 lay_X1 3 rfl rfl 1 (by decide) fl_X5_111 rfl rfl ?_
  refine X.iconst C dX5_readSquare_57 ?_
  refine X.idiv C (by decide) dX5_readSquare_58 ?_
  refine X.put (ws2 := (W_L G ql qy qp rr_6.2.1 rr_6.2.2 (up2 P_7 3 0 (jdv (P_7 1 0) 2)))) (ty := .int) C dX5_readSquare_59 lay_X1 tyX1_ok nmX1 3 rfl rfl 3 (by decide) fl_X5_118 rfl rfl (by decide +kernel) rfl rfl (Nat.le_of_ble_eq_true rfl) rfl ?_
  refine X.nameS (ws := fun P_8 => (W_L G ql qy qp rr_6.2.1 rr_6.2.2 P_8)) h (fun P_8 h => ?_)
  refine X.aload_n C dX5_readSquare_62 rfl 0 rfl ?_
  refine X.get C dX5_readSquare_63 lay_X5 0 rfl rfl 1 (by decide) fl_X5_19 rfl rfl ?_
  refine X.aload_n C dX5_readSquare_66 rfl 0 rfl ?_
  refine X.get C dX5_readSquare_67 lay_X5 0 rfl rfl 1 (by decide) fl_X5_19 rfl rfl ?_
  refine X.get C dX5_readSquare_70 lay_X1 3 rfl rfl 2 (by decide) fl_X5_115 rfl rfl ?_
  refine X.iconst C dX5_readSquare_73 ?_
  refine X.idiv C (by decide) dX5_readSquare_74 ?_
  refine X.put (ws2 := (W_L G ql qy qp rr_6.2.1 rr_6.2.2 (up2 P_8 4 0 (jdv (P_8 2 0) 2)))) (ty := .int) C dX5_readSquare_75 lay_X1 tyX1_ok nmX1 3 rfl rfl 4 (by decide) fl_X5_121 rfl rfl (by decide +kernel) rfl rfl (Nat.le_of_ble_eq_true rfl) rfl ?_
  refine X.nameS (ws := fun P_9 => (W_L G ql qy qp rr_6.2.1 rr_6.2.2 P_9)) h (fun P_9 h => ?_)
  refine X.aload_n C dX5_readSquare_78 rfl 0 rfl ?_
  refine X.get C dX5_readSquare_79 lay_X5 0 rfl rfl 1 (by decide) fl_X5_19 rfl rfl ?_
  refine X.iconst C dX5_readSquare_82 ?_
  refine X.put (ws2 := (W_L G ql qy qp rr_6.2.1 rr_6.2.2 (up2 P_9 5 0 1))) (ty := .int) C dX5_readSquare_83 lay_X1 tyX1_ok nmX1 3 rfl rfl 5 (by decide) fl_X5_124 rfl rfl (by decide +kernel) rfl rfl (Nat.le_of_ble_eq_true rfl) rfl ?_
  refine X.nameS (ws := fun P_10 => (W_L G ql qy qp rr_6.2.1 rr_6.2.2 P_10)) h (fun P_10 h => ?_)
  refine X.aload_n C dX5_readSquare_86 rfl 0 rfl ?_
  refine X.get C dX5_readSquare_87 lay_X5 0 rfl rfl 1 (by decide) fl_X5_19 rfl rfl ?_
  refine X.bipush C dX5_readSquare_90 (by decide) ?_
  refine X.put (ws2 := (W_L G ql qy qp rr_6.2.1 rr_6.2.2 (up2 P_10 6 0 30))) (ty := .int) C dX5_readSquare_92 lay_X1 tyX1_ok nmX1 3 rfl rfl 6 (by decide) fl_X5_127 rfl rfl (by decide +kernel) rfl rfl (Nat.le_of_ble_eq_true rfl) rfl ?_
  refine X.nameS (ws := fun P_11 => (W_L G ql qy qp rr_6.2.1 rr_6.2.2 P_11)) h (fun P_11 h => ?_)
  refine X.aload_n C dX5_readSquare_95 rfl 0 rfl ?_
  refine X.get C dX5_readSquare_96 lay_X5 0 rfl rfl 1 (by decide) fl_X5_19 rfl rfl ?_
  refine X.bipush C dX5_readSquare_99 (by decide) ?_
  refine X.put (ws2 := (W_L G ql qy qp rr_6.2.1 rr_6.2.2 (up2 P_11 10 0 60))) (ty := .int) C dX5_readSquare_101 lay_X1 tyX1_ok nmX1 3 rfl rfl 10 (by decide) fl_X5_130 rfl rfl (by decide +kernel) rfl rfl (Nat.le_of_ble_eq_true rfl) rfl ?_
  refine X.nameS (ws := fun P_12 => (W_L G ql qy qp rr_6.2.1 rr_6.2.2 P_12)) h (fun P_12 h => ?_)
  cases h
  exact X.vret C dX5_readSquare_104 (Nat.zero_le _) (Nat.zero_le _)
def rX5_readOnce : Room := { frames := 1, cells := 0, slots := 0, locals := 21 }
theorem mX5_readOnce : MV yX5_readOnce cX5_readOnce 2 none 1 := ⟨cd_X5_readOnce, in_X5, ⟨⟨by decide, by decide⟩, by decide +kernel⟩, im_X5_readOnce, se_X5_readOnce⟩
set_option maxHeartbeats 4000000 in
set_option maxRecDepth 100000 in
theorem kX5_readOnce {l : Launch} {G : GT} (ql : Nat → Nat) (qy : Nat → Nat) (qp : Nat → Nat) (L : Ob) (Y : Ob) (P : Ob) (lx1 : Int) (v : (Ob)) (h : fX5_readOnce L Y P lx1 = some v) : CT l G yX5_readOnce cX5_readOnce 2 none rX5_readOnce [.ref (ql 31), vi lx1] (W_L G ql qy qp L Y P) (W_L G ql qy qp v Y P) none := by
  unfold fX5_readOnce at h
  refine CT.of (by decide) (Nat.le_of_ble_eq_true rfl) rfl (fun κ _ C => ?_)
  refine X.iload_n C dX5_readOnce_0 rfl 1 rfl ?_
  refine X.if_eq (tgt := 9) C h dX5_readOnce_1 (by decide) (fun h => ?_) (fun h => ?_)
  · cases h
    exact X.vret C dX5_readOnce_9 (Nat.zero_le _) (Nat.zero_le _)
  refine X.aload_n C dX5_readOnce_4 rfl 0 rfl ?_
  refine X.iconst C dX5_readOnce_5 ?_
  refine X.callVv (q0 := 0) (As := [vi 2]) (rest := []) (W1 := fun rr_1 => (W_L G ql qy qp rr_1 Y P)) (ws2 := fun rr_1 => (W_L G ql qy qp rr_1 Y P)) C h dX5_readOnce_6 ml_X5_92 mX5_note (fun v hv => kX5_note ql qy qp L Y P 2 v hv) (fun rr_1 => ln_L_L_l_y_p_L (G := G) (ql := ql) (qy := qy) (qp := qp) (L := L) (Y := Y) (P := P) (NL := rr_1)) rfl rfl rfl rfl rfl rfl rfl rfl (fun rr_1 h => ?_)
  cases h
  exact X.vret C dX5_readOnce_9 (Nat.zero_le _) (Nat.zero_le _)
def rX5_readJet : Room := { frames := 7, cells := 0, slots := 0, locals := 203 }
theorem mX5_readJet : MV yX5_readJet cX5_readJet 1 none 0 := ⟨cd_X5_readJet, in_X5, ⟨⟨by decide, by decide⟩, by decide +kernel⟩, im_X5_readJet, se_X5_readJet⟩
set_option maxHeartbeats 4000000 in
set_option maxRecDepth 100000 in
theorem kX5_readJet {l : Launch} {G : GT} (ql : Nat → Nat) (qy : Nat → Nat) (qp : Nat → Nat) (L : Ob) (Y : Ob) (P : Ob) (v : (Ob × Ob × Ob)) (h : fX5_readJet L Y P = some v) : CT l G yX5_readJet cX5_readJet 1 none rX5_readJet [.ref (ql 31)] (W_L G ql qy qp L Y P) (W_L G ql qy qp v.1 v.2.1 v.2.2) none := by
  unfold fX5_readJet at h
  refine CT.of (by decide) (Nat.le_of_ble_eq_true rfl) rfl (fun κ _ C => ?_)
  refine X.aload_n C dX5_readJet_0 rfl 0 rfl ?_
  refine X.aload_n C dX5_readJet_1 rfl 0 rfl ?_
  refine X.get C dX5_readJet_2 lay_X5 0 rfl rfl 4 (by decide) fl_X5_26 rfl rfl ?_
  refine X.callVv (q0 := 0) (As := [vi (L 4 0)]) (rest := []) (W1 := fun rr_1 => (W_L G ql qy qp rr_1 Y P)) (ws2 := fun rr_1 => (W_L G ql qy qp rr_1 Y P)) C h dX5_readJet_5 ml_X5_133 mX5_readOnce (fun v hv => kX5_readOnce ql qy qp L Y P (L 4 0) v hv) (fun rr_1 => ln_L_L_l_y_p_L (G := G) (ql := ql) (qy := qy) (qp := qp) (L := L) (Y := Y) (P := P) (NL := rr_1)) rfl rfl rfl rfl rfl rfl rfl rfl (fun rr_1 h => ?_)
  refine X.aload_n C dX5_readJet_8 rfl 0 rfl ?_
  refine X.iconst C dX5_readJet_9 ?_
  refine X.put (ws2 := (W_L G ql qy qp (up2 rr_1 4 0 1) Y P)) (ty := .boolean) C dX5_readJet_10 lay_X5 tyX5_ok nmX5 0 rfl rfl 4 (by decide) fl_X5_26 rfl rfl (by decide +kernel) rfl rfl (Nat.le_of_ble_eq_true rfl) rfl ?_
  refine X.nameS (ws := fun L_2 => (W_L G ql qy qp L_2 Y P)) h (fun L_2 h => ?_)
  refine X.aload_n C dX5_readJet_13 rfl 0 rfl ?_
  refine X.ldcS (q := ("TableNine$Teller", 58, "jet", 5)) C (by decide) rfl dX5_readJet_14 ?_
  refine X.callVv (q0 := 0) (As := [.ref (G.2.2.2.1 5)]) (rest := []) (W1 := fun rr_3 => (W_L G ql qy qp rr_3.1 rr_3.2 P)) (ws2 := fun rr_3 => (W_L G ql qy qp rr_3.1 rr_3.2 P)) C h dX5_readJet_16 ml_X5_101 mX5_readWord (fun v hv => kX5_readWord ql qy qp L_2 Y P 5 v hv) (fun rr_3 => ln_L_L_l_y_p_LY (G := G) (ql := ql) (qy := qy) (qp := qp) (L := L_2) (Y := Y) (P := P) (NL := rr_3.1) (NY := rr_3.2)) rfl rfl rfl rfl rfl rfl rfl rfl (fun rr_3 h => ?_)
  refine X.aload_n C dX5_readJet_19 rfl 0 rfl ?_
  refine X.ldcS (q := ("TableNine$Teller", 137, "at", 0)) C (by decide) rfl dX5_readJet_20 ?_
  refine X.callVv (q0 := 0) (As := [.ref (G.2.2.2.1 0)]) (rest := []) (W1 := fun rr_4 => (W_L G ql qy qp rr_4.1 rr_4.2 P)) (ws2 := fun rr_4 => (W_L G ql qy qp rr_4.1 rr_4.2 P)) C h dX5_readJet_22 ml_X5_101 mX5_readWord (fun v hv => kX5_readWord ql qy qp rr_3.1 rr_3.2 P 0 v hv) (fun rr_4 => ln_L_L_l_y_p_LY (G := G) (ql := ql) (qy := qy) (qp := qp) (L := rr_3.1) (Y := rr_3.2) (P := P) (NL := rr_4.1) (NY := rr_4.2)) rfl rfl rfl rfl rfl rfl rfl rfl (fun rr_4 h => ?_)
  refine X.aload_n C dX5_readJet_25 rfl 0 rfl ?_
  refine X.get C dX5_readJet_26 lay_X5 0 rfl rfl 1 (by decide) fl_X5_19 rfl rfl ?_
  refine X.aload_n C dX5_readJet_29 rfl 0 rfl ?_
  refine X.iconst C dX5_readJet_30 ?_
  refine X.aload_n C dX5_readJet_31 rfl 0 rfl ?_
  refine X.get C dX5_readJet_32 lay_X5 0 rfl rfl 1 (by decide) fl_X5_19 rfl rfl ?_
  refine X.get C dX5_readJet_35 lay_X1 3 rfl rfl 1 (by decide) fl_X5_111 rfl rfl ?_
  refine X.iconst C dX5_readJet_38 ?_
  refine X.isub C dX5_readJet_39 ?_
  refine X.callVi (q0 := 0) (As := [vi 0, vi ((P 1 0) - 1)]) (rest := [.ref (qp 31)]) (g := fun rr_5 => rr_5.1) (W1 := fun rr_5 => (W_L G ql qy qp rr_5.2.1 rr_5.2.2 P)) (ws2 := fun rr_5 => (W_L G ql qy qp rr_5.2.1 rr_5.2.2 P)) C h dX5_readJet_40 ml_X5_107 mX5_readNumber (fun v hv => kX5_readNumber ql qy qp rr_4.1 rr_4.2 P 0 ((P 1 0) - 1) v hv) (fun rr_5 => ln_L_L_l_y_p_LY (G := G) (ql := ql) (qy := qy) (qp := qp) (L := rr_4.1) (Y := rr_4.2) (P := P) (NL := rr_5.2.1) (NY := rr_5.2.2)) rfl rfl rfl rfl rfl rfl rfl rfl (fun rr_5 h => ?_)
  refine X.put (ws2 := (W_L G ql qy qp rr_5.2.1 rr_5.2.2 (up2 P 3 0 rr_5.1))) (ty := .int) C dX5_readJet_43 lay_X1 tyX1_ok nmX1 3 rfl rfl 3 (by decide) fl_X5_118 rfl rfl (by decide +kernel) rfl rfl (Nat.le_of_ble_eq_true rfl) rfl ?_
  refine X.nameS (ws := fun P_6 => (W_L G ql qy qp rr_5.2.1 rr_5.2.2 P_6)) h (fun P_6 h => ?_)
  refine X.aload_n C dX5_readJet_46 rfl 0 rfl ?_
  refine X.get C dX5_readJet_47 lay_X5 0 rfl rfl 1 (by decide) fl_X5_19 rfl rfl ?_
  refine X.aload_n C dX5_readJet_50 rfl 0 rfl ?_
  refine X.iconst C dX5_readJet_51 ?_
  refine X.aload_n C dX5_readJet_52 rfl 0 rfl ?_
  refine X.get C dX5_readJet_53 lay_X5 0 rfl rfl 1 (by decide) fl_X5_19 rfl rfl ?_
  refine X.get C dX5_readJet_56 lay_X1 3 rfl rfl 2 (by decide) fl_X5_115 rfl rfl ?_
  refine X.iconst C dX5_readJet_59 ?_
  refine X.isub C dX5_readJet_60 ?_
  refine X.callVi (q0 := 0) (As := [vi 0, vi ((P_6 2 0) - 1)]) (rest := [.ref (qp 31)]) (g := fun rr_7 => rr_7.1) (W1 := fun rr_7 => (W_L G ql qy qp rr_7.2.1 rr_7.2.2 P_6)) (ws2 := fun rr_7 => (W_L G ql qy qp rr_7.2.1 rr_7.2.2 P_6)) C h dX5_readJet_61 ml_X5_107 mX5_readNumber (fun v hv => kX5_readNumber ql qy qp rr_5.2.1 rr_5.2.2 P_6 0 ((P_6 2 0) - 1) v hv) (fun rr_7 => ln_L_L_l_y_p_LY (G := G) (ql := ql) (qy := qy) (qp := qp) (L := rr_5.2.1) (Y := rr_5.2.2) (P := P_6) (NL := rr_7.2.1) (NY := rr_7.2.2)) rfl rfl rfl rfl rfl rfl rfl rfl (fun rr_7 h => ?_)
  refine X.put (ws2 := (W_L G ql qy qp rr_7.2.1 rr_7.2.2 (up2 P_6 4 0 rr_7.1))) (ty := .int) C dX5_readJet_64 lay_X1 tyX1_ok nmX1 3 rfl rfl 4 (by decide) fl_X5_121 rfl rfl (by decide +kernel) rfl rfl (Nat.le_of_ble_eq_true rfl) rfl ?_
  refine X.nameS (ws := fun P_8 => (W_L G ql qy qp rr_7.2.1 rr_7.2.2 P_8)) h (fun P_8 h => ?_)
  refine X.aload_n C dX5_readJet_67 rfl 0 rfl ?_
  refine X.ldcS (q := ("TableNine$Teller", 139, "half", 3)) C (by decide) rfl dX5_readJet_68 ?_
  refine X.callVv (q0 := 0) (As := [.ref (G.2.2.2.1 3)]) (rest := []) (W1 := fun rr_9 => (W_L G ql qy qp rr_9.1 rr_9.2 P_8)) (ws2 := fun rr_9 => (W_L G ql qy qp rr_9.1 rr_9.2 P_8)) C h dX5_readJet_70 ml_X5_101 mX5_readWord (fun v hv => kX5_readWord ql qy qp rr_7.2.1 rr_7.2.2 P_8 3 v hv) (fun rr_9 => ln_L_L_l_y_p_LY (G := G) (ql := ql) (qy := qy) (qp := qp) (L := rr_7.2.1) (Y := rr_7.2.2) (P := P_8) (NL := rr_9.1) (NY := rr_9.2)) rfl rfl rfl rfl rfl rfl rfl rfl (fun rr_9 h => ?_)
  refine X.aload_n C dX5_readJet_73 rfl 0 rfl ?_
  refine X.get C dX5_readJet_74 lay_X5 0 rfl rfl 1 (by decide) fl_X5_19 rfl rfl ?_
  refine X.aload_n C dX5_readJet_77 rfl 0 rfl ?_
  refine X.iconst C dX5_readJet_78 ?_
  refine X.bipush C dX5_readJet_79 (by decide) ?_
  refine X.callVi (q0 := 0) (As := [vi 0, vi 9]) (rest := [.ref (qp 31)]) (g := fun rr_10 => rr_10.1) (W1 := fun rr_10 => (W_L G ql qy qp rr_10.2.1 rr_10.2.2 P_8)) (ws2 := fun rr_10 => (W_L G ql qy qp rr_10.2.1 rr_10.2.2 P_8)) C h dX5_readJet_81 ml_X5_107 mX5_readNumber (fun v hv => kX5_readNumber ql qy qp rr_9.1 rr_9.2 P_8 0 9 v hv) (fun rr_10 => ln_L_L_l_y_p_LY (G := G) (ql := ql) (qy := qy) (qp := qp) (L := rr_9.1) (Y := rr_9.2) (P := P_8) (NL := rr_10.2.1) (NY := rr_10.2.2)) rfl rfl rfl rfl rfl rfl rfl rfl (fun rr_10 h => ?_)
  refine X.put (ws2 := (W_L G ql qy qp rr_10.2.1 rr_10.2.2 (up2 P_8 5 0 rr_10.1))) (ty := .int) C dX5_readJet_84 lay_X1 tyX1_ok nmX1 3 rfl rfl 5 (by decide) fl_X5_124 rfl rfl (by decide +kernel) rfl rfl (Nat.le_of_ble_eq_true rfl) rfl ?_
  refine X.nameS (ws := fun P_11 => (W_L G ql qy qp rr_10.2.1 rr_10.2.2 P_11)) h (fun P_11 h => ?_)
  refine X.aload_n C dX5_readJet_87 rfl 0 rfl ?_
  refine X.ldcS (q := ("TableNine$Teller", 140, "high", 4)) C (by decide) rfl dX5_readJet_88 ?_
  refine X.callVv (q0 := 0) (As := [.ref (G.2.2.2.1 4)]) (rest := []) (W1 := fun rr_12 => (W_L G ql qy qp rr_12.1 rr_12.2 P_11)) (ws2 := fun rr_12 => (W_L G ql qy qp rr_12.1 rr_12.2 P_11)) C h dX5_readJet_90 ml_X5_101 mX5_readWord (fun v hv => kX5_readWord ql qy qp rr_10.2.1 rr_10.2.2 P_11 4 v hv) (fun rr_12 => ln_L_L_l_y_p_LY (G := G) (ql := ql) (qy := qy) (qp := qp) (L := rr_10.2.1) (Y := rr_10.2.2) (P := P_11) (NL := rr_12.1) (NY := rr_12.2)) rfl rfl rfl rfl rfl rfl rfl rfl (fun rr_12 h => ?_)
  refine X.aload_n C dX5_readJet_93 rfl 0 rfl ?_
  refine X.get C dX5_readJet_94 lay_X5 0 rfl rfl 1 (by decide) fl_X5_19 rfl rfl ?_
  refine X.aload_n C dX5_readJet_97 rfl 0 rfl ?_
  refine X.iconst C dX5_readJet_98 ?_
  refine X.bipush C dX5_readJet_99 (by decide) ?_
  refine X.callVi (q0 := 0) (As := [vi 0, vi 60]) (rest := [.ref (qp 31)]) (g := fun rr_13 => rr_13.1) (W1 := fun rr_13 => (W_L G ql qy qp rr_13.2.1 rr_13.2.2 P_11)) (ws2 := fun rr_13 => (W_L G ql qy qp rr_13.2.1 rr_13.2.2 P_11)) C h dX5_readJet_101 ml_X5_107 mX5_readNumber (fun v hv => kX5_readNumber ql qy qp rr_12.1 rr_12.2 P_11 0 60 v hv) (fun rr_13 => ln_L_L_l_y_p_LY (G := G) (ql := ql) (qy := qy) (qp := qp) (L := rr_12.1) (Y := rr_12.2) (P := P_11) (NL := rr_13.2.1) (NY := rr_13.2.2)) rfl rfl rfl rfl rfl rfl rfl rfl (fun rr_13 h => ?_)
  refine X.put (ws2 := (W_L G ql qy qp rr_13.2.1 rr_13.2.2 (up2 P_11 6 0 rr_13.1))) (ty := .int) C dX5_readJet_104 lay_X1 tyX1_ok nmX1 3 rfl rfl 6 (by decide) fl_X5_127 rfl rfl (by decide +kernel) rfl rfl (Nat.le_of_ble_eq_true rfl) rfl ?_
  refine X.nameS (ws := fun P_14 => (W_L G ql qy qp rr_13.2.1 rr_13.2.2 P_14)) h (fun P_14 h => ?_)
  cases h
  exact X.vret C dX5_readJet_107 (Nat.zero_le _) (Nat.zero_le _)
def rX5_readSize : Room := { frames := 7, cells := 0, slots := 0, locals := 203 }
theorem mX5_readSize : MV yX5_readSize cX5_readSize 2 none 0 := ⟨cd_X5_readSize, in_X5, ⟨⟨by decide, by decide⟩, by decide +kernel⟩, im_X5_readSize, se_X5_readSize⟩
set_option maxHeartbeats 4000000 in
set_option maxRecDepth 100000 in
theorem kX5_readSize {l : Launch} {G : GT} (ql : Nat → Nat) (qy : Nat → Nat) (qp : Nat → Nat) (L : Ob) (Y : Ob) (P : Ob) (v : (Ob × Ob × Ob)) (h : fX5_readSize L Y P = some v) : CT l G yX5_readSize cX5_readSize 2 none rX5_readSize [.ref (ql 31)] (W_L G ql qy qp L Y P) (W_L G ql qy qp v.1 v.2.1 v.2.2) none := by
  unfold fX5_readSize at h
  refine CT.of (by decide) (Nat.le_of_ble_eq_true rfl) rfl (fun κ _ C => ?_)
  refine X.aload_n C dX5_readSize_0 rfl 0 rfl ?_
  refine X.get C dX5_readSize_1 lay_X5 0 rfl rfl 1 (by decide) fl_X5_19 rfl rfl ?_
  refine X.get C dX5_readSize_4 lay_X1 3 rfl rfl 11 (by decide) fl_X5_141 rfl rfl ?_
  refine X.istoreN_n (lv2 := fun lx1_1 => [(1, vi lx1_1), (0, .ref (ql 31))]) C h dX5_readSize_7 rfl (by decide) (fun _ => rfl) (fun lx1_1 h => ?_)
  refine X.iload_n C dX5_readSize_8 rfl 0 rfl ?_
  refine X.iconst C dX5_readSize_9 ?_
  refine X.icmp_lt (tgt := 19) C h dX5_readSize_10 (by decide) (fun h => ?_) (fun h => ?_)
  · refine X.aload_n C dX5_readSize_19 rfl 1 rfl ?_
    refine X.ldcS (q := ("TableNine$Teller", 67, "size", 12)) C (by decide) rfl dX5_readSize_20 ?_
    refine X.callVv (q0 := 0) (As := [.ref (G.2.2.2.1 12)]) (rest := []) (W1 := fun rr_2 => (W_L G ql qy qp rr_2.1 rr_2.2 P)) (ws2 := fun rr_2 => (W_L G ql qy qp rr_2.1 rr_2.2 P)) C h dX5_readSize_22 ml_X5_101 mX5_readWord (fun v hv => kX5_readWord ql qy qp L Y P 12 v hv) (fun rr_2 => ln_L_L_l_y_p_LY (G := G) (ql := ql) (qy := qy) (qp := qp) (L := L) (Y := Y) (P := P) (NL := rr_2.1) (NY := rr_2.2)) rfl rfl rfl rfl rfl rfl rfl rfl (fun rr_2 h => ?_)
    refine X.aload_n C dX5_readSize_25 rfl 1 rfl ?_
    refine X.ldcS (q := ("TableNine$Teller", 144, "drag", 2)) C (by decide) rfl dX5_readSize_26 ?_
    refine X.callVv (q0 := 0) (As := [.ref (G.2.2.2.1 2)]) (rest := []) (W1 := fun rr_3 => (W_L G ql qy qp rr_3.1 rr_3.2 P)) (ws2 := fun rr_3 => (W_L G ql qy qp rr_3.1 rr_3.2 P)) C h dX5_readSize_28 ml_X5_101 mX5_readWord (fun v hv => kX5_readWord ql qy qp rr_2.1 rr_2.2 P 2 v hv) (fun rr_3 => ln_L_L_l_y_p_LY (G := G) (ql := ql) (qy := qy) (qp := qp) (L := rr_2.1) (Y := rr_2.2) (P := P) (NL := rr_3.1) (NY := rr_3.2)) rfl rfl rfl rfl rfl rfl rfl rfl (fun rr_3 h => ?_)
    refine X.aload_n C dX5_readSize_31 rfl 1 rfl ?_
    refine X.get C dX5_readSize_32 lay_X5 0 rfl rfl 1 (by decide) fl_X5_19 rfl rfl ?_
    refine X.get C dX5_readSize_35 lay_X1 3 rfl rfl 12 (by decide) fl_X5_146 rfl rfl ?_
    refine X.iload_n C dX5_readSize_38 rfl 0 rfl ?_
    refine X.aload_n C dX5_readSize_39 rfl 1 rfl ?_
    refine X.iconst C dX5_readSize_40 ?_
    refine X.bipush C dX5_readSize_41 (by decide) ?_
    refine X.callVi (q0 := 0) (As := [vi 0, vi 99]) (rest := [vi lx1_1, .ref (qp 12)]) (g := fun rr_4 => rr_4.1) (W1 := fun rr_4 => (W_L G ql qy qp rr_4.2.1 rr_4.2.2 P)) (ws2 := fun rr_4 => (W_L G ql qy qp rr_4.2.1 rr_4.2.2 P)) C h dX5_readSize_43 ml_X5_107 mX5_readNumber (fun v hv => kX5_readNumber ql qy qp rr_3.1 rr_3.2 P 0 99 v hv) (fun rr_4 => ln_L_L_l_y_p_LY (G := G) (ql := ql) (qy := qy) (qp := qp) (L := rr_3.1) (Y := rr_3.2) (P := P) (NL := rr_4.2.1) (NY := rr_4.2.2)) rfl rfl rfl rfl rfl rfl rfl rfl (fun rr_4 h => ?_)
    refine X.iast (ws2 := (W_L G ql qy qp rr_4.2.1 rr_4.2.2 (up2 P 12 (ix lx1_1) rr_4.1))) C h dX5_readSize_46 4 rfl rfl (fun h => ?_)
    refine X.nameS (ws := fun P_5 => (W_L G ql qy qp rr_4.2.1 rr_4.2.2 P_5)) h (fun P_5 h => ?_)
    refine X.aload_n C dX5_readSize_47 rfl 1 rfl ?_
    refine X.ldcS (q := ("TableNine$Teller", 149, "share", 11)) C (by decide) rfl dX5_readSize_48 ?_
    refine X.callVv (q0 := 0) (As := [.ref (G.2.2.2.1 11)]) (rest := []) (W1 := fun rr_6 => (W_L G ql qy qp rr_6.1 rr_6.2 P_5)) (ws2 := fun rr_6 => (W_L G ql qy qp rr_6.1 rr_6.2 P_5)) C h dX5_readSize_50 ml_X5_101 mX5_readWord (fun v hv => kX5_readWord ql qy qp rr_4.2.1 rr_4.2.2 P_5 11 v hv) (fun rr_6 => ln_L_L_l_y_p_LY (G := G) (ql := ql) (qy := qy) (qp := qp) (L := rr_4.2.1) (Y := rr_4.2.2) (P := P_5) (NL := rr_6.1) (NY := rr_6.2)) rfl rfl rfl rfl rfl rfl rfl rfl (fun rr_6 h => ?_)
    refine X.aload_n C dX5_readSize_53 rfl 1 rfl ?_
    refine X.get C dX5_readSize_54 lay_X5 0 rfl rfl 1 (by decide) fl_X5_19 rfl rfl ?_
    refine X.get C dX5_readSize_57 lay_X1 3 rfl rfl 13 (by decide) fl_X5_151 rfl rfl ?_
    refine X.iload_n C dX5_readSize_60 rfl 0 rfl ?_
    refine X.aload_n C dX5_readSize_61 rfl 1 rfl ?_
    refine X.iconst C dX5_readSize_62 ?_
    refine X.bipush C dX5_readSize_63 (by decide) ?_
    refine X.callVi (q0 := 0) (As := [vi 1, vi 9]) (rest := [vi lx1_1, .ref (qp 13)]) (g := fun rr_7 => rr_7.1) (W1 := fun rr_7 => (W_L G ql qy qp rr_7.2.1 rr_7.2.2 P_5)) (ws2 := fun rr_7 => (W_L G ql qy qp rr_7.2.1 rr_7.2.2 P_5)) C h dX5_readSize_65 ml_X5_107 mX5_readNumber (fun v hv => kX5_readNumber ql qy qp rr_6.1 rr_6.2 P_5 1 9 v hv) (fun rr_7 => ln_L_L_l_y_p_LY (G := G) (ql := ql) (qy := qy) (qp := qp) (L := rr_6.1) (Y := rr_6.2) (P := P_5) (NL := rr_7.2.1) (NY := rr_7.2.2)) rfl rfl rfl rfl rfl rfl rfl rfl (fun rr_7 h => ?_)
    refine X.iast (ws2 := (W_L G ql qy qp rr_7.2.1 rr_7.2.2 (up2 P_5 13 (ix lx1_1) rr_7.1))) C h dX5_readSize_68 5 rfl rfl (fun h => ?_)
    refine X.nameS (ws := fun P_8 => (W_L G ql qy qp rr_7.2.1 rr_7.2.2 P_8)) h (fun P_8 h => ?_)
    refine X.aload_n C dX5_readSize_69 rfl 1 rfl ?_
    refine X.get C dX5_readSize_70 lay_X5 0 rfl rfl 1 (by decide) fl_X5_19 rfl rfl ?_
    refine X.dup C dX5_readSize_73 rfl ?_
    refine X.get C dX5_readSize_74 lay_X1 3 rfl rfl 11 (by decide) fl_X5_141 rfl rfl ?_
    refine X.iconst C dX5_readSize_77 ?_
    refine X.iadd C dX5_readSize_78 ?_
    refine X.put (ws2 := (W_L G ql qy qp rr_7.2.1 rr_7.2.2 (up2 P_8 11 0 ((P_8 11 0) + 1)))) (ty := .int) C dX5_readSize_79 lay_X1 tyX1_ok nmX1 3 rfl rfl 11 (by decide) fl_X5_141 rfl rfl (by decide +kernel) rfl rfl (Nat.le_of_ble_eq_true rfl) rfl ?_
    refine X.nameS (ws := fun P_9 => (W_L G ql qy qp rr_7.2.1 rr_7.2.2 P_9)) h (fun P_9 h => ?_)
    cases h
    exact X.vret C dX5_readSize_82 (Nat.zero_le _) (Nat.zero_le _)
  refine X.aload_n C dX5_readSize_13 rfl 1 rfl ?_
  refine X.iconst C dX5_readSize_14 ?_
  refine X.callVv (q0 := 0) (As := [vi 3]) (rest := []) (W1 := fun rr_10 => (W_L G ql qy qp rr_10 Y P)) (ws2 := fun rr_10 => (W_L G ql qy qp rr_10 Y P)) C h dX5_readSize_15 ml_X5_92 mX5_note (fun v hv => kX5_note ql qy qp L Y P 3 v hv) (fun rr_10 => ln_L_L_l_y_p_L (G := G) (ql := ql) (qy := qy) (qp := qp) (L := L) (Y := Y) (P := P) (NL := rr_10)) rfl rfl rfl rfl rfl rfl rfl rfl (fun rr_10 h => ?_)
  cases h
  exact X.vret C dX5_readSize_18 (Nat.zero_le _) (Nat.zero_le _)
def rX5_readTable : Room := { frames := 7, cells := 0, slots := 0, locals := 203 }
theorem mX5_readTable : MV yX5_readTable cX5_readTable 2 none 0 := ⟨cd_X5_readTable, in_X5, ⟨⟨by decide, by decide⟩, by decide +kernel⟩, im_X5_readTable, se_X5_readTable⟩
set_option maxHeartbeats 4000000 in
set_option maxRecDepth 100000 in
theorem kX5_readTable {l : Launch} {G : GT} (ql : Nat → Nat) (qy : Nat → Nat) (qp : Nat → Nat) (L : Ob) (Y : Ob) (P : Ob) (v : (Ob × Ob × Ob)) (h : fX5_readTable L Y P = some v) : CT l G yX5_readTable cX5_readTable 2 none rX5_readTable [.ref (ql 31)] (W_L G ql qy qp L Y P) (W_L G ql qy qp v.1 v.2.1 v.2.2) none := by
  unfold fX5_readTable at h
  refine CT.of (by decide) (Nat.le_of_ble_eq_true rfl) rfl (fun κ _ C => ?_)
  refine X.aload_n C dX5_readTable_0 rfl 0 rfl ?_
  refine X.get C dX5_readTable_1 lay_X5 0 rfl rfl 1 (by decide) fl_X5_19 rfl rfl ?_
  refine X.get C dX5_readTable_4 lay_X1 3 rfl rfl 14 (by decide) fl_X5_153 rfl rfl ?_
  refine X.istoreN_n (lv2 := fun lx1_1 => [(1, vi lx1_1), (0, .ref (ql 31))]) C h dX5_readTable_7 rfl (by decide) (fun _ => rfl) (fun lx1_1 h => ?_)
  refine X.iload_n C dX5_readTable_8 rfl 0 rfl ?_
  refine X.bipush C dX5_readTable_9 (by decide) ?_
  refine X.icmp_lt (tgt := 20) C h dX5_readTable_11 (by decide) (fun h => ?_) (fun h => ?_)
  · refine X.aload_n C dX5_readTable_20 rfl 1 rfl ?_
    refine X.ldcS (q := ("TableNine$Teller", 72, "table", 14)) C (by decide) rfl dX5_readTable_21 ?_
    refine X.callVv (q0 := 0) (As := [.ref (G.2.2.2.1 14)]) (rest := []) (W1 := fun rr_2 => (W_L G ql qy qp rr_2.1 rr_2.2 P)) (ws2 := fun rr_2 => (W_L G ql qy qp rr_2.1 rr_2.2 P)) C h dX5_readTable_23 ml_X5_101 mX5_readWord (fun v hv => kX5_readWord ql qy qp L Y P 14 v hv) (fun rr_2 => ln_L_L_l_y_p_LY (G := G) (ql := ql) (qy := qy) (qp := qp) (L := L) (Y := Y) (P := P) (NL := rr_2.1) (NY := rr_2.2)) rfl rfl rfl rfl rfl rfl rfl rfl (fun rr_2 h => ?_)
    refine X.aload_n C dX5_readTable_26 rfl 1 rfl ?_
    refine X.ldcS (q := ("TableNine$Teller", 137, "at", 0)) C (by decide) rfl dX5_readTable_27 ?_
    refine X.callVv (q0 := 0) (As := [.ref (G.2.2.2.1 0)]) (rest := []) (W1 := fun rr_3 => (W_L G ql qy qp rr_3.1 rr_3.2 P)) (ws2 := fun rr_3 => (W_L G ql qy qp rr_3.1 rr_3.2 P)) C h dX5_readTable_29 ml_X5_101 mX5_readWord (fun v hv => kX5_readWord ql qy qp rr_2.1 rr_2.2 P 0 v hv) (fun rr_3 => ln_L_L_l_y_p_LY (G := G) (ql := ql) (qy := qy) (qp := qp) (L := rr_2.1) (Y := rr_2.2) (P := P) (NL := rr_3.1) (NY := rr_3.2)) rfl rfl rfl rfl rfl rfl rfl rfl (fun rr_3 h => ?_)
    refine X.aload_n C dX5_readTable_32 rfl 1 rfl ?_
    refine X.get C dX5_readTable_33 lay_X5 0 rfl rfl 1 (by decide) fl_X5_19 rfl rfl ?_
    refine X.get C dX5_readTable_36 lay_X1 3 rfl rfl 15 (by decide) fl_X5_156 rfl rfl ?_
    refine X.iload_n C dX5_readTable_39 rfl 0 rfl ?_
    refine X.aload_n C dX5_readTable_40 rfl 1 rfl ?_
    refine X.iconst C dX5_readTable_41 ?_
    refine X.aload_n C dX5_readTable_42 rfl 1 rfl ?_
    refine X.get C dX5_readTable_43 lay_X5 0 rfl rfl 1 (by decide) fl_X5_19 rfl rfl ?_
    refine X.get C dX5_readTable_46 lay_X1 3 rfl rfl 1 (by decide) fl_X5_111 rfl rfl ?_
    refine X.iconst C dX5_readTable_49 ?_
    refine X.isub C dX5_readTable_50 ?_
    refine X.callVi (q0 := 0) (As := [vi 0, vi ((P 1 0) - 1)]) (rest := [vi lx1_1, .ref (qp 15)]) (g := fun rr_4 => rr_4.1) (W1 := fun rr_4 => (W_L G ql qy qp rr_4.2.1 rr_4.2.2 P)) (ws2 := fun rr_4 => (W_L G ql qy qp rr_4.2.1 rr_4.2.2 P)) C h dX5_readTable_51 ml_X5_107 mX5_readNumber (fun v hv => kX5_readNumber ql qy qp rr_3.1 rr_3.2 P 0 ((P 1 0) - 1) v hv) (fun rr_4 => ln_L_L_l_y_p_LY (G := G) (ql := ql) (qy := qy) (qp := qp) (L := rr_3.1) (Y := rr_3.2) (P := P) (NL := rr_4.2.1) (NY := rr_4.2.2)) rfl rfl rfl rfl rfl rfl rfl rfl (fun rr_4 h => ?_)
    refine X.iast (ws2 := (W_L G ql qy qp rr_4.2.1 rr_4.2.2 (up2 P 15 (ix lx1_1) rr_4.1))) C h dX5_readTable_54 6 rfl rfl (fun h => ?_)
    refine X.nameS (ws := fun P_5 => (W_L G ql qy qp rr_4.2.1 rr_4.2.2 P_5)) h (fun P_5 h => ?_)
    refine X.aload_n C dX5_readTable_55 rfl 1 rfl ?_
    refine X.get C dX5_readTable_56 lay_X5 0 rfl rfl 1 (by decide) fl_X5_19 rfl rfl ?_
    refine X.get C dX5_readTable_59 lay_X1 3 rfl rfl 16 (by decide) fl_X5_159 rfl rfl ?_
    refine X.iload_n C dX5_readTable_62 rfl 0 rfl ?_
    refine X.aload_n C dX5_readTable_63 rfl 1 rfl ?_
    refine X.iconst C dX5_readTable_64 ?_
    refine X.aload_n C dX5_readTable_65 rfl 1 rfl ?_
    refine X.get C dX5_readTable_66 lay_X5 0 rfl rfl 1 (by decide) fl_X5_19 rfl rfl ?_
    refine X.get C dX5_readTable_69 lay_X1 3 rfl rfl 2 (by decide) fl_X5_115 rfl rfl ?_
    refine X.iconst C dX5_readTable_72 ?_
    refine X.isub C dX5_readTable_73 ?_
    refine X.callVi (q0 := 0) (As := [vi 0, vi ((P_5 2 0) - 1)]) (rest := [vi lx1_1, .ref (qp 16)]) (g := fun rr_6 => rr_6.1) (W1 := fun rr_6 => (W_L G ql qy qp rr_6.2.1 rr_6.2.2 P_5)) (ws2 := fun rr_6 => (W_L G ql qy qp rr_6.2.1 rr_6.2.2 P_5)) C h dX5_readTable_74 ml_X5_107 mX5_readNumber (fun v hv => kX5_readNumber ql qy qp rr_4.2.1 rr_4.2.2 P_5 0 ((P_5 2 0) - 1) v hv) (fun rr_6 => ln_L_L_l_y_p_LY (G := G) (ql := ql) (qy := qy) (qp := qp) (L := rr_4.2.1) (Y := rr_4.2.2) (P := P_5) (NL := rr_6.2.1) (NY := rr_6.2.2)) rfl rfl rfl rfl rfl rfl rfl rfl (fun rr_6 h => ?_)
    refine X.iast (ws2 := (W_L G ql qy qp rr_6.2.1 rr_6.2.2 (up2 P_5 16 (ix lx1_1) rr_6.1))) C h dX5_readTable_77 7 rfl rfl (fun h => ?_)
    refine X.nameS (ws := fun P_7 => (W_L G ql qy qp rr_6.2.1 rr_6.2.2 P_7)) h (fun P_7 h => ?_)
    refine X.aload_n C dX5_readTable_78 rfl 1 rfl ?_
    refine X.ldcS (q := ("TableNine$Teller", 162, "most", 8)) C (by decide) rfl dX5_readTable_79 ?_
    refine X.callVv (q0 := 0) (As := [.ref (G.2.2.2.1 8)]) (rest := []) (W1 := fun rr_8 => (W_L G ql qy qp rr_8.1 rr_8.2 P_7)) (ws2 := fun rr_8 => (W_L G ql qy qp rr_8.1 rr_8.2 P_7)) C h dX5_readTable_81 ml_X5_101 mX5_readWord (fun v hv => kX5_readWord ql qy qp rr_6.2.1 rr_6.2.2 P_7 8 v hv) (fun rr_8 => ln_L_L_l_y_p_LY (G := G) (ql := ql) (qy := qy) (qp := qp) (L := rr_6.2.1) (Y := rr_6.2.2) (P := P_7) (NL := rr_8.1) (NY := rr_8.2)) rfl rfl rfl rfl rfl rfl rfl rfl (fun rr_8 h => ?_)
    refine X.aload_n C dX5_readTable_84 rfl 1 rfl ?_
    refine X.get C dX5_readTable_85 lay_X5 0 rfl rfl 1 (by decide) fl_X5_19 rfl rfl ?_
    refine X.get C dX5_readTable_88 lay_X1 3 rfl rfl 17 (by decide) fl_X5_164 rfl rfl ?_
    refine X.iload_n C dX5_readTable_91 rfl 0 rfl ?_
    refine X.aload_n C dX5_readTable_92 rfl 1 rfl ?_
    refine X.iconst C dX5_readTable_93 ?_
    refine X.sipush C dX5_readTable_94 (by decide) ?_
    refine X.callVi (q0 := 0) (As := [vi 0, vi 999]) (rest := [vi lx1_1, .ref (qp 17)]) (g := fun rr_9 => rr_9.1) (W1 := fun rr_9 => (W_L G ql qy qp rr_9.2.1 rr_9.2.2 P_7)) (ws2 := fun rr_9 => (W_L G ql qy qp rr_9.2.1 rr_9.2.2 P_7)) C h dX5_readTable_97 ml_X5_107 mX5_readNumber (fun v hv => kX5_readNumber ql qy qp rr_8.1 rr_8.2 P_7 0 999 v hv) (fun rr_9 => ln_L_L_l_y_p_LY (G := G) (ql := ql) (qy := qy) (qp := qp) (L := rr_8.1) (Y := rr_8.2) (P := P_7) (NL := rr_9.2.1) (NY := rr_9.2.2)) rfl rfl rfl rfl rfl rfl rfl rfl (fun rr_9 h => ?_)
    refine X.iast (ws2 := (W_L G ql qy qp rr_9.2.1 rr_9.2.2 (up2 P_7 17 (ix lx1_1) rr_9.1))) C h dX5_readTable_100 8 rfl rfl (fun h => ?_)
    refine X.nameS (ws := fun P_10 => (W_L G ql qy qp rr_9.2.1 rr_9.2.2 P_10)) h (fun P_10 h => ?_)
    refine X.aload_n C dX5_readTable_101 rfl 1 rfl ?_
    refine X.get C dX5_readTable_102 lay_X5 0 rfl rfl 1 (by decide) fl_X5_19 rfl rfl ?_
    refine X.dup C dX5_readTable_105 rfl ?_
    refine X.get C dX5_readTable_106 lay_X1 3 rfl rfl 14 (by decide) fl_X5_153 rfl rfl ?_
    refine X.iconst C dX5_readTable_109 ?_
    refine X.iadd C dX5_readTable_110 ?_
    refine X.put (ws2 := (W_L G ql qy qp rr_9.2.1 rr_9.2.2 (up2 P_10 14 0 ((P_10 14 0) + 1)))) (ty := .int) C dX5_readTable_111 lay_X1 tyX1_ok nmX1 3 rfl rfl 14 (by decide) fl_X5_153 rfl rfl (by decide +kernel) rfl rfl (Nat.le_of_ble_eq_true rfl) rfl ?_
    refine X.nameS (ws := fun P_11 => (W_L G ql qy qp rr_9.2.1 rr_9.2.2 P_11)) h (fun P_11 h => ?_)
    cases h
    exact X.vret C dX5_readTable_114 (Nat.zero_le _) (Nat.zero_le _)
  refine X.aload_n C dX5_readTable_14 rfl 1 rfl ?_
  refine X.iconst C dX5_readTable_15 ?_
  refine X.callVv (q0 := 0) (As := [vi 3]) (rest := []) (W1 := fun rr_12 => (W_L G ql qy qp rr_12 Y P)) (ws2 := fun rr_12 => (W_L G ql qy qp rr_12 Y P)) C h dX5_readTable_16 ml_X5_92 mX5_note (fun v hv => kX5_note ql qy qp L Y P 3 v hv) (fun rr_12 => ln_L_L_l_y_p_L (G := G) (ql := ql) (qy := qy) (qp := qp) (L := L) (Y := Y) (P := P) (NL := rr_12)) rfl rfl rfl rfl rfl rfl rfl rfl (fun rr_12 h => ?_)
  cases h
  exact X.vret C dX5_readTable_19 (Nat.zero_le _) (Nat.zero_le _)
def rX5_readRoad : Room := { frames := 7, cells := 0, slots := 0, locals := 203 }
theorem mX5_readRoad : MV yX5_readRoad cX5_readRoad 1 none 0 := ⟨cd_X5_readRoad, in_X5, ⟨⟨by decide, by decide⟩, by decide +kernel⟩, im_X5_readRoad, se_X5_readRoad⟩
set_option maxHeartbeats 4000000 in
set_option maxRecDepth 100000 in
theorem xX5_readRoad_17 {κ : Kx} {G : GT} (C : Cx κ G yX5_readRoad cX5_readRoad none 1 rX5_readRoad) (ql : Nat → Nat) (qy : Nat → Nat) (qp : Nat → Nat) (L : Ob) (Y : Ob) (P : Ob) (lt0 : Int) (v : (Ob × Ob × Ob)) (h : jX5_readRoad_17 L Y P lt0 = some v) : X κ G 1 (W_L G ql qy qp L Y P) 17 [(0, .ref (ql 31))] [vi lt0, .ref (ql 31)] 0 0 (QM κ G (W_L G ql qy qp v.1 v.2.1 v.2.2) none rX5_readRoad.cells rX5_readRoad.slots) := by
  unfold jX5_readRoad_17 at h
  refine X.callVv (q0 := 0) (As := [vi lt0]) (rest := []) (W1 := fun rr_1 => (W_L G ql qy qp rr_1 Y P)) (ws2 := fun rr_1 => (W_L G ql qy qp rr_1 Y P)) C h dX5_readRoad_17 ml_X5_133 mX5_readOnce (fun v hv => kX5_readOnce ql qy qp L Y P lt0 v hv) (fun rr_1 => ln_L_L_l_y_p_L (G := G) (ql := ql) (qy := qy) (qp := qp) (L := L) (Y := Y) (P := P) (NL := rr_1)) rfl rfl rfl rfl rfl rfl rfl rfl (fun rr_1 h => ?_)
  refine X.aload_n C dX5_readRoad_20 rfl 0 rfl ?_
  refine X.ldcS (q := ("TableNine$Teller", 77, "road", 9)) C (by decide) rfl dX5_readRoad_21 ?_
  refine X.callVv (q0 := 0) (As := [.ref (G.2.2.2.1 9)]) (rest := []) (W1 := fun rr_2 => (W_L G ql qy qp rr_2.1 rr_2.2 P)) (ws2 := fun rr_2 => (W_L G ql qy qp rr_2.1 rr_2.2 P)) C h dX5_readRoad_23 ml_X5_101 mX5_readWord (fun v hv => kX5_readWord ql qy qp rr_1 Y P 9 v hv) (fun rr_2 => ln_L_L_l_y_p_LY (G := G) (ql := ql) (qy := qy) (qp := qp) (L := rr_1) (Y := Y) (P := P) (NL := rr_2.1) (NY := rr_2.2)) rfl rfl rfl rfl rfl rfl rfl rfl (fun rr_2 h => ?_)
  refine X.aload_n C dX5_readRoad_26 rfl 0 rfl ?_
  refine X.get C dX5_readRoad_27 lay_X5 0 rfl rfl 1 (by decide) fl_X5_19 rfl rfl ?_
  refine X.aload_n C dX5_readRoad_30 rfl 0 rfl ?_
  refine X.iconst C dX5_readRoad_31 ?_
  refine X.aload_n C dX5_readRoad_32 rfl 0 rfl ?_
  refine X.get C dX5_readRoad_33 lay_X5 0 rfl rfl 1 (by decide) fl_X5_19 rfl rfl ?_
  refine X.get C dX5_readRoad_36 lay_X1 3 rfl rfl 2 (by decide) fl_X5_115 rfl rfl ?_
  refine X.iconst C dX5_readRoad_39 ?_
  refine X.isub C dX5_readRoad_40 ?_
  refine X.callVi (q0 := 0) (As := [vi 0, vi ((P 2 0) - 1)]) (rest := [.ref (qp 31)]) (g := fun rr_3 => rr_3.1) (W1 := fun rr_3 => (W_L G ql qy qp rr_3.2.1 rr_3.2.2 P)) (ws2 := fun rr_3 => (W_L G ql qy qp rr_3.2.1 rr_3.2.2 P)) C h dX5_readRoad_41 ml_X5_107 mX5_readNumber (fun v hv => kX5_readNumber ql qy qp rr_2.1 rr_2.2 P 0 ((P 2 0) - 1) v hv) (fun rr_3 => ln_L_L_l_y_p_LY (G := G) (ql := ql) (qy := qy) (qp := qp) (L := rr_2.1) (Y := rr_2.2) (P := P) (NL := rr_3.2.1) (NY := rr_3.2.2)) rfl rfl rfl rfl rfl rfl rfl rfl (fun rr_3 h => ?_)
  refine X.put (ws2 := (W_L G ql qy qp rr_3.2.1 rr_3.2.2 (up2 P 7 0 rr_3.1))) (ty := .int) C dX5_readRoad_44 lay_X1 tyX1_ok nmX1 3 rfl rfl 7 (by decide) fl_X5_167 rfl rfl (by decide +kernel) rfl rfl (Nat.le_of_ble_eq_true rfl) rfl ?_
  refine X.nameS (ws := fun P_4 => (W_L G ql qy qp rr_3.2.1 rr_3.2.2 P_4)) h (fun P_4 h => ?_)
  cases h
  exact X.vret C dX5_readRoad_47 (Nat.zero_le _) (Nat.zero_le _)
set_option maxHeartbeats 4000000 in
set_option maxRecDepth 100000 in
theorem kX5_readRoad {l : Launch} {G : GT} (ql : Nat → Nat) (qy : Nat → Nat) (qp : Nat → Nat) (L : Ob) (Y : Ob) (P : Ob) (v : (Ob × Ob × Ob)) (h : fX5_readRoad L Y P = some v) : CT l G yX5_readRoad cX5_readRoad 1 none rX5_readRoad [.ref (ql 31)] (W_L G ql qy qp L Y P) (W_L G ql qy qp v.1 v.2.1 v.2.2) none := by
  unfold fX5_readRoad at h
  refine CT.of (by decide) (Nat.le_of_ble_eq_true rfl) rfl (fun κ _ C => ?_)
  refine X.aload_n C dX5_readRoad_0 rfl 0 rfl ?_
  refine X.aload_n C dX5_readRoad_1 rfl 0 rfl ?_
  refine X.get C dX5_readRoad_2 lay_X5 0 rfl rfl 1 (by decide) fl_X5_19 rfl rfl ?_
  refine X.get C dX5_readRoad_5 lay_X1 3 rfl rfl 7 (by decide) fl_X5_167 rfl rfl ?_
  refine X.iconst C dX5_readRoad_8 ?_
  refine X.icmp_eq (tgt := 16) C h dX5_readRoad_9 (by decide) (fun h => ?_) (fun h => ?_)
  · refine X.iconst C dX5_readRoad_16 ?_
    refine X.sub [0] rfl ?_
    exact xX5_readRoad_17 C ql qy qp L Y P 0 v h
  refine X.iconst C dX5_readRoad_12 ?_
  refine X.goto (tgt := 17) C dX5_readRoad_13 (by decide) ?_
  refine X.sub [0] rfl ?_
  exact xX5_readRoad_17 C ql qy qp L Y P 1 v h
def rX5_readVane : Room := { frames := 7, cells := 0, slots := 0, locals := 203 }
theorem mX5_readVane : MV yX5_readVane cX5_readVane 1 none 0 := ⟨cd_X5_readVane, in_X5, ⟨⟨by decide, by decide⟩, by decide +kernel⟩, im_X5_readVane, se_X5_readVane⟩
set_option maxHeartbeats 4000000 in
set_option maxRecDepth 100000 in
theorem kX5_readVane {l : Launch} {G : GT} (ql : Nat → Nat) (qy : Nat → Nat) (qp : Nat → Nat) (L : Ob) (Y : Ob) (P : Ob) (v : (Ob × Ob × Ob)) (h : fX5_readVane L Y P = some v) : CT l G yX5_readVane cX5_readVane 1 none rX5_readVane [.ref (ql 31)] (W_L G ql qy qp L Y P) (W_L G ql qy qp v.1 v.2.1 v.2.2) none := by
  unfold fX5_readVane at h
  refine CT.of (by decide) (Nat.le_of_ble_eq_true rfl) rfl (fun κ _ C => ?_)
  refine X.aload_n C dX5_readVane_0 rfl 0 rfl ?_
  refine X.aload_n C dX5_readVane_1 rfl 0 rfl ?_
  refine X.get C dX5_readVane_2 lay_X5 0 rfl rfl 5 (by decide) fl_X5_30 rfl rfl ?_
  refine X.callVv (q0 := 0) (As := [vi (L 5 0)]) (rest := []) (W1 := fun rr_1 => (W_L G ql qy qp rr_1 Y P)) (ws2 := fun rr_1 => (W_L G ql qy qp rr_1 Y P)) C h dX5_readVane_5 ml_X5_133 mX5_readOnce (fun v hv => kX5_readOnce ql qy qp L Y P (L 5 0) v hv) (fun rr_1 => ln_L_L_l_y_p_L (G := G) (ql := ql) (qy := qy) (qp := qp) (L := L) (Y := Y) (P := P) (NL := rr_1)) rfl rfl rfl rfl rfl rfl rfl rfl (fun rr_1 h => ?_)
  refine X.aload_n C dX5_readVane_8 rfl 0 rfl ?_
  refine X.iconst C dX5_readVane_9 ?_
  refine X.put (ws2 := (W_L G ql qy qp (up2 rr_1 5 0 1) Y P)) (ty := .boolean) C dX5_readVane_10 lay_X5 tyX5_ok nmX5 0 rfl rfl 5 (by decide) fl_X5_30 rfl rfl (by decide +kernel) rfl rfl (Nat.le_of_ble_eq_true rfl) rfl ?_
  refine X.nameS (ws := fun L_2 => (W_L G ql qy qp L_2 Y P)) h (fun L_2 h => ?_)
  refine X.aload_n C dX5_readVane_13 rfl 0 rfl ?_
  refine X.ldcS (q := ("TableNine$Teller", 82, "vane", 15)) C (by decide) rfl dX5_readVane_14 ?_
  refine X.callVv (q0 := 0) (As := [.ref (G.2.2.2.1 15)]) (rest := []) (W1 := fun rr_3 => (W_L G ql qy qp rr_3.1 rr_3.2 P)) (ws2 := fun rr_3 => (W_L G ql qy qp rr_3.1 rr_3.2 P)) C h dX5_readVane_16 ml_X5_101 mX5_readWord (fun v hv => kX5_readWord ql qy qp L_2 Y P 15 v hv) (fun rr_3 => ln_L_L_l_y_p_LY (G := G) (ql := ql) (qy := qy) (qp := qp) (L := L_2) (Y := Y) (P := P) (NL := rr_3.1) (NY := rr_3.2)) rfl rfl rfl rfl rfl rfl rfl rfl (fun rr_3 h => ?_)
  refine X.aload_n C dX5_readVane_19 rfl 0 rfl ?_
  refine X.ldcS (q := ("TableNine$Teller", 169, "lag", 6)) C (by decide) rfl dX5_readVane_20 ?_
  refine X.callVv (q0 := 0) (As := [.ref (G.2.2.2.1 6)]) (rest := []) (W1 := fun rr_4 => (W_L G ql qy qp rr_4.1 rr_4.2 P)) (ws2 := fun rr_4 => (W_L G ql qy qp rr_4.1 rr_4.2 P)) C h dX5_readVane_22 ml_X5_101 mX5_readWord (fun v hv => kX5_readWord ql qy qp rr_3.1 rr_3.2 P 6 v hv) (fun rr_4 => ln_L_L_l_y_p_LY (G := G) (ql := ql) (qy := qy) (qp := qp) (L := rr_3.1) (Y := rr_3.2) (P := P) (NL := rr_4.1) (NY := rr_4.2)) rfl rfl rfl rfl rfl rfl rfl rfl (fun rr_4 h => ?_)
  refine X.aload_n C dX5_readVane_25 rfl 0 rfl ?_
  refine X.get C dX5_readVane_26 lay_X5 0 rfl rfl 1 (by decide) fl_X5_19 rfl rfl ?_
  refine X.aload_n C dX5_readVane_29 rfl 0 rfl ?_
  refine X.iconst C dX5_readVane_30 ?_
  refine X.bipush C dX5_readVane_31 (by decide) ?_
  refine X.callVi (q0 := 0) (As := [vi 0, vi 20]) (rest := [.ref (qp 31)]) (g := fun rr_5 => rr_5.1) (W1 := fun rr_5 => (W_L G ql qy qp rr_5.2.1 rr_5.2.2 P)) (ws2 := fun rr_5 => (W_L G ql qy qp rr_5.2.1 rr_5.2.2 P)) C h dX5_readVane_33 ml_X5_107 mX5_readNumber (fun v hv => kX5_readNumber ql qy qp rr_4.1 rr_4.2 P 0 20 v hv) (fun rr_5 => ln_L_L_l_y_p_LY (G := G) (ql := ql) (qy := qy) (qp := qp) (L := rr_4.1) (Y := rr_4.2) (P := P) (NL := rr_5.2.1) (NY := rr_5.2.2)) rfl rfl rfl rfl rfl rfl rfl rfl (fun rr_5 h => ?_)
  refine X.put (ws2 := (W_L G ql qy qp rr_5.2.1 rr_5.2.2 (up2 P 8 0 rr_5.1))) (ty := .int) C dX5_readVane_36 lay_X1 tyX1_ok nmX1 3 rfl rfl 8 (by decide) fl_X5_171 rfl rfl (by decide +kernel) rfl rfl (Nat.le_of_ble_eq_true rfl) rfl ?_
  refine X.nameS (ws := fun P_6 => (W_L G ql qy qp rr_5.2.1 rr_5.2.2 P_6)) h (fun P_6 h => ?_)
  refine X.aload_n C dX5_readVane_39 rfl 0 rfl ?_
  refine X.ldcS (q := ("TableNine$Teller", 173, "climb", 1)) C (by decide) rfl dX5_readVane_40 ?_
  refine X.callVv (q0 := 0) (As := [.ref (G.2.2.2.1 1)]) (rest := []) (W1 := fun rr_7 => (W_L G ql qy qp rr_7.1 rr_7.2 P_6)) (ws2 := fun rr_7 => (W_L G ql qy qp rr_7.1 rr_7.2 P_6)) C h dX5_readVane_42 ml_X5_101 mX5_readWord (fun v hv => kX5_readWord ql qy qp rr_5.2.1 rr_5.2.2 P_6 1 v hv) (fun rr_7 => ln_L_L_l_y_p_LY (G := G) (ql := ql) (qy := qy) (qp := qp) (L := rr_5.2.1) (Y := rr_5.2.2) (P := P_6) (NL := rr_7.1) (NY := rr_7.2)) rfl rfl rfl rfl rfl rfl rfl rfl (fun rr_7 h => ?_)
  refine X.aload_n C dX5_readVane_45 rfl 0 rfl ?_
  refine X.get C dX5_readVane_46 lay_X5 0 rfl rfl 1 (by decide) fl_X5_19 rfl rfl ?_
  refine X.aload_n C dX5_readVane_49 rfl 0 rfl ?_
  refine X.iconst C dX5_readVane_50 ?_
  refine X.bipush C dX5_readVane_51 (by decide) ?_
  refine X.callVi (q0 := 0) (As := [vi 1, vi 60]) (rest := [.ref (qp 31)]) (g := fun rr_8 => rr_8.1) (W1 := fun rr_8 => (W_L G ql qy qp rr_8.2.1 rr_8.2.2 P_6)) (ws2 := fun rr_8 => (W_L G ql qy qp rr_8.2.1 rr_8.2.2 P_6)) C h dX5_readVane_53 ml_X5_107 mX5_readNumber (fun v hv => kX5_readNumber ql qy qp rr_7.1 rr_7.2 P_6 1 60 v hv) (fun rr_8 => ln_L_L_l_y_p_LY (G := G) (ql := ql) (qy := qy) (qp := qp) (L := rr_7.1) (Y := rr_7.2) (P := P_6) (NL := rr_8.2.1) (NY := rr_8.2.2)) rfl rfl rfl rfl rfl rfl rfl rfl (fun rr_8 h => ?_)
  refine X.put (ws2 := (W_L G ql qy qp rr_8.2.1 rr_8.2.2 (up2 P_6 10 0 rr_8.1))) (ty := .int) C dX5_readVane_56 lay_X1 tyX1_ok nmX1 3 rfl rfl 10 (by decide) fl_X5_130 rfl rfl (by decide +kernel) rfl rfl (Nat.le_of_ble_eq_true rfl) rfl ?_
  refine X.nameS (ws := fun P_9 => (W_L G ql qy qp rr_8.2.1 rr_8.2.2 P_9)) h (fun P_9 h => ?_)
  cases h
  exact X.vret C dX5_readVane_59 (Nat.zero_le _) (Nat.zero_le _)
def rX5_readRule : Room := { frames := 7, cells := 0, slots := 0, locals := 203 }
theorem mX5_readRule : MV yX5_readRule cX5_readRule 2 none 0 := ⟨cd_X5_readRule, in_X5, ⟨⟨by decide, by decide⟩, by decide +kernel⟩, im_X5_readRule, se_X5_readRule⟩
set_option maxHeartbeats 4000000 in
set_option maxRecDepth 100000 in
theorem kX5_readRule {l : Launch} {G : GT} (ql : Nat → Nat) (qy : Nat → Nat) (qp : Nat → Nat) (L : Ob) (Y : Ob) (P : Ob) (v : (Ob × Ob × Ob)) (h : fX5_readRule L Y P = some v) : CT l G yX5_readRule cX5_readRule 2 none rX5_readRule [.ref (ql 31)] (W_L G ql qy qp L Y P) (W_L G ql qy qp v.1 v.2.1 v.2.2) none := by
  unfold fX5_readRule at h
  refine CT.of (by decide) (Nat.le_of_ble_eq_true rfl) rfl (fun κ _ C => ?_)
  refine X.aload_n C dX5_readRule_0 rfl 0 rfl ?_
  refine X.get C dX5_readRule_1 lay_X5 0 rfl rfl 1 (by decide) fl_X5_19 rfl rfl ?_
  refine X.get C dX5_readRule_4 lay_X1 3 rfl rfl 18 (by decide) fl_X5_174 rfl rfl ?_
  refine X.bipush C dX5_readRule_7 (by decide) ?_
  refine X.icmp_lt (tgt := 18) C h dX5_readRule_9 (by decide) (fun h => ?_) (fun h => ?_)
  · refine X.aload_n C dX5_readRule_18 rfl 0 rfl ?_
    refine X.ldcS (q := ("TableNine$Teller", 87, "rule", 10)) C (by decide) rfl dX5_readRule_19 ?_
    refine X.callVv (q0 := 0) (As := [.ref (G.2.2.2.1 10)]) (rest := []) (W1 := fun rr_1 => (W_L G ql qy qp rr_1.1 rr_1.2 P)) (ws2 := fun rr_1 => (W_L G ql qy qp rr_1.1 rr_1.2 P)) C h dX5_readRule_21 ml_X5_101 mX5_readWord (fun v hv => kX5_readWord ql qy qp L Y P 10 v hv) (fun rr_1 => ln_L_L_l_y_p_LY (G := G) (ql := ql) (qy := qy) (qp := qp) (L := L) (Y := Y) (P := P) (NL := rr_1.1) (NY := rr_1.2)) rfl rfl rfl rfl rfl rfl rfl rfl (fun rr_1 h => ?_)
    refine X.aload_n C dX5_readRule_24 rfl 0 rfl ?_
    refine X.ldcS (q := ("TableNine$Teller", 177, "wind", 17)) C (by decide) rfl dX5_readRule_25 ?_
    refine X.callVv (q0 := 0) (As := [.ref (G.2.2.2.1 17)]) (rest := []) (W1 := fun rr_2 => (W_L G ql qy qp rr_2.1 rr_2.2 P)) (ws2 := fun rr_2 => (W_L G ql qy qp rr_2.1 rr_2.2 P)) C h dX5_readRule_27 ml_X5_101 mX5_readWord (fun v hv => kX5_readWord ql qy qp rr_1.1 rr_1.2 P 17 v hv) (fun rr_2 => ln_L_L_l_y_p_LY (G := G) (ql := ql) (qy := qy) (qp := qp) (L := rr_1.1) (Y := rr_1.2) (P := P) (NL := rr_2.1) (NY := rr_2.2)) rfl rfl rfl rfl rfl rfl rfl rfl (fun rr_2 h => ?_)
    refine X.aload_n C dX5_readRule_30 rfl 0 rfl ?_
    refine X.aload_n C dX5_readRule_31 rfl 0 rfl ?_
    refine X.get C dX5_readRule_32 lay_X5 0 rfl rfl 6 (by decide) fl_X5_33 rfl rfl ?_
    refine X.iconst C dX5_readRule_35 ?_
    refine X.iadd C dX5_readRule_36 ?_
    refine X.bipush C dX5_readRule_37 (by decide) ?_
    refine X.callVi (q0 := 0) (As := [vi ((rr_2.1 6 0) + 1), vi 9]) (rest := []) (g := fun rr_3 => rr_3.1) (W1 := fun rr_3 => (W_L G ql qy qp rr_3.2.1 rr_3.2.2 P)) (ws2 := fun rr_3 => (W_L G ql qy qp rr_3.2.1 rr_3.2.2 P)) C h dX5_readRule_39 ml_X5_107 mX5_readNumber (fun v hv => kX5_readNumber ql qy qp rr_2.1 rr_2.2 P ((rr_2.1 6 0) + 1) 9 v hv) (fun rr_3 => ln_L_L_l_y_p_LY (G := G) (ql := ql) (qy := qy) (qp := qp) (L := rr_2.1) (Y := rr_2.2) (P := P) (NL := rr_3.2.1) (NY := rr_3.2.2)) rfl rfl rfl rfl rfl rfl rfl rfl (fun rr_3 h => ?_)
    refine X.istoreN_n (lv2 := fun lx1_4 => [(1, vi lx1_4), (0, .ref (ql 31))]) C h dX5_readRule_42 rfl (by decide) (fun _ => rfl) (fun lx1_4 h => ?_)
    refine X.aload_n C dX5_readRule_43 rfl 1 rfl ?_
    refine X.ldcS (q := ("TableNine$Teller", 140, "high", 4)) C (by decide) rfl dX5_readRule_44 ?_
    refine X.callVv (q0 := 0) (As := [.ref (G.2.2.2.1 4)]) (rest := []) (W1 := fun rr_5 => (W_L G ql qy qp rr_5.1 rr_5.2 P)) (ws2 := fun rr_5 => (W_L G ql qy qp rr_5.1 rr_5.2 P)) C h dX5_readRule_46 ml_X5_101 mX5_readWord (fun v hv => kX5_readWord ql qy qp rr_3.2.1 rr_3.2.2 P 4 v hv) (fun rr_5 => ln_L_L_l_y_p_LY (G := G) (ql := ql) (qy := qy) (qp := qp) (L := rr_3.2.1) (Y := rr_3.2.2) (P := P) (NL := rr_5.1) (NY := rr_5.2)) rfl rfl rfl rfl rfl rfl rfl rfl (fun rr_5 h => ?_)
    refine X.aload_n C dX5_readRule_49 rfl 1 rfl ?_
    refine X.get C dX5_readRule_50 lay_X5 0 rfl rfl 1 (by decide) fl_X5_19 rfl rfl ?_
    refine X.iload_n C dX5_readRule_53 rfl 0 rfl ?_
    refine X.aload_n C dX5_readRule_54 rfl 1 rfl ?_
    refine X.iconst C dX5_readRule_55 ?_
    refine X.bipush C dX5_readRule_56 (by decide) ?_
    refine X.callVi (q0 := 0) (As := [vi 0, vi 60]) (rest := [vi lx1_4, .ref (qp 31)]) (g := fun rr_6 => rr_6.1) (W1 := fun rr_6 => (W_L G ql qy qp rr_6.2.1 rr_6.2.2 P)) (ws2 := fun rr_6 => (W_L G ql qy qp rr_6.2.1 rr_6.2.2 P)) C h dX5_readRule_58 ml_X5_107 mX5_readNumber (fun v hv => kX5_readNumber ql qy qp rr_5.1 rr_5.2 P 0 60 v hv) (fun rr_6 => ln_L_L_l_y_p_LY (G := G) (ql := ql) (qy := qy) (qp := qp) (L := rr_5.1) (Y := rr_5.2) (P := P) (NL := rr_6.2.1) (NY := rr_6.2.2)) rfl rfl rfl rfl rfl rfl rfl rfl (fun rr_6 h => ?_)
    refine X.callVv (q0 := 3) (As := [vi lx1_4, vi rr_6.1]) (rest := []) (W1 := fun rr_7 => (W_P G qp rr_7)) (ws2 := fun rr_7 => (W_L G ql qy qp rr_6.2.1 rr_6.2.2 rr_7)) C h dX5_readRule_61 ml_X5_179 mX1_addRule (fun v hv => kX1_addRule qp P lx1_4 rr_6.1 v hv) (fun rr_7 => ln_L_P_p_P (G := G) (ql := ql) (qy := qy) (qp := qp) (L := rr_6.2.1) (Y := rr_6.2.2) (P := P) (NP := rr_7)) rfl rfl rfl rfl rfl rfl rfl rfl (fun rr_7 h => ?_)
    refine X.aload_n C dX5_readRule_64 rfl 1 rfl ?_
    refine X.iload_n C dX5_readRule_65 rfl 0 rfl ?_
    refine X.put (ws2 := (W_L G ql qy qp (up2 rr_6.2.1 6 0 lx1_4) rr_6.2.2 rr_7)) (ty := .int) C dX5_readRule_66 lay_X5 tyX5_ok nmX5 0 rfl rfl 6 (by decide) fl_X5_33 rfl rfl (by decide +kernel) rfl rfl (Nat.le_of_ble_eq_true rfl) rfl ?_
    refine X.nameS (ws := fun L_8 => (W_L G ql qy qp L_8 rr_6.2.2 rr_7)) h (fun L_8 h => ?_)
    cases h
    exact X.vret C dX5_readRule_69 (Nat.zero_le _) (Nat.zero_le _)
  refine X.aload_n C dX5_readRule_12 rfl 0 rfl ?_
  refine X.iconst C dX5_readRule_13 ?_
  refine X.callVv (q0 := 0) (As := [vi 3]) (rest := []) (W1 := fun rr_9 => (W_L G ql qy qp rr_9 Y P)) (ws2 := fun rr_9 => (W_L G ql qy qp rr_9 Y P)) C h dX5_readRule_14 ml_X5_92 mX5_note (fun v hv => kX5_note ql qy qp L Y P 3 v hv) (fun rr_9 => ln_L_L_l_y_p_L (G := G) (ql := ql) (qy := qy) (qp := qp) (L := L) (Y := Y) (P := P) (NL := rr_9)) rfl rfl rfl rfl rfl rfl rfl rfl (fun rr_9 h => ?_)
  cases h
  exact X.vret C dX5_readRule_17 (Nat.zero_le _) (Nat.zero_le _)
def rX5_readSign : Room := { frames := 2, cells := 0, slots := 0, locals := 43 }
theorem mX5_readSign : MV yX5_readSign cX5_readSign 1 none 0 := ⟨cd_X5_readSign, in_X5, ⟨⟨by decide, by decide⟩, by decide +kernel⟩, im_X5_readSign, se_X5_readSign⟩
set_option maxHeartbeats 4000000 in
set_option maxRecDepth 100000 in
theorem kX5_readSign {l : Launch} {G : GT} (ql : Nat → Nat) (qy : Nat → Nat) (qp : Nat → Nat) (L : Ob) (Y : Ob) (P : Ob) (v : (Ob × Ob × Ob)) (h : fX5_readSign L Y P = some v) : CT l G yX5_readSign cX5_readSign 1 none rX5_readSign [.ref (ql 31)] (W_L G ql qy qp L Y P) (W_L G ql qy qp v.1 v.2.1 v.2.2) none := by
  unfold fX5_readSign at h
  refine CT.of (by decide) (Nat.le_of_ble_eq_true rfl) rfl (fun κ _ C => ?_)
  refine X.aload_n C dX5_readSign_0 rfl 0 rfl ?_
  refine X.get C dX5_readSign_1 lay_X5 0 rfl rfl 2 (by decide) fl_X5_23 rfl rfl ?_
  refine X.if_eq (tgt := 8) C h dX5_readSign_4 (by decide) (fun h => ?_) (fun h => ?_)
  · refine X.aload_n C dX5_readSign_8 rfl 0 rfl ?_
    refine X.get C dX5_readSign_9 lay_X5 0 rfl rfl 0 (by decide) fl_X5_15 rfl rfl ?_
    refine X.get C dX5_readSign_12 lay_X4 1 rfl rfl 2 (by decide) fl_X5_46 rfl rfl ?_
    refine X.iconst C dX5_readSign_15 ?_
    refine X.icmp_ne (tgt := 42) C h dX5_readSign_16 (by decide) (fun h => ?_) (fun h => ?_)
    · refine X.aload_n C dX5_readSign_42 rfl 0 rfl ?_
      refine X.iconst C dX5_readSign_43 ?_
      refine X.callVv (q0 := 0) (As := [vi 1]) (rest := []) (W1 := fun rr_1 => (W_L G ql qy qp rr_1 Y P)) (ws2 := fun rr_1 => (W_L G ql qy qp rr_1 Y P)) C h dX5_readSign_44 ml_X5_92 mX5_note (fun v hv => kX5_note ql qy qp L Y P 1 v hv) (fun rr_1 => ln_L_L_l_y_p_L (G := G) (ql := ql) (qy := qy) (qp := qp) (L := L) (Y := Y) (P := P) (NL := rr_1)) rfl rfl rfl rfl rfl rfl rfl rfl (fun rr_1 h => ?_)
      cases h
      exact X.vret C dX5_readSign_47 (Nat.zero_le _) (Nat.zero_le _)
    refine X.aload_n C dX5_readSign_19 rfl 0 rfl ?_
    refine X.get C dX5_readSign_20 lay_X5 0 rfl rfl 1 (by decide) fl_X5_19 rfl rfl ?_
    refine X.dup C dX5_readSign_23 rfl ?_
    refine X.get C dX5_readSign_24 lay_X1 3 rfl rfl 0 (by decide) fl_X5_52 rfl rfl ?_
    refine X.iconst C dX5_readSign_27 ?_
    refine X.iadd C dX5_readSign_28 ?_
    refine X.put (ws2 := (W_L G ql qy qp L Y (up2 P 0 0 ((P 0 0) + 1)))) (ty := .int) C dX5_readSign_29 lay_X1 tyX1_ok nmX1 3 rfl rfl 0 (by decide) fl_X5_52 rfl rfl (by decide +kernel) rfl rfl (Nat.le_of_ble_eq_true rfl) rfl ?_
    refine X.nameS (ws := fun P_2 => (W_L G ql qy qp L Y P_2)) h (fun P_2 h => ?_)
    refine X.aload_n C dX5_readSign_32 rfl 0 rfl ?_
    refine X.get C dX5_readSign_33 lay_X5 0 rfl rfl 0 (by decide) fl_X5_15 rfl rfl ?_
    refine X.callVv (q0 := 1) (As := []) (rest := []) (W1 := fun rr_3 => (W_Y G qy rr_3)) (ws2 := fun rr_3 => (W_L G ql qy qp L rr_3 P_2)) C h dX5_readSign_36 ml_X5_183 mX4_step (fun v hv => kX4_step qy Y v hv) (fun rr_3 => ln_L_Y_y_Y (G := G) (ql := ql) (qy := qy) (qp := qp) (L := L) (Y := Y) (P := P_2) (NY := rr_3)) rfl rfl rfl rfl rfl rfl rfl rfl (fun rr_3 h => ?_)
    refine X.goto (tgt := 47) C dX5_readSign_39 (by decide) ?_
    cases h
    exact X.vret C dX5_readSign_47 (Nat.zero_le _) (Nat.zero_le _)
  cases h
  exact X.vret C dX5_readSign_7 (Nat.zero_le _) (Nat.zero_le _)
def rX5_readLine : Room := { frames := 8, cells := 0, slots := 0, locals := 224 }
theorem mX5_readLine : MV yX5_readLine cX5_readLine 1 none 0 := ⟨cd_X5_readLine, in_X5, ⟨⟨by decide, by decide⟩, by decide +kernel⟩, im_X5_readLine, se_X5_readLine⟩
set_option maxHeartbeats 4000000 in
set_option maxRecDepth 100000 in
theorem xX5_readLine_136 {κ : Kx} {G : GT} (C : Cx κ G yX5_readLine cX5_readLine none 1 rX5_readLine) (ql : Nat → Nat) (qy : Nat → Nat) (qp : Nat → Nat) (L : Ob) (Y : Ob) (P : Ob) (v : (Ob × Ob × Ob)) (h : jX5_readLine_136 L Y P = some v) : X κ G 1 (W_L G ql qy qp L Y P) 136 [(0, .ref (ql 31))] [] 0 0 (QM κ G (W_L G ql qy qp v.1 v.2.1 v.2.2) none rX5_readLine.cells rX5_readLine.slots) := by
  unfold jX5_readLine_136 at h
  refine X.aload_n C dX5_readLine_136 rfl 0 rfl ?_
  refine X.callVv (q0 := 0) (As := []) (rest := []) (W1 := fun rr_8 => (W_L G ql qy qp rr_8.1 rr_8.2.1 rr_8.2.2)) (ws2 := fun rr_8 => (W_L G ql qy qp rr_8.1 rr_8.2.1 rr_8.2.2)) C h dX5_readLine_137 ml_X5_96 mX5_readSign (fun v hv => kX5_readSign ql qy qp L Y P v hv) (fun rr_8 => ln_L_L_l_y_p_LYP (G := G) (ql := ql) (qy := qy) (qp := qp) (L := L) (Y := Y) (P := P) (NL := rr_8.1) (NY := rr_8.2.1) (NP := rr_8.2.2)) rfl rfl rfl rfl rfl rfl rfl rfl (fun rr_8 h => ?_)
  cases h
  exact X.vret C dX5_readLine_140 (Nat.zero_le _) (Nat.zero_le _)
set_option maxHeartbeats 4000000 in
set_option maxRecDepth 100000 in
theorem kX5_readLine {l : Launch} {G : GT} (ql : Nat → Nat) (qy : Nat → Nat) (qp : Nat → Nat) (L : Ob) (Y : Ob) (P : Ob) (v : (Ob × Ob × Ob)) (h : fX5_readLine L Y P = some v) : CT l G yX5_readLine cX5_readLine 1 none rX5_readLine [.ref (ql 31)] (W_L G ql qy qp L Y P) (W_L G ql qy qp v.1 v.2.1 v.2.2) none := by
  unfold fX5_readLine at h
  refine CT.of (by decide) (Nat.le_of_ble_eq_true rfl) rfl (fun κ _ C => ?_)
  refine X.aload_n C dX5_readLine_0 rfl 0 rfl ?_
  refine X.get C dX5_readLine_1 lay_X5 0 rfl rfl 1 (by decide) fl_X5_19 rfl rfl ?_
  refine X.get C dX5_readLine_4 lay_X1 3 rfl rfl 0 (by decide) fl_X5_52 rfl rfl ?_
  refine X.if_ne (tgt := 17) C h dX5_readLine_7 (by decide) (fun h => ?_) (fun h => ?_)
  · refine X.aload_n C dX5_readLine_17 rfl 0 rfl ?_
    refine X.get C dX5_readLine_18 lay_X5 0 rfl rfl 0 (by decide) fl_X5_15 rfl rfl ?_
    refine X.ldcS (q := ("TableNine$Teller", 58, "jet", 5)) C (by decide) rfl dX5_readLine_21 ?_
    refine X.callVi (q0 := 1) (As := [.ref (G.2.2.2.1 5)]) (rest := []) (g := fun rr_1 => rr_1) (W1 := fun rr_1 => (W_Y G qy Y)) (ws2 := fun rr_1 => (W_L G ql qy qp L Y P)) C h dX5_readLine_23 ml_X5_60 mX4_isWord (fun v hv => kX4_isWord qy Y 5 v hv) (fun rr_1 => ln_L_Y_y_n (G := G) (ql := ql) (qy := qy) (qp := qp) (L := L) (Y := Y) (P := P)) rfl rfl rfl rfl rfl rfl rfl rfl (fun rr_1 h => ?_)
    refine X.if_eq (tgt := 36) C h dX5_readLine_26 (by decide) (fun h => ?_) (fun h => ?_)
    · refine X.aload_n C dX5_readLine_36 rfl 0 rfl ?_
      refine X.get C dX5_readLine_37 lay_X5 0 rfl rfl 0 (by decide) fl_X5_15 rfl rfl ?_
      refine X.ldcS (q := ("TableNine$Teller", 67, "size", 12)) C (by decide) rfl dX5_readLine_40 ?_
      refine X.callVi (q0 := 1) (As := [.ref (G.2.2.2.1 12)]) (rest := []) (g := fun rr_2 => rr_2) (W1 := fun rr_2 => (W_Y G qy Y)) (ws2 := fun rr_2 => (W_L G ql qy qp L Y P)) C h dX5_readLine_42 ml_X5_60 mX4_isWord (fun v hv => kX4_isWord qy Y 12 v hv) (fun rr_2 => ln_L_Y_y_n (G := G) (ql := ql) (qy := qy) (qp := qp) (L := L) (Y := Y) (P := P)) rfl rfl rfl rfl rfl rfl rfl rfl (fun rr_2 h => ?_)
      refine X.if_eq (tgt := 55) C h dX5_readLine_45 (by decide) (fun h => ?_) (fun h => ?_)
      · refine X.aload_n C dX5_readLine_55 rfl 0 rfl ?_
        refine X.get C dX5_readLine_56 lay_X5 0 rfl rfl 0 (by decide) fl_X5_15 rfl rfl ?_
        refine X.ldcS (q := ("TableNine$Teller", 72, "table", 14)) C (by decide) rfl dX5_readLine_59 ?_
        refine X.callVi (q0 := 1) (As := [.ref (G.2.2.2.1 14)]) (rest := []) (g := fun rr_3 => rr_3) (W1 := fun rr_3 => (W_Y G qy Y)) (ws2 := fun rr_3 => (W_L G ql qy qp L Y P)) C h dX5_readLine_61 ml_X5_60 mX4_isWord (fun v hv => kX4_isWord qy Y 14 v hv) (fun rr_3 => ln_L_Y_y_n (G := G) (ql := ql) (qy := qy) (qp := qp) (L := L) (Y := Y) (P := P)) rfl rfl rfl rfl rfl rfl rfl rfl (fun rr_3 h => ?_)
        refine X.if_eq (tgt := 74) C h dX5_readLine_64 (by decide) (fun h => ?_) (fun h => ?_)
        · refine X.aload_n C dX5_readLine_74 rfl 0 rfl ?_
          refine X.get C dX5_readLine_75 lay_X5 0 rfl rfl 0 (by decide) fl_X5_15 rfl rfl ?_
          refine X.ldcS (q := ("TableNine$Teller", 77, "road", 9)) C (by decide) rfl dX5_readLine_78 ?_
          refine X.callVi (q0 := 1) (As := [.ref (G.2.2.2.1 9)]) (rest := []) (g := fun rr_4 => rr_4) (W1 := fun rr_4 => (W_Y G qy Y)) (ws2 := fun rr_4 => (W_L G ql qy qp L Y P)) C h dX5_readLine_80 ml_X5_60 mX4_isWord (fun v hv => kX4_isWord qy Y 9 v hv) (fun rr_4 => ln_L_Y_y_n (G := G) (ql := ql) (qy := qy) (qp := qp) (L := L) (Y := Y) (P := P)) rfl rfl rfl rfl rfl rfl rfl rfl (fun rr_4 h => ?_)
          refine X.if_eq (tgt := 93) C h dX5_readLine_83 (by decide) (fun h => ?_) (fun h => ?_)
          · refine X.aload_n C dX5_readLine_93 rfl 0 rfl ?_
            refine X.get C dX5_readLine_94 lay_X5 0 rfl rfl 0 (by decide) fl_X5_15 rfl rfl ?_
            refine X.ldcS (q := ("TableNine$Teller", 82, "vane", 15)) C (by decide) rfl dX5_readLine_97 ?_
            refine X.callVi (q0 := 1) (As := [.ref (G.2.2.2.1 15)]) (rest := []) (g := fun rr_5 => rr_5) (W1 := fun rr_5 => (W_Y G qy Y)) (ws2 := fun rr_5 => (W_L G ql qy qp L Y P)) C h dX5_readLine_99 ml_X5_60 mX4_isWord (fun v hv => kX4_isWord qy Y 15 v hv) (fun rr_5 => ln_L_Y_y_n (G := G) (ql := ql) (qy := qy) (qp := qp) (L := L) (Y := Y) (P := P)) rfl rfl rfl rfl rfl rfl rfl rfl (fun rr_5 h => ?_)
            refine X.if_eq (tgt := 112) C h dX5_readLine_102 (by decide) (fun h => ?_) (fun h => ?_)
            · refine X.aload_n C dX5_readLine_112 rfl 0 rfl ?_
              refine X.get C dX5_readLine_113 lay_X5 0 rfl rfl 0 (by decide) fl_X5_15 rfl rfl ?_
              refine X.ldcS (q := ("TableNine$Teller", 87, "rule", 10)) C (by decide) rfl dX5_readLine_116 ?_
              refine X.callVi (q0 := 1) (As := [.ref (G.2.2.2.1 10)]) (rest := []) (g := fun rr_6 => rr_6) (W1 := fun rr_6 => (W_Y G qy Y)) (ws2 := fun rr_6 => (W_L G ql qy qp L Y P)) C h dX5_readLine_118 ml_X5_60 mX4_isWord (fun v hv => kX4_isWord qy Y 10 v hv) (fun rr_6 => ln_L_Y_y_n (G := G) (ql := ql) (qy := qy) (qp := qp) (L := L) (Y := Y) (P := P)) rfl rfl rfl rfl rfl rfl rfl rfl (fun rr_6 h => ?_)
              refine X.if_eq (tgt := 131) C h dX5_readLine_121 (by decide) (fun h => ?_) (fun h => ?_)
              · refine X.aload_n C dX5_readLine_131 rfl 0 rfl ?_
                refine X.iconst C dX5_readLine_132 ?_
                refine X.callVv (q0 := 0) (As := [vi 1]) (rest := []) (W1 := fun rr_7 => (W_L G ql qy qp rr_7 Y P)) (ws2 := fun rr_7 => (W_L G ql qy qp rr_7 Y P)) C h dX5_readLine_133 ml_X5_92 mX5_note (fun v hv => kX5_note ql qy qp L Y P 1 v hv) (fun rr_7 => ln_L_L_l_y_p_L (G := G) (ql := ql) (qy := qy) (qp := qp) (L := L) (Y := Y) (P := P) (NL := rr_7)) rfl rfl rfl rfl rfl rfl rfl rfl (fun rr_7 h => ?_)
                refine X.sub [0] rfl ?_
                exact xX5_readLine_136 C ql qy qp rr_7 Y P v h
              refine X.aload_n C dX5_readLine_124 rfl 0 rfl ?_
              refine X.callVv (q0 := 0) (As := []) (rest := []) (W1 := fun rr_9 => (W_L G ql qy qp rr_9.1 rr_9.2.1 rr_9.2.2)) (ws2 := fun rr_9 => (W_L G ql qy qp rr_9.1 rr_9.2.1 rr_9.2.2)) C h dX5_readLine_125 ml_X5_89 mX5_readRule (fun v hv => kX5_readRule ql qy qp L Y P v hv) (fun rr_9 => ln_L_L_l_y_p_LYP (G := G) (ql := ql) (qy := qy) (qp := qp) (L := L) (Y := Y) (P := P) (NL := rr_9.1) (NY := rr_9.2.1) (NP := rr_9.2.2)) rfl rfl rfl rfl rfl rfl rfl rfl (fun rr_9 h => ?_)
              refine X.goto (tgt := 136) C dX5_readLine_128 (by decide) ?_
              refine X.sub [0] rfl ?_
              exact xX5_readLine_136 C ql qy qp rr_9.1 rr_9.2.1 rr_9.2.2 v h
            refine X.aload_n C dX5_readLine_105 rfl 0 rfl ?_
            refine X.callVv (q0 := 0) (As := []) (rest := []) (W1 := fun rr_10 => (W_L G ql qy qp rr_10.1 rr_10.2.1 rr_10.2.2)) (ws2 := fun rr_10 => (W_L G ql qy qp rr_10.1 rr_10.2.1 rr_10.2.2)) C h dX5_readLine_106 ml_X5_84 mX5_readVane (fun v hv => kX5_readVane ql qy qp L Y P v hv) (fun rr_10 => ln_L_L_l_y_p_LYP (G := G) (ql := ql) (qy := qy) (qp := qp) (L := L) (Y := Y) (P := P) (NL := rr_10.1) (NY := rr_10.2.1) (NP := rr_10.2.2)) rfl rfl rfl rfl rfl rfl rfl rfl (fun rr_10 h => ?_)
            refine X.goto (tgt := 136) C dX5_readLine_109 (by decide) ?_
            refine X.sub [0] rfl ?_
            exact xX5_readLine_136 C ql qy qp rr_10.1 rr_10.2.1 rr_10.2.2 v h
          refine X.aload_n C dX5_readLine_86 rfl 0 rfl ?_
          refine X.callVv (q0 := 0) (As := []) (rest := []) (W1 := fun rr_11 => (W_L G ql qy qp rr_11.1 rr_11.2.1 rr_11.2.2)) (ws2 := fun rr_11 => (W_L G ql qy qp rr_11.1 rr_11.2.1 rr_11.2.2)) C h dX5_readLine_87 ml_X5_79 mX5_readRoad (fun v hv => kX5_readRoad ql qy qp L Y P v hv) (fun rr_11 => ln_L_L_l_y_p_LYP (G := G) (ql := ql) (qy := qy) (qp := qp) (L := L) (Y := Y) (P := P) (NL := rr_11.1) (NY := rr_11.2.1) (NP := rr_11.2.2)) rfl rfl rfl rfl rfl rfl rfl rfl (fun rr_11 h => ?_)
          refine X.goto (tgt := 136) C dX5_readLine_90 (by decide) ?_
          refine X.sub [0] rfl ?_
          exact xX5_readLine_136 C ql qy qp rr_11.1 rr_11.2.1 rr_11.2.2 v h
        refine X.aload_n C dX5_readLine_67 rfl 0 rfl ?_
        refine X.callVv (q0 := 0) (As := []) (rest := []) (W1 := fun rr_12 => (W_L G ql qy qp rr_12.1 rr_12.2.1 rr_12.2.2)) (ws2 := fun rr_12 => (W_L G ql qy qp rr_12.1 rr_12.2.1 rr_12.2.2)) C h dX5_readLine_68 ml_X5_74 mX5_readTable (fun v hv => kX5_readTable ql qy qp L Y P v hv) (fun rr_12 => ln_L_L_l_y_p_LYP (G := G) (ql := ql) (qy := qy) (qp := qp) (L := L) (Y := Y) (P := P) (NL := rr_12.1) (NY := rr_12.2.1) (NP := rr_12.2.2)) rfl rfl rfl rfl rfl rfl rfl rfl (fun rr_12 h => ?_)
        refine X.goto (tgt := 136) C dX5_readLine_71 (by decide) ?_
        refine X.sub [0] rfl ?_
        exact xX5_readLine_136 C ql qy qp rr_12.1 rr_12.2.1 rr_12.2.2 v h
      refine X.aload_n C dX5_readLine_48 rfl 0 rfl ?_
      refine X.callVv (q0 := 0) (As := []) (rest := []) (W1 := fun rr_13 => (W_L G ql qy qp rr_13.1 rr_13.2.1 rr_13.2.2)) (ws2 := fun rr_13 => (W_L G ql qy qp rr_13.1 rr_13.2.1 rr_13.2.2)) C h dX5_readLine_49 ml_X5_69 mX5_readSize (fun v hv => kX5_readSize ql qy qp L Y P v hv) (fun rr_13 => ln_L_L_l_y_p_LYP (G := G) (ql := ql) (qy := qy) (qp := qp) (L := L) (Y := Y) (P := P) (NL := rr_13.1) (NY := rr_13.2.1) (NP := rr_13.2.2)) rfl rfl rfl rfl rfl rfl rfl rfl (fun rr_13 h => ?_)
      refine X.goto (tgt := 136) C dX5_readLine_52 (by decide) ?_
      refine X.sub [0] rfl ?_
      exact xX5_readLine_136 C ql qy qp rr_13.1 rr_13.2.1 rr_13.2.2 v h
    refine X.aload_n C dX5_readLine_29 rfl 0 rfl ?_
    refine X.callVv (q0 := 0) (As := []) (rest := []) (W1 := fun rr_14 => (W_L G ql qy qp rr_14.1 rr_14.2.1 rr_14.2.2)) (ws2 := fun rr_14 => (W_L G ql qy qp rr_14.1 rr_14.2.1 rr_14.2.2)) C h dX5_readLine_30 ml_X5_64 mX5_readJet (fun v hv => kX5_readJet ql qy qp L Y P v hv) (fun rr_14 => ln_L_L_l_y_p_LYP (G := G) (ql := ql) (qy := qy) (qp := qp) (L := L) (Y := Y) (P := P) (NL := rr_14.1) (NY := rr_14.2.1) (NP := rr_14.2.2)) rfl rfl rfl rfl rfl rfl rfl rfl (fun rr_14 h => ?_)
    refine X.goto (tgt := 136) C dX5_readLine_33 (by decide) ?_
    refine X.sub [0] rfl ?_
    exact xX5_readLine_136 C ql qy qp rr_14.1 rr_14.2.1 rr_14.2.2 v h
  refine X.aload_n C dX5_readLine_10 rfl 0 rfl ?_
  refine X.callVv (q0 := 0) (As := []) (rest := []) (W1 := fun rr_15 => (W_L G ql qy qp rr_15.1 rr_15.2.1 rr_15.2.2)) (ws2 := fun rr_15 => (W_L G ql qy qp rr_15.1 rr_15.2.1 rr_15.2.2)) C h dX5_readLine_11 ml_X5_55 mX5_readSquare (fun v hv => kX5_readSquare ql qy qp L Y P v hv) (fun rr_15 => ln_L_L_l_y_p_LYP (G := G) (ql := ql) (qy := qy) (qp := qp) (L := L) (Y := Y) (P := P) (NL := rr_15.1) (NY := rr_15.2.1) (NP := rr_15.2.2)) rfl rfl rfl rfl rfl rfl rfl rfl (fun rr_15 h => ?_)
  refine X.goto (tgt := 136) C dX5_readLine_14 (by decide) ?_
  refine X.sub [0] rfl ?_
  exact xX5_readLine_136 C ql qy qp rr_15.1 rr_15.2.1 rr_15.2.2 v h
