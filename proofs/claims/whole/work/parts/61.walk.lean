def rX0_clear : Room := { frames := 1, cells := 0, slots := 0, locals := 23 }
theorem mX0_clear : MV yX0_clear cX0_clear 1 none 0 := ⟨cd_X0_clear, in_X0, ⟨⟨by decide, by decide⟩, by decide +kernel⟩, im_X0_clear, se_X0_clear⟩
set_option maxHeartbeats 4000000 in
set_option maxRecDepth 100000 in
theorem kX0_clear {l : Launch} {G : GT} (q : Nat → Nat) (A : Ob) (v : (Ob)) (h : fX0_clear A = some v) : CT l G yX0_clear cX0_clear 1 none rX0_clear [.ref (q 31)] (W_A G q A) (W_A G q v) none := by
  unfold fX0_clear at h
  refine CT.of (by decide) (Nat.le_of_ble_eq_true rfl) rfl (fun κ _ C => ?_)
  refine X.aload_n C dX0_clear_0 rfl 0 rfl ?_
  refine X.iconst C dX0_clear_1 ?_
  refine X.put (ws2 := (W_A G q (up2 A 0 0 0))) (ty := .int) C dX0_clear_2 lay_X0 tyX0_ok nmX0 0 rfl rfl 0 (by decide) fl_X0_43 rfl rfl (by decide +kernel) rfl rfl (Nat.le_of_ble_eq_true rfl) rfl ?_
  refine X.nameS (ws := fun A_1 => (W_A G q A_1)) h (fun A_1 h => ?_)
  refine X.aload_n C dX0_clear_5 rfl 0 rfl ?_
  refine X.iconst C dX0_clear_6 ?_
  refine X.put (ws2 := (W_A G q (up2 A_1 1 0 0))) (ty := .int) C dX0_clear_7 lay_X0 tyX0_ok nmX0 0 rfl rfl 1 (by decide) fl_X0_46 rfl rfl (by decide +kernel) rfl rfl (Nat.le_of_ble_eq_true rfl) rfl ?_
  refine X.nameS (ws := fun A_2 => (W_A G q A_2)) h (fun A_2 h => ?_)
  refine X.aload_n C dX0_clear_10 rfl 0 rfl ?_
  refine X.iconst C dX0_clear_11 ?_
  refine X.put (ws2 := (W_A G q (up2 A_2 2 0 0))) (ty := .int) C dX0_clear_12 lay_X0 tyX0_ok nmX0 0 rfl rfl 2 (by decide) fl_X0_49 rfl rfl (by decide +kernel) rfl rfl (Nat.le_of_ble_eq_true rfl) rfl ?_
  refine X.nameS (ws := fun A_3 => (W_A G q A_3)) h (fun A_3 h => ?_)
  refine X.aload_n C dX0_clear_15 rfl 0 rfl ?_
  refine X.iconst C dX0_clear_16 ?_
  refine X.put (ws2 := (W_A G q (up2 A_3 3 0 (-1)))) (ty := .int) C dX0_clear_17 lay_X0 tyX0_ok nmX0 0 rfl rfl 3 (by decide) fl_X0_9 rfl rfl (by decide +kernel) rfl rfl (Nat.le_of_ble_eq_true rfl) rfl ?_
  refine X.nameS (ws := fun A_4 => (W_A G q A_4)) h (fun A_4 h => ?_)
  refine X.aload_n C dX0_clear_20 rfl 0 rfl ?_
  refine X.iconst C dX0_clear_21 ?_
  refine X.put (ws2 := (W_A G q (up2 A_4 4 0 0))) (ty := .int) C dX0_clear_22 lay_X0 tyX0_ok nmX0 0 rfl rfl 4 (by decide) fl_X0_52 rfl rfl (by decide +kernel) rfl rfl (Nat.le_of_ble_eq_true rfl) rfl ?_
  refine X.nameS (ws := fun A_5 => (W_A G q A_5)) h (fun A_5 h => ?_)
  refine X.aload_n C dX0_clear_25 rfl 0 rfl ?_
  refine X.iconst C dX0_clear_26 ?_
  refine X.put (ws2 := (W_A G q (up2 A_5 5 0 0))) (ty := .int) C dX0_clear_27 lay_X0 tyX0_ok nmX0 0 rfl rfl 5 (by decide) fl_X0_55 rfl rfl (by decide +kernel) rfl rfl (Nat.le_of_ble_eq_true rfl) rfl ?_
  refine X.nameS (ws := fun A_6 => (W_A G q A_6)) h (fun A_6 h => ?_)
  refine X.aload_n C dX0_clear_30 rfl 0 rfl ?_
  refine X.iconst C dX0_clear_31 ?_
  refine X.put (ws2 := (W_A G q (up2 A_6 6 0 0))) (ty := .int) C dX0_clear_32 lay_X0 tyX0_ok nmX0 0 rfl rfl 6 (by decide) fl_X0_58 rfl rfl (by decide +kernel) rfl rfl (Nat.le_of_ble_eq_true rfl) rfl ?_
  refine X.nameS (ws := fun A_7 => (W_A G q A_7)) h (fun A_7 h => ?_)
  refine X.aload_n C dX0_clear_35 rfl 0 rfl ?_
  refine X.iconst C dX0_clear_36 ?_
  refine X.put (ws2 := (W_A G q (up2 A_7 7 0 0))) (ty := .int) C dX0_clear_37 lay_X0 tyX0_ok nmX0 0 rfl rfl 7 (by decide) fl_X0_61 rfl rfl (by decide +kernel) rfl rfl (Nat.le_of_ble_eq_true rfl) rfl ?_
  refine X.nameS (ws := fun A_8 => (W_A G q A_8)) h (fun A_8 h => ?_)
  refine X.aload_n C dX0_clear_40 rfl 0 rfl ?_
  refine X.get C dX0_clear_41 lay_X0 0 rfl rfl 9 (by decide) fl_X0_19 rfl rfl ?_
  refine X.iconst C dX0_clear_44 ?_
  refine X.fillI C dX0_clear_45 ml_X0_64 ln_A_fill_a_9 rfl rfl (by decide) ?_
  refine X.nameS (ws := fun A_9 => (W_A G q A_9)) h (fun A_9 h => ?_)
  refine X.aload_n C dX0_clear_48 rfl 0 rfl ?_
  refine X.get C dX0_clear_49 lay_X0 0 rfl rfl 12 (by decide) fl_X0_28 rfl rfl ?_
  refine X.iconst C dX0_clear_52 ?_
  refine X.fillI C dX0_clear_53 ml_X0_64 ln_A_fill_a_12 rfl rfl (by decide) ?_
  refine X.nameS (ws := fun A_10 => (W_A G q A_10)) h (fun A_10 h => ?_)
  refine X.aload_n C dX0_clear_56 rfl 0 rfl ?_
  refine X.get C dX0_clear_57 lay_X0 0 rfl rfl 13 (by decide) fl_X0_31 rfl rfl ?_
  refine X.iconst C dX0_clear_60 ?_
  refine X.fillI C dX0_clear_61 ml_X0_64 ln_A_fill_a_13 rfl rfl (by decide) ?_
  refine X.nameS (ws := fun A_11 => (W_A G q A_11)) h (fun A_11 h => ?_)
  refine X.aload_n C dX0_clear_64 rfl 0 rfl ?_
  refine X.get C dX0_clear_65 lay_X0 0 rfl rfl 16 (by decide) fl_X0_40 rfl rfl ?_
  refine X.iconst C dX0_clear_68 ?_
  refine X.fillI C dX0_clear_69 ml_X0_64 ln_A_fill_a_16 rfl rfl (by decide) ?_
  refine X.nameS (ws := fun A_12 => (W_A G q A_12)) h (fun A_12 h => ?_)
  cases h
  exact X.vret C dX0_clear_72 (Nat.zero_le _) (Nat.zero_le _)
def rX0_copyFrom : Room := { frames := 1, cells := 0, slots := 0, locals := 60 }
theorem mX0_copyFrom : MV yX0_copyFrom cX0_copyFrom 2 none 1 := ⟨cd_X0_copyFrom, in_X0, ⟨⟨by decide, by decide⟩, by decide +kernel⟩, im_X0_copyFrom, se_X0_copyFrom⟩
set_option maxHeartbeats 4000000 in
set_option maxRecDepth 100000 in
theorem kX0_copyFrom {l : Launch} {G : GT} (q : Nat → Nat) (q2 : Nat → Nat) (A : Ob) (A2 : Ob) (v : (Ob)) (h : fX0_copyFrom A A2 = some v) : CT l G yX0_copyFrom cX0_copyFrom 2 none rX0_copyFrom [.ref (q 31), .ref (q2 31)] (W_AA G q q2 A A2) (W_AA G q q2 v A2) none := by
  unfold fX0_copyFrom at h
  refine CT.of (by decide) (Nat.le_of_ble_eq_true rfl) rfl (fun κ _ C => ?_)
  refine X.aload_n C dX0_copyFrom_0 rfl 0 rfl ?_
  refine X.aload_n C dX0_copyFrom_1 rfl 1 rfl ?_
  refine X.get C dX0_copyFrom_2 lay_X0 10 rfl rfl 0 (by decide) fl_X0_43 rfl rfl ?_
  refine X.put (ws2 := (W_AA G q q2 (up2 A 0 0 (A2 0 0)) A2)) (ty := .int) C dX0_copyFrom_5 lay_X0 tyX0_ok nmX0 0 rfl rfl 0 (by decide) fl_X0_43 rfl rfl (by decide +kernel) rfl rfl (Nat.le_of_ble_eq_true rfl) rfl ?_
  refine X.nameS (ws := fun A_1 => (W_AA G q q2 A_1 A2)) h (fun A_1 h => ?_)
  refine X.aload_n C dX0_copyFrom_8 rfl 0 rfl ?_
  refine X.aload_n C dX0_copyFrom_9 rfl 1 rfl ?_
  refine X.get C dX0_copyFrom_10 lay_X0 10 rfl rfl 1 (by decide) fl_X0_46 rfl rfl ?_
  refine X.put (ws2 := (W_AA G q q2 (up2 A_1 1 0 (A2 1 0)) A2)) (ty := .int) C dX0_copyFrom_13 lay_X0 tyX0_ok nmX0 0 rfl rfl 1 (by decide) fl_X0_46 rfl rfl (by decide +kernel) rfl rfl (Nat.le_of_ble_eq_true rfl) rfl ?_
  refine X.nameS (ws := fun A_2 => (W_AA G q q2 A_2 A2)) h (fun A_2 h => ?_)
  refine X.aload_n C dX0_copyFrom_16 rfl 0 rfl ?_
  refine X.aload_n C dX0_copyFrom_17 rfl 1 rfl ?_
  refine X.get C dX0_copyFrom_18 lay_X0 10 rfl rfl 2 (by decide) fl_X0_49 rfl rfl ?_
  refine X.put (ws2 := (W_AA G q q2 (up2 A_2 2 0 (A2 2 0)) A2)) (ty := .int) C dX0_copyFrom_21 lay_X0 tyX0_ok nmX0 0 rfl rfl 2 (by decide) fl_X0_49 rfl rfl (by decide +kernel) rfl rfl (Nat.le_of_ble_eq_true rfl) rfl ?_
  refine X.nameS (ws := fun A_3 => (W_AA G q q2 A_3 A2)) h (fun A_3 h => ?_)
  refine X.aload_n C dX0_copyFrom_24 rfl 0 rfl ?_
  refine X.aload_n C dX0_copyFrom_25 rfl 1 rfl ?_
  refine X.get C dX0_copyFrom_26 lay_X0 10 rfl rfl 3 (by decide) fl_X0_9 rfl rfl ?_
  refine X.put (ws2 := (W_AA G q q2 (up2 A_3 3 0 (A2 3 0)) A2)) (ty := .int) C dX0_copyFrom_29 lay_X0 tyX0_ok nmX0 0 rfl rfl 3 (by decide) fl_X0_9 rfl rfl (by decide +kernel) rfl rfl (Nat.le_of_ble_eq_true rfl) rfl ?_
  refine X.nameS (ws := fun A_4 => (W_AA G q q2 A_4 A2)) h (fun A_4 h => ?_)
  refine X.aload_n C dX0_copyFrom_32 rfl 0 rfl ?_
  refine X.aload_n C dX0_copyFrom_33 rfl 1 rfl ?_
  refine X.get C dX0_copyFrom_34 lay_X0 10 rfl rfl 4 (by decide) fl_X0_52 rfl rfl ?_
  refine X.put (ws2 := (W_AA G q q2 (up2 A_4 4 0 (A2 4 0)) A2)) (ty := .int) C dX0_copyFrom_37 lay_X0 tyX0_ok nmX0 0 rfl rfl 4 (by decide) fl_X0_52 rfl rfl (by decide +kernel) rfl rfl (Nat.le_of_ble_eq_true rfl) rfl ?_
  refine X.nameS (ws := fun A_5 => (W_AA G q q2 A_5 A2)) h (fun A_5 h => ?_)
  refine X.aload_n C dX0_copyFrom_40 rfl 0 rfl ?_
  refine X.aload_n C dX0_copyFrom_41 rfl 1 rfl ?_
  refine X.get C dX0_copyFrom_42 lay_X0 10 rfl rfl 5 (by decide) fl_X0_55 rfl rfl ?_
  refine X.put (ws2 := (W_AA G q q2 (up2 A_5 5 0 (A2 5 0)) A2)) (ty := .int) C dX0_copyFrom_45 lay_X0 tyX0_ok nmX0 0 rfl rfl 5 (by decide) fl_X0_55 rfl rfl (by decide +kernel) rfl rfl (Nat.le_of_ble_eq_true rfl) rfl ?_
  refine X.nameS (ws := fun A_6 => (W_AA G q q2 A_6 A2)) h (fun A_6 h => ?_)
  refine X.aload_n C dX0_copyFrom_48 rfl 0 rfl ?_
  refine X.aload_n C dX0_copyFrom_49 rfl 1 rfl ?_
  refine X.get C dX0_copyFrom_50 lay_X0 10 rfl rfl 6 (by decide) fl_X0_58 rfl rfl ?_
  refine X.put (ws2 := (W_AA G q q2 (up2 A_6 6 0 (A2 6 0)) A2)) (ty := .int) C dX0_copyFrom_53 lay_X0 tyX0_ok nmX0 0 rfl rfl 6 (by decide) fl_X0_58 rfl rfl (by decide +kernel) rfl rfl (Nat.le_of_ble_eq_true rfl) rfl ?_
  refine X.nameS (ws := fun A_7 => (W_AA G q q2 A_7 A2)) h (fun A_7 h => ?_)
  refine X.aload_n C dX0_copyFrom_56 rfl 0 rfl ?_
  refine X.aload_n C dX0_copyFrom_57 rfl 1 rfl ?_
  refine X.get C dX0_copyFrom_58 lay_X0 10 rfl rfl 7 (by decide) fl_X0_61 rfl rfl ?_
  refine X.put (ws2 := (W_AA G q q2 (up2 A_7 7 0 (A2 7 0)) A2)) (ty := .int) C dX0_copyFrom_61 lay_X0 tyX0_ok nmX0 0 rfl rfl 7 (by decide) fl_X0_61 rfl rfl (by decide +kernel) rfl rfl (Nat.le_of_ble_eq_true rfl) rfl ?_
  refine X.nameS (ws := fun A_8 => (W_AA G q q2 A_8 A2)) h (fun A_8 h => ?_)
  refine X.aload_n C dX0_copyFrom_64 rfl 1 rfl ?_
  refine X.get C dX0_copyFrom_65 lay_X0 10 rfl rfl 8 (by decide) fl_X0_15 rfl rfl ?_
  refine X.iconst C dX0_copyFrom_68 ?_
  refine X.aload_n C dX0_copyFrom_69 rfl 0 rfl ?_
  refine X.get C dX0_copyFrom_70 lay_X0 0 rfl rfl 8 (by decide) fl_X0_15 rfl rfl ?_
  refine X.iconst C dX0_copyFrom_73 ?_
  refine X.bipush C dX0_copyFrom_74 (by decide) ?_
  refine X.cpI (ws2 := (W_AA G q q2 (upA A_8 8 (cpf (A2 8) (A_8 8) 0 0 32)) A2)) C h dX0_copyFrom_76 ml_X0_70 11 1 rfl rfl (Nat.le_of_ble_eq_true rfl) (Nat.le_of_ble_eq_true rfl) rfl (fun h => ?_)
  refine X.nameS (ws := fun A_9 => (W_AA G q q2 A_9 A2)) h (fun A_9 h => ?_)
  refine X.aload_n C dX0_copyFrom_79 rfl 1 rfl ?_
  refine X.get C dX0_copyFrom_80 lay_X0 10 rfl rfl 9 (by decide) fl_X0_19 rfl rfl ?_
  refine X.iconst C dX0_copyFrom_83 ?_
  refine X.aload_n C dX0_copyFrom_84 rfl 0 rfl ?_
  refine X.get C dX0_copyFrom_85 lay_X0 0 rfl rfl 9 (by decide) fl_X0_19 rfl rfl ?_
  refine X.iconst C dX0_copyFrom_88 ?_
  refine X.bipush C dX0_copyFrom_89 (by decide) ?_
  refine X.cpI (ws2 := (W_AA G q q2 (upA A_9 9 (cpf (A2 9) (A_9 9) 0 0 32)) A2)) C h dX0_copyFrom_91 ml_X0_70 12 2 rfl rfl (Nat.le_of_ble_eq_true rfl) (Nat.le_of_ble_eq_true rfl) rfl (fun h => ?_)
  refine X.nameS (ws := fun A_10 => (W_AA G q q2 A_10 A2)) h (fun A_10 h => ?_)
  refine X.aload_n C dX0_copyFrom_94 rfl 1 rfl ?_
  refine X.get C dX0_copyFrom_95 lay_X0 10 rfl rfl 10 (by decide) fl_X0_22 rfl rfl ?_
  refine X.iconst C dX0_copyFrom_98 ?_
  refine X.aload_n C dX0_copyFrom_99 rfl 0 rfl ?_
  refine X.get C dX0_copyFrom_100 lay_X0 0 rfl rfl 10 (by decide) fl_X0_22 rfl rfl ?_
  refine X.iconst C dX0_copyFrom_103 ?_
  refine X.bipush C dX0_copyFrom_104 (by decide) ?_
  refine X.cpI (ws2 := (W_AA G q q2 (upA A_10 10 (cpf (A2 10) (A_10 10) 0 0 32)) A2)) C h dX0_copyFrom_106 ml_X0_70 13 3 rfl rfl (Nat.le_of_ble_eq_true rfl) (Nat.le_of_ble_eq_true rfl) rfl (fun h => ?_)
  refine X.nameS (ws := fun A_11 => (W_AA G q q2 A_11 A2)) h (fun A_11 h => ?_)
  refine X.aload_n C dX0_copyFrom_109 rfl 1 rfl ?_
  refine X.get C dX0_copyFrom_110 lay_X0 10 rfl rfl 11 (by decide) fl_X0_25 rfl rfl ?_
  refine X.iconst C dX0_copyFrom_113 ?_
  refine X.aload_n C dX0_copyFrom_114 rfl 0 rfl ?_
  refine X.get C dX0_copyFrom_115 lay_X0 0 rfl rfl 11 (by decide) fl_X0_25 rfl rfl ?_
  refine X.iconst C dX0_copyFrom_118 ?_
  refine X.bipush C dX0_copyFrom_119 (by decide) ?_
  refine X.cpI (ws2 := (W_AA G q q2 (upA A_11 11 (cpf (A2 11) (A_11 11) 0 0 32)) A2)) C h dX0_copyFrom_121 ml_X0_70 14 4 rfl rfl (Nat.le_of_ble_eq_true rfl) (Nat.le_of_ble_eq_true rfl) rfl (fun h => ?_)
  refine X.nameS (ws := fun A_12 => (W_AA G q q2 A_12 A2)) h (fun A_12 h => ?_)
  refine X.aload_n C dX0_copyFrom_124 rfl 1 rfl ?_
  refine X.get C dX0_copyFrom_125 lay_X0 10 rfl rfl 12 (by decide) fl_X0_28 rfl rfl ?_
  refine X.iconst C dX0_copyFrom_128 ?_
  refine X.aload_n C dX0_copyFrom_129 rfl 0 rfl ?_
  refine X.get C dX0_copyFrom_130 lay_X0 0 rfl rfl 12 (by decide) fl_X0_28 rfl rfl ?_
  refine X.iconst C dX0_copyFrom_133 ?_
  refine X.iconst C dX0_copyFrom_134 ?_
  refine X.cpI (ws2 := (W_AA G q q2 (upA A_12 12 (cpf (A2 12) (A_12 12) 0 0 5)) A2)) C h dX0_copyFrom_135 ml_X0_70 15 5 rfl rfl (Nat.le_of_ble_eq_true rfl) (Nat.le_of_ble_eq_true rfl) rfl (fun h => ?_)
  refine X.nameS (ws := fun A_13 => (W_AA G q q2 A_13 A2)) h (fun A_13 h => ?_)
  refine X.aload_n C dX0_copyFrom_138 rfl 1 rfl ?_
  refine X.get C dX0_copyFrom_139 lay_X0 10 rfl rfl 13 (by decide) fl_X0_31 rfl rfl ?_
  refine X.iconst C dX0_copyFrom_142 ?_
  refine X.aload_n C dX0_copyFrom_143 rfl 0 rfl ?_
  refine X.get C dX0_copyFrom_144 lay_X0 0 rfl rfl 13 (by decide) fl_X0_31 rfl rfl ?_
  refine X.iconst C dX0_copyFrom_147 ?_
  refine X.iconst C dX0_copyFrom_148 ?_
  refine X.cpI (ws2 := (W_AA G q q2 (upA A_13 13 (cpf (A2 13) (A_13 13) 0 0 5)) A2)) C h dX0_copyFrom_149 ml_X0_70 16 6 rfl rfl (Nat.le_of_ble_eq_true rfl) (Nat.le_of_ble_eq_true rfl) rfl (fun h => ?_)
  refine X.nameS (ws := fun A_14 => (W_AA G q q2 A_14 A2)) h (fun A_14 h => ?_)
  refine X.aload_n C dX0_copyFrom_152 rfl 1 rfl ?_
  refine X.get C dX0_copyFrom_153 lay_X0 10 rfl rfl 14 (by decide) fl_X0_34 rfl rfl ?_
  refine X.iconst C dX0_copyFrom_156 ?_
  refine X.aload_n C dX0_copyFrom_157 rfl 0 rfl ?_
  refine X.get C dX0_copyFrom_158 lay_X0 0 rfl rfl 14 (by decide) fl_X0_34 rfl rfl ?_
  refine X.iconst C dX0_copyFrom_161 ?_
  refine X.sipush C dX0_copyFrom_162 (by decide) ?_
  refine X.cpI (ws2 := (W_AA G q q2 (upA A_14 14 (cpf (A2 14) (A_14 14) 0 0 160)) A2)) C h dX0_copyFrom_165 ml_X0_70 17 7 rfl rfl (Nat.le_of_ble_eq_true rfl) (Nat.le_of_ble_eq_true rfl) rfl (fun h => ?_)
  refine X.nameS (ws := fun A_15 => (W_AA G q q2 A_15 A2)) h (fun A_15 h => ?_)
  refine X.aload_n C dX0_copyFrom_168 rfl 1 rfl ?_
  refine X.get C dX0_copyFrom_169 lay_X0 10 rfl rfl 15 (by decide) fl_X0_37 rfl rfl ?_
  refine X.iconst C dX0_copyFrom_172 ?_
  refine X.aload_n C dX0_copyFrom_173 rfl 0 rfl ?_
  refine X.get C dX0_copyFrom_174 lay_X0 0 rfl rfl 15 (by decide) fl_X0_37 rfl rfl ?_
  refine X.iconst C dX0_copyFrom_177 ?_
  refine X.sipush C dX0_copyFrom_178 (by decide) ?_
  refine X.cpI (ws2 := (W_AA G q q2 (upA A_15 15 (cpf (A2 15) (A_15 15) 0 0 160)) A2)) C h dX0_copyFrom_181 ml_X0_70 18 8 rfl rfl (Nat.le_of_ble_eq_true rfl) (Nat.le_of_ble_eq_true rfl) rfl (fun h => ?_)
  refine X.nameS (ws := fun A_16 => (W_AA G q q2 A_16 A2)) h (fun A_16 h => ?_)
  refine X.aload_n C dX0_copyFrom_184 rfl 1 rfl ?_
  refine X.get C dX0_copyFrom_185 lay_X0 10 rfl rfl 16 (by decide) fl_X0_40 rfl rfl ?_
  refine X.iconst C dX0_copyFrom_188 ?_
  refine X.aload_n C dX0_copyFrom_189 rfl 0 rfl ?_
  refine X.get C dX0_copyFrom_190 lay_X0 0 rfl rfl 16 (by decide) fl_X0_40 rfl rfl ?_
  refine X.iconst C dX0_copyFrom_193 ?_
  refine X.sipush C dX0_copyFrom_194 (by decide) ?_
  refine X.cpI (ws2 := (W_AA G q q2 (upA A_16 16 (cpf (A2 16) (A_16 16) 0 0 900)) A2)) C h dX0_copyFrom_197 ml_X0_70 19 9 rfl rfl (Nat.le_of_ble_eq_true rfl) (Nat.le_of_ble_eq_true rfl) rfl (fun h => ?_)
  refine X.nameS (ws := fun A_17 => (W_AA G q q2 A_17 A2)) h (fun A_17 h => ?_)
  cases h
  exact X.vret C dX0_copyFrom_200 (Nat.zero_le _) (Nat.zero_le _)
def rX0_wetAt : Room := { frames := 0, cells := 0, slots := 0, locals := 0 }
theorem mX0_wetAt : MV yX0_wetAt cX0_wetAt 3 (some .int) 2 := ⟨cd_X0_wetAt, in_X0, ⟨⟨by decide, by decide⟩, by decide +kernel⟩, im_X0_wetAt, se_X0_wetAt⟩
set_option maxHeartbeats 4000000 in
set_option maxRecDepth 100000 in
theorem kX0_wetAt {l : Launch} {G : GT} (q : Nat → Nat) (A : Ob) (lx1 : Int) (lx2 : Int) (v : (Int)) (h : fX0_wetAt A lx1 lx2 = some v) : CT l G yX0_wetAt cX0_wetAt 3 (some .int) rX0_wetAt [.ref (q 31), vi lx1, vi lx2] (W_A G q A) (W_A G q A) (some (vi v)) := by
  unfold fX0_wetAt at h
  refine CT.of (by decide) (Nat.le_of_ble_eq_true rfl) rfl (fun κ _ C => ?_)
  refine X.aload_n C dX0_wetAt_0 rfl 0 rfl ?_
  refine X.get C dX0_wetAt_1 lay_X0 0 rfl rfl 16 (by decide) fl_X0_40 rfl rfl ?_
  refine X.bipush C dX0_wetAt_4 (by decide) ?_
  refine X.iload_n C dX0_wetAt_6 rfl 2 rfl ?_
  refine X.imul C dX0_wetAt_7 ?_
  refine X.iload_n C dX0_wetAt_8 rfl 1 rfl ?_
  refine X.iadd C dX0_wetAt_9 ?_
  refine X.iald C h dX0_wetAt_10 9 rfl (fun h => ?_)
  cases h
  exact X.iret C dX0_wetAt_11 (Nat.zero_le _) (Nat.zero_le _)
def rX0_dropsUp : Room := { frames := 0, cells := 0, slots := 0, locals := 0 }
theorem mX0_dropsUp : MV yX0_dropsUp cX0_dropsUp 1 (some .int) 0 := ⟨cd_X0_dropsUp, in_X0, ⟨⟨by decide, by decide⟩, by decide +kernel⟩, im_X0_dropsUp, se_X0_dropsUp⟩
set_option maxHeartbeats 4000000 in
set_option maxRecDepth 100000 in
theorem kX0_dropsUp {l : Launch} {G : GT} (q : Nat → Nat) (A : Ob) (v : (Int)) (h : fX0_dropsUp A = some v) : CT l G yX0_dropsUp cX0_dropsUp 1 (some .int) rX0_dropsUp [.ref (q 31)] (W_A G q A) (W_A G q A) (some (vi v)) := by
  unfold fX0_dropsUp at h
  refine CT.of (by decide) (Nat.le_of_ble_eq_true rfl) rfl (fun κ _ C => ?_)
  refine X.aload_n C dX0_dropsUp_0 rfl 0 rfl ?_
  refine X.get C dX0_dropsUp_1 lay_X0 0 rfl rfl 7 (by decide) fl_X0_61 rfl rfl ?_
  refine X.aload_n C dX0_dropsUp_4 rfl 0 rfl ?_
  refine X.get C dX0_dropsUp_5 lay_X0 0 rfl rfl 4 (by decide) fl_X0_52 rfl rfl ?_
  refine X.isub C dX0_dropsUp_8 ?_
  refine X.aload_n C dX0_dropsUp_9 rfl 0 rfl ?_
  refine X.get C dX0_dropsUp_10 lay_X0 0 rfl rfl 5 (by decide) fl_X0_55 rfl rfl ?_
  refine X.isub C dX0_dropsUp_13 ?_
  refine X.aload_n C dX0_dropsUp_14 rfl 0 rfl ?_
  refine X.get C dX0_dropsUp_15 lay_X0 0 rfl rfl 6 (by decide) fl_X0_58 rfl rfl ?_
  refine X.isub C dX0_dropsUp_18 ?_
  cases h
  exact X.iret C dX0_dropsUp_19 (Nat.zero_le _) (Nat.zero_le _)
def rX0_lumpsUp : Room := { frames := 0, cells := 0, slots := 0, locals := 0 }
theorem mX0_lumpsUp : MV yX0_lumpsUp cX0_lumpsUp 3 (some .int) 0 := ⟨cd_X0_lumpsUp, in_X0, ⟨⟨by decide, by decide⟩, by decide +kernel⟩, im_X0_lumpsUp, se_X0_lumpsUp⟩
set_option maxHeartbeats 4000000 in
set_option maxRecDepth 100000 in
theorem xX0_lumpsUp_4 {κ : Kx} {G : GT} (C : Cx κ G yX0_lumpsUp cX0_lumpsUp (some .int) 3 rX0_lumpsUp) (q : Nat → Nat) (A : Ob) (v : (Int)) : ∀ (n : Nat) (lx1 : Int) (lx2 : Int), lX0_lumpsUp_4 A n lx1 lx2 = some v → X κ G 3 (W_A G q A) 4 [(0, .ref (q 31)), (1, vi lx1), (2, vi lx2)] [] 0 0 (QM κ G (W_A G q A) (some (vi v)) rX0_lumpsUp.cells rX0_lumpsUp.slots) := by
  intro n
  induction n with
  | zero => intro _ _ h; exact absurd h (fun h => nomatch h)
  | succ n ih =>
    intro lx1 lx2 h
    rw [lX0_lumpsUp_4] at h
    refine X.iload_n C dX0_lumpsUp_4 rfl 2 rfl ?_
    refine X.bipush C dX0_lumpsUp_5 (by decide) ?_
    refine X.icmp_ge (tgt := 28) C h dX0_lumpsUp_7 (by decide) (fun h => ?_) (fun h => ?_)
    · refine X.iload_n C dX0_lumpsUp_28 rfl 1 rfl ?_
      cases h
      exact X.iret C dX0_lumpsUp_29 (Nat.zero_le _) (Nat.zero_le _)
    refine X.aload_n C dX0_lumpsUp_10 rfl 0 rfl ?_
    refine X.get C dX0_lumpsUp_11 lay_X0 0 rfl rfl 9 (by decide) fl_X0_19 rfl rfl ?_
    refine X.iload_n C dX0_lumpsUp_14 rfl 2 rfl ?_
    refine X.iald C h dX0_lumpsUp_15 2 rfl (fun h => ?_)
    refine X.if_le (tgt := 22) C h dX0_lumpsUp_16 (by decide) (fun h => ?_) (fun h => ?_)
    · refine X.iincN (lv2 := fun lx2_1 => [(2, vi lx2_1), (0, .ref (q 31)), (1, vi lx1)]) C h dX0_lumpsUp_22 2 rfl (by decide) (fun _ => rfl) (fun lx2_1 h => ?_)
      refine X.goto (tgt := 4) C dX0_lumpsUp_25 (by decide) ?_
      refine X.sub [1, 2, 0] rfl ?_
      exact ih lx1 lx2_1 h
    refine X.iincN (lv2 := fun lx1_2 => [(1, vi lx1_2), (0, .ref (q 31)), (2, vi lx2)]) C h dX0_lumpsUp_19 1 rfl (by decide) (fun _ => rfl) (fun lx1_2 h => ?_)
    refine X.iincN (lv2 := fun lx2_3 => [(2, vi lx2_3), (1, vi lx1_2), (0, .ref (q 31))]) C h dX0_lumpsUp_22 2 rfl (by decide) (fun _ => rfl) (fun lx2_3 h => ?_)
    refine X.goto (tgt := 4) C dX0_lumpsUp_25 (by decide) ?_
    refine X.sub [2, 1, 0] rfl ?_
    exact ih lx1_2 lx2_3 h
set_option maxHeartbeats 4000000 in
set_option maxRecDepth 100000 in
theorem kX0_lumpsUp {l : Launch} {G : GT} (q : Nat → Nat) (A : Ob) (v : (Int)) (h : fX0_lumpsUp A = some v) : CT l G yX0_lumpsUp cX0_lumpsUp 3 (some .int) rX0_lumpsUp [.ref (q 31)] (W_A G q A) (W_A G q A) (some (vi v)) := by
  unfold fX0_lumpsUp at h
  refine CT.of (by decide) (Nat.le_of_ble_eq_true rfl) rfl (fun κ _ C => ?_)
  refine X.iconst C dX0_lumpsUp_0 ?_
  refine X.istore_n (lv2 := [(1, vi 0), (0, .ref (q 31))]) C dX0_lumpsUp_1 rfl (by decide) rfl ?_
  refine X.iconst C dX0_lumpsUp_2 ?_
  refine X.istore_n (lv2 := [(2, vi 0), (1, vi 0), (0, .ref (q 31))]) C dX0_lumpsUp_3 rfl (by decide) rfl ?_
  refine X.sub [2, 1, 0] rfl ?_
  refine xX0_lumpsUp_4 C q A v FU 0 0 h
def rX0_driftAll : Room := { frames := 0, cells := 0, slots := 0, locals := 0 }
theorem mX0_driftAll : MV yX0_driftAll cX0_driftAll 7 none 2 := ⟨cd_X0_driftAll, in_X0, ⟨⟨by decide, by decide⟩, by decide +kernel⟩, im_X0_driftAll, se_X0_driftAll⟩
set_option maxHeartbeats 4000000 in
set_option maxRecDepth 100000 in
theorem xX0_driftAll_32 {κ : Kx} {G : GT} (C : Cx κ G yX0_driftAll cX0_driftAll none 7 rX0_driftAll) (qa : Nat → Nat) (qp : Nat → Nat) (P : Ob) (lx4 : Int) (lx5 : Int) (v : (Ob)) : ∀ (n : Nat) (lx6 : Int) (A : Ob), lX0_driftAll_32 P lx4 lx5 n lx6 A = some v → X κ G 7 (W_AP G qa qp A P) 32 [(0, .ref (qa 31)), (1, .ref (qp 31)), (4, vi lx4), (5, vi lx5), (6, vi lx6)] [] 0 0 (QM κ G (W_AP G qa qp v P) none rX0_driftAll.cells rX0_driftAll.slots) := by
  intro n
  induction n with
  | zero => intro _ _ h; exact absurd h (fun h => nomatch h)
  | succ n ih =>
    intro lx6 A h
    rw [lX0_driftAll_32] at h
    refine X.iload C dX0_driftAll_32 4 rfl ?_
    refine X.aload_n C dX0_driftAll_34 rfl 1 rfl ?_
    refine X.get C dX0_driftAll_35 lay_X1 10 rfl rfl 11 (by decide) fl_X0_82 rfl rfl ?_
    refine X.icmp_ge (tgt := 87) C h dX0_driftAll_38 (by decide) (fun h => ?_) (fun h => ?_)
    · cases h
      exact X.vret C dX0_driftAll_87 (Nat.zero_le _) (Nat.zero_le _)
    refine X.aload_n C dX0_driftAll_41 rfl 0 rfl ?_
    refine X.get C dX0_driftAll_42 lay_X0 0 rfl rfl 12 (by decide) fl_X0_28 rfl rfl ?_
    refine X.iload C dX0_driftAll_45 4 rfl ?_
    refine X.dup2 C dX0_driftAll_47 rfl rfl ?_
    refine X.iald C h dX0_driftAll_48 5 rfl (fun h => ?_)
    refine X.aload_n C dX0_driftAll_49 rfl 1 rfl ?_
    refine X.get C dX0_driftAll_50 lay_X1 10 rfl rfl 12 (by decide) fl_X0_87 rfl rfl ?_
    refine X.iload C dX0_driftAll_53 4 rfl ?_
    refine X.iald C h dX0_driftAll_55 11 rfl (fun h => ?_)
    refine X.iload C dX0_driftAll_56 2 rfl ?_
    refine X.imul C dX0_driftAll_58 ?_
    refine X.iadd C dX0_driftAll_59 ?_
    refine X.iast (ws2 := (W_AP G qa qp (up2 A 12 (ix lx6) ((A 12 (ix lx6)) + ((P 12 (ix lx6)) * lx4))) P)) C h dX0_driftAll_60 5 rfl rfl (fun h => ?_)
    refine X.nameS (ws := fun A_4 => (W_AP G qa qp A_4 P)) h (fun A_4 h => ?_)
    refine X.aload_n C dX0_driftAll_61 rfl 0 rfl ?_
    refine X.get C dX0_driftAll_62 lay_X0 0 rfl rfl 13 (by decide) fl_X0_31 rfl rfl ?_
    refine X.iload C dX0_driftAll_65 4 rfl ?_
    refine X.dup2 C dX0_driftAll_67 rfl rfl ?_
    refine X.iald C h dX0_driftAll_68 6 rfl (fun h => ?_)
    refine X.aload_n C dX0_driftAll_69 rfl 1 rfl ?_
    refine X.get C dX0_driftAll_70 lay_X1 10 rfl rfl 12 (by decide) fl_X0_87 rfl rfl ?_
    refine X.iload C dX0_driftAll_73 4 rfl ?_
    refine X.iald C h dX0_driftAll_75 11 rfl (fun h => ?_)
    refine X.iload C dX0_driftAll_76 3 rfl ?_
    refine X.imul C dX0_driftAll_78 ?_
    refine X.iadd C dX0_driftAll_79 ?_
    refine X.iast (ws2 := (W_AP G qa qp (up2 A_4 13 (ix lx6) ((A_4 13 (ix lx6)) + ((P 12 (ix lx6)) * lx5))) P)) C h dX0_driftAll_80 6 rfl rfl (fun h => ?_)
    refine X.nameS (ws := fun A_5 => (W_AP G qa qp A_5 P)) h (fun A_5 h => ?_)
    refine X.iincN (lv2 := fun lx6_6 => [(6, vi lx6_6), (0, .ref (qa 31)), (1, .ref (qp 31)), (4, vi lx4), (5, vi lx5)]) C h dX0_driftAll_81 4 rfl (by decide) (fun _ => rfl) (fun lx6_6 h => ?_)
    refine X.goto (tgt := 32) C dX0_driftAll_84 (by decide) ?_
    refine X.sub [1, 2, 3, 4, 0] rfl ?_
    exact ih lx6_6 A_5 h
set_option maxHeartbeats 4000000 in
set_option maxRecDepth 100000 in
theorem kX0_driftAll {l : Launch} {G : GT} (qa : Nat → Nat) (qp : Nat → Nat) (A : Ob) (P : Ob) (lx2 : Int) (v : (Ob)) (h : fX0_driftAll A P lx2 = some v) : CT l G yX0_driftAll cX0_driftAll 7 none rX0_driftAll [.ref (qa 31), .ref (qp 31), vi lx2] (W_AP G qa qp A P) (W_AP G qa qp v P) none := by
  unfold fX0_driftAll at h
  refine CT.of (by decide) (Nat.le_of_ble_eq_true rfl) rfl (fun κ _ C => ?_)
  refine X.iload_n C dX0_driftAll_0 rfl 2 rfl ?_
  refine X.bipush C dX0_driftAll_1 (by decide) ?_
  refine X.irem C (by decide) dX0_driftAll_3 ?_
  refine X.istoreN_n (lv2 := fun lx3_1 => [(3, vi lx3_1), (0, .ref (qa 31)), (1, .ref (qp 31)), (2, vi lx2)]) C h dX0_driftAll_4 rfl (by decide) (fun _ => rfl) (fun lx3_1 h => ?_)
  refine X.iload_n C dX0_driftAll_5 rfl 0 rfl ?_
  refine X.getsNX C dX0_driftAll_6 fn_X0_76 ?_
  refine X.iload_n C dX0_driftAll_9 rfl 3 rfl ?_
  refine X.bipush C dX0_driftAll_10 (by decide) ?_
  refine X.idiv C (by decide) dX0_driftAll_12 ?_
  refine X.aldX C h dX0_driftAll_13 (fun h => ?_)
  refine X.imul C dX0_driftAll_14 ?_
  refine X.istoreN (lv2 := fun lx4_2 => [(4, vi lx4_2), (3, vi lx3_1), (0, .ref (qa 31)), (1, .ref (qp 31)), (2, vi lx2)]) C h dX0_driftAll_15 (by decide) (fun _ => rfl) (fun lx4_2 h => ?_)
  refine X.iload_n C dX0_driftAll_17 rfl 1 rfl ?_
  refine X.getsNY C dX0_driftAll_18 fn_X0_79 ?_
  refine X.iload_n C dX0_driftAll_21 rfl 4 rfl ?_
  refine X.bipush C dX0_driftAll_22 (by decide) ?_
  refine X.idiv C (by decide) dX0_driftAll_24 ?_
  refine X.aldY C h dX0_driftAll_25 (fun h => ?_)
  refine X.imul C dX0_driftAll_26 ?_
  refine X.istoreN (lv2 := fun lx5_3 => [(5, vi lx5_3), (4, vi lx4_2), (3, vi lx3_1), (0, .ref (qa 31)), (1, .ref (qp 31)), (2, vi lx2)]) C h dX0_driftAll_27 (by decide) (fun _ => rfl) (fun lx5_3 h => ?_)
  refine X.iconst C dX0_driftAll_29 ?_
  refine X.istore (lv2 := [(6, vi 0), (5, vi lx5_3), (4, vi lx4_2), (3, vi lx3_1), (0, .ref (qa 31)), (1, .ref (qp 31)), (2, vi lx2)]) C dX0_driftAll_30 (by decide) rfl ?_
  refine X.sub [4, 5, 2, 1, 0] rfl ?_
  refine xX0_driftAll_32 C qa qp P lx4_2 lx5_3 v FU 0 A h
def rX1_placeHit : Room := { frames := 0, cells := 0, slots := 0, locals := 0 }
theorem mX1_placeHit : MV yX1_placeHit cX1_placeHit 3 (some .int) 2 := ⟨cd_X1_placeHit, in_X1, ⟨⟨by decide, by decide⟩, by decide +kernel⟩, im_X1_placeHit, se_X1_placeHit⟩
set_option maxHeartbeats 4000000 in
set_option maxRecDepth 100000 in
theorem xX1_placeHit_55 {κ : Kx} {G : GT} (C : Cx κ G yX1_placeHit cX1_placeHit (some .int) 3 rX1_placeHit) (q : Nat → Nat) (P : Ob) (lx1 : Int) (lx2 : Int) (v : (Int)) (h : jX1_placeHit_55 P lx1 lx2 = some v) : X κ G 3 (W_P G q P) 55 [(0, .ref (q 31)), (1, vi lx1), (2, vi lx2)] [] 0 0 (QM κ G (W_P G q P) (some (vi v)) rX1_placeHit.cells rX1_placeHit.slots) := by
  unfold jX1_placeHit_55 at h
  refine X.iload_n C dX1_placeHit_55 rfl 1 rfl ?_
  refine X.if_lt (tgt := 88) C h dX1_placeHit_56 (by decide) (fun h => ?_) (fun h => ?_)
  · refine X.iconst C dX1_placeHit_88 ?_
    cases h
    exact X.iret C dX1_placeHit_89 (Nat.zero_le _) (Nat.zero_le _)
  refine X.iload_n C dX1_placeHit_59 rfl 1 rfl ?_
  refine X.aload_n C dX1_placeHit_60 rfl 0 rfl ?_
  refine X.get C dX1_placeHit_61 lay_X1 0 rfl rfl 1 (by decide) fl_X1_37 rfl rfl ?_
  refine X.icmp_ge (tgt := 88) C h dX1_placeHit_64 (by decide) (fun h => ?_) (fun h => ?_)
  · refine X.iconst C dX1_placeHit_88 ?_
    cases h
    exact X.iret C dX1_placeHit_89 (Nat.zero_le _) (Nat.zero_le _)
  refine X.iload_n C dX1_placeHit_67 rfl 2 rfl ?_
  refine X.if_lt (tgt := 88) C h dX1_placeHit_68 (by decide) (fun h => ?_) (fun h => ?_)
  · refine X.iconst C dX1_placeHit_88 ?_
    cases h
    exact X.iret C dX1_placeHit_89 (Nat.zero_le _) (Nat.zero_le _)
  refine X.iload_n C dX1_placeHit_71 rfl 2 rfl ?_
  refine X.aload_n C dX1_placeHit_72 rfl 0 rfl ?_
  refine X.get C dX1_placeHit_73 lay_X1 0 rfl rfl 2 (by decide) fl_X1_40 rfl rfl ?_
  refine X.icmp_ge (tgt := 88) C h dX1_placeHit_76 (by decide) (fun h => ?_) (fun h => ?_)
  · refine X.iconst C dX1_placeHit_88 ?_
    cases h
    exact X.iret C dX1_placeHit_89 (Nat.zero_le _) (Nat.zero_le _)
  refine X.iload_n C dX1_placeHit_79 rfl 1 rfl ?_
  refine X.bipush C dX1_placeHit_80 (by decide) ?_
  refine X.iload_n C dX1_placeHit_82 rfl 2 rfl ?_
  refine X.imul C dX1_placeHit_83 ?_
  refine X.iadd C dX1_placeHit_84 ?_
  refine X.goto (tgt := 89) C dX1_placeHit_85 (by decide) ?_
  cases h
  exact X.iret C dX1_placeHit_89 (Nat.zero_le _) (Nat.zero_le _)
set_option maxHeartbeats 4000000 in
set_option maxRecDepth 100000 in
theorem kX1_placeHit {l : Launch} {G : GT} (q : Nat → Nat) (P : Ob) (lx1 : Int) (lx2 : Int) (v : (Int)) (h : fX1_placeHit P lx1 lx2 = some v) : CT l G yX1_placeHit cX1_placeHit 3 (some .int) rX1_placeHit [.ref (q 31), vi lx1, vi lx2] (W_P G q P) (W_P G q P) (some (vi v)) := by
  unfold fX1_placeHit at h
  refine CT.of (by decide) (Nat.le_of_ble_eq_true rfl) rfl (fun κ _ C => ?_)
  refine X.iload_n C dX1_placeHit_0 rfl 1 rfl ?_
  refine X.aload_n C dX1_placeHit_1 rfl 0 rfl ?_
  refine X.get C dX1_placeHit_2 lay_X1 0 rfl rfl 3 (by decide) fl_X1_43 rfl rfl ?_
  refine X.aload_n C dX1_placeHit_5 rfl 0 rfl ?_
  refine X.get C dX1_placeHit_6 lay_X1 0 rfl rfl 5 (by decide) fl_X1_49 rfl rfl ?_
  refine X.isub C dX1_placeHit_9 ?_
  refine X.icmp_lt (tgt := 55) C h dX1_placeHit_10 (by decide) (fun h => ?_) (fun h => ?_)
  · refine X.sub [0, 1, 2] rfl ?_
    exact xX1_placeHit_55 C q P lx1 lx2 v h
  refine X.iload_n C dX1_placeHit_13 rfl 1 rfl ?_
  refine X.aload_n C dX1_placeHit_14 rfl 0 rfl ?_
  refine X.get C dX1_placeHit_15 lay_X1 0 rfl rfl 3 (by decide) fl_X1_43 rfl rfl ?_
  refine X.aload_n C dX1_placeHit_18 rfl 0 rfl ?_
  refine X.get C dX1_placeHit_19 lay_X1 0 rfl rfl 5 (by decide) fl_X1_49 rfl rfl ?_
  refine X.iadd C dX1_placeHit_22 ?_
  refine X.icmp_gt (tgt := 55) C h dX1_placeHit_23 (by decide) (fun h => ?_) (fun h => ?_)
  · refine X.sub [0, 1, 2] rfl ?_
    exact xX1_placeHit_55 C q P lx1 lx2 v h
  refine X.iload_n C dX1_placeHit_26 rfl 2 rfl ?_
  refine X.aload_n C dX1_placeHit_27 rfl 0 rfl ?_
  refine X.get C dX1_placeHit_28 lay_X1 0 rfl rfl 4 (by decide) fl_X1_46 rfl rfl ?_
  refine X.aload_n C dX1_placeHit_31 rfl 0 rfl ?_
  refine X.get C dX1_placeHit_32 lay_X1 0 rfl rfl 5 (by decide) fl_X1_49 rfl rfl ?_
  refine X.isub C dX1_placeHit_35 ?_
  refine X.icmp_lt (tgt := 55) C h dX1_placeHit_36 (by decide) (fun h => ?_) (fun h => ?_)
  · refine X.sub [0, 1, 2] rfl ?_
    exact xX1_placeHit_55 C q P lx1 lx2 v h
  refine X.iload_n C dX1_placeHit_39 rfl 2 rfl ?_
  refine X.aload_n C dX1_placeHit_40 rfl 0 rfl ?_
  refine X.get C dX1_placeHit_41 lay_X1 0 rfl rfl 4 (by decide) fl_X1_46 rfl rfl ?_
  refine X.aload_n C dX1_placeHit_44 rfl 0 rfl ?_
  refine X.get C dX1_placeHit_45 lay_X1 0 rfl rfl 5 (by decide) fl_X1_49 rfl rfl ?_
  refine X.iadd C dX1_placeHit_48 ?_
  refine X.icmp_gt (tgt := 55) C h dX1_placeHit_49 (by decide) (fun h => ?_) (fun h => ?_)
  · refine X.sub [0, 1, 2] rfl ?_
    exact xX1_placeHit_55 C q P lx1 lx2 v h
  refine X.bipush C dX1_placeHit_52 (by decide) ?_
  cases h
  exact X.iret C dX1_placeHit_54 (Nat.zero_le _) (Nat.zero_le _)
def rX0_placeIn : Room := { frames := 1, cells := 0, slots := 0, locals := 22 }
theorem mX0_placeIn : MV yX0_placeIn cX0_placeIn 9 (some .int) 5 := ⟨cd_X0_placeIn, in_X0, ⟨⟨by decide, by decide⟩, by decide +kernel⟩, im_X0_placeIn, se_X0_placeIn⟩
set_option maxHeartbeats 4000000 in
set_option maxRecDepth 100000 in
theorem kX0_placeIn {l : Launch} {G : GT} (qa : Nat → Nat) (qp : Nat → Nat) (A : Ob) (P : Ob) (lx2 : Int) (lx3 : Int) (lx4 : Int) (lx5 : Int) (v : (Int)) (h : fX0_placeIn A P lx2 lx3 lx4 lx5 = some v) : CT l G yX0_placeIn cX0_placeIn 9 (some .int) rX0_placeIn [.ref (qa 31), .ref (qp 31), vi lx2, vi lx3, vi lx4, vi lx5] (W_AP G qa qp A P) (W_AP G qa qp A P) (some (vi v)) := by
  unfold fX0_placeIn at h
  refine CT.of (by decide) (Nat.le_of_ble_eq_true rfl) rfl (fun κ _ C => ?_)
  refine X.iload_n C dX0_placeIn_0 rfl 2 rfl ?_
  refine X.iconst C dX0_placeIn_1 ?_
  refine X.imul C dX0_placeIn_2 ?_
  refine X.iload_n C dX0_placeIn_3 rfl 3 rfl ?_
  refine X.iadd C dX0_placeIn_4 ?_
  refine X.istoreN (lv2 := fun lx6_1 => [(6, vi lx6_1), (0, .ref (qa 31)), (1, .ref (qp 31)), (2, vi lx2), (3, vi lx3), (4, vi lx4), (5, vi lx5)]) C h dX0_placeIn_5 (by decide) (fun _ => rfl) (fun lx6_1 h => ?_)
  refine X.aload_n C dX0_placeIn_7 rfl 1 rfl ?_
  refine X.get C dX0_placeIn_8 lay_X0 0 rfl rfl 12 (by decide) fl_X0_28 rfl rfl ?_
  refine X.iload_n C dX0_placeIn_11 rfl 4 rfl ?_
  refine X.iald C h dX0_placeIn_12 5 rfl (fun h => ?_)
  refine X.aload_n C dX0_placeIn_13 rfl 1 rfl ?_
  refine X.get C dX0_placeIn_14 lay_X0 0 rfl rfl 14 (by decide) fl_X0_34 rfl rfl ?_
  refine X.iload C dX0_placeIn_17 0 rfl ?_
  refine X.iald C h dX0_placeIn_19 7 rfl (fun h => ?_)
  refine X.isub C dX0_placeIn_20 ?_
  refine X.aload_n C dX0_placeIn_21 rfl 2 rfl ?_
  refine X.get C dX0_placeIn_22 lay_X1 10 rfl rfl 12 (by decide) fl_X0_87 rfl rfl ?_
  refine X.iload_n C dX0_placeIn_25 rfl 4 rfl ?_
  refine X.iald C h dX0_placeIn_26 11 rfl (fun h => ?_)
  refine X.iload C dX0_placeIn_27 5 rfl ?_
  refine X.imul C dX0_placeIn_29 ?_
  refine X.iadd C dX0_placeIn_30 ?_
  refine X.istoreN (lv2 := fun lx7_2 => [(7, vi lx7_2), (6, vi lx6_1), (0, .ref (qa 31)), (1, .ref (qp 31)), (2, vi lx2), (3, vi lx3), (4, vi lx4), (5, vi lx5)]) C h dX0_placeIn_31 (by decide) (fun _ => rfl) (fun lx7_2 h => ?_)
  refine X.aload_n C dX0_placeIn_33 rfl 2 rfl ?_
  refine X.get C dX0_placeIn_34 lay_X0 0 rfl rfl 13 (by decide) fl_X0_31 rfl rfl ?_
  refine X.iload_n C dX0_placeIn_37 rfl 5 rfl ?_
  refine X.iald C h dX0_placeIn_38 6 rfl (fun h => ?_)
  refine X.aload_n C dX0_placeIn_39 rfl 2 rfl ?_
  refine X.get C dX0_placeIn_40 lay_X0 0 rfl rfl 15 (by decide) fl_X0_37 rfl rfl ?_
  refine X.iload C dX0_placeIn_43 1 rfl ?_
  refine X.iald C h dX0_placeIn_45 8 rfl (fun h => ?_)
  refine X.isub C dX0_placeIn_46 ?_
  refine X.aload_n C dX0_placeIn_47 rfl 3 rfl ?_
  refine X.get C dX0_placeIn_48 lay_X1 10 rfl rfl 12 (by decide) fl_X0_87 rfl rfl ?_
  refine X.iload_n C dX0_placeIn_51 rfl 5 rfl ?_
  refine X.iald C h dX0_placeIn_52 11 rfl (fun h => ?_)
  refine X.iload C dX0_placeIn_53 7 rfl ?_
  refine X.imul C dX0_placeIn_55 ?_
  refine X.iadd C dX0_placeIn_56 ?_
  refine X.istoreN (lv2 := fun lx8_3 => [(8, vi lx8_3), (7, vi lx7_2), (6, vi lx6_1), (0, .ref (qa 31)), (1, .ref (qp 31)), (2, vi lx2), (3, vi lx3), (4, vi lx4), (5, vi lx5)]) C h dX0_placeIn_57 (by decide) (fun _ => rfl) (fun lx8_3 h => ?_)
  refine X.aload_n C dX0_placeIn_59 rfl 4 rfl ?_
  refine X.aload_n C dX0_placeIn_60 rfl 3 rfl ?_
  refine X.get C dX0_placeIn_61 lay_X0 0 rfl rfl 10 (by decide) fl_X0_22 rfl rfl ?_
  refine X.iload_n C dX0_placeIn_64 rfl 5 rfl ?_
  refine X.iald C h dX0_placeIn_65 3 rfl (fun h => ?_)
  refine X.iload C dX0_placeIn_66 1 rfl ?_
  refine X.bipush C dX0_placeIn_68 (by decide) ?_
  refine X.idiv C (by decide) dX0_placeIn_70 ?_
  refine X.iadd C dX0_placeIn_71 ?_
  refine X.aload_n C dX0_placeIn_72 rfl 3 rfl ?_
  refine X.get C dX0_placeIn_73 lay_X0 0 rfl rfl 11 (by decide) fl_X0_25 rfl rfl ?_
  refine X.iload_n C dX0_placeIn_76 rfl 5 rfl ?_
  refine X.iald C h dX0_placeIn_77 4 rfl (fun h => ?_)
  refine X.iload C dX0_placeIn_78 0 rfl ?_
  refine X.bipush C dX0_placeIn_80 (by decide) ?_
  refine X.idiv C (by decide) dX0_placeIn_82 ?_
  refine X.iadd C dX0_placeIn_83 ?_
  refine X.callVi (q0 := 10) (As := [vi ((A 10 (ix lx2)) + (jdv lx7_2 100)), vi ((A 11 (ix lx2)) + (jdv lx8_3 100))]) (rest := []) (g := fun rr_4 => rr_4) (W1 := fun rr_4 => (W_P G qp P)) (ws2 := fun rr_4 => (W_AP G qa qp A P)) C h dX0_placeIn_84 ml_X0_105 mX1_placeHit (fun v hv => kX1_placeHit qp P ((A 10 (ix lx2)) + (jdv lx7_2 100)) ((A 11 (ix lx2)) + (jdv lx8_3 100)) v hv) (fun rr_4 => ln_AP_P_p_n (G := G) (qa := qa) (qp := qp) (A := A) (P := P)) rfl rfl rfl rfl rfl rfl rfl rfl (fun rr_4 h => ?_)
  cases h
  exact X.iret C dX0_placeIn_87 (Nat.zero_le _) (Nat.zero_le _)
def rX7_cellOf : Room := { frames := 0, cells := 0, slots := 0, locals := 0 }
theorem mX7_cellOf : MS yX7_cellOf cX7_cellOf 2 (some .int) 2 := ⟨cd_X7_cellOf, in_X7, ⟨⟨by decide, by decide⟩, by decide +kernel⟩, sm_X7_cellOf⟩
set_option maxHeartbeats 4000000 in
set_option maxRecDepth 100000 in
theorem kX7_cellOf {l : Launch} {G : GT} (lx0 : Int) (lx1 : Int) (v : (Int)) (h : fX7_cellOf lx0 lx1 = some v) : CT l G yX7_cellOf cX7_cellOf 2 (some .int) rX7_cellOf [vi lx0, vi lx1] W_0 W_0 (some (vi v)) := by
  unfold fX7_cellOf at h
  refine CT.of (by decide) (Nat.le_of_ble_eq_true rfl) rfl (fun κ _ C => ?_)
  refine X.bipush C dX7_cellOf_0 (by decide) ?_
  refine X.iload_n C dX7_cellOf_2 rfl 1 rfl ?_
  refine X.imul C dX7_cellOf_3 ?_
  refine X.iload_n C dX7_cellOf_4 rfl 0 rfl ?_
  refine X.iadd C dX7_cellOf_5 ?_
  cases h
  exact X.iret C dX7_cellOf_6 (Nat.zero_le _) (Nat.zero_le _)
def rX0_dropLump : Room := { frames := 2, cells := 0, slots := 0, locals := 50 }
theorem mX0_dropLump : MV yX0_dropLump cX0_dropLump 5 none 2 := ⟨cd_X0_dropLump, in_X0, ⟨⟨by decide, by decide⟩, by decide +kernel⟩, im_X0_dropLump, se_X0_dropLump⟩
set_option maxHeartbeats 4000000 in
set_option maxRecDepth 100000 in
theorem xX0_dropLump_2 {κ : Kx} {G : GT} (C : Cx κ G yX0_dropLump cX0_dropLump none 5 rX0_dropLump) (qa : Nat → Nat) (qp : Nat → Nat) (P : Ob) (lx2 : Int) (kx0 : Ob → Option (Ob)) (v : (Ob)) (hk0 : ∀ (A : Ob), kx0 A = some v → X κ G 5 (W_AP G qa qp A P) 118 [(0, .ref (qa 31)), (2, vi lx2)] [] 0 0 (QM κ G (W_AP G qa qp v P) none rX0_dropLump.cells rX0_dropLump.slots)) : ∀ (n : Nat) (lx3 : Int) (A : Ob), lX0_dropLump_2 P lx2 kx0 n lx3 A = some v → X κ G 5 (W_AP G qa qp A P) 2 [(0, .ref (qa 31)), (1, .ref (qp 31)), (2, vi lx2), (3, vi lx3)] [] 0 0 (QM κ G (W_AP G qa qp v P) none rX0_dropLump.cells rX0_dropLump.slots) := by
  intro n
  induction n with
  | zero => intro _ _ h; exact absurd h (fun h => nomatch h)
  | succ n ih =>
    intro lx3 A h
    rw [lX0_dropLump_2] at h
    refine X.iload_n C dX0_dropLump_2 rfl 3 rfl ?_
    refine X.aload_n C dX0_dropLump_3 rfl 1 rfl ?_
    refine X.get C dX0_dropLump_4 lay_X1 10 rfl rfl 11 (by decide) fl_X0_82 rfl rfl ?_
    refine X.icmp_ge (tgt := 118) C h dX0_dropLump_7 (by decide) (fun h => ?_) (fun h => ?_)
    · refine X.sub [0, 2] rfl ?_
      exact hk0 A h
    refine X.aload_n C dX0_dropLump_10 rfl 0 rfl ?_
    refine X.aload_n C dX0_dropLump_11 rfl 1 rfl ?_
    refine X.iload_n C dX0_dropLump_12 rfl 2 rfl ?_
    refine X.iload_n C dX0_dropLump_13 rfl 3 rfl ?_
    refine X.iconst C dX0_dropLump_14 ?_
    refine X.iconst C dX0_dropLump_15 ?_
    refine X.callVi (q0 := 0) (As := [.ref (qp 31), vi lx2, vi lx3, vi 0, vi 0]) (rest := []) (g := fun rr_1 => rr_1) (W1 := fun rr_1 => (W_AP G qa qp A P)) (ws2 := fun rr_1 => (W_AP G qa qp A P)) C h dX0_dropLump_16 ml_X0_94 mX0_placeIn (fun v hv => kX0_placeIn qa qp A P lx2 lx3 0 0 v hv) (fun rr_1 => ln_AP_AP_a_p_n (G := G) (qa := qa) (qp := qp) (A := A) (P := P)) rfl rfl rfl rfl rfl rfl rfl rfl (fun rr_1 h => ?_)
    refine X.istore (lv2 := [(4, vi rr_1), (0, .ref (qa 31)), (1, .ref (qp 31)), (2, vi lx2), (3, vi lx3)]) C dX0_dropLump_19 (by decide) rfl ?_
    refine X.iload C dX0_dropLump_21 0 rfl ?_
    refine X.bipush C dX0_dropLump_23 (by decide) ?_
    refine X.icmp_ne (tgt := 46) C h dX0_dropLump_25 (by decide) (fun h => ?_) (fun h => ?_)
    · refine X.iload C dX0_dropLump_46 0 rfl ?_
      refine X.iconst C dX0_dropLump_48 ?_
      refine X.icmp_ne (tgt := 70) C h dX0_dropLump_49 (by decide) (fun h => ?_) (fun h => ?_)
      · refine X.aload_n C dX0_dropLump_70 rfl 1 rfl ?_
        refine X.dup C dX0_dropLump_71 rfl ?_
        refine X.get C dX0_dropLump_72 lay_X0 0 rfl rfl 6 (by decide) fl_X0_58 rfl rfl ?_
        refine X.aload_n C dX0_dropLump_75 rfl 2 rfl ?_
        refine X.get C dX0_dropLump_76 lay_X1 10 rfl rfl 13 (by decide) fl_X0_98 rfl rfl ?_
        refine X.iload_n C dX0_dropLump_79 rfl 4 rfl ?_
        refine X.iald C h dX0_dropLump_80 12 rfl (fun h => ?_)
        refine X.iadd C dX0_dropLump_81 ?_
        refine X.put (ws2 := (W_AP G qa qp (up2 A 6 0 ((A 6 0) + (P 13 (ix lx3)))) P)) (ty := .int) C dX0_dropLump_82 lay_X0 tyX0_ok nmX0 0 rfl rfl 6 (by decide) fl_X0_58 rfl rfl (by decide +kernel) rfl rfl (Nat.le_of_ble_eq_true rfl) rfl ?_
        refine X.nameS (ws := fun A_2 => (W_AP G qa qp A_2 P)) h (fun A_2 h => ?_)
        refine X.aload_n C dX0_dropLump_85 rfl 1 rfl ?_
        refine X.get C dX0_dropLump_86 lay_X0 0 rfl rfl 16 (by decide) fl_X0_40 rfl rfl ?_
        refine X.iload C dX0_dropLump_89 0 rfl ?_
        refine X.bipush C dX0_dropLump_91 (by decide) ?_
        refine X.irem C (by decide) dX0_dropLump_93 ?_
        refine X.iload C dX0_dropLump_94 0 rfl ?_
        refine X.bipush C dX0_dropLump_96 (by decide) ?_
        refine X.idiv C (by decide) dX0_dropLump_98 ?_
        refine X.callSNi (As := [vi (jrm rr_1 100), vi (jdv rr_1 100)]) (rest := [.ref (qa 16)]) (g := fun rr_3 => rr_3) (W1 := fun rr_3 => W_0) (ws2 := fun rr_3 => (W_AP G qa qp A_2 P)) C h dX0_dropLump_99 mn_X0_101 mX7_cellOf (fun v hv => kX7_cellOf (jrm rr_1 100) (jdv rr_1 100) v hv) (fun rr_3 => ln_AP_0__n (G := G) (qa := qa) (qp := qp) (A := A_2) (P := P)) rfl rfl rfl rfl rfl rfl (fun rr_3 h => ?_)
        refine X.dup2 C dX0_dropLump_102 rfl rfl ?_
        refine X.iald C h dX0_dropLump_103 9 rfl (fun h => ?_)
        refine X.aload_n C dX0_dropLump_104 rfl 2 rfl ?_
        refine X.get C dX0_dropLump_105 lay_X1 10 rfl rfl 13 (by decide) fl_X0_98 rfl rfl ?_
        refine X.iload_n C dX0_dropLump_108 rfl 4 rfl ?_
        refine X.iald C h dX0_dropLump_109 12 rfl (fun h => ?_)
        refine X.iadd C dX0_dropLump_110 ?_
        refine X.iast (ws2 := (W_AP G qa qp (up2 A_2 16 (ix rr_3) ((A_2 16 (ix rr_3)) + (P 13 (ix lx3)))) P)) C h dX0_dropLump_111 9 rfl rfl (fun h => ?_)
        refine X.nameS (ws := fun A_4 => (W_AP G qa qp A_4 P)) h (fun A_4 h => ?_)
        refine X.iincN (lv2 := fun lx3_5 => [(3, vi lx3_5), (4, vi rr_1), (0, .ref (qa 31)), (1, .ref (qp 31)), (2, vi lx2)]) C h dX0_dropLump_112 4 rfl (by decide) (fun _ => rfl) (fun lx3_5 h => ?_)
        refine X.goto (tgt := 2) C dX0_dropLump_115 (by decide) ?_
        refine X.sub [2, 3, 4, 0] rfl ?_
        exact ih lx3_5 A_4 h
      refine X.aload_n C dX0_dropLump_52 rfl 1 rfl ?_
      refine X.dup C dX0_dropLump_53 rfl ?_
      refine X.get C dX0_dropLump_54 lay_X0 0 rfl rfl 5 (by decide) fl_X0_55 rfl rfl ?_
      refine X.aload_n C dX0_dropLump_57 rfl 2 rfl ?_
      refine X.get C dX0_dropLump_58 lay_X1 10 rfl rfl 13 (by decide) fl_X0_98 rfl rfl ?_
      refine X.iload_n C dX0_dropLump_61 rfl 4 rfl ?_
      refine X.iald C h dX0_dropLump_62 12 rfl (fun h => ?_)
      refine X.iadd C dX0_dropLump_63 ?_
      refine X.put (ws2 := (W_AP G qa qp (up2 A 5 0 ((A 5 0) + (P 13 (ix lx3)))) P)) (ty := .int) C dX0_dropLump_64 lay_X0 tyX0_ok nmX0 0 rfl rfl 5 (by decide) fl_X0_55 rfl rfl (by decide +kernel) rfl rfl (Nat.le_of_ble_eq_true rfl) rfl ?_
      refine X.nameS (ws := fun A_6 => (W_AP G qa qp A_6 P)) h (fun A_6 h => ?_)
      refine X.goto (tgt := 112) C dX0_dropLump_67 (by decide) ?_
      refine X.iincN (lv2 := fun lx3_7 => [(3, vi lx3_7), (4, vi rr_1), (0, .ref (qa 31)), (1, .ref (qp 31)), (2, vi lx2)]) C h dX0_dropLump_112 4 rfl (by decide) (fun _ => rfl) (fun lx3_7 h => ?_)
      refine X.goto (tgt := 2) C dX0_dropLump_115 (by decide) ?_
      refine X.sub [2, 3, 4, 0] rfl ?_
      exact ih lx3_7 A_6 h
    refine X.aload_n C dX0_dropLump_28 rfl 1 rfl ?_
    refine X.dup C dX0_dropLump_29 rfl ?_
    refine X.get C dX0_dropLump_30 lay_X0 0 rfl rfl 4 (by decide) fl_X0_52 rfl rfl ?_
    refine X.aload_n C dX0_dropLump_33 rfl 2 rfl ?_
    refine X.get C dX0_dropLump_34 lay_X1 10 rfl rfl 13 (by decide) fl_X0_98 rfl rfl ?_
    refine X.iload_n C dX0_dropLump_37 rfl 4 rfl ?_
    refine X.iald C h dX0_dropLump_38 12 rfl (fun h => ?_)
    refine X.iadd C dX0_dropLump_39 ?_
    refine X.put (ws2 := (W_AP G qa qp (up2 A 4 0 ((A 4 0) + (P 13 (ix lx3)))) P)) (ty := .int) C dX0_dropLump_40 lay_X0 tyX0_ok nmX0 0 rfl rfl 4 (by decide) fl_X0_52 rfl rfl (by decide +kernel) rfl rfl (Nat.le_of_ble_eq_true rfl) rfl ?_
    refine X.nameS (ws := fun A_8 => (W_AP G qa qp A_8 P)) h (fun A_8 h => ?_)
    refine X.goto (tgt := 112) C dX0_dropLump_43 (by decide) ?_
    refine X.iincN (lv2 := fun lx3_9 => [(3, vi lx3_9), (4, vi rr_1), (0, .ref (qa 31)), (1, .ref (qp 31)), (2, vi lx2)]) C h dX0_dropLump_112 4 rfl (by decide) (fun _ => rfl) (fun lx3_9 h => ?_)
    refine X.goto (tgt := 2) C dX0_dropLump_115 (by decide) ?_
    refine X.sub [2, 3, 4, 0] rfl ?_
    exact ih lx3_9 A_8 h
set_option maxHeartbeats 4000000 in
set_option maxRecDepth 100000 in
theorem kX0_dropLump {l : Launch} {G : GT} (qa : Nat → Nat) (qp : Nat → Nat) (A : Ob) (P : Ob) (lx2 : Int) (v : (Ob)) (h : fX0_dropLump A P lx2 = some v) : CT l G yX0_dropLump cX0_dropLump 5 none rX0_dropLump [.ref (qa 31), .ref (qp 31), vi lx2] (W_AP G qa qp A P) (W_AP G qa qp v P) none := by
  unfold fX0_dropLump at h
  refine CT.of (by decide) (Nat.le_of_ble_eq_true rfl) rfl (fun κ _ C => ?_)
  refine X.iconst C dX0_dropLump_0 ?_
  refine X.istore_n (lv2 := [(3, vi 0), (0, .ref (qa 31)), (1, .ref (qp 31)), (2, vi lx2)]) C dX0_dropLump_1 rfl (by decide) rfl ?_
  refine X.sub [1, 2, 3, 0] rfl ?_
  refine xX0_dropLump_2 C qa qp P lx2 _ v (fun A_10 h => ?_) FU 0 A h
  · refine X.aload_n C dX0_dropLump_118 rfl 0 rfl ?_
    refine X.get C dX0_dropLump_119 lay_X0 0 rfl rfl 9 (by decide) fl_X0_19 rfl rfl ?_
    refine X.iload_n C dX0_dropLump_122 rfl 1 rfl ?_
    refine X.iconst C dX0_dropLump_123 ?_
    refine X.iast (ws2 := (W_AP G qa qp (up2 A_10 9 (ix lx2) 0) P)) C h dX0_dropLump_124 2 rfl rfl (fun h => ?_)
    refine X.nameS (ws := fun A_11 => (W_AP G qa qp A_11 P)) h (fun A_11 h => ?_)
    cases h
    exact X.vret C dX0_dropLump_125 (Nat.zero_le _) (Nat.zero_le _)
def rX0_dropAll : Room := { frames := 3, cells := 0, slots := 0, locals := 74 }
theorem mX0_dropAll : MV yX0_dropAll cX0_dropAll 3 none 1 := ⟨cd_X0_dropAll, in_X0, ⟨⟨by decide, by decide⟩, by decide +kernel⟩, im_X0_dropAll, se_X0_dropAll⟩
set_option maxHeartbeats 4000000 in
set_option maxRecDepth 100000 in
theorem xX0_dropAll_2 {κ : Kx} {G : GT} (C : Cx κ G yX0_dropAll cX0_dropAll none 3 rX0_dropAll) (qa : Nat → Nat) (qp : Nat → Nat) (P : Ob) (v : (Ob)) : ∀ (n : Nat) (lx2 : Int) (A : Ob), lX0_dropAll_2 P n lx2 A = some v → X κ G 3 (W_AP G qa qp A P) 2 [(0, .ref (qa 31)), (1, .ref (qp 31)), (2, vi lx2)] [] 0 0 (QM κ G (W_AP G qa qp v P) none rX0_dropAll.cells rX0_dropAll.slots) := by
  intro n
  induction n with
  | zero => intro _ _ h; exact absurd h (fun h => nomatch h)
  | succ n ih =>
    intro lx2 A h
    rw [lX0_dropAll_2] at h
    refine X.iload_n C dX0_dropAll_2 rfl 2 rfl ?_
    refine X.bipush C dX0_dropAll_3 (by decide) ?_
    refine X.icmp_ge (tgt := 29) C h dX0_dropAll_5 (by decide) (fun h => ?_) (fun h => ?_)
    · cases h
      exact X.vret C dX0_dropAll_29 (Nat.zero_le _) (Nat.zero_le _)
    refine X.aload_n C dX0_dropAll_8 rfl 0 rfl ?_
    refine X.get C dX0_dropAll_9 lay_X0 0 rfl rfl 9 (by decide) fl_X0_19 rfl rfl ?_
    refine X.iload_n C dX0_dropAll_12 rfl 2 rfl ?_
    refine X.iald C h dX0_dropAll_13 2 rfl (fun h => ?_)
    refine X.if_le (tgt := 23) C h dX0_dropAll_14 (by decide) (fun h => ?_) (fun h => ?_)
    · refine X.iincN (lv2 := fun lx2_1 => [(2, vi lx2_1), (0, .ref (qa 31)), (1, .ref (qp 31))]) C h dX0_dropAll_23 2 rfl (by decide) (fun _ => rfl) (fun lx2_1 h => ?_)
      refine X.goto (tgt := 2) C dX0_dropAll_26 (by decide) ?_
      refine X.sub [1, 2, 0] rfl ?_
      exact ih lx2_1 A h
    refine X.aload_n C dX0_dropAll_17 rfl 0 rfl ?_
    refine X.aload_n C dX0_dropAll_18 rfl 1 rfl ?_
    refine X.iload_n C dX0_dropAll_19 rfl 2 rfl ?_
    refine X.callVv (q0 := 0) (As := [.ref (qp 31), vi lx2]) (rest := []) (W1 := fun rr_2 => (W_AP G qa qp rr_2 P)) (ws2 := fun rr_2 => (W_AP G qa qp rr_2 P)) C h dX0_dropAll_20 ml_X0_90 mX0_dropLump (fun v hv => kX0_dropLump qa qp A P lx2 v hv) (fun rr_2 => ln_AP_AP_a_p_A (G := G) (qa := qa) (qp := qp) (A := A) (P := P) (NA := rr_2)) rfl rfl rfl rfl rfl rfl rfl rfl (fun rr_2 h => ?_)
    refine X.iincN (lv2 := fun lx2_3 => [(2, vi lx2_3), (0, .ref (qa 31)), (1, .ref (qp 31))]) C h dX0_dropAll_23 2 rfl (by decide) (fun _ => rfl) (fun lx2_3 h => ?_)
    refine X.goto (tgt := 2) C dX0_dropAll_26 (by decide) ?_
    refine X.sub [1, 2, 0] rfl ?_
    exact ih lx2_3 rr_2 h
set_option maxHeartbeats 4000000 in
set_option maxRecDepth 100000 in
theorem kX0_dropAll {l : Launch} {G : GT} (qa : Nat → Nat) (qp : Nat → Nat) (A : Ob) (P : Ob) (v : (Ob)) (h : fX0_dropAll A P = some v) : CT l G yX0_dropAll cX0_dropAll 3 none rX0_dropAll [.ref (qa 31), .ref (qp 31)] (W_AP G qa qp A P) (W_AP G qa qp v P) none := by
  unfold fX0_dropAll at h
  refine CT.of (by decide) (Nat.le_of_ble_eq_true rfl) rfl (fun κ _ C => ?_)
  refine X.iconst C dX0_dropAll_0 ?_
  refine X.istore_n (lv2 := [(2, vi 0), (0, .ref (qa 31)), (1, .ref (qp 31))]) C dX0_dropAll_1 rfl (by decide) rfl ?_
  refine X.sub [1, 2, 0] rfl ?_
  refine xX0_dropAll_2 C qa qp P v FU 0 A h
def rX0_beatsLeft : Room := { frames := 0, cells := 0, slots := 0, locals := 0 }
theorem mX0_beatsLeft : MV yX0_beatsLeft cX0_beatsLeft 2 (some .int) 1 := ⟨cd_X0_beatsLeft, in_X0, ⟨⟨by decide, by decide⟩, by decide +kernel⟩, im_X0_beatsLeft, se_X0_beatsLeft⟩
set_option maxHeartbeats 4000000 in
set_option maxRecDepth 100000 in
theorem kX0_beatsLeft {l : Launch} {G : GT} (q : Nat → Nat) (A : Ob) (lx1 : Int) (v : (Int)) (h : fX0_beatsLeft A lx1 = some v) : CT l G yX0_beatsLeft cX0_beatsLeft 2 (some .int) rX0_beatsLeft [.ref (q 31), vi lx1] (W_A G q A) (W_A G q A) (some (vi v)) := by
  unfold fX0_beatsLeft at h
  refine CT.of (by decide) (Nat.le_of_ble_eq_true rfl) rfl (fun κ _ C => ?_)
  refine X.iconst C dX0_beatsLeft_0 ?_
  refine X.aload_n C dX0_beatsLeft_1 rfl 0 rfl ?_
  refine X.get C dX0_beatsLeft_2 lay_X0 0 rfl rfl 9 (by decide) fl_X0_19 rfl rfl ?_
  refine X.iload_n C dX0_beatsLeft_5 rfl 1 rfl ?_
  refine X.iald C h dX0_beatsLeft_6 2 rfl (fun h => ?_)
  refine X.imul C dX0_beatsLeft_7 ?_
  refine X.aload_n C dX0_beatsLeft_8 rfl 0 rfl ?_
  refine X.get C dX0_beatsLeft_9 lay_X0 0 rfl rfl 0 (by decide) fl_X0_43 rfl rfl ?_
  refine X.iconst C dX0_beatsLeft_12 ?_
  refine X.isub C dX0_beatsLeft_13 ?_
  refine X.iload_n C dX0_beatsLeft_14 rfl 1 rfl ?_
  refine X.isub C dX0_beatsLeft_15 ?_
  refine X.bipush C dX0_beatsLeft_16 (by decide) ?_
  refine X.iand C dX0_beatsLeft_18 ?_
  refine X.isub C dX0_beatsLeft_19 ?_
  cases h
  exact X.iret C dX0_beatsLeft_20 (Nat.zero_le _) (Nat.zero_le _)
def rX0_windAgo : Room := { frames := 0, cells := 0, slots := 0, locals := 0 }
theorem mX0_windAgo : MV yX0_windAgo cX0_windAgo 2 (some .int) 1 := ⟨cd_X0_windAgo, in_X0, ⟨⟨by decide, by decide⟩, by decide +kernel⟩, im_X0_windAgo, se_X0_windAgo⟩
set_option maxHeartbeats 4000000 in
set_option maxRecDepth 100000 in
theorem kX0_windAgo {l : Launch} {G : GT} (q : Nat → Nat) (A : Ob) (lx1 : Int) (v : (Int)) (h : fX0_windAgo A lx1 = some v) : CT l G yX0_windAgo cX0_windAgo 2 (some .int) rX0_windAgo [.ref (q 31), vi lx1] (W_A G q A) (W_A G q A) (some (vi v)) := by
  unfold fX0_windAgo at h
  refine CT.of (by decide) (Nat.le_of_ble_eq_true rfl) rfl (fun κ _ C => ?_)
  refine X.iload_n C dX0_windAgo_0 rfl 1 rfl ?_
  refine X.aload_n C dX0_windAgo_1 rfl 0 rfl ?_
  refine X.get C dX0_windAgo_2 lay_X0 0 rfl rfl 0 (by decide) fl_X0_43 rfl rfl ?_
  refine X.icmp_le (tgt := 12) C h dX0_windAgo_5 (by decide) (fun h => ?_) (fun h => ?_)
  · refine X.aload_n C dX0_windAgo_12 rfl 0 rfl ?_
    refine X.get C dX0_windAgo_13 lay_X0 0 rfl rfl 8 (by decide) fl_X0_15 rfl rfl ?_
    refine X.aload_n C dX0_windAgo_16 rfl 0 rfl ?_
    refine X.get C dX0_windAgo_17 lay_X0 0 rfl rfl 0 (by decide) fl_X0_43 rfl rfl ?_
    refine X.iload_n C dX0_windAgo_20 rfl 1 rfl ?_
    refine X.isub C dX0_windAgo_21 ?_
    refine X.bipush C dX0_windAgo_22 (by decide) ?_
    refine X.iand C dX0_windAgo_24 ?_
    refine X.iald C h dX0_windAgo_25 1 rfl (fun h => ?_)
    cases h
    exact X.iret C dX0_windAgo_26 (Nat.zero_le _) (Nat.zero_le _)
  refine X.iconst C dX0_windAgo_8 ?_
  refine X.goto (tgt := 26) C dX0_windAgo_9 (by decide) ?_
  cases h
  exact X.iret C dX0_windAgo_26 (Nat.zero_le _) (Nat.zero_le _)
def rX1_highLetBy : Room := { frames := 1, cells := 0, slots := 0, locals := 30 }
theorem mX1_highLetBy : MV yX1_highLetBy cX1_highLetBy 2 (some .int) 1 := ⟨cd_X1_highLetBy, in_X1, ⟨⟨by decide, by decide⟩, by decide +kernel⟩, im_X1_highLetBy, se_X1_highLetBy⟩
set_option maxHeartbeats 4000000 in
set_option maxRecDepth 100000 in
theorem kX1_highLetBy {l : Launch} {G : GT} (q : Nat → Nat) (P : Ob) (lx1 : Int) (v : (Int)) (h : fX1_highLetBy P lx1 = some v) : CT l G yX1_highLetBy cX1_highLetBy 2 (some .int) rX1_highLetBy [.ref (q 31), vi lx1] (W_P G q P) (W_P G q P) (some (vi v)) := by
  unfold fX1_highLetBy at h
  refine CT.of (by decide) (Nat.le_of_ble_eq_true rfl) rfl (fun κ _ C => ?_)
  refine X.aload_n C dX1_highLetBy_0 rfl 0 rfl ?_
  refine X.get C dX1_highLetBy_1 lay_X1 0 rfl rfl 6 (by decide) fl_X1_52 rfl rfl ?_
  refine X.aload_n C dX1_highLetBy_4 rfl 0 rfl ?_
  refine X.get C dX1_highLetBy_5 lay_X1 0 rfl rfl 19 (by decide) fl_X1_27 rfl rfl ?_
  refine X.iload_n C dX1_highLetBy_8 rfl 1 rfl ?_
  refine X.iald C h dX1_highLetBy_9 6 rfl (fun h => ?_)
  refine X.mmin C dX1_highLetBy_10 ml_X1_95 sm_J9_min_7cf53 in_java_lang_Math cd_J9_min_7cf53 (Nat.le_of_ble_eq_true rfl) (Nat.le_of_ble_eq_true rfl) (Nat.zero_le _) (Nat.zero_le _) ?_
  cases h
  exact X.iret C dX1_highLetBy_13 (Nat.zero_le _) (Nat.zero_le _)
def rX7_paceOf : Room := { frames := 0, cells := 0, slots := 0, locals := 0 }
theorem mX7_paceOf : MS yX7_paceOf cX7_paceOf 2 (some .int) 1 := ⟨cd_X7_paceOf, in_X7, ⟨⟨by decide, by decide⟩, by decide +kernel⟩, sm_X7_paceOf⟩
set_option maxHeartbeats 4000000 in
set_option maxRecDepth 100000 in
theorem xX7_paceOf_2 {κ : Kx} {G : GT} (C : Cx κ G yX7_paceOf cX7_paceOf (some .int) 2 rX7_paceOf) (lx0 : Int) (v : (Int)) : ∀ (n : Nat) (lx1 : Int), lX7_paceOf_2 lx0 n lx1 = some v → X κ G 2 W_0 2 [(0, vi lx0), (1, vi lx1)] [] 0 0 (QM κ G W_0 (some (vi v)) rX7_paceOf.cells rX7_paceOf.slots) := by
  intro n
  induction n with
  | zero => intro _ h; exact absurd h (fun h => nomatch h)
  | succ n ih =>
    intro lx1 h
    rw [lX7_paceOf_2] at h
    refine X.iload_n C dX7_paceOf_2 rfl 1 rfl ?_
    refine X.bipush C dX7_paceOf_3 (by decide) ?_
    refine X.icmp_ge (tgt := 25) C h dX7_paceOf_5 (by decide) (fun h => ?_) (fun h => ?_)
    · refine X.iload_n C dX7_paceOf_25 rfl 1 rfl ?_
      cases h
      exact X.iret C dX7_paceOf_26 (Nat.zero_le _) (Nat.zero_le _)
    refine X.iload_n C dX7_paceOf_8 rfl 1 rfl ?_
    refine X.iload_n C dX7_paceOf_9 rfl 1 rfl ?_
    refine X.iconst C dX7_paceOf_10 ?_
    refine X.iadd C dX7_paceOf_11 ?_
    refine X.imul C dX7_paceOf_12 ?_
    refine X.iconst C dX7_paceOf_13 ?_
    refine X.idiv C (by decide) dX7_paceOf_14 ?_
    refine X.iload_n C dX7_paceOf_15 rfl 0 rfl ?_
    refine X.icmp_ge (tgt := 25) C h dX7_paceOf_16 (by decide) (fun h => ?_) (fun h => ?_)
    · refine X.iload_n C dX7_paceOf_25 rfl 1 rfl ?_
      cases h
      exact X.iret C dX7_paceOf_26 (Nat.zero_le _) (Nat.zero_le _)
    refine X.iincN (lv2 := fun lx1_1 => [(1, vi lx1_1), (0, vi lx0)]) C h dX7_paceOf_19 1 rfl (by decide) (fun _ => rfl) (fun lx1_1 h => ?_)
    refine X.goto (tgt := 2) C dX7_paceOf_22 (by decide) ?_
    refine X.sub [1, 0] rfl ?_
    exact ih lx1_1 h
set_option maxHeartbeats 4000000 in
set_option maxRecDepth 100000 in
theorem kX7_paceOf {l : Launch} {G : GT} (lx0 : Int) (v : (Int)) (h : fX7_paceOf lx0 = some v) : CT l G yX7_paceOf cX7_paceOf 2 (some .int) rX7_paceOf [vi lx0] W_0 W_0 (some (vi v)) := by
  unfold fX7_paceOf at h
  refine CT.of (by decide) (Nat.le_of_ble_eq_true rfl) rfl (fun κ _ C => ?_)
  refine X.iconst C dX7_paceOf_0 ?_
  refine X.istore_n (lv2 := [(1, vi 0), (0, vi lx0)]) C dX7_paceOf_1 rfl (by decide) rfl ?_
  refine X.sub [1, 0] rfl ?_
  refine xX7_paceOf_2 C lx0 v FU 0 h
def rX0_throwLump : Room := { frames := 2, cells := 0, slots := 0, locals := 51 }
theorem mX0_throwLump : MV yX0_throwLump cX0_throwLump 6 none 2 := ⟨cd_X0_throwLump, in_X0, ⟨⟨by decide, by decide⟩, by decide +kernel⟩, im_X0_throwLump, se_X0_throwLump⟩
set_option maxHeartbeats 4000000 in
set_option maxRecDepth 100000 in
theorem xX0_throwLump_133 {κ : Kx} {G : GT} (C : Cx κ G yX0_throwLump cX0_throwLump none 6 rX0_throwLump) (qa : Nat → Nat) (qp : Nat → Nat) (P : Ob) (lx3 : Int) (kx0 : Ob → Option (Ob)) (v : (Ob)) (hk0 : ∀ (A : Ob), kx0 A = some v → X κ G 6 (W_AP G qa qp A P) 207 [(0, .ref (qa 31))] [] 0 0 (QM κ G (W_AP G qa qp v P) none rX0_throwLump.cells rX0_throwLump.slots)) : ∀ (n : Nat) (lx5 : Int) (A : Ob), lX0_throwLump_133 P lx3 kx0 n lx5 A = some v → X κ G 6 (W_AP G qa qp A P) 133 [(0, .ref (qa 31)), (1, .ref (qp 31)), (3, vi lx3), (5, vi lx5)] [] 0 0 (QM κ G (W_AP G qa qp v P) none rX0_throwLump.cells rX0_throwLump.slots) := by
  intro n
  induction n with
  | zero => intro _ _ h; exact absurd h (fun h => nomatch h)
  | succ n ih =>
    intro lx5 A h
    rw [lX0_throwLump_133] at h
    refine X.iload C dX0_throwLump_133 3 rfl ?_
    refine X.aload_n C dX0_throwLump_135 rfl 1 rfl ?_
    refine X.get C dX0_throwLump_136 lay_X1 10 rfl rfl 11 (by decide) fl_X0_82 rfl rfl ?_
    refine X.icmp_ge (tgt := 207) C h dX0_throwLump_139 (by decide) (fun h => ?_) (fun h => ?_)
    · refine X.sub [0] rfl ?_
      exact hk0 A h
    refine X.aload_n C dX0_throwLump_142 rfl 0 rfl ?_
    refine X.get C dX0_throwLump_143 lay_X0 0 rfl rfl 1 (by decide) fl_X0_46 rfl rfl ?_
    refine X.if_le (tgt := 207) C h dX0_throwLump_146 (by decide) (fun h => ?_) (fun h => ?_)
    · refine X.sub [0] rfl ?_
      exact hk0 A h
    refine X.aload_n C dX0_throwLump_149 rfl 0 rfl ?_
    refine X.get C dX0_throwLump_150 lay_X0 0 rfl rfl 14 (by decide) fl_X0_34 rfl rfl ?_
    refine X.iload_n C dX0_throwLump_153 rfl 2 rfl ?_
    refine X.iconst C dX0_throwLump_154 ?_
    refine X.imul C dX0_throwLump_155 ?_
    refine X.iload C dX0_throwLump_156 3 rfl ?_
    refine X.iadd C dX0_throwLump_158 ?_
    refine X.aload_n C dX0_throwLump_159 rfl 0 rfl ?_
    refine X.get C dX0_throwLump_160 lay_X0 0 rfl rfl 12 (by decide) fl_X0_28 rfl rfl ?_
    refine X.iload C dX0_throwLump_163 3 rfl ?_
    refine X.iald C h dX0_throwLump_165 5 rfl (fun h => ?_)
    refine X.iast (ws2 := (W_AP G qa qp (up2 A 14 (ix ((lx3 * 5) + lx5)) (A 12 (ix lx5))) P)) C h dX0_throwLump_166 7 rfl rfl (fun h => ?_)
    refine X.nameS (ws := fun A_13 => (W_AP G qa qp A_13 P)) h (fun A_13 h => ?_)
    refine X.aload_n C dX0_throwLump_167 rfl 0 rfl ?_
    refine X.get C dX0_throwLump_168 lay_X0 0 rfl rfl 15 (by decide) fl_X0_37 rfl rfl ?_
    refine X.iload_n C dX0_throwLump_171 rfl 2 rfl ?_
    refine X.iconst C dX0_throwLump_172 ?_
    refine X.imul C dX0_throwLump_173 ?_
    refine X.iload C dX0_throwLump_174 3 rfl ?_
    refine X.iadd C dX0_throwLump_176 ?_
    refine X.aload_n C dX0_throwLump_177 rfl 0 rfl ?_
    refine X.get C dX0_throwLump_178 lay_X0 0 rfl rfl 13 (by decide) fl_X0_31 rfl rfl ?_
    refine X.iload C dX0_throwLump_181 3 rfl ?_
    refine X.iald C h dX0_throwLump_183 6 rfl (fun h => ?_)
    refine X.iast (ws2 := (W_AP G qa qp (up2 A_13 15 (ix ((lx3 * 5) + lx5)) (A_13 13 (ix lx5))) P)) C h dX0_throwLump_184 8 rfl rfl (fun h => ?_)
    refine X.nameS (ws := fun A_14 => (W_AP G qa qp A_14 P)) h (fun A_14 h => ?_)
    refine X.aload_n C dX0_throwLump_185 rfl 0 rfl ?_
    refine X.dup C dX0_throwLump_186 rfl ?_
    refine X.get C dX0_throwLump_187 lay_X0 0 rfl rfl 7 (by decide) fl_X0_61 rfl rfl ?_
    refine X.aload_n C dX0_throwLump_190 rfl 1 rfl ?_
    refine X.get C dX0_throwLump_191 lay_X1 10 rfl rfl 13 (by decide) fl_X0_98 rfl rfl ?_
    refine X.iload C dX0_throwLump_194 3 rfl ?_
    refine X.iald C h dX0_throwLump_196 12 rfl (fun h => ?_)
    refine X.iadd C dX0_throwLump_197 ?_
    refine X.put (ws2 := (W_AP G qa qp (up2 A_14 7 0 ((A_14 7 0) + (P 13 (ix lx5)))) P)) (ty := .int) C dX0_throwLump_198 lay_X0 tyX0_ok nmX0 0 rfl rfl 7 (by decide) fl_X0_61 rfl rfl (by decide +kernel) rfl rfl (Nat.le_of_ble_eq_true rfl) rfl ?_
    refine X.nameS (ws := fun A_15 => (W_AP G qa qp A_15 P)) h (fun A_15 h => ?_)
    refine X.iincN (lv2 := fun lx5_16 => [(5, vi lx5_16), (0, .ref (qa 31)), (1, .ref (qp 31)), (3, vi lx3)]) C h dX0_throwLump_201 3 rfl (by decide) (fun _ => rfl) (fun lx5_16 h => ?_)
    refine X.goto (tgt := 133) C dX0_throwLump_204 (by decide) ?_
    refine X.sub [1, 2, 3, 0] rfl ?_
    exact ih lx5_16 A_15 h
set_option maxHeartbeats 4000000 in
set_option maxRecDepth 100000 in
theorem xX0_throwLump_207 {κ : Kx} {G : GT} (C : Cx κ G yX0_throwLump cX0_throwLump none 6 rX0_throwLump) (qa : Nat → Nat) (qp : Nat → Nat) (A : Ob) (P : Ob) (v : (Ob)) (h : jX0_throwLump_207 A P = some v) : X κ G 6 (W_AP G qa qp A P) 207 [(0, .ref (qa 31))] [] 0 0 (QM κ G (W_AP G qa qp v P) none rX0_throwLump.cells rX0_throwLump.slots) := by
  unfold jX0_throwLump_207 at h
  refine X.aload_n C dX0_throwLump_207 rfl 0 rfl ?_
  refine X.dup C dX0_throwLump_208 rfl ?_
  refine X.get C dX0_throwLump_209 lay_X0 0 rfl rfl 0 (by decide) fl_X0_43 rfl rfl ?_
  refine X.iconst C dX0_throwLump_212 ?_
  refine X.iadd C dX0_throwLump_213 ?_
  refine X.put (ws2 := (W_AP G qa qp (up2 A 0 0 ((A 0 0) + 1)) P)) (ty := .int) C dX0_throwLump_214 lay_X0 tyX0_ok nmX0 0 rfl rfl 0 (by decide) fl_X0_43 rfl rfl (by decide +kernel) rfl rfl (Nat.le_of_ble_eq_true rfl) rfl ?_
  refine X.nameS (ws := fun A_18 => (W_AP G qa qp A_18 P)) h (fun A_18 h => ?_)
  cases h
  exact X.vret C dX0_throwLump_217 (Nat.zero_le _) (Nat.zero_le _)
set_option maxHeartbeats 4000000 in
set_option maxRecDepth 100000 in
theorem xX0_throwLump_62 {κ : Kx} {G : GT} (C : Cx κ G yX0_throwLump cX0_throwLump none 6 rX0_throwLump) (qa : Nat → Nat) (qp : Nat → Nat) (A : Ob) (P : Ob) (lx3 : Int) (lx4 : Int) (v : (Ob)) (h : jX0_throwLump_62 A P lx3 lx4 = some v) : X κ G 6 (W_AP G qa qp A P) 62 [(0, .ref (qa 31)), (1, .ref (qp 31)), (3, vi lx3), (4, vi lx4)] [] 0 0 (QM κ G (W_AP G qa qp v P) none rX0_throwLump.cells rX0_throwLump.slots) := by
  unfold jX0_throwLump_62 at h
  refine X.aload_n C dX0_throwLump_62 rfl 0 rfl ?_
  refine X.aload_n C dX0_throwLump_63 rfl 1 rfl ?_
  refine X.iload C dX0_throwLump_64 3 rfl ?_
  refine X.callVi (q0 := 10) (As := [vi lx4]) (rest := [.ref (qa 31)]) (g := fun rr_6 => rr_6) (W1 := fun rr_6 => (W_P G qp P)) (ws2 := fun rr_6 => (W_AP G qa qp A P)) C h dX0_throwLump_66 ml_X0_123 mX1_highLetBy (fun v hv => kX1_highLetBy qp P lx4 v hv) (fun rr_6 => ln_AP_P_p_n (G := G) (qa := qa) (qp := qp) (A := A) (P := P)) rfl rfl rfl rfl rfl rfl rfl rfl (fun rr_6 h => ?_)
  refine X.aload_n C dX0_throwLump_69 rfl 0 rfl ?_
  refine X.get C dX0_throwLump_70 lay_X0 0 rfl rfl 1 (by decide) fl_X0_46 rfl rfl ?_
  refine X.aload_n C dX0_throwLump_73 rfl 1 rfl ?_
  refine X.get C dX0_throwLump_74 lay_X1 10 rfl rfl 10 (by decide) fl_X0_126 rfl rfl ?_
  refine X.iadd C dX0_throwLump_77 ?_
  refine X.mmin C dX0_throwLump_78 ml_X0_129 sm_J9_min_7cf53 in_java_lang_Math cd_J9_min_7cf53 (Nat.le_of_ble_eq_true rfl) (Nat.le_of_ble_eq_true rfl) (Nat.zero_le _) (Nat.zero_le _) ?_
  refine X.put (ws2 := (W_AP G qa qp (up2 A 1 0 (jmi rr_6 ((A 1 0) + (P 10 0)))) P)) (ty := .int) C dX0_throwLump_81 lay_X0 tyX0_ok nmX0 0 rfl rfl 1 (by decide) fl_X0_46 rfl rfl (by decide +kernel) rfl rfl (Nat.le_of_ble_eq_true rfl) rfl ?_
  refine X.nameS (ws := fun A_7 => (W_AP G qa qp A_7 P)) h (fun A_7 h => ?_)
  refine X.aload_n C dX0_throwLump_84 rfl 0 rfl ?_
  refine X.dup C dX0_throwLump_85 rfl ?_
  refine X.get C dX0_throwLump_86 lay_X0 0 rfl rfl 2 (by decide) fl_X0_49 rfl rfl ?_
  refine X.aload_n C dX0_throwLump_89 rfl 0 rfl ?_
  refine X.get C dX0_throwLump_90 lay_X0 0 rfl rfl 1 (by decide) fl_X0_46 rfl rfl ?_
  refine X.iadd C dX0_throwLump_93 ?_
  refine X.put (ws2 := (W_AP G qa qp (up2 A_7 2 0 ((A_7 2 0) + (A_7 1 0))) P)) (ty := .int) C dX0_throwLump_94 lay_X0 tyX0_ok nmX0 0 rfl rfl 2 (by decide) fl_X0_49 rfl rfl (by decide +kernel) rfl rfl (Nat.le_of_ble_eq_true rfl) rfl ?_
  refine X.nameS (ws := fun A_8 => (W_AP G qa qp A_8 P)) h (fun A_8 h => ?_)
  refine X.aload_n C dX0_throwLump_97 rfl 0 rfl ?_
  refine X.get C dX0_throwLump_98 lay_X0 0 rfl rfl 9 (by decide) fl_X0_19 rfl rfl ?_
  refine X.iload_n C dX0_throwLump_101 rfl 2 rfl ?_
  refine X.aload_n C dX0_throwLump_102 rfl 0 rfl ?_
  refine X.get C dX0_throwLump_103 lay_X0 0 rfl rfl 1 (by decide) fl_X0_46 rfl rfl ?_
  refine X.callSNi (As := [vi (A_8 1 0)]) (rest := [vi lx3, .ref (qa 9)]) (g := fun rr_9 => rr_9) (W1 := fun rr_9 => W_0) (ws2 := fun rr_9 => (W_AP G qa qp A_8 P)) C h dX0_throwLump_106 mn_X0_132 mX7_paceOf (fun v hv => kX7_paceOf (A_8 1 0) v hv) (fun rr_9 => ln_AP_0__n (G := G) (qa := qa) (qp := qp) (A := A_8) (P := P)) rfl rfl rfl rfl rfl rfl (fun rr_9 h => ?_)
  refine X.iast (ws2 := (W_AP G qa qp (up2 A_8 9 (ix lx3) rr_9) P)) C h dX0_throwLump_109 2 rfl rfl (fun h => ?_)
  refine X.nameS (ws := fun A_10 => (W_AP G qa qp A_10 P)) h (fun A_10 h => ?_)
  refine X.aload_n C dX0_throwLump_110 rfl 0 rfl ?_
  refine X.get C dX0_throwLump_111 lay_X0 0 rfl rfl 10 (by decide) fl_X0_22 rfl rfl ?_
  refine X.iload_n C dX0_throwLump_114 rfl 2 rfl ?_
  refine X.aload_n C dX0_throwLump_115 rfl 1 rfl ?_
  refine X.get C dX0_throwLump_116 lay_X1 10 rfl rfl 3 (by decide) fl_X0_135 rfl rfl ?_
  refine X.iast (ws2 := (W_AP G qa qp (up2 A_10 10 (ix lx3) (P 3 0)) P)) C h dX0_throwLump_119 3 rfl rfl (fun h => ?_)
  refine X.nameS (ws := fun A_11 => (W_AP G qa qp A_11 P)) h (fun A_11 h => ?_)
  refine X.aload_n C dX0_throwLump_120 rfl 0 rfl ?_
  refine X.get C dX0_throwLump_121 lay_X0 0 rfl rfl 11 (by decide) fl_X0_25 rfl rfl ?_
  refine X.iload_n C dX0_throwLump_124 rfl 2 rfl ?_
  refine X.aload_n C dX0_throwLump_125 rfl 1 rfl ?_
  refine X.get C dX0_throwLump_126 lay_X1 10 rfl rfl 4 (by decide) fl_X0_138 rfl rfl ?_
  refine X.iast (ws2 := (W_AP G qa qp (up2 A_11 11 (ix lx3) (P 4 0)) P)) C h dX0_throwLump_129 4 rfl rfl (fun h => ?_)
  refine X.nameS (ws := fun A_12 => (W_AP G qa qp A_12 P)) h (fun A_12 h => ?_)
  refine X.iconst C dX0_throwLump_130 ?_
  refine X.istore (lv2 := [(5, vi 0), (0, .ref (qa 31)), (1, .ref (qp 31)), (3, vi lx3), (4, vi lx4)]) C dX0_throwLump_131 (by decide) rfl ?_
  refine X.sub [1, 2, 3, 0] rfl ?_
  refine xX0_throwLump_133 C qa qp P lx3 _ v (fun A_17 h => ?_) FU 0 A_12 h
  · refine X.sub [0] rfl ?_
    exact xX0_throwLump_207 C qa qp A_17 P v h
set_option maxHeartbeats 4000000 in
set_option maxRecDepth 100000 in
theorem kX0_throwLump {l : Launch} {G : GT} (qa : Nat → Nat) (qp : Nat → Nat) (A : Ob) (P : Ob) (lx2 : Int) (v : (Ob)) (h : fX0_throwLump A P lx2 = some v) : CT l G yX0_throwLump cX0_throwLump 6 none rX0_throwLump [.ref (qa 31), .ref (qp 31), vi lx2] (W_AP G qa qp A P) (W_AP G qa qp v P) none := by
  unfold fX0_throwLump at h
  refine CT.of (by decide) (Nat.le_of_ble_eq_true rfl) rfl (fun κ _ C => ?_)
  refine X.aload_n C dX0_throwLump_0 rfl 0 rfl ?_
  refine X.get C dX0_throwLump_1 lay_X0 0 rfl rfl 0 (by decide) fl_X0_43 rfl rfl ?_
  refine X.bipush C dX0_throwLump_4 (by decide) ?_
  refine X.iand C dX0_throwLump_6 ?_
  refine X.istoreN_n (lv2 := fun lx3_1 => [(3, vi lx3_1), (0, .ref (qa 31)), (1, .ref (qp 31)), (2, vi lx2)]) C h dX0_throwLump_7 rfl (by decide) (fun _ => rfl) (fun lx3_1 h => ?_)
  refine X.aload_n C dX0_throwLump_8 rfl 1 rfl ?_
  refine X.get C dX0_throwLump_9 lay_X0 0 rfl rfl 8 (by decide) fl_X0_15 rfl rfl ?_
  refine X.iload_n C dX0_throwLump_12 rfl 0 rfl ?_
  refine X.iload_n C dX0_throwLump_13 rfl 3 rfl ?_
  refine X.iast (ws2 := (W_AP G qa qp (up2 A 8 (ix lx3_1) lx2) P)) C h dX0_throwLump_14 1 rfl rfl (fun h => ?_)
  refine X.nameS (ws := fun A_2 => (W_AP G qa qp A_2 P)) h (fun A_2 h => ?_)
  refine X.aload_n C dX0_throwLump_15 rfl 1 rfl ?_
  refine X.aload_n C dX0_throwLump_16 rfl 1 rfl ?_
  refine X.aload_n C dX0_throwLump_17 rfl 2 rfl ?_
  refine X.get C dX0_throwLump_18 lay_X1 10 rfl rfl 8 (by decide) fl_X0_108 rfl rfl ?_
  refine X.callVi (q0 := 0) (As := [vi (P 8 0)]) (rest := [.ref (qa 31)]) (g := fun rr_3 => rr_3) (W1 := fun rr_3 => (W_A G qa A_2)) (ws2 := fun rr_3 => (W_AP G qa qp A_2 P)) C h dX0_throwLump_21 ml_X0_111 mX0_windAgo (fun v hv => kX0_windAgo qa A_2 (P 8 0) v hv) (fun rr_3 => ln_AP_A_a_n (G := G) (qa := qa) (qp := qp) (A := A_2) (P := P)) rfl rfl rfl rfl rfl rfl rfl rfl (fun rr_3 h => ?_)
  refine X.put (ws2 := (W_AP G qa qp (up2 A_2 3 0 rr_3) P)) (ty := .int) C dX0_throwLump_24 lay_X0 tyX0_ok nmX0 0 rfl rfl 3 (by decide) fl_X0_9 rfl rfl (by decide +kernel) rfl rfl (Nat.le_of_ble_eq_true rfl) rfl ?_
  refine X.nameS (ws := fun A_4 => (W_AP G qa qp A_4 P)) h (fun A_4 h => ?_)
  refine X.aload_n C dX0_throwLump_27 rfl 1 rfl ?_
  refine X.get C dX0_throwLump_28 lay_X0 0 rfl rfl 3 (by decide) fl_X0_9 rfl rfl ?_
  refine X.bipush C dX0_throwLump_31 (by decide) ?_
  refine X.irem C (by decide) dX0_throwLump_33 ?_
  refine X.istoreN (lv2 := fun lx4_5 => [(4, vi lx4_5), (3, vi lx3_1), (0, .ref (qa 31)), (1, .ref (qp 31)), (2, vi lx2)]) C h dX0_throwLump_34 (by decide) (fun _ => rfl) (fun lx4_5 h => ?_)
  refine X.aload_n C dX0_throwLump_36 rfl 3 rfl ?_
  refine X.get C dX0_throwLump_37 lay_X1 10 rfl rfl 9 (by decide) fl_X0_115 rfl rfl ?_
  refine X.iconst C dX0_throwLump_40 ?_
  refine X.icmp_eq (tgt := 62) C h dX0_throwLump_41 (by decide) (fun h => ?_) (fun h => ?_)
  · refine X.sub [2, 3, 1, 0] rfl ?_
    exact xX0_throwLump_62 C qa qp A_4 P lx3_1 lx4_5 v h
  refine X.iload C dX0_throwLump_44 0 rfl ?_
  refine X.aload_n C dX0_throwLump_46 rfl 2 rfl ?_
  refine X.aload_n C dX0_throwLump_47 rfl 3 rfl ?_
  refine X.get C dX0_throwLump_48 lay_X1 10 rfl rfl 9 (by decide) fl_X0_115 rfl rfl ?_
  refine X.callVi (q0 := 0) (As := [vi (P 9 0)]) (rest := [vi lx4_5]) (g := fun rr_19 => rr_19) (W1 := fun rr_19 => (W_A G qa A_4)) (ws2 := fun rr_19 => (W_AP G qa qp A_4 P)) C h dX0_throwLump_51 ml_X0_111 mX0_windAgo (fun v hv => kX0_windAgo qa A_4 (P 9 0) v hv) (fun rr_19 => ln_AP_A_a_n (G := G) (qa := qa) (qp := qp) (A := A_4) (P := P)) rfl rfl rfl rfl rfl rfl rfl rfl (fun rr_19 h => ?_)
  refine X.bipush C dX0_throwLump_54 (by decide) ?_
  refine X.irem C (by decide) dX0_throwLump_56 ?_
  refine X.mmax C dX0_throwLump_57 ml_X0_118 sm_J9_max_7cf53 in_java_lang_Math cd_J9_max_7cf53 (Nat.le_of_ble_eq_true rfl) (Nat.le_of_ble_eq_true rfl) (Nat.zero_le _) (Nat.zero_le _) ?_
  refine X.istoreN (lv2 := fun lx4_20 => [(4, vi lx4_20), (3, vi lx3_1), (0, .ref (qa 31)), (1, .ref (qp 31)), (2, vi lx2)]) C h dX0_throwLump_60 (by decide) (fun _ => rfl) (fun lx4_20 h => ?_)
  refine X.sub [2, 3, 1, 0] rfl ?_
  exact xX0_throwLump_62 C qa qp A_4 P lx3_1 lx4_20 v h
def rX1_dropRules : Room := { frames := 1, cells := 0, slots := 0, locals := 23 }
theorem mX1_dropRules : MV yX1_dropRules cX1_dropRules 1 none 0 := ⟨cd_X1_dropRules, in_X1, ⟨⟨by decide, by decide⟩, by decide +kernel⟩, im_X1_dropRules, se_X1_dropRules⟩
set_option maxHeartbeats 4000000 in
set_option maxRecDepth 100000 in
theorem kX1_dropRules {l : Launch} {G : GT} (q : Nat → Nat) (P : Ob) (v : (Ob)) (h : fX1_dropRules P = some v) : CT l G yX1_dropRules cX1_dropRules 1 none rX1_dropRules [.ref (q 31)] (W_P G q P) (W_P G q v) none := by
  unfold fX1_dropRules at h
  refine CT.of (by decide) (Nat.le_of_ble_eq_true rfl) rfl (fun κ _ C => ?_)
  refine X.aload_n C dX1_dropRules_0 rfl 0 rfl ?_
  refine X.iconst C dX1_dropRules_1 ?_
  refine X.put (ws2 := (W_P G q (up2 P 18 0 0))) (ty := .int) C dX1_dropRules_2 lay_X1 tyX1_ok nmX1 0 rfl rfl 18 (by decide) fl_X1_76 rfl rfl (by decide +kernel) rfl rfl (Nat.le_of_ble_eq_true rfl) rfl ?_
  refine X.nameS (ws := fun P_1 => (W_P G q P_1)) h (fun P_1 h => ?_)
  refine X.aload_n C dX1_dropRules_5 rfl 0 rfl ?_
  refine X.get C dX1_dropRules_6 lay_X1 0 rfl rfl 19 (by decide) fl_X1_27 rfl rfl ?_
  refine X.bipush C dX1_dropRules_9 (by decide) ?_
  refine X.fillI C dX1_dropRules_11 ml_X1_85 ln_P_fill_p_19 rfl rfl (by decide) ?_
  refine X.nameS (ws := fun P_2 => (W_P G q P_2)) h (fun P_2 h => ?_)
  cases h
  exact X.vret C dX1_dropRules_14 (Nat.zero_le _) (Nat.zero_le _)
def rX1_clear : Room := { frames := 2, cells := 0, slots := 0, locals := 43 }
theorem mX1_clear : MV yX1_clear cX1_clear 1 none 0 := ⟨cd_X1_clear, in_X1, ⟨⟨by decide, by decide⟩, by decide +kernel⟩, im_X1_clear, se_X1_clear⟩
set_option maxHeartbeats 4000000 in
set_option maxRecDepth 100000 in
theorem kX1_clear {l : Launch} {G : GT} (q : Nat → Nat) (P : Ob) (v : (Ob)) (h : fX1_clear P = some v) : CT l G yX1_clear cX1_clear 1 none rX1_clear [.ref (q 31)] (W_P G q P) (W_P G q v) none := by
  unfold fX1_clear at h
  refine CT.of (by decide) (Nat.le_of_ble_eq_true rfl) rfl (fun κ _ C => ?_)
  refine X.aload_n C dX1_clear_0 rfl 0 rfl ?_
  refine X.iconst C dX1_clear_1 ?_
  refine X.put (ws2 := (W_P G q (up2 P 0 0 0))) (ty := .int) C dX1_clear_2 lay_X1 tyX1_ok nmX1 0 rfl rfl 0 (by decide) fl_X1_33 rfl rfl (by decide +kernel) rfl rfl (Nat.le_of_ble_eq_true rfl) rfl ?_
  refine X.nameS (ws := fun P_1 => (W_P G q P_1)) h (fun P_1 h => ?_)
  refine X.aload_n C dX1_clear_5 rfl 0 rfl ?_
  refine X.iconst C dX1_clear_6 ?_
  refine X.put (ws2 := (W_P G q (up2 P_1 1 0 0))) (ty := .int) C dX1_clear_7 lay_X1 tyX1_ok nmX1 0 rfl rfl 1 (by decide) fl_X1_37 rfl rfl (by decide +kernel) rfl rfl (Nat.le_of_ble_eq_true rfl) rfl ?_
  refine X.nameS (ws := fun P_2 => (W_P G q P_2)) h (fun P_2 h => ?_)
  refine X.aload_n C dX1_clear_10 rfl 0 rfl ?_
  refine X.iconst C dX1_clear_11 ?_
  refine X.put (ws2 := (W_P G q (up2 P_2 2 0 0))) (ty := .int) C dX1_clear_12 lay_X1 tyX1_ok nmX1 0 rfl rfl 2 (by decide) fl_X1_40 rfl rfl (by decide +kernel) rfl rfl (Nat.le_of_ble_eq_true rfl) rfl ?_
  refine X.nameS (ws := fun P_3 => (W_P G q P_3)) h (fun P_3 h => ?_)
  refine X.aload_n C dX1_clear_15 rfl 0 rfl ?_
  refine X.iconst C dX1_clear_16 ?_
  refine X.put (ws2 := (W_P G q (up2 P_3 3 0 0))) (ty := .int) C dX1_clear_17 lay_X1 tyX1_ok nmX1 0 rfl rfl 3 (by decide) fl_X1_43 rfl rfl (by decide +kernel) rfl rfl (Nat.le_of_ble_eq_true rfl) rfl ?_
  refine X.nameS (ws := fun P_4 => (W_P G q P_4)) h (fun P_4 h => ?_)
  refine X.aload_n C dX1_clear_20 rfl 0 rfl ?_
  refine X.iconst C dX1_clear_21 ?_
  refine X.put (ws2 := (W_P G q (up2 P_4 4 0 0))) (ty := .int) C dX1_clear_22 lay_X1 tyX1_ok nmX1 0 rfl rfl 4 (by decide) fl_X1_46 rfl rfl (by decide +kernel) rfl rfl (Nat.le_of_ble_eq_true rfl) rfl ?_
  refine X.nameS (ws := fun P_5 => (W_P G q P_5)) h (fun P_5 h => ?_)
  refine X.aload_n C dX1_clear_25 rfl 0 rfl ?_
  refine X.iconst C dX1_clear_26 ?_
  refine X.put (ws2 := (W_P G q (up2 P_5 5 0 0))) (ty := .int) C dX1_clear_27 lay_X1 tyX1_ok nmX1 0 rfl rfl 5 (by decide) fl_X1_49 rfl rfl (by decide +kernel) rfl rfl (Nat.le_of_ble_eq_true rfl) rfl ?_
  refine X.nameS (ws := fun P_6 => (W_P G q P_6)) h (fun P_6 h => ?_)
  refine X.aload_n C dX1_clear_30 rfl 0 rfl ?_
  refine X.iconst C dX1_clear_31 ?_
  refine X.put (ws2 := (W_P G q (up2 P_6 6 0 0))) (ty := .int) C dX1_clear_32 lay_X1 tyX1_ok nmX1 0 rfl rfl 6 (by decide) fl_X1_52 rfl rfl (by decide +kernel) rfl rfl (Nat.le_of_ble_eq_true rfl) rfl ?_
  refine X.nameS (ws := fun P_7 => (W_P G q P_7)) h (fun P_7 h => ?_)
  refine X.aload_n C dX1_clear_35 rfl 0 rfl ?_
  refine X.iconst C dX1_clear_36 ?_
  refine X.put (ws2 := (W_P G q (up2 P_7 7 0 (-1)))) (ty := .int) C dX1_clear_37 lay_X1 tyX1_ok nmX1 0 rfl rfl 7 (by decide) fl_X1_55 rfl rfl (by decide +kernel) rfl rfl (Nat.le_of_ble_eq_true rfl) rfl ?_
  refine X.nameS (ws := fun P_8 => (W_P G q P_8)) h (fun P_8 h => ?_)
  refine X.aload_n C dX1_clear_40 rfl 0 rfl ?_
  refine X.iconst C dX1_clear_41 ?_
  refine X.put (ws2 := (W_P G q (up2 P_8 8 0 0))) (ty := .int) C dX1_clear_42 lay_X1 tyX1_ok nmX1 0 rfl rfl 8 (by decide) fl_X1_58 rfl rfl (by decide +kernel) rfl rfl (Nat.le_of_ble_eq_true rfl) rfl ?_
  refine X.nameS (ws := fun P_9 => (W_P G q P_9)) h (fun P_9 h => ?_)
  refine X.aload_n C dX1_clear_45 rfl 0 rfl ?_
  refine X.iconst C dX1_clear_46 ?_
  refine X.put (ws2 := (W_P G q (up2 P_9 9 0 (-1)))) (ty := .int) C dX1_clear_47 lay_X1 tyX1_ok nmX1 0 rfl rfl 9 (by decide) fl_X1_61 rfl rfl (by decide +kernel) rfl rfl (Nat.le_of_ble_eq_true rfl) rfl ?_
  refine X.nameS (ws := fun P_10 => (W_P G q P_10)) h (fun P_10 h => ?_)
  refine X.aload_n C dX1_clear_50 rfl 0 rfl ?_
  refine X.iconst C dX1_clear_51 ?_
  refine X.put (ws2 := (W_P G q (up2 P_10 10 0 0))) (ty := .int) C dX1_clear_52 lay_X1 tyX1_ok nmX1 0 rfl rfl 10 (by decide) fl_X1_64 rfl rfl (by decide +kernel) rfl rfl (Nat.le_of_ble_eq_true rfl) rfl ?_
  refine X.nameS (ws := fun P_11 => (W_P G q P_11)) h (fun P_11 h => ?_)
  refine X.aload_n C dX1_clear_55 rfl 0 rfl ?_
  refine X.iconst C dX1_clear_56 ?_
  refine X.put (ws2 := (W_P G q (up2 P_11 11 0 0))) (ty := .int) C dX1_clear_57 lay_X1 tyX1_ok nmX1 0 rfl rfl 11 (by decide) fl_X1_67 rfl rfl (by decide +kernel) rfl rfl (Nat.le_of_ble_eq_true rfl) rfl ?_
  refine X.nameS (ws := fun P_12 => (W_P G q P_12)) h (fun P_12 h => ?_)
  refine X.aload_n C dX1_clear_60 rfl 0 rfl ?_
  refine X.iconst C dX1_clear_61 ?_
  refine X.put (ws2 := (W_P G q (up2 P_12 14 0 0))) (ty := .int) C dX1_clear_62 lay_X1 tyX1_ok nmX1 0 rfl rfl 14 (by decide) fl_X1_70 rfl rfl (by decide +kernel) rfl rfl (Nat.le_of_ble_eq_true rfl) rfl ?_
  refine X.nameS (ws := fun P_13 => (W_P G q P_13)) h (fun P_13 h => ?_)
  refine X.aload_n C dX1_clear_65 rfl 0 rfl ?_
  refine X.callVv (q0 := 0) (As := []) (rest := []) (W1 := fun rr_14 => (W_P G q rr_14)) (ws2 := fun rr_14 => (W_P G q rr_14)) C h dX1_clear_66 ml_X1_73 mX1_dropRules (fun v hv => kX1_dropRules q P_13 v hv) (fun rr_14 => ln_P_P_p_P (G := G) (q := q) (P := P_13) (NP := rr_14)) rfl rfl rfl rfl rfl rfl rfl rfl (fun rr_14 h => ?_)
  cases h
  exact X.vret C dX1_clear_69 (Nat.zero_le _) (Nat.zero_le _)
def rX1_copyFrom : Room := { frames := 1, cells := 0, slots := 0, locals := 60 }
theorem mX1_copyFrom : MV yX1_copyFrom cX1_copyFrom 2 none 1 := ⟨cd_X1_copyFrom, in_X1, ⟨⟨by decide, by decide⟩, by decide +kernel⟩, im_X1_copyFrom, se_X1_copyFrom⟩
set_option maxHeartbeats 4000000 in
set_option maxRecDepth 100000 in
theorem kX1_copyFrom {l : Launch} {G : GT} (q : Nat → Nat) (q2 : Nat → Nat) (P : Ob) (P2 : Ob) (v : (Ob)) (h : fX1_copyFrom P P2 = some v) : CT l G yX1_copyFrom cX1_copyFrom 2 none rX1_copyFrom [.ref (q 31), .ref (q2 31)] (W_PP G q q2 P P2) (W_PP G q q2 v P2) none := by
  unfold fX1_copyFrom at h
  refine CT.of (by decide) (Nat.le_of_ble_eq_true rfl) rfl (fun κ _ C => ?_)
  refine X.aload_n C dX1_copyFrom_0 rfl 0 rfl ?_
  refine X.aload_n C dX1_copyFrom_1 rfl 1 rfl ?_
  refine X.get C dX1_copyFrom_2 lay_X1 7 rfl rfl 0 (by decide) fl_X1_33 rfl rfl ?_
  refine X.put (ws2 := (W_PP G q q2 (up2 P 0 0 (P2 0 0)) P2)) (ty := .int) C dX1_copyFrom_5 lay_X1 tyX1_ok nmX1 0 rfl rfl 0 (by decide) fl_X1_33 rfl rfl (by decide +kernel) rfl rfl (Nat.le_of_ble_eq_true rfl) rfl ?_
  refine X.nameS (ws := fun P_1 => (W_PP G q q2 P_1 P2)) h (fun P_1 h => ?_)
  refine X.aload_n C dX1_copyFrom_8 rfl 0 rfl ?_
  refine X.aload_n C dX1_copyFrom_9 rfl 1 rfl ?_
  refine X.get C dX1_copyFrom_10 lay_X1 7 rfl rfl 1 (by decide) fl_X1_37 rfl rfl ?_
  refine X.put (ws2 := (W_PP G q q2 (up2 P_1 1 0 (P2 1 0)) P2)) (ty := .int) C dX1_copyFrom_13 lay_X1 tyX1_ok nmX1 0 rfl rfl 1 (by decide) fl_X1_37 rfl rfl (by decide +kernel) rfl rfl (Nat.le_of_ble_eq_true rfl) rfl ?_
  refine X.nameS (ws := fun P_2 => (W_PP G q q2 P_2 P2)) h (fun P_2 h => ?_)
  refine X.aload_n C dX1_copyFrom_16 rfl 0 rfl ?_
  refine X.aload_n C dX1_copyFrom_17 rfl 1 rfl ?_
  refine X.get C dX1_copyFrom_18 lay_X1 7 rfl rfl 2 (by decide) fl_X1_40 rfl rfl ?_
  refine X.put (ws2 := (W_PP G q q2 (up2 P_2 2 0 (P2 2 0)) P2)) (ty := .int) C dX1_copyFrom_21 lay_X1 tyX1_ok nmX1 0 rfl rfl 2 (by decide) fl_X1_40 rfl rfl (by decide +kernel) rfl rfl (Nat.le_of_ble_eq_true rfl) rfl ?_
  refine X.nameS (ws := fun P_3 => (W_PP G q q2 P_3 P2)) h (fun P_3 h => ?_)
  refine X.aload_n C dX1_copyFrom_24 rfl 0 rfl ?_
  refine X.aload_n C dX1_copyFrom_25 rfl 1 rfl ?_
  refine X.get C dX1_copyFrom_26 lay_X1 7 rfl rfl 3 (by decide) fl_X1_43 rfl rfl ?_
  refine X.put (ws2 := (W_PP G q q2 (up2 P_3 3 0 (P2 3 0)) P2)) (ty := .int) C dX1_copyFrom_29 lay_X1 tyX1_ok nmX1 0 rfl rfl 3 (by decide) fl_X1_43 rfl rfl (by decide +kernel) rfl rfl (Nat.le_of_ble_eq_true rfl) rfl ?_
  refine X.nameS (ws := fun P_4 => (W_PP G q q2 P_4 P2)) h (fun P_4 h => ?_)
  refine X.aload_n C dX1_copyFrom_32 rfl 0 rfl ?_
  refine X.aload_n C dX1_copyFrom_33 rfl 1 rfl ?_
  refine X.get C dX1_copyFrom_34 lay_X1 7 rfl rfl 4 (by decide) fl_X1_46 rfl rfl ?_
  refine X.put (ws2 := (W_PP G q q2 (up2 P_4 4 0 (P2 4 0)) P2)) (ty := .int) C dX1_copyFrom_37 lay_X1 tyX1_ok nmX1 0 rfl rfl 4 (by decide) fl_X1_46 rfl rfl (by decide +kernel) rfl rfl (Nat.le_of_ble_eq_true rfl) rfl ?_
  refine X.nameS (ws := fun P_5 => (W_PP G q q2 P_5 P2)) h (fun P_5 h => ?_)
  refine X.aload_n C dX1_copyFrom_40 rfl 0 rfl ?_
  refine X.aload_n C dX1_copyFrom_41 rfl 1 rfl ?_
  refine X.get C dX1_copyFrom_42 lay_X1 7 rfl rfl 5 (by decide) fl_X1_49 rfl rfl ?_
  refine X.put (ws2 := (W_PP G q q2 (up2 P_5 5 0 (P2 5 0)) P2)) (ty := .int) C dX1_copyFrom_45 lay_X1 tyX1_ok nmX1 0 rfl rfl 5 (by decide) fl_X1_49 rfl rfl (by decide +kernel) rfl rfl (Nat.le_of_ble_eq_true rfl) rfl ?_
  refine X.nameS (ws := fun P_6 => (W_PP G q q2 P_6 P2)) h (fun P_6 h => ?_)
  refine X.aload_n C dX1_copyFrom_48 rfl 0 rfl ?_
  refine X.aload_n C dX1_copyFrom_49 rfl 1 rfl ?_
  refine X.get C dX1_copyFrom_50 lay_X1 7 rfl rfl 6 (by decide) fl_X1_52 rfl rfl ?_
  refine X.put (ws2 := (W_PP G q q2 (up2 P_6 6 0 (P2 6 0)) P2)) (ty := .int) C dX1_copyFrom_53 lay_X1 tyX1_ok nmX1 0 rfl rfl 6 (by decide) fl_X1_52 rfl rfl (by decide +kernel) rfl rfl (Nat.le_of_ble_eq_true rfl) rfl ?_
  refine X.nameS (ws := fun P_7 => (W_PP G q q2 P_7 P2)) h (fun P_7 h => ?_)
  refine X.aload_n C dX1_copyFrom_56 rfl 0 rfl ?_
  refine X.aload_n C dX1_copyFrom_57 rfl 1 rfl ?_
  refine X.get C dX1_copyFrom_58 lay_X1 7 rfl rfl 7 (by decide) fl_X1_55 rfl rfl ?_
  refine X.put (ws2 := (W_PP G q q2 (up2 P_7 7 0 (P2 7 0)) P2)) (ty := .int) C dX1_copyFrom_61 lay_X1 tyX1_ok nmX1 0 rfl rfl 7 (by decide) fl_X1_55 rfl rfl (by decide +kernel) rfl rfl (Nat.le_of_ble_eq_true rfl) rfl ?_
  refine X.nameS (ws := fun P_8 => (W_PP G q q2 P_8 P2)) h (fun P_8 h => ?_)
  refine X.aload_n C dX1_copyFrom_64 rfl 0 rfl ?_
  refine X.aload_n C dX1_copyFrom_65 rfl 1 rfl ?_
  refine X.get C dX1_copyFrom_66 lay_X1 7 rfl rfl 8 (by decide) fl_X1_58 rfl rfl ?_
  refine X.put (ws2 := (W_PP G q q2 (up2 P_8 8 0 (P2 8 0)) P2)) (ty := .int) C dX1_copyFrom_69 lay_X1 tyX1_ok nmX1 0 rfl rfl 8 (by decide) fl_X1_58 rfl rfl (by decide +kernel) rfl rfl (Nat.le_of_ble_eq_true rfl) rfl ?_
  refine X.nameS (ws := fun P_9 => (W_PP G q q2 P_9 P2)) h (fun P_9 h => ?_)
  refine X.aload_n C dX1_copyFrom_72 rfl 0 rfl ?_
  refine X.aload_n C dX1_copyFrom_73 rfl 1 rfl ?_
  refine X.get C dX1_copyFrom_74 lay_X1 7 rfl rfl 9 (by decide) fl_X1_61 rfl rfl ?_
  refine X.put (ws2 := (W_PP G q q2 (up2 P_9 9 0 (P2 9 0)) P2)) (ty := .int) C dX1_copyFrom_77 lay_X1 tyX1_ok nmX1 0 rfl rfl 9 (by decide) fl_X1_61 rfl rfl (by decide +kernel) rfl rfl (Nat.le_of_ble_eq_true rfl) rfl ?_
  refine X.nameS (ws := fun P_10 => (W_PP G q q2 P_10 P2)) h (fun P_10 h => ?_)
  refine X.aload_n C dX1_copyFrom_80 rfl 0 rfl ?_
  refine X.aload_n C dX1_copyFrom_81 rfl 1 rfl ?_
  refine X.get C dX1_copyFrom_82 lay_X1 7 rfl rfl 10 (by decide) fl_X1_64 rfl rfl ?_
  refine X.put (ws2 := (W_PP G q q2 (up2 P_10 10 0 (P2 10 0)) P2)) (ty := .int) C dX1_copyFrom_85 lay_X1 tyX1_ok nmX1 0 rfl rfl 10 (by decide) fl_X1_64 rfl rfl (by decide +kernel) rfl rfl (Nat.le_of_ble_eq_true rfl) rfl ?_
  refine X.nameS (ws := fun P_11 => (W_PP G q q2 P_11 P2)) h (fun P_11 h => ?_)
  refine X.aload_n C dX1_copyFrom_88 rfl 0 rfl ?_
  refine X.aload_n C dX1_copyFrom_89 rfl 1 rfl ?_
  refine X.get C dX1_copyFrom_90 lay_X1 7 rfl rfl 11 (by decide) fl_X1_67 rfl rfl ?_
  refine X.put (ws2 := (W_PP G q q2 (up2 P_11 11 0 (P2 11 0)) P2)) (ty := .int) C dX1_copyFrom_93 lay_X1 tyX1_ok nmX1 0 rfl rfl 11 (by decide) fl_X1_67 rfl rfl (by decide +kernel) rfl rfl (Nat.le_of_ble_eq_true rfl) rfl ?_
  refine X.nameS (ws := fun P_12 => (W_PP G q q2 P_12 P2)) h (fun P_12 h => ?_)
  refine X.aload_n C dX1_copyFrom_96 rfl 0 rfl ?_
  refine X.aload_n C dX1_copyFrom_97 rfl 1 rfl ?_
  refine X.get C dX1_copyFrom_98 lay_X1 7 rfl rfl 14 (by decide) fl_X1_70 rfl rfl ?_
  refine X.put (ws2 := (W_PP G q q2 (up2 P_12 14 0 (P2 14 0)) P2)) (ty := .int) C dX1_copyFrom_101 lay_X1 tyX1_ok nmX1 0 rfl rfl 14 (by decide) fl_X1_70 rfl rfl (by decide +kernel) rfl rfl (Nat.le_of_ble_eq_true rfl) rfl ?_
  refine X.nameS (ws := fun P_13 => (W_PP G q q2 P_13 P2)) h (fun P_13 h => ?_)
  refine X.aload_n C dX1_copyFrom_104 rfl 0 rfl ?_
  refine X.aload_n C dX1_copyFrom_105 rfl 1 rfl ?_
  refine X.get C dX1_copyFrom_106 lay_X1 7 rfl rfl 18 (by decide) fl_X1_76 rfl rfl ?_
  refine X.put (ws2 := (W_PP G q q2 (up2 P_13 18 0 (P2 18 0)) P2)) (ty := .int) C dX1_copyFrom_109 lay_X1 tyX1_ok nmX1 0 rfl rfl 18 (by decide) fl_X1_76 rfl rfl (by decide +kernel) rfl rfl (Nat.le_of_ble_eq_true rfl) rfl ?_
  refine X.nameS (ws := fun P_14 => (W_PP G q q2 P_14 P2)) h (fun P_14 h => ?_)
  refine X.aload_n C dX1_copyFrom_112 rfl 1 rfl ?_
  refine X.get C dX1_copyFrom_113 lay_X1 7 rfl rfl 12 (by decide) fl_X1_9 rfl rfl ?_
  refine X.iconst C dX1_copyFrom_116 ?_
  refine X.aload_n C dX1_copyFrom_117 rfl 0 rfl ?_
  refine X.get C dX1_copyFrom_118 lay_X1 0 rfl rfl 12 (by decide) fl_X1_9 rfl rfl ?_
  refine X.iconst C dX1_copyFrom_121 ?_
  refine X.iconst C dX1_copyFrom_122 ?_
  refine X.cpI (ws2 := (W_PP G q q2 (upA P_14 12 (cpf (P2 12) (P_14 12) 0 0 5)) P2)) C h dX1_copyFrom_123 ml_X1_79 8 1 rfl rfl (Nat.le_of_ble_eq_true rfl) (Nat.le_of_ble_eq_true rfl) rfl (fun h => ?_)
  refine X.nameS (ws := fun P_15 => (W_PP G q q2 P_15 P2)) h (fun P_15 h => ?_)
  refine X.aload_n C dX1_copyFrom_126 rfl 1 rfl ?_
  refine X.get C dX1_copyFrom_127 lay_X1 7 rfl rfl 13 (by decide) fl_X1_15 rfl rfl ?_
  refine X.iconst C dX1_copyFrom_130 ?_
  refine X.aload_n C dX1_copyFrom_131 rfl 0 rfl ?_
  refine X.get C dX1_copyFrom_132 lay_X1 0 rfl rfl 13 (by decide) fl_X1_15 rfl rfl ?_
  refine X.iconst C dX1_copyFrom_135 ?_
  refine X.iconst C dX1_copyFrom_136 ?_
  refine X.cpI (ws2 := (W_PP G q q2 (upA P_15 13 (cpf (P2 13) (P_15 13) 0 0 5)) P2)) C h dX1_copyFrom_137 ml_X1_79 9 2 rfl rfl (Nat.le_of_ble_eq_true rfl) (Nat.le_of_ble_eq_true rfl) rfl (fun h => ?_)
  refine X.nameS (ws := fun P_16 => (W_PP G q q2 P_16 P2)) h (fun P_16 h => ?_)
  refine X.aload_n C dX1_copyFrom_140 rfl 1 rfl ?_
  refine X.get C dX1_copyFrom_141 lay_X1 7 rfl rfl 15 (by decide) fl_X1_18 rfl rfl ?_
  refine X.iconst C dX1_copyFrom_144 ?_
  refine X.aload_n C dX1_copyFrom_145 rfl 0 rfl ?_
  refine X.get C dX1_copyFrom_146 lay_X1 0 rfl rfl 15 (by decide) fl_X1_18 rfl rfl ?_
  refine X.iconst C dX1_copyFrom_149 ?_
  refine X.bipush C dX1_copyFrom_150 (by decide) ?_
  refine X.cpI (ws2 := (W_PP G q q2 (upA P_16 15 (cpf (P2 15) (P_16 15) 0 0 8)) P2)) C h dX1_copyFrom_152 ml_X1_79 10 3 rfl rfl (Nat.le_of_ble_eq_true rfl) (Nat.le_of_ble_eq_true rfl) rfl (fun h => ?_)
  refine X.nameS (ws := fun P_17 => (W_PP G q q2 P_17 P2)) h (fun P_17 h => ?_)
  refine X.aload_n C dX1_copyFrom_155 rfl 1 rfl ?_
  refine X.get C dX1_copyFrom_156 lay_X1 7 rfl rfl 16 (by decide) fl_X1_21 rfl rfl ?_
  refine X.iconst C dX1_copyFrom_159 ?_
  refine X.aload_n C dX1_copyFrom_160 rfl 0 rfl ?_
  refine X.get C dX1_copyFrom_161 lay_X1 0 rfl rfl 16 (by decide) fl_X1_21 rfl rfl ?_
  refine X.iconst C dX1_copyFrom_164 ?_
  refine X.bipush C dX1_copyFrom_165 (by decide) ?_
  refine X.cpI (ws2 := (W_PP G q q2 (upA P_17 16 (cpf (P2 16) (P_17 16) 0 0 8)) P2)) C h dX1_copyFrom_167 ml_X1_79 11 4 rfl rfl (Nat.le_of_ble_eq_true rfl) (Nat.le_of_ble_eq_true rfl) rfl (fun h => ?_)
  refine X.nameS (ws := fun P_18 => (W_PP G q q2 P_18 P2)) h (fun P_18 h => ?_)
  refine X.aload_n C dX1_copyFrom_170 rfl 1 rfl ?_
  refine X.get C dX1_copyFrom_171 lay_X1 7 rfl rfl 17 (by decide) fl_X1_24 rfl rfl ?_
  refine X.iconst C dX1_copyFrom_174 ?_
  refine X.aload_n C dX1_copyFrom_175 rfl 0 rfl ?_
  refine X.get C dX1_copyFrom_176 lay_X1 0 rfl rfl 17 (by decide) fl_X1_24 rfl rfl ?_
  refine X.iconst C dX1_copyFrom_179 ?_
  refine X.bipush C dX1_copyFrom_180 (by decide) ?_
  refine X.cpI (ws2 := (W_PP G q q2 (upA P_18 17 (cpf (P2 17) (P_18 17) 0 0 8)) P2)) C h dX1_copyFrom_182 ml_X1_79 12 5 rfl rfl (Nat.le_of_ble_eq_true rfl) (Nat.le_of_ble_eq_true rfl) rfl (fun h => ?_)
  refine X.nameS (ws := fun P_19 => (W_PP G q q2 P_19 P2)) h (fun P_19 h => ?_)
  refine X.aload_n C dX1_copyFrom_185 rfl 1 rfl ?_
  refine X.get C dX1_copyFrom_186 lay_X1 7 rfl rfl 19 (by decide) fl_X1_27 rfl rfl ?_
  refine X.iconst C dX1_copyFrom_189 ?_
  refine X.aload_n C dX1_copyFrom_190 rfl 0 rfl ?_
  refine X.get C dX1_copyFrom_191 lay_X1 0 rfl rfl 19 (by decide) fl_X1_27 rfl rfl ?_
  refine X.iconst C dX1_copyFrom_194 ?_
  refine X.bipush C dX1_copyFrom_195 (by decide) ?_
  refine X.cpI (ws2 := (W_PP G q q2 (upA P_19 19 (cpf (P2 19) (P_19 19) 0 0 10)) P2)) C h dX1_copyFrom_197 ml_X1_79 13 6 rfl rfl (Nat.le_of_ble_eq_true rfl) (Nat.le_of_ble_eq_true rfl) rfl (fun h => ?_)
  refine X.nameS (ws := fun P_20 => (W_PP G q q2 P_20 P2)) h (fun P_20 h => ?_)
  cases h
  exact X.vret C dX1_copyFrom_200 (Nat.zero_le _) (Nat.zero_le _)
def rX1_addRule : Room := { frames := 0, cells := 0, slots := 0, locals := 0 }
theorem mX1_addRule : MV yX1_addRule cX1_addRule 4 none 2 := ⟨cd_X1_addRule, in_X1, ⟨⟨by decide, by decide⟩, by decide +kernel⟩, im_X1_addRule, se_X1_addRule⟩
set_option maxHeartbeats 4000000 in
set_option maxRecDepth 100000 in
theorem xX1_addRule_12 {κ : Kx} {G : GT} (C : Cx κ G yX1_addRule cX1_addRule none 4 rX1_addRule) (q : Nat → Nat) (lx2 : Int) (v : (Ob)) : ∀ (n : Nat) (lx3 : Int) (P : Ob), lX1_addRule_12 lx2 n lx3 P = some v → X κ G 4 (W_P G q P) 12 [(0, .ref (q 31)), (2, vi lx2), (3, vi lx3)] [] 0 0 (QM κ G (W_P G q v) none rX1_addRule.cells rX1_addRule.slots) := by
  intro n
  induction n with
  | zero => intro _ _ h; exact absurd h (fun h => nomatch h)
  | succ n ih =>
    intro lx3 P h
    rw [lX1_addRule_12] at h
    refine X.iload_n C dX1_addRule_12 rfl 2 rfl ?_
    refine X.bipush C dX1_addRule_13 (by decide) ?_
    refine X.icmp_ge (tgt := 31) C h dX1_addRule_15 (by decide) (fun h => ?_) (fun h => ?_)
    · cases h
      exact X.vret C dX1_addRule_31 (Nat.zero_le _) (Nat.zero_le _)
    refine X.aload_n C dX1_addRule_18 rfl 0 rfl ?_
    refine X.get C dX1_addRule_19 lay_X1 0 rfl rfl 19 (by decide) fl_X1_27 rfl rfl ?_
    refine X.iload_n C dX1_addRule_22 rfl 2 rfl ?_
    refine X.iload_n C dX1_addRule_23 rfl 1 rfl ?_
    refine X.iast (ws2 := (W_P G q (up2 P 19 (ix lx3) lx2))) C h dX1_addRule_24 6 rfl rfl (fun h => ?_)
    refine X.nameS (ws := fun P_2 => (W_P G q P_2)) h (fun P_2 h => ?_)
    refine X.iincN (lv2 := fun lx3_3 => [(3, vi lx3_3), (0, .ref (q 31)), (2, vi lx2)]) C h dX1_addRule_25 2 rfl (by decide) (fun _ => rfl) (fun lx3_3 h => ?_)
    refine X.goto (tgt := 12) C dX1_addRule_28 (by decide) ?_
    refine X.sub [1, 2, 0] rfl ?_
    exact ih lx3_3 P_2 h
set_option maxHeartbeats 4000000 in
set_option maxRecDepth 100000 in
theorem kX1_addRule {l : Launch} {G : GT} (q : Nat → Nat) (P : Ob) (lx1 : Int) (lx2 : Int) (v : (Ob)) (h : fX1_addRule P lx1 lx2 = some v) : CT l G yX1_addRule cX1_addRule 4 none rX1_addRule [.ref (q 31), vi lx1, vi lx2] (W_P G q P) (W_P G q v) none := by
  unfold fX1_addRule at h
  refine CT.of (by decide) (Nat.le_of_ble_eq_true rfl) rfl (fun κ _ C => ?_)
  refine X.aload_n C dX1_addRule_0 rfl 0 rfl ?_
  refine X.dup C dX1_addRule_1 rfl ?_
  refine X.get C dX1_addRule_2 lay_X1 0 rfl rfl 18 (by decide) fl_X1_76 rfl rfl ?_
  refine X.iconst C dX1_addRule_5 ?_
  refine X.iadd C dX1_addRule_6 ?_
  refine X.put (ws2 := (W_P G q (up2 P 18 0 ((P 18 0) + 1)))) (ty := .int) C dX1_addRule_7 lay_X1 tyX1_ok nmX1 0 rfl rfl 18 (by decide) fl_X1_76 rfl rfl (by decide +kernel) rfl rfl (Nat.le_of_ble_eq_true rfl) rfl ?_
  refine X.nameS (ws := fun P_1 => (W_P G q P_1)) h (fun P_1 h => ?_)
  refine X.iload_n C dX1_addRule_10 rfl 1 rfl ?_
  refine X.istore_n (lv2 := [(3, vi lx1), (0, .ref (q 31)), (1, vi lx1), (2, vi lx2)]) C dX1_addRule_11 rfl (by decide) rfl ?_
  refine X.sub [1, 3, 0] rfl ?_
  refine xX1_addRule_12 C q lx2 v FU lx1 P_1 h
def rX1_isCell : Room := { frames := 0, cells := 0, slots := 0, locals := 0 }
theorem mX1_isCell : MV yX1_isCell cX1_isCell 3 (some .boolean) 2 := ⟨cd_X1_isCell, in_X1, ⟨⟨by decide, by decide⟩, by decide +kernel⟩, im_X1_isCell, se_X1_isCell⟩
set_option maxHeartbeats 4000000 in
set_option maxRecDepth 100000 in
theorem kX1_isCell {l : Launch} {G : GT} (q : Nat → Nat) (P : Ob) (lx1 : Int) (lx2 : Int) (v : (Int)) (h : fX1_isCell P lx1 lx2 = some v) : CT l G yX1_isCell cX1_isCell 3 (some .boolean) rX1_isCell [.ref (q 31), vi lx1, vi lx2] (W_P G q P) (W_P G q P) (some (vi v)) := by
  unfold fX1_isCell at h
  refine CT.of (by decide) (Nat.le_of_ble_eq_true rfl) rfl (fun κ _ C => ?_)
  refine X.iload_n C dX1_isCell_0 rfl 1 rfl ?_
  refine X.if_lt (tgt := 28) C h dX1_isCell_1 (by decide) (fun h => ?_) (fun h => ?_)
  · refine X.iconst C dX1_isCell_28 ?_
    cases h
    exact X.zret C rfl dX1_isCell_29 (Nat.zero_le _) (Nat.zero_le _)
  refine X.iload_n C dX1_isCell_4 rfl 1 rfl ?_
  refine X.aload_n C dX1_isCell_5 rfl 0 rfl ?_
  refine X.get C dX1_isCell_6 lay_X1 0 rfl rfl 1 (by decide) fl_X1_37 rfl rfl ?_
  refine X.icmp_ge (tgt := 28) C h dX1_isCell_9 (by decide) (fun h => ?_) (fun h => ?_)
  · refine X.iconst C dX1_isCell_28 ?_
    cases h
    exact X.zret C rfl dX1_isCell_29 (Nat.zero_le _) (Nat.zero_le _)
  refine X.iload_n C dX1_isCell_12 rfl 2 rfl ?_
  refine X.if_lt (tgt := 28) C h dX1_isCell_13 (by decide) (fun h => ?_) (fun h => ?_)
  · refine X.iconst C dX1_isCell_28 ?_
    cases h
    exact X.zret C rfl dX1_isCell_29 (Nat.zero_le _) (Nat.zero_le _)
  refine X.iload_n C dX1_isCell_16 rfl 2 rfl ?_
  refine X.aload_n C dX1_isCell_17 rfl 0 rfl ?_
  refine X.get C dX1_isCell_18 lay_X1 0 rfl rfl 2 (by decide) fl_X1_40 rfl rfl ?_
  refine X.icmp_ge (tgt := 28) C h dX1_isCell_21 (by decide) (fun h => ?_) (fun h => ?_)
  · refine X.iconst C dX1_isCell_28 ?_
    cases h
    exact X.zret C rfl dX1_isCell_29 (Nat.zero_le _) (Nat.zero_le _)
  refine X.iconst C dX1_isCell_24 ?_
  refine X.goto (tgt := 29) C dX1_isCell_25 (by decide) ?_
  cases h
  exact X.zret C rfl dX1_isCell_29 (Nat.zero_le _) (Nat.zero_le _)
def rX7_isWithin : Room := { frames := 0, cells := 0, slots := 0, locals := 0 }
theorem mX7_isWithin : MS yX7_isWithin cX7_isWithin 3 (some .boolean) 3 := ⟨cd_X7_isWithin, in_X7, ⟨⟨by decide, by decide⟩, by decide +kernel⟩, sm_X7_isWithin⟩
set_option maxHeartbeats 4000000 in
set_option maxRecDepth 100000 in
theorem kX7_isWithin {l : Launch} {G : GT} (lx0 : Int) (lx1 : Int) (lx2 : Int) (v : (Int)) (h : fX7_isWithin lx0 lx1 lx2 = some v) : CT l G yX7_isWithin cX7_isWithin 3 (some .boolean) rX7_isWithin [vi lx0, vi lx1, vi lx2] W_0 W_0 (some (vi v)) := by
  unfold fX7_isWithin at h
  refine CT.of (by decide) (Nat.le_of_ble_eq_true rfl) rfl (fun κ _ C => ?_)
  refine X.iload_n C dX7_isWithin_0 rfl 0 rfl ?_
  refine X.iload_n C dX7_isWithin_1 rfl 1 rfl ?_
  refine X.icmp_lt (tgt := 14) C h dX7_isWithin_2 (by decide) (fun h => ?_) (fun h => ?_)
  · refine X.iconst C dX7_isWithin_14 ?_
    cases h
    exact X.zret C rfl dX7_isWithin_15 (Nat.zero_le _) (Nat.zero_le _)
  refine X.iload_n C dX7_isWithin_5 rfl 0 rfl ?_
  refine X.iload_n C dX7_isWithin_6 rfl 2 rfl ?_
  refine X.icmp_gt (tgt := 14) C h dX7_isWithin_7 (by decide) (fun h => ?_) (fun h => ?_)
  · refine X.iconst C dX7_isWithin_14 ?_
    cases h
    exact X.zret C rfl dX7_isWithin_15 (Nat.zero_le _) (Nat.zero_le _)
  refine X.iconst C dX7_isWithin_10 ?_
  refine X.goto (tgt := 15) C dX7_isWithin_11 (by decide) ?_
  cases h
  exact X.zret C rfl dX7_isWithin_15 (Nat.zero_le _) (Nat.zero_le _)
def rX1_isBasin : Room := { frames := 1, cells := 0, slots := 0, locals := 22 }
theorem mX1_isBasin : MV yX1_isBasin cX1_isBasin 3 (some .boolean) 2 := ⟨cd_X1_isBasin, in_X1, ⟨⟨by decide, by decide⟩, by decide +kernel⟩, im_X1_isBasin, se_X1_isBasin⟩
set_option maxHeartbeats 4000000 in
set_option maxRecDepth 100000 in
theorem kX1_isBasin {l : Launch} {G : GT} (q : Nat → Nat) (P : Ob) (lx1 : Int) (lx2 : Int) (v : (Int)) (h : fX1_isBasin P lx1 lx2 = some v) : CT l G yX1_isBasin cX1_isBasin 3 (some .boolean) rX1_isBasin [.ref (q 31), vi lx1, vi lx2] (W_P G q P) (W_P G q P) (some (vi v)) := by
  unfold fX1_isBasin at h
  refine CT.of (by decide) (Nat.le_of_ble_eq_true rfl) rfl (fun κ _ C => ?_)
  refine X.iload_n C dX1_isBasin_0 rfl 1 rfl ?_
  refine X.aload_n C dX1_isBasin_1 rfl 0 rfl ?_
  refine X.get C dX1_isBasin_2 lay_X1 0 rfl rfl 3 (by decide) fl_X1_43 rfl rfl ?_
  refine X.aload_n C dX1_isBasin_5 rfl 0 rfl ?_
  refine X.get C dX1_isBasin_6 lay_X1 0 rfl rfl 5 (by decide) fl_X1_49 rfl rfl ?_
  refine X.isub C dX1_isBasin_9 ?_
  refine X.aload_n C dX1_isBasin_10 rfl 0 rfl ?_
  refine X.get C dX1_isBasin_11 lay_X1 0 rfl rfl 3 (by decide) fl_X1_43 rfl rfl ?_
  refine X.aload_n C dX1_isBasin_14 rfl 0 rfl ?_
  refine X.get C dX1_isBasin_15 lay_X1 0 rfl rfl 5 (by decide) fl_X1_49 rfl rfl ?_
  refine X.iadd C dX1_isBasin_18 ?_
  refine X.callSNi (As := [vi lx1, vi ((P 3 0) - (P 5 0)), vi ((P 3 0) + (P 5 0))]) (rest := []) (g := fun rr_1 => rr_1) (W1 := fun rr_1 => W_0) (ws2 := fun rr_1 => (W_P G q P)) C h dX1_isBasin_19 mn_X1_91 mX7_isWithin (fun v hv => kX7_isWithin lx1 ((P 3 0) - (P 5 0)) ((P 3 0) + (P 5 0)) v hv) (fun rr_1 => ln_P_0__n (G := G) (q := q) (P := P)) rfl rfl rfl rfl rfl rfl (fun rr_1 h => ?_)
  refine X.if_eq (tgt := 54) C h dX1_isBasin_22 (by decide) (fun h => ?_) (fun h => ?_)
  · refine X.iconst C dX1_isBasin_54 ?_
    cases h
    exact X.zret C rfl dX1_isBasin_55 (Nat.zero_le _) (Nat.zero_le _)
  refine X.iload_n C dX1_isBasin_25 rfl 2 rfl ?_
  refine X.aload_n C dX1_isBasin_26 rfl 0 rfl ?_
  refine X.get C dX1_isBasin_27 lay_X1 0 rfl rfl 4 (by decide) fl_X1_46 rfl rfl ?_
  refine X.aload_n C dX1_isBasin_30 rfl 0 rfl ?_
  refine X.get C dX1_isBasin_31 lay_X1 0 rfl rfl 5 (by decide) fl_X1_49 rfl rfl ?_
  refine X.isub C dX1_isBasin_34 ?_
  refine X.aload_n C dX1_isBasin_35 rfl 0 rfl ?_
  refine X.get C dX1_isBasin_36 lay_X1 0 rfl rfl 4 (by decide) fl_X1_46 rfl rfl ?_
  refine X.aload_n C dX1_isBasin_39 rfl 0 rfl ?_
  refine X.get C dX1_isBasin_40 lay_X1 0 rfl rfl 5 (by decide) fl_X1_49 rfl rfl ?_
  refine X.iadd C dX1_isBasin_43 ?_
  refine X.callSNi (As := [vi lx2, vi ((P 4 0) - (P 5 0)), vi ((P 4 0) + (P 5 0))]) (rest := []) (g := fun rr_2 => rr_2) (W1 := fun rr_2 => W_0) (ws2 := fun rr_2 => (W_P G q P)) C h dX1_isBasin_44 mn_X1_91 mX7_isWithin (fun v hv => kX7_isWithin lx2 ((P 4 0) - (P 5 0)) ((P 4 0) + (P 5 0)) v hv) (fun rr_2 => ln_P_0__n (G := G) (q := q) (P := P)) rfl rfl rfl rfl rfl rfl (fun rr_2 h => ?_)
  refine X.if_eq (tgt := 54) C h dX1_isBasin_47 (by decide) (fun h => ?_) (fun h => ?_)
  · refine X.iconst C dX1_isBasin_54 ?_
    cases h
    exact X.zret C rfl dX1_isBasin_55 (Nat.zero_le _) (Nat.zero_le _)
  refine X.iconst C dX1_isBasin_50 ?_
  refine X.goto (tgt := 55) C dX1_isBasin_51 (by decide) ?_
  cases h
  exact X.zret C rfl dX1_isBasin_55 (Nat.zero_le _) (Nat.zero_le _)
def rX1_steadyDrift : Room := { frames := 0, cells := 0, slots := 0, locals := 0 }
theorem mX1_steadyDrift : MV yX1_steadyDrift cX1_steadyDrift 4 (some .int) 3 := ⟨cd_X1_steadyDrift, in_X1, ⟨⟨by decide, by decide⟩, by decide +kernel⟩, im_X1_steadyDrift, se_X1_steadyDrift⟩
set_option maxHeartbeats 4000000 in
set_option maxRecDepth 100000 in
theorem kX1_steadyDrift {l : Launch} {G : GT} (q : Nat → Nat) (P : Ob) (lx1 : Int) (lx2 : Int) (lx3 : Int) (v : (Int)) (h : fX1_steadyDrift P lx1 lx2 lx3 = some v) : CT l G yX1_steadyDrift cX1_steadyDrift 4 (some .int) rX1_steadyDrift [.ref (q 31), vi lx1, vi lx2, vi lx3] (W_P G q P) (W_P G q P) (some (vi v)) := by
  unfold fX1_steadyDrift at h
  refine CT.of (by decide) (Nat.le_of_ble_eq_true rfl) rfl (fun κ _ C => ?_)
  refine X.aload_n C dX1_steadyDrift_0 rfl 0 rfl ?_
  refine X.get C dX1_steadyDrift_1 lay_X1 0 rfl rfl 12 (by decide) fl_X1_9 rfl rfl ?_
  refine X.iload_n C dX1_steadyDrift_4 rfl 1 rfl ?_
  refine X.iald C h dX1_steadyDrift_5 1 rfl (fun h => ?_)
  refine X.iload_n C dX1_steadyDrift_6 rfl 3 rfl ?_
  refine X.bipush C dX1_steadyDrift_7 (by decide) ?_
  refine X.irem C (by decide) dX1_steadyDrift_9 ?_
  refine X.imul C dX1_steadyDrift_10 ?_
  refine X.iload_n C dX1_steadyDrift_11 rfl 2 rfl ?_
  refine X.imul C dX1_steadyDrift_12 ?_
  cases h
  exact X.iret C dX1_steadyDrift_13 (Nat.zero_le _) (Nat.zero_le _)
def rX1_steadyPlace : Room := { frames := 1, cells := 0, slots := 0, locals := 23 }
theorem mX1_steadyPlace : MV yX1_steadyPlace cX1_steadyPlace 5 (some .int) 3 := ⟨cd_X1_steadyPlace, in_X1, ⟨⟨by decide, by decide⟩, by decide +kernel⟩, im_X1_steadyPlace, se_X1_steadyPlace⟩
set_option maxHeartbeats 4000000 in
set_option maxRecDepth 100000 in
theorem kX1_steadyPlace {l : Launch} {G : GT} (q : Nat → Nat) (P : Ob) (lx1 : Int) (lx2 : Int) (lx3 : Int) (v : (Int)) (h : fX1_steadyPlace P lx1 lx2 lx3 = some v) : CT l G yX1_steadyPlace cX1_steadyPlace 5 (some .int) rX1_steadyPlace [.ref (q 31), vi lx1, vi lx2, vi lx3] (W_P G q P) (W_P G q P) (some (vi v)) := by
  unfold fX1_steadyPlace at h
  refine CT.of (by decide) (Nat.le_of_ble_eq_true rfl) rfl (fun κ _ C => ?_)
  refine X.aload_n C dX1_steadyPlace_0 rfl 0 rfl ?_
  refine X.iload_n C dX1_steadyPlace_1 rfl 1 rfl ?_
  refine X.iload_n C dX1_steadyPlace_2 rfl 2 rfl ?_
  refine X.iload_n C dX1_steadyPlace_3 rfl 3 rfl ?_
  refine X.callVi (q0 := 0) (As := [vi lx1, vi lx2, vi lx3]) (rest := []) (g := fun rr_1 => rr_1) (W1 := fun rr_1 => (W_P G q P)) (ws2 := fun rr_1 => (W_P G q P)) C h dX1_steadyPlace_4 ml_X1_101 mX1_steadyDrift (fun v hv => kX1_steadyDrift q P lx1 lx2 lx3 v hv) (fun rr_1 => ln_P_P_p_n (G := G) (q := q) (P := P)) rfl rfl rfl rfl rfl rfl rfl rfl (fun rr_1 h => ?_)
  refine X.bipush C dX1_steadyPlace_7 (by decide) ?_
  refine X.idiv C (by decide) dX1_steadyPlace_9 ?_
  refine X.istoreN (lv2 := fun lx4_2 => [(4, vi lx4_2), (0, .ref (q 31)), (1, vi lx1), (2, vi lx2), (3, vi lx3)]) C h dX1_steadyPlace_10 (by decide) (fun _ => rfl) (fun lx4_2 h => ?_)
  refine X.aload_n C dX1_steadyPlace_12 rfl 1 rfl ?_
  refine X.aload_n C dX1_steadyPlace_13 rfl 1 rfl ?_
  refine X.get C dX1_steadyPlace_14 lay_X1 0 rfl rfl 3 (by decide) fl_X1_43 rfl rfl ?_
  refine X.iload C dX1_steadyPlace_17 0 rfl ?_
  refine X.getsNX C dX1_steadyPlace_19 fn_X1_105 ?_
  refine X.iload_n C dX1_steadyPlace_22 rfl 4 rfl ?_
  refine X.bipush C dX1_steadyPlace_23 (by decide) ?_
  refine X.idiv C (by decide) dX1_steadyPlace_25 ?_
  refine X.aldX C h dX1_steadyPlace_26 (fun h => ?_)
  refine X.imul C dX1_steadyPlace_27 ?_
  refine X.iadd C dX1_steadyPlace_28 ?_
  refine X.aload_n C dX1_steadyPlace_29 rfl 1 rfl ?_
  refine X.get C dX1_steadyPlace_30 lay_X1 0 rfl rfl 4 (by decide) fl_X1_46 rfl rfl ?_
  refine X.iload C dX1_steadyPlace_33 0 rfl ?_
  refine X.getsNY C dX1_steadyPlace_35 fn_X1_108 ?_
  refine X.iload_n C dX1_steadyPlace_38 rfl 4 rfl ?_
  refine X.bipush C dX1_steadyPlace_39 (by decide) ?_
  refine X.idiv C (by decide) dX1_steadyPlace_41 ?_
  refine X.aldY C h dX1_steadyPlace_42 (fun h => ?_)
  refine X.imul C dX1_steadyPlace_43 ?_
  refine X.iadd C dX1_steadyPlace_44 ?_
  refine X.callVi (q0 := 0) (As := [vi ((P 3 0) + (lx4_2 * (wayX (ix (jdv lx3 10))))), vi ((P 4 0) + (lx4_2 * (wayY (ix (jdv lx3 10)))))]) (rest := []) (g := fun rr_3 => rr_3) (W1 := fun rr_3 => (W_P G q P)) (ws2 := fun rr_3 => (W_P G q P)) C h dX1_steadyPlace_45 ml_X1_111 mX1_placeHit (fun v hv => kX1_placeHit q P ((P 3 0) + (lx4_2 * (wayX (ix (jdv lx3 10))))) ((P 4 0) + (lx4_2 * (wayY (ix (jdv lx3 10))))) v hv) (fun rr_3 => ln_P_P_p_n (G := G) (q := q) (P := P)) rfl rfl rfl rfl rfl rfl rfl rfl (fun rr_3 h => ?_)
  cases h
  exact X.iret C dX1_steadyPlace_48 (Nat.zero_le _) (Nat.zero_le _)
def rX1_sizesHitting : Room := { frames := 2, cells := 0, slots := 0, locals := 47 }
theorem mX1_sizesHitting : MV yX1_sizesHitting cX1_sizesHitting 6 (some .int) 3 := ⟨cd_X1_sizesHitting, in_X1, ⟨⟨by decide, by decide⟩, by decide +kernel⟩, im_X1_sizesHitting, se_X1_sizesHitting⟩
set_option maxHeartbeats 4000000 in
set_option maxRecDepth 100000 in
theorem xX1_sizesHitting_6 {κ : Kx} {G : GT} (C : Cx κ G yX1_sizesHitting cX1_sizesHitting (some .int) 6 rX1_sizesHitting) (q : Nat → Nat) (P : Ob) (lx1 : Int) (lx2 : Int) (lx3 : Int) (v : (Int)) : ∀ (n : Nat) (lx4 : Int) (lx5 : Int), lX1_sizesHitting_6 P lx1 lx2 lx3 n lx4 lx5 = some v → X κ G 6 (W_P G q P) 6 [(0, .ref (q 31)), (1, vi lx1), (2, vi lx2), (3, vi lx3), (4, vi lx4), (5, vi lx5)] [] 0 0 (QM κ G (W_P G q P) (some (vi v)) rX1_sizesHitting.cells rX1_sizesHitting.slots) := by
  intro n
  induction n with
  | zero => intro _ _ h; exact absurd h (fun h => nomatch h)
  | succ n ih =>
    intro lx4 lx5 h
    rw [lX1_sizesHitting_6] at h
    refine X.iload C dX1_sizesHitting_6 5 rfl ?_
    refine X.aload_n C dX1_sizesHitting_8 rfl 0 rfl ?_
    refine X.get C dX1_sizesHitting_9 lay_X1 0 rfl rfl 11 (by decide) fl_X1_67 rfl rfl ?_
    refine X.icmp_ge (tgt := 42) C h dX1_sizesHitting_12 (by decide) (fun h => ?_) (fun h => ?_)
    · refine X.iload C dX1_sizesHitting_42 4 rfl ?_
      cases h
      exact X.iret C dX1_sizesHitting_44 (Nat.zero_le _) (Nat.zero_le _)
    refine X.aload_n C dX1_sizesHitting_15 rfl 0 rfl ?_
    refine X.iload C dX1_sizesHitting_16 5 rfl ?_
    refine X.iload_n C dX1_sizesHitting_18 rfl 2 rfl ?_
    refine X.iload_n C dX1_sizesHitting_19 rfl 3 rfl ?_
    refine X.callVi (q0 := 0) (As := [vi lx5, vi lx2, vi lx3]) (rest := []) (g := fun rr_1 => rr_1) (W1 := fun rr_1 => (W_P G q P)) (ws2 := fun rr_1 => (W_P G q P)) C h dX1_sizesHitting_20 ml_X1_114 mX1_steadyPlace (fun v hv => kX1_steadyPlace q P lx5 lx2 lx3 v hv) (fun rr_1 => ln_P_P_p_n (G := G) (q := q) (P := P)) rfl rfl rfl rfl rfl rfl rfl rfl (fun rr_1 h => ?_)
    refine X.iload_n C dX1_sizesHitting_23 rfl 1 rfl ?_
    refine X.icmp_ne (tgt := 36) C h dX1_sizesHitting_24 (by decide) (fun h => ?_) (fun h => ?_)
    · refine X.iincN (lv2 := fun lx5_2 => [(5, vi lx5_2), (0, .ref (q 31)), (1, vi lx1), (2, vi lx2), (3, vi lx3), (4, vi lx4)]) C h dX1_sizesHitting_36 5 rfl (by decide) (fun _ => rfl) (fun lx5_2 h => ?_)
      refine X.goto (tgt := 6) C dX1_sizesHitting_39 (by decide) ?_
      refine X.sub [1, 2, 3, 4, 5, 0] rfl ?_
      exact ih lx4 lx5_2 h
    refine X.iload C dX1_sizesHitting_27 4 rfl ?_
    refine X.iconst C dX1_sizesHitting_29 ?_
    refine X.iload C dX1_sizesHitting_30 5 rfl ?_
    refine X.ishl C dX1_sizesHitting_32 ?_
    refine X.ior C dX1_sizesHitting_33 ?_
    refine X.istoreN (lv2 := fun lx4_3 => [(4, vi lx4_3), (0, .ref (q 31)), (1, vi lx1), (2, vi lx2), (3, vi lx3), (5, vi lx5)]) C h dX1_sizesHitting_34 (by decide) (fun _ => rfl) (fun lx4_3 h => ?_)
    refine X.iincN (lv2 := fun lx5_4 => [(5, vi lx5_4), (4, vi lx4_3), (0, .ref (q 31)), (1, vi lx1), (2, vi lx2), (3, vi lx3)]) C h dX1_sizesHitting_36 5 rfl (by decide) (fun _ => rfl) (fun lx5_4 h => ?_)
    refine X.goto (tgt := 6) C dX1_sizesHitting_39 (by decide) ?_
    refine X.sub [2, 3, 4, 5, 1, 0] rfl ?_
    exact ih lx4_3 lx5_4 h
set_option maxHeartbeats 4000000 in
set_option maxRecDepth 100000 in
theorem kX1_sizesHitting {l : Launch} {G : GT} (q : Nat → Nat) (P : Ob) (lx1 : Int) (lx2 : Int) (lx3 : Int) (v : (Int)) (h : fX1_sizesHitting P lx1 lx2 lx3 = some v) : CT l G yX1_sizesHitting cX1_sizesHitting 6 (some .int) rX1_sizesHitting [.ref (q 31), vi lx1, vi lx2, vi lx3] (W_P G q P) (W_P G q P) (some (vi v)) := by
  unfold fX1_sizesHitting at h
  refine CT.of (by decide) (Nat.le_of_ble_eq_true rfl) rfl (fun κ _ C => ?_)
  refine X.iconst C dX1_sizesHitting_0 ?_
  refine X.istore (lv2 := [(4, vi 0), (0, .ref (q 31)), (1, vi lx1), (2, vi lx2), (3, vi lx3)]) C dX1_sizesHitting_1 (by decide) rfl ?_
  refine X.iconst C dX1_sizesHitting_3 ?_
  refine X.istore (lv2 := [(5, vi 0), (4, vi 0), (0, .ref (q 31)), (1, vi lx1), (2, vi lx2), (3, vi lx3)]) C dX1_sizesHitting_4 (by decide) rfl ?_
  refine X.sub [2, 3, 4, 5, 1, 0] rfl ?_
  refine xX1_sizesHitting_6 C q P lx1 lx2 lx3 v FU 0 0 h
def rX7_flightOf : Room := { frames := 1, cells := 0, slots := 0, locals := 21 }
theorem mX7_flightOf : MS yX7_flightOf cX7_flightOf 1 (some .int) 1 := ⟨cd_X7_flightOf, in_X7, ⟨⟨by decide, by decide⟩, by decide +kernel⟩, sm_X7_flightOf⟩
set_option maxHeartbeats 4000000 in
set_option maxRecDepth 100000 in
theorem kX7_flightOf {l : Launch} {G : GT} (lx0 : Int) (v : (Int)) (h : fX7_flightOf lx0 = some v) : CT l G yX7_flightOf cX7_flightOf 1 (some .int) rX7_flightOf [vi lx0] W_0 W_0 (some (vi v)) := by
  unfold fX7_flightOf at h
  refine CT.of (by decide) (Nat.le_of_ble_eq_true rfl) rfl (fun κ _ C => ?_)
  refine X.iconst C dX7_flightOf_0 ?_
  refine X.iload_n C dX7_flightOf_1 rfl 0 rfl ?_
  refine X.callSi (As := [vi lx0]) (rest := [vi 2]) (g := fun rr_1 => rr_1) (W1 := fun rr_1 => W_0) (ws2 := fun rr_1 => W_0) C h dX7_flightOf_2 ml_X7_97 mX7_paceOf (fun v hv => kX7_paceOf lx0 v hv) (fun rr_1 => ln_0_0__n) rfl rfl rfl rfl rfl rfl (fun rr_1 h => ?_)
  refine X.imul C dX7_flightOf_5 ?_
  cases h
  exact X.iret C dX7_flightOf_6 (Nat.zero_le _) (Nat.zero_le _)
def rX1_strayFrom : Room := { frames := 2, cells := 0, slots := 0, locals := 47 }
theorem mX1_strayFrom : MV yX1_strayFrom cX1_strayFrom 6 (some .int) 2 := ⟨cd_X1_strayFrom, in_X1, ⟨⟨by decide, by decide⟩, by decide +kernel⟩, im_X1_strayFrom, se_X1_strayFrom⟩
set_option maxHeartbeats 4000000 in
set_option maxRecDepth 100000 in
theorem xX1_strayFrom_11 {κ : Kx} {G : GT} (C : Cx κ G yX1_strayFrom cX1_strayFrom (some .int) 6 rX1_strayFrom) (q : Nat → Nat) (P : Ob) (lx2 : Int) (lx3 : Int) (v : (Int)) : ∀ (n : Nat) (lx4 : Int) (lx5 : Int), lX1_strayFrom_11 P lx2 lx3 n lx4 lx5 = some v → X κ G 6 (W_P G q P) 11 [(0, .ref (q 31)), (2, vi lx2), (3, vi lx3), (4, vi lx4), (5, vi lx5)] [] 0 0 (QM κ G (W_P G q P) (some (vi v)) rX1_strayFrom.cells rX1_strayFrom.slots) := by
  intro n
  induction n with
  | zero => intro _ _ h; exact absurd h (fun h => nomatch h)
  | succ n ih =>
    intro lx4 lx5 h
    rw [lX1_strayFrom_11] at h
    refine X.iload C dX1_strayFrom_11 4 rfl ?_
    refine X.aload_n C dX1_strayFrom_13 rfl 0 rfl ?_
    refine X.get C dX1_strayFrom_14 lay_X1 0 rfl rfl 11 (by decide) fl_X1_67 rfl rfl ?_
    refine X.icmp_ge (tgt := 51) C h dX1_strayFrom_17 (by decide) (fun h => ?_) (fun h => ?_)
    · refine X.iload C dX1_strayFrom_51 3 rfl ?_
      cases h
      exact X.iret C dX1_strayFrom_53 (Nat.zero_le _) (Nat.zero_le _)
    refine X.aload_n C dX1_strayFrom_20 rfl 0 rfl ?_
    refine X.iload C dX1_strayFrom_21 4 rfl ?_
    refine X.iload_n C dX1_strayFrom_23 rfl 2 rfl ?_
    refine X.iload_n C dX1_strayFrom_24 rfl 1 rfl ?_
    refine X.callVi (q0 := 0) (As := [vi lx5, vi lx3, vi lx2]) (rest := []) (g := fun rr_2 => rr_2) (W1 := fun rr_2 => (W_P G q P)) (ws2 := fun rr_2 => (W_P G q P)) C h dX1_strayFrom_25 ml_X1_114 mX1_steadyPlace (fun v hv => kX1_steadyPlace q P lx5 lx3 lx2 v hv) (fun rr_2 => ln_P_P_p_n (G := G) (q := q) (P := P)) rfl rfl rfl rfl rfl rfl rfl rfl (fun rr_2 h => ?_)
    refine X.bipush C dX1_strayFrom_28 (by decide) ?_
    refine X.icmp_eq (tgt := 45) C h dX1_strayFrom_30 (by decide) (fun h => ?_) (fun h => ?_)
    · refine X.iincN (lv2 := fun lx5_3 => [(5, vi lx5_3), (0, .ref (q 31)), (2, vi lx2), (3, vi lx3), (4, vi lx4)]) C h dX1_strayFrom_45 4 rfl (by decide) (fun _ => rfl) (fun lx5_3 h => ?_)
      refine X.goto (tgt := 11) C dX1_strayFrom_48 (by decide) ?_
      refine X.sub [1, 2, 3, 4, 0] rfl ?_
      exact ih lx4 lx5_3 h
    refine X.iload C dX1_strayFrom_33 3 rfl ?_
    refine X.aload_n C dX1_strayFrom_35 rfl 0 rfl ?_
    refine X.get C dX1_strayFrom_36 lay_X1 0 rfl rfl 13 (by decide) fl_X1_15 rfl rfl ?_
    refine X.iload C dX1_strayFrom_39 4 rfl ?_
    refine X.iald C h dX1_strayFrom_41 2 rfl (fun h => ?_)
    refine X.iadd C dX1_strayFrom_42 ?_
    refine X.istoreN (lv2 := fun lx4_4 => [(4, vi lx4_4), (0, .ref (q 31)), (2, vi lx2), (3, vi lx3), (5, vi lx5)]) C h dX1_strayFrom_43 (by decide) (fun _ => rfl) (fun lx4_4 h => ?_)
    refine X.iincN (lv2 := fun lx5_5 => [(5, vi lx5_5), (4, vi lx4_4), (0, .ref (q 31)), (2, vi lx2), (3, vi lx3)]) C h dX1_strayFrom_45 4 rfl (by decide) (fun _ => rfl) (fun lx5_5 h => ?_)
    refine X.goto (tgt := 11) C dX1_strayFrom_48 (by decide) ?_
    refine X.sub [2, 3, 4, 1, 0] rfl ?_
    exact ih lx4_4 lx5_5 h
set_option maxHeartbeats 4000000 in
set_option maxRecDepth 100000 in
theorem kX1_strayFrom {l : Launch} {G : GT} (q : Nat → Nat) (P : Ob) (lx1 : Int) (lx2 : Int) (v : (Int)) (h : fX1_strayFrom P lx1 lx2 = some v) : CT l G yX1_strayFrom cX1_strayFrom 6 (some .int) rX1_strayFrom [.ref (q 31), vi lx1, vi lx2] (W_P G q P) (W_P G q P) (some (vi v)) := by
  unfold fX1_strayFrom at h
  refine CT.of (by decide) (Nat.le_of_ble_eq_true rfl) rfl (fun κ _ C => ?_)
  refine X.iload_n C dX1_strayFrom_0 rfl 1 rfl ?_
  refine X.callSNi (As := [vi lx1]) (rest := []) (g := fun rr_1 => rr_1) (W1 := fun rr_1 => W_0) (ws2 := fun rr_1 => (W_P G q P)) C h dX1_strayFrom_1 mn_X1_117 mX7_flightOf (fun v hv => kX7_flightOf lx1 v hv) (fun rr_1 => ln_P_0__n (G := G) (q := q) (P := P)) rfl rfl rfl rfl rfl rfl (fun rr_1 h => ?_)
  refine X.istore_n (lv2 := [(3, vi rr_1), (0, .ref (q 31)), (1, vi lx1), (2, vi lx2)]) C dX1_strayFrom_4 rfl (by decide) rfl ?_
  refine X.iconst C dX1_strayFrom_5 ?_
  refine X.istore (lv2 := [(4, vi 0), (3, vi rr_1), (0, .ref (q 31)), (1, vi lx1), (2, vi lx2)]) C dX1_strayFrom_6 (by decide) rfl ?_
  refine X.iconst C dX1_strayFrom_8 ?_
  refine X.istore (lv2 := [(5, vi 0), (4, vi 0), (3, vi rr_1), (0, .ref (q 31)), (1, vi lx1), (2, vi lx2)]) C dX1_strayFrom_9 (by decide) rfl ?_
  refine X.sub [3, 5, 2, 1, 0] rfl ?_
  refine xX1_strayFrom_11 C q P lx2 rr_1 v FU 0 0 h
def rX7_placeOf : Room := { frames := 0, cells := 0, slots := 0, locals := 0 }
theorem mX7_placeOf : MS yX7_placeOf cX7_placeOf 2 (some .int) 2 := ⟨cd_X7_placeOf, in_X7, ⟨⟨by decide, by decide⟩, by decide +kernel⟩, sm_X7_placeOf⟩
set_option maxHeartbeats 4000000 in
set_option maxRecDepth 100000 in
theorem kX7_placeOf {l : Launch} {G : GT} (lx0 : Int) (lx1 : Int) (v : (Int)) (h : fX7_placeOf lx0 lx1 = some v) : CT l G yX7_placeOf cX7_placeOf 2 (some .int) rX7_placeOf [vi lx0, vi lx1] W_0 W_0 (some (vi v)) := by
  unfold fX7_placeOf at h
  refine CT.of (by decide) (Nat.le_of_ble_eq_true rfl) rfl (fun κ _ C => ?_)
  refine X.iload_n C dX7_placeOf_0 rfl 0 rfl ?_
  refine X.bipush C dX7_placeOf_1 (by decide) ?_
  refine X.iload_n C dX7_placeOf_3 rfl 1 rfl ?_
  refine X.imul C dX7_placeOf_4 ?_
  refine X.iadd C dX7_placeOf_5 ?_
  cases h
  exact X.iret C dX7_placeOf_6 (Nat.zero_le _) (Nat.zero_le _)
def rX1_tablePlace : Room := { frames := 1, cells := 0, slots := 0, locals := 21 }
theorem mX1_tablePlace : MV yX1_tablePlace cX1_tablePlace 2 (some .int) 1 := ⟨cd_X1_tablePlace, in_X1, ⟨⟨by decide, by decide⟩, by decide +kernel⟩, im_X1_tablePlace, se_X1_tablePlace⟩
set_option maxHeartbeats 4000000 in
set_option maxRecDepth 100000 in
theorem kX1_tablePlace {l : Launch} {G : GT} (q : Nat → Nat) (P : Ob) (lx1 : Int) (v : (Int)) (h : fX1_tablePlace P lx1 = some v) : CT l G yX1_tablePlace cX1_tablePlace 2 (some .int) rX1_tablePlace [.ref (q 31), vi lx1] (W_P G q P) (W_P G q P) (some (vi v)) := by
  unfold fX1_tablePlace at h
  refine CT.of (by decide) (Nat.le_of_ble_eq_true rfl) rfl (fun κ _ C => ?_)
  refine X.aload_n C dX1_tablePlace_0 rfl 0 rfl ?_
  refine X.get C dX1_tablePlace_1 lay_X1 0 rfl rfl 15 (by decide) fl_X1_18 rfl rfl ?_
  refine X.iload_n C dX1_tablePlace_4 rfl 1 rfl ?_
  refine X.iald C h dX1_tablePlace_5 3 rfl (fun h => ?_)
  refine X.aload_n C dX1_tablePlace_6 rfl 0 rfl ?_
  refine X.get C dX1_tablePlace_7 lay_X1 0 rfl rfl 16 (by decide) fl_X1_21 rfl rfl ?_
  refine X.iload_n C dX1_tablePlace_10 rfl 1 rfl ?_
  refine X.iald C h dX1_tablePlace_11 4 rfl (fun h => ?_)
  refine X.callSNi (As := [vi (P 15 (ix lx1)), vi (P 16 (ix lx1))]) (rest := []) (g := fun rr_1 => rr_1) (W1 := fun rr_1 => W_0) (ws2 := fun rr_1 => (W_P G q P)) C h dX1_tablePlace_12 mn_X1_121 mX7_placeOf (fun v hv => kX7_placeOf (P 15 (ix lx1)) (P 16 (ix lx1)) v hv) (fun rr_1 => ln_P_0__n (G := G) (q := q) (P := P)) rfl rfl rfl rfl rfl rfl (fun rr_1 h => ?_)
  cases h
  exact X.iret C dX1_tablePlace_15 (Nat.zero_le _) (Nat.zero_le _)
def rX1_hasRoomFor : Room := { frames := 2, cells := 0, slots := 0, locals := 44 }
theorem mX1_hasRoomFor : MV yX1_hasRoomFor cX1_hasRoomFor 5 (some .boolean) 3 := ⟨cd_X1_hasRoomFor, in_X1, ⟨⟨by decide, by decide⟩, by decide +kernel⟩, im_X1_hasRoomFor, se_X1_hasRoomFor⟩
set_option maxHeartbeats 4000000 in
set_option maxRecDepth 100000 in
theorem xX1_hasRoomFor_3 {κ : Kx} {G : GT} (C : Cx κ G yX1_hasRoomFor cX1_hasRoomFor (some .boolean) 5 rX1_hasRoomFor) (q : Nat → Nat) (P : Ob) (lx1 : Int) (lx2 : Int) (lx3 : Int) (kx0 : Option (Int)) (v : (Int)) (hk0 : kx0 = some v → X κ G 5 (W_P G q P) 48 [(0, .ref (q 31)), (2, vi lx2), (3, vi lx3)] [] 0 0 (QM κ G (W_P G q P) (some (vi v)) rX1_hasRoomFor.cells rX1_hasRoomFor.slots)) : ∀ (n : Nat) (lx4 : Int), lX1_hasRoomFor_3 P lx1 lx2 lx3 kx0 n lx4 = some v → X κ G 5 (W_P G q P) 3 [(0, .ref (q 31)), (1, vi lx1), (2, vi lx2), (3, vi lx3), (4, vi lx4)] [] 0 0 (QM κ G (W_P G q P) (some (vi v)) rX1_hasRoomFor.cells rX1_hasRoomFor.slots) := by
  intro n
  induction n with
  | zero => intro _ h; exact absurd h (fun h => nomatch h)
  | succ n ih =>
    intro lx4 h
    rw [lX1_hasRoomFor_3] at h
    refine X.iload C dX1_hasRoomFor_3 4 rfl ?_
    refine X.aload_n C dX1_hasRoomFor_5 rfl 0 rfl ?_
    refine X.get C dX1_hasRoomFor_6 lay_X1 0 rfl rfl 14 (by decide) fl_X1_70 rfl rfl ?_
    refine X.icmp_ge (tgt := 48) C h dX1_hasRoomFor_9 (by decide) (fun h => ?_) (fun h => ?_)
    · refine X.sub [0, 2, 3] rfl ?_
      exact hk0 h
    refine X.iload C dX1_hasRoomFor_12 4 rfl ?_
    refine X.iload_n C dX1_hasRoomFor_14 rfl 1 rfl ?_
    refine X.icmp_eq (tgt := 42) C h dX1_hasRoomFor_15 (by decide) (fun h => ?_) (fun h => ?_)
    · refine X.iincN (lv2 := fun lx4_1 => [(4, vi lx4_1), (0, .ref (q 31)), (1, vi lx1), (2, vi lx2), (3, vi lx3)]) C h dX1_hasRoomFor_42 4 rfl (by decide) (fun _ => rfl) (fun lx4_1 h => ?_)
      refine X.goto (tgt := 3) C dX1_hasRoomFor_45 (by decide) ?_
      refine X.sub [1, 2, 3, 4, 0] rfl ?_
      exact ih lx4_1 h
    refine X.aload_n C dX1_hasRoomFor_18 rfl 0 rfl ?_
    refine X.get C dX1_hasRoomFor_19 lay_X1 0 rfl rfl 15 (by decide) fl_X1_18 rfl rfl ?_
    refine X.iload C dX1_hasRoomFor_22 4 rfl ?_
    refine X.iald C h dX1_hasRoomFor_24 3 rfl (fun h => ?_)
    refine X.iload_n C dX1_hasRoomFor_25 rfl 2 rfl ?_
    refine X.icmp_ne (tgt := 42) C h dX1_hasRoomFor_26 (by decide) (fun h => ?_) (fun h => ?_)
    · refine X.iincN (lv2 := fun lx4_2 => [(4, vi lx4_2), (0, .ref (q 31)), (1, vi lx1), (2, vi lx2), (3, vi lx3)]) C h dX1_hasRoomFor_42 4 rfl (by decide) (fun _ => rfl) (fun lx4_2 h => ?_)
      refine X.goto (tgt := 3) C dX1_hasRoomFor_45 (by decide) ?_
      refine X.sub [1, 2, 3, 4, 0] rfl ?_
      exact ih lx4_2 h
    refine X.aload_n C dX1_hasRoomFor_29 rfl 0 rfl ?_
    refine X.get C dX1_hasRoomFor_30 lay_X1 0 rfl rfl 16 (by decide) fl_X1_21 rfl rfl ?_
    refine X.iload C dX1_hasRoomFor_33 4 rfl ?_
    refine X.iald C h dX1_hasRoomFor_35 4 rfl (fun h => ?_)
    refine X.iload_n C dX1_hasRoomFor_36 rfl 3 rfl ?_
    refine X.icmp_ne (tgt := 42) C h dX1_hasRoomFor_37 (by decide) (fun h => ?_) (fun h => ?_)
    · refine X.iincN (lv2 := fun lx4_3 => [(4, vi lx4_3), (0, .ref (q 31)), (1, vi lx1), (2, vi lx2), (3, vi lx3)]) C h dX1_hasRoomFor_42 4 rfl (by decide) (fun _ => rfl) (fun lx4_3 h => ?_)
      refine X.goto (tgt := 3) C dX1_hasRoomFor_45 (by decide) ?_
      refine X.sub [1, 2, 3, 4, 0] rfl ?_
      exact ih lx4_3 h
    refine X.iconst C dX1_hasRoomFor_40 ?_
    cases h
    exact X.zret C rfl dX1_hasRoomFor_41 (Nat.zero_le _) (Nat.zero_le _)
set_option maxHeartbeats 4000000 in
set_option maxRecDepth 100000 in
theorem kX1_hasRoomFor {l : Launch} {G : GT} (q : Nat → Nat) (P : Ob) (lx1 : Int) (lx2 : Int) (lx3 : Int) (v : (Int)) (h : fX1_hasRoomFor P lx1 lx2 lx3 = some v) : CT l G yX1_hasRoomFor cX1_hasRoomFor 5 (some .boolean) rX1_hasRoomFor [.ref (q 31), vi lx1, vi lx2, vi lx3] (W_P G q P) (W_P G q P) (some (vi v)) := by
  unfold fX1_hasRoomFor at h
  refine CT.of (by decide) (Nat.le_of_ble_eq_true rfl) rfl (fun κ _ C => ?_)
  refine X.iconst C dX1_hasRoomFor_0 ?_
  refine X.istore (lv2 := [(4, vi 0), (0, .ref (q 31)), (1, vi lx1), (2, vi lx2), (3, vi lx3)]) C dX1_hasRoomFor_1 (by decide) rfl ?_
  refine X.sub [1, 2, 3, 4, 0] rfl ?_
  refine xX1_hasRoomFor_3 C q P lx1 lx2 lx3 _ v (fun h => ?_) FU 0 h
  · refine X.aload_n C dX1_hasRoomFor_48 rfl 0 rfl ?_
    refine X.iload_n C dX1_hasRoomFor_49 rfl 1 rfl ?_
    refine X.iload_n C dX1_hasRoomFor_50 rfl 2 rfl ?_
    refine X.callVi (q0 := 0) (As := [vi lx2, vi lx3]) (rest := []) (g := fun rr_4 => rr_4) (W1 := fun rr_4 => (W_P G q P)) (ws2 := fun rr_4 => (W_P G q P)) C h dX1_hasRoomFor_51 ml_X1_124 mX1_isBasin (fun v hv => kX1_isBasin q P lx2 lx3 v hv) (fun rr_4 => ln_P_P_p_n (G := G) (q := q) (P := P)) rfl rfl rfl rfl rfl rfl rfl rfl (fun rr_4 h => ?_)
    refine X.if_ne (tgt := 61) C h dX1_hasRoomFor_54 (by decide) (fun h => ?_) (fun h => ?_)
    · refine X.iconst C dX1_hasRoomFor_61 ?_
      cases h
      exact X.zret C rfl dX1_hasRoomFor_62 (Nat.zero_le _) (Nat.zero_le _)
    refine X.iconst C dX1_hasRoomFor_57 ?_
    refine X.goto (tgt := 62) C dX1_hasRoomFor_58 (by decide) ?_
    cases h
    exact X.zret C rfl dX1_hasRoomFor_62 (Nat.zero_le _) (Nat.zero_le _)
def rX1_showsBow : Room := { frames := 1, cells := 0, slots := 0, locals := 30 }
theorem mX1_showsBow : MV yX1_showsBow cX1_showsBow 6 (some .boolean) 3 := ⟨cd_X1_showsBow, in_X1, ⟨⟨by decide, by decide⟩, by decide +kernel⟩, im_X1_showsBow, se_X1_showsBow⟩
set_option maxHeartbeats 4000000 in
set_option maxRecDepth 100000 in
theorem kX1_showsBow {l : Launch} {G : GT} (q : Nat → Nat) (P : Ob) (lx1 : Int) (lx2 : Int) (lx3 : Int) (v : (Int)) (h : fX1_showsBow P lx1 lx2 lx3 = some v) : CT l G yX1_showsBow cX1_showsBow 6 (some .boolean) rX1_showsBow [.ref (q 31), vi lx1, vi lx2, vi lx3] (W_P G q P) (W_P G q P) (some (vi v)) := by
  unfold fX1_showsBow at h
  refine CT.of (by decide) (Nat.le_of_ble_eq_true rfl) rfl (fun κ _ C => ?_)
  refine X.aload_n C dX1_showsBow_0 rfl 0 rfl ?_
  refine X.get C dX1_showsBow_1 lay_X1 0 rfl rfl 3 (by decide) fl_X1_43 rfl rfl ?_
  refine X.iload_n C dX1_showsBow_4 rfl 1 rfl ?_
  refine X.isub C dX1_showsBow_5 ?_
  refine X.getsNX C dX1_showsBow_6 fn_X1_105 ?_
  refine X.iload_n C dX1_showsBow_9 rfl 3 rfl ?_
  refine X.aldX C h dX1_showsBow_10 (fun h => ?_)
  refine X.imul C dX1_showsBow_11 ?_
  refine X.aload_n C dX1_showsBow_12 rfl 0 rfl ?_
  refine X.get C dX1_showsBow_13 lay_X1 0 rfl rfl 4 (by decide) fl_X1_46 rfl rfl ?_
  refine X.iload_n C dX1_showsBow_16 rfl 2 rfl ?_
  refine X.isub C dX1_showsBow_17 ?_
  refine X.getsNY C dX1_showsBow_18 fn_X1_108 ?_
  refine X.iload_n C dX1_showsBow_21 rfl 3 rfl ?_
  refine X.aldY C h dX1_showsBow_22 (fun h => ?_)
  refine X.imul C dX1_showsBow_23 ?_
  refine X.iadd C dX1_showsBow_24 ?_
  refine X.istoreN (lv2 := fun lx4_1 => [(4, vi lx4_1), (0, .ref (q 31)), (1, vi lx1), (2, vi lx2), (3, vi lx3)]) C h dX1_showsBow_25 (by decide) (fun _ => rfl) (fun lx4_1 h => ?_)
  refine X.aload_n C dX1_showsBow_27 rfl 1 rfl ?_
  refine X.get C dX1_showsBow_28 lay_X1 0 rfl rfl 3 (by decide) fl_X1_43 rfl rfl ?_
  refine X.iload_n C dX1_showsBow_31 rfl 2 rfl ?_
  refine X.isub C dX1_showsBow_32 ?_
  refine X.getsNY C dX1_showsBow_33 fn_X1_108 ?_
  refine X.iload_n C dX1_showsBow_36 rfl 4 rfl ?_
  refine X.aldY C h dX1_showsBow_37 (fun h => ?_)
  refine X.imul C dX1_showsBow_38 ?_
  refine X.mabs C dX1_showsBow_39 ml_X1_128 sm_J9_abs_0f7a4 in_java_lang_Math cd_J9_abs_0f7a4 (Nat.le_of_ble_eq_true rfl) (Nat.le_of_ble_eq_true rfl) (Nat.zero_le _) (Nat.zero_le _) ?_
  refine X.aload_n C dX1_showsBow_42 rfl 1 rfl ?_
  refine X.get C dX1_showsBow_43 lay_X1 0 rfl rfl 4 (by decide) fl_X1_46 rfl rfl ?_
  refine X.iload_n C dX1_showsBow_46 rfl 3 rfl ?_
  refine X.isub C dX1_showsBow_47 ?_
  refine X.getsNX C dX1_showsBow_48 fn_X1_105 ?_
  refine X.iload_n C dX1_showsBow_51 rfl 4 rfl ?_
  refine X.aldX C h dX1_showsBow_52 (fun h => ?_)
  refine X.imul C dX1_showsBow_53 ?_
  refine X.mabs C dX1_showsBow_54 ml_X1_128 sm_J9_abs_0f7a4 in_java_lang_Math cd_J9_abs_0f7a4 (Nat.le_of_ble_eq_true rfl) (Nat.le_of_ble_eq_true rfl) (Nat.zero_le _) (Nat.zero_le _) ?_
  refine X.iadd C dX1_showsBow_57 ?_
  refine X.istoreN (lv2 := fun lx5_2 => [(5, vi lx5_2), (4, vi lx4_1), (0, .ref (q 31)), (1, vi lx1), (2, vi lx2), (3, vi lx3)]) C h dX1_showsBow_58 (by decide) (fun _ => rfl) (fun lx5_2 h => ?_)
  refine X.iload C dX1_showsBow_60 1 rfl ?_
  refine X.if_le (tgt := 78) C h dX1_showsBow_62 (by decide) (fun h => ?_) (fun h => ?_)
  · refine X.iconst C dX1_showsBow_78 ?_
    cases h
    exact X.zret C rfl dX1_showsBow_79 (Nat.zero_le _) (Nat.zero_le _)
  refine X.iload C dX1_showsBow_65 0 rfl ?_
  refine X.iload C dX1_showsBow_67 1 rfl ?_
  refine X.iconst C dX1_showsBow_69 ?_
  refine X.idiv C (by decide) dX1_showsBow_70 ?_
  refine X.icmp_gt (tgt := 78) C h dX1_showsBow_71 (by decide) (fun h => ?_) (fun h => ?_)
  · refine X.iconst C dX1_showsBow_78 ?_
    cases h
    exact X.zret C rfl dX1_showsBow_79 (Nat.zero_le _) (Nat.zero_le _)
  refine X.iconst C dX1_showsBow_74 ?_
  refine X.goto (tgt := 79) C dX1_showsBow_75 (by decide) ?_
  cases h
  exact X.zret C rfl dX1_showsBow_79 (Nat.zero_le _) (Nat.zero_le _)
def rX2_begin : Room := { frames := 1, cells := 0, slots := 0, locals := 24 }
theorem mX2_begin : MV yX2_begin cX2_begin 3 none 2 := ⟨cd_X2_begin, in_X2, ⟨⟨by decide, by decide⟩, by decide +kernel⟩, im_X2_begin, se_X2_begin⟩
set_option maxHeartbeats 4000000 in
set_option maxRecDepth 100000 in
theorem kX2_begin {l : Launch} {G : GT} (q : Nat → Nat) (R : Ob) (lx1 : Int) (lx2 : Int) (v : (Ob)) (h : fX2_begin R lx1 lx2 = some v) : CT l G yX2_begin cX2_begin 3 none rX2_begin [.ref (q 31), vi lx1, vi lx2] (W_R G q R) (W_R G q v) none := by
  unfold fX2_begin at h
  refine CT.of (by decide) (Nat.le_of_ble_eq_true rfl) rfl (fun κ _ C => ?_)
  refine X.aload_n C dX2_begin_0 rfl 0 rfl ?_
  refine X.iconst C dX2_begin_1 ?_
  refine X.put (ws2 := (W_R G q (up2 R 0 0 1))) (ty := .boolean) C dX2_begin_2 lay_X2 tyX2_ok nmX2 0 rfl rfl 0 (by decide) fl_X2_15 rfl rfl (by decide +kernel) rfl rfl (Nat.le_of_ble_eq_true rfl) rfl ?_
  refine X.nameS (ws := fun R_1 => (W_R G q R_1)) h (fun R_1 h => ?_)
  refine X.aload_n C dX2_begin_5 rfl 0 rfl ?_
  refine X.iload_n C dX2_begin_6 rfl 1 rfl ?_
  refine X.put (ws2 := (W_R G q (up2 R_1 1 0 lx1))) (ty := .int) C dX2_begin_7 lay_X2 tyX2_ok nmX2 0 rfl rfl 1 (by decide) fl_X2_19 rfl rfl (by decide +kernel) rfl rfl (Nat.le_of_ble_eq_true rfl) rfl ?_
  refine X.nameS (ws := fun R_2 => (W_R G q R_2)) h (fun R_2 h => ?_)
  refine X.aload_n C dX2_begin_10 rfl 0 rfl ?_
  refine X.iload_n C dX2_begin_11 rfl 2 rfl ?_
  refine X.put (ws2 := (W_R G q (up2 R_2 2 0 lx2))) (ty := .int) C dX2_begin_12 lay_X2 tyX2_ok nmX2 0 rfl rfl 2 (by decide) fl_X2_23 rfl rfl (by decide +kernel) rfl rfl (Nat.le_of_ble_eq_true rfl) rfl ?_
  refine X.nameS (ws := fun R_3 => (W_R G q R_3)) h (fun R_3 h => ?_)
  refine X.aload_n C dX2_begin_15 rfl 0 rfl ?_
  refine X.get C dX2_begin_16 lay_X2 0 rfl rfl 3 (by decide) fl_X2_9 rfl rfl ?_
  refine X.lconst (z := 0) C dX2_begin_19 (by decide) ?_
  refine X.fillL C dX2_begin_20 ml_X2_26 ln_R_fill_r_3 rfl rfl (by decide) ?_
  refine X.nameS (ws := fun R_4 => (W_R G q R_4)) h (fun R_4 h => ?_)
  cases h
  exact X.vret C dX2_begin_23 (Nat.zero_le _) (Nat.zero_le _)
def rX2_cut : Room := { frames := 0, cells := 0, slots := 0, locals := 0 }
theorem mX2_cut : MV yX2_cut cX2_cut 3 (some .long) 1 := ⟨cd_X2_cut, in_X2, ⟨⟨by decide, by decide⟩, by decide +kernel⟩, im_X2_cut, se_X2_cut⟩
set_option maxHeartbeats 4000000 in
set_option maxRecDepth 100000 in
theorem kX2_cut {l : Launch} {G : GT} (q : Nat → Nat) (R : Ob) (lx1 : Int) (v : (Int)) (h : fX2_cut R lx1 = some v) : CT l G yX2_cut cX2_cut 3 (some .long) rX2_cut [.ref (q 31), vl lx1] (W_R G q R) (W_R G q R) (some (vl v)) := by
  unfold fX2_cut at h
  refine CT.of (by decide) (Nat.le_of_ble_eq_true rfl) rfl (fun κ _ C => ?_)
  refine X.aload_n C dX2_cut_0 rfl 0 rfl ?_
  refine X.get C dX2_cut_1 lay_X2 0 rfl rfl 1 (by decide) fl_X2_19 rfl rfl ?_
  rcases bq_out h with ⟨c0, h⟩ | ⟨c0, h⟩
  · refine X.tsIn (tgt := 32) c0 C dX2_cut_4 (by decide) (by decide) rfl (by decide) ?_
    refine X.lload_n C dX2_cut_32 rfl 1 rfl ?_
    refine X.l2i C dX2_cut_33 ?_
    refine X.i2b C dX2_cut_34 ?_
    refine X.i2l C dX2_cut_35 ?_
    cases h
    exact X.lret C dX2_cut_36 (Nat.zero_le _) (Nat.zero_le _)
  rcases bq_out h with ⟨c1, h⟩ | ⟨c1, h⟩
  · refine X.tsIn (tgt := 37) c1 C dX2_cut_4 (by decide) (by decide) rfl (by decide) ?_
    refine X.lload_n C dX2_cut_37 rfl 1 rfl ?_
    refine X.l2i C dX2_cut_38 ?_
    refine X.i2s C dX2_cut_39 ?_
    refine X.i2l C dX2_cut_40 ?_
    cases h
    exact X.lret C dX2_cut_41 (Nat.zero_le _) (Nat.zero_le _)
  rcases bq_out h with ⟨c2, h⟩ | ⟨c2, h⟩
  · refine X.tsIn (tgt := 42) c2 C dX2_cut_4 (by decide) (by decide) rfl (by decide) ?_
    refine X.lload_n C dX2_cut_42 rfl 1 rfl ?_
    refine X.l2i C dX2_cut_43 ?_
    refine X.i2l C dX2_cut_44 ?_
    cases h
    exact X.lret C dX2_cut_45 (Nat.zero_le _) (Nat.zero_le _)
  refine X.tsOut3 (tgt := 46) c0 c1 c2 C dX2_cut_4 (by decide) ?_
  refine X.lload_n C dX2_cut_46 rfl 1 rfl ?_
  cases h
  exact X.lret C dX2_cut_47 (Nat.zero_le _) (Nat.zero_le _)
def rX2_holds : Room := { frames := 0, cells := 0, slots := 0, locals := 0 }
theorem mX2_holds : MV yX2_holds cX2_holds 3 (some .boolean) 2 := ⟨cd_X2_holds, in_X2, ⟨⟨by decide, by decide⟩, by decide +kernel⟩, im_X2_holds, se_X2_holds⟩
set_option maxHeartbeats 4000000 in
set_option maxRecDepth 100000 in
theorem kX2_holds {l : Launch} {G : GT} (q : Nat → Nat) (R : Ob) (lx1 : Int) (lx2 : Int) (v : (Int)) (h : fX2_holds R lx1 lx2 = some v) : CT l G yX2_holds cX2_holds 3 (some .boolean) rX2_holds [.ref (q 31), vi lx1, vi lx2] (W_R G q R) (W_R G q R) (some (vi v)) := by
  unfold fX2_holds at h
  refine CT.of (by decide) (Nat.le_of_ble_eq_true rfl) rfl (fun κ _ C => ?_)
  refine X.iload_n C dX2_holds_0 rfl 1 rfl ?_
  refine X.if_lt (tgt := 30) C h dX2_holds_1 (by decide) (fun h => ?_) (fun h => ?_)
  · refine X.iconst C dX2_holds_30 ?_
    cases h
    exact X.zret C rfl dX2_holds_31 (Nat.zero_le _) (Nat.zero_le _)
  refine X.iload_n C dX2_holds_4 rfl 2 rfl ?_
  refine X.if_lt (tgt := 30) C h dX2_holds_5 (by decide) (fun h => ?_) (fun h => ?_)
  · refine X.iconst C dX2_holds_30 ?_
    cases h
    exact X.zret C rfl dX2_holds_31 (Nat.zero_le _) (Nat.zero_le _)
  refine X.iload_n C dX2_holds_8 rfl 2 rfl ?_
  refine X.aload_n C dX2_holds_9 rfl 0 rfl ?_
  refine X.get C dX2_holds_10 lay_X2 0 rfl rfl 2 (by decide) fl_X2_23 rfl rfl ?_
  refine X.icmp_gt (tgt := 30) C h dX2_holds_13 (by decide) (fun h => ?_) (fun h => ?_)
  · refine X.iconst C dX2_holds_30 ?_
    cases h
    exact X.zret C rfl dX2_holds_31 (Nat.zero_le _) (Nat.zero_le _)
  refine X.iload_n C dX2_holds_16 rfl 1 rfl ?_
  refine X.aload_n C dX2_holds_17 rfl 0 rfl ?_
  refine X.get C dX2_holds_18 lay_X2 0 rfl rfl 2 (by decide) fl_X2_23 rfl rfl ?_
  refine X.iload_n C dX2_holds_21 rfl 2 rfl ?_
  refine X.isub C dX2_holds_22 ?_
  refine X.icmp_gt (tgt := 30) C h dX2_holds_23 (by decide) (fun h => ?_) (fun h => ?_)
  · refine X.iconst C dX2_holds_30 ?_
    cases h
    exact X.zret C rfl dX2_holds_31 (Nat.zero_le _) (Nat.zero_le _)
  refine X.iconst C dX2_holds_26 ?_
  refine X.goto (tgt := 31) C dX2_holds_27 (by decide) ?_
  cases h
  exact X.zret C rfl dX2_holds_31 (Nat.zero_le _) (Nat.zero_le _)
def rX2_isOfWinds : Room := { frames := 0, cells := 0, slots := 0, locals := 0 }
theorem mX2_isOfWinds : MV yX2_isOfWinds cX2_isOfWinds 2 (some .boolean) 0 := ⟨cd_X2_isOfWinds, in_X2, ⟨⟨by decide, by decide⟩, by decide +kernel⟩, im_X2_isOfWinds, se_X2_isOfWinds⟩
set_option maxHeartbeats 4000000 in
set_option maxRecDepth 100000 in
theorem xX2_isOfWinds_2 {κ : Kx} {G : GT} (C : Cx κ G yX2_isOfWinds cX2_isOfWinds (some .boolean) 2 rX2_isOfWinds) (q : Nat → Nat) (R : Ob) (v : (Int)) : ∀ (n : Nat) (lx1 : Int), lX2_isOfWinds_2 R n lx1 = some v → X κ G 2 (W_R G q R) 2 [(0, .ref (q 31)), (1, vi lx1)] [] 0 0 (QM κ G (W_R G q R) (some (vi v)) rX2_isOfWinds.cells rX2_isOfWinds.slots) := by
  intro n
  induction n with
  | zero => intro _ h; exact absurd h (fun h => nomatch h)
  | succ n ih =>
    intro lx1 h
    rw [lX2_isOfWinds_2] at h
    refine X.iload_n C dX2_isOfWinds_2 rfl 1 rfl ?_
    refine X.aload_n C dX2_isOfWinds_3 rfl 0 rfl ?_
    refine X.get C dX2_isOfWinds_4 lay_X2 0 rfl rfl 2 (by decide) fl_X2_23 rfl rfl ?_
    refine X.icmp_ge (tgt := 42) C h dX2_isOfWinds_7 (by decide) (fun h => ?_) (fun h => ?_)
    · refine X.iconst C dX2_isOfWinds_42 ?_
      cases h
      exact X.zret C rfl dX2_isOfWinds_43 (Nat.zero_le _) (Nat.zero_le _)
    refine X.aload_n C dX2_isOfWinds_10 rfl 0 rfl ?_
    refine X.get C dX2_isOfWinds_11 lay_X2 0 rfl rfl 3 (by decide) fl_X2_9 rfl rfl ?_
    refine X.iload_n C dX2_isOfWinds_14 rfl 1 rfl ?_
    refine X.lald C h dX2_isOfWinds_15 1 rfl (fun h => ?_)
    refine X.lconst (z := 0) C dX2_isOfWinds_16 (by decide) ?_
    refine X.lcmp C dX2_isOfWinds_17 ?_
    refine X.if_lt (tgt := 34) C h dX2_isOfWinds_18 (by decide) (fun h => ?_) (fun h => ?_)
    · refine X.iconst C dX2_isOfWinds_34 ?_
      cases h
      exact X.zret C rfl dX2_isOfWinds_35 (Nat.zero_le _) (Nat.zero_le _)
    refine X.aload_n C dX2_isOfWinds_21 rfl 0 rfl ?_
    refine X.get C dX2_isOfWinds_22 lay_X2 0 rfl rfl 3 (by decide) fl_X2_9 rfl rfl ?_
    refine X.iload_n C dX2_isOfWinds_25 rfl 1 rfl ?_
    refine X.lald C h dX2_isOfWinds_26 1 rfl (fun h => ?_)
    refine X.ldc2 (z := 40) C cl_X2_32 (by decide) dX2_isOfWinds_27 ?_
    refine X.lcmp C dX2_isOfWinds_30 ?_
    refine X.if_lt (tgt := 36) C h dX2_isOfWinds_31 (by decide) (fun h => ?_) (fun h => ?_)
    · refine X.iincN (lv2 := fun lx1_1 => [(1, vi lx1_1), (0, .ref (q 31))]) C h dX2_isOfWinds_36 1 rfl (by decide) (fun _ => rfl) (fun lx1_1 h => ?_)
      refine X.goto (tgt := 2) C dX2_isOfWinds_39 (by decide) ?_
      refine X.sub [1, 0] rfl ?_
      exact ih lx1_1 h
    refine X.iconst C dX2_isOfWinds_34 ?_
    cases h
    exact X.zret C rfl dX2_isOfWinds_35 (Nat.zero_le _) (Nat.zero_le _)
set_option maxHeartbeats 4000000 in
set_option maxRecDepth 100000 in
theorem kX2_isOfWinds {l : Launch} {G : GT} (q : Nat → Nat) (R : Ob) (v : (Int)) (h : fX2_isOfWinds R = some v) : CT l G yX2_isOfWinds cX2_isOfWinds 2 (some .boolean) rX2_isOfWinds [.ref (q 31)] (W_R G q R) (W_R G q R) (some (vi v)) := by
  unfold fX2_isOfWinds at h
  refine CT.of (by decide) (Nat.le_of_ble_eq_true rfl) rfl (fun κ _ C => ?_)
  refine X.iconst C dX2_isOfWinds_0 ?_
  refine X.istore_n (lv2 := [(1, vi 0), (0, .ref (q 31))]) C dX2_isOfWinds_1 rfl (by decide) rfl ?_
  refine X.sub [1, 0] rfl ?_
  refine xX2_isOfWinds_2 C q R v FU 0 h
