def rX8_advance : Room := { frames := 1, cells := 0, slots := 0, locals := 30 }
theorem mX8_advance : MV yX8_advance cX8_advance 2 none 0 := ⟨cd_X8_advance, in_X8, ⟨⟨by decide, by decide⟩, by decide +kernel⟩, im_X8_advance, se_X8_advance⟩
set_option maxHeartbeats 4000000 in
set_option maxRecDepth 100000 in
theorem xX8_advance_26 {κ : Kx} {G : GT} (C : Cx κ G yX8_advance cX8_advance none 2 rX8_advance) (q : Nat → Nat) (kc0 : Ob → Option (Ob)) (M : Ob) (v : (Ob)) (hc0 : ∀ (M : Ob), kc0 M = some v → X κ G 2 (W_M G q M) 0 [(0, .ref (q 31))] [] 0 0 (QM κ G (W_M G q v) none rX8_advance.cells rX8_advance.slots)) (h : jX8_advance_26 kc0 M = some v) : X κ G 2 (W_M G q M) 26 [(0, .ref (q 31))] [] 0 0 (QM κ G (W_M G q v) none rX8_advance.cells rX8_advance.slots) := by
  unfold jX8_advance_26 at h
  refine X.aload_n C dX8_advance_26 rfl 0 rfl ?_
  refine X.dup C dX8_advance_27 rfl ?_
  refine X.get C dX8_advance_28 lay_X8 0 rfl rfl 8 (by decide) fl_X8_85 rfl rfl ?_
  refine X.iconst C dX8_advance_31 ?_
  refine X.iadd C dX8_advance_32 ?_
  refine X.put (ws2 := (W_M G q (up2 M 8 0 ((M 8 0) + 1)))) (ty := .int) C dX8_advance_33 lay_X8 tyX8_ok nmX8 0 rfl rfl 8 (by decide) fl_X8_85 rfl rfl (by decide +kernel) rfl rfl (Nat.le_of_ble_eq_true rfl) rfl ?_
  refine X.nameS (ws := fun M_2 => (W_M G q M_2)) h (fun M_2 h => ?_)
  refine X.goto (tgt := 0) C dX8_advance_36 (by decide) ?_
  refine X.sub [0] rfl ?_
  exact hc0 M_2 h
set_option maxHeartbeats 4000000 in
set_option maxRecDepth 100000 in
theorem xX8_advance_0 {κ : Kx} {G : GT} (C : Cx κ G yX8_advance cX8_advance none 2 rX8_advance) (q : Nat → Nat) (kx0 : Ob → Option (Ob)) (v : (Ob)) (hk0 : ∀ (M : Ob), kx0 M = some v → X κ G 2 (W_M G q M) 39 [(0, .ref (q 31))] [] 0 0 (QM κ G (W_M G q v) none rX8_advance.cells rX8_advance.slots)) : ∀ (n : Nat) (M : Ob), lX8_advance_0 kx0 n M = some v → X κ G 2 (W_M G q M) 0 [(0, .ref (q 31))] [] 0 0 (QM κ G (W_M G q v) none rX8_advance.cells rX8_advance.slots) := by
  intro n
  induction n with
  | zero => intro _ h; exact absurd h (fun h => nomatch h)
  | succ n ih =>
    intro M h
    rw [lX8_advance_0] at h
    refine X.aload_n C dX8_advance_0 rfl 0 rfl ?_
    refine X.aload_n C dX8_advance_1 rfl 0 rfl ?_
    refine X.get C dX8_advance_2 lay_X8 0 rfl rfl 8 (by decide) fl_X8_85 rfl rfl ?_
    refine X.callVi (q0 := 0) (As := [vi (M 8 0)]) (rest := []) (g := fun rr_1 => rr_1) (W1 := fun rr_1 => (W_M G q M)) (ws2 := fun rr_1 => (W_M G q M)) C h dX8_advance_5 ml_X8_88 mX8_see (fun v hv => kX8_see q M (M 8 0) v hv) (fun rr_1 => ln_M_M_m_n (G := G) (q := q) (M := M)) rfl rfl rfl rfl rfl rfl rfl rfl (fun rr_1 h => ?_)
    refine X.bipush C dX8_advance_8 (by decide) ?_
    refine X.icmp_eq (tgt := 26) C h dX8_advance_10 (by decide) (fun h => ?_) (fun h => ?_)
    · refine X.sub [0] rfl ?_
      exact xX8_advance_26 C q (lX8_advance_0 kx0 n) M v ih h
    refine X.aload_n C dX8_advance_13 rfl 0 rfl ?_
    refine X.aload_n C dX8_advance_14 rfl 0 rfl ?_
    refine X.get C dX8_advance_15 lay_X8 0 rfl rfl 8 (by decide) fl_X8_85 rfl rfl ?_
    refine X.callVi (q0 := 0) (As := [vi (M 8 0)]) (rest := []) (g := fun rr_3 => rr_3) (W1 := fun rr_3 => (W_M G q M)) (ws2 := fun rr_3 => (W_M G q M)) C h dX8_advance_18 ml_X8_88 mX8_see (fun v hv => kX8_see q M (M 8 0) v hv) (fun rr_3 => ln_M_M_m_n (G := G) (q := q) (M := M)) rfl rfl rfl rfl rfl rfl rfl rfl (fun rr_3 h => ?_)
    refine X.bipush C dX8_advance_21 (by decide) ?_
    refine X.icmp_ne (tgt := 39) C h dX8_advance_23 (by decide) (fun h => ?_) (fun h => ?_)
    · refine X.sub [0] rfl ?_
      exact hk0 M h
    refine X.sub [0] rfl ?_
    exact xX8_advance_26 C q (lX8_advance_0 kx0 n) M v ih h
set_option maxHeartbeats 4000000 in
set_option maxRecDepth 100000 in
theorem xX8_advance_226 {κ : Kx} {G : GT} (C : Cx κ G yX8_advance cX8_advance none 2 rX8_advance) (q : Nat → Nat) (M : Ob) (lt0 : Int) (v : (Ob)) (h : jX8_advance_226 M lt0 = some v) : X κ G 2 (W_M G q M) 226 [(0, .ref (q 31))] [vi lt0, .ref (q 31)] 0 0 (QM κ G (W_M G q v) none rX8_advance.cells rX8_advance.slots) := by
  unfold jX8_advance_226 at h
  refine X.put (ws2 := (W_M G q (up2 M 10 0 lt0))) (ty := .int) C dX8_advance_226 lay_X8 tyX8_ok nmX8 0 rfl rfl 10 (by decide) fl_X8_95 rfl rfl (by decide +kernel) rfl rfl (Nat.le_of_ble_eq_true rfl) rfl ?_
  refine X.nameS (ws := fun M_9 => (W_M G q M_9)) h (fun M_9 h => ?_)
  refine X.aload_n C dX8_advance_229 rfl 0 rfl ?_
  refine X.dup C dX8_advance_230 rfl ?_
  refine X.get C dX8_advance_231 lay_X8 0 rfl rfl 8 (by decide) fl_X8_85 rfl rfl ?_
  refine X.iconst C dX8_advance_234 ?_
  refine X.iadd C dX8_advance_235 ?_
  refine X.put (ws2 := (W_M G q (up2 M_9 8 0 ((M_9 8 0) + 1)))) (ty := .int) C dX8_advance_236 lay_X8 tyX8_ok nmX8 0 rfl rfl 8 (by decide) fl_X8_85 rfl rfl (by decide +kernel) rfl rfl (Nat.le_of_ble_eq_true rfl) rfl ?_
  refine X.nameS (ws := fun M_10 => (W_M G q M_10)) h (fun M_10 h => ?_)
  cases h
  exact X.vret C dX8_advance_239 (Nat.zero_le _) (Nat.zero_le _)
set_option maxHeartbeats 4000000 in
set_option maxRecDepth 100000 in
theorem xX8_advance_144 {κ : Kx} {G : GT} (C : Cx κ G yX8_advance cX8_advance none 2 rX8_advance) (q : Nat → Nat) (kx0 : Ob → Option (Ob)) (v : (Ob)) (hk0 : ∀ (M : Ob), kx0 M = some v → X κ G 2 (W_M G q M) 206 [(0, .ref (q 31))] [] 0 0 (QM κ G (W_M G q v) none rX8_advance.cells rX8_advance.slots)) : ∀ (n : Nat) (M : Ob), lX8_advance_144 kx0 n M = some v → X κ G 2 (W_M G q M) 144 [(0, .ref (q 31))] [] 0 0 (QM κ G (W_M G q v) none rX8_advance.cells rX8_advance.slots) := by
  intro n
  induction n with
  | zero => intro _ h; exact absurd h (fun h => nomatch h)
  | succ n ih =>
    intro M h
    rw [lX8_advance_144] at h
    refine X.aload_n C dX8_advance_144 rfl 0 rfl ?_
    refine X.aload_n C dX8_advance_145 rfl 0 rfl ?_
    refine X.get C dX8_advance_146 lay_X8 0 rfl rfl 8 (by decide) fl_X8_85 rfl rfl ?_
    refine X.callVi (q0 := 0) (As := [vi (M 8 0)]) (rest := []) (g := fun rr_12 => rr_12) (W1 := fun rr_12 => (W_M G q M)) (ws2 := fun rr_12 => (W_M G q M)) C h dX8_advance_149 ml_X8_88 mX8_see (fun v hv => kX8_see q M (M 8 0) v hv) (fun rr_12 => ln_M_M_m_n (G := G) (q := q) (M := M)) rfl rfl rfl rfl rfl rfl rfl rfl (fun rr_12 h => ?_)
    refine X.i2l C dX8_advance_152 ?_
    refine X.ldc2 (z := 48) C cl_X8_102 (by decide) dX8_advance_153 ?_
    refine X.ldc2 (z := 57) C cl_X8_104 (by decide) dX8_advance_156 ?_
    refine X.callSi (As := [vl (jwl rr_12), vl 48, vl 57]) (rest := []) (g := fun rr_13 => rr_13) (W1 := fun rr_13 => W_0) (ws2 := fun rr_13 => (W_M G q M)) C h dX8_advance_159 ml_X8_68 mX8_in (fun v hv => kX8_in (jwl rr_12) 48 57 v hv) (fun rr_13 => ln_M_0__n (G := G) (q := q) (M := M)) rfl rfl rfl rfl rfl rfl (fun rr_13 h => ?_)
    refine X.if_eq (tgt := 206) C h dX8_advance_162 (by decide) (fun h => ?_) (fun h => ?_)
    · refine X.sub [0] rfl ?_
      exact hk0 M h
    refine X.aload_n C dX8_advance_165 rfl 0 rfl ?_
    refine X.ldc (z := 99999) C ct_X8_109 (by decide) dX8_advance_166 ?_
    refine X.bipush C dX8_advance_168 (by decide) ?_
    refine X.aload_n C dX8_advance_170 rfl 0 rfl ?_
    refine X.get C dX8_advance_171 lay_X8 0 rfl rfl 11 (by decide) fl_X8_106 rfl rfl ?_
    refine X.imul C dX8_advance_174 ?_
    refine X.aload_n C dX8_advance_175 rfl 0 rfl ?_
    refine X.aload_n C dX8_advance_176 rfl 0 rfl ?_
    refine X.get C dX8_advance_177 lay_X8 0 rfl rfl 8 (by decide) fl_X8_85 rfl rfl ?_
    refine X.callVi (q0 := 0) (As := [vi (M 8 0)]) (rest := [vi (10 * (M 11 0)), vi 99999, .ref (q 31)]) (g := fun rr_14 => rr_14) (W1 := fun rr_14 => (W_M G q M)) (ws2 := fun rr_14 => (W_M G q M)) C h dX8_advance_180 ml_X8_88 mX8_see (fun v hv => kX8_see q M (M 8 0) v hv) (fun rr_14 => ln_M_M_m_n (G := G) (q := q) (M := M)) rfl rfl rfl rfl rfl rfl rfl rfl (fun rr_14 h => ?_)
    refine X.iadd C dX8_advance_183 ?_
    refine X.bipush C dX8_advance_184 (by decide) ?_
    refine X.isub C dX8_advance_186 ?_
    refine X.mmin C dX8_advance_187 ml_X8_110 sm_J9_min_7cf53 in_java_lang_Math cd_J9_min_7cf53 (Nat.le_of_ble_eq_true rfl) (Nat.le_of_ble_eq_true rfl) (Nat.zero_le _) (Nat.zero_le _) ?_
    refine X.put (ws2 := (W_M G q (up2 M 11 0 (jmi 99999 (((10 * (M 11 0)) + rr_14) - 48))))) (ty := .int) C dX8_advance_190 lay_X8 tyX8_ok nmX8 0 rfl rfl 11 (by decide) fl_X8_106 rfl rfl (by decide +kernel) rfl rfl (Nat.le_of_ble_eq_true rfl) rfl ?_
    refine X.nameS (ws := fun M_15 => (W_M G q M_15)) h (fun M_15 h => ?_)
    refine X.aload_n C dX8_advance_193 rfl 0 rfl ?_
    refine X.dup C dX8_advance_194 rfl ?_
    refine X.get C dX8_advance_195 lay_X8 0 rfl rfl 8 (by decide) fl_X8_85 rfl rfl ?_
    refine X.iconst C dX8_advance_198 ?_
    refine X.iadd C dX8_advance_199 ?_
    refine X.put (ws2 := (W_M G q (up2 M_15 8 0 ((M_15 8 0) + 1)))) (ty := .int) C dX8_advance_200 lay_X8 tyX8_ok nmX8 0 rfl rfl 8 (by decide) fl_X8_85 rfl rfl (by decide +kernel) rfl rfl (Nat.le_of_ble_eq_true rfl) rfl ?_
    refine X.nameS (ws := fun M_16 => (W_M G q M_16)) h (fun M_16 h => ?_)
    refine X.goto (tgt := 144) C dX8_advance_203 (by decide) ?_
    refine X.sub [0] rfl ?_
    exact ih M_16 h
set_option maxHeartbeats 4000000 in
set_option maxRecDepth 100000 in
theorem xX8_advance_83 {κ : Kx} {G : GT} (C : Cx κ G yX8_advance cX8_advance none 2 rX8_advance) (q : Nat → Nat) (kx0 : Ob → Option (Ob)) (v : (Ob)) (hk0 : ∀ (M : Ob), kx0 M = some v → X κ G 2 (W_M G q M) 117 [(0, .ref (q 31))] [] 0 0 (QM κ G (W_M G q v) none rX8_advance.cells rX8_advance.slots)) : ∀ (n : Nat) (M : Ob), lX8_advance_83 kx0 n M = some v → X κ G 2 (W_M G q M) 83 [(0, .ref (q 31))] [] 0 0 (QM κ G (W_M G q v) none rX8_advance.cells rX8_advance.slots) := by
  intro n
  induction n with
  | zero => intro _ h; exact absurd h (fun h => nomatch h)
  | succ n ih =>
    intro M h
    rw [lX8_advance_83] at h
    refine X.aload_n C dX8_advance_83 rfl 0 rfl ?_
    refine X.aload_n C dX8_advance_84 rfl 0 rfl ?_
    refine X.get C dX8_advance_85 lay_X8 0 rfl rfl 8 (by decide) fl_X8_85 rfl rfl ?_
    refine X.callVi (q0 := 0) (As := [vi (M 8 0)]) (rest := []) (g := fun rr_19 => rr_19) (W1 := fun rr_19 => (W_M G q M)) (ws2 := fun rr_19 => (W_M G q M)) C h dX8_advance_88 ml_X8_88 mX8_see (fun v hv => kX8_see q M (M 8 0) v hv) (fun rr_19 => ln_M_M_m_n (G := G) (q := q) (M := M)) rfl rfl rfl rfl rfl rfl rfl rfl (fun rr_19 h => ?_)
    refine X.i2l C dX8_advance_91 ?_
    refine X.ldc2 (z := 97) C cl_X8_98 (by decide) dX8_advance_92 ?_
    refine X.ldc2 (z := 122) C cl_X8_100 (by decide) dX8_advance_95 ?_
    refine X.callSi (As := [vl (jwl rr_19), vl 97, vl 122]) (rest := []) (g := fun rr_20 => rr_20) (W1 := fun rr_20 => W_0) (ws2 := fun rr_20 => (W_M G q M)) C h dX8_advance_98 ml_X8_68 mX8_in (fun v hv => kX8_in (jwl rr_19) 97 122 v hv) (fun rr_20 => ln_M_0__n (G := G) (q := q) (M := M)) rfl rfl rfl rfl rfl rfl (fun rr_20 h => ?_)
    refine X.if_eq (tgt := 117) C h dX8_advance_101 (by decide) (fun h => ?_) (fun h => ?_)
    · refine X.sub [0] rfl ?_
      exact hk0 M h
    refine X.aload_n C dX8_advance_104 rfl 0 rfl ?_
    refine X.dup C dX8_advance_105 rfl ?_
    refine X.get C dX8_advance_106 lay_X8 0 rfl rfl 8 (by decide) fl_X8_85 rfl rfl ?_
    refine X.iconst C dX8_advance_109 ?_
    refine X.iadd C dX8_advance_110 ?_
    refine X.put (ws2 := (W_M G q (up2 M 8 0 ((M 8 0) + 1)))) (ty := .int) C dX8_advance_111 lay_X8 tyX8_ok nmX8 0 rfl rfl 8 (by decide) fl_X8_85 rfl rfl (by decide +kernel) rfl rfl (Nat.le_of_ble_eq_true rfl) rfl ?_
    refine X.nameS (ws := fun M_21 => (W_M G q M_21)) h (fun M_21 h => ?_)
    refine X.goto (tgt := 83) C dX8_advance_114 (by decide) ?_
    refine X.sub [0] rfl ?_
    exact ih M_21 h
set_option maxHeartbeats 4000000 in
set_option maxRecDepth 100000 in
theorem kX8_advance {l : Launch} {G : GT} (q : Nat → Nat) (M : Ob) (v : (Ob)) (h : fX8_advance M = some v) : CT l G yX8_advance cX8_advance 2 none rX8_advance [.ref (q 31)] (W_M G q M) (W_M G q v) none := by
  unfold fX8_advance at h
  refine CT.of (by decide) (Nat.le_of_ble_eq_true rfl) rfl (fun κ _ C => ?_)
  refine X.sub [0] rfl ?_
  refine xX8_advance_0 C q _ v (fun M_4 h => ?_) FU M h
  · refine X.aload_n C dX8_advance_39 rfl 0 rfl ?_
    refine X.aload_n C dX8_advance_40 rfl 0 rfl ?_
    refine X.get C dX8_advance_41 lay_X8 0 rfl rfl 8 (by decide) fl_X8_85 rfl rfl ?_
    refine X.put (ws2 := (W_M G q (up2 M_4 9 0 (M_4 8 0)))) (ty := .int) C dX8_advance_44 lay_X8 tyX8_ok nmX8 0 rfl rfl 9 (by decide) fl_X8_92 rfl rfl (by decide +kernel) rfl rfl (Nat.le_of_ble_eq_true rfl) rfl ?_
    refine X.nameS (ws := fun M_5 => (W_M G q M_5)) h (fun M_5 h => ?_)
    refine X.aload_n C dX8_advance_47 rfl 0 rfl ?_
    refine X.aload_n C dX8_advance_48 rfl 0 rfl ?_
    refine X.get C dX8_advance_49 lay_X8 0 rfl rfl 8 (by decide) fl_X8_85 rfl rfl ?_
    refine X.callVi (q0 := 0) (As := [vi (M_5 8 0)]) (rest := []) (g := fun rr_6 => rr_6) (W1 := fun rr_6 => (W_M G q M_5)) (ws2 := fun rr_6 => (W_M G q M_5)) C h dX8_advance_52 ml_X8_88 mX8_see (fun v hv => kX8_see q M_5 (M_5 8 0) v hv) (fun rr_6 => ln_M_M_m_n (G := G) (q := q) (M := M_5)) rfl rfl rfl rfl rfl rfl rfl rfl (fun rr_6 h => ?_)
    refine X.istore_n (lv2 := [(1, vi rr_6), (0, .ref (q 31))]) C dX8_advance_55 rfl (by decide) rfl ?_
    refine X.iload_n C dX8_advance_56 rfl 0 rfl ?_
    refine X.iconst C dX8_advance_57 ?_
    refine X.icmp_ne (tgt := 69) C h dX8_advance_58 (by decide) (fun h => ?_) (fun h => ?_)
    · refine X.iload_n C dX8_advance_69 rfl 0 rfl ?_
      refine X.i2l C dX8_advance_70 ?_
      refine X.ldc2 (z := 97) C cl_X8_98 (by decide) dX8_advance_71 ?_
      refine X.ldc2 (z := 122) C cl_X8_100 (by decide) dX8_advance_74 ?_
      refine X.callSi (As := [vl (jwl rr_6), vl 97, vl 122]) (rest := []) (g := fun rr_7 => rr_7) (W1 := fun rr_7 => W_0) (ws2 := fun rr_7 => (W_M G q M_5)) C h dX8_advance_77 ml_X8_68 mX8_in (fun v hv => kX8_in (jwl rr_6) 97 122 v hv) (fun rr_7 => ln_M_0__n (G := G) (q := q) (M := M_5)) rfl rfl rfl rfl rfl rfl (fun rr_7 h => ?_)
      refine X.if_eq (tgt := 125) C h dX8_advance_80 (by decide) (fun h => ?_) (fun h => ?_)
      · refine X.iload_n C dX8_advance_125 rfl 0 rfl ?_
        refine X.i2l C dX8_advance_126 ?_
        refine X.ldc2 (z := 48) C cl_X8_102 (by decide) dX8_advance_127 ?_
        refine X.ldc2 (z := 57) C cl_X8_104 (by decide) dX8_advance_130 ?_
        refine X.callSi (As := [vl (jwl rr_6), vl 48, vl 57]) (rest := []) (g := fun rr_8 => rr_8) (W1 := fun rr_8 => W_0) (ws2 := fun rr_8 => (W_M G q M_5)) C h dX8_advance_133 ml_X8_68 mX8_in (fun v hv => kX8_in (jwl rr_6) 48 57 v hv) (fun rr_8 => ln_M_0__n (G := G) (q := q) (M := M_5)) rfl rfl rfl rfl rfl rfl (fun rr_8 h => ?_)
        refine X.if_eq (tgt := 214) C h dX8_advance_136 (by decide) (fun h => ?_) (fun h => ?_)
        · refine X.aload_n C dX8_advance_214 rfl 1 rfl ?_
          refine X.iload_n C dX8_advance_215 rfl 0 rfl ?_
          refine X.bipush C dX8_advance_216 (by decide) ?_
          refine X.icmp_ne (tgt := 225) C h dX8_advance_218 (by decide) (fun h => ?_) (fun h => ?_)
          · refine X.iconst C dX8_advance_225 ?_
            refine X.sub [1] rfl ?_
            exact xX8_advance_226 C q M_5 4 v h
          refine X.iconst C dX8_advance_221 ?_
          refine X.goto (tgt := 226) C dX8_advance_222 (by decide) ?_
          refine X.sub [1] rfl ?_
          exact xX8_advance_226 C q M_5 3 v h
        refine X.aload_n C dX8_advance_139 rfl 1 rfl ?_
        refine X.iconst C dX8_advance_140 ?_
        refine X.put (ws2 := (W_M G q (up2 M_5 11 0 0))) (ty := .int) C dX8_advance_141 lay_X8 tyX8_ok nmX8 0 rfl rfl 11 (by decide) fl_X8_106 rfl rfl (by decide +kernel) rfl rfl (Nat.le_of_ble_eq_true rfl) rfl ?_
        refine X.nameS (ws := fun M_11 => (W_M G q M_11)) h (fun M_11 h => ?_)
        refine X.sub [1] rfl ?_
        refine xX8_advance_144 C q _ v (fun M_17 h => ?_) FU M_11 h
        · refine X.aload_n C dX8_advance_206 rfl 0 rfl ?_
          refine X.iconst C dX8_advance_207 ?_
          refine X.put (ws2 := (W_M G q (up2 M_17 10 0 2))) (ty := .int) C dX8_advance_208 lay_X8 tyX8_ok nmX8 0 rfl rfl 10 (by decide) fl_X8_95 rfl rfl (by decide +kernel) rfl rfl (Nat.le_of_ble_eq_true rfl) rfl ?_
          refine X.nameS (ws := fun M_18 => (W_M G q M_18)) h (fun M_18 h => ?_)
          refine X.goto (tgt := 239) C dX8_advance_211 (by decide) ?_
          cases h
          exact X.vret C dX8_advance_239 (Nat.zero_le _) (Nat.zero_le _)
      refine X.sub [1] rfl ?_
      refine xX8_advance_83 C q _ v (fun M_22 h => ?_) FU M_5 h
      · refine X.aload_n C dX8_advance_117 rfl 0 rfl ?_
        refine X.iconst C dX8_advance_118 ?_
        refine X.put (ws2 := (W_M G q (up2 M_22 10 0 1))) (ty := .int) C dX8_advance_119 lay_X8 tyX8_ok nmX8 0 rfl rfl 10 (by decide) fl_X8_95 rfl rfl (by decide +kernel) rfl rfl (Nat.le_of_ble_eq_true rfl) rfl ?_
        refine X.nameS (ws := fun M_23 => (W_M G q M_23)) h (fun M_23 h => ?_)
        refine X.goto (tgt := 239) C dX8_advance_122 (by decide) ?_
        cases h
        exact X.vret C dX8_advance_239 (Nat.zero_le _) (Nat.zero_le _)
    refine X.aload_n C dX8_advance_61 rfl 1 rfl ?_
    refine X.iconst C dX8_advance_62 ?_
    refine X.put (ws2 := (W_M G q (up2 M_5 10 0 0))) (ty := .int) C dX8_advance_63 lay_X8 tyX8_ok nmX8 0 rfl rfl 10 (by decide) fl_X8_95 rfl rfl (by decide +kernel) rfl rfl (Nat.le_of_ble_eq_true rfl) rfl ?_
    refine X.nameS (ws := fun M_24 => (W_M G q M_24)) h (fun M_24 h => ?_)
    refine X.goto (tgt := 239) C dX8_advance_66 (by decide) ?_
    cases h
    exact X.vret C dX8_advance_239 (Nat.zero_le _) (Nat.zero_le _)
def rX8_good : Room := { frames := 0, cells := 0, slots := 0, locals := 0 }
theorem mX8_good : MV yX8_good cX8_good 1 (some .boolean) 0 := ⟨cd_X8_good, in_X8, ⟨⟨by decide, by decide⟩, by decide +kernel⟩, im_X8_good, se_X8_good⟩
set_option maxHeartbeats 4000000 in
set_option maxRecDepth 100000 in
theorem kX8_good {l : Launch} {G : GT} (q : Nat → Nat) (M : Ob) (v : (Int)) (h : fX8_good M = some v) : CT l G yX8_good cX8_good 1 (some .boolean) rX8_good [.ref (q 31)] (W_M G q M) (W_M G q M) (some (vi v)) := by
  unfold fX8_good at h
  refine CT.of (by decide) (Nat.le_of_ble_eq_true rfl) rfl (fun κ _ C => ?_)
  refine X.aload_n C dX8_good_0 rfl 0 rfl ?_
  refine X.get C dX8_good_1 lay_X8 0 rfl rfl 12 (by decide) fl_X8_115 rfl rfl ?_
  refine X.if_ne (tgt := 11) C h dX8_good_4 (by decide) (fun h => ?_) (fun h => ?_)
  · refine X.iconst C dX8_good_11 ?_
    cases h
    exact X.zret C rfl dX8_good_12 (Nat.zero_le _) (Nat.zero_le _)
  refine X.iconst C dX8_good_7 ?_
  refine X.goto (tgt := 12) C dX8_good_8 (by decide) ?_
  cases h
  exact X.zret C rfl dX8_good_12 (Nat.zero_le _) (Nat.zero_le _)
def rX8_errs : Room := { frames := 1, cells := 0, slots := 0, locals := 20 }
theorem mX8_errs : MV yX8_errs cX8_errs 2 none 1 := ⟨cd_X8_errs, in_X8, ⟨⟨by decide, by decide⟩, by decide +kernel⟩, im_X8_errs, se_X8_errs⟩
set_option maxHeartbeats 4000000 in
set_option maxRecDepth 100000 in
theorem kX8_errs {l : Launch} {G : GT} (q : Nat → Nat) (M : Ob) (lx1 : Int) (v : (Ob)) (h : fX8_errs M lx1 = some v) : CT l G yX8_errs cX8_errs 2 none rX8_errs [.ref (q 31), vi lx1] (W_M G q M) (W_M G q v) none := by
  unfold fX8_errs at h
  refine CT.of (by decide) (Nat.le_of_ble_eq_true rfl) rfl (fun κ _ C => ?_)
  refine X.aload_n C dX8_errs_0 rfl 0 rfl ?_
  refine X.callVi (q0 := 0) (As := []) (rest := []) (g := fun rr_1 => rr_1) (W1 := fun rr_1 => (W_M G q M)) (ws2 := fun rr_1 => (W_M G q M)) C h dX8_errs_1 ml_X8_118 mX8_good (fun v hv => kX8_good q M v hv) (fun rr_1 => ln_M_M_m_n (G := G) (q := q) (M := M)) rfl rfl rfl rfl rfl rfl rfl rfl (fun rr_1 h => ?_)
  refine X.if_ne (tgt := 8) C h dX8_errs_4 (by decide) (fun h => ?_) (fun h => ?_)
  · refine X.aload_n C dX8_errs_8 rfl 0 rfl ?_
    refine X.iload_n C dX8_errs_9 rfl 1 rfl ?_
    refine X.put (ws2 := (W_M G q (up2 M 12 0 lx1))) (ty := .int) C dX8_errs_10 lay_X8 tyX8_ok nmX8 0 rfl rfl 12 (by decide) fl_X8_115 rfl rfl (by decide +kernel) rfl rfl (Nat.le_of_ble_eq_true rfl) rfl ?_
    refine X.nameS (ws := fun M_2 => (W_M G q M_2)) h (fun M_2 h => ?_)
    refine X.aload_n C dX8_errs_13 rfl 0 rfl ?_
    refine X.aload_n C dX8_errs_14 rfl 0 rfl ?_
    refine X.get C dX8_errs_15 lay_X8 0 rfl rfl 9 (by decide) fl_X8_92 rfl rfl ?_
    refine X.put (ws2 := (W_M G q (up2 M_2 13 0 (M_2 9 0)))) (ty := .int) C dX8_errs_18 lay_X8 tyX8_ok nmX8 0 rfl rfl 13 (by decide) fl_X8_31 rfl rfl (by decide +kernel) rfl rfl (Nat.le_of_ble_eq_true rfl) rfl ?_
    refine X.nameS (ws := fun M_3 => (W_M G q M_3)) h (fun M_3 h => ?_)
    cases h
    exact X.vret C dX8_errs_21 (Nat.zero_le _) (Nat.zero_le _)
  cases h
  exact X.vret C dX8_errs_7 (Nat.zero_le _) (Nat.zero_le _)
def rX8_is : Room := { frames := 5, cells := 0, slots := 0, locals := 160 }
theorem mX8_is : MV yX8_is cX8_is 4 (some .boolean) 1 := ⟨cd_X8_is, in_X8, ⟨⟨by decide, by decide⟩, by decide +kernel⟩, im_X8_is, se_X8_is⟩
set_option maxHeartbeats 4000000 in
set_option maxRecDepth 100000 in
theorem xX8_is_39 {κ : Kx} {G : GT} (C : Cx κ G yX8_is cX8_is (some .boolean) 4 rX8_is) (q : Nat → Nat) (M : Ob) (lw1 : Nat) (v : (Int)) : ∀ (n : Nat) (lx2 : Int) (lx3 : Int), lX8_is_39 M lw1 n lx2 lx3 = some v → X κ G 4 (W_M G q M) 39 [(0, .ref (q 31)), (1, .ref (G.2.2.2.1 lw1)), (2, vi lx2), (3, vi lx3)] [] 0 0 (QM κ G (W_M G q M) (some (vi v)) rX8_is.cells rX8_is.slots) := by
  intro n
  induction n with
  | zero => intro _ _ h; exact absurd h (fun h => nomatch h)
  | succ n ih =>
    intro lx2 lx3 h
    rw [lX8_is_39] at h
    refine X.iload_n C dX8_is_39 rfl 3 rfl ?_
    refine X.aload_n C dX8_is_40 rfl 1 rfl ?_
    refine X.slen C h dX8_is_41 ml_X8_122 rfl rfl (fun h => ?_)
    refine X.icmp_ge (tgt := 82) C h dX8_is_44 (by decide) (fun h => ?_) (fun h => ?_)
    · refine X.iload_n C dX8_is_82 rfl 2 rfl ?_
      obtain ⟨hz, h⟩ := gd_out h
      cases h
      exact X.zret C hz dX8_is_83 (Nat.zero_le _) (Nat.zero_le _)
    refine X.iload_n C dX8_is_47 rfl 2 rfl ?_
    refine X.if_eq (tgt := 82) C h dX8_is_48 (by decide) (fun h => ?_) (fun h => ?_)
    · refine X.iload_n C dX8_is_82 rfl 2 rfl ?_
      obtain ⟨hz, h⟩ := gd_out h
      cases h
      exact X.zret C hz dX8_is_83 (Nat.zero_le _) (Nat.zero_le _)
    refine X.aload_n C dX8_is_51 rfl 0 rfl ?_
    refine X.get C dX8_is_52 lay_X8 0 rfl rfl 4 (by decide) fl_X8_24 rfl rfl ?_
    refine X.aload_n C dX8_is_55 rfl 0 rfl ?_
    refine X.get C dX8_is_56 lay_X8 0 rfl rfl 9 (by decide) fl_X8_92 rfl rfl ?_
    refine X.iload_n C dX8_is_59 rfl 3 rfl ?_
    refine X.iadd C dX8_is_60 ?_
    refine X.bald C h dX8_is_61 4 rfl (fun h => ?_)
    refine X.aload_n C dX8_is_62 rfl 1 rfl ?_
    refine X.iload_n C dX8_is_63 rfl 3 rfl ?_
    refine X.schar C h dX8_is_64 ml_X8_128 rfl rfl (fun h => ?_)
    refine X.icmp_ne (tgt := 74) C h dX8_is_67 (by decide) (fun h => ?_) (fun h => ?_)
    · refine X.iconst C dX8_is_74 ?_
      refine X.istore_n (lv2 := [(2, vi 0), (0, .ref (q 31)), (1, .ref (G.2.2.2.1 lw1)), (3, vi lx3)]) C dX8_is_75 rfl (by decide) rfl ?_
      refine X.iincN (lv2 := fun lx3_2 => [(3, vi lx3_2), (2, vi 0), (0, .ref (q 31)), (1, .ref (G.2.2.2.1 lw1))]) C h dX8_is_76 3 rfl (by decide) (fun _ => rfl) (fun lx3_2 h => ?_)
      refine X.goto (tgt := 39) C dX8_is_79 (by decide) ?_
      refine X.sub [2, 3, 1, 0] rfl ?_
      exact ih 0 lx3_2 h
    refine X.iconst C dX8_is_70 ?_
    refine X.goto (tgt := 75) C dX8_is_71 (by decide) ?_
    refine X.istore_n (lv2 := [(2, vi 1), (0, .ref (q 31)), (1, .ref (G.2.2.2.1 lw1)), (3, vi lx3)]) C dX8_is_75 rfl (by decide) rfl ?_
    refine X.iincN (lv2 := fun lx3_3 => [(3, vi lx3_3), (2, vi 1), (0, .ref (q 31)), (1, .ref (G.2.2.2.1 lw1))]) C h dX8_is_76 3 rfl (by decide) (fun _ => rfl) (fun lx3_3 h => ?_)
    refine X.goto (tgt := 39) C dX8_is_79 (by decide) ?_
    refine X.sub [2, 3, 1, 0] rfl ?_
    exact ih 1 lx3_3 h
set_option maxHeartbeats 4000000 in
set_option maxRecDepth 100000 in
theorem kX8_is {l : Launch} {G : GT} (q : Nat → Nat) (M : Ob) (lw1 : Nat) (v : (Int)) (h : fX8_is M lw1 = some v) : CT l G yX8_is cX8_is 4 (some .boolean) rX8_is [.ref (q 31), .ref (G.2.2.2.1 lw1)] (W_M G q M) (W_M G q M) (some (vi v)) := by
  unfold fX8_is at h
  refine CT.of (by decide) (Nat.le_of_ble_eq_true rfl) rfl (fun κ _ C => ?_)
  refine X.aload_n C dX8_is_0 rfl 0 rfl ?_
  refine X.callVi (q0 := 0) (As := []) (rest := []) (g := fun rr_1 => rr_1) (W1 := fun rr_1 => (W_M G q M)) (ws2 := fun rr_1 => (W_M G q M)) C h dX8_is_1 ml_X8_118 mX8_good (fun v hv => kX8_good q M v hv) (fun rr_1 => ln_M_M_m_n (G := G) (q := q) (M := M)) rfl rfl rfl rfl rfl rfl rfl rfl (fun rr_1 h => ?_)
  refine X.if_eq (tgt := 35) C h dX8_is_4 (by decide) (fun h => ?_) (fun h => ?_)
  · refine X.iconst C dX8_is_35 ?_
    refine X.istore_n (lv2 := [(2, vi 0), (0, .ref (q 31)), (1, .ref (G.2.2.2.1 lw1))]) C dX8_is_36 rfl (by decide) rfl ?_
    refine X.iconst C dX8_is_37 ?_
    refine X.istore_n (lv2 := [(3, vi 0), (2, vi 0), (0, .ref (q 31)), (1, .ref (G.2.2.2.1 lw1))]) C dX8_is_38 rfl (by decide) rfl ?_
    refine X.sub [2, 3, 1, 0] rfl ?_
    refine xX8_is_39 C q M lw1 v FU 0 0 h
  refine X.aload_n C dX8_is_7 rfl 0 rfl ?_
  refine X.get C dX8_is_8 lay_X8 0 rfl rfl 10 (by decide) fl_X8_95 rfl rfl ?_
  refine X.iconst C dX8_is_11 ?_
  refine X.icmp_ne (tgt := 35) C h dX8_is_12 (by decide) (fun h => ?_) (fun h => ?_)
  · refine X.iconst C dX8_is_35 ?_
    refine X.istore_n (lv2 := [(2, vi 0), (0, .ref (q 31)), (1, .ref (G.2.2.2.1 lw1))]) C dX8_is_36 rfl (by decide) rfl ?_
    refine X.iconst C dX8_is_37 ?_
    refine X.istore_n (lv2 := [(3, vi 0), (2, vi 0), (0, .ref (q 31)), (1, .ref (G.2.2.2.1 lw1))]) C dX8_is_38 rfl (by decide) rfl ?_
    refine X.sub [2, 3, 1, 0] rfl ?_
    refine xX8_is_39 C q M lw1 v FU 0 0 h
  refine X.aload_n C dX8_is_15 rfl 0 rfl ?_
  refine X.get C dX8_is_16 lay_X8 0 rfl rfl 8 (by decide) fl_X8_85 rfl rfl ?_
  refine X.aload_n C dX8_is_19 rfl 0 rfl ?_
  refine X.get C dX8_is_20 lay_X8 0 rfl rfl 9 (by decide) fl_X8_92 rfl rfl ?_
  refine X.isub C dX8_is_23 ?_
  refine X.aload_n C dX8_is_24 rfl 1 rfl ?_
  refine X.slen C h dX8_is_25 ml_X8_122 rfl rfl (fun h => ?_)
  refine X.icmp_ne (tgt := 35) C h dX8_is_28 (by decide) (fun h => ?_) (fun h => ?_)
  · refine X.iconst C dX8_is_35 ?_
    refine X.istore_n (lv2 := [(2, vi 0), (0, .ref (q 31)), (1, .ref (G.2.2.2.1 lw1))]) C dX8_is_36 rfl (by decide) rfl ?_
    refine X.iconst C dX8_is_37 ?_
    refine X.istore_n (lv2 := [(3, vi 0), (2, vi 0), (0, .ref (q 31)), (1, .ref (G.2.2.2.1 lw1))]) C dX8_is_38 rfl (by decide) rfl ?_
    refine X.sub [2, 3, 1, 0] rfl ?_
    refine xX8_is_39 C q M lw1 v FU 0 0 h
  refine X.iconst C dX8_is_31 ?_
  refine X.goto (tgt := 36) C dX8_is_32 (by decide) ?_
  refine X.istore_n (lv2 := [(2, vi 1), (0, .ref (q 31)), (1, .ref (G.2.2.2.1 lw1))]) C dX8_is_36 rfl (by decide) rfl ?_
  refine X.iconst C dX8_is_37 ?_
  refine X.istore_n (lv2 := [(3, vi 0), (2, vi 1), (0, .ref (q 31)), (1, .ref (G.2.2.2.1 lw1))]) C dX8_is_38 rfl (by decide) rfl ?_
  refine X.sub [2, 3, 1, 0] rfl ?_
  refine xX8_is_39 C q M lw1 v FU 1 0 h
def rX8_takes : Room := { frames := 6, cells := 0, slots := 0, locals := 183 }
theorem mX8_takes : MV yX8_takes cX8_takes 3 (some .boolean) 1 := ⟨cd_X8_takes, in_X8, ⟨⟨by decide, by decide⟩, by decide +kernel⟩, im_X8_takes, se_X8_takes⟩
set_option maxHeartbeats 4000000 in
set_option maxRecDepth 100000 in
theorem kX8_takes {l : Launch} {G : GT} (q : Nat → Nat) (M : Ob) (lw1 : Nat) (v : (Int × Ob)) (h : fX8_takes M lw1 = some v) : CT l G yX8_takes cX8_takes 3 (some .boolean) rX8_takes [.ref (q 31), .ref (G.2.2.2.1 lw1)] (W_M G q M) (W_M G q v.2) (some (vi v.1)) := by
  unfold fX8_takes at h
  refine CT.of (by decide) (Nat.le_of_ble_eq_true rfl) rfl (fun κ _ C => ?_)
  refine X.aload_n C dX8_takes_0 rfl 0 rfl ?_
  refine X.aload_n C dX8_takes_1 rfl 1 rfl ?_
  refine X.callVi (q0 := 0) (As := [.ref (G.2.2.2.1 lw1)]) (rest := []) (g := fun rr_1 => rr_1) (W1 := fun rr_1 => (W_M G q M)) (ws2 := fun rr_1 => (W_M G q M)) C h dX8_takes_2 ml_X8_132 mX8_is (fun v hv => kX8_is q M lw1 v hv) (fun rr_1 => ln_M_M_m_n (G := G) (q := q) (M := M)) rfl rfl rfl rfl rfl rfl rfl rfl (fun rr_1 h => ?_)
  refine X.istore_n (lv2 := [(2, vi rr_1), (0, .ref (q 31)), (1, .ref (G.2.2.2.1 lw1))]) C dX8_takes_5 rfl (by decide) rfl ?_
  refine X.iload_n C dX8_takes_6 rfl 0 rfl ?_
  refine X.if_eq (tgt := 14) C h dX8_takes_7 (by decide) (fun h => ?_) (fun h => ?_)
  · refine X.iload_n C dX8_takes_14 rfl 0 rfl ?_
    obtain ⟨hz, h⟩ := gd_out h
    cases h
    exact X.zret C hz dX8_takes_15 (Nat.zero_le _) (Nat.zero_le _)
  refine X.aload_n C dX8_takes_10 rfl 1 rfl ?_
  refine X.callVv (q0 := 0) (As := []) (rest := []) (W1 := fun rr_2 => (W_M G q rr_2)) (ws2 := fun rr_2 => (W_M G q rr_2)) C h dX8_takes_11 ml_X8_136 mX8_advance (fun v hv => kX8_advance q M v hv) (fun rr_2 => ln_M_M_m_M (G := G) (q := q) (M := M) (NM := rr_2)) rfl rfl rfl rfl rfl rfl rfl rfl (fun rr_2 h => ?_)
  refine X.iload_n C dX8_takes_14 rfl 0 rfl ?_
  obtain ⟨hz, h⟩ := gd_out h
  cases h
  exact X.zret C hz dX8_takes_15 (Nat.zero_le _) (Nat.zero_le _)
def rX8_needs : Room := { frames := 7, cells := 0, slots := 0, locals := 205 }
theorem mX8_needs : MV yX8_needs cX8_needs 2 none 1 := ⟨cd_X8_needs, in_X8, ⟨⟨by decide, by decide⟩, by decide +kernel⟩, im_X8_needs, se_X8_needs⟩
set_option maxHeartbeats 4000000 in
set_option maxRecDepth 100000 in
theorem kX8_needs {l : Launch} {G : GT} (q : Nat → Nat) (M : Ob) (lw1 : Nat) (v : (Ob)) (h : fX8_needs M lw1 = some v) : CT l G yX8_needs cX8_needs 2 none rX8_needs [.ref (q 31), .ref (G.2.2.2.1 lw1)] (W_M G q M) (W_M G q v) none := by
  unfold fX8_needs at h
  refine CT.of (by decide) (Nat.le_of_ble_eq_true rfl) rfl (fun κ _ C => ?_)
  refine X.aload_n C dX8_needs_0 rfl 0 rfl ?_
  refine X.aload_n C dX8_needs_1 rfl 1 rfl ?_
  refine X.callVi (q0 := 0) (As := [.ref (G.2.2.2.1 lw1)]) (rest := []) (g := fun rr_1 => rr_1.1) (W1 := fun rr_1 => (W_M G q rr_1.2)) (ws2 := fun rr_1 => (W_M G q rr_1.2)) C h dX8_needs_2 ml_X8_139 mX8_takes (fun v hv => kX8_takes q M lw1 v hv) (fun rr_1 => ln_M_M_m_M (G := G) (q := q) (M := M) (NM := rr_1.2)) rfl rfl rfl rfl rfl rfl rfl rfl (fun rr_1 h => ?_)
  refine X.if_ne (tgt := 13) C h dX8_needs_5 (by decide) (fun h => ?_) (fun h => ?_)
  · cases h
    exact X.vret C dX8_needs_13 (Nat.zero_le _) (Nat.zero_le _)
  refine X.aload_n C dX8_needs_8 rfl 0 rfl ?_
  refine X.iconst C dX8_needs_9 ?_
  refine X.callVv (q0 := 0) (As := [vi 1]) (rest := []) (W1 := fun rr_2 => (W_M G q rr_2)) (ws2 := fun rr_2 => (W_M G q rr_2)) C h dX8_needs_10 ml_X8_142 mX8_errs (fun v hv => kX8_errs q rr_1.2 1 v hv) (fun rr_2 => ln_M_M_m_M (G := G) (q := q) (M := rr_1.2) (NM := rr_2)) rfl rfl rfl rfl rfl rfl rfl rfl (fun rr_2 h => ?_)
  cases h
  exact X.vret C dX8_needs_13 (Nat.zero_le _) (Nat.zero_le _)
def rX8_number : Room := { frames := 2, cells := 0, slots := 0, locals := 51 }
theorem mX8_number : MV yX8_number cX8_number 4 (some .int) 2 := ⟨cd_X8_number, in_X8, ⟨⟨by decide, by decide⟩, by decide +kernel⟩, im_X8_number, se_X8_number⟩
set_option maxHeartbeats 4000000 in
set_option maxRecDepth 100000 in
theorem xX8_number_47 {κ : Kx} {G : GT} (C : Cx κ G yX8_number cX8_number (some .int) 4 rX8_number) (q : Nat → Nat) (M : Ob) (v : (Int × Ob)) (h : jX8_number_47 M = some v) : X κ G 4 (W_M G q M) 47 [(0, .ref (q 31))] [] 0 0 (QM κ G (W_M G q v.2) (some (vi v.1)) rX8_number.cells rX8_number.slots) := by
  unfold jX8_number_47 at h
  refine X.aload_n C dX8_number_47 rfl 0 rfl ?_
  refine X.callVi (q0 := 0) (As := []) (rest := []) (g := fun rr_3 => rr_3) (W1 := fun rr_3 => (W_M G q M)) (ws2 := fun rr_3 => (W_M G q M)) C h dX8_number_48 ml_X8_118 mX8_good (fun v hv => kX8_good q M v hv) (fun rr_3 => ln_M_M_m_n (G := G) (q := q) (M := M)) rfl rfl rfl rfl rfl rfl rfl rfl (fun rr_3 h => ?_)
  refine X.if_ne (tgt := 56) C h dX8_number_51 (by decide) (fun h => ?_) (fun h => ?_)
  · refine X.aload_n C dX8_number_56 rfl 0 rfl ?_
    refine X.get C dX8_number_57 lay_X8 0 rfl rfl 11 (by decide) fl_X8_106 rfl rfl ?_
    refine X.istoreN_n (lv2 := fun lx3_4 => [(3, vi lx3_4), (0, .ref (q 31))]) C h dX8_number_60 rfl (by decide) (fun _ => rfl) (fun lx3_4 h => ?_)
    refine X.aload_n C dX8_number_61 rfl 1 rfl ?_
    refine X.callVv (q0 := 0) (As := []) (rest := []) (W1 := fun rr_5 => (W_M G q rr_5)) (ws2 := fun rr_5 => (W_M G q rr_5)) C h dX8_number_62 ml_X8_136 mX8_advance (fun v hv => kX8_advance q M v hv) (fun rr_5 => ln_M_M_m_M (G := G) (q := q) (M := M) (NM := rr_5)) rfl rfl rfl rfl rfl rfl rfl rfl (fun rr_5 h => ?_)
    refine X.iload_n C dX8_number_65 rfl 0 rfl ?_
    cases h
    exact X.iret C dX8_number_66 (Nat.zero_le _) (Nat.zero_le _)
  refine X.iconst C dX8_number_54 ?_
  cases h
  exact X.iret C dX8_number_55 (Nat.zero_le _) (Nat.zero_le _)
set_option maxHeartbeats 4000000 in
set_option maxRecDepth 100000 in
theorem xX8_number_20 {κ : Kx} {G : GT} (C : Cx κ G yX8_number cX8_number (some .int) 4 rX8_number) (q : Nat → Nat) (M : Ob) (lx1 : Int) (lx2 : Int) (v : (Int × Ob)) (h : jX8_number_20 M lx1 lx2 = some v) : X κ G 4 (W_M G q M) 20 [(0, .ref (q 31)), (1, vi lx1), (2, vi lx2)] [] 0 0 (QM κ G (W_M G q v.2) (some (vi v.1)) rX8_number.cells rX8_number.slots) := by
  unfold jX8_number_20 at h
  refine X.aload_n C dX8_number_20 rfl 0 rfl ?_
  refine X.callVi (q0 := 0) (As := []) (rest := []) (g := fun rr_2 => rr_2) (W1 := fun rr_2 => (W_M G q M)) (ws2 := fun rr_2 => (W_M G q M)) C h dX8_number_21 ml_X8_118 mX8_good (fun v hv => kX8_good q M v hv) (fun rr_2 => ln_M_M_m_n (G := G) (q := q) (M := M)) rfl rfl rfl rfl rfl rfl rfl rfl (fun rr_2 h => ?_)
  refine X.if_eq (tgt := 47) C h dX8_number_24 (by decide) (fun h => ?_) (fun h => ?_)
  · refine X.sub [0] rfl ?_
    exact xX8_number_47 C q M v h
  refine X.aload_n C dX8_number_27 rfl 0 rfl ?_
  refine X.get C dX8_number_28 lay_X8 0 rfl rfl 11 (by decide) fl_X8_106 rfl rfl ?_
  refine X.i2l C dX8_number_31 ?_
  refine X.iload_n C dX8_number_32 rfl 1 rfl ?_
  refine X.i2l C dX8_number_33 ?_
  refine X.iload_n C dX8_number_34 rfl 2 rfl ?_
  refine X.i2l C dX8_number_35 ?_
  refine X.callSi (As := [vl (jwl (M 11 0)), vl (jwl lx1), vl (jwl lx2)]) (rest := []) (g := fun rr_6 => rr_6) (W1 := fun rr_6 => W_0) (ws2 := fun rr_6 => (W_M G q M)) C h dX8_number_36 ml_X8_68 mX8_in (fun v hv => kX8_in (jwl (M 11 0)) (jwl lx1) (jwl lx2) v hv) (fun rr_6 => ln_M_0__n (G := G) (q := q) (M := M)) rfl rfl rfl rfl rfl rfl (fun rr_6 h => ?_)
  refine X.if_ne (tgt := 47) C h dX8_number_39 (by decide) (fun h => ?_) (fun h => ?_)
  · refine X.sub [0] rfl ?_
    exact xX8_number_47 C q M v h
  refine X.aload_n C dX8_number_42 rfl 0 rfl ?_
  refine X.iconst C dX8_number_43 ?_
  refine X.callVv (q0 := 0) (As := [vi 2]) (rest := []) (W1 := fun rr_7 => (W_M G q rr_7)) (ws2 := fun rr_7 => (W_M G q rr_7)) C h dX8_number_44 ml_X8_142 mX8_errs (fun v hv => kX8_errs q M 2 v hv) (fun rr_7 => ln_M_M_m_M (G := G) (q := q) (M := M) (NM := rr_7)) rfl rfl rfl rfl rfl rfl rfl rfl (fun rr_7 h => ?_)
  refine X.sub [0] rfl ?_
  exact xX8_number_47 C q rr_7 v h
set_option maxHeartbeats 4000000 in
set_option maxRecDepth 100000 in
theorem kX8_number {l : Launch} {G : GT} (q : Nat → Nat) (M : Ob) (lx1 : Int) (lx2 : Int) (v : (Int × Ob)) (h : fX8_number M lx1 lx2 = some v) : CT l G yX8_number cX8_number 4 (some .int) rX8_number [.ref (q 31), vi lx1, vi lx2] (W_M G q M) (W_M G q v.2) (some (vi v.1)) := by
  unfold fX8_number at h
  refine CT.of (by decide) (Nat.le_of_ble_eq_true rfl) rfl (fun κ _ C => ?_)
  refine X.aload_n C dX8_number_0 rfl 0 rfl ?_
  refine X.callVi (q0 := 0) (As := []) (rest := []) (g := fun rr_1 => rr_1) (W1 := fun rr_1 => (W_M G q M)) (ws2 := fun rr_1 => (W_M G q M)) C h dX8_number_1 ml_X8_118 mX8_good (fun v hv => kX8_good q M v hv) (fun rr_1 => ln_M_M_m_n (G := G) (q := q) (M := M)) rfl rfl rfl rfl rfl rfl rfl rfl (fun rr_1 h => ?_)
  refine X.if_eq (tgt := 20) C h dX8_number_4 (by decide) (fun h => ?_) (fun h => ?_)
  · refine X.sub [0, 1, 2] rfl ?_
    exact xX8_number_20 C q M lx1 lx2 v h
  refine X.aload_n C dX8_number_7 rfl 0 rfl ?_
  refine X.get C dX8_number_8 lay_X8 0 rfl rfl 10 (by decide) fl_X8_95 rfl rfl ?_
  refine X.iconst C dX8_number_11 ?_
  refine X.icmp_eq (tgt := 20) C h dX8_number_12 (by decide) (fun h => ?_) (fun h => ?_)
  · refine X.sub [0, 1, 2] rfl ?_
    exact xX8_number_20 C q M lx1 lx2 v h
  refine X.aload_n C dX8_number_15 rfl 0 rfl ?_
  refine X.iconst C dX8_number_16 ?_
  refine X.callVv (q0 := 0) (As := [vi 1]) (rest := []) (W1 := fun rr_8 => (W_M G q rr_8)) (ws2 := fun rr_8 => (W_M G q rr_8)) C h dX8_number_17 ml_X8_142 mX8_errs (fun v hv => kX8_errs q M 1 v hv) (fun rr_8 => ln_M_M_m_M (G := G) (q := q) (M := M) (NM := rr_8)) rfl rfl rfl rfl rfl rfl rfl rfl (fun rr_8 h => ?_)
  refine X.sub [0, 1, 2] rfl ?_
  exact xX8_number_20 C q rr_8 lx1 lx2 v h
def rX8_told : Room := { frames := 8, cells := 0, slots := 0, locals := 226 }
theorem mX8_told : MV yX8_told cX8_told 4 (some .int) 3 := ⟨cd_X8_told, in_X8, ⟨⟨by decide, by decide⟩, by decide +kernel⟩, im_X8_told, se_X8_told⟩
set_option maxHeartbeats 4000000 in
set_option maxRecDepth 100000 in
theorem kX8_told {l : Launch} {G : GT} (q : Nat → Nat) (M : Ob) (lw1 : Nat) (lx2 : Int) (lx3 : Int) (v : (Int × Ob)) (h : fX8_told M lw1 lx2 lx3 = some v) : CT l G yX8_told cX8_told 4 (some .int) rX8_told [.ref (q 31), .ref (G.2.2.2.1 lw1), vi lx2, vi lx3] (W_M G q M) (W_M G q v.2) (some (vi v.1)) := by
  unfold fX8_told at h
  refine CT.of (by decide) (Nat.le_of_ble_eq_true rfl) rfl (fun κ _ C => ?_)
  refine X.aload_n C dX8_told_0 rfl 0 rfl ?_
  refine X.aload_n C dX8_told_1 rfl 1 rfl ?_
  refine X.callVv (q0 := 0) (As := [.ref (G.2.2.2.1 lw1)]) (rest := []) (W1 := fun rr_1 => (W_M G q rr_1)) (ws2 := fun rr_1 => (W_M G q rr_1)) C h dX8_told_2 ml_X8_146 mX8_needs (fun v hv => kX8_needs q M lw1 v hv) (fun rr_1 => ln_M_M_m_M (G := G) (q := q) (M := M) (NM := rr_1)) rfl rfl rfl rfl rfl rfl rfl rfl (fun rr_1 h => ?_)
  refine X.aload_n C dX8_told_5 rfl 0 rfl ?_
  refine X.iload_n C dX8_told_6 rfl 2 rfl ?_
  refine X.iload_n C dX8_told_7 rfl 3 rfl ?_
  refine X.callVi (q0 := 0) (As := [vi lx2, vi lx3]) (rest := []) (g := fun rr_2 => rr_2.1) (W1 := fun rr_2 => (W_M G q rr_2.2)) (ws2 := fun rr_2 => (W_M G q rr_2.2)) C h dX8_told_8 ml_X8_150 mX8_number (fun v hv => kX8_number q rr_1 lx2 lx3 v hv) (fun rr_2 => ln_M_M_m_M (G := G) (q := q) (M := rr_1) (NM := rr_2.2)) rfl rfl rfl rfl rfl rfl rfl rfl (fun rr_2 h => ?_)
  cases h
  exact X.iret C dX8_told_11 (Nat.zero_le _) (Nat.zero_le _)
def rX8_fault : Room := { frames := 0, cells := 0, slots := 0, locals := 0 }
theorem mX8_fault : MV yX8_fault cX8_fault 2 (some .int) 1 := ⟨cd_X8_fault, in_X8, ⟨⟨by decide, by decide⟩, by decide +kernel⟩, im_X8_fault, se_X8_fault⟩
set_option maxHeartbeats 4000000 in
set_option maxRecDepth 100000 in
theorem kX8_fault {l : Launch} {G : GT} (q : Nat → Nat) (M : Ob) (lx1 : Int) (v : (Int)) (h : fX8_fault M lx1 = some v) : CT l G yX8_fault cX8_fault 2 (some .int) rX8_fault [.ref (q 31), vi lx1] (W_M G q M) (W_M G q M) (some (vi v)) := by
  unfold fX8_fault at h
  refine CT.of (by decide) (Nat.le_of_ble_eq_true rfl) rfl (fun κ _ C => ?_)
  refine X.iload_n C dX8_fault_0 rfl 1 rfl ?_
  refine X.if_ne (tgt := 11) C h dX8_fault_1 (by decide) (fun h => ?_) (fun h => ?_)
  · refine X.iload_n C dX8_fault_11 rfl 1 rfl ?_
    refine X.iconst C dX8_fault_12 ?_
    refine X.icmp_ne (tgt := 23) C h dX8_fault_13 (by decide) (fun h => ?_) (fun h => ?_)
    · refine X.iconst C dX8_fault_23 ?_
      cases h
      exact X.iret C dX8_fault_24 (Nat.zero_le _) (Nat.zero_le _)
    refine X.aload_n C dX8_fault_16 rfl 0 rfl ?_
    refine X.get C dX8_fault_17 lay_X8 0 rfl rfl 13 (by decide) fl_X8_31 rfl rfl ?_
    refine X.goto (tgt := 24) C dX8_fault_20 (by decide) ?_
    cases h
    exact X.iret C dX8_fault_24 (Nat.zero_le _) (Nat.zero_le _)
  refine X.aload_n C dX8_fault_4 rfl 0 rfl ?_
  refine X.get C dX8_fault_5 lay_X8 0 rfl rfl 12 (by decide) fl_X8_115 rfl rfl ?_
  refine X.goto (tgt := 24) C dX8_fault_8 (by decide) ?_
  cases h
  exact X.iret C dX8_fault_24 (Nat.zero_le _) (Nat.zero_le _)
def rX8_readSquare : Room := { frames := 9, cells := 0, slots := 0, locals := 249 }
theorem mX8_readSquare : MV yX8_readSquare cX8_readSquare 1 none 0 := ⟨cd_X8_readSquare, in_X8, ⟨⟨by decide, by decide⟩, by decide +kernel⟩, im_X8_readSquare, se_X8_readSquare⟩
set_option maxHeartbeats 4000000 in
set_option maxRecDepth 100000 in
theorem kX8_readSquare {l : Launch} {G : GT} (q : Nat → Nat) (M : Ob) (v : (Ob)) (h : fX8_readSquare M = some v) : CT l G yX8_readSquare cX8_readSquare 1 none rX8_readSquare [.ref (q 31)] (W_M G q M) (W_M G q v) none := by
  unfold fX8_readSquare at h
  refine CT.of (by decide) (Nat.le_of_ble_eq_true rfl) rfl (fun κ _ C => ?_)
  refine X.aload_n C dX8_readSquare_0 rfl 0 rfl ?_
  refine X.ldcS (q := ("TableNineModel", 153, "square", 13)) C (by decide) rfl dX8_readSquare_1 ?_
  refine X.callVv (q0 := 0) (As := [.ref (G.2.2.2.1 13)]) (rest := []) (W1 := fun rr_1 => (W_M G q rr_1)) (ws2 := fun rr_1 => (W_M G q rr_1)) C h dX8_readSquare_3 ml_X8_146 mX8_needs (fun v hv => kX8_needs q M 13 v hv) (fun rr_1 => ln_M_M_m_M (G := G) (q := q) (M := M) (NM := rr_1)) rfl rfl rfl rfl rfl rfl rfl rfl (fun rr_1 h => ?_)
  refine X.aload_n C dX8_readSquare_6 rfl 0 rfl ?_
  refine X.get C dX8_readSquare_7 lay_X8 0 rfl rfl 14 (by decide) fl_X8_34 rfl rfl ?_
  refine X.iconst C dX8_readSquare_10 ?_
  refine X.aload_n C dX8_readSquare_11 rfl 0 rfl ?_
  refine X.ldcS (q := ("TableNineModel", 155, "wide", 16)) C (by decide) rfl dX8_readSquare_12 ?_
  refine X.iconst C dX8_readSquare_14 ?_
  refine X.bipush C dX8_readSquare_15 (by decide) ?_
  refine X.callVi (q0 := 0) (As := [.ref (G.2.2.2.1 16), vi 5, vi 30]) (rest := [vi 1, .ref (q 14)]) (g := fun rr_2 => rr_2.1) (W1 := fun rr_2 => (W_M G q rr_2.2)) (ws2 := fun rr_2 => (W_M G q rr_2.2)) C h dX8_readSquare_17 ml_X8_157 mX8_told (fun v hv => kX8_told q rr_1 16 5 30 v hv) (fun rr_2 => ln_M_M_m_M (G := G) (q := q) (M := rr_1) (NM := rr_2.2)) rfl rfl rfl rfl rfl rfl rfl rfl (fun rr_2 h => ?_)
  refine X.iast (ws2 := (W_M G q (up2 rr_2.2 14 (ix 1) rr_2.1))) C h dX8_readSquare_20 6 rfl rfl (fun h => ?_)
  refine X.nameS (ws := fun M_3 => (W_M G q M_3)) h (fun M_3 h => ?_)
  refine X.aload_n C dX8_readSquare_21 rfl 0 rfl ?_
  refine X.get C dX8_readSquare_22 lay_X8 0 rfl rfl 14 (by decide) fl_X8_34 rfl rfl ?_
  refine X.iconst C dX8_readSquare_25 ?_
  refine X.aload_n C dX8_readSquare_26 rfl 0 rfl ?_
  refine X.ldcS (q := ("TableNineModel", 161, "long", 7)) C (by decide) rfl dX8_readSquare_27 ?_
  refine X.iconst C dX8_readSquare_29 ?_
  refine X.bipush C dX8_readSquare_30 (by decide) ?_
  refine X.callVi (q0 := 0) (As := [.ref (G.2.2.2.1 7), vi 5, vi 30]) (rest := [vi 2, .ref (q 14)]) (g := fun rr_4 => rr_4.1) (W1 := fun rr_4 => (W_M G q rr_4.2)) (ws2 := fun rr_4 => (W_M G q rr_4.2)) C h dX8_readSquare_32 ml_X8_157 mX8_told (fun v hv => kX8_told q M_3 7 5 30 v hv) (fun rr_4 => ln_M_M_m_M (G := G) (q := q) (M := M_3) (NM := rr_4.2)) rfl rfl rfl rfl rfl rfl rfl rfl (fun rr_4 h => ?_)
  refine X.iast (ws2 := (W_M G q (up2 rr_4.2 14 (ix 2) rr_4.1))) C h dX8_readSquare_35 6 rfl rfl (fun h => ?_)
  refine X.nameS (ws := fun M_5 => (W_M G q M_5)) h (fun M_5 h => ?_)
  refine X.aload_n C dX8_readSquare_36 rfl 0 rfl ?_
  refine X.get C dX8_readSquare_37 lay_X8 0 rfl rfl 14 (by decide) fl_X8_34 rfl rfl ?_
  refine X.iconst C dX8_readSquare_40 ?_
  refine X.aload_n C dX8_readSquare_41 rfl 0 rfl ?_
  refine X.get C dX8_readSquare_42 lay_X8 0 rfl rfl 14 (by decide) fl_X8_34 rfl rfl ?_
  refine X.iconst C dX8_readSquare_45 ?_
  refine X.iald C h dX8_readSquare_46 6 rfl (fun h => ?_)
  refine X.iconst C dX8_readSquare_47 ?_
  refine X.idiv C (by decide) dX8_readSquare_48 ?_
  refine X.iast (ws2 := (W_M G q (up2 M_5 14 (ix 3) (jdv (M_5 14 (ix 1)) 2)))) C h dX8_readSquare_49 6 rfl rfl (fun h => ?_)
  refine X.nameS (ws := fun M_6 => (W_M G q M_6)) h (fun M_6 h => ?_)
  refine X.aload_n C dX8_readSquare_50 rfl 0 rfl ?_
  refine X.get C dX8_readSquare_51 lay_X8 0 rfl rfl 14 (by decide) fl_X8_34 rfl rfl ?_
  refine X.iconst C dX8_readSquare_54 ?_
  refine X.aload_n C dX8_readSquare_55 rfl 0 rfl ?_
  refine X.get C dX8_readSquare_56 lay_X8 0 rfl rfl 14 (by decide) fl_X8_34 rfl rfl ?_
  refine X.iconst C dX8_readSquare_59 ?_
  refine X.iald C h dX8_readSquare_60 6 rfl (fun h => ?_)
  refine X.iconst C dX8_readSquare_61 ?_
  refine X.idiv C (by decide) dX8_readSquare_62 ?_
  refine X.iast (ws2 := (W_M G q (up2 M_6 14 (ix 4) (jdv (M_6 14 (ix 2)) 2)))) C h dX8_readSquare_63 6 rfl rfl (fun h => ?_)
  refine X.nameS (ws := fun M_7 => (W_M G q M_7)) h (fun M_7 h => ?_)
  refine X.aload_n C dX8_readSquare_64 rfl 0 rfl ?_
  refine X.get C dX8_readSquare_65 lay_X8 0 rfl rfl 14 (by decide) fl_X8_34 rfl rfl ?_
  refine X.iconst C dX8_readSquare_68 ?_
  refine X.iconst C dX8_readSquare_69 ?_
  refine X.iast (ws2 := (W_M G q (up2 M_7 14 (ix 5) 1))) C h dX8_readSquare_70 6 rfl rfl (fun h => ?_)
  refine X.nameS (ws := fun M_8 => (W_M G q M_8)) h (fun M_8 h => ?_)
  refine X.aload_n C dX8_readSquare_71 rfl 0 rfl ?_
  refine X.get C dX8_readSquare_72 lay_X8 0 rfl rfl 14 (by decide) fl_X8_34 rfl rfl ?_
  refine X.bipush C dX8_readSquare_75 (by decide) ?_
  refine X.bipush C dX8_readSquare_77 (by decide) ?_
  refine X.iast (ws2 := (W_M G q (up2 M_8 14 (ix 6) 30))) C h dX8_readSquare_79 6 rfl rfl (fun h => ?_)
  refine X.nameS (ws := fun M_9 => (W_M G q M_9)) h (fun M_9 h => ?_)
  refine X.aload_n C dX8_readSquare_80 rfl 0 rfl ?_
  refine X.get C dX8_readSquare_81 lay_X8 0 rfl rfl 14 (by decide) fl_X8_34 rfl rfl ?_
  refine X.bipush C dX8_readSquare_84 (by decide) ?_
  refine X.bipush C dX8_readSquare_86 (by decide) ?_
  refine X.iast (ws2 := (W_M G q (up2 M_9 14 (ix 9) 60))) C h dX8_readSquare_88 6 rfl rfl (fun h => ?_)
  refine X.nameS (ws := fun M_10 => (W_M G q M_10)) h (fun M_10 h => ?_)
  cases h
  exact X.vret C dX8_readSquare_89 (Nat.zero_le _) (Nat.zero_le _)
def rX8_readJet : Room := { frames := 9, cells := 0, slots := 0, locals := 249 }
theorem mX8_readJet : MV yX8_readJet cX8_readJet 1 none 0 := ⟨cd_X8_readJet, in_X8, ⟨⟨by decide, by decide⟩, by decide +kernel⟩, im_X8_readJet, se_X8_readJet⟩
set_option maxHeartbeats 4000000 in
set_option maxRecDepth 100000 in
theorem kX8_readJet {l : Launch} {G : GT} (q : Nat → Nat) (M : Ob) (v : (Ob)) (h : fX8_readJet M = some v) : CT l G yX8_readJet cX8_readJet 1 none rX8_readJet [.ref (q 31)] (W_M G q M) (W_M G q v) none := by
  unfold fX8_readJet at h
  refine CT.of (by decide) (Nat.le_of_ble_eq_true rfl) rfl (fun κ _ C => ?_)
  refine X.aload_n C dX8_readJet_0 rfl 0 rfl ?_
  refine X.get C dX8_readJet_1 lay_X8 0 rfl rfl 14 (by decide) fl_X8_34 rfl rfl ?_
  refine X.bipush C dX8_readJet_4 (by decide) ?_
  refine X.dup2 C dX8_readJet_6 rfl rfl ?_
  refine X.iald C h dX8_readJet_7 6 rfl (fun h => ?_)
  refine X.iconst C dX8_readJet_8 ?_
  refine X.ior C dX8_readJet_9 ?_
  refine X.iast (ws2 := (W_M G q (up2 M 14 (ix 13) (jor (M 14 (ix 13)) 1)))) C h dX8_readJet_10 6 rfl rfl (fun h => ?_)
  refine X.nameS (ws := fun M_1 => (W_M G q M_1)) h (fun M_1 h => ?_)
  refine X.aload_n C dX8_readJet_11 rfl 0 rfl ?_
  refine X.get C dX8_readJet_12 lay_X8 0 rfl rfl 14 (by decide) fl_X8_34 rfl rfl ?_
  refine X.iconst C dX8_readJet_15 ?_
  refine X.aload_n C dX8_readJet_16 rfl 0 rfl ?_
  refine X.ldcS (q := ("TableNineModel", 163, "at", 0)) C (by decide) rfl dX8_readJet_17 ?_
  refine X.iconst C dX8_readJet_19 ?_
  refine X.aload_n C dX8_readJet_20 rfl 0 rfl ?_
  refine X.get C dX8_readJet_21 lay_X8 0 rfl rfl 14 (by decide) fl_X8_34 rfl rfl ?_
  refine X.iconst C dX8_readJet_24 ?_
  refine X.iald C h dX8_readJet_25 6 rfl (fun h => ?_)
  refine X.iconst C dX8_readJet_26 ?_
  refine X.isub C dX8_readJet_27 ?_
  refine X.callVi (q0 := 0) (As := [.ref (G.2.2.2.1 0), vi 0, vi ((M_1 14 (ix 1)) - 1)]) (rest := [vi 3, .ref (q 14)]) (g := fun rr_2 => rr_2.1) (W1 := fun rr_2 => (W_M G q rr_2.2)) (ws2 := fun rr_2 => (W_M G q rr_2.2)) C h dX8_readJet_28 ml_X8_157 mX8_told (fun v hv => kX8_told q M_1 0 0 ((M_1 14 (ix 1)) - 1) v hv) (fun rr_2 => ln_M_M_m_M (G := G) (q := q) (M := M_1) (NM := rr_2.2)) rfl rfl rfl rfl rfl rfl rfl rfl (fun rr_2 h => ?_)
  refine X.iast (ws2 := (W_M G q (up2 rr_2.2 14 (ix 3) rr_2.1))) C h dX8_readJet_31 6 rfl rfl (fun h => ?_)
  refine X.nameS (ws := fun M_3 => (W_M G q M_3)) h (fun M_3 h => ?_)
  refine X.aload_n C dX8_readJet_32 rfl 0 rfl ?_
  refine X.get C dX8_readJet_33 lay_X8 0 rfl rfl 14 (by decide) fl_X8_34 rfl rfl ?_
  refine X.iconst C dX8_readJet_36 ?_
  refine X.aload_n C dX8_readJet_37 rfl 0 rfl ?_
  refine X.iconst C dX8_readJet_38 ?_
  refine X.aload_n C dX8_readJet_39 rfl 0 rfl ?_
  refine X.get C dX8_readJet_40 lay_X8 0 rfl rfl 14 (by decide) fl_X8_34 rfl rfl ?_
  refine X.iconst C dX8_readJet_43 ?_
  refine X.iald C h dX8_readJet_44 6 rfl (fun h => ?_)
  refine X.iconst C dX8_readJet_45 ?_
  refine X.isub C dX8_readJet_46 ?_
  refine X.callVi (q0 := 0) (As := [vi 0, vi ((M_3 14 (ix 2)) - 1)]) (rest := [vi 4, .ref (q 14)]) (g := fun rr_4 => rr_4.1) (W1 := fun rr_4 => (W_M G q rr_4.2)) (ws2 := fun rr_4 => (W_M G q rr_4.2)) C h dX8_readJet_47 ml_X8_150 mX8_number (fun v hv => kX8_number q M_3 0 ((M_3 14 (ix 2)) - 1) v hv) (fun rr_4 => ln_M_M_m_M (G := G) (q := q) (M := M_3) (NM := rr_4.2)) rfl rfl rfl rfl rfl rfl rfl rfl (fun rr_4 h => ?_)
  refine X.iast (ws2 := (W_M G q (up2 rr_4.2 14 (ix 4) rr_4.1))) C h dX8_readJet_50 6 rfl rfl (fun h => ?_)
  refine X.nameS (ws := fun M_5 => (W_M G q M_5)) h (fun M_5 h => ?_)
  refine X.aload_n C dX8_readJet_51 rfl 0 rfl ?_
  refine X.get C dX8_readJet_52 lay_X8 0 rfl rfl 14 (by decide) fl_X8_34 rfl rfl ?_
  refine X.iconst C dX8_readJet_55 ?_
  refine X.aload_n C dX8_readJet_56 rfl 0 rfl ?_
  refine X.ldcS (q := ("TableNineModel", 164, "half", 3)) C (by decide) rfl dX8_readJet_57 ?_
  refine X.iconst C dX8_readJet_59 ?_
  refine X.bipush C dX8_readJet_60 (by decide) ?_
  refine X.callVi (q0 := 0) (As := [.ref (G.2.2.2.1 3), vi 0, vi 9]) (rest := [vi 5, .ref (q 14)]) (g := fun rr_6 => rr_6.1) (W1 := fun rr_6 => (W_M G q rr_6.2)) (ws2 := fun rr_6 => (W_M G q rr_6.2)) C h dX8_readJet_62 ml_X8_157 mX8_told (fun v hv => kX8_told q M_5 3 0 9 v hv) (fun rr_6 => ln_M_M_m_M (G := G) (q := q) (M := M_5) (NM := rr_6.2)) rfl rfl rfl rfl rfl rfl rfl rfl (fun rr_6 h => ?_)
  refine X.iast (ws2 := (W_M G q (up2 rr_6.2 14 (ix 5) rr_6.1))) C h dX8_readJet_65 6 rfl rfl (fun h => ?_)
  refine X.nameS (ws := fun M_7 => (W_M G q M_7)) h (fun M_7 h => ?_)
  refine X.aload_n C dX8_readJet_66 rfl 0 rfl ?_
  refine X.get C dX8_readJet_67 lay_X8 0 rfl rfl 14 (by decide) fl_X8_34 rfl rfl ?_
  refine X.bipush C dX8_readJet_70 (by decide) ?_
  refine X.aload_n C dX8_readJet_72 rfl 0 rfl ?_
  refine X.ldcS (q := ("TableNineModel", 166, "high", 4)) C (by decide) rfl dX8_readJet_73 ?_
  refine X.iconst C dX8_readJet_75 ?_
  refine X.bipush C dX8_readJet_76 (by decide) ?_
  refine X.callVi (q0 := 0) (As := [.ref (G.2.2.2.1 4), vi 0, vi 60]) (rest := [vi 6, .ref (q 14)]) (g := fun rr_8 => rr_8.1) (W1 := fun rr_8 => (W_M G q rr_8.2)) (ws2 := fun rr_8 => (W_M G q rr_8.2)) C h dX8_readJet_78 ml_X8_157 mX8_told (fun v hv => kX8_told q M_7 4 0 60 v hv) (fun rr_8 => ln_M_M_m_M (G := G) (q := q) (M := M_7) (NM := rr_8.2)) rfl rfl rfl rfl rfl rfl rfl rfl (fun rr_8 h => ?_)
  refine X.iast (ws2 := (W_M G q (up2 rr_8.2 14 (ix 6) rr_8.1))) C h dX8_readJet_81 6 rfl rfl (fun h => ?_)
  refine X.nameS (ws := fun M_9 => (W_M G q M_9)) h (fun M_9 h => ?_)
  cases h
  exact X.vret C dX8_readJet_82 (Nat.zero_le _) (Nat.zero_le _)
def rX8_readSize : Room := { frames := 9, cells := 0, slots := 0, locals := 249 }
theorem mX8_readSize : MV yX8_readSize cX8_readSize 2 none 0 := ⟨cd_X8_readSize, in_X8, ⟨⟨by decide, by decide⟩, by decide +kernel⟩, im_X8_readSize, se_X8_readSize⟩
set_option maxHeartbeats 4000000 in
set_option maxRecDepth 100000 in
theorem kX8_readSize {l : Launch} {G : GT} (q : Nat → Nat) (M : Ob) (v : (Ob)) (h : fX8_readSize M = some v) : CT l G yX8_readSize cX8_readSize 2 none rX8_readSize [.ref (q 31)] (W_M G q M) (W_M G q v) none := by
  unfold fX8_readSize at h
  refine CT.of (by decide) (Nat.le_of_ble_eq_true rfl) rfl (fun κ _ C => ?_)
  refine X.bipush C dX8_readSize_0 (by decide) ?_
  refine X.iconst C dX8_readSize_2 ?_
  refine X.aload_n C dX8_readSize_3 rfl 0 rfl ?_
  refine X.get C dX8_readSize_4 lay_X8 0 rfl rfl 14 (by decide) fl_X8_34 rfl rfl ?_
  refine X.bipush C dX8_readSize_7 (by decide) ?_
  refine X.iald C h dX8_readSize_9 6 rfl (fun h => ?_)
  refine X.imul C dX8_readSize_10 ?_
  refine X.iadd C dX8_readSize_11 ?_
  refine X.istoreN_n (lv2 := fun lx1_1 => [(1, vi lx1_1), (0, .ref (q 31))]) C h dX8_readSize_12 rfl (by decide) (fun _ => rfl) (fun lx1_1 h => ?_)
  refine X.aload_n C dX8_readSize_13 rfl 1 rfl ?_
  refine X.get C dX8_readSize_14 lay_X8 0 rfl rfl 14 (by decide) fl_X8_34 rfl rfl ?_
  refine X.iload_n C dX8_readSize_17 rfl 0 rfl ?_
  refine X.aload_n C dX8_readSize_18 rfl 1 rfl ?_
  refine X.ldcS (q := ("TableNineModel", 168, "drag", 2)) C (by decide) rfl dX8_readSize_19 ?_
  refine X.iconst C dX8_readSize_21 ?_
  refine X.bipush C dX8_readSize_22 (by decide) ?_
  refine X.callVi (q0 := 0) (As := [.ref (G.2.2.2.1 2), vi 0, vi 99]) (rest := [vi lx1_1, .ref (q 14)]) (g := fun rr_2 => rr_2.1) (W1 := fun rr_2 => (W_M G q rr_2.2)) (ws2 := fun rr_2 => (W_M G q rr_2.2)) C h dX8_readSize_24 ml_X8_157 mX8_told (fun v hv => kX8_told q M 2 0 99 v hv) (fun rr_2 => ln_M_M_m_M (G := G) (q := q) (M := M) (NM := rr_2.2)) rfl rfl rfl rfl rfl rfl rfl rfl (fun rr_2 h => ?_)
  refine X.iast (ws2 := (W_M G q (up2 rr_2.2 14 (ix lx1_1) rr_2.1))) C h dX8_readSize_27 6 rfl rfl (fun h => ?_)
  refine X.nameS (ws := fun M_3 => (W_M G q M_3)) h (fun M_3 h => ?_)
  refine X.aload_n C dX8_readSize_28 rfl 1 rfl ?_
  refine X.get C dX8_readSize_29 lay_X8 0 rfl rfl 14 (by decide) fl_X8_34 rfl rfl ?_
  refine X.iload_n C dX8_readSize_32 rfl 0 rfl ?_
  refine X.iconst C dX8_readSize_33 ?_
  refine X.iadd C dX8_readSize_34 ?_
  refine X.aload_n C dX8_readSize_35 rfl 1 rfl ?_
  refine X.ldcS (q := ("TableNineModel", 170, "share", 11)) C (by decide) rfl dX8_readSize_36 ?_
  refine X.iconst C dX8_readSize_38 ?_
  refine X.bipush C dX8_readSize_39 (by decide) ?_
  refine X.callVi (q0 := 0) (As := [.ref (G.2.2.2.1 11), vi 1, vi 9]) (rest := [vi (lx1_1 + 1), .ref (q 14)]) (g := fun rr_4 => rr_4.1) (W1 := fun rr_4 => (W_M G q rr_4.2)) (ws2 := fun rr_4 => (W_M G q rr_4.2)) C h dX8_readSize_41 ml_X8_157 mX8_told (fun v hv => kX8_told q M_3 11 1 9 v hv) (fun rr_4 => ln_M_M_m_M (G := G) (q := q) (M := M_3) (NM := rr_4.2)) rfl rfl rfl rfl rfl rfl rfl rfl (fun rr_4 h => ?_)
  refine X.iast (ws2 := (W_M G q (up2 rr_4.2 14 (ix (lx1_1 + 1)) rr_4.1))) C h dX8_readSize_44 6 rfl rfl (fun h => ?_)
  refine X.nameS (ws := fun M_5 => (W_M G q M_5)) h (fun M_5 h => ?_)
  refine X.aload_n C dX8_readSize_45 rfl 1 rfl ?_
  refine X.get C dX8_readSize_46 lay_X8 0 rfl rfl 14 (by decide) fl_X8_34 rfl rfl ?_
  refine X.bipush C dX8_readSize_49 (by decide) ?_
  refine X.dup2 C dX8_readSize_51 rfl rfl ?_
  refine X.iald C h dX8_readSize_52 6 rfl (fun h => ?_)
  refine X.iconst C dX8_readSize_53 ?_
  refine X.iadd C dX8_readSize_54 ?_
  refine X.iast (ws2 := (W_M G q (up2 M_5 14 (ix 10) ((M_5 14 (ix 10)) + 1)))) C h dX8_readSize_55 6 rfl rfl (fun h => ?_)
  refine X.nameS (ws := fun M_6 => (W_M G q M_6)) h (fun M_6 h => ?_)
  cases h
  exact X.vret C dX8_readSize_56 (Nat.zero_le _) (Nat.zero_le _)
def rX8_readTable : Room := { frames := 9, cells := 0, slots := 0, locals := 249 }
theorem mX8_readTable : MV yX8_readTable cX8_readTable 2 none 0 := ⟨cd_X8_readTable, in_X8, ⟨⟨by decide, by decide⟩, by decide +kernel⟩, im_X8_readTable, se_X8_readTable⟩
set_option maxHeartbeats 4000000 in
set_option maxRecDepth 100000 in
theorem kX8_readTable {l : Launch} {G : GT} (q : Nat → Nat) (M : Ob) (v : (Ob)) (h : fX8_readTable M = some v) : CT l G yX8_readTable cX8_readTable 2 none rX8_readTable [.ref (q 31)] (W_M G q M) (W_M G q v) none := by
  unfold fX8_readTable at h
  refine CT.of (by decide) (Nat.le_of_ble_eq_true rfl) rfl (fun κ _ C => ?_)
  refine X.bipush C dX8_readTable_0 (by decide) ?_
  refine X.iconst C dX8_readTable_2 ?_
  refine X.aload_n C dX8_readTable_3 rfl 0 rfl ?_
  refine X.get C dX8_readTable_4 lay_X8 0 rfl rfl 14 (by decide) fl_X8_34 rfl rfl ?_
  refine X.bipush C dX8_readTable_7 (by decide) ?_
  refine X.iald C h dX8_readTable_9 6 rfl (fun h => ?_)
  refine X.imul C dX8_readTable_10 ?_
  refine X.iadd C dX8_readTable_11 ?_
  refine X.istoreN_n (lv2 := fun lx1_1 => [(1, vi lx1_1), (0, .ref (q 31))]) C h dX8_readTable_12 rfl (by decide) (fun _ => rfl) (fun lx1_1 h => ?_)
  refine X.aload_n C dX8_readTable_13 rfl 1 rfl ?_
  refine X.get C dX8_readTable_14 lay_X8 0 rfl rfl 14 (by decide) fl_X8_34 rfl rfl ?_
  refine X.iload_n C dX8_readTable_17 rfl 0 rfl ?_
  refine X.aload_n C dX8_readTable_18 rfl 1 rfl ?_
  refine X.ldcS (q := ("TableNineModel", 163, "at", 0)) C (by decide) rfl dX8_readTable_19 ?_
  refine X.iconst C dX8_readTable_21 ?_
  refine X.aload_n C dX8_readTable_22 rfl 1 rfl ?_
  refine X.get C dX8_readTable_23 lay_X8 0 rfl rfl 14 (by decide) fl_X8_34 rfl rfl ?_
  refine X.iconst C dX8_readTable_26 ?_
  refine X.iald C h dX8_readTable_27 6 rfl (fun h => ?_)
  refine X.iconst C dX8_readTable_28 ?_
  refine X.isub C dX8_readTable_29 ?_
  refine X.callVi (q0 := 0) (As := [.ref (G.2.2.2.1 0), vi 0, vi ((M 14 (ix 1)) - 1)]) (rest := [vi lx1_1, .ref (q 14)]) (g := fun rr_2 => rr_2.1) (W1 := fun rr_2 => (W_M G q rr_2.2)) (ws2 := fun rr_2 => (W_M G q rr_2.2)) C h dX8_readTable_30 ml_X8_157 mX8_told (fun v hv => kX8_told q M 0 0 ((M 14 (ix 1)) - 1) v hv) (fun rr_2 => ln_M_M_m_M (G := G) (q := q) (M := M) (NM := rr_2.2)) rfl rfl rfl rfl rfl rfl rfl rfl (fun rr_2 h => ?_)
  refine X.iast (ws2 := (W_M G q (up2 rr_2.2 14 (ix lx1_1) rr_2.1))) C h dX8_readTable_33 6 rfl rfl (fun h => ?_)
  refine X.nameS (ws := fun M_3 => (W_M G q M_3)) h (fun M_3 h => ?_)
  refine X.aload_n C dX8_readTable_34 rfl 1 rfl ?_
  refine X.get C dX8_readTable_35 lay_X8 0 rfl rfl 14 (by decide) fl_X8_34 rfl rfl ?_
  refine X.iload_n C dX8_readTable_38 rfl 0 rfl ?_
  refine X.iconst C dX8_readTable_39 ?_
  refine X.iadd C dX8_readTable_40 ?_
  refine X.aload_n C dX8_readTable_41 rfl 1 rfl ?_
  refine X.iconst C dX8_readTable_42 ?_
  refine X.aload_n C dX8_readTable_43 rfl 1 rfl ?_
  refine X.get C dX8_readTable_44 lay_X8 0 rfl rfl 14 (by decide) fl_X8_34 rfl rfl ?_
  refine X.iconst C dX8_readTable_47 ?_
  refine X.iald C h dX8_readTable_48 6 rfl (fun h => ?_)
  refine X.iconst C dX8_readTable_49 ?_
  refine X.isub C dX8_readTable_50 ?_
  refine X.callVi (q0 := 0) (As := [vi 0, vi ((M_3 14 (ix 2)) - 1)]) (rest := [vi (lx1_1 + 1), .ref (q 14)]) (g := fun rr_4 => rr_4.1) (W1 := fun rr_4 => (W_M G q rr_4.2)) (ws2 := fun rr_4 => (W_M G q rr_4.2)) C h dX8_readTable_51 ml_X8_150 mX8_number (fun v hv => kX8_number q M_3 0 ((M_3 14 (ix 2)) - 1) v hv) (fun rr_4 => ln_M_M_m_M (G := G) (q := q) (M := M_3) (NM := rr_4.2)) rfl rfl rfl rfl rfl rfl rfl rfl (fun rr_4 h => ?_)
  refine X.iast (ws2 := (W_M G q (up2 rr_4.2 14 (ix (lx1_1 + 1)) rr_4.1))) C h dX8_readTable_54 6 rfl rfl (fun h => ?_)
  refine X.nameS (ws := fun M_5 => (W_M G q M_5)) h (fun M_5 h => ?_)
  refine X.aload_n C dX8_readTable_55 rfl 1 rfl ?_
  refine X.get C dX8_readTable_56 lay_X8 0 rfl rfl 14 (by decide) fl_X8_34 rfl rfl ?_
  refine X.iload_n C dX8_readTable_59 rfl 0 rfl ?_
  refine X.iconst C dX8_readTable_60 ?_
  refine X.iadd C dX8_readTable_61 ?_
  refine X.aload_n C dX8_readTable_62 rfl 1 rfl ?_
  refine X.ldcS (q := ("TableNineModel", 172, "most", 8)) C (by decide) rfl dX8_readTable_63 ?_
  refine X.iconst C dX8_readTable_65 ?_
  refine X.sipush C dX8_readTable_66 (by decide) ?_
  refine X.callVi (q0 := 0) (As := [.ref (G.2.2.2.1 8), vi 0, vi 999]) (rest := [vi (lx1_1 + 2), .ref (q 14)]) (g := fun rr_6 => rr_6.1) (W1 := fun rr_6 => (W_M G q rr_6.2)) (ws2 := fun rr_6 => (W_M G q rr_6.2)) C h dX8_readTable_69 ml_X8_157 mX8_told (fun v hv => kX8_told q M_5 8 0 999 v hv) (fun rr_6 => ln_M_M_m_M (G := G) (q := q) (M := M_5) (NM := rr_6.2)) rfl rfl rfl rfl rfl rfl rfl rfl (fun rr_6 h => ?_)
  refine X.iast (ws2 := (W_M G q (up2 rr_6.2 14 (ix (lx1_1 + 2)) rr_6.1))) C h dX8_readTable_72 6 rfl rfl (fun h => ?_)
  refine X.nameS (ws := fun M_7 => (W_M G q M_7)) h (fun M_7 h => ?_)
  refine X.aload_n C dX8_readTable_73 rfl 1 rfl ?_
  refine X.get C dX8_readTable_74 lay_X8 0 rfl rfl 14 (by decide) fl_X8_34 rfl rfl ?_
  refine X.bipush C dX8_readTable_77 (by decide) ?_
  refine X.dup2 C dX8_readTable_79 rfl rfl ?_
  refine X.iald C h dX8_readTable_80 6 rfl (fun h => ?_)
  refine X.iconst C dX8_readTable_81 ?_
  refine X.iadd C dX8_readTable_82 ?_
  refine X.iast (ws2 := (W_M G q (up2 M_7 14 (ix 11) ((M_7 14 (ix 11)) + 1)))) C h dX8_readTable_83 6 rfl rfl (fun h => ?_)
  refine X.nameS (ws := fun M_8 => (W_M G q M_8)) h (fun M_8 h => ?_)
  cases h
  exact X.vret C dX8_readTable_84 (Nat.zero_le _) (Nat.zero_le _)
def rX8_readRule : Room := { frames := 9, cells := 0, slots := 0, locals := 249 }
theorem mX8_readRule : MV yX8_readRule cX8_readRule 2 none 0 := ⟨cd_X8_readRule, in_X8, ⟨⟨by decide, by decide⟩, by decide +kernel⟩, im_X8_readRule, se_X8_readRule⟩
set_option maxHeartbeats 4000000 in
set_option maxRecDepth 100000 in
theorem xX8_readRule_45 {κ : Kx} {G : GT} (C : Cx κ G yX8_readRule cX8_readRule none 2 rX8_readRule) (q : Nat → Nat) (M : Ob) (lx1 : Int) (lt0 : Int) (lt3 : Int) (v : (Ob)) (h : jX8_readRule_45 M lx1 lt0 lt3 = some v) : X κ G 2 (W_M G q M) 45 [(0, .ref (q 31)), (1, vi lx1)] [vi lt0, .ref (G.2.2.2.1 17), .ref (q 31), vi lt3, .ref (q 14)] 0 0 (QM κ G (W_M G q v) none rX8_readRule.cells rX8_readRule.slots) := by
  unfold jX8_readRule_45 at h
  refine X.bipush C dX8_readRule_45 (by decide) ?_
  refine X.callVi (q0 := 0) (As := [.ref (G.2.2.2.1 17), vi lt0, vi 9]) (rest := [vi lt3, .ref (q 14)]) (g := fun rr_2 => rr_2.1) (W1 := fun rr_2 => (W_M G q rr_2.2)) (ws2 := fun rr_2 => (W_M G q rr_2.2)) C h dX8_readRule_47 ml_X8_157 mX8_told (fun v hv => kX8_told q M 17 lt0 9 v hv) (fun rr_2 => ln_M_M_m_M (G := G) (q := q) (M := M) (NM := rr_2.2)) rfl rfl rfl rfl rfl rfl rfl rfl (fun rr_2 h => ?_)
  refine X.iast (ws2 := (W_M G q (up2 rr_2.2 14 (ix lt3) rr_2.1))) C h dX8_readRule_50 6 rfl rfl (fun h => ?_)
  refine X.nameS (ws := fun M_3 => (W_M G q M_3)) h (fun M_3 h => ?_)
  refine X.aload_n C dX8_readRule_51 rfl 0 rfl ?_
  refine X.get C dX8_readRule_52 lay_X8 0 rfl rfl 14 (by decide) fl_X8_34 rfl rfl ?_
  refine X.iload_n C dX8_readRule_55 rfl 1 rfl ?_
  refine X.iconst C dX8_readRule_56 ?_
  refine X.iadd C dX8_readRule_57 ?_
  refine X.aload_n C dX8_readRule_58 rfl 0 rfl ?_
  refine X.ldcS (q := ("TableNineModel", 166, "high", 4)) C (by decide) rfl dX8_readRule_59 ?_
  refine X.iconst C dX8_readRule_61 ?_
  refine X.bipush C dX8_readRule_62 (by decide) ?_
  refine X.callVi (q0 := 0) (As := [.ref (G.2.2.2.1 4), vi 0, vi 60]) (rest := [vi (lx1 + 1), .ref (q 14)]) (g := fun rr_4 => rr_4.1) (W1 := fun rr_4 => (W_M G q rr_4.2)) (ws2 := fun rr_4 => (W_M G q rr_4.2)) C h dX8_readRule_64 ml_X8_157 mX8_told (fun v hv => kX8_told q M_3 4 0 60 v hv) (fun rr_4 => ln_M_M_m_M (G := G) (q := q) (M := M_3) (NM := rr_4.2)) rfl rfl rfl rfl rfl rfl rfl rfl (fun rr_4 h => ?_)
  refine X.iast (ws2 := (W_M G q (up2 rr_4.2 14 (ix (lx1 + 1)) rr_4.1))) C h dX8_readRule_67 6 rfl rfl (fun h => ?_)
  refine X.nameS (ws := fun M_5 => (W_M G q M_5)) h (fun M_5 h => ?_)
  refine X.aload_n C dX8_readRule_68 rfl 0 rfl ?_
  refine X.get C dX8_readRule_69 lay_X8 0 rfl rfl 14 (by decide) fl_X8_34 rfl rfl ?_
  refine X.bipush C dX8_readRule_72 (by decide) ?_
  refine X.dup2 C dX8_readRule_74 rfl rfl ?_
  refine X.iald C h dX8_readRule_75 6 rfl (fun h => ?_)
  refine X.iconst C dX8_readRule_76 ?_
  refine X.iadd C dX8_readRule_77 ?_
  refine X.iast (ws2 := (W_M G q (up2 M_5 14 (ix 12) ((M_5 14 (ix 12)) + 1)))) C h dX8_readRule_78 6 rfl rfl (fun h => ?_)
  refine X.nameS (ws := fun M_6 => (W_M G q M_6)) h (fun M_6 h => ?_)
  cases h
  exact X.vret C dX8_readRule_79 (Nat.zero_le _) (Nat.zero_le _)
set_option maxHeartbeats 4000000 in
set_option maxRecDepth 100000 in
theorem kX8_readRule {l : Launch} {G : GT} (q : Nat → Nat) (M : Ob) (v : (Ob)) (h : fX8_readRule M = some v) : CT l G yX8_readRule cX8_readRule 2 none rX8_readRule [.ref (q 31)] (W_M G q M) (W_M G q v) none := by
  unfold fX8_readRule at h
  refine CT.of (by decide) (Nat.le_of_ble_eq_true rfl) rfl (fun κ _ C => ?_)
  refine X.bipush C dX8_readRule_0 (by decide) ?_
  refine X.iconst C dX8_readRule_2 ?_
  refine X.aload_n C dX8_readRule_3 rfl 0 rfl ?_
  refine X.get C dX8_readRule_4 lay_X8 0 rfl rfl 14 (by decide) fl_X8_34 rfl rfl ?_
  refine X.bipush C dX8_readRule_7 (by decide) ?_
  refine X.iald C h dX8_readRule_9 6 rfl (fun h => ?_)
  refine X.imul C dX8_readRule_10 ?_
  refine X.iadd C dX8_readRule_11 ?_
  refine X.istoreN_n (lv2 := fun lx1_1 => [(1, vi lx1_1), (0, .ref (q 31))]) C h dX8_readRule_12 rfl (by decide) (fun _ => rfl) (fun lx1_1 h => ?_)
  refine X.aload_n C dX8_readRule_13 rfl 1 rfl ?_
  refine X.get C dX8_readRule_14 lay_X8 0 rfl rfl 14 (by decide) fl_X8_34 rfl rfl ?_
  refine X.iload_n C dX8_readRule_17 rfl 0 rfl ?_
  refine X.aload_n C dX8_readRule_18 rfl 1 rfl ?_
  refine X.ldcS (q := ("TableNineModel", 174, "wind", 17)) C (by decide) rfl dX8_readRule_19 ?_
  refine X.aload_n C dX8_readRule_21 rfl 1 rfl ?_
  refine X.get C dX8_readRule_22 lay_X8 0 rfl rfl 14 (by decide) fl_X8_34 rfl rfl ?_
  refine X.bipush C dX8_readRule_25 (by decide) ?_
  refine X.iald C h dX8_readRule_27 6 rfl (fun h => ?_)
  refine X.if_ne (tgt := 35) C h dX8_readRule_28 (by decide) (fun h => ?_) (fun h => ?_)
  · refine X.aload_n C dX8_readRule_35 rfl 1 rfl ?_
    refine X.get C dX8_readRule_36 lay_X8 0 rfl rfl 14 (by decide) fl_X8_34 rfl rfl ?_
    refine X.iload_n C dX8_readRule_39 rfl 0 rfl ?_
    refine X.iconst C dX8_readRule_40 ?_
    refine X.isub C dX8_readRule_41 ?_
    refine X.iald C h dX8_readRule_42 6 rfl (fun h => ?_)
    refine X.iconst C dX8_readRule_43 ?_
    refine X.iadd C dX8_readRule_44 ?_
    refine X.sub [1, 0] rfl ?_
    exact xX8_readRule_45 C q M lx1_1 ((M 14 (ix (lx1_1 - 2))) + 1) lx1_1 v h
  refine X.iconst C dX8_readRule_31 ?_
  refine X.goto (tgt := 45) C dX8_readRule_32 (by decide) ?_
  refine X.sub [1, 0] rfl ?_
  exact xX8_readRule_45 C q M lx1_1 0 lx1_1 v h
def rX8_readNext : Room := { frames := 10, cells := 0, slots := 0, locals := 270 }
theorem mX8_readNext : MV yX8_readNext cX8_readNext 2 none 0 := ⟨cd_X8_readNext, in_X8, ⟨⟨by decide, by decide⟩, by decide +kernel⟩, im_X8_readNext, se_X8_readNext⟩
set_option maxHeartbeats 4000000 in
set_option maxRecDepth 100000 in
theorem xX8_readNext_204 {κ : Kx} {G : GT} (C : Cx κ G yX8_readNext cX8_readNext none 2 rX8_readNext) (q : Nat → Nat) (M : Ob) (v : (Ob)) (h : jX8_readNext_204 M = some v) : X κ G 2 (W_M G q M) 204 [(0, .ref (q 31))] [] 0 0 (QM κ G (W_M G q v) none rX8_readNext.cells rX8_readNext.slots) := by
  unfold jX8_readNext_204 at h
  refine X.aload_n C dX8_readNext_204 rfl 0 rfl ?_
  refine X.callVi (q0 := 0) (As := []) (rest := []) (g := fun rr_8 => rr_8) (W1 := fun rr_8 => (W_M G q M)) (ws2 := fun rr_8 => (W_M G q M)) C h dX8_readNext_205 ml_X8_118 mX8_good (fun v hv => kX8_good q M v hv) (fun rr_8 => ln_M_M_m_n (G := G) (q := q) (M := M)) rfl rfl rfl rfl rfl rfl rfl rfl (fun rr_8 h => ?_)
  refine X.if_ne (tgt := 212) C h dX8_readNext_208 (by decide) (fun h => ?_) (fun h => ?_)
  · refine X.aload_n C dX8_readNext_212 rfl 0 rfl ?_
    refine X.ldcS (q := ("TableNineModel", 176, "jet", 5)) C (by decide) rfl dX8_readNext_213 ?_
    refine X.callVi (q0 := 0) (As := [.ref (G.2.2.2.1 5)]) (rest := []) (g := fun rr_9 => rr_9.1) (W1 := fun rr_9 => (W_M G q rr_9.2)) (ws2 := fun rr_9 => (W_M G q rr_9.2)) C h dX8_readNext_215 ml_X8_139 mX8_takes (fun v hv => kX8_takes q M 5 v hv) (fun rr_9 => ln_M_M_m_M (G := G) (q := q) (M := M) (NM := rr_9.2)) rfl rfl rfl rfl rfl rfl rfl rfl (fun rr_9 h => ?_)
    refine X.if_eq (tgt := 228) C h dX8_readNext_218 (by decide) (fun h => ?_) (fun h => ?_)
    · refine X.aload_n C dX8_readNext_228 rfl 0 rfl ?_
      refine X.ldcS (q := ("TableNineModel", 178, "size", 12)) C (by decide) rfl dX8_readNext_229 ?_
      refine X.callVi (q0 := 0) (As := [.ref (G.2.2.2.1 12)]) (rest := []) (g := fun rr_10 => rr_10.1) (W1 := fun rr_10 => (W_M G q rr_10.2)) (ws2 := fun rr_10 => (W_M G q rr_10.2)) C h dX8_readNext_231 ml_X8_139 mX8_takes (fun v hv => kX8_takes q rr_9.2 12 v hv) (fun rr_10 => ln_M_M_m_M (G := G) (q := q) (M := rr_9.2) (NM := rr_10.2)) rfl rfl rfl rfl rfl rfl rfl rfl (fun rr_10 h => ?_)
      refine X.if_eq (tgt := 244) C h dX8_readNext_234 (by decide) (fun h => ?_) (fun h => ?_)
      · refine X.aload_n C dX8_readNext_244 rfl 0 rfl ?_
        refine X.ldcS (q := ("TableNineModel", 179, "table", 14)) C (by decide) rfl dX8_readNext_245 ?_
        refine X.callVi (q0 := 0) (As := [.ref (G.2.2.2.1 14)]) (rest := []) (g := fun rr_11 => rr_11.1) (W1 := fun rr_11 => (W_M G q rr_11.2)) (ws2 := fun rr_11 => (W_M G q rr_11.2)) C h dX8_readNext_247 ml_X8_139 mX8_takes (fun v hv => kX8_takes q rr_10.2 14 v hv) (fun rr_11 => ln_M_M_m_M (G := G) (q := q) (M := rr_10.2) (NM := rr_11.2)) rfl rfl rfl rfl rfl rfl rfl rfl (fun rr_11 h => ?_)
        refine X.if_eq (tgt := 260) C h dX8_readNext_250 (by decide) (fun h => ?_) (fun h => ?_)
        · refine X.aload_n C dX8_readNext_260 rfl 0 rfl ?_
          refine X.ldcS (q := ("TableNineModel", 185, "rule", 10)) C (by decide) rfl dX8_readNext_261 ?_
          refine X.callVi (q0 := 0) (As := [.ref (G.2.2.2.1 10)]) (rest := []) (g := fun rr_12 => rr_12.1) (W1 := fun rr_12 => (W_M G q rr_12.2)) (ws2 := fun rr_12 => (W_M G q rr_12.2)) C h dX8_readNext_263 ml_X8_139 mX8_takes (fun v hv => kX8_takes q rr_11.2 10 v hv) (fun rr_12 => ln_M_M_m_M (G := G) (q := q) (M := rr_11.2) (NM := rr_12.2)) rfl rfl rfl rfl rfl rfl rfl rfl (fun rr_12 h => ?_)
          refine X.if_eq (tgt := 276) C h dX8_readNext_266 (by decide) (fun h => ?_) (fun h => ?_)
          · refine X.aload_n C dX8_readNext_276 rfl 0 rfl ?_
            refine X.ldcS (q := ("TableNineModel", 181, "road", 9)) C (by decide) rfl dX8_readNext_277 ?_
            refine X.callVi (q0 := 0) (As := [.ref (G.2.2.2.1 9)]) (rest := []) (g := fun rr_13 => rr_13.1) (W1 := fun rr_13 => (W_M G q rr_13.2)) (ws2 := fun rr_13 => (W_M G q rr_13.2)) C h dX8_readNext_279 ml_X8_139 mX8_takes (fun v hv => kX8_takes q rr_12.2 9 v hv) (fun rr_13 => ln_M_M_m_M (G := G) (q := q) (M := rr_12.2) (NM := rr_13.2)) rfl rfl rfl rfl rfl rfl rfl rfl (fun rr_13 h => ?_)
            refine X.if_eq (tgt := 319) C h dX8_readNext_282 (by decide) (fun h => ?_) (fun h => ?_)
            · refine X.aload_n C dX8_readNext_319 rfl 0 rfl ?_
              refine X.callVv (q0 := 0) (As := []) (rest := []) (W1 := fun rr_14 => (W_M G q rr_14)) (ws2 := fun rr_14 => (W_M G q rr_14)) C h dX8_readNext_320 ml_X8_136 mX8_advance (fun v hv => kX8_advance q rr_13.2 v hv) (fun rr_14 => ln_M_M_m_M (G := G) (q := q) (M := rr_13.2) (NM := rr_14)) rfl rfl rfl rfl rfl rfl rfl rfl (fun rr_14 h => ?_)
              refine X.aload_n C dX8_readNext_323 rfl 0 rfl ?_
              refine X.get C dX8_readNext_324 lay_X8 0 rfl rfl 14 (by decide) fl_X8_34 rfl rfl ?_
              refine X.bipush C dX8_readNext_327 (by decide) ?_
              refine X.dup2 C dX8_readNext_329 rfl rfl ?_
              refine X.iald C h dX8_readNext_330 6 rfl (fun h => ?_)
              refine X.iconst C dX8_readNext_331 ?_
              refine X.ior C dX8_readNext_332 ?_
              refine X.iast (ws2 := (W_M G q (up2 rr_14 14 (ix 13) (jor (rr_14 14 (ix 13)) 4)))) C h dX8_readNext_333 6 rfl rfl (fun h => ?_)
              refine X.nameS (ws := fun M_15 => (W_M G q M_15)) h (fun M_15 h => ?_)
              refine X.aload_n C dX8_readNext_334 rfl 0 rfl ?_
              refine X.get C dX8_readNext_335 lay_X8 0 rfl rfl 14 (by decide) fl_X8_34 rfl rfl ?_
              refine X.bipush C dX8_readNext_338 (by decide) ?_
              refine X.aload_n C dX8_readNext_340 rfl 0 rfl ?_
              refine X.ldcS (q := ("TableNineModel", 199, "lag", 6)) C (by decide) rfl dX8_readNext_341 ?_
              refine X.iconst C dX8_readNext_343 ?_
              refine X.bipush C dX8_readNext_344 (by decide) ?_
              refine X.callVi (q0 := 0) (As := [.ref (G.2.2.2.1 6), vi 0, vi 20]) (rest := [vi 8, .ref (q 14)]) (g := fun rr_16 => rr_16.1) (W1 := fun rr_16 => (W_M G q rr_16.2)) (ws2 := fun rr_16 => (W_M G q rr_16.2)) C h dX8_readNext_346 ml_X8_157 mX8_told (fun v hv => kX8_told q M_15 6 0 20 v hv) (fun rr_16 => ln_M_M_m_M (G := G) (q := q) (M := M_15) (NM := rr_16.2)) rfl rfl rfl rfl rfl rfl rfl rfl (fun rr_16 h => ?_)
              refine X.iast (ws2 := (W_M G q (up2 rr_16.2 14 (ix 8) rr_16.1))) C h dX8_readNext_349 6 rfl rfl (fun h => ?_)
              refine X.nameS (ws := fun M_17 => (W_M G q M_17)) h (fun M_17 h => ?_)
              refine X.aload_n C dX8_readNext_350 rfl 0 rfl ?_
              refine X.get C dX8_readNext_351 lay_X8 0 rfl rfl 14 (by decide) fl_X8_34 rfl rfl ?_
              refine X.bipush C dX8_readNext_354 (by decide) ?_
              refine X.aload_n C dX8_readNext_356 rfl 0 rfl ?_
              refine X.ldcS (q := ("TableNineModel", 201, "climb", 1)) C (by decide) rfl dX8_readNext_357 ?_
              refine X.iconst C dX8_readNext_359 ?_
              refine X.bipush C dX8_readNext_360 (by decide) ?_
              refine X.callVi (q0 := 0) (As := [.ref (G.2.2.2.1 1), vi 1, vi 60]) (rest := [vi 9, .ref (q 14)]) (g := fun rr_18 => rr_18.1) (W1 := fun rr_18 => (W_M G q rr_18.2)) (ws2 := fun rr_18 => (W_M G q rr_18.2)) C h dX8_readNext_362 ml_X8_157 mX8_told (fun v hv => kX8_told q M_17 1 1 60 v hv) (fun rr_18 => ln_M_M_m_M (G := G) (q := q) (M := M_17) (NM := rr_18.2)) rfl rfl rfl rfl rfl rfl rfl rfl (fun rr_18 h => ?_)
              refine X.iast (ws2 := (W_M G q (up2 rr_18.2 14 (ix 9) rr_18.1))) C h dX8_readNext_365 6 rfl rfl (fun h => ?_)
              refine X.nameS (ws := fun M_19 => (W_M G q M_19)) h (fun M_19 h => ?_)
              cases h
              exact X.vret C dX8_readNext_366 (Nat.zero_le _) (Nat.zero_le _)
            refine X.aload_n C dX8_readNext_285 rfl 0 rfl ?_
            refine X.get C dX8_readNext_286 lay_X8 0 rfl rfl 14 (by decide) fl_X8_34 rfl rfl ?_
            refine X.bipush C dX8_readNext_289 (by decide) ?_
            refine X.dup2 C dX8_readNext_291 rfl rfl ?_
            refine X.iald C h dX8_readNext_292 6 rfl (fun h => ?_)
            refine X.iconst C dX8_readNext_293 ?_
            refine X.ior C dX8_readNext_294 ?_
            refine X.iast (ws2 := (W_M G q (up2 rr_13.2 14 (ix 13) (jor (rr_13.2 14 (ix 13)) 2)))) C h dX8_readNext_295 6 rfl rfl (fun h => ?_)
            refine X.nameS (ws := fun M_20 => (W_M G q M_20)) h (fun M_20 h => ?_)
            refine X.aload_n C dX8_readNext_296 rfl 0 rfl ?_
            refine X.get C dX8_readNext_297 lay_X8 0 rfl rfl 14 (by decide) fl_X8_34 rfl rfl ?_
            refine X.bipush C dX8_readNext_300 (by decide) ?_
            refine X.aload_n C dX8_readNext_302 rfl 0 rfl ?_
            refine X.iconst C dX8_readNext_303 ?_
            refine X.aload_n C dX8_readNext_304 rfl 0 rfl ?_
            refine X.get C dX8_readNext_305 lay_X8 0 rfl rfl 14 (by decide) fl_X8_34 rfl rfl ?_
            refine X.iconst C dX8_readNext_308 ?_
            refine X.iald C h dX8_readNext_309 6 rfl (fun h => ?_)
            refine X.iconst C dX8_readNext_310 ?_
            refine X.isub C dX8_readNext_311 ?_
            refine X.callVi (q0 := 0) (As := [vi 0, vi ((M_20 14 (ix 2)) - 1)]) (rest := [vi 7, .ref (q 14)]) (g := fun rr_21 => rr_21.1) (W1 := fun rr_21 => (W_M G q rr_21.2)) (ws2 := fun rr_21 => (W_M G q rr_21.2)) C h dX8_readNext_312 ml_X8_150 mX8_number (fun v hv => kX8_number q M_20 0 ((M_20 14 (ix 2)) - 1) v hv) (fun rr_21 => ln_M_M_m_M (G := G) (q := q) (M := M_20) (NM := rr_21.2)) rfl rfl rfl rfl rfl rfl rfl rfl (fun rr_21 h => ?_)
            refine X.iast (ws2 := (W_M G q (up2 rr_21.2 14 (ix 7) rr_21.1))) C h dX8_readNext_315 6 rfl rfl (fun h => ?_)
            refine X.nameS (ws := fun M_22 => (W_M G q M_22)) h (fun M_22 h => ?_)
            refine X.goto (tgt := 366) C dX8_readNext_316 (by decide) ?_
            cases h
            exact X.vret C dX8_readNext_366 (Nat.zero_le _) (Nat.zero_le _)
          refine X.aload_n C dX8_readNext_269 rfl 0 rfl ?_
          refine X.callVv (q0 := 0) (As := []) (rest := []) (W1 := fun rr_23 => (W_M G q rr_23)) (ws2 := fun rr_23 => (W_M G q rr_23)) C h dX8_readNext_270 ml_X8_196 mX8_readRule (fun v hv => kX8_readRule q rr_12.2 v hv) (fun rr_23 => ln_M_M_m_M (G := G) (q := q) (M := rr_12.2) (NM := rr_23)) rfl rfl rfl rfl rfl rfl rfl rfl (fun rr_23 h => ?_)
          refine X.goto (tgt := 366) C dX8_readNext_273 (by decide) ?_
          cases h
          exact X.vret C dX8_readNext_366 (Nat.zero_le _) (Nat.zero_le _)
        refine X.aload_n C dX8_readNext_253 rfl 0 rfl ?_
        refine X.callVv (q0 := 0) (As := []) (rest := []) (W1 := fun rr_24 => (W_M G q rr_24)) (ws2 := fun rr_24 => (W_M G q rr_24)) C h dX8_readNext_254 ml_X8_193 mX8_readTable (fun v hv => kX8_readTable q rr_11.2 v hv) (fun rr_24 => ln_M_M_m_M (G := G) (q := q) (M := rr_11.2) (NM := rr_24)) rfl rfl rfl rfl rfl rfl rfl rfl (fun rr_24 h => ?_)
        refine X.goto (tgt := 366) C dX8_readNext_257 (by decide) ?_
        cases h
        exact X.vret C dX8_readNext_366 (Nat.zero_le _) (Nat.zero_le _)
      refine X.aload_n C dX8_readNext_237 rfl 0 rfl ?_
      refine X.callVv (q0 := 0) (As := []) (rest := []) (W1 := fun rr_25 => (W_M G q rr_25)) (ws2 := fun rr_25 => (W_M G q rr_25)) C h dX8_readNext_238 ml_X8_190 mX8_readSize (fun v hv => kX8_readSize q rr_10.2 v hv) (fun rr_25 => ln_M_M_m_M (G := G) (q := q) (M := rr_10.2) (NM := rr_25)) rfl rfl rfl rfl rfl rfl rfl rfl (fun rr_25 h => ?_)
      refine X.goto (tgt := 366) C dX8_readNext_241 (by decide) ?_
      cases h
      exact X.vret C dX8_readNext_366 (Nat.zero_le _) (Nat.zero_le _)
    refine X.aload_n C dX8_readNext_221 rfl 0 rfl ?_
    refine X.callVv (q0 := 0) (As := []) (rest := []) (W1 := fun rr_26 => (W_M G q rr_26)) (ws2 := fun rr_26 => (W_M G q rr_26)) C h dX8_readNext_222 ml_X8_187 mX8_readJet (fun v hv => kX8_readJet q rr_9.2 v hv) (fun rr_26 => ln_M_M_m_M (G := G) (q := q) (M := rr_9.2) (NM := rr_26)) rfl rfl rfl rfl rfl rfl rfl rfl (fun rr_26 h => ?_)
    refine X.goto (tgt := 366) C dX8_readNext_225 (by decide) ?_
    cases h
    exact X.vret C dX8_readNext_366 (Nat.zero_le _) (Nat.zero_le _)
  cases h
  exact X.vret C dX8_readNext_211 (Nat.zero_le _) (Nat.zero_le _)
set_option maxHeartbeats 4000000 in
set_option maxRecDepth 100000 in
theorem xX8_readNext_199 {κ : Kx} {G : GT} (C : Cx κ G yX8_readNext cX8_readNext none 2 rX8_readNext) (q : Nat → Nat) (M : Ob) (v : (Ob)) (h : jX8_readNext_199 M = some v) : X κ G 2 (W_M G q M) 199 [(0, .ref (q 31))] [] 0 0 (QM κ G (W_M G q v) none rX8_readNext.cells rX8_readNext.slots) := by
  unfold jX8_readNext_199 at h
  refine X.aload_n C dX8_readNext_199 rfl 0 rfl ?_
  refine X.iconst C dX8_readNext_200 ?_
  refine X.callVv (q0 := 0) (As := [vi 3]) (rest := []) (W1 := fun rr_27 => (W_M G q rr_27)) (ws2 := fun rr_27 => (W_M G q rr_27)) C h dX8_readNext_201 ml_X8_142 mX8_errs (fun v hv => kX8_errs q M 3 v hv) (fun rr_27 => ln_M_M_m_M (G := G) (q := q) (M := M) (NM := rr_27)) rfl rfl rfl rfl rfl rfl rfl rfl (fun rr_27 h => ?_)
  refine X.sub [0] rfl ?_
  exact xX8_readNext_204 C q rr_27 v h
set_option maxHeartbeats 4000000 in
set_option maxRecDepth 100000 in
theorem xX8_readNext_178 {κ : Kx} {G : GT} (C : Cx κ G yX8_readNext cX8_readNext none 2 rX8_readNext) (q : Nat → Nat) (M : Ob) (v : (Ob)) (h : jX8_readNext_178 M = some v) : X κ G 2 (W_M G q M) 178 [(0, .ref (q 31))] [] 0 0 (QM κ G (W_M G q v) none rX8_readNext.cells rX8_readNext.slots) := by
  unfold jX8_readNext_178 at h
  refine X.aload_n C dX8_readNext_178 rfl 0 rfl ?_
  refine X.ldcS (q := ("TableNineModel", 185, "rule", 10)) C (by decide) rfl dX8_readNext_179 ?_
  refine X.callVi (q0 := 0) (As := [.ref (G.2.2.2.1 10)]) (rest := []) (g := fun rr_7 => rr_7) (W1 := fun rr_7 => (W_M G q M)) (ws2 := fun rr_7 => (W_M G q M)) C h dX8_readNext_181 ml_X8_132 mX8_is (fun v hv => kX8_is q M 10 v hv) (fun rr_7 => ln_M_M_m_n (G := G) (q := q) (M := M)) rfl rfl rfl rfl rfl rfl rfl rfl (fun rr_7 h => ?_)
  refine X.if_eq (tgt := 204) C h dX8_readNext_184 (by decide) (fun h => ?_) (fun h => ?_)
  · refine X.sub [0] rfl ?_
    exact xX8_readNext_204 C q M v h
  refine X.aload_n C dX8_readNext_187 rfl 0 rfl ?_
  refine X.get C dX8_readNext_188 lay_X8 0 rfl rfl 14 (by decide) fl_X8_34 rfl rfl ?_
  refine X.bipush C dX8_readNext_191 (by decide) ?_
  refine X.iald C h dX8_readNext_193 6 rfl (fun h => ?_)
  refine X.bipush C dX8_readNext_194 (by decide) ?_
  refine X.icmp_ne (tgt := 204) C h dX8_readNext_196 (by decide) (fun h => ?_) (fun h => ?_)
  · refine X.sub [0] rfl ?_
    exact xX8_readNext_204 C q M v h
  refine X.sub [0] rfl ?_
  exact xX8_readNext_199 C q M v h
set_option maxHeartbeats 4000000 in
set_option maxRecDepth 100000 in
theorem xX8_readNext_157 {κ : Kx} {G : GT} (C : Cx κ G yX8_readNext cX8_readNext none 2 rX8_readNext) (q : Nat → Nat) (M : Ob) (v : (Ob)) (h : jX8_readNext_157 M = some v) : X κ G 2 (W_M G q M) 157 [(0, .ref (q 31))] [] 0 0 (QM κ G (W_M G q v) none rX8_readNext.cells rX8_readNext.slots) := by
  unfold jX8_readNext_157 at h
  refine X.aload_n C dX8_readNext_157 rfl 0 rfl ?_
  refine X.ldcS (q := ("TableNineModel", 179, "table", 14)) C (by decide) rfl dX8_readNext_158 ?_
  refine X.callVi (q0 := 0) (As := [.ref (G.2.2.2.1 14)]) (rest := []) (g := fun rr_6 => rr_6) (W1 := fun rr_6 => (W_M G q M)) (ws2 := fun rr_6 => (W_M G q M)) C h dX8_readNext_160 ml_X8_132 mX8_is (fun v hv => kX8_is q M 14 v hv) (fun rr_6 => ln_M_M_m_n (G := G) (q := q) (M := M)) rfl rfl rfl rfl rfl rfl rfl rfl (fun rr_6 h => ?_)
  refine X.if_eq (tgt := 178) C h dX8_readNext_163 (by decide) (fun h => ?_) (fun h => ?_)
  · refine X.sub [0] rfl ?_
    exact xX8_readNext_178 C q M v h
  refine X.aload_n C dX8_readNext_166 rfl 0 rfl ?_
  refine X.get C dX8_readNext_167 lay_X8 0 rfl rfl 14 (by decide) fl_X8_34 rfl rfl ?_
  refine X.bipush C dX8_readNext_170 (by decide) ?_
  refine X.iald C h dX8_readNext_172 6 rfl (fun h => ?_)
  refine X.bipush C dX8_readNext_173 (by decide) ?_
  refine X.icmp_eq (tgt := 199) C h dX8_readNext_175 (by decide) (fun h => ?_) (fun h => ?_)
  · refine X.sub [0] rfl ?_
    exact xX8_readNext_199 C q M v h
  refine X.sub [0] rfl ?_
  exact xX8_readNext_178 C q M v h
set_option maxHeartbeats 4000000 in
set_option maxRecDepth 100000 in
theorem xX8_readNext_137 {κ : Kx} {G : GT} (C : Cx κ G yX8_readNext cX8_readNext none 2 rX8_readNext) (q : Nat → Nat) (M : Ob) (v : (Ob)) (h : jX8_readNext_137 M = some v) : X κ G 2 (W_M G q M) 137 [(0, .ref (q 31))] [] 0 0 (QM κ G (W_M G q v) none rX8_readNext.cells rX8_readNext.slots) := by
  unfold jX8_readNext_137 at h
  refine X.aload_n C dX8_readNext_137 rfl 0 rfl ?_
  refine X.ldcS (q := ("TableNineModel", 178, "size", 12)) C (by decide) rfl dX8_readNext_138 ?_
  refine X.callVi (q0 := 0) (As := [.ref (G.2.2.2.1 12)]) (rest := []) (g := fun rr_5 => rr_5) (W1 := fun rr_5 => (W_M G q M)) (ws2 := fun rr_5 => (W_M G q M)) C h dX8_readNext_140 ml_X8_132 mX8_is (fun v hv => kX8_is q M 12 v hv) (fun rr_5 => ln_M_M_m_n (G := G) (q := q) (M := M)) rfl rfl rfl rfl rfl rfl rfl rfl (fun rr_5 h => ?_)
  refine X.if_eq (tgt := 157) C h dX8_readNext_143 (by decide) (fun h => ?_) (fun h => ?_)
  · refine X.sub [0] rfl ?_
    exact xX8_readNext_157 C q M v h
  refine X.aload_n C dX8_readNext_146 rfl 0 rfl ?_
  refine X.get C dX8_readNext_147 lay_X8 0 rfl rfl 14 (by decide) fl_X8_34 rfl rfl ?_
  refine X.bipush C dX8_readNext_150 (by decide) ?_
  refine X.iald C h dX8_readNext_152 6 rfl (fun h => ?_)
  refine X.iconst C dX8_readNext_153 ?_
  refine X.icmp_eq (tgt := 199) C h dX8_readNext_154 (by decide) (fun h => ?_) (fun h => ?_)
  · refine X.sub [0] rfl ?_
    exact xX8_readNext_199 C q M v h
  refine X.sub [0] rfl ?_
  exact xX8_readNext_157 C q M v h
set_option maxHeartbeats 4000000 in
set_option maxRecDepth 100000 in
theorem xX8_readNext_132 {κ : Kx} {G : GT} (C : Cx κ G yX8_readNext cX8_readNext none 2 rX8_readNext) (q : Nat → Nat) (M : Ob) (v : (Ob)) (h : jX8_readNext_132 M = some v) : X κ G 2 (W_M G q M) 132 [(0, .ref (q 31))] [] 0 0 (QM κ G (W_M G q v) none rX8_readNext.cells rX8_readNext.slots) := by
  unfold jX8_readNext_132 at h
  refine X.aload_n C dX8_readNext_132 rfl 0 rfl ?_
  refine X.iconst C dX8_readNext_133 ?_
  refine X.callVv (q0 := 0) (As := [vi 2]) (rest := []) (W1 := fun rr_28 => (W_M G q rr_28)) (ws2 := fun rr_28 => (W_M G q rr_28)) C h dX8_readNext_134 ml_X8_142 mX8_errs (fun v hv => kX8_errs q M 2 v hv) (fun rr_28 => ln_M_M_m_M (G := G) (q := q) (M := M) (NM := rr_28)) rfl rfl rfl rfl rfl rfl rfl rfl (fun rr_28 h => ?_)
  refine X.sub [0] rfl ?_
  exact xX8_readNext_137 C q rr_28 v h
set_option maxHeartbeats 4000000 in
set_option maxRecDepth 100000 in
theorem xX8_readNext_111 {κ : Kx} {G : GT} (C : Cx κ G yX8_readNext cX8_readNext none 2 rX8_readNext) (q : Nat → Nat) (M : Ob) (v : (Ob)) (h : jX8_readNext_111 M = some v) : X κ G 2 (W_M G q M) 111 [(0, .ref (q 31))] [] 0 0 (QM κ G (W_M G q v) none rX8_readNext.cells rX8_readNext.slots) := by
  unfold jX8_readNext_111 at h
  refine X.aload_n C dX8_readNext_111 rfl 0 rfl ?_
  refine X.ldcS (q := ("TableNineModel", 183, "vane", 15)) C (by decide) rfl dX8_readNext_112 ?_
  refine X.callVi (q0 := 0) (As := [.ref (G.2.2.2.1 15)]) (rest := []) (g := fun rr_4 => rr_4) (W1 := fun rr_4 => (W_M G q M)) (ws2 := fun rr_4 => (W_M G q M)) C h dX8_readNext_114 ml_X8_132 mX8_is (fun v hv => kX8_is q M 15 v hv) (fun rr_4 => ln_M_M_m_n (G := G) (q := q) (M := M)) rfl rfl rfl rfl rfl rfl rfl rfl (fun rr_4 h => ?_)
  refine X.if_eq (tgt := 137) C h dX8_readNext_117 (by decide) (fun h => ?_) (fun h => ?_)
  · refine X.sub [0] rfl ?_
    exact xX8_readNext_137 C q M v h
  refine X.aload_n C dX8_readNext_120 rfl 0 rfl ?_
  refine X.get C dX8_readNext_121 lay_X8 0 rfl rfl 14 (by decide) fl_X8_34 rfl rfl ?_
  refine X.bipush C dX8_readNext_124 (by decide) ?_
  refine X.iald C h dX8_readNext_126 6 rfl (fun h => ?_)
  refine X.iconst C dX8_readNext_127 ?_
  refine X.iand C dX8_readNext_128 ?_
  refine X.if_le (tgt := 137) C h dX8_readNext_129 (by decide) (fun h => ?_) (fun h => ?_)
  · refine X.sub [0] rfl ?_
    exact xX8_readNext_137 C q M v h
  refine X.sub [0] rfl ?_
  exact xX8_readNext_132 C q M v h
set_option maxHeartbeats 4000000 in
set_option maxRecDepth 100000 in
theorem xX8_readNext_90 {κ : Kx} {G : GT} (C : Cx κ G yX8_readNext cX8_readNext none 2 rX8_readNext) (q : Nat → Nat) (M : Ob) (v : (Ob)) (h : jX8_readNext_90 M = some v) : X κ G 2 (W_M G q M) 90 [(0, .ref (q 31))] [] 0 0 (QM κ G (W_M G q v) none rX8_readNext.cells rX8_readNext.slots) := by
  unfold jX8_readNext_90 at h
  refine X.aload_n C dX8_readNext_90 rfl 0 rfl ?_
  refine X.ldcS (q := ("TableNineModel", 181, "road", 9)) C (by decide) rfl dX8_readNext_91 ?_
  refine X.callVi (q0 := 0) (As := [.ref (G.2.2.2.1 9)]) (rest := []) (g := fun rr_3 => rr_3) (W1 := fun rr_3 => (W_M G q M)) (ws2 := fun rr_3 => (W_M G q M)) C h dX8_readNext_93 ml_X8_132 mX8_is (fun v hv => kX8_is q M 9 v hv) (fun rr_3 => ln_M_M_m_n (G := G) (q := q) (M := M)) rfl rfl rfl rfl rfl rfl rfl rfl (fun rr_3 h => ?_)
  refine X.if_eq (tgt := 111) C h dX8_readNext_96 (by decide) (fun h => ?_) (fun h => ?_)
  · refine X.sub [0] rfl ?_
    exact xX8_readNext_111 C q M v h
  refine X.aload_n C dX8_readNext_99 rfl 0 rfl ?_
  refine X.get C dX8_readNext_100 lay_X8 0 rfl rfl 14 (by decide) fl_X8_34 rfl rfl ?_
  refine X.bipush C dX8_readNext_103 (by decide) ?_
  refine X.iald C h dX8_readNext_105 6 rfl (fun h => ?_)
  refine X.iconst C dX8_readNext_106 ?_
  refine X.iand C dX8_readNext_107 ?_
  refine X.if_gt (tgt := 132) C h dX8_readNext_108 (by decide) (fun h => ?_) (fun h => ?_)
  · refine X.sub [0] rfl ?_
    exact xX8_readNext_132 C q M v h
  refine X.sub [0] rfl ?_
  exact xX8_readNext_111 C q M v h
set_option maxHeartbeats 4000000 in
set_option maxRecDepth 100000 in
theorem xX8_readNext_69 {κ : Kx} {G : GT} (C : Cx κ G yX8_readNext cX8_readNext none 2 rX8_readNext) (q : Nat → Nat) (M : Ob) (v : (Ob)) (h : jX8_readNext_69 M = some v) : X κ G 2 (W_M G q M) 69 [(0, .ref (q 31))] [] 0 0 (QM κ G (W_M G q v) none rX8_readNext.cells rX8_readNext.slots) := by
  unfold jX8_readNext_69 at h
  refine X.aload_n C dX8_readNext_69 rfl 0 rfl ?_
  refine X.ldcS (q := ("TableNineModel", 176, "jet", 5)) C (by decide) rfl dX8_readNext_70 ?_
  refine X.callVi (q0 := 0) (As := [.ref (G.2.2.2.1 5)]) (rest := []) (g := fun rr_2 => rr_2) (W1 := fun rr_2 => (W_M G q M)) (ws2 := fun rr_2 => (W_M G q M)) C h dX8_readNext_72 ml_X8_132 mX8_is (fun v hv => kX8_is q M 5 v hv) (fun rr_2 => ln_M_M_m_n (G := G) (q := q) (M := M)) rfl rfl rfl rfl rfl rfl rfl rfl (fun rr_2 h => ?_)
  refine X.if_eq (tgt := 90) C h dX8_readNext_75 (by decide) (fun h => ?_) (fun h => ?_)
  · refine X.sub [0] rfl ?_
    exact xX8_readNext_90 C q M v h
  refine X.aload_n C dX8_readNext_78 rfl 0 rfl ?_
  refine X.get C dX8_readNext_79 lay_X8 0 rfl rfl 14 (by decide) fl_X8_34 rfl rfl ?_
  refine X.bipush C dX8_readNext_82 (by decide) ?_
  refine X.iald C h dX8_readNext_84 6 rfl (fun h => ?_)
  refine X.iconst C dX8_readNext_85 ?_
  refine X.iand C dX8_readNext_86 ?_
  refine X.if_gt (tgt := 132) C h dX8_readNext_87 (by decide) (fun h => ?_) (fun h => ?_)
  · refine X.sub [0] rfl ?_
    exact xX8_readNext_132 C q M v h
  refine X.sub [0] rfl ?_
  exact xX8_readNext_90 C q M v h
set_option maxHeartbeats 4000000 in
set_option maxRecDepth 100000 in
theorem xX8_readNext_59 {κ : Kx} {G : GT} (C : Cx κ G yX8_readNext cX8_readNext none 2 rX8_readNext) (q : Nat → Nat) (M : Ob) (lt0 : Int) (v : (Ob)) (h : jX8_readNext_59 M lt0 = some v) : X κ G 2 (W_M G q M) 59 [(0, .ref (q 31))] [vi lt0] 0 0 (QM κ G (W_M G q v) none rX8_readNext.cells rX8_readNext.slots) := by
  unfold jX8_readNext_59 at h
  refine X.istore_n (lv2 := [(1, vi lt0), (0, .ref (q 31))]) C dX8_readNext_59 rfl (by decide) rfl ?_
  refine X.iload_n C dX8_readNext_60 rfl 0 rfl ?_
  refine X.if_ne (tgt := 69) C h dX8_readNext_61 (by decide) (fun h => ?_) (fun h => ?_)
  · refine X.sub [1] rfl ?_
    exact xX8_readNext_69 C q M v h
  refine X.aload_n C dX8_readNext_64 rfl 1 rfl ?_
  refine X.iconst C dX8_readNext_65 ?_
  refine X.callVv (q0 := 0) (As := [vi 1]) (rest := []) (W1 := fun rr_29 => (W_M G q rr_29)) (ws2 := fun rr_29 => (W_M G q rr_29)) C h dX8_readNext_66 ml_X8_142 mX8_errs (fun v hv => kX8_errs q M 1 v hv) (fun rr_29 => ln_M_M_m_M (G := G) (q := q) (M := M) (NM := rr_29)) rfl rfl rfl rfl rfl rfl rfl rfl (fun rr_29 h => ?_)
  refine X.sub [1] rfl ?_
  exact xX8_readNext_69 C q rr_29 v h
set_option maxHeartbeats 4000000 in
set_option maxRecDepth 100000 in
theorem xX8_readNext_54 {κ : Kx} {G : GT} (C : Cx κ G yX8_readNext cX8_readNext none 2 rX8_readNext) (q : Nat → Nat) (M : Ob) (v : (Ob)) (h : jX8_readNext_54 M = some v) : X κ G 2 (W_M G q M) 54 [(0, .ref (q 31))] [] 0 0 (QM κ G (W_M G q v) none rX8_readNext.cells rX8_readNext.slots) := by
  unfold jX8_readNext_54 at h
  refine X.iconst C dX8_readNext_54 ?_
  refine X.goto (tgt := 59) C dX8_readNext_55 (by decide) ?_
  refine X.sub [0] rfl ?_
  exact xX8_readNext_59 C q M 1 v h
set_option maxHeartbeats 4000000 in
set_option maxRecDepth 100000 in
theorem kX8_readNext {l : Launch} {G : GT} (q : Nat → Nat) (M : Ob) (v : (Ob)) (h : fX8_readNext M = some v) : CT l G yX8_readNext cX8_readNext 2 none rX8_readNext [.ref (q 31)] (W_M G q M) (W_M G q v) none := by
  unfold fX8_readNext at h
  refine CT.of (by decide) (Nat.le_of_ble_eq_true rfl) rfl (fun κ _ C => ?_)
  refine X.aload_n C dX8_readNext_0 rfl 0 rfl ?_
  refine X.ldcS (q := ("TableNineModel", 176, "jet", 5)) C (by decide) rfl dX8_readNext_1 ?_
  refine X.callVi (q0 := 0) (As := [.ref (G.2.2.2.1 5)]) (rest := []) (g := fun rr_1 => rr_1) (W1 := fun rr_1 => (W_M G q M)) (ws2 := fun rr_1 => (W_M G q M)) C h dX8_readNext_3 ml_X8_132 mX8_is (fun v hv => kX8_is q M 5 v hv) (fun rr_1 => ln_M_M_m_n (G := G) (q := q) (M := M)) rfl rfl rfl rfl rfl rfl rfl rfl (fun rr_1 h => ?_)
  refine X.if_ne (tgt := 54) C h dX8_readNext_6 (by decide) (fun h => ?_) (fun h => ?_)
  · refine X.sub [0] rfl ?_
    exact xX8_readNext_54 C q M v h
  refine X.aload_n C dX8_readNext_9 rfl 0 rfl ?_
  refine X.ldcS (q := ("TableNineModel", 178, "size", 12)) C (by decide) rfl dX8_readNext_10 ?_
  refine X.callVi (q0 := 0) (As := [.ref (G.2.2.2.1 12)]) (rest := []) (g := fun rr_30 => rr_30) (W1 := fun rr_30 => (W_M G q M)) (ws2 := fun rr_30 => (W_M G q M)) C h dX8_readNext_12 ml_X8_132 mX8_is (fun v hv => kX8_is q M 12 v hv) (fun rr_30 => ln_M_M_m_n (G := G) (q := q) (M := M)) rfl rfl rfl rfl rfl rfl rfl rfl (fun rr_30 h => ?_)
  refine X.if_ne (tgt := 54) C h dX8_readNext_15 (by decide) (fun h => ?_) (fun h => ?_)
  · refine X.sub [0] rfl ?_
    exact xX8_readNext_54 C q M v h
  refine X.aload_n C dX8_readNext_18 rfl 0 rfl ?_
  refine X.ldcS (q := ("TableNineModel", 179, "table", 14)) C (by decide) rfl dX8_readNext_19 ?_
  refine X.callVi (q0 := 0) (As := [.ref (G.2.2.2.1 14)]) (rest := []) (g := fun rr_31 => rr_31) (W1 := fun rr_31 => (W_M G q M)) (ws2 := fun rr_31 => (W_M G q M)) C h dX8_readNext_21 ml_X8_132 mX8_is (fun v hv => kX8_is q M 14 v hv) (fun rr_31 => ln_M_M_m_n (G := G) (q := q) (M := M)) rfl rfl rfl rfl rfl rfl rfl rfl (fun rr_31 h => ?_)
  refine X.if_ne (tgt := 54) C h dX8_readNext_24 (by decide) (fun h => ?_) (fun h => ?_)
  · refine X.sub [0] rfl ?_
    exact xX8_readNext_54 C q M v h
  refine X.aload_n C dX8_readNext_27 rfl 0 rfl ?_
  refine X.ldcS (q := ("TableNineModel", 181, "road", 9)) C (by decide) rfl dX8_readNext_28 ?_
  refine X.callVi (q0 := 0) (As := [.ref (G.2.2.2.1 9)]) (rest := []) (g := fun rr_32 => rr_32) (W1 := fun rr_32 => (W_M G q M)) (ws2 := fun rr_32 => (W_M G q M)) C h dX8_readNext_30 ml_X8_132 mX8_is (fun v hv => kX8_is q M 9 v hv) (fun rr_32 => ln_M_M_m_n (G := G) (q := q) (M := M)) rfl rfl rfl rfl rfl rfl rfl rfl (fun rr_32 h => ?_)
  refine X.if_ne (tgt := 54) C h dX8_readNext_33 (by decide) (fun h => ?_) (fun h => ?_)
  · refine X.sub [0] rfl ?_
    exact xX8_readNext_54 C q M v h
  refine X.aload_n C dX8_readNext_36 rfl 0 rfl ?_
  refine X.ldcS (q := ("TableNineModel", 183, "vane", 15)) C (by decide) rfl dX8_readNext_37 ?_
  refine X.callVi (q0 := 0) (As := [.ref (G.2.2.2.1 15)]) (rest := []) (g := fun rr_33 => rr_33) (W1 := fun rr_33 => (W_M G q M)) (ws2 := fun rr_33 => (W_M G q M)) C h dX8_readNext_39 ml_X8_132 mX8_is (fun v hv => kX8_is q M 15 v hv) (fun rr_33 => ln_M_M_m_n (G := G) (q := q) (M := M)) rfl rfl rfl rfl rfl rfl rfl rfl (fun rr_33 h => ?_)
  refine X.if_ne (tgt := 54) C h dX8_readNext_42 (by decide) (fun h => ?_) (fun h => ?_)
  · refine X.sub [0] rfl ?_
    exact xX8_readNext_54 C q M v h
  refine X.aload_n C dX8_readNext_45 rfl 0 rfl ?_
  refine X.ldcS (q := ("TableNineModel", 185, "rule", 10)) C (by decide) rfl dX8_readNext_46 ?_
  refine X.callVi (q0 := 0) (As := [.ref (G.2.2.2.1 10)]) (rest := []) (g := fun rr_34 => rr_34) (W1 := fun rr_34 => (W_M G q M)) (ws2 := fun rr_34 => (W_M G q M)) C h dX8_readNext_48 ml_X8_132 mX8_is (fun v hv => kX8_is q M 10 v hv) (fun rr_34 => ln_M_M_m_n (G := G) (q := q) (M := M)) rfl rfl rfl rfl rfl rfl rfl rfl (fun rr_34 h => ?_)
  refine X.if_eq (tgt := 58) C h dX8_readNext_51 (by decide) (fun h => ?_) (fun h => ?_)
  · refine X.iconst C dX8_readNext_58 ?_
    refine X.sub [0] rfl ?_
    exact xX8_readNext_59 C q M 0 v h
  refine X.sub [0] rfl ?_
  exact xX8_readNext_54 C q M v h
def rX8_readLine : Room := { frames := 11, cells := 0, slots := 0, locals := 291 }
theorem mX8_readLine : MV yX8_readLine cX8_readLine 1 none 0 := ⟨cd_X8_readLine, in_X8, ⟨⟨by decide, by decide⟩, by decide +kernel⟩, im_X8_readLine, se_X8_readLine⟩
set_option maxHeartbeats 4000000 in
set_option maxRecDepth 100000 in
theorem xX8_readLine_51 {κ : Kx} {G : GT} (C : Cx κ G yX8_readLine cX8_readLine none 1 rX8_readLine) (q : Nat → Nat) (M : Ob) (v : (Ob)) (h : jX8_readLine_51 M = some v) : X κ G 1 (W_M G q M) 51 [(0, .ref (q 31))] [] 0 0 (QM κ G (W_M G q v) none rX8_readLine.cells rX8_readLine.slots) := by
  unfold jX8_readLine_51 at h
  refine X.aload_n C dX8_readLine_51 rfl 0 rfl ?_
  refine X.get C dX8_readLine_52 lay_X8 0 rfl rfl 14 (by decide) fl_X8_34 rfl rfl ?_
  refine X.iconst C dX8_readLine_55 ?_
  refine X.dup2 C dX8_readLine_56 rfl rfl ?_
  refine X.iald C h dX8_readLine_57 6 rfl (fun h => ?_)
  refine X.iconst C dX8_readLine_58 ?_
  refine X.iadd C dX8_readLine_59 ?_
  refine X.iast (ws2 := (W_M G q (up2 M 14 (ix 0) ((M 14 (ix 0)) + 1)))) C h dX8_readLine_60 6 rfl rfl (fun h => ?_)
  refine X.nameS (ws := fun M_4 => (W_M G q M_4)) h (fun M_4 h => ?_)
  cases h
  exact X.vret C dX8_readLine_61 (Nat.zero_le _) (Nat.zero_le _)
set_option maxHeartbeats 4000000 in
set_option maxRecDepth 100000 in
theorem xX8_readLine_40 {κ : Kx} {G : GT} (C : Cx κ G yX8_readLine cX8_readLine none 1 rX8_readLine) (q : Nat → Nat) (M : Ob) (v : (Ob)) (h : jX8_readLine_40 M = some v) : X κ G 1 (W_M G q M) 40 [(0, .ref (q 31))] [] 0 0 (QM κ G (W_M G q v) none rX8_readLine.cells rX8_readLine.slots) := by
  unfold jX8_readLine_40 at h
  refine X.aload_n C dX8_readLine_40 rfl 0 rfl ?_
  refine X.callVi (q0 := 0) (As := []) (rest := []) (g := fun rr_3 => rr_3) (W1 := fun rr_3 => (W_M G q M)) (ws2 := fun rr_3 => (W_M G q M)) C h dX8_readLine_41 ml_X8_118 mX8_good (fun v hv => kX8_good q M v hv) (fun rr_3 => ln_M_M_m_n (G := G) (q := q) (M := M)) rfl rfl rfl rfl rfl rfl rfl rfl (fun rr_3 h => ?_)
  refine X.if_eq (tgt := 51) C h dX8_readLine_44 (by decide) (fun h => ?_) (fun h => ?_)
  · refine X.sub [0] rfl ?_
    exact xX8_readLine_51 C q M v h
  refine X.aload_n C dX8_readLine_47 rfl 0 rfl ?_
  refine X.callVv (q0 := 0) (As := []) (rest := []) (W1 := fun rr_5 => (W_M G q rr_5)) (ws2 := fun rr_5 => (W_M G q rr_5)) C h dX8_readLine_48 ml_X8_136 mX8_advance (fun v hv => kX8_advance q M v hv) (fun rr_5 => ln_M_M_m_M (G := G) (q := q) (M := M) (NM := rr_5)) rfl rfl rfl rfl rfl rfl rfl rfl (fun rr_5 h => ?_)
  refine X.sub [0] rfl ?_
  exact xX8_readLine_51 C q rr_5 v h
set_option maxHeartbeats 4000000 in
set_option maxRecDepth 100000 in
theorem xX8_readLine_20 {κ : Kx} {G : GT} (C : Cx κ G yX8_readLine cX8_readLine none 1 rX8_readLine) (q : Nat → Nat) (M : Ob) (v : (Ob)) (h : jX8_readLine_20 M = some v) : X κ G 1 (W_M G q M) 20 [(0, .ref (q 31))] [] 0 0 (QM κ G (W_M G q v) none rX8_readLine.cells rX8_readLine.slots) := by
  unfold jX8_readLine_20 at h
  refine X.aload_n C dX8_readLine_20 rfl 0 rfl ?_
  refine X.callVi (q0 := 0) (As := []) (rest := []) (g := fun rr_2 => rr_2) (W1 := fun rr_2 => (W_M G q M)) (ws2 := fun rr_2 => (W_M G q M)) C h dX8_readLine_21 ml_X8_118 mX8_good (fun v hv => kX8_good q M v hv) (fun rr_2 => ln_M_M_m_n (G := G) (q := q) (M := M)) rfl rfl rfl rfl rfl rfl rfl rfl (fun rr_2 h => ?_)
  refine X.if_eq (tgt := 40) C h dX8_readLine_24 (by decide) (fun h => ?_) (fun h => ?_)
  · refine X.sub [0] rfl ?_
    exact xX8_readLine_40 C q M v h
  refine X.aload_n C dX8_readLine_27 rfl 0 rfl ?_
  refine X.get C dX8_readLine_28 lay_X8 0 rfl rfl 10 (by decide) fl_X8_95 rfl rfl ?_
  refine X.iconst C dX8_readLine_31 ?_
  refine X.icmp_eq (tgt := 40) C h dX8_readLine_32 (by decide) (fun h => ?_) (fun h => ?_)
  · refine X.sub [0] rfl ?_
    exact xX8_readLine_40 C q M v h
  refine X.aload_n C dX8_readLine_35 rfl 0 rfl ?_
  refine X.iconst C dX8_readLine_36 ?_
  refine X.callVv (q0 := 0) (As := [vi 1]) (rest := []) (W1 := fun rr_6 => (W_M G q rr_6)) (ws2 := fun rr_6 => (W_M G q rr_6)) C h dX8_readLine_37 ml_X8_142 mX8_errs (fun v hv => kX8_errs q M 1 v hv) (fun rr_6 => ln_M_M_m_M (G := G) (q := q) (M := M) (NM := rr_6)) rfl rfl rfl rfl rfl rfl rfl rfl (fun rr_6 h => ?_)
  refine X.sub [0] rfl ?_
  exact xX8_readLine_40 C q rr_6 v h
set_option maxHeartbeats 4000000 in
set_option maxRecDepth 100000 in
theorem kX8_readLine {l : Launch} {G : GT} (q : Nat → Nat) (M : Ob) (v : (Ob)) (h : fX8_readLine M = some v) : CT l G yX8_readLine cX8_readLine 1 none rX8_readLine [.ref (q 31)] (W_M G q M) (W_M G q v) none := by
  unfold fX8_readLine at h
  refine CT.of (by decide) (Nat.le_of_ble_eq_true rfl) rfl (fun κ _ C => ?_)
  refine X.aload_n C dX8_readLine_0 rfl 0 rfl ?_
  refine X.get C dX8_readLine_1 lay_X8 0 rfl rfl 14 (by decide) fl_X8_34 rfl rfl ?_
  refine X.iconst C dX8_readLine_4 ?_
  refine X.iald C h dX8_readLine_5 6 rfl (fun h => ?_)
  refine X.if_ne (tgt := 16) C h dX8_readLine_6 (by decide) (fun h => ?_) (fun h => ?_)
  · refine X.aload_n C dX8_readLine_16 rfl 0 rfl ?_
    refine X.callVv (q0 := 0) (As := []) (rest := []) (W1 := fun rr_1 => (W_M G q rr_1)) (ws2 := fun rr_1 => (W_M G q rr_1)) C h dX8_readLine_17 ml_X8_206 mX8_readNext (fun v hv => kX8_readNext q M v hv) (fun rr_1 => ln_M_M_m_M (G := G) (q := q) (M := M) (NM := rr_1)) rfl rfl rfl rfl rfl rfl rfl rfl (fun rr_1 h => ?_)
    refine X.sub [0] rfl ?_
    exact xX8_readLine_20 C q rr_1 v h
  refine X.aload_n C dX8_readLine_9 rfl 0 rfl ?_
  refine X.callVv (q0 := 0) (As := []) (rest := []) (W1 := fun rr_7 => (W_M G q rr_7)) (ws2 := fun rr_7 => (W_M G q rr_7)) C h dX8_readLine_10 ml_X8_203 mX8_readSquare (fun v hv => kX8_readSquare q M v hv) (fun rr_7 => ln_M_M_m_M (G := G) (q := q) (M := M) (NM := rr_7)) rfl rfl rfl rfl rfl rfl rfl rfl (fun rr_7 h => ?_)
  refine X.goto (tgt := 20) C dX8_readLine_13 (by decide) ?_
  refine X.sub [0] rfl ?_
  exact xX8_readLine_20 C q rr_7 v h
def rX8_square : Room := { frames := 12, cells := 0, slots := 0, locals := 311 }
theorem mX8_square : MV yX8_square cX8_square 2 (some .int) 0 := ⟨cd_X8_square, in_X8, ⟨⟨by decide, by decide⟩, by decide +kernel⟩, im_X8_square, se_X8_square⟩
set_option maxHeartbeats 4000000 in
set_option maxRecDepth 100000 in
theorem xX8_square_39 {κ : Kx} {G : GT} (C : Cx κ G yX8_square cX8_square (some .int) 2 rX8_square) (q : Nat → Nat) (kx0 : Ob → Option (Int × Ob)) (v : (Int × Ob)) (hk0 : ∀ (M : Ob), kx0 M = some v → X κ G 2 (W_M G q M) 60 [(0, .ref (q 31))] [] 0 0 (QM κ G (W_M G q v.2) (some (vi v.1)) rX8_square.cells rX8_square.slots)) : ∀ (n : Nat) (M : Ob), lX8_square_39 kx0 n M = some v → X κ G 2 (W_M G q M) 39 [(0, .ref (q 31))] [] 0 0 (QM κ G (W_M G q v.2) (some (vi v.1)) rX8_square.cells rX8_square.slots) := by
  intro n
  induction n with
  | zero => intro _ h; exact absurd h (fun h => nomatch h)
  | succ n ih =>
    intro M h
    rw [lX8_square_39] at h
    refine X.aload_n C dX8_square_39 rfl 0 rfl ?_
    refine X.callVi (q0 := 0) (As := []) (rest := []) (g := fun rr_8 => rr_8) (W1 := fun rr_8 => (W_M G q M)) (ws2 := fun rr_8 => (W_M G q M)) C h dX8_square_40 ml_X8_118 mX8_good (fun v hv => kX8_good q M v hv) (fun rr_8 => ln_M_M_m_n (G := G) (q := q) (M := M)) rfl rfl rfl rfl rfl rfl rfl rfl (fun rr_8 h => ?_)
    refine X.if_eq (tgt := 60) C h dX8_square_43 (by decide) (fun h => ?_) (fun h => ?_)
    · refine X.sub [0] rfl ?_
      exact hk0 M h
    refine X.aload_n C dX8_square_46 rfl 0 rfl ?_
    refine X.get C dX8_square_47 lay_X8 0 rfl rfl 10 (by decide) fl_X8_95 rfl rfl ?_
    refine X.if_eq (tgt := 60) C h dX8_square_50 (by decide) (fun h => ?_) (fun h => ?_)
    · refine X.sub [0] rfl ?_
      exact hk0 M h
    refine X.aload_n C dX8_square_53 rfl 0 rfl ?_
    refine X.callVv (q0 := 0) (As := []) (rest := []) (W1 := fun rr_9 => (W_M G q rr_9)) (ws2 := fun rr_9 => (W_M G q rr_9)) C h dX8_square_54 ml_X8_209 mX8_readLine (fun v hv => kX8_readLine q M v hv) (fun rr_9 => ln_M_M_m_M (G := G) (q := q) (M := M) (NM := rr_9)) rfl rfl rfl rfl rfl rfl rfl rfl (fun rr_9 h => ?_)
    refine X.goto (tgt := 39) C dX8_square_57 (by decide) ?_
    refine X.sub [0] rfl ?_
    exact ih rr_9 h
set_option maxHeartbeats 4000000 in
set_option maxRecDepth 100000 in
theorem xX8_square_72 {κ : Kx} {G : GT} (C : Cx κ G yX8_square cX8_square (some .int) 2 rX8_square) (q : Nat → Nat) (v : (Int × Ob)) : ∀ (n : Nat) (lx1 : Int) (M : Ob), lX8_square_72 n lx1 M = some v → X κ G 2 (W_M G q M) 72 [(0, .ref (q 31)), (1, vi lx1)] [] 0 0 (QM κ G (W_M G q v.2) (some (vi v.1)) rX8_square.cells rX8_square.slots) := by
  intro n
  induction n with
  | zero => intro _ _ h; exact absurd h (fun h => nomatch h)
  | succ n ih =>
    intro lx1 M h
    rw [lX8_square_72] at h
    refine X.iload_n C dX8_square_72 rfl 1 rfl ?_
    refine X.sipush C dX8_square_73 (by decide) ?_
    refine X.icmp_ge (tgt := 97) C h dX8_square_76 (by decide) (fun h => ?_) (fun h => ?_)
    · refine X.aload_n C dX8_square_97 rfl 0 rfl ?_
      refine X.get C dX8_square_98 lay_X8 0 rfl rfl 1 (by decide) fl_X8_13 rfl rfl ?_
      refine X.iconst C dX8_square_101 ?_
      refine X.iald C h dX8_square_102 1 rfl (fun h => ?_)
      cases h
      exact X.iret C dX8_square_103 (Nat.zero_le _) (Nat.zero_le _)
    refine X.aload_n C dX8_square_79 rfl 0 rfl ?_
    refine X.get C dX8_square_80 lay_X8 0 rfl rfl 1 (by decide) fl_X8_13 rfl rfl ?_
    refine X.iload_n C dX8_square_83 rfl 1 rfl ?_
    refine X.aload_n C dX8_square_84 rfl 0 rfl ?_
    refine X.get C dX8_square_85 lay_X8 0 rfl rfl 14 (by decide) fl_X8_34 rfl rfl ?_
    refine X.iload_n C dX8_square_88 rfl 1 rfl ?_
    refine X.iald C h dX8_square_89 6 rfl (fun h => ?_)
    refine X.iast (ws2 := (W_M G q (up2 M 1 (ix lx1) (M 14 (ix lx1))))) C h dX8_square_90 1 rfl rfl (fun h => ?_)
    refine X.nameS (ws := fun M_12 => (W_M G q M_12)) h (fun M_12 h => ?_)
    refine X.iincN (lv2 := fun lx1_13 => [(1, vi lx1_13), (0, .ref (q 31))]) C h dX8_square_91 1 rfl (by decide) (fun _ => rfl) (fun lx1_13 h => ?_)
    refine X.goto (tgt := 72) C dX8_square_94 (by decide) ?_
    refine X.sub [1, 0] rfl ?_
    exact ih lx1_13 M_12 h
set_option maxHeartbeats 4000000 in
set_option maxRecDepth 100000 in
theorem xX8_square_60 {κ : Kx} {G : GT} (C : Cx κ G yX8_square cX8_square (some .int) 2 rX8_square) (q : Nat → Nat) (M : Ob) (v : (Int × Ob)) (h : jX8_square_60 M = some v) : X κ G 2 (W_M G q M) 60 [(0, .ref (q 31))] [] 0 0 (QM κ G (W_M G q v.2) (some (vi v.1)) rX8_square.cells rX8_square.slots) := by
  unfold jX8_square_60 at h
  refine X.aload_n C dX8_square_60 rfl 0 rfl ?_
  refine X.callVi (q0 := 0) (As := []) (rest := []) (g := fun rr_11 => rr_11) (W1 := fun rr_11 => (W_M G q M)) (ws2 := fun rr_11 => (W_M G q M)) C h dX8_square_61 ml_X8_118 mX8_good (fun v hv => kX8_good q M v hv) (fun rr_11 => ln_M_M_m_n (G := G) (q := q) (M := M)) rfl rfl rfl rfl rfl rfl rfl rfl (fun rr_11 h => ?_)
  refine X.if_ne (tgt := 70) C h dX8_square_64 (by decide) (fun h => ?_) (fun h => ?_)
  · refine X.iconst C dX8_square_70 ?_
    refine X.istore_n (lv2 := [(1, vi 0), (0, .ref (q 31))]) C dX8_square_71 rfl (by decide) rfl ?_
    refine X.sub [1, 0] rfl ?_
    refine xX8_square_72 C q v FU 0 M h
  refine X.bipush C dX8_square_67 (by decide) ?_
  cases h
  exact X.iret C dX8_square_69 (Nat.zero_le _) (Nat.zero_le _)
set_option maxHeartbeats 4000000 in
set_option maxRecDepth 100000 in
theorem kX8_square {l : Launch} {G : GT} (q : Nat → Nat) (M : Ob) (v : (Int × Ob)) (h : fX8_square M = some v) : CT l G yX8_square cX8_square 2 (some .int) rX8_square [.ref (q 31)] (W_M G q M) (W_M G q v.2) (some (vi v.1)) := by
  unfold fX8_square at h
  refine CT.of (by decide) (Nat.le_of_ble_eq_true rfl) rfl (fun κ _ C => ?_)
  refine X.aload_n C dX8_square_0 rfl 0 rfl ?_
  refine X.aload_n C dX8_square_1 rfl 0 rfl ?_
  refine X.get C dX8_square_2 lay_X8 0 rfl rfl 5 (by decide) fl_X8_79 rfl rfl ?_
  refine X.put (ws2 := (W_M G q (up2 M 7 0 (M 5 0)))) (ty := .int) C dX8_square_5 lay_X8 tyX8_ok nmX8 0 rfl rfl 7 (by decide) fl_X8_82 rfl rfl (by decide +kernel) rfl rfl (Nat.le_of_ble_eq_true rfl) rfl ?_
  refine X.nameS (ws := fun M_1 => (W_M G q M_1)) h (fun M_1 h => ?_)
  refine X.aload_n C dX8_square_8 rfl 0 rfl ?_
  refine X.iconst C dX8_square_9 ?_
  refine X.put (ws2 := (W_M G q (up2 M_1 5 0 0))) (ty := .int) C dX8_square_10 lay_X8 tyX8_ok nmX8 0 rfl rfl 5 (by decide) fl_X8_79 rfl rfl (by decide +kernel) rfl rfl (Nat.le_of_ble_eq_true rfl) rfl ?_
  refine X.nameS (ws := fun M_2 => (W_M G q M_2)) h (fun M_2 h => ?_)
  refine X.aload_n C dX8_square_13 rfl 0 rfl ?_
  refine X.iconst C dX8_square_14 ?_
  refine X.put (ws2 := (W_M G q (up2 M_2 8 0 0))) (ty := .int) C dX8_square_15 lay_X8 tyX8_ok nmX8 0 rfl rfl 8 (by decide) fl_X8_85 rfl rfl (by decide +kernel) rfl rfl (Nat.le_of_ble_eq_true rfl) rfl ?_
  refine X.nameS (ws := fun M_3 => (W_M G q M_3)) h (fun M_3 h => ?_)
  refine X.aload_n C dX8_square_18 rfl 0 rfl ?_
  refine X.iconst C dX8_square_19 ?_
  refine X.put (ws2 := (W_M G q (up2 M_3 12 0 0))) (ty := .int) C dX8_square_20 lay_X8 tyX8_ok nmX8 0 rfl rfl 12 (by decide) fl_X8_115 rfl rfl (by decide +kernel) rfl rfl (Nat.le_of_ble_eq_true rfl) rfl ?_
  refine X.nameS (ws := fun M_4 => (W_M G q M_4)) h (fun M_4 h => ?_)
  refine X.aload_n C dX8_square_23 rfl 0 rfl ?_
  refine X.iconst C dX8_square_24 ?_
  refine X.put (ws2 := (W_M G q (up2 M_4 13 0 (-1)))) (ty := .int) C dX8_square_25 lay_X8 tyX8_ok nmX8 0 rfl rfl 13 (by decide) fl_X8_31 rfl rfl (by decide +kernel) rfl rfl (Nat.le_of_ble_eq_true rfl) rfl ?_
  refine X.nameS (ws := fun M_5 => (W_M G q M_5)) h (fun M_5 h => ?_)
  refine X.aload_n C dX8_square_28 rfl 0 rfl ?_
  refine X.get C dX8_square_29 lay_X8 0 rfl rfl 14 (by decide) fl_X8_34 rfl rfl ?_
  refine X.empt C dX8_square_32 ml_X8_62 ln_M_fill_m_14 rfl rfl ?_
  refine X.nameS (ws := fun M_6 => (W_M G q M_6)) h (fun M_6 h => ?_)
  refine X.aload_n C dX8_square_35 rfl 0 rfl ?_
  refine X.callVv (q0 := 0) (As := []) (rest := []) (W1 := fun rr_7 => (W_M G q rr_7)) (ws2 := fun rr_7 => (W_M G q rr_7)) C h dX8_square_36 ml_X8_136 mX8_advance (fun v hv => kX8_advance q M_6 v hv) (fun rr_7 => ln_M_M_m_M (G := G) (q := q) (M := M_6) (NM := rr_7)) rfl rfl rfl rfl rfl rfl rfl rfl (fun rr_7 h => ?_)
  refine X.sub [0] rfl ?_
  refine xX8_square_39 C q _ v (fun M_10 h => ?_) FU rr_7 h
  · refine X.sub [0] rfl ?_
    exact xX8_square_60 C q M_10 v h
def rX8_isWind : Room := { frames := 1, cells := 0, slots := 0, locals := 25 }
theorem mX8_isWind : MS yX8_isWind cX8_isWind 2 (some .boolean) 1 := ⟨cd_X8_isWind, in_X8, ⟨⟨by decide, by decide⟩, by decide +kernel⟩, sm_X8_isWind⟩
set_option maxHeartbeats 4000000 in
set_option maxRecDepth 100000 in
theorem kX8_isWind {l : Launch} {G : GT} (lx0 : Int) (v : (Int)) (h : fX8_isWind lx0 = some v) : CT l G yX8_isWind cX8_isWind 2 (some .boolean) rX8_isWind [vl lx0] W_0 W_0 (some (vi v)) := by
  unfold fX8_isWind at h
  refine CT.of (by decide) (Nat.le_of_ble_eq_true rfl) rfl (fun κ _ C => ?_)
  refine X.lload_n C dX8_isWind_0 rfl 0 rfl ?_
  refine X.lconst (z := 0) C dX8_isWind_1 (by decide) ?_
  refine X.ldc2 (z := 39) C cl_X8_212 (by decide) dX8_isWind_2 ?_
  refine X.callSi (As := [vl lx0, vl 0, vl 39]) (rest := []) (g := fun rr_1 => rr_1) (W1 := fun rr_1 => W_0) (ws2 := fun rr_1 => W_0) C h dX8_isWind_5 ml_X8_68 mX8_in (fun v hv => kX8_in lx0 0 39 v hv) (fun rr_1 => ln_0_0__n) rfl rfl rfl rfl rfl rfl (fun rr_1 h => ?_)
  obtain ⟨hz, h⟩ := gd_out h
  cases h
  exact X.zret C hz dX8_isWind_8 (Nat.zero_le _) (Nat.zero_le _)
def rX8_isHigh : Room := { frames := 1, cells := 0, slots := 0, locals := 25 }
theorem mX8_isHigh : MS yX8_isHigh cX8_isHigh 1 (some .boolean) 1 := ⟨cd_X8_isHigh, in_X8, ⟨⟨by decide, by decide⟩, by decide +kernel⟩, sm_X8_isHigh⟩
set_option maxHeartbeats 4000000 in
set_option maxRecDepth 100000 in
theorem kX8_isHigh {l : Launch} {G : GT} (lx0 : Int) (v : (Int)) (h : fX8_isHigh lx0 = some v) : CT l G yX8_isHigh cX8_isHigh 1 (some .boolean) rX8_isHigh [vi lx0] W_0 W_0 (some (vi v)) := by
  unfold fX8_isHigh at h
  refine CT.of (by decide) (Nat.le_of_ble_eq_true rfl) rfl (fun κ _ C => ?_)
  refine X.iload_n C dX8_isHigh_0 rfl 0 rfl ?_
  refine X.i2l C dX8_isHigh_1 ?_
  refine X.lconst (z := 0) C dX8_isHigh_2 (by decide) ?_
  refine X.ldc2 (z := 60) C cl_X8_214 (by decide) dX8_isHigh_3 ?_
  refine X.callSi (As := [vl (jwl lx0), vl 0, vl 60]) (rest := []) (g := fun rr_1 => rr_1) (W1 := fun rr_1 => W_0) (ws2 := fun rr_1 => W_0) C h dX8_isHigh_6 ml_X8_68 mX8_in (fun v hv => kX8_in (jwl lx0) 0 60 v hv) (fun rr_1 => ln_0_0__n) rfl rfl rfl rfl rfl rfl (fun rr_1 h => ?_)
  obtain ⟨hz, h⟩ := gd_out h
  cases h
  exact X.zret C hz dX8_isHigh_9 (Nat.zero_le _) (Nat.zero_le _)
def rX8_paceOf : Room := { frames := 0, cells := 0, slots := 0, locals := 0 }
theorem mX8_paceOf : MS yX8_paceOf cX8_paceOf 2 (some .int) 1 := ⟨cd_X8_paceOf, in_X8, ⟨⟨by decide, by decide⟩, by decide +kernel⟩, sm_X8_paceOf⟩
set_option maxHeartbeats 4000000 in
set_option maxRecDepth 100000 in
theorem xX8_paceOf_2 {κ : Kx} {G : GT} (C : Cx κ G yX8_paceOf cX8_paceOf (some .int) 2 rX8_paceOf) (lx0 : Int) (v : (Int)) : ∀ (n : Nat) (lx1 : Int), lX8_paceOf_2 lx0 n lx1 = some v → X κ G 2 W_0 2 [(0, vi lx0), (1, vi lx1)] [] 0 0 (QM κ G W_0 (some (vi v)) rX8_paceOf.cells rX8_paceOf.slots) := by
  intro n
  induction n with
  | zero => intro _ h; exact absurd h (fun h => nomatch h)
  | succ n ih =>
    intro lx1 h
    rw [lX8_paceOf_2] at h
    refine X.iload_n C dX8_paceOf_2 rfl 1 rfl ?_
    refine X.iload_n C dX8_paceOf_3 rfl 1 rfl ?_
    refine X.iconst C dX8_paceOf_4 ?_
    refine X.iadd C dX8_paceOf_5 ?_
    refine X.imul C dX8_paceOf_6 ?_
    refine X.iconst C dX8_paceOf_7 ?_
    refine X.idiv C (by decide) dX8_paceOf_8 ?_
    refine X.iload_n C dX8_paceOf_9 rfl 0 rfl ?_
    refine X.icmp_ge (tgt := 19) C h dX8_paceOf_10 (by decide) (fun h => ?_) (fun h => ?_)
    · refine X.iload_n C dX8_paceOf_19 rfl 1 rfl ?_
      cases h
      exact X.iret C dX8_paceOf_20 (Nat.zero_le _) (Nat.zero_le _)
    refine X.iincN (lv2 := fun lx1_1 => [(1, vi lx1_1), (0, vi lx0)]) C h dX8_paceOf_13 1 rfl (by decide) (fun _ => rfl) (fun lx1_1 h => ?_)
    refine X.goto (tgt := 2) C dX8_paceOf_16 (by decide) ?_
    refine X.sub [1, 0] rfl ?_
    exact ih lx1_1 h
set_option maxHeartbeats 4000000 in
set_option maxRecDepth 100000 in
theorem kX8_paceOf {l : Launch} {G : GT} (lx0 : Int) (v : (Int)) (h : fX8_paceOf lx0 = some v) : CT l G yX8_paceOf cX8_paceOf 2 (some .int) rX8_paceOf [vi lx0] W_0 W_0 (some (vi v)) := by
  unfold fX8_paceOf at h
  refine CT.of (by decide) (Nat.le_of_ble_eq_true rfl) rfl (fun κ _ C => ?_)
  refine X.iconst C dX8_paceOf_0 ?_
  refine X.istore_n (lv2 := [(1, vi 0), (0, vi lx0)]) C dX8_paceOf_1 rfl (by decide) rfl ?_
  refine X.sub [1, 0] rfl ?_
  refine xX8_paceOf_2 C lx0 v FU 0 h
def rX8_pace : Room := { frames := 2, cells := 0, slots := 0, locals := 45 }
theorem mX8_pace : MV yX8_pace cX8_pace 2 (some .int) 1 := ⟨cd_X8_pace, in_X8, ⟨⟨by decide, by decide⟩, by decide +kernel⟩, im_X8_pace, se_X8_pace⟩
set_option maxHeartbeats 4000000 in
set_option maxRecDepth 100000 in
theorem kX8_pace {l : Launch} {G : GT} (q : Nat → Nat) (M : Ob) (lx1 : Int) (v : (Int)) (h : fX8_pace M lx1 = some v) : CT l G yX8_pace cX8_pace 2 (some .int) rX8_pace [.ref (q 31), vi lx1] (W_M G q M) (W_M G q M) (some (vi v)) := by
  unfold fX8_pace at h
  refine CT.of (by decide) (Nat.le_of_ble_eq_true rfl) rfl (fun κ _ C => ?_)
  refine X.iload_n C dX8_pace_0 rfl 1 rfl ?_
  refine X.callSi (As := [vi lx1]) (rest := []) (g := fun rr_1 => rr_1) (W1 := fun rr_1 => W_0) (ws2 := fun rr_1 => (W_M G q M)) C h dX8_pace_1 ml_X8_216 mX8_isHigh (fun v hv => kX8_isHigh lx1 v hv) (fun rr_1 => ln_M_0__n (G := G) (q := q) (M := M)) rfl rfl rfl rfl rfl rfl (fun rr_1 h => ?_)
  refine X.if_eq (tgt := 14) C h dX8_pace_4 (by decide) (fun h => ?_) (fun h => ?_)
  · refine X.bipush C dX8_pace_14 (by decide) ?_
    cases h
    exact X.iret C dX8_pace_16 (Nat.zero_le _) (Nat.zero_le _)
  refine X.iload_n C dX8_pace_7 rfl 1 rfl ?_
  refine X.callSi (As := [vi lx1]) (rest := []) (g := fun rr_2 => rr_2) (W1 := fun rr_2 => W_0) (ws2 := fun rr_2 => (W_M G q M)) C h dX8_pace_8 ml_X8_220 mX8_paceOf (fun v hv => kX8_paceOf lx1 v hv) (fun rr_2 => ln_M_0__n (G := G) (q := q) (M := M)) rfl rfl rfl rfl rfl rfl (fun rr_2 h => ?_)
  refine X.goto (tgt := 16) C dX8_pace_11 (by decide) ?_
  cases h
  exact X.iret C dX8_pace_16 (Nat.zero_le _) (Nat.zero_le _)
def rX8_eastBy : Room := { frames := 0, cells := 0, slots := 0, locals := 0 }
theorem mX8_eastBy : MS yX8_eastBy cX8_eastBy 1 (some .int) 1 := ⟨cd_X8_eastBy, in_X8, ⟨⟨by decide, by decide⟩, by decide +kernel⟩, sm_X8_eastBy⟩
set_option maxHeartbeats 4000000 in
set_option maxRecDepth 100000 in
theorem kX8_eastBy {l : Launch} {G : GT} (lx0 : Int) (v : (Int)) (h : fX8_eastBy lx0 = some v) : CT l G yX8_eastBy cX8_eastBy 1 (some .int) rX8_eastBy [vi lx0] W_0 W_0 (some (vi v)) := by
  unfold fX8_eastBy at h
  refine CT.of (by decide) (Nat.le_of_ble_eq_true rfl) rfl (fun κ _ C => ?_)
  refine X.iload_n C dX8_eastBy_0 rfl 0 rfl ?_
  refine X.bipush C dX8_eastBy_1 (by decide) ?_
  refine X.idiv C (by decide) dX8_eastBy_3 ?_
  refine X.iconst C dX8_eastBy_4 ?_
  refine X.icmp_ne (tgt := 15) C h dX8_eastBy_5 (by decide) (fun h => ?_) (fun h => ?_)
  · refine X.iload_n C dX8_eastBy_15 rfl 0 rfl ?_
    refine X.bipush C dX8_eastBy_16 (by decide) ?_
    refine X.idiv C (by decide) dX8_eastBy_18 ?_
    refine X.iconst C dX8_eastBy_19 ?_
    refine X.icmp_ne (tgt := 31) C h dX8_eastBy_20 (by decide) (fun h => ?_) (fun h => ?_)
    · refine X.iconst C dX8_eastBy_31 ?_
      cases h
      exact X.iret C dX8_eastBy_32 (Nat.zero_le _) (Nat.zero_le _)
    refine X.iload_n C dX8_eastBy_23 rfl 0 rfl ?_
    refine X.bipush C dX8_eastBy_24 (by decide) ?_
    refine X.irem C (by decide) dX8_eastBy_26 ?_
    refine X.ineg C dX8_eastBy_27 ?_
    refine X.goto (tgt := 32) C dX8_eastBy_28 (by decide) ?_
    cases h
    exact X.iret C dX8_eastBy_32 (Nat.zero_le _) (Nat.zero_le _)
  refine X.iload_n C dX8_eastBy_8 rfl 0 rfl ?_
  refine X.bipush C dX8_eastBy_9 (by decide) ?_
  refine X.irem C (by decide) dX8_eastBy_11 ?_
  refine X.goto (tgt := 32) C dX8_eastBy_12 (by decide) ?_
  cases h
  exact X.iret C dX8_eastBy_32 (Nat.zero_le _) (Nat.zero_le _)
def rX8_southBy : Room := { frames := 0, cells := 0, slots := 0, locals := 0 }
theorem mX8_southBy : MS yX8_southBy cX8_southBy 1 (some .int) 1 := ⟨cd_X8_southBy, in_X8, ⟨⟨by decide, by decide⟩, by decide +kernel⟩, sm_X8_southBy⟩
set_option maxHeartbeats 4000000 in
set_option maxRecDepth 100000 in
theorem kX8_southBy {l : Launch} {G : GT} (lx0 : Int) (v : (Int)) (h : fX8_southBy lx0 = some v) : CT l G yX8_southBy cX8_southBy 1 (some .int) rX8_southBy [vi lx0] W_0 W_0 (some (vi v)) := by
  unfold fX8_southBy at h
  refine CT.of (by decide) (Nat.le_of_ble_eq_true rfl) rfl (fun κ _ C => ?_)
  refine X.iload_n C dX8_southBy_0 rfl 0 rfl ?_
  refine X.bipush C dX8_southBy_1 (by decide) ?_
  refine X.idiv C (by decide) dX8_southBy_3 ?_
  refine X.iconst C dX8_southBy_4 ?_
  refine X.icmp_ne (tgt := 15) C h dX8_southBy_5 (by decide) (fun h => ?_) (fun h => ?_)
  · refine X.iload_n C dX8_southBy_15 rfl 0 rfl ?_
    refine X.bipush C dX8_southBy_16 (by decide) ?_
    refine X.idiv C (by decide) dX8_southBy_18 ?_
    refine X.if_ne (tgt := 30) C h dX8_southBy_19 (by decide) (fun h => ?_) (fun h => ?_)
    · refine X.iconst C dX8_southBy_30 ?_
      cases h
      exact X.iret C dX8_southBy_31 (Nat.zero_le _) (Nat.zero_le _)
    refine X.iload_n C dX8_southBy_22 rfl 0 rfl ?_
    refine X.bipush C dX8_southBy_23 (by decide) ?_
    refine X.irem C (by decide) dX8_southBy_25 ?_
    refine X.ineg C dX8_southBy_26 ?_
    refine X.goto (tgt := 31) C dX8_southBy_27 (by decide) ?_
    cases h
    exact X.iret C dX8_southBy_31 (Nat.zero_le _) (Nat.zero_le _)
  refine X.iload_n C dX8_southBy_8 rfl 0 rfl ?_
  refine X.bipush C dX8_southBy_9 (by decide) ?_
  refine X.irem C (by decide) dX8_southBy_11 ?_
  refine X.goto (tgt := 31) C dX8_southBy_12 (by decide) ?_
  cases h
  exact X.iret C dX8_southBy_31 (Nat.zero_le _) (Nat.zero_le _)
def rX8_isBasin : Room := { frames := 1, cells := 0, slots := 0, locals := 30 }
theorem mX8_isBasin : MV yX8_isBasin cX8_isBasin 3 (some .boolean) 2 := ⟨cd_X8_isBasin, in_X8, ⟨⟨by decide, by decide⟩, by decide +kernel⟩, im_X8_isBasin, se_X8_isBasin⟩
set_option maxHeartbeats 4000000 in
set_option maxRecDepth 100000 in
theorem kX8_isBasin {l : Launch} {G : GT} (q : Nat → Nat) (M : Ob) (lx1 : Int) (lx2 : Int) (v : (Int)) (h : fX8_isBasin M lx1 lx2 = some v) : CT l G yX8_isBasin cX8_isBasin 3 (some .boolean) rX8_isBasin [.ref (q 31), vi lx1, vi lx2] (W_M G q M) (W_M G q M) (some (vi v)) := by
  unfold fX8_isBasin at h
  refine CT.of (by decide) (Nat.le_of_ble_eq_true rfl) rfl (fun κ _ C => ?_)
  refine X.iload_n C dX8_isBasin_0 rfl 1 rfl ?_
  refine X.aload_n C dX8_isBasin_1 rfl 0 rfl ?_
  refine X.get C dX8_isBasin_2 lay_X8 0 rfl rfl 1 (by decide) fl_X8_13 rfl rfl ?_
  refine X.iconst C dX8_isBasin_5 ?_
  refine X.iald C h dX8_isBasin_6 1 rfl (fun h => ?_)
  refine X.isub C dX8_isBasin_7 ?_
  refine X.mabs C dX8_isBasin_8 ml_X8_223 sm_J9_abs_0f7a4 in_java_lang_Math cd_J9_abs_0f7a4 (Nat.le_of_ble_eq_true rfl) (Nat.le_of_ble_eq_true rfl) (Nat.zero_le _) (Nat.zero_le _) ?_
  refine X.aload_n C dX8_isBasin_11 rfl 0 rfl ?_
  refine X.get C dX8_isBasin_12 lay_X8 0 rfl rfl 1 (by decide) fl_X8_13 rfl rfl ?_
  refine X.iconst C dX8_isBasin_15 ?_
  refine X.iald C h dX8_isBasin_16 1 rfl (fun h => ?_)
  refine X.icmp_gt (tgt := 44) C h dX8_isBasin_17 (by decide) (fun h => ?_) (fun h => ?_)
  · refine X.iconst C dX8_isBasin_44 ?_
    cases h
    exact X.zret C rfl dX8_isBasin_45 (Nat.zero_le _) (Nat.zero_le _)
  refine X.iload_n C dX8_isBasin_20 rfl 2 rfl ?_
  refine X.aload_n C dX8_isBasin_21 rfl 0 rfl ?_
  refine X.get C dX8_isBasin_22 lay_X8 0 rfl rfl 1 (by decide) fl_X8_13 rfl rfl ?_
  refine X.iconst C dX8_isBasin_25 ?_
  refine X.iald C h dX8_isBasin_26 1 rfl (fun h => ?_)
  refine X.isub C dX8_isBasin_27 ?_
  refine X.mabs C dX8_isBasin_28 ml_X8_223 sm_J9_abs_0f7a4 in_java_lang_Math cd_J9_abs_0f7a4 (Nat.le_of_ble_eq_true rfl) (Nat.le_of_ble_eq_true rfl) (Nat.zero_le _) (Nat.zero_le _) ?_
  refine X.aload_n C dX8_isBasin_31 rfl 0 rfl ?_
  refine X.get C dX8_isBasin_32 lay_X8 0 rfl rfl 1 (by decide) fl_X8_13 rfl rfl ?_
  refine X.iconst C dX8_isBasin_35 ?_
  refine X.iald C h dX8_isBasin_36 1 rfl (fun h => ?_)
  refine X.icmp_gt (tgt := 44) C h dX8_isBasin_37 (by decide) (fun h => ?_) (fun h => ?_)
  · refine X.iconst C dX8_isBasin_44 ?_
    cases h
    exact X.zret C rfl dX8_isBasin_45 (Nat.zero_le _) (Nat.zero_le _)
  refine X.iconst C dX8_isBasin_40 ?_
  refine X.goto (tgt := 45) C dX8_isBasin_41 (by decide) ?_
  cases h
  exact X.zret C rfl dX8_isBasin_45 (Nat.zero_le _) (Nat.zero_le _)
def rX8_cellX : Room := { frames := 0, cells := 0, slots := 0, locals := 0 }
theorem mX8_cellX : MV yX8_cellX cX8_cellX 2 (some .int) 1 := ⟨cd_X8_cellX, in_X8, ⟨⟨by decide, by decide⟩, by decide +kernel⟩, im_X8_cellX, se_X8_cellX⟩
set_option maxHeartbeats 4000000 in
set_option maxRecDepth 100000 in
theorem kX8_cellX {l : Launch} {G : GT} (q : Nat → Nat) (M : Ob) (lx1 : Int) (v : (Int)) (h : fX8_cellX M lx1 = some v) : CT l G yX8_cellX cX8_cellX 2 (some .int) rX8_cellX [.ref (q 31), vi lx1] (W_M G q M) (W_M G q M) (some (vi v)) := by
  unfold fX8_cellX at h
  refine CT.of (by decide) (Nat.le_of_ble_eq_true rfl) rfl (fun κ _ C => ?_)
  refine X.aload_n C dX8_cellX_0 rfl 0 rfl ?_
  refine X.get C dX8_cellX_1 lay_X8 0 rfl rfl 1 (by decide) fl_X8_13 rfl rfl ?_
  refine X.iconst C dX8_cellX_4 ?_
  refine X.iald C h dX8_cellX_5 1 rfl (fun h => ?_)
  refine X.iload_n C dX8_cellX_6 rfl 1 rfl ?_
  refine X.bipush C dX8_cellX_7 (by decide) ?_
  refine X.idiv C (by decide) dX8_cellX_9 ?_
  refine X.iadd C dX8_cellX_10 ?_
  cases h
  exact X.iret C dX8_cellX_11 (Nat.zero_le _) (Nat.zero_le _)
def rX8_cellY : Room := { frames := 0, cells := 0, slots := 0, locals := 0 }
theorem mX8_cellY : MV yX8_cellY cX8_cellY 2 (some .int) 1 := ⟨cd_X8_cellY, in_X8, ⟨⟨by decide, by decide⟩, by decide +kernel⟩, im_X8_cellY, se_X8_cellY⟩
set_option maxHeartbeats 4000000 in
set_option maxRecDepth 100000 in
theorem kX8_cellY {l : Launch} {G : GT} (q : Nat → Nat) (M : Ob) (lx1 : Int) (v : (Int)) (h : fX8_cellY M lx1 = some v) : CT l G yX8_cellY cX8_cellY 2 (some .int) rX8_cellY [.ref (q 31), vi lx1] (W_M G q M) (W_M G q M) (some (vi v)) := by
  unfold fX8_cellY at h
  refine CT.of (by decide) (Nat.le_of_ble_eq_true rfl) rfl (fun κ _ C => ?_)
  refine X.aload_n C dX8_cellY_0 rfl 0 rfl ?_
  refine X.get C dX8_cellY_1 lay_X8 0 rfl rfl 1 (by decide) fl_X8_13 rfl rfl ?_
  refine X.iconst C dX8_cellY_4 ?_
  refine X.iald C h dX8_cellY_5 1 rfl (fun h => ?_)
  refine X.iload_n C dX8_cellY_6 rfl 1 rfl ?_
  refine X.bipush C dX8_cellY_7 (by decide) ?_
  refine X.idiv C (by decide) dX8_cellY_9 ?_
  refine X.iadd C dX8_cellY_10 ?_
  cases h
  exact X.iret C dX8_cellY_11 (Nat.zero_le _) (Nat.zero_le _)
def rX8_isCaught : Room := { frames := 2, cells := 0, slots := 0, locals := 52 }
theorem mX8_isCaught : MV yX8_isCaught cX8_isCaught 3 (some .boolean) 2 := ⟨cd_X8_isCaught, in_X8, ⟨⟨by decide, by decide⟩, by decide +kernel⟩, im_X8_isCaught, se_X8_isCaught⟩
set_option maxHeartbeats 4000000 in
set_option maxRecDepth 100000 in
theorem kX8_isCaught {l : Launch} {G : GT} (q : Nat → Nat) (M : Ob) (lx1 : Int) (lx2 : Int) (v : (Int)) (h : fX8_isCaught M lx1 lx2 = some v) : CT l G yX8_isCaught cX8_isCaught 3 (some .boolean) rX8_isCaught [.ref (q 31), vi lx1, vi lx2] (W_M G q M) (W_M G q M) (some (vi v)) := by
  unfold fX8_isCaught at h
  refine CT.of (by decide) (Nat.le_of_ble_eq_true rfl) rfl (fun κ _ C => ?_)
  refine X.aload_n C dX8_isCaught_0 rfl 0 rfl ?_
  refine X.aload_n C dX8_isCaught_1 rfl 0 rfl ?_
  refine X.iload_n C dX8_isCaught_2 rfl 1 rfl ?_
  refine X.callVi (q0 := 0) (As := [vi lx1]) (rest := [.ref (q 31)]) (g := fun rr_1 => rr_1) (W1 := fun rr_1 => (W_M G q M)) (ws2 := fun rr_1 => (W_M G q M)) C h dX8_isCaught_3 ml_X8_226 mX8_cellX (fun v hv => kX8_cellX q M lx1 v hv) (fun rr_1 => ln_M_M_m_n (G := G) (q := q) (M := M)) rfl rfl rfl rfl rfl rfl rfl rfl (fun rr_1 h => ?_)
  refine X.aload_n C dX8_isCaught_6 rfl 0 rfl ?_
  refine X.iload_n C dX8_isCaught_7 rfl 2 rfl ?_
  refine X.callVi (q0 := 0) (As := [vi lx2]) (rest := [vi rr_1, .ref (q 31)]) (g := fun rr_2 => rr_2) (W1 := fun rr_2 => (W_M G q M)) (ws2 := fun rr_2 => (W_M G q M)) C h dX8_isCaught_8 ml_X8_229 mX8_cellY (fun v hv => kX8_cellY q M lx2 v hv) (fun rr_2 => ln_M_M_m_n (G := G) (q := q) (M := M)) rfl rfl rfl rfl rfl rfl rfl rfl (fun rr_2 h => ?_)
  refine X.callVi (q0 := 0) (As := [vi rr_1, vi rr_2]) (rest := []) (g := fun rr_3 => rr_3) (W1 := fun rr_3 => (W_M G q M)) (ws2 := fun rr_3 => (W_M G q M)) C h dX8_isCaught_11 ml_X8_232 mX8_isBasin (fun v hv => kX8_isBasin q M rr_1 rr_2 v hv) (fun rr_3 => ln_M_M_m_n (G := G) (q := q) (M := M)) rfl rfl rfl rfl rfl rfl rfl rfl (fun rr_3 h => ?_)
  obtain ⟨hz, h⟩ := gd_out h
  cases h
  exact X.zret C hz dX8_isCaught_14 (Nat.zero_le _) (Nat.zero_le _)
def rX8_isOn : Room := { frames := 3, cells := 0, slots := 0, locals := 74 }
theorem mX8_isOn : MV yX8_isOn cX8_isOn 5 (some .boolean) 4 := ⟨cd_X8_isOn, in_X8, ⟨⟨by decide, by decide⟩, by decide +kernel⟩, im_X8_isOn, se_X8_isOn⟩
set_option maxHeartbeats 4000000 in
set_option maxRecDepth 100000 in
theorem kX8_isOn {l : Launch} {G : GT} (q : Nat → Nat) (M : Ob) (lx1 : Int) (lx2 : Int) (lx3 : Int) (lx4 : Int) (v : (Int)) (h : fX8_isOn M lx1 lx2 lx3 lx4 = some v) : CT l G yX8_isOn cX8_isOn 5 (some .boolean) rX8_isOn [.ref (q 31), vi lx1, vi lx2, vi lx3, vi lx4] (W_M G q M) (W_M G q M) (some (vi v)) := by
  unfold fX8_isOn at h
  refine CT.of (by decide) (Nat.le_of_ble_eq_true rfl) rfl (fun κ _ C => ?_)
  refine X.aload_n C dX8_isOn_0 rfl 0 rfl ?_
  refine X.iload_n C dX8_isOn_1 rfl 1 rfl ?_
  refine X.iload_n C dX8_isOn_2 rfl 2 rfl ?_
  refine X.callVi (q0 := 0) (As := [vi lx1, vi lx2]) (rest := []) (g := fun rr_1 => rr_1) (W1 := fun rr_1 => (W_M G q M)) (ws2 := fun rr_1 => (W_M G q M)) C h dX8_isOn_3 ml_X8_236 mX8_isCaught (fun v hv => kX8_isCaught q M lx1 lx2 v hv) (fun rr_1 => ln_M_M_m_n (G := G) (q := q) (M := M)) rfl rfl rfl rfl rfl rfl rfl rfl (fun rr_1 h => ?_)
  refine X.if_ne (tgt := 32) C h dX8_isOn_6 (by decide) (fun h => ?_) (fun h => ?_)
  · refine X.iconst C dX8_isOn_32 ?_
    cases h
    exact X.zret C rfl dX8_isOn_33 (Nat.zero_le _) (Nat.zero_le _)
  refine X.aload_n C dX8_isOn_9 rfl 0 rfl ?_
  refine X.iload_n C dX8_isOn_10 rfl 1 rfl ?_
  refine X.callVi (q0 := 0) (As := [vi lx1]) (rest := []) (g := fun rr_2 => rr_2) (W1 := fun rr_2 => (W_M G q M)) (ws2 := fun rr_2 => (W_M G q M)) C h dX8_isOn_11 ml_X8_226 mX8_cellX (fun v hv => kX8_cellX q M lx1 v hv) (fun rr_2 => ln_M_M_m_n (G := G) (q := q) (M := M)) rfl rfl rfl rfl rfl rfl rfl rfl (fun rr_2 h => ?_)
  refine X.iload_n C dX8_isOn_14 rfl 3 rfl ?_
  refine X.icmp_ne (tgt := 32) C h dX8_isOn_15 (by decide) (fun h => ?_) (fun h => ?_)
  · refine X.iconst C dX8_isOn_32 ?_
    cases h
    exact X.zret C rfl dX8_isOn_33 (Nat.zero_le _) (Nat.zero_le _)
  refine X.aload_n C dX8_isOn_18 rfl 0 rfl ?_
  refine X.iload_n C dX8_isOn_19 rfl 2 rfl ?_
  refine X.callVi (q0 := 0) (As := [vi lx2]) (rest := []) (g := fun rr_3 => rr_3) (W1 := fun rr_3 => (W_M G q M)) (ws2 := fun rr_3 => (W_M G q M)) C h dX8_isOn_20 ml_X8_229 mX8_cellY (fun v hv => kX8_cellY q M lx2 v hv) (fun rr_3 => ln_M_M_m_n (G := G) (q := q) (M := M)) rfl rfl rfl rfl rfl rfl rfl rfl (fun rr_3 h => ?_)
  refine X.iload C dX8_isOn_23 4 rfl ?_
  refine X.icmp_ne (tgt := 32) C h dX8_isOn_25 (by decide) (fun h => ?_) (fun h => ?_)
  · refine X.iconst C dX8_isOn_32 ?_
    cases h
    exact X.zret C rfl dX8_isOn_33 (Nat.zero_le _) (Nat.zero_le _)
  refine X.iconst C dX8_isOn_28 ?_
  refine X.goto (tgt := 33) C dX8_isOn_29 (by decide) ?_
  cases h
  exact X.zret C rfl dX8_isOn_33 (Nat.zero_le _) (Nat.zero_le _)
def rX8_lump : Room := { frames := 0, cells := 0, slots := 0, locals := 0 }
theorem mX8_lump : MV yX8_lump cX8_lump 2 (some .int) 1 := ⟨cd_X8_lump, in_X8, ⟨⟨by decide, by decide⟩, by decide +kernel⟩, im_X8_lump, se_X8_lump⟩
set_option maxHeartbeats 4000000 in
set_option maxRecDepth 100000 in
theorem kX8_lump {l : Launch} {G : GT} (q : Nat → Nat) (M : Ob) (lx1 : Int) (v : (Int)) (h : fX8_lump M lx1 = some v) : CT l G yX8_lump cX8_lump 2 (some .int) rX8_lump [.ref (q 31), vi lx1] (W_M G q M) (W_M G q M) (some (vi v)) := by
  unfold fX8_lump at h
  refine CT.of (by decide) (Nat.le_of_ble_eq_true rfl) rfl (fun κ _ C => ?_)
  refine X.bipush C dX8_lump_0 (by decide) ?_
  refine X.bipush C dX8_lump_2 (by decide) ?_
  refine X.iload_n C dX8_lump_4 rfl 1 rfl ?_
  refine X.bipush C dX8_lump_5 (by decide) ?_
  refine X.irem C (by decide) dX8_lump_7 ?_
  refine X.imul C dX8_lump_8 ?_
  refine X.iadd C dX8_lump_9 ?_
  cases h
  exact X.iret C dX8_lump_10 (Nat.zero_le _) (Nat.zero_le _)
def rX8_isUp : Room := { frames := 1, cells := 0, slots := 0, locals := 21 }
theorem mX8_isUp : MV yX8_isUp cX8_isUp 2 (some .boolean) 1 := ⟨cd_X8_isUp, in_X8, ⟨⟨by decide, by decide⟩, by decide +kernel⟩, im_X8_isUp, se_X8_isUp⟩
set_option maxHeartbeats 4000000 in
set_option maxRecDepth 100000 in
theorem kX8_isUp {l : Launch} {G : GT} (q : Nat → Nat) (M : Ob) (lx1 : Int) (v : (Int)) (h : fX8_isUp M lx1 = some v) : CT l G yX8_isUp cX8_isUp 2 (some .boolean) rX8_isUp [.ref (q 31), vi lx1] (W_M G q M) (W_M G q M) (some (vi v)) := by
  unfold fX8_isUp at h
  refine CT.of (by decide) (Nat.le_of_ble_eq_true rfl) rfl (fun κ _ C => ?_)
  refine X.iload_n C dX8_isUp_0 rfl 1 rfl ?_
  refine X.if_le (tgt := 28) C h dX8_isUp_1 (by decide) (fun h => ?_) (fun h => ?_)
  · refine X.iconst C dX8_isUp_28 ?_
    cases h
    exact X.zret C rfl dX8_isUp_29 (Nat.zero_le _) (Nat.zero_le _)
  refine X.aload_n C dX8_isUp_4 rfl 0 rfl ?_
  refine X.get C dX8_isUp_5 lay_X8 0 rfl rfl 1 (by decide) fl_X8_13 rfl rfl ?_
  refine X.aload_n C dX8_isUp_8 rfl 0 rfl ?_
  refine X.iload_n C dX8_isUp_9 rfl 1 rfl ?_
  refine X.callVi (q0 := 0) (As := [vi lx1]) (rest := [.ref (q 1)]) (g := fun rr_1 => rr_1) (W1 := fun rr_1 => (W_M G q M)) (ws2 := fun rr_1 => (W_M G q M)) C h dX8_isUp_10 ml_X8_239 mX8_lump (fun v hv => kX8_lump q M lx1 v hv) (fun rr_1 => ln_M_M_m_n (G := G) (q := q) (M := M)) rfl rfl rfl rfl rfl rfl rfl rfl (fun rr_1 h => ?_)
  refine X.iald C h dX8_isUp_13 1 rfl (fun h => ?_)
  refine X.aload_n C dX8_isUp_14 rfl 0 rfl ?_
  refine X.get C dX8_isUp_15 lay_X8 0 rfl rfl 1 (by decide) fl_X8_13 rfl rfl ?_
  refine X.bipush C dX8_isUp_18 (by decide) ?_
  refine X.iald C h dX8_isUp_20 1 rfl (fun h => ?_)
  refine X.icmp_le (tgt := 28) C h dX8_isUp_21 (by decide) (fun h => ?_) (fun h => ?_)
  · refine X.iconst C dX8_isUp_28 ?_
    cases h
    exact X.zret C rfl dX8_isUp_29 (Nat.zero_le _) (Nat.zero_le _)
  refine X.iconst C dX8_isUp_24 ?_
  refine X.goto (tgt := 29) C dX8_isUp_25 (by decide) ?_
  cases h
  exact X.zret C rfl dX8_isUp_29 (Nat.zero_le _) (Nat.zero_le _)
def rX8_firstBeat : Room := { frames := 1, cells := 0, slots := 0, locals := 30 }
theorem mX8_firstBeat : MV yX8_firstBeat cX8_firstBeat 1 (some .int) 0 := ⟨cd_X8_firstBeat, in_X8, ⟨⟨by decide, by decide⟩, by decide +kernel⟩, im_X8_firstBeat, se_X8_firstBeat⟩
set_option maxHeartbeats 4000000 in
set_option maxRecDepth 100000 in
theorem kX8_firstBeat {l : Launch} {G : GT} (q : Nat → Nat) (M : Ob) (v : (Int)) (h : fX8_firstBeat M = some v) : CT l G yX8_firstBeat cX8_firstBeat 1 (some .int) rX8_firstBeat [.ref (q 31)] (W_M G q M) (W_M G q M) (some (vi v)) := by
  unfold fX8_firstBeat at h
  refine CT.of (by decide) (Nat.le_of_ble_eq_true rfl) rfl (fun κ _ C => ?_)
  refine X.iconst C dX8_firstBeat_0 ?_
  refine X.aload_n C dX8_firstBeat_1 rfl 0 rfl ?_
  refine X.get C dX8_firstBeat_2 lay_X8 0 rfl rfl 1 (by decide) fl_X8_13 rfl rfl ?_
  refine X.bipush C dX8_firstBeat_5 (by decide) ?_
  refine X.iald C h dX8_firstBeat_7 1 rfl (fun h => ?_)
  refine X.bipush C dX8_firstBeat_8 (by decide) ?_
  refine X.isub C dX8_firstBeat_10 ?_
  refine X.iconst C dX8_firstBeat_11 ?_
  refine X.iadd C dX8_firstBeat_12 ?_
  refine X.mmax C dX8_firstBeat_13 ml_X8_242 sm_J9_max_7cf53 in_java_lang_Math cd_J9_max_7cf53 (Nat.le_of_ble_eq_true rfl) (Nat.le_of_ble_eq_true rfl) (Nat.zero_le _) (Nat.zero_le _) ?_
  cases h
  exact X.iret C dX8_firstBeat_16 (Nat.zero_le _) (Nat.zero_le _)
def rX8_lands : Room := { frames := 2, cells := 0, slots := 0, locals := 52 }
theorem mX8_lands : MV yX8_lands cX8_lands 6 (some .int) 2 := ⟨cd_X8_lands, in_X8, ⟨⟨by decide, by decide⟩, by decide +kernel⟩, im_X8_lands, se_X8_lands⟩
set_option maxHeartbeats 4000000 in
set_option maxRecDepth 100000 in
theorem kX8_lands {l : Launch} {G : GT} (q : Nat → Nat) (M : Ob) (lx1 : Int) (lx2 : Int) (v : (Int × Ob)) (h : fX8_lands M lx1 lx2 = some v) : CT l G yX8_lands cX8_lands 6 (some .int) rX8_lands [.ref (q 31), vi lx1, vi lx2] (W_M G q M) (W_M G q v.2) (some (vi v.1)) := by
  unfold fX8_lands at h
  refine CT.of (by decide) (Nat.le_of_ble_eq_true rfl) rfl (fun κ _ C => ?_)
  refine X.aload_n C dX8_lands_0 rfl 0 rfl ?_
  refine X.get C dX8_lands_1 lay_X8 0 rfl rfl 1 (by decide) fl_X8_13 rfl rfl ?_
  refine X.iload_n C dX8_lands_4 rfl 1 rfl ?_
  refine X.iconst C dX8_lands_5 ?_
  refine X.iadd C dX8_lands_6 ?_
  refine X.iald C h dX8_lands_7 1 rfl (fun h => ?_)
  refine X.aload_n C dX8_lands_8 rfl 0 rfl ?_
  refine X.get C dX8_lands_9 lay_X8 0 rfl rfl 1 (by decide) fl_X8_13 rfl rfl ?_
  refine X.iload_n C dX8_lands_12 rfl 1 rfl ?_
  refine X.iconst C dX8_lands_13 ?_
  refine X.iadd C dX8_lands_14 ?_
  refine X.iconst C dX8_lands_15 ?_
  refine X.iload_n C dX8_lands_16 rfl 2 rfl ?_
  refine X.imul C dX8_lands_17 ?_
  refine X.iadd C dX8_lands_18 ?_
  refine X.iald C h dX8_lands_19 1 rfl (fun h => ?_)
  refine X.bipush C dX8_lands_20 (by decide) ?_
  refine X.idiv C (by decide) dX8_lands_22 ?_
  refine X.iadd C dX8_lands_23 ?_
  refine X.istoreN_n (lv2 := fun lx3_1 => [(3, vi lx3_1), (0, .ref (q 31)), (1, vi lx1), (2, vi lx2)]) C h dX8_lands_24 rfl (by decide) (fun _ => rfl) (fun lx3_1 h => ?_)
  refine X.aload_n C dX8_lands_25 rfl 1 rfl ?_
  refine X.get C dX8_lands_26 lay_X8 0 rfl rfl 1 (by decide) fl_X8_13 rfl rfl ?_
  refine X.iload_n C dX8_lands_29 rfl 2 rfl ?_
  refine X.iconst C dX8_lands_30 ?_
  refine X.iadd C dX8_lands_31 ?_
  refine X.iald C h dX8_lands_32 1 rfl (fun h => ?_)
  refine X.aload_n C dX8_lands_33 rfl 1 rfl ?_
  refine X.get C dX8_lands_34 lay_X8 0 rfl rfl 1 (by decide) fl_X8_13 rfl rfl ?_
  refine X.iload_n C dX8_lands_37 rfl 2 rfl ?_
  refine X.iconst C dX8_lands_38 ?_
  refine X.iadd C dX8_lands_39 ?_
  refine X.iconst C dX8_lands_40 ?_
  refine X.iload_n C dX8_lands_41 rfl 3 rfl ?_
  refine X.imul C dX8_lands_42 ?_
  refine X.iadd C dX8_lands_43 ?_
  refine X.iald C h dX8_lands_44 1 rfl (fun h => ?_)
  refine X.bipush C dX8_lands_45 (by decide) ?_
  refine X.idiv C (by decide) dX8_lands_47 ?_
  refine X.iadd C dX8_lands_48 ?_
  refine X.istoreN (lv2 := fun lx4_2 => [(4, vi lx4_2), (3, vi lx3_1), (0, .ref (q 31)), (1, vi lx1), (2, vi lx2)]) C h dX8_lands_49 (by decide) (fun _ => rfl) (fun lx4_2 h => ?_)
  refine X.aload_n C dX8_lands_51 rfl 2 rfl ?_
  refine X.iload_n C dX8_lands_52 rfl 4 rfl ?_
  refine X.callVi (q0 := 0) (As := [vi lx2]) (rest := []) (g := fun rr_3 => rr_3) (W1 := fun rr_3 => (W_M G q M)) (ws2 := fun rr_3 => (W_M G q M)) C h dX8_lands_53 ml_X8_245 mX8_shareOf (fun v hv => kX8_shareOf q M lx2 v hv) (fun rr_3 => ln_M_M_m_n (G := G) (q := q) (M := M)) rfl rfl rfl rfl rfl rfl rfl rfl (fun rr_3 h => ?_)
  refine X.istore (lv2 := [(5, vi rr_3), (4, vi lx4_2), (3, vi lx3_1), (0, .ref (q 31)), (1, vi lx1), (2, vi lx2)]) C dX8_lands_56 (by decide) rfl ?_
  refine X.aload_n C dX8_lands_58 rfl 3 rfl ?_
  refine X.iload_n C dX8_lands_59 rfl 2 rfl ?_
  refine X.iload C dX8_lands_60 1 rfl ?_
  refine X.callVi (q0 := 0) (As := [vi lx3_1, vi lx4_2]) (rest := []) (g := fun rr_4 => rr_4) (W1 := fun rr_4 => (W_M G q M)) (ws2 := fun rr_4 => (W_M G q M)) C h dX8_lands_62 ml_X8_232 mX8_isBasin (fun v hv => kX8_isBasin q M lx3_1 lx4_2 v hv) (fun rr_4 => ln_M_M_m_n (G := G) (q := q) (M := M)) rfl rfl rfl rfl rfl rfl rfl rfl (fun rr_4 h => ?_)
  refine X.if_eq (tgt := 82) C h dX8_lands_65 (by decide) (fun h => ?_) (fun h => ?_)
  · refine X.aload_n C dX8_lands_82 rfl 3 rfl ?_
    refine X.iload_n C dX8_lands_83 rfl 2 rfl ?_
    refine X.iload C dX8_lands_84 1 rfl ?_
    refine X.callVi (q0 := 0) (As := [vi lx3_1, vi lx4_2]) (rest := []) (g := fun rr_5 => rr_5) (W1 := fun rr_5 => (W_M G q M)) (ws2 := fun rr_5 => (W_M G q M)) C h dX8_lands_86 ml_X8_248 mX8_isCell (fun v hv => kX8_isCell q M lx3_1 lx4_2 v hv) (fun rr_5 => ln_M_M_m_n (G := G) (q := q) (M := M)) rfl rfl rfl rfl rfl rfl rfl rfl (fun rr_5 h => ?_)
    refine X.if_eq (tgt := 128) C h dX8_lands_89 (by decide) (fun h => ?_) (fun h => ?_)
    · refine X.aload_n C dX8_lands_128 rfl 3 rfl ?_
      refine X.get C dX8_lands_129 lay_X8 0 rfl rfl 1 (by decide) fl_X8_13 rfl rfl ?_
      refine X.bipush C dX8_lands_132 (by decide) ?_
      refine X.dup2 C dX8_lands_134 rfl rfl ?_
      refine X.iald C h dX8_lands_135 1 rfl (fun h => ?_)
      refine X.iload C dX8_lands_136 0 rfl ?_
      refine X.iadd C dX8_lands_138 ?_
      refine X.iast (ws2 := (W_M G q (up2 M 1 (ix 19) ((M 1 (ix 19)) + rr_3)))) C h dX8_lands_139 1 rfl rfl (fun h => ?_)
      refine X.nameS (ws := fun M_6 => (W_M G q M_6)) h (fun M_6 h => ?_)
      refine X.iload C dX8_lands_140 0 rfl ?_
      cases h
      exact X.iret C dX8_lands_142 (Nat.zero_le _) (Nat.zero_le _)
    refine X.aload_n C dX8_lands_92 rfl 3 rfl ?_
    refine X.get C dX8_lands_93 lay_X8 0 rfl rfl 1 (by decide) fl_X8_13 rfl rfl ?_
    refine X.sipush C dX8_lands_96 (by decide) ?_
    refine X.bipush C dX8_lands_99 (by decide) ?_
    refine X.iload C dX8_lands_101 1 rfl ?_
    refine X.imul C dX8_lands_103 ?_
    refine X.iadd C dX8_lands_104 ?_
    refine X.iload_n C dX8_lands_105 rfl 2 rfl ?_
    refine X.iadd C dX8_lands_106 ?_
    refine X.dup2 C dX8_lands_107 rfl rfl ?_
    refine X.iald C h dX8_lands_108 1 rfl (fun h => ?_)
    refine X.iload C dX8_lands_109 0 rfl ?_
    refine X.iadd C dX8_lands_111 ?_
    refine X.iast (ws2 := (W_M G q (up2 M 1 (ix ((519 + (30 * lx4_2)) + lx3_1)) ((M 1 (ix ((519 + (30 * lx4_2)) + lx3_1))) + rr_3)))) C h dX8_lands_112 1 rfl rfl (fun h => ?_)
    refine X.nameS (ws := fun M_7 => (W_M G q M_7)) h (fun M_7 h => ?_)
    refine X.aload_n C dX8_lands_113 rfl 3 rfl ?_
    refine X.get C dX8_lands_114 lay_X8 0 rfl rfl 1 (by decide) fl_X8_13 rfl rfl ?_
    refine X.bipush C dX8_lands_117 (by decide) ?_
    refine X.dup2 C dX8_lands_119 rfl rfl ?_
    refine X.iald C h dX8_lands_120 1 rfl (fun h => ?_)
    refine X.iload C dX8_lands_121 0 rfl ?_
    refine X.iadd C dX8_lands_123 ?_
    refine X.iast (ws2 := (W_M G q (up2 M_7 1 (ix 20) ((M_7 1 (ix 20)) + rr_3)))) C h dX8_lands_124 1 rfl rfl (fun h => ?_)
    refine X.nameS (ws := fun M_8 => (W_M G q M_8)) h (fun M_8 h => ?_)
    refine X.goto (tgt := 140) C dX8_lands_125 (by decide) ?_
    refine X.iload C dX8_lands_140 0 rfl ?_
    cases h
    exact X.iret C dX8_lands_142 (Nat.zero_le _) (Nat.zero_le _)
  refine X.aload_n C dX8_lands_68 rfl 3 rfl ?_
  refine X.get C dX8_lands_69 lay_X8 0 rfl rfl 1 (by decide) fl_X8_13 rfl rfl ?_
  refine X.bipush C dX8_lands_72 (by decide) ?_
  refine X.dup2 C dX8_lands_74 rfl rfl ?_
  refine X.iald C h dX8_lands_75 1 rfl (fun h => ?_)
  refine X.iload C dX8_lands_76 0 rfl ?_
  refine X.iadd C dX8_lands_78 ?_
  refine X.iast (ws2 := (W_M G q (up2 M 1 (ix 18) ((M 1 (ix 18)) + rr_3)))) C h dX8_lands_79 1 rfl rfl (fun h => ?_)
  refine X.nameS (ws := fun M_9 => (W_M G q M_9)) h (fun M_9 h => ?_)
  refine X.iconst C dX8_lands_80 ?_
  cases h
  exact X.iret C dX8_lands_81 (Nat.zero_le _) (Nat.zero_le _)
