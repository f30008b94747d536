/-! constructors -/
def qf (l : List (Nat × Nat)) (k : Nat) : Nat := match l with
  | [] => 0
  | (a, b) :: l => cond (Nat.beq k a) b (qf l k)
def ob0 : Ob := fun _ _ => 0
def plan0 : Ob := (fX1_clear ob0).getD ob0
def air0 : Ob := up2 ob0 3 0 (-1)
def tell0 : Ob := up2 ob0 3 0 (-1)
def mod0 : Ob := upA (upA (up2 ob0 13 0 (-1)) 25 (up1 (up1 (up1 (up1 (fun _ => 0) (ix 0) (-1)) (ix 1) (-1)) (ix 2) (-1)) (ix 3) (-1))) 1 (empA (fun _ => 0))
def T0 (k : Nat) : Ob := [ob0, tell0, plan0, air0, plan0, air0, ob0, ob0, ob0, ob0, ob0].getD k ob0
section
variable {κ : Kx} {G : GT} {y : MethodName} {cc : ByteArray} {ret : Option FieldType} {nL : Nat} {rm : Room} {ws ws2 : va_W} {pc : Nat} {lv : List (Nat × Value)} {st : List Value} {a b : Nat} {Q : State → Prop} {index o : Nat}
theorem X.eqw (h : ws = ws2) (k : X κ G nL ws2 pc lv st a b Q) : X κ G nL ws pc lv st a b Q := h ▸ k
theorem X.permP (h : ws.Perm ws2) (k : X κ G nL ws2 pc lv st a b Q) : X κ G nL ws pc lv st a b Q := by
  obtain ⟨ps, h1, h2⟩ := pick_of_perm h
  exact X.perm ps (va_nd_of h1) h2 k
theorem X.cellQ {c : ClassId} {n : Nat} {rf rf2 : Nat → Option Nat} {ws1 : va_W} (h : ∀ j, j < n → rf j = rf2 j) (k : X κ G nL ((o, aQ c n rf2) :: ws1) pc lv st a b Q) : X κ G nL ((o, aQ c n rf) :: ws1) pc lv st a b Q := by
  intro H locs ls hP hD hS hl
  refine k H locs ls (fun j q hq => ?_) ⟨fun i j p q hp hq => ?_, fun j q hq => ?_⟩ hS hl
  · cases j with
    | zero =>
      cases hq
      have h1 := hP 0 _ rfl
      have e : vp_cell c (n, .inr (.inr (.inr (.inr rf)))) = vp_cell c (n, .inr (.inr (.inr (.inr rf2)))) := by
        rw [vp_cell_q, vp_cell_q]
        unfold arrV
        congr 1
        apply congrArg
        funext j
        show va_rf (rf j.val) = va_rf (rf2 j.val)
        rw [h j.val j.isLt]
      show H[o]? = some (vp_cell c _)
      rw [← e]
      exact h1
    | succ j => exact hP (j + 1) q hq
  · have f : ∀ (i : Nat) (p : Nat × va_E), ((o, aQ c n rf2) :: ws1)[i]? = some p → ∃ p2, ((o, aQ c n rf) :: ws1)[i]? = some p2 ∧ p2.1 = p.1 := by
      intro i p hp
      cases i with
      | zero => cases hp; exact ⟨_, rfl, rfl⟩
      | succ i => exact ⟨p, hp, rfl⟩
    intro e
    obtain ⟨p2, a1, a2⟩ := f i p hp
    obtain ⟨q2, b1, b2⟩ := f j q hq
    exact hD.1 i j p2 q2 a1 b1 (a2.trans (e.trans b2.symm))
  · cases j with
    | zero => cases hq; exact hD.2 0 (o, aQ c n rf) rfl
    | succ j => exact hD.2 (j + 1) q hq
variable {y2 : MethodName} {cc2 : ByteArray} {nL2 : Nat} {rm2 : Room} {As rest : List Value} {W0 : va_W} {post : va_W → Prop}
theorem X.callIT {n : Nat} (C : Cx κ G y cc ret nL rm) (hd : decode cc pc = .ok (.invokespecial index, 3)) (hl : Cond.methodLink y.cls index y2 ∈ UW) (hM : MN y2 cc2 nL2 n) (hC : CTE κ.2.1 G y2 cc2 nL2 rm2 (.ref o :: As) W0 post) (hn : As.length = n) (hst : st = As.reverse ++ .ref o :: rest) (hW : catOk rest = true) (hR : rmOk rm rm2 nL2 a b = true)
    (k : ∀ W1, post W1 → X κ G nL (ws ++ W1) (pc + 3) lv rest (a + rm2.cells) (b + rm2.slots) Q) : X κ G nL (ws ++ W0) pc lv st a b Q := X.callIE C hd hl hM hC ((List.range W0.length).map (fun i => i + ws.length)) (List.range ws.length) (va_nd_of (nd_r _ _)) (pick_r ws W0) (pick_l ws W0) (va_nd_of List.nodup_range) (fun i hi hj => by
    obtain ⟨x, hx, e⟩ := List.mem_map.mp hj
    have := List.mem_range.mp hi
    omega) hn hst hW hR k
theorem X.callINT {n : Nat} {host : String} (C : Cx κ G y cc ret nL rm) (hd : decode cc pc = .ok (.invokespecial index, 3)) (hl : Cond.methodLinkNest y.cls index y2 host ∈ lw_tbl) (hM : MN y2 cc2 nL2 n) (hC : CTE κ.2.1 G y2 cc2 nL2 rm2 (.ref o :: As) W0 post) (hn : As.length = n) (hst : st = As.reverse ++ .ref o :: rest) (hW : catOk rest = true) (hR : rmOk rm rm2 nL2 a b = true)
    (k : ∀ W1, post W1 → X κ G nL (ws ++ W1) (pc + 3) lv rest (a + rm2.cells) (b + rm2.slots) Q) : X κ G nL (ws ++ W0) pc lv st a b Q := X.callINE C hd hl hM hC ((List.range W0.length).map (fun i => i + ws.length)) (List.range ws.length) (va_nd_of (nd_r _ _)) (pick_r ws W0) (pick_l ws W0) (va_nd_of List.nodup_range) (fun i hi hj => by
    obtain ⟨x, hx, e⟩ := List.mem_map.mp hj
    have := List.mem_range.mp hi
    omega) hn hst hW hR k
end
def rX4_init : Room := { frames := 1, cells := 1, slots := 1600, locals := 12 }
theorem mX4_init : MN yX4_init cX4_init 1 0 := ⟨cd_X4_init, in_X4, ⟨⟨by decide, by decide⟩, by decide +kernel⟩, im_X4_init, rfl⟩
set_option maxHeartbeats 4000000 in
set_option maxRecDepth 100000 in
theorem kX4_init {l : Launch} {G : GT} (o : Nat) : CTE l G yX4_init cX4_init 1 rX4_init [.ref o] [(o, .inr (4, [.null, vi 0, vi 0, vi 0, vi 0]))] (fun W => ∃ q : Nat → Nat, q 31 = o ∧ W.Perm (W_Y G q ob0)) := by
  refine CTE.of (by decide) (Nat.le_of_ble_eq_true rfl) rfl (fun κ _ C => ?_)
  refine X.aload_n C dX4_init_0 rfl 0 rfl ?_
  refine X.objI C dX4_init_1 ml_X4_3 im_java_lang_Object_init cd_java_lang_Object_init (Nat.le_of_ble_eq_true rfl) (Nat.le_of_ble_eq_true rfl) ?_
  refine X.aload_n C dX4_init_4 rfl 0 rfl ?_
  refine X.sipush C dX4_init_5 (by decide) ?_
  refine X.newB (N := 1600) C dX4_init_8 ac_byte (by decide) (by decide) (Nat.le_of_ble_eq_true rfl) (Nat.le_of_ble_eq_true rfl) (Nat.le_of_ble_eq_true rfl) (fun q1 => ?_)
  refine X.eqw (ws2 := [(o, .inr (4, [.null, vi 0, vi 0, vi 0, vi 0])), (q1, aB G 1600 (fun _ => 0))]) rfl ?_
  refine X.putF (ws2 := [(o, .inr (4, [.ref q1, vi 0, vi 0, vi 0, vi 0])), (q1, aB G 1600 (fun _ => 0))]) (ty := (.array .byte)) C dX4_init_10 lay_X4 tyX4_ok nmX4 0 rfl rfl 0 (by decide) fl_X4_9 rfl rfl rfl rfl (by decide +kernel) rfl rfl (Nat.le_of_ble_eq_true rfl) rfl ?_
  refine X.eqw (ws2 := W_Y G (qf [(31, o), (0, q1)]) ob0) rfl ?_
  exact X.vretE C ⟨(qf [(31, o), (0, q1)]), rfl, List.Perm.refl _⟩ dX4_init_13 (Nat.le_of_ble_eq_true rfl) (Nat.le_of_ble_eq_true rfl)
def rX1_init : Room := { frames := 3, cells := 6, slots := 44, locals := 63 }
theorem mX1_init : MN yX1_init cX1_init 1 0 := ⟨cd_X1_init, in_X1, ⟨⟨by decide, by decide⟩, by decide +kernel⟩, im_X1_init, rfl⟩
set_option maxHeartbeats 4000000 in
set_option maxRecDepth 100000 in
theorem kX1_init {l : Launch} {G : GT} (o : Nat) : CTE l G yX1_init cX1_init 1 rX1_init [.ref o] [(o, .inr (1, [vi 0, vi 0, vi 0, vi 0, vi 0, vi 0, vi 0, vi 0, vi 0, vi 0, vi 0, vi 0, .null, .null, vi 0, .null, .null, .null, vi 0, .null]))] (fun W => ∃ q : Nat → Nat, q 31 = o ∧ W.Perm (W_P G q plan0)) := by
  refine CTE.of (by decide) (Nat.le_of_ble_eq_true rfl) rfl (fun κ _ C => ?_)
  refine X.aload_n C dX1_init_0 rfl 0 rfl ?_
  refine X.objI C dX1_init_1 ml_X1_3 im_java_lang_Object_init cd_java_lang_Object_init (Nat.le_of_ble_eq_true rfl) (Nat.le_of_ble_eq_true rfl) ?_
  refine X.aload_n C dX1_init_4 rfl 0 rfl ?_
  refine X.iconst C dX1_init_5 ?_
  refine X.newI (N := 5) C dX1_init_6 ac_int (by decide) (by decide) (Nat.le_of_ble_eq_true rfl) (Nat.le_of_ble_eq_true rfl) (Nat.le_of_ble_eq_true rfl) (fun q1 => ?_)
  refine X.eqw (ws2 := [(o, .inr (1, [vi 0, vi 0, vi 0, vi 0, vi 0, vi 0, vi 0, vi 0, vi 0, vi 0, vi 0, vi 0, .null, .null, vi 0, .null, .null, .null, vi 0, .null])), (q1, aI G 5 (fun _ => 0))]) rfl ?_
  refine X.putF (ws2 := [(o, .inr (1, [vi 0, vi 0, vi 0, vi 0, vi 0, vi 0, vi 0, vi 0, vi 0, vi 0, vi 0, vi 0, .ref q1, .null, vi 0, .null, .null, .null, vi 0, .null])), (q1, aI G 5 (fun _ => 0))]) (ty := (.array .int)) C dX1_init_8 lay_X1 tyX1_ok nmX1 0 rfl rfl 12 (by decide) fl_X1_9 rfl rfl rfl rfl (by decide +kernel) rfl rfl (Nat.le_of_ble_eq_true rfl) rfl ?_
  refine X.aload_n C dX1_init_11 rfl 0 rfl ?_
  refine X.iconst C dX1_init_12 ?_
  refine X.newI (N := 5) C dX1_init_13 ac_int (by decide) (by decide) (Nat.le_of_ble_eq_true rfl) (Nat.le_of_ble_eq_true rfl) (Nat.le_of_ble_eq_true rfl) (fun q2 => ?_)
  refine X.eqw (ws2 := [(o, .inr (1, [vi 0, vi 0, vi 0, vi 0, vi 0, vi 0, vi 0, vi 0, vi 0, vi 0, vi 0, vi 0, .ref q1, .null, vi 0, .null, .null, .null, vi 0, .null])), (q1, aI G 5 (fun _ => 0)), (q2, aI G 5 (fun _ => 0))]) rfl ?_
  refine X.putF (ws2 := [(o, .inr (1, [vi 0, vi 0, vi 0, vi 0, vi 0, vi 0, vi 0, vi 0, vi 0, vi 0, vi 0, vi 0, .ref q1, .ref q2, vi 0, .null, .null, .null, vi 0, .null])), (q1, aI G 5 (fun _ => 0)), (q2, aI G 5 (fun _ => 0))]) (ty := (.array .int)) C dX1_init_15 lay_X1 tyX1_ok nmX1 0 rfl rfl 13 (by decide) fl_X1_15 rfl rfl rfl rfl (by decide +kernel) rfl rfl (Nat.le_of_ble_eq_true rfl) rfl ?_
  refine X.aload_n C dX1_init_18 rfl 0 rfl ?_
  refine X.bipush C dX1_init_19 (by decide) ?_
  refine X.newI (N := 8) C dX1_init_21 ac_int (by decide) (by decide) (Nat.le_of_ble_eq_true rfl) (Nat.le_of_ble_eq_true rfl) (Nat.le_of_ble_eq_true rfl) (fun q3 => ?_)
  refine X.eqw (ws2 := [(o, .inr (1, [vi 0, vi 0, vi 0, vi 0, vi 0, vi 0, vi 0, vi 0, vi 0, vi 0, vi 0, vi 0, .ref q1, .ref q2, vi 0, .null, .null, .null, vi 0, .null])), (q1, aI G 5 (fun _ => 0)), (q2, aI G 5 (fun _ => 0)), (q3, aI G 8 (fun _ => 0))]) rfl ?_
  refine X.putF (ws2 := [(o, .inr (1, [vi 0, vi 0, vi 0, vi 0, vi 0, vi 0, vi 0, vi 0, vi 0, vi 0, vi 0, vi 0, .ref q1, .ref q2, vi 0, .ref q3, .null, .null, vi 0, .null])), (q1, aI G 5 (fun _ => 0)), (q2, aI G 5 (fun _ => 0)), (q3, aI G 8 (fun _ => 0))]) (ty := (.array .int)) C dX1_init_23 lay_X1 tyX1_ok nmX1 0 rfl rfl 15 (by decide) fl_X1_18 rfl rfl rfl rfl (by decide +kernel) rfl rfl (Nat.le_of_ble_eq_true rfl) rfl ?_
  refine X.aload_n C dX1_init_26 rfl 0 rfl ?_
  refine X.bipush C dX1_init_27 (by decide) ?_
  refine X.newI (N := 8) C dX1_init_29 ac_int (by decide) (by decide) (Nat.le_of_ble_eq_true rfl) (Nat.le_of_ble_eq_true rfl) (Nat.le_of_ble_eq_true rfl) (fun q4 => ?_)
  refine X.eqw (ws2 := [(o, .inr (1, [vi 0, vi 0, vi 0, vi 0, vi 0, vi 0, vi 0, vi 0, vi 0, vi 0, vi 0, vi 0, .ref q1, .ref q2, vi 0, .ref q3, .null, .null, vi 0, .null])), (q1, aI G 5 (fun _ => 0)), (q2, aI G 5 (fun _ => 0)), (q3, aI G 8 (fun _ => 0)), (q4, aI G 8 (fun _ => 0))]) rfl ?_
  refine X.putF (ws2 := [(o, .inr (1, [vi 0, vi 0, vi 0, vi 0, vi 0, vi 0, vi 0, vi 0, vi 0, vi 0, vi 0, vi 0, .ref q1, .ref q2, vi 0, .ref q3, .ref q4, .null, vi 0, .null])), (q1, aI G 5 (fun _ => 0)), (q2, aI G 5 (fun _ => 0)), (q3, aI G 8 (fun _ => 0)), (q4, aI G 8 (fun _ => 0))]) (ty := (.array .int)) C dX1_init_31 lay_X1 tyX1_ok nmX1 0 rfl rfl 16 (by decide) fl_X1_21 rfl rfl rfl rfl (by decide +kernel) rfl rfl (Nat.le_of_ble_eq_true rfl) rfl ?_
  refine X.aload_n C dX1_init_34 rfl 0 rfl ?_
  refine X.bipush C dX1_init_35 (by decide) ?_
  refine X.newI (N := 8) C dX1_init_37 ac_int (by decide) (by decide) (Nat.le_of_ble_eq_true rfl) (Nat.le_of_ble_eq_true rfl) (Nat.le_of_ble_eq_true rfl) (fun q5 => ?_)
  refine X.eqw (ws2 := [(o, .inr (1, [vi 0, vi 0, vi 0, vi 0, vi 0, vi 0, vi 0, vi 0, vi 0, vi 0, vi 0, vi 0, .ref q1, .ref q2, vi 0, .ref q3, .ref q4, .null, vi 0, .null])), (q1, aI G 5 (fun _ => 0)), (q2, aI G 5 (fun _ => 0)), (q3, aI G 8 (fun _ => 0)), (q4, aI G 8 (fun _ => 0)), (q5, aI G 8 (fun _ => 0))]) rfl ?_
  refine X.putF (ws2 := [(o, .inr (1, [vi 0, vi 0, vi 0, vi 0, vi 0, vi 0, vi 0, vi 0, vi 0, vi 0, vi 0, vi 0, .ref q1, .ref q2, vi 0, .ref q3, .ref q4, .ref q5, vi 0, .null])), (q1, aI G 5 (fun _ => 0)), (q2, aI G 5 (fun _ => 0)), (q3, aI G 8 (fun _ => 0)), (q4, aI G 8 (fun _ => 0)), (q5, aI G 8 (fun _ => 0))]) (ty := (.array .int)) C dX1_init_39 lay_X1 tyX1_ok nmX1 0 rfl rfl 17 (by decide) fl_X1_24 rfl rfl rfl rfl (by decide +kernel) rfl rfl (Nat.le_of_ble_eq_true rfl) rfl ?_
  refine X.aload_n C dX1_init_42 rfl 0 rfl ?_
  refine X.bipush C dX1_init_43 (by decide) ?_
  refine X.newI (N := 10) C dX1_init_45 ac_int (by decide) (by decide) (Nat.le_of_ble_eq_true rfl) (Nat.le_of_ble_eq_true rfl) (Nat.le_of_ble_eq_true rfl) (fun q6 => ?_)
  refine X.eqw (ws2 := [(o, .inr (1, [vi 0, vi 0, vi 0, vi 0, vi 0, vi 0, vi 0, vi 0, vi 0, vi 0, vi 0, vi 0, .ref q1, .ref q2, vi 0, .ref q3, .ref q4, .ref q5, vi 0, .null])), (q1, aI G 5 (fun _ => 0)), (q2, aI G 5 (fun _ => 0)), (q3, aI G 8 (fun _ => 0)), (q4, aI G 8 (fun _ => 0)), (q5, aI G 8 (fun _ => 0)), (q6, aI G 10 (fun _ => 0))]) rfl ?_
  refine X.putF (ws2 := [(o, .inr (1, [vi 0, vi 0, vi 0, vi 0, vi 0, vi 0, vi 0, vi 0, vi 0, vi 0, vi 0, vi 0, .ref q1, .ref q2, vi 0, .ref q3, .ref q4, .ref q5, vi 0, .ref q6])), (q1, aI G 5 (fun _ => 0)), (q2, aI G 5 (fun _ => 0)), (q3, aI G 8 (fun _ => 0)), (q4, aI G 8 (fun _ => 0)), (q5, aI G 8 (fun _ => 0)), (q6, aI G 10 (fun _ => 0))]) (ty := (.array .int)) C dX1_init_47 lay_X1 tyX1_ok nmX1 0 rfl rfl 19 (by decide) fl_X1_27 rfl rfl rfl rfl (by decide +kernel) rfl rfl (Nat.le_of_ble_eq_true rfl) rfl ?_
  refine X.aload_n C dX1_init_50 rfl 0 rfl ?_
  refine X.eqw (ws2 := W_P G (qf [(31, o), (12, q1), (13, q2), (15, q3), (16, q4), (17, q5), (19, q6)]) ob0) rfl ?_
  refine X.callVv (q0 := 0) (As := []) (rest := []) (W1 := fun v => W_P G (qf [(31, o), (12, q1), (13, q2), (15, q3), (16, q4), (17, q5), (19, q6)]) v) (ws2 := fun v => W_P G (qf [(31, o), (12, q1), (13, q2), (15, q3), (16, q4), (17, q5), (19, q6)]) v) C (show bd (fX1_clear ob0) (fun v => some v) = some plan0 from rfl) dX1_init_51 ml_X1_30 mX1_clear (fun v hv => kX1_clear (qf [(31, o), (12, q1), (13, q2), (15, q3), (16, q4), (17, q5), (19, q6)]) ob0 v hv) (fun v => ln_P_P_p_P (G := G) (q := (qf [(31, o), (12, q1), (13, q2), (15, q3), (16, q4), (17, q5), (19, q6)])) (P := ob0) (NP := v)) rfl rfl rfl rfl rfl rfl rfl rfl (fun v h => ?_)
  cases h
  exact X.vretE C ⟨(qf [(31, o), (12, q1), (13, q2), (15, q3), (16, q4), (17, q5), (19, q6)]), rfl, List.Perm.refl _⟩ dX1_init_54 (Nat.le_of_ble_eq_true rfl) (Nat.le_of_ble_eq_true rfl)
def rX0_init : Room := { frames := 1, cells := 9, slots := 1358, locals := 12 }
theorem mX0_init : MN yX0_init cX0_init 1 0 := ⟨cd_X0_init, in_X0, ⟨⟨by decide, by decide⟩, by decide +kernel⟩, im_X0_init, rfl⟩
set_option maxHeartbeats 4000000 in
set_option maxRecDepth 100000 in
theorem kX0_init {l : Launch} {G : GT} (o : Nat) : CTE l G yX0_init cX0_init 1 rX0_init [.ref o] [(o, .inr (0, [vi 0, vi 0, vi 0, vi 0, vi 0, vi 0, vi 0, vi 0, .null, .null, .null, .null, .null, .null, .null, .null, .null]))] (fun W => ∃ q : Nat → Nat, q 31 = o ∧ W.Perm (W_A G q air0)) := by
  refine CTE.of (by decide) (Nat.le_of_ble_eq_true rfl) rfl (fun κ _ C => ?_)
  refine X.aload_n C dX0_init_0 rfl 0 rfl ?_
  refine X.objI C dX0_init_1 ml_X0_3 im_java_lang_Object_init cd_java_lang_Object_init (Nat.le_of_ble_eq_true rfl) (Nat.le_of_ble_eq_true rfl) ?_
  refine X.aload_n C dX0_init_4 rfl 0 rfl ?_
  refine X.iconst C dX0_init_5 ?_
  refine X.put (ws2 := [(o, .inr (0, [vi 0, vi 0, vi 0, vi (-1), vi 0, vi 0, vi 0, vi 0, .null, .null, .null, .null, .null, .null, .null, .null, .null]))]) (ty := .int) C dX0_init_6 lay_X0 tyX0_ok nmX0 0 rfl rfl 3 (by decide) fl_X0_9 rfl rfl (by decide +kernel) rfl rfl (Nat.le_of_ble_eq_true rfl) rfl ?_
  refine X.aload_n C dX0_init_9 rfl 0 rfl ?_
  refine X.bipush C dX0_init_10 (by decide) ?_
  refine X.newI (N := 32) C dX0_init_12 ac_int (by decide) (by decide) (Nat.le_of_ble_eq_true rfl) (Nat.le_of_ble_eq_true rfl) (Nat.le_of_ble_eq_true rfl) (fun q1 => ?_)
  refine X.eqw (ws2 := [(o, .inr (0, [vi 0, vi 0, vi 0, vi (-1), vi 0, vi 0, vi 0, vi 0, .null, .null, .null, .null, .null, .null, .null, .null, .null])), (q1, aI G 32 (fun _ => 0))]) rfl ?_
  refine X.putF (ws2 := [(o, .inr (0, [vi 0, vi 0, vi 0, vi (-1), vi 0, vi 0, vi 0, vi 0, .ref q1, .null, .null, .null, .null, .null, .null, .null, .null])), (q1, aI G 32 (fun _ => 0))]) (ty := (.array .int)) C dX0_init_14 lay_X0 tyX0_ok nmX0 0 rfl rfl 8 (by decide) fl_X0_15 rfl rfl rfl rfl (by decide +kernel) rfl rfl (Nat.le_of_ble_eq_true rfl) rfl ?_
  refine X.aload_n C dX0_init_17 rfl 0 rfl ?_
  refine X.bipush C dX0_init_18 (by decide) ?_
  refine X.newI (N := 32) C dX0_init_20 ac_int (by decide) (by decide) (Nat.le_of_ble_eq_true rfl) (Nat.le_of_ble_eq_true rfl) (Nat.le_of_ble_eq_true rfl) (fun q2 => ?_)
  refine X.eqw (ws2 := [(o, .inr (0, [vi 0, vi 0, vi 0, vi (-1), vi 0, vi 0, vi 0, vi 0, .ref q1, .null, .null, .null, .null, .null, .null, .null, .null])), (q1, aI G 32 (fun _ => 0)), (q2, aI G 32 (fun _ => 0))]) rfl ?_
  refine X.putF (ws2 := [(o, .inr (0, [vi 0, vi 0, vi 0, vi (-1), vi 0, vi 0, vi 0, vi 0, .ref q1, .ref q2, .null, .null, .null, .null, .null, .null, .null])), (q1, aI G 32 (fun _ => 0)), (q2, aI G 32 (fun _ => 0))]) (ty := (.array .int)) C dX0_init_22 lay_X0 tyX0_ok nmX0 0 rfl rfl 9 (by decide) fl_X0_19 rfl rfl rfl rfl (by decide +kernel) rfl rfl (Nat.le_of_ble_eq_true rfl) rfl ?_
  refine X.aload_n C dX0_init_25 rfl 0 rfl ?_
  refine X.bipush C dX0_init_26 (by decide) ?_
  refine X.newI (N := 32) C dX0_init_28 ac_int (by decide) (by decide) (Nat.le_of_ble_eq_true rfl) (Nat.le_of_ble_eq_true rfl) (Nat.le_of_ble_eq_true rfl) (fun q3 => ?_)
  refine X.eqw (ws2 := [(o, .inr (0, [vi 0, vi 0, vi 0, vi (-1), vi 0, vi 0, vi 0, vi 0, .ref q1, .ref q2, .null, .null, .null, .null, .null, .null, .null])), (q1, aI G 32 (fun _ => 0)), (q2, aI G 32 (fun _ => 0)), (q3, aI G 32 (fun _ => 0))]) rfl ?_
  refine X.putF (ws2 := [(o, .inr (0, [vi 0, vi 0, vi 0, vi (-1), vi 0, vi 0, vi 0, vi 0, .ref q1, .ref q2, .ref q3, .null, .null, .null, .null, .null, .null])), (q1, aI G 32 (fun _ => 0)), (q2, aI G 32 (fun _ => 0)), (q3, aI G 32 (fun _ => 0))]) (ty := (.array .int)) C dX0_init_30 lay_X0 tyX0_ok nmX0 0 rfl rfl 10 (by decide) fl_X0_22 rfl rfl rfl rfl (by decide +kernel) rfl rfl (Nat.le_of_ble_eq_true rfl) rfl ?_
  refine X.aload_n C dX0_init_33 rfl 0 rfl ?_
  refine X.bipush C dX0_init_34 (by decide) ?_
  refine X.newI (N := 32) C dX0_init_36 ac_int (by decide) (by decide) (Nat.le_of_ble_eq_true rfl) (Nat.le_of_ble_eq_true rfl) (Nat.le_of_ble_eq_true rfl) (fun q4 => ?_)
  refine X.eqw (ws2 := [(o, .inr (0, [vi 0, vi 0, vi 0, vi (-1), vi 0, vi 0, vi 0, vi 0, .ref q1, .ref q2, .ref q3, .null, .null, .null, .null, .null, .null])), (q1, aI G 32 (fun _ => 0)), (q2, aI G 32 (fun _ => 0)), (q3, aI G 32 (fun _ => 0)), (q4, aI G 32 (fun _ => 0))]) rfl ?_
  refine X.putF (ws2 := [(o, .inr (0, [vi 0, vi 0, vi 0, vi (-1), vi 0, vi 0, vi 0, vi 0, .ref q1, .ref q2, .ref q3, .ref q4, .null, .null, .null, .null, .null])), (q1, aI G 32 (fun _ => 0)), (q2, aI G 32 (fun _ => 0)), (q3, aI G 32 (fun _ => 0)), (q4, aI G 32 (fun _ => 0))]) (ty := (.array .int)) C dX0_init_38 lay_X0 tyX0_ok nmX0 0 rfl rfl 11 (by decide) fl_X0_25 rfl rfl rfl rfl (by decide +kernel) rfl rfl (Nat.le_of_ble_eq_true rfl) rfl ?_
  refine X.aload_n C dX0_init_41 rfl 0 rfl ?_
  refine X.iconst C dX0_init_42 ?_
  refine X.newI (N := 5) C dX0_init_43 ac_int (by decide) (by decide) (Nat.le_of_ble_eq_true rfl) (Nat.le_of_ble_eq_true rfl) (Nat.le_of_ble_eq_true rfl) (fun q5 => ?_)
  refine X.eqw (ws2 := [(o, .inr (0, [vi 0, vi 0, vi 0, vi (-1), vi 0, vi 0, vi 0, vi 0, .ref q1, .ref q2, .ref q3, .ref q4, .null, .null, .null, .null, .null])), (q1, aI G 32 (fun _ => 0)), (q2, aI G 32 (fun _ => 0)), (q3, aI G 32 (fun _ => 0)), (q4, aI G 32 (fun _ => 0)), (q5, aI G 5 (fun _ => 0))]) rfl ?_
  refine X.putF (ws2 := [(o, .inr (0, [vi 0, vi 0, vi 0, vi (-1), vi 0, vi 0, vi 0, vi 0, .ref q1, .ref q2, .ref q3, .ref q4, .ref q5, .null, .null, .null, .null])), (q1, aI G 32 (fun _ => 0)), (q2, aI G 32 (fun _ => 0)), (q3, aI G 32 (fun _ => 0)), (q4, aI G 32 (fun _ => 0)), (q5, aI G 5 (fun _ => 0))]) (ty := (.array .int)) C dX0_init_45 lay_X0 tyX0_ok nmX0 0 rfl rfl 12 (by decide) fl_X0_28 rfl rfl rfl rfl (by decide +kernel) rfl rfl (Nat.le_of_ble_eq_true rfl) rfl ?_
  refine X.aload_n C dX0_init_48 rfl 0 rfl ?_
  refine X.iconst C dX0_init_49 ?_
  refine X.newI (N := 5) C dX0_init_50 ac_int (by decide) (by decide) (Nat.le_of_ble_eq_true rfl) (Nat.le_of_ble_eq_true rfl) (Nat.le_of_ble_eq_true rfl) (fun q6 => ?_)
  refine X.eqw (ws2 := [(o, .inr (0, [vi 0, vi 0, vi 0, vi (-1), vi 0, vi 0, vi 0, vi 0, .ref q1, .ref q2, .ref q3, .ref q4, .ref q5, .null, .null, .null, .null])), (q1, aI G 32 (fun _ => 0)), (q2, aI G 32 (fun _ => 0)), (q3, aI G 32 (fun _ => 0)), (q4, aI G 32 (fun _ => 0)), (q5, aI G 5 (fun _ => 0)), (q6, aI G 5 (fun _ => 0))]) rfl ?_
  refine X.putF (ws2 := [(o, .inr (0, [vi 0, vi 0, vi 0, vi (-1), vi 0, vi 0, vi 0, vi 0, .ref q1, .ref q2, .ref q3, .ref q4, .ref q5, .ref q6, .null, .null, .null])), (q1, aI G 32 (fun _ => 0)), (q2, aI G 32 (fun _ => 0)), (q3, aI G 32 (fun _ => 0)), (q4, aI G 32 (fun _ => 0)), (q5, aI G 5 (fun _ => 0)), (q6, aI G 5 (fun _ => 0))]) (ty := (.array .int)) C dX0_init_52 lay_X0 tyX0_ok nmX0 0 rfl rfl 13 (by decide) fl_X0_31 rfl rfl rfl rfl (by decide +kernel) rfl rfl (Nat.le_of_ble_eq_true rfl) rfl ?_
  refine X.aload_n C dX0_init_55 rfl 0 rfl ?_
  refine X.sipush C dX0_init_56 (by decide) ?_
  refine X.newI (N := 160) C dX0_init_59 ac_int (by decide) (by decide) (Nat.le_of_ble_eq_true rfl) (Nat.le_of_ble_eq_true rfl) (Nat.le_of_ble_eq_true rfl) (fun q7 => ?_)
  refine X.eqw (ws2 := [(o, .inr (0, [vi 0, vi 0, vi 0, vi (-1), vi 0, vi 0, vi 0, vi 0, .ref q1, .ref q2, .ref q3, .ref q4, .ref q5, .ref q6, .null, .null, .null])), (q1, aI G 32 (fun _ => 0)), (q2, aI G 32 (fun _ => 0)), (q3, aI G 32 (fun _ => 0)), (q4, aI G 32 (fun _ => 0)), (q5, aI G 5 (fun _ => 0)), (q6, aI G 5 (fun _ => 0)), (q7, aI G 160 (fun _ => 0))]) rfl ?_
  refine X.putF (ws2 := [(o, .inr (0, [vi 0, vi 0, vi 0, vi (-1), vi 0, vi 0, vi 0, vi 0, .ref q1, .ref q2, .ref q3, .ref q4, .ref q5, .ref q6, .ref q7, .null, .null])), (q1, aI G 32 (fun _ => 0)), (q2, aI G 32 (fun _ => 0)), (q3, aI G 32 (fun _ => 0)), (q4, aI G 32 (fun _ => 0)), (q5, aI G 5 (fun _ => 0)), (q6, aI G 5 (fun _ => 0)), (q7, aI G 160 (fun _ => 0))]) (ty := (.array .int)) C dX0_init_61 lay_X0 tyX0_ok nmX0 0 rfl rfl 14 (by decide) fl_X0_34 rfl rfl rfl rfl (by decide +kernel) rfl rfl (Nat.le_of_ble_eq_true rfl) rfl ?_
  refine X.aload_n C dX0_init_64 rfl 0 rfl ?_
  refine X.sipush C dX0_init_65 (by decide) ?_
  refine X.newI (N := 160) C dX0_init_68 ac_int (by decide) (by decide) (Nat.le_of_ble_eq_true rfl) (Nat.le_of_ble_eq_true rfl) (Nat.le_of_ble_eq_true rfl) (fun q8 => ?_)
  refine X.eqw (ws2 := [(o, .inr (0, [vi 0, vi 0, vi 0, vi (-1), vi 0, vi 0, vi 0, vi 0, .ref q1, .ref q2, .ref q3, .ref q4, .ref q5, .ref q6, .ref q7, .null, .null])), (q1, aI G 32 (fun _ => 0)), (q2, aI G 32 (fun _ => 0)), (q3, aI G 32 (fun _ => 0)), (q4, aI G 32 (fun _ => 0)), (q5, aI G 5 (fun _ => 0)), (q6, aI G 5 (fun _ => 0)), (q7, aI G 160 (fun _ => 0)), (q8, aI G 160 (fun _ => 0))]) rfl ?_
  refine X.putF (ws2 := [(o, .inr (0, [vi 0, vi 0, vi 0, vi (-1), vi 0, vi 0, vi 0, vi 0, .ref q1, .ref q2, .ref q3, .ref q4, .ref q5, .ref q6, .ref q7, .ref q8, .null])), (q1, aI G 32 (fun _ => 0)), (q2, aI G 32 (fun _ => 0)), (q3, aI G 32 (fun _ => 0)), (q4, aI G 32 (fun _ => 0)), (q5, aI G 5 (fun _ => 0)), (q6, aI G 5 (fun _ => 0)), (q7, aI G 160 (fun _ => 0)), (q8, aI G 160 (fun _ => 0))]) (ty := (.array .int)) C dX0_init_70 lay_X0 tyX0_ok nmX0 0 rfl rfl 15 (by decide) fl_X0_37 rfl rfl rfl rfl (by decide +kernel) rfl rfl (Nat.le_of_ble_eq_true rfl) rfl ?_
  refine X.aload_n C dX0_init_73 rfl 0 rfl ?_
  refine X.sipush C dX0_init_74 (by decide) ?_
  refine X.newI (N := 900) C dX0_init_77 ac_int (by decide) (by decide) (Nat.le_of_ble_eq_true rfl) (Nat.le_of_ble_eq_true rfl) (Nat.le_of_ble_eq_true rfl) (fun q9 => ?_)
  refine X.eqw (ws2 := [(o, .inr (0, [vi 0, vi 0, vi 0, vi (-1), vi 0, vi 0, vi 0, vi 0, .ref q1, .ref q2, .ref q3, .ref q4, .ref q5, .ref q6, .ref q7, .ref q8, .null])), (q1, aI G 32 (fun _ => 0)), (q2, aI G 32 (fun _ => 0)), (q3, aI G 32 (fun _ => 0)), (q4, aI G 32 (fun _ => 0)), (q5, aI G 5 (fun _ => 0)), (q6, aI G 5 (fun _ => 0)), (q7, aI G 160 (fun _ => 0)), (q8, aI G 160 (fun _ => 0)), (q9, aI G 900 (fun _ => 0))]) rfl ?_
  refine X.putF (ws2 := [(o, .inr (0, [vi 0, vi 0, vi 0, vi (-1), vi 0, vi 0, vi 0, vi 0, .ref q1, .ref q2, .ref q3, .ref q4, .ref q5, .ref q6, .ref q7, .ref q8, .ref q9])), (q1, aI G 32 (fun _ => 0)), (q2, aI G 32 (fun _ => 0)), (q3, aI G 32 (fun _ => 0)), (q4, aI G 32 (fun _ => 0)), (q5, aI G 5 (fun _ => 0)), (q6, aI G 5 (fun _ => 0)), (q7, aI G 160 (fun _ => 0)), (q8, aI G 160 (fun _ => 0)), (q9, aI G 900 (fun _ => 0))]) (ty := (.array .int)) C dX0_init_79 lay_X0 tyX0_ok nmX0 0 rfl rfl 16 (by decide) fl_X0_40 rfl rfl rfl rfl (by decide +kernel) rfl rfl (Nat.le_of_ble_eq_true rfl) rfl ?_
  refine X.eqw (ws2 := W_A G (qf [(31, o), (8, q1), (9, q2), (10, q3), (11, q4), (12, q5), (13, q6), (14, q7), (15, q8), (16, q9)]) air0) rfl ?_
  exact X.vretE C ⟨(qf [(31, o), (8, q1), (9, q2), (10, q3), (11, q4), (12, q5), (13, q6), (14, q7), (15, q8), (16, q9)]), rfl, List.Perm.refl _⟩ dX0_init_82 (Nat.le_of_ble_eq_true rfl) (Nat.le_of_ble_eq_true rfl)
def rX2_init : Room := { frames := 1, cells := 1, slots := 60, locals := 12 }
theorem mX2_init : MN yX2_init cX2_init 1 0 := ⟨cd_X2_init, in_X2, ⟨⟨by decide, by decide⟩, by decide +kernel⟩, im_X2_init, rfl⟩
set_option maxHeartbeats 4000000 in
set_option maxRecDepth 100000 in
theorem kX2_init {l : Launch} {G : GT} (o : Nat) : CTE l G yX2_init cX2_init 1 rX2_init [.ref o] [(o, .inr (2, [vi 0, vi 0, vi 0, .null]))] (fun W => ∃ q : Nat → Nat, q 31 = o ∧ W.Perm (W_R G q ob0)) := by
  refine CTE.of (by decide) (Nat.le_of_ble_eq_true rfl) rfl (fun κ _ C => ?_)
  refine X.aload_n C dX2_init_0 rfl 0 rfl ?_
  refine X.objI C dX2_init_1 ml_X2_3 im_java_lang_Object_init cd_java_lang_Object_init (Nat.le_of_ble_eq_true rfl) (Nat.le_of_ble_eq_true rfl) ?_
  refine X.aload_n C dX2_init_4 rfl 0 rfl ?_
  refine X.bipush C dX2_init_5 (by decide) ?_
  refine X.newJ (N := 60) C dX2_init_7 ac_long (by decide) (by decide) (Nat.le_of_ble_eq_true rfl) (Nat.le_of_ble_eq_true rfl) (Nat.le_of_ble_eq_true rfl) (fun q1 => ?_)
  refine X.eqw (ws2 := [(o, .inr (2, [vi 0, vi 0, vi 0, .null])), (q1, aJ G 60 (fun _ => 0))]) rfl ?_
  refine X.putF (ws2 := [(o, .inr (2, [vi 0, vi 0, vi 0, .ref q1])), (q1, aJ G 60 (fun _ => 0))]) (ty := (.array .long)) C dX2_init_9 lay_X2 tyX2_ok nmX2 0 rfl rfl 3 (by decide) fl_X2_9 rfl rfl rfl rfl (by decide +kernel) rfl rfl (Nat.le_of_ble_eq_true rfl) rfl ?_
  refine X.eqw (ws2 := W_R G (qf [(31, o), (3, q1)]) ob0) rfl ?_
  exact X.vretE C ⟨(qf [(31, o), (3, q1)]), rfl, List.Perm.refl _⟩ dX2_init_12 (Nat.le_of_ble_eq_true rfl) (Nat.le_of_ble_eq_true rfl)
def rX6_init : Room := { frames := 1, cells := 1, slots := 900, locals := 12 }
theorem mX6_init : MN yX6_init cX6_init 1 0 := ⟨cd_X6_init, in_X6, ⟨⟨by decide, by decide⟩, by decide +kernel⟩, im_X6_init, rfl⟩
set_option maxHeartbeats 4000000 in
set_option maxRecDepth 100000 in
theorem kX6_init {l : Launch} {G : GT} (o : Nat) : CTE l G yX6_init cX6_init 1 rX6_init [.ref o] [(o, .inr (6, [.null]))] (fun W => ∃ q : Nat → Nat, q 31 = o ∧ W.Perm (wX6 G q ob0)) := by
  refine CTE.of (by decide) (Nat.le_of_ble_eq_true rfl) rfl (fun κ _ C => ?_)
  refine X.aload_n C dX6_init_0 rfl 0 rfl ?_
  refine X.objI C dX6_init_1 ml_X6_3 im_java_lang_Object_init cd_java_lang_Object_init (Nat.le_of_ble_eq_true rfl) (Nat.le_of_ble_eq_true rfl) ?_
  refine X.aload_n C dX6_init_4 rfl 0 rfl ?_
  refine X.sipush C dX6_init_5 (by decide) ?_
  refine X.newI (N := 900) C dX6_init_8 ac_int (by decide) (by decide) (Nat.le_of_ble_eq_true rfl) (Nat.le_of_ble_eq_true rfl) (Nat.le_of_ble_eq_true rfl) (fun q1 => ?_)
  refine X.eqw (ws2 := [(o, .inr (6, [.null])), (q1, aI G 900 (fun _ => 0))]) rfl ?_
  refine X.putF (ws2 := [(o, .inr (6, [.ref q1])), (q1, aI G 900 (fun _ => 0))]) (ty := (.array .int)) C dX6_init_10 lay_X6 tyX6_ok nmX6 0 rfl rfl 0 (by decide) fl_X6_9 rfl rfl rfl rfl (by decide +kernel) rfl rfl (Nat.le_of_ble_eq_true rfl) rfl ?_
  refine X.eqw (ws2 := wX6 G (qf [(31, o), (0, q1)]) ob0) rfl ?_
  exact X.vretE C ⟨(qf [(31, o), (0, q1)]), rfl, List.Perm.refl _⟩ dX6_init_13 (Nat.le_of_ble_eq_true rfl) (Nat.le_of_ble_eq_true rfl)
def rX8_init : Room := { frames := 1, cells := 14, slots := 12236, locals := 21 }
theorem mX8_init : MN yX8_init cX8_init 1 0 := ⟨cd_X8_init, in_X8, ⟨⟨by decide, by decide⟩, by decide +kernel⟩, im_X8_init, rfl⟩
set_option maxHeartbeats 4000000 in
set_option maxRecDepth 100000 in
theorem kX8_init {l : Launch} {G : GT} (o : Nat) : CTE l G yX8_init cX8_init 1 rX8_init [.ref o] [(o, .inr (8, [vi 0, .null, .null, .null, .null, vi 0, .null, vi 0, vi 0, vi 0, vi 0, vi 0, vi 0, vi 0, .null, .null, .null, .null, vi 0, vi 0, vi 0, vi 0, vi 0, .null, vl 0, .null, .null, .null, .null]))] (fun W => ∃ q : Nat → Nat, q 31 = o ∧ W.Perm (W_M G q mod0)) := by
  refine CTE.of (by decide) (Nat.le_of_ble_eq_true rfl) rfl (fun κ _ C => ?_)
  refine X.aload_n C dX8_init_0 rfl 0 rfl ?_
  refine X.objI C dX8_init_1 ml_X8_7 im_java_lang_Object_init cd_java_lang_Object_init (Nat.le_of_ble_eq_true rfl) (Nat.le_of_ble_eq_true rfl) ?_
  refine X.aload_n C dX8_init_4 rfl 0 rfl ?_
  refine X.sipush C dX8_init_5 (by decide) ?_
  refine X.newI (N := 1419) C dX8_init_8 ac_int (by decide) (by decide) (Nat.le_of_ble_eq_true rfl) (Nat.le_of_ble_eq_true rfl) (Nat.le_of_ble_eq_true rfl) (fun q1 => ?_)
  refine X.eqw (ws2 := [(o, .inr (8, [vi 0, .null, .null, .null, .null, vi 0, .null, vi 0, vi 0, vi 0, vi 0, vi 0, vi 0, vi 0, .null, .null, .null, .null, vi 0, vi 0, vi 0, vi 0, vi 0, .null, vl 0, .null, .null, .null, .null])), (q1, aI G 1419 (fun _ => 0))]) rfl ?_
  refine X.putF (ws2 := [(o, .inr (8, [vi 0, .ref q1, .null, .null, .null, vi 0, .null, vi 0, vi 0, vi 0, vi 0, vi 0, vi 0, vi 0, .null, .null, .null, .null, vi 0, vi 0, vi 0, vi 0, vi 0, .null, vl 0, .null, .null, .null, .null])), (q1, aI G 1419 (fun _ => 0))]) (ty := (.array .int)) C dX8_init_10 lay_X8 tyX8_ok nmX8 0 rfl rfl 1 (by decide) fl_X8_13 rfl rfl rfl rfl (by decide +kernel) rfl rfl (Nat.le_of_ble_eq_true rfl) rfl ?_
  refine X.aload_n C dX8_init_13 rfl 0 rfl ?_
  refine X.sipush C dX8_init_14 (by decide) ?_
  refine X.newI (N := 4257) C dX8_init_17 ac_int (by decide) (by decide) (Nat.le_of_ble_eq_true rfl) (Nat.le_of_ble_eq_true rfl) (Nat.le_of_ble_eq_true rfl) (fun q2 => ?_)
  refine X.eqw (ws2 := [(o, .inr (8, [vi 0, .ref q1, .null, .null, .null, vi 0, .null, vi 0, vi 0, vi 0, vi 0, vi 0, vi 0, vi 0, .null, .null, .null, .null, vi 0, vi 0, vi 0, vi 0, vi 0, .null, vl 0, .null, .null, .null, .null])), (q1, aI G 1419 (fun _ => 0)), (q2, aI G 4257 (fun _ => 0))]) rfl ?_
  refine X.putF (ws2 := [(o, .inr (8, [vi 0, .ref q1, .ref q2, .null, .null, vi 0, .null, vi 0, vi 0, vi 0, vi 0, vi 0, vi 0, vi 0, .null, .null, .null, .null, vi 0, vi 0, vi 0, vi 0, vi 0, .null, vl 0, .null, .null, .null, .null])), (q1, aI G 1419 (fun _ => 0)), (q2, aI G 4257 (fun _ => 0))]) (ty := (.array .int)) C dX8_init_19 lay_X8 tyX8_ok nmX8 0 rfl rfl 2 (by decide) fl_X8_17 rfl rfl rfl rfl (by decide +kernel) rfl rfl (Nat.le_of_ble_eq_true rfl) rfl ?_
  refine X.aload_n C dX8_init_22 rfl 0 rfl ?_
  refine X.iconst C dX8_init_23 ?_
  refine X.newZ (N := 3) C dX8_init_24 ac_boolean (by decide) (by decide) (Nat.le_of_ble_eq_true rfl) (Nat.le_of_ble_eq_true rfl) (Nat.le_of_ble_eq_true rfl) (fun q3 => ?_)
  refine X.eqw (ws2 := [(o, .inr (8, [vi 0, .ref q1, .ref q2, .null, .null, vi 0, .null, vi 0, vi 0, vi 0, vi 0, vi 0, vi 0, vi 0, .null, .null, .null, .null, vi 0, vi 0, vi 0, vi 0, vi 0, .null, vl 0, .null, .null, .null, .null])), (q1, aI G 1419 (fun _ => 0)), (q2, aI G 4257 (fun _ => 0)), (q3, aZ G 3 (fun _ => 0))]) rfl ?_
  refine X.putF (ws2 := [(o, .inr (8, [vi 0, .ref q1, .ref q2, .ref q3, .null, vi 0, .null, vi 0, vi 0, vi 0, vi 0, vi 0, vi 0, vi 0, .null, .null, .null, .null, vi 0, vi 0, vi 0, vi 0, vi 0, .null, vl 0, .null, .null, .null, .null])), (q1, aI G 1419 (fun _ => 0)), (q2, aI G 4257 (fun _ => 0)), (q3, aZ G 3 (fun _ => 0))]) (ty := (.array .boolean)) C dX8_init_26 lay_X8 tyX8_ok nmX8 0 rfl rfl 3 (by decide) fl_X8_20 rfl rfl rfl rfl (by decide +kernel) rfl rfl (Nat.le_of_ble_eq_true rfl) rfl ?_
  refine X.aload_n C dX8_init_29 rfl 0 rfl ?_
  refine X.sipush C dX8_init_30 (by decide) ?_
  refine X.newB (N := 1600) C dX8_init_33 ac_byte (by decide) (by decide) (Nat.le_of_ble_eq_true rfl) (Nat.le_of_ble_eq_true rfl) (Nat.le_of_ble_eq_true rfl) (fun q4 => ?_)
  refine X.eqw (ws2 := [(o, .inr (8, [vi 0, .ref q1, .ref q2, .ref q3, .null, vi 0, .null, vi 0, vi 0, vi 0, vi 0, vi 0, vi 0, vi 0, .null, .null, .null, .null, vi 0, vi 0, vi 0, vi 0, vi 0, .null, vl 0, .null, .null, .null, .null])), (q1, aI G 1419 (fun _ => 0)), (q2, aI G 4257 (fun _ => 0)), (q3, aZ G 3 (fun _ => 0)), (q4, aB G 1600 (fun _ => 0))]) rfl ?_
  refine X.putF (ws2 := [(o, .inr (8, [vi 0, .ref q1, .ref q2, .ref q3, .ref q4, vi 0, .null, vi 0, vi 0, vi 0, vi 0, vi 0, vi 0, vi 0, .null, .null, .null, .null, vi 0, vi 0, vi 0, vi 0, vi 0, .null, vl 0, .null, .null, .null, .null])), (q1, aI G 1419 (fun _ => 0)), (q2, aI G 4257 (fun _ => 0)), (q3, aZ G 3 (fun _ => 0)), (q4, aB G 1600 (fun _ => 0))]) (ty := (.array .byte)) C dX8_init_35 lay_X8 tyX8_ok nmX8 0 rfl rfl 4 (by decide) fl_X8_24 rfl rfl rfl rfl (by decide +kernel) rfl rfl (Nat.le_of_ble_eq_true rfl) rfl ?_
  refine X.aload_n C dX8_init_38 rfl 0 rfl ?_
  refine X.iconst C dX8_init_39 ?_
  refine X.newI (N := 5) C dX8_init_40 ac_int (by decide) (by decide) (Nat.le_of_ble_eq_true rfl) (Nat.le_of_ble_eq_true rfl) (Nat.le_of_ble_eq_true rfl) (fun q5 => ?_)
  refine X.eqw (ws2 := [(o, .inr (8, [vi 0, .ref q1, .ref q2, .ref q3, .ref q4, vi 0, .null, vi 0, vi 0, vi 0, vi 0, vi 0, vi 0, vi 0, .null, .null, .null, .null, vi 0, vi 0, vi 0, vi 0, vi 0, .null, vl 0, .null, .null, .null, .null])), (q1, aI G 1419 (fun _ => 0)), (q2, aI G 4257 (fun _ => 0)), (q3, aZ G 3 (fun _ => 0)), (q4, aB G 1600 (fun _ => 0)), (q5, aI G 5 (fun _ => 0))]) rfl ?_
  refine X.putF (ws2 := [(o, .inr (8, [vi 0, .ref q1, .ref q2, .ref q3, .ref q4, vi 0, .ref q5, vi 0, vi 0, vi 0, vi 0, vi 0, vi 0, vi 0, .null, .null, .null, .null, vi 0, vi 0, vi 0, vi 0, vi 0, .null, vl 0, .null, .null, .null, .null])), (q1, aI G 1419 (fun _ => 0)), (q2, aI G 4257 (fun _ => 0)), (q3, aZ G 3 (fun _ => 0)), (q4, aB G 1600 (fun _ => 0)), (q5, aI G 5 (fun _ => 0))]) (ty := (.array .int)) C dX8_init_42 lay_X8 tyX8_ok nmX8 0 rfl rfl 6 (by decide) fl_X8_28 rfl rfl rfl rfl (by decide +kernel) rfl rfl (Nat.le_of_ble_eq_true rfl) rfl ?_
  refine X.aload_n C dX8_init_45 rfl 0 rfl ?_
  refine X.iconst C dX8_init_46 ?_
  refine X.put (ws2 := [(o, .inr (8, [vi 0, .ref q1, .ref q2, .ref q3, .ref q4, vi 0, .ref q5, vi 0, vi 0, vi 0, vi 0, vi 0, vi 0, vi (-1), .null, .null, .null, .null, vi 0, vi 0, vi 0, vi 0, vi 0, .null, vl 0, .null, .null, .null, .null])), (q1, aI G 1419 (fun _ => 0)), (q2, aI G 4257 (fun _ => 0)), (q3, aZ G 3 (fun _ => 0)), (q4, aB G 1600 (fun _ => 0)), (q5, aI G 5 (fun _ => 0))]) (ty := .int) C dX8_init_47 lay_X8 tyX8_ok nmX8 0 rfl rfl 13 (by decide) fl_X8_31 rfl rfl (by decide +kernel) rfl rfl (Nat.le_of_ble_eq_true rfl) rfl ?_
  refine X.aload_n C dX8_init_50 rfl 0 rfl ?_
  refine X.sipush C dX8_init_51 (by decide) ?_
  refine X.newI (N := 1419) C dX8_init_54 ac_int (by decide) (by decide) (Nat.le_of_ble_eq_true rfl) (Nat.le_of_ble_eq_true rfl) (Nat.le_of_ble_eq_true rfl) (fun q6 => ?_)
  refine X.eqw (ws2 := [(o, .inr (8, [vi 0, .ref q1, .ref q2, .ref q3, .ref q4, vi 0, .ref q5, vi 0, vi 0, vi 0, vi 0, vi 0, vi 0, vi (-1), .null, .null, .null, .null, vi 0, vi 0, vi 0, vi 0, vi 0, .null, vl 0, .null, .null, .null, .null])), (q1, aI G 1419 (fun _ => 0)), (q2, aI G 4257 (fun _ => 0)), (q3, aZ G 3 (fun _ => 0)), (q4, aB G 1600 (fun _ => 0)), (q5, aI G 5 (fun _ => 0)), (q6, aI G 1419 (fun _ => 0))]) rfl ?_
  refine X.putF (ws2 := [(o, .inr (8, [vi 0, .ref q1, .ref q2, .ref q3, .ref q4, vi 0, .ref q5, vi 0, vi 0, vi 0, vi 0, vi 0, vi 0, vi (-1), .ref q6, .null, .null, .null, vi 0, vi 0, vi 0, vi 0, vi 0, .null, vl 0, .null, .null, .null, .null])), (q1, aI G 1419 (fun _ => 0)), (q2, aI G 4257 (fun _ => 0)), (q3, aZ G 3 (fun _ => 0)), (q4, aB G 1600 (fun _ => 0)), (q5, aI G 5 (fun _ => 0)), (q6, aI G 1419 (fun _ => 0))]) (ty := (.array .int)) C dX8_init_56 lay_X8 tyX8_ok nmX8 0 rfl rfl 14 (by decide) fl_X8_34 rfl rfl rfl rfl (by decide +kernel) rfl rfl (Nat.le_of_ble_eq_true rfl) rfl ?_
  refine X.aload_n C dX8_init_59 rfl 0 rfl ?_
  refine X.sipush C dX8_init_60 (by decide) ?_
  refine X.newI (N := 1419) C dX8_init_63 ac_int (by decide) (by decide) (Nat.le_of_ble_eq_true rfl) (Nat.le_of_ble_eq_true rfl) (Nat.le_of_ble_eq_true rfl) (fun q7 => ?_)
  refine X.eqw (ws2 := [(o, .inr (8, [vi 0, .ref q1, .ref q2, .ref q3, .ref q4, vi 0, .ref q5, vi 0, vi 0, vi 0, vi 0, vi 0, vi 0, vi (-1), .ref q6, .null, .null, .null, vi 0, vi 0, vi 0, vi 0, vi 0, .null, vl 0, .null, .null, .null, .null])), (q1, aI G 1419 (fun _ => 0)), (q2, aI G 4257 (fun _ => 0)), (q3, aZ G 3 (fun _ => 0)), (q4, aB G 1600 (fun _ => 0)), (q5, aI G 5 (fun _ => 0)), (q6, aI G 1419 (fun _ => 0)), (q7, aI G 1419 (fun _ => 0))]) rfl ?_
  refine X.putF (ws2 := [(o, .inr (8, [vi 0, .ref q1, .ref q2, .ref q3, .ref q4, vi 0, .ref q5, vi 0, vi 0, vi 0, vi 0, vi 0, vi 0, vi (-1), .ref q6, .ref q7, .null, .null, vi 0, vi 0, vi 0, vi 0, vi 0, .null, vl 0, .null, .null, .null, .null])), (q1, aI G 1419 (fun _ => 0)), (q2, aI G 4257 (fun _ => 0)), (q3, aZ G 3 (fun _ => 0)), (q4, aB G 1600 (fun _ => 0)), (q5, aI G 5 (fun _ => 0)), (q6, aI G 1419 (fun _ => 0)), (q7, aI G 1419 (fun _ => 0))]) (ty := (.array .int)) C dX8_init_65 lay_X8 tyX8_ok nmX8 0 rfl rfl 15 (by decide) fl_X8_37 rfl rfl rfl rfl (by decide +kernel) rfl rfl (Nat.le_of_ble_eq_true rfl) rfl ?_
  refine X.aload_n C dX8_init_68 rfl 0 rfl ?_
  refine X.bipush C dX8_init_69 (by decide) ?_
  refine X.newI (N := 6) C dX8_init_71 ac_int (by decide) (by decide) (Nat.le_of_ble_eq_true rfl) (Nat.le_of_ble_eq_true rfl) (Nat.le_of_ble_eq_true rfl) (fun q8 => ?_)
  refine X.eqw (ws2 := [(o, .inr (8, [vi 0, .ref q1, .ref q2, .ref q3, .ref q4, vi 0, .ref q5, vi 0, vi 0, vi 0, vi 0, vi 0, vi 0, vi (-1), .ref q6, .ref q7, .null, .null, vi 0, vi 0, vi 0, vi 0, vi 0, .null, vl 0, .null, .null, .null, .null])), (q1, aI G 1419 (fun _ => 0)), (q2, aI G 4257 (fun _ => 0)), (q3, aZ G 3 (fun _ => 0)), (q4, aB G 1600 (fun _ => 0)), (q5, aI G 5 (fun _ => 0)), (q6, aI G 1419 (fun _ => 0)), (q7, aI G 1419 (fun _ => 0)), (q8, aI G 6 (fun _ => 0))]) rfl ?_
  refine X.putF (ws2 := [(o, .inr (8, [vi 0, .ref q1, .ref q2, .ref q3, .ref q4, vi 0, .ref q5, vi 0, vi 0, vi 0, vi 0, vi 0, vi 0, vi (-1), .ref q6, .ref q7, .ref q8, .null, vi 0, vi 0, vi 0, vi 0, vi 0, .null, vl 0, .null, .null, .null, .null])), (q1, aI G 1419 (fun _ => 0)), (q2, aI G 4257 (fun _ => 0)), (q3, aZ G 3 (fun _ => 0)), (q4, aB G 1600 (fun _ => 0)), (q5, aI G 5 (fun _ => 0)), (q6, aI G 1419 (fun _ => 0)), (q7, aI G 1419 (fun _ => 0)), (q8, aI G 6 (fun _ => 0))]) (ty := (.array .int)) C dX8_init_73 lay_X8 tyX8_ok nmX8 0 rfl rfl 16 (by decide) fl_X8_40 rfl rfl rfl rfl (by decide +kernel) rfl rfl (Nat.le_of_ble_eq_true rfl) rfl ?_
  refine X.aload_n C dX8_init_76 rfl 0 rfl ?_
  refine X.sipush C dX8_init_77 (by decide) ?_
  refine X.newI (N := 900) C dX8_init_80 ac_int (by decide) (by decide) (Nat.le_of_ble_eq_true rfl) (Nat.le_of_ble_eq_true rfl) (Nat.le_of_ble_eq_true rfl) (fun q9 => ?_)
  refine X.eqw (ws2 := [(o, .inr (8, [vi 0, .ref q1, .ref q2, .ref q3, .ref q4, vi 0, .ref q5, vi 0, vi 0, vi 0, vi 0, vi 0, vi 0, vi (-1), .ref q6, .ref q7, .ref q8, .null, vi 0, vi 0, vi 0, vi 0, vi 0, .null, vl 0, .null, .null, .null, .null])), (q1, aI G 1419 (fun _ => 0)), (q2, aI G 4257 (fun _ => 0)), (q3, aZ G 3 (fun _ => 0)), (q4, aB G 1600 (fun _ => 0)), (q5, aI G 5 (fun _ => 0)), (q6, aI G 1419 (fun _ => 0)), (q7, aI G 1419 (fun _ => 0)), (q8, aI G 6 (fun _ => 0)), (q9, aI G 900 (fun _ => 0))]) rfl ?_
  refine X.putF (ws2 := [(o, .inr (8, [vi 0, .ref q1, .ref q2, .ref q3, .ref q4, vi 0, .ref q5, vi 0, vi 0, vi 0, vi 0, vi 0, vi 0, vi (-1), .ref q6, .ref q7, .ref q8, .ref q9, vi 0, vi 0, vi 0, vi 0, vi 0, .null, vl 0, .null, .null, .null, .null])), (q1, aI G 1419 (fun _ => 0)), (q2, aI G 4257 (fun _ => 0)), (q3, aZ G 3 (fun _ => 0)), (q4, aB G 1600 (fun _ => 0)), (q5, aI G 5 (fun _ => 0)), (q6, aI G 1419 (fun _ => 0)), (q7, aI G 1419 (fun _ => 0)), (q8, aI G 6 (fun _ => 0)), (q9, aI G 900 (fun _ => 0))]) (ty := (.array .int)) C dX8_init_82 lay_X8 tyX8_ok nmX8 0 rfl rfl 17 (by decide) fl_X8_43 rfl rfl rfl rfl (by decide +kernel) rfl rfl (Nat.le_of_ble_eq_true rfl) rfl ?_
  refine X.aload_n C dX8_init_85 rfl 0 rfl ?_
  refine X.sipush C dX8_init_86 (by decide) ?_
  refine X.newZ (N := 900) C dX8_init_89 ac_boolean (by decide) (by decide) (Nat.le_of_ble_eq_true rfl) (Nat.le_of_ble_eq_true rfl) (Nat.le_of_ble_eq_true rfl) (fun q10 => ?_)
  refine X.eqw (ws2 := [(o, .inr (8, [vi 0, .ref q1, .ref q2, .ref q3, .ref q4, vi 0, .ref q5, vi 0, vi 0, vi 0, vi 0, vi 0, vi 0, vi (-1), .ref q6, .ref q7, .ref q8, .ref q9, vi 0, vi 0, vi 0, vi 0, vi 0, .null, vl 0, .null, .null, .null, .null])), (q1, aI G 1419 (fun _ => 0)), (q2, aI G 4257 (fun _ => 0)), (q3, aZ G 3 (fun _ => 0)), (q4, aB G 1600 (fun _ => 0)), (q5, aI G 5 (fun _ => 0)), (q6, aI G 1419 (fun _ => 0)), (q7, aI G 1419 (fun _ => 0)), (q8, aI G 6 (fun _ => 0)), (q9, aI G 900 (fun _ => 0)), (q10, aZ G 900 (fun _ => 0))]) rfl ?_
  refine X.putF (ws2 := [(o, .inr (8, [vi 0, .ref q1, .ref q2, .ref q3, .ref q4, vi 0, .ref q5, vi 0, vi 0, vi 0, vi 0, vi 0, vi 0, vi (-1), .ref q6, .ref q7, .ref q8, .ref q9, vi 0, vi 0, vi 0, vi 0, vi 0, .ref q10, vl 0, .null, .null, .null, .null])), (q1, aI G 1419 (fun _ => 0)), (q2, aI G 4257 (fun _ => 0)), (q3, aZ G 3 (fun _ => 0)), (q4, aB G 1600 (fun _ => 0)), (q5, aI G 5 (fun _ => 0)), (q6, aI G 1419 (fun _ => 0)), (q7, aI G 1419 (fun _ => 0)), (q8, aI G 6 (fun _ => 0)), (q9, aI G 900 (fun _ => 0)), (q10, aZ G 900 (fun _ => 0))]) (ty := (.array .boolean)) C dX8_init_91 lay_X8 tyX8_ok nmX8 0 rfl rfl 23 (by decide) fl_X8_46 rfl rfl rfl rfl (by decide +kernel) rfl rfl (Nat.le_of_ble_eq_true rfl) rfl ?_
  refine X.aload_n C dX8_init_94 rfl 0 rfl ?_
  refine X.iconst C dX8_init_95 ?_
  refine X.newI (N := 4) C dX8_init_96 ac_int (by decide) (by decide) (Nat.le_of_ble_eq_true rfl) (Nat.le_of_ble_eq_true rfl) (Nat.le_of_ble_eq_true rfl) (fun q11 => ?_)
  refine X.eqw (ws2 := [(o, .inr (8, [vi 0, .ref q1, .ref q2, .ref q3, .ref q4, vi 0, .ref q5, vi 0, vi 0, vi 0, vi 0, vi 0, vi 0, vi (-1), .ref q6, .ref q7, .ref q8, .ref q9, vi 0, vi 0, vi 0, vi 0, vi 0, .ref q10, vl 0, .null, .null, .null, .null])), (q1, aI G 1419 (fun _ => 0)), (q2, aI G 4257 (fun _ => 0)), (q3, aZ G 3 (fun _ => 0)), (q4, aB G 1600 (fun _ => 0)), (q5, aI G 5 (fun _ => 0)), (q6, aI G 1419 (fun _ => 0)), (q7, aI G 1419 (fun _ => 0)), (q8, aI G 6 (fun _ => 0)), (q9, aI G 900 (fun _ => 0)), (q10, aZ G 900 (fun _ => 0)), (q11, aI G 4 (fun _ => 0))]) rfl ?_
  refine X.dup C dX8_init_98 rfl ?_
  refine X.iconst C dX8_init_99 ?_
  refine X.iconst C dX8_init_100 ?_
  refine X.iast (ws2 := [(o, .inr (8, [vi 0, .ref q1, .ref q2, .ref q3, .ref q4, vi 0, .ref q5, vi 0, vi 0, vi 0, vi 0, vi 0, vi 0, vi (-1), .ref q6, .ref q7, .ref q8, .ref q9, vi 0, vi 0, vi 0, vi 0, vi 0, .ref q10, vl 0, .null, .null, .null, .null])), (q1, aI G 1419 (fun _ => 0)), (q2, aI G 4257 (fun _ => 0)), (q3, aZ G 3 (fun _ => 0)), (q4, aB G 1600 (fun _ => 0)), (q5, aI G 5 (fun _ => 0)), (q6, aI G 1419 (fun _ => 0)), (q7, aI G 1419 (fun _ => 0)), (q8, aI G 6 (fun _ => 0)), (q9, aI G 900 (fun _ => 0)), (q10, aZ G 900 (fun _ => 0)), (q11, aI G 4 (up1 (fun _ => 0) (ix 0) (-1)))]) C (gd_in (by decide)) dX8_init_101 11 rfl rfl (fun _ => ?_)
  refine X.dup C dX8_init_102 rfl ?_
  refine X.iconst C dX8_init_103 ?_
  refine X.iconst C dX8_init_104 ?_
  refine X.iast (ws2 := [(o, .inr (8, [vi 0, .ref q1, .ref q2, .ref q3, .ref q4, vi 0, .ref q5, vi 0, vi 0, vi 0, vi 0, vi 0, vi 0, vi (-1), .ref q6, .ref q7, .ref q8, .ref q9, vi 0, vi 0, vi 0, vi 0, vi 0, .ref q10, vl 0, .null, .null, .null, .null])), (q1, aI G 1419 (fun _ => 0)), (q2, aI G 4257 (fun _ => 0)), (q3, aZ G 3 (fun _ => 0)), (q4, aB G 1600 (fun _ => 0)), (q5, aI G 5 (fun _ => 0)), (q6, aI G 1419 (fun _ => 0)), (q7, aI G 1419 (fun _ => 0)), (q8, aI G 6 (fun _ => 0)), (q9, aI G 900 (fun _ => 0)), (q10, aZ G 900 (fun _ => 0)), (q11, aI G 4 (up1 (up1 (fun _ => 0) (ix 0) (-1)) (ix 1) (-1)))]) C (gd_in (by decide)) dX8_init_105 11 rfl rfl (fun _ => ?_)
  refine X.dup C dX8_init_106 rfl ?_
  refine X.iconst C dX8_init_107 ?_
  refine X.iconst C dX8_init_108 ?_
  refine X.iast (ws2 := [(o, .inr (8, [vi 0, .ref q1, .ref q2, .ref q3, .ref q4, vi 0, .ref q5, vi 0, vi 0, vi 0, vi 0, vi 0, vi 0, vi (-1), .ref q6, .ref q7, .ref q8, .ref q9, vi 0, vi 0, vi 0, vi 0, vi 0, .ref q10, vl 0, .null, .null, .null, .null])), (q1, aI G 1419 (fun _ => 0)), (q2, aI G 4257 (fun _ => 0)), (q3, aZ G 3 (fun _ => 0)), (q4, aB G 1600 (fun _ => 0)), (q5, aI G 5 (fun _ => 0)), (q6, aI G 1419 (fun _ => 0)), (q7, aI G 1419 (fun _ => 0)), (q8, aI G 6 (fun _ => 0)), (q9, aI G 900 (fun _ => 0)), (q10, aZ G 900 (fun _ => 0)), (q11, aI G 4 (up1 (up1 (up1 (fun _ => 0) (ix 0) (-1)) (ix 1) (-1)) (ix 2) (-1)))]) C (gd_in (by decide)) dX8_init_109 11 rfl rfl (fun _ => ?_)
  refine X.dup C dX8_init_110 rfl ?_
  refine X.iconst C dX8_init_111 ?_
  refine X.iconst C dX8_init_112 ?_
  refine X.iast (ws2 := [(o, .inr (8, [vi 0, .ref q1, .ref q2, .ref q3, .ref q4, vi 0, .ref q5, vi 0, vi 0, vi 0, vi 0, vi 0, vi 0, vi (-1), .ref q6, .ref q7, .ref q8, .ref q9, vi 0, vi 0, vi 0, vi 0, vi 0, .ref q10, vl 0, .null, .null, .null, .null])), (q1, aI G 1419 (fun _ => 0)), (q2, aI G 4257 (fun _ => 0)), (q3, aZ G 3 (fun _ => 0)), (q4, aB G 1600 (fun _ => 0)), (q5, aI G 5 (fun _ => 0)), (q6, aI G 1419 (fun _ => 0)), (q7, aI G 1419 (fun _ => 0)), (q8, aI G 6 (fun _ => 0)), (q9, aI G 900 (fun _ => 0)), (q10, aZ G 900 (fun _ => 0)), (q11, aI G 4 (up1 (up1 (up1 (up1 (fun _ => 0) (ix 0) (-1)) (ix 1) (-1)) (ix 2) (-1)) (ix 3) (-1)))]) C (gd_in (by decide)) dX8_init_113 11 rfl rfl (fun _ => ?_)
  refine X.putF (ws2 := [(o, .inr (8, [vi 0, .ref q1, .ref q2, .ref q3, .ref q4, vi 0, .ref q5, vi 0, vi 0, vi 0, vi 0, vi 0, vi 0, vi (-1), .ref q6, .ref q7, .ref q8, .ref q9, vi 0, vi 0, vi 0, vi 0, vi 0, .ref q10, vl 0, .ref q11, .null, .null, .null])), (q1, aI G 1419 (fun _ => 0)), (q2, aI G 4257 (fun _ => 0)), (q3, aZ G 3 (fun _ => 0)), (q4, aB G 1600 (fun _ => 0)), (q5, aI G 5 (fun _ => 0)), (q6, aI G 1419 (fun _ => 0)), (q7, aI G 1419 (fun _ => 0)), (q8, aI G 6 (fun _ => 0)), (q9, aI G 900 (fun _ => 0)), (q10, aZ G 900 (fun _ => 0)), (q11, aI G 4 (up1 (up1 (up1 (up1 (fun _ => 0) (ix 0) (-1)) (ix 1) (-1)) (ix 2) (-1)) (ix 3) (-1)))]) (ty := (.array .int)) C dX8_init_114 lay_X8 tyX8_ok nmX8 0 rfl rfl 25 (by decide) fl_X8_49 rfl rfl rfl rfl (by decide +kernel) rfl rfl (Nat.le_of_ble_eq_true rfl) rfl ?_
  refine X.aload_n C dX8_init_117 rfl 0 rfl ?_
  refine X.iconst C dX8_init_118 ?_
  refine X.newI (N := 4) C dX8_init_119 ac_int (by decide) (by decide) (Nat.le_of_ble_eq_true rfl) (Nat.le_of_ble_eq_true rfl) (Nat.le_of_ble_eq_true rfl) (fun q12 => ?_)
  refine X.eqw (ws2 := [(o, .inr (8, [vi 0, .ref q1, .ref q2, .ref q3, .ref q4, vi 0, .ref q5, vi 0, vi 0, vi 0, vi 0, vi 0, vi 0, vi (-1), .ref q6, .ref q7, .ref q8, .ref q9, vi 0, vi 0, vi 0, vi 0, vi 0, .ref q10, vl 0, .ref q11, .null, .null, .null])), (q1, aI G 1419 (fun _ => 0)), (q2, aI G 4257 (fun _ => 0)), (q3, aZ G 3 (fun _ => 0)), (q4, aB G 1600 (fun _ => 0)), (q5, aI G 5 (fun _ => 0)), (q6, aI G 1419 (fun _ => 0)), (q7, aI G 1419 (fun _ => 0)), (q8, aI G 6 (fun _ => 0)), (q9, aI G 900 (fun _ => 0)), (q10, aZ G 900 (fun _ => 0)), (q11, aI G 4 (up1 (up1 (up1 (up1 (fun _ => 0) (ix 0) (-1)) (ix 1) (-1)) (ix 2) (-1)) (ix 3) (-1))), (q12, aI G 4 (fun _ => 0))]) rfl ?_
  refine X.putF (ws2 := [(o, .inr (8, [vi 0, .ref q1, .ref q2, .ref q3, .ref q4, vi 0, .ref q5, vi 0, vi 0, vi 0, vi 0, vi 0, vi 0, vi (-1), .ref q6, .ref q7, .ref q8, .ref q9, vi 0, vi 0, vi 0, vi 0, vi 0, .ref q10, vl 0, .ref q11, .ref q12, .null, .null])), (q1, aI G 1419 (fun _ => 0)), (q2, aI G 4257 (fun _ => 0)), (q3, aZ G 3 (fun _ => 0)), (q4, aB G 1600 (fun _ => 0)), (q5, aI G 5 (fun _ => 0)), (q6, aI G 1419 (fun _ => 0)), (q7, aI G 1419 (fun _ => 0)), (q8, aI G 6 (fun _ => 0)), (q9, aI G 900 (fun _ => 0)), (q10, aZ G 900 (fun _ => 0)), (q11, aI G 4 (up1 (up1 (up1 (up1 (fun _ => 0) (ix 0) (-1)) (ix 1) (-1)) (ix 2) (-1)) (ix 3) (-1))), (q12, aI G 4 (fun _ => 0))]) (ty := (.array .int)) C dX8_init_121 lay_X8 tyX8_ok nmX8 0 rfl rfl 26 (by decide) fl_X8_52 rfl rfl rfl rfl (by decide +kernel) rfl rfl (Nat.le_of_ble_eq_true rfl) rfl ?_
  refine X.aload_n C dX8_init_124 rfl 0 rfl ?_
  refine X.sipush C dX8_init_125 (by decide) ?_
  refine X.newJ (N := 240) C dX8_init_128 ac_long (by decide) (by decide) (Nat.le_of_ble_eq_true rfl) (Nat.le_of_ble_eq_true rfl) (Nat.le_of_ble_eq_true rfl) (fun q13 => ?_)
  refine X.eqw (ws2 := [(o, .inr (8, [vi 0, .ref q1, .ref q2, .ref q3, .ref q4, vi 0, .ref q5, vi 0, vi 0, vi 0, vi 0, vi 0, vi 0, vi (-1), .ref q6, .ref q7, .ref q8, .ref q9, vi 0, vi 0, vi 0, vi 0, vi 0, .ref q10, vl 0, .ref q11, .ref q12, .null, .null])), (q1, aI G 1419 (fun _ => 0)), (q2, aI G 4257 (fun _ => 0)), (q3, aZ G 3 (fun _ => 0)), (q4, aB G 1600 (fun _ => 0)), (q5, aI G 5 (fun _ => 0)), (q6, aI G 1419 (fun _ => 0)), (q7, aI G 1419 (fun _ => 0)), (q8, aI G 6 (fun _ => 0)), (q9, aI G 900 (fun _ => 0)), (q10, aZ G 900 (fun _ => 0)), (q11, aI G 4 (up1 (up1 (up1 (up1 (fun _ => 0) (ix 0) (-1)) (ix 1) (-1)) (ix 2) (-1)) (ix 3) (-1))), (q12, aI G 4 (fun _ => 0)), (q13, aJ G 240 (fun _ => 0))]) rfl ?_
  refine X.putF (ws2 := [(o, .inr (8, [vi 0, .ref q1, .ref q2, .ref q3, .ref q4, vi 0, .ref q5, vi 0, vi 0, vi 0, vi 0, vi 0, vi 0, vi (-1), .ref q6, .ref q7, .ref q8, .ref q9, vi 0, vi 0, vi 0, vi 0, vi 0, .ref q10, vl 0, .ref q11, .ref q12, .ref q13, .null])), (q1, aI G 1419 (fun _ => 0)), (q2, aI G 4257 (fun _ => 0)), (q3, aZ G 3 (fun _ => 0)), (q4, aB G 1600 (fun _ => 0)), (q5, aI G 5 (fun _ => 0)), (q6, aI G 1419 (fun _ => 0)), (q7, aI G 1419 (fun _ => 0)), (q8, aI G 6 (fun _ => 0)), (q9, aI G 900 (fun _ => 0)), (q10, aZ G 900 (fun _ => 0)), (q11, aI G 4 (up1 (up1 (up1 (up1 (fun _ => 0) (ix 0) (-1)) (ix 1) (-1)) (ix 2) (-1)) (ix 3) (-1))), (q12, aI G 4 (fun _ => 0)), (q13, aJ G 240 (fun _ => 0))]) (ty := (.array .long)) C dX8_init_130 lay_X8 tyX8_ok nmX8 0 rfl rfl 27 (by decide) fl_X8_55 rfl rfl rfl rfl (by decide +kernel) rfl rfl (Nat.le_of_ble_eq_true rfl) rfl ?_
  refine X.aload_n C dX8_init_133 rfl 0 rfl ?_
  refine X.bipush C dX8_init_134 (by decide) ?_
  refine X.newJ (N := 60) C dX8_init_136 ac_long (by decide) (by decide) (Nat.le_of_ble_eq_true rfl) (Nat.le_of_ble_eq_true rfl) (Nat.le_of_ble_eq_true rfl) (fun q14 => ?_)
  refine X.eqw (ws2 := [(o, .inr (8, [vi 0, .ref q1, .ref q2, .ref q3, .ref q4, vi 0, .ref q5, vi 0, vi 0, vi 0, vi 0, vi 0, vi 0, vi (-1), .ref q6, .ref q7, .ref q8, .ref q9, vi 0, vi 0, vi 0, vi 0, vi 0, .ref q10, vl 0, .ref q11, .ref q12, .ref q13, .null])), (q1, aI G 1419 (fun _ => 0)), (q2, aI G 4257 (fun _ => 0)), (q3, aZ G 3 (fun _ => 0)), (q4, aB G 1600 (fun _ => 0)), (q5, aI G 5 (fun _ => 0)), (q6, aI G 1419 (fun _ => 0)), (q7, aI G 1419 (fun _ => 0)), (q8, aI G 6 (fun _ => 0)), (q9, aI G 900 (fun _ => 0)), (q10, aZ G 900 (fun _ => 0)), (q11, aI G 4 (up1 (up1 (up1 (up1 (fun _ => 0) (ix 0) (-1)) (ix 1) (-1)) (ix 2) (-1)) (ix 3) (-1))), (q12, aI G 4 (fun _ => 0)), (q13, aJ G 240 (fun _ => 0)), (q14, aJ G 60 (fun _ => 0))]) rfl ?_
  refine X.putF (ws2 := [(o, .inr (8, [vi 0, .ref q1, .ref q2, .ref q3, .ref q4, vi 0, .ref q5, vi 0, vi 0, vi 0, vi 0, vi 0, vi 0, vi (-1), .ref q6, .ref q7, .ref q8, .ref q9, vi 0, vi 0, vi 0, vi 0, vi 0, .ref q10, vl 0, .ref q11, .ref q12, .ref q13, .ref q14])), (q1, aI G 1419 (fun _ => 0)), (q2, aI G 4257 (fun _ => 0)), (q3, aZ G 3 (fun _ => 0)), (q4, aB G 1600 (fun _ => 0)), (q5, aI G 5 (fun _ => 0)), (q6, aI G 1419 (fun _ => 0)), (q7, aI G 1419 (fun _ => 0)), (q8, aI G 6 (fun _ => 0)), (q9, aI G 900 (fun _ => 0)), (q10, aZ G 900 (fun _ => 0)), (q11, aI G 4 (up1 (up1 (up1 (up1 (fun _ => 0) (ix 0) (-1)) (ix 1) (-1)) (ix 2) (-1)) (ix 3) (-1))), (q12, aI G 4 (fun _ => 0)), (q13, aJ G 240 (fun _ => 0)), (q14, aJ G 60 (fun _ => 0))]) (ty := (.array .long)) C dX8_init_138 lay_X8 tyX8_ok nmX8 0 rfl rfl 28 (by decide) fl_X8_59 rfl rfl rfl rfl (by decide +kernel) rfl rfl (Nat.le_of_ble_eq_true rfl) rfl ?_
  refine X.aload_n C dX8_init_141 rfl 0 rfl ?_
  refine X.get C dX8_init_142 lay_X8 0 rfl rfl 1 (by decide) fl_X8_13 rfl rfl ?_
  refine X.empt (ws2 := [(o, .inr (8, [vi 0, .ref q1, .ref q2, .ref q3, .ref q4, vi 0, .ref q5, vi 0, vi 0, vi 0, vi 0, vi 0, vi 0, vi (-1), .ref q6, .ref q7, .ref q8, .ref q9, vi 0, vi 0, vi 0, vi 0, vi 0, .ref q10, vl 0, .ref q11, .ref q12, .ref q13, .ref q14])), (q1, aI G 1419 (empA (fun _ => 0))), (q2, aI G 4257 (fun _ => 0)), (q3, aZ G 3 (fun _ => 0)), (q4, aB G 1600 (fun _ => 0)), (q5, aI G 5 (fun _ => 0)), (q6, aI G 1419 (fun _ => 0)), (q7, aI G 1419 (fun _ => 0)), (q8, aI G 6 (fun _ => 0)), (q9, aI G 900 (fun _ => 0)), (q10, aZ G 900 (fun _ => 0)), (q11, aI G 4 (up1 (up1 (up1 (up1 (fun _ => 0) (ix 0) (-1)) (ix 1) (-1)) (ix 2) (-1)) (ix 3) (-1))), (q12, aI G 4 (fun _ => 0)), (q13, aJ G 240 (fun _ => 0)), (q14, aJ G 60 (fun _ => 0))]) C dX8_init_145 ml_X8_62 (Ln.of [1] [0, 2, 3, 4, 5, 6, 7, 8, 9, 10, 11, 12, 13, 14] [0, 14, 1, 2, 3, 4, 5, 6, 7, 8, 9, 10, 11, 12, 13] (wpick [(o, .inr (8, [vi 0, .ref q1, .ref q2, .ref q3, .ref q4, vi 0, .ref q5, vi 0, vi 0, vi 0, vi 0, vi 0, vi 0, vi (-1), .ref q6, .ref q7, .ref q8, .ref q9, vi 0, vi 0, vi 0, vi 0, vi 0, .ref q10, vl 0, .ref q11, .ref q12, .ref q13, .ref q14])), (q1, aI G 1419 (fun _ => 0)), (q2, aI G 4257 (fun _ => 0)), (q3, aZ G 3 (fun _ => 0)), (q4, aB G 1600 (fun _ => 0)), (q5, aI G 5 (fun _ => 0)), (q6, aI G 1419 (fun _ => 0)), (q7, aI G 1419 (fun _ => 0)), (q8, aI G 6 (fun _ => 0)), (q9, aI G 900 (fun _ => 0)), (q10, aZ G 900 (fun _ => 0)), (q11, aI G 4 (up1 (up1 (up1 (up1 (fun _ => 0) (ix 0) (-1)) (ix 1) (-1)) (ix 2) (-1)) (ix 3) (-1))), (q12, aI G 4 (fun _ => 0)), (q13, aJ G 240 (fun _ => 0)), (q14, aJ G 60 (fun _ => 0))] [0, 2, 3, 4, 5, 6, 7, 8, 9, 10, 11, 12, 13, 14]) rfl rfl rfl rfl (by decide) rfl rfl) rfl rfl ?_
  refine X.eqw (ws2 := W_M G (qf [(31, o), (1, q1), (2, q2), (3, q3), (4, q4), (6, q5), (14, q6), (15, q7), (16, q8), (17, q9), (23, q10), (25, q11), (26, q12), (27, q13), (28, q14)]) mod0) rfl ?_
  exact X.vretE C ⟨(qf [(31, o), (1, q1), (2, q2), (3, q3), (4, q4), (6, q5), (14, q6), (15, q7), (16, q8), (17, q9), (23, q10), (25, q11), (26, q12), (27, q13), (28, q14)]), rfl, List.Perm.refl _⟩ dX8_init_148 (Nat.le_of_ble_eq_true rfl) (Nat.le_of_ble_eq_true rfl)
def rX5_init : Room := { frames := 1, cells := 0, slots := 0, locals := 12 }
theorem mX5_init : MN yX5_init cX5_init 3 2 := ⟨cd_X5_init, in_X5, ⟨⟨by decide, by decide⟩, by decide +kernel⟩, im_X5_init, rfl⟩
set_option maxHeartbeats 4000000 in
theorem kX5_init {l : Launch} {G : GT} (o qa qb : Nat) : CTE l G yX5_init cX5_init 3 rX5_init [.ref o, .ref qa, .ref qb] [(o, .inr (5, [.null, .null, vi 0, vi 0, vi 0, vi 0, vi 0]))] (fun W => W = [(o, .inr (5, [.ref qa, .ref qb, vi 0, vi (-1), vi 0, vi 0, vi 0]))]) := by
  refine CTE.of (by decide) (Nat.le_of_ble_eq_true rfl) rfl (fun κ _ C => ?_)
  refine X.aload_n C dX5_init_0 rfl 0 rfl ?_
  refine X.objI C dX5_init_1 ml_X5_3 im_java_lang_Object_init cd_java_lang_Object_init (Nat.le_of_ble_eq_true rfl) (Nat.le_of_ble_eq_true rfl) ?_
  refine X.aload_n C dX5_init_4 rfl 0 rfl ?_
  refine X.iconst C dX5_init_5 ?_
  refine X.put (ws2 := [(o, .inr (5, [.null, .null, vi 0, vi (-1), vi 0, vi 0, vi 0]))]) (ty := .int) C dX5_init_6 lay_X5 tyX5_ok nmX5 0 rfl rfl 3 (by decide) fl_X5_9 rfl rfl (by decide +kernel) rfl rfl (Nat.le_of_ble_eq_true rfl) rfl ?_
  refine X.aload_n C dX5_init_9 rfl 0 rfl ?_
  refine X.aload_n C dX5_init_10 rfl 1 rfl ?_
  refine X.putF (ws2 := [(o, .inr (5, [.ref qa, .null, vi 0, vi (-1), vi 0, vi 0, vi 0]))]) (ty := (.object "TableNine$Tape")) C dX5_init_11 lay_X5 tyX5_ok nmX5 0 rfl rfl 0 (by decide) fl_X5_15 rfl rfl rfl rfl (by decide +kernel) rfl rfl (Nat.le_of_ble_eq_true rfl) rfl ?_
  refine X.aload_n C dX5_init_14 rfl 0 rfl ?_
  refine X.aload_n C dX5_init_15 rfl 2 rfl ?_
  refine X.putF (ws2 := [(o, .inr (5, [.ref qa, .ref qb, vi 0, vi (-1), vi 0, vi 0, vi 0]))]) (ty := (.object "TableNine$Plan")) C dX5_init_16 lay_X5 tyX5_ok nmX5 0 rfl rfl 1 (by decide) fl_X5_19 rfl rfl rfl rfl (by decide +kernel) rfl rfl (Nat.le_of_ble_eq_true rfl) rfl ?_
  exact X.vretE C rfl dX5_init_19 (Nat.le_of_ble_eq_true rfl) (Nat.le_of_ble_eq_true rfl)
def rX3_init : Room := { frames := 4, cells := 17, slots := 1439, locals := 83 }
theorem mX3_init : MN yX3_init cX3_init 1 0 := ⟨cd_X3_init, in_X3, ⟨⟨by decide, by decide⟩, by decide +kernel⟩, im_X3_init, rfl⟩
set_option maxHeartbeats 4000000 in
set_option maxRecDepth 100000 in
theorem kX3_init {l : Launch} {G : GT} (o : Nat) : CTE l G yX3_init cX3_init 1 rX3_init [.ref o] [(o, .inr (3, [.null, .null]))] (fun W => ∃ qs qp qa : Nat → Nat, qs 31 = o ∧ W.Perm (W_S G qs qp qa plan0 air0)) := by
  refine CTE.of (by decide) (Nat.le_of_ble_eq_true rfl) rfl (fun κ _ C => ?_)
  refine X.aload_n C dX3_init_0 rfl 0 rfl ?_
  refine X.objI C dX3_init_1 ml_X3_3 im_java_lang_Object_init cd_java_lang_Object_init (Nat.le_of_ble_eq_true rfl) (Nat.le_of_ble_eq_true rfl) ?_
  refine X.aload_n C dX3_init_4 rfl 0 rfl ?_
  refine X.newO (ci := 1) (fs := [vi 0, vi 0, vi 0, vi 0, vi 0, vi 0, vi 0, vi 0, vi 0, vi 0, vi 0, vi 0, .null, .null, vi 0, .null, .null, .null, vi 0, .null]) C dX3_init_5 lay_X1 tyX1_ok kl_X3_9 nw_X1 in_X1 rfl (fun j hj => by
    rcases (show j = 0 ∨ j = 1 ∨ j = 2 ∨ j = 3 ∨ j = 4 ∨ j = 5 ∨ j = 6 ∨ j = 7 ∨ j = 8 ∨ j = 9 ∨ j = 10 ∨ j = 11 ∨ j = 12 ∨ j = 13 ∨ j = 14 ∨ j = 15 ∨ j = 16 ∨ j = 17 ∨ j = 18 ∨ j = 19 by omega) with rfl | rfl | rfl | rfl | rfl | rfl | rfl | rfl | rfl | rfl | rfl | rfl | rfl | rfl | rfl | rfl | rfl | rfl | rfl | rfl <;> rfl) (Nat.le_of_ble_eq_true rfl) (Nat.le_of_ble_eq_true rfl) (fun p1 => ?_)
  refine X.dup C dX3_init_8 rfl ?_
  refine X.callIT (As := []) (rest := [.ref p1, .ref o]) C dX3_init_9 ml_X3_11 mX1_init (kX1_init p1) rfl rfl rfl rfl (fun W1 hW1 => ?_)
  obtain ⟨qp, hq, hp⟩ := hW1
  subst hq
  refine X.permP (List.Perm.append_left _ hp) ?_
  refine X.putF (ws2 := ([(o, .inr (3, [.ref (qp 31), .null]))] ++ W_P G qp plan0)) (ty := (.object "TableNine$Plan")) C dX3_init_12 lay_X3 tyX3_ok nmX3 0 rfl rfl 0 (by decide) fl_X3_12 rfl rfl rfl rfl (by decide +kernel) rfl rfl (Nat.le_of_ble_eq_true rfl) rfl ?_
  refine X.aload_n C dX3_init_15 rfl 0 rfl ?_
  refine X.newO (ci := 0) (fs := [vi 0, vi 0, vi 0, vi 0, vi 0, vi 0, vi 0, vi 0, .null, .null, .null, .null, .null, .null, .null, .null, .null]) C dX3_init_16 lay_X0 tyX0_ok kl_X3_18 nw_X0 in_X0 rfl (fun j hj => by
    rcases (show j = 0 ∨ j = 1 ∨ j = 2 ∨ j = 3 ∨ j = 4 ∨ j = 5 ∨ j = 6 ∨ j = 7 ∨ j = 8 ∨ j = 9 ∨ j = 10 ∨ j = 11 ∨ j = 12 ∨ j = 13 ∨ j = 14 ∨ j = 15 ∨ j = 16 by omega) with rfl | rfl | rfl | rfl | rfl | rfl | rfl | rfl | rfl | rfl | rfl | rfl | rfl | rfl | rfl | rfl | rfl <;> rfl) (Nat.le_of_ble_eq_true rfl) (Nat.le_of_ble_eq_true rfl) (fun p2 => ?_)
  refine X.dup C dX3_init_19 rfl ?_
  refine X.callINT (As := []) (rest := [.ref p2, .ref o]) C dX3_init_20 mn_X3_20 mX0_init (kX0_init p2) rfl rfl rfl rfl (fun W1 hW1 => ?_)
  obtain ⟨qa, hq, hp⟩ := hW1
  subst hq
  refine X.permP (List.Perm.append_left _ hp) ?_
  refine X.putF (ws2 := (([(o, .inr (3, [.ref (qp 31), .ref (qa 31)]))] ++ W_P G qp plan0) ++ W_A G qa air0)) (ty := (.object "TableNine$Air")) C dX3_init_23 lay_X3 tyX3_ok nmX3 0 rfl rfl 1 (by decide) fl_X3_21 rfl rfl rfl rfl (by decide +kernel) rfl rfl (Nat.le_of_ble_eq_true rfl) rfl ?_
  refine X.eqw (ws2 := W_S G (qf [(31, o)]) qp qa plan0 air0) rfl ?_
  exact X.vretE C ⟨qf [(31, o)], qp, qa, rfl, List.Perm.refl _⟩ dX3_init_26 (Nat.le_of_ble_eq_true rfl) (Nat.le_of_ble_eq_true rfl)
def rX7_init : Room := { frames := 5, cells := 51, slots := 5658, locals := 113 }
theorem mX7_init : MN yX7_init cX7_init 2 0 := ⟨cd_X7_init, in_X7, ⟨⟨by decide, by decide⟩, by decide +kernel⟩, im_X7_init, rfl⟩
def qF (o qi qr p4 : Nat) (qy qs qp qa rs rp ra s0 s1 s2 s3 qk : Nat → Nat) : Nat → Nat → Nat := fun k => [qy, qf [(31, p4)], qp, qa, rp, ra, s0, s1, s2, s3, qk, qf [(31, o), (4, qi), (5, qr)], qs, rs].getD k (fun _ => 0)
set_option maxHeartbeats 4000000 in
set_option maxRecDepth 100000 in
theorem kX7_init {l : Launch} {G : GT} (o : Nat) : CTE l G yX7_init cX7_init 2 rX7_init [.ref o] [(o, .inr (7, [.null, .null, .null, .null, .null, .null, .null]))] (fun W => ∃ q : Nat → Nat → Nat, q 11 31 = o ∧ W.Perm (W_T G q T0 ++ [(q 11 4, aQ (G.2.1 5) 3 (fun _ => none))])) := by
  refine CTE.of (by decide) (Nat.le_of_ble_eq_true rfl) rfl (fun κ _ C => ?_)
  refine X.aload_n C dX7_init_0 rfl 0 rfl ?_
  refine X.objI C dX7_init_1 ml_X7_1 im_java_lang_Object_init cd_java_lang_Object_init (Nat.le_of_ble_eq_true rfl) (Nat.le_of_ble_eq_true rfl) ?_
  refine X.eqw (ws2 := ((o, .inr (7, [.null, .null, .null, .null, .null, .null, .null])) :: [])) rfl ?_
  refine X.aload_n C dX7_init_4 rfl 0 rfl ?_
  refine X.newO (ci := 4) (fs := [.null, vi 0, vi 0, vi 0, vi 0]) C dX7_init_5 lay_X4 tyX4_ok kl_X7_7 nw_X4 in_X4 rfl (fun j hj => by
    rcases (show j = 0 ∨ j = 1 ∨ j = 2 ∨ j = 3 ∨ j = 4 by omega) with rfl | rfl | rfl | rfl | rfl <;> rfl) (Nat.le_of_ble_eq_true rfl) (Nat.le_of_ble_eq_true rfl) (fun p1 => ?_)
  refine X.dup C dX7_init_8 rfl ?_
  refine X.callINT (As := []) (rest := [.ref p1, .ref o]) C dX7_init_9 mn_X7_9 mX4_init (kX4_init p1) rfl rfl rfl rfl (fun W1 hW1 => ?_)
  obtain ⟨qy, hq, hp⟩ := hW1
  subst hq
  refine X.permP (List.Perm.append_left _ hp) ?_
  refine X.eqw (ws2 := ((o, .inr (7, [.null, .null, .null, .null, .null, .null, .null])) :: ([] ++ W_Y G qy ob0))) rfl ?_
  refine X.putF (ws2 := ((o, .inr (7, [.ref (qy 31), .null, .null, .null, .null, .null, .null])) :: ([] ++ W_Y G qy ob0))) (ty := (.object "TableNine$Tape")) C dX7_init_12 lay_X7 tyX7_ok nmX7 0 rfl rfl 0 (by decide) fl_X7_10 rfl rfl rfl rfl (by decide +kernel) rfl rfl (Nat.le_of_ble_eq_true rfl) rfl ?_
  refine X.aload_n C dX7_init_15 rfl 0 rfl ?_
  refine X.newO (ci := 3) (fs := [.null, .null]) C dX7_init_16 lay_X3 tyX3_ok kl_X7_16 nw_X3 in_X3 rfl (fun j hj => by
    rcases (show j = 0 ∨ j = 1 by omega) with rfl | rfl <;> rfl) (Nat.le_of_ble_eq_true rfl) (Nat.le_of_ble_eq_true rfl) (fun p2 => ?_)
  refine X.dup C dX7_init_19 rfl ?_
  refine X.callINT (As := []) (rest := [.ref p2, .ref o]) C dX7_init_20 mn_X7_18 mX3_init (kX3_init p2) rfl rfl rfl rfl (fun W1 hW1 => ?_)
  obtain ⟨qs, qp, qa, hq, hp⟩ := hW1
  subst hq
  refine X.permP (List.Perm.append_left _ hp) ?_
  refine X.eqw (ws2 := ((o, .inr (7, [.ref (qy 31), .null, .null, .null, .null, .null, .null])) :: (([] ++ W_Y G qy ob0) ++ W_S G qs qp qa plan0 air0))) rfl ?_
  refine X.putF (ws2 := ((o, .inr (7, [.ref (qy 31), .null, .ref (qs 31), .null, .null, .null, .null])) :: (([] ++ W_Y G qy ob0) ++ W_S G qs qp qa plan0 air0))) (ty := (.object "TableNine$Scene")) C dX7_init_23 lay_X7 tyX7_ok nmX7 0 rfl rfl 2 (by decide) fl_X7_19 rfl rfl rfl rfl (by decide +kernel) rfl rfl (Nat.le_of_ble_eq_true rfl) rfl ?_
  refine X.aload_n C dX7_init_26 rfl 0 rfl ?_
  refine X.newO (ci := 3) (fs := [.null, .null]) C dX7_init_27 lay_X3 tyX3_ok kl_X7_16 nw_X3 in_X3 rfl (fun j hj => by
    rcases (show j = 0 ∨ j = 1 by omega) with rfl | rfl <;> rfl) (Nat.le_of_ble_eq_true rfl) (Nat.le_of_ble_eq_true rfl) (fun p3 => ?_)
  refine X.dup C dX7_init_30 rfl ?_
  refine X.callINT (As := []) (rest := [.ref p3, .ref o]) C dX7_init_31 mn_X7_18 mX3_init (kX3_init p3) rfl rfl rfl rfl (fun W1 hW1 => ?_)
  obtain ⟨rs, rp, ra, hq, hp⟩ := hW1
  subst hq
  refine X.permP (List.Perm.append_left _ hp) ?_
  refine X.eqw (ws2 := ((o, .inr (7, [.ref (qy 31), .null, .ref (qs 31), .null, .null, .null, .null])) :: ((([] ++ W_Y G qy ob0) ++ W_S G qs qp qa plan0 air0) ++ W_S G rs rp ra plan0 air0))) rfl ?_
  refine X.putF (ws2 := ((o, .inr (7, [.ref (qy 31), .null, .ref (qs 31), .ref (rs 31), .null, .null, .null])) :: ((([] ++ W_Y G qy ob0) ++ W_S G qs qp qa plan0 air0) ++ W_S G rs rp ra plan0 air0))) (ty := (.object "TableNine$Scene")) C dX7_init_34 lay_X7 tyX7_ok nmX7 0 rfl rfl 3 (by decide) fl_X7_23 rfl rfl rfl rfl (by decide +kernel) rfl rfl (Nat.le_of_ble_eq_true rfl) rfl ?_
  refine X.aload_n C dX7_init_37 rfl 0 rfl ?_
  refine X.newO (ci := 5) (fs := [.null, .null, vi 0, vi 0, vi 0, vi 0, vi 0]) C dX7_init_38 lay_X5 tyX5_ok kl_X7_26 nw_X5 in_X5 rfl (fun j hj => by
    rcases (show j = 0 ∨ j = 1 ∨ j = 2 ∨ j = 3 ∨ j = 4 ∨ j = 5 ∨ j = 6 by omega) with rfl | rfl | rfl | rfl | rfl | rfl | rfl <;> rfl) (Nat.le_of_ble_eq_true rfl) (Nat.le_of_ble_eq_true rfl) (fun p4 => ?_)
  refine X.dup C dX7_init_41 rfl ?_
  refine X.aload_n C dX7_init_42 rfl 0 rfl ?_
  refine X.get C dX7_init_43 lay_X7 0 rfl rfl 0 (by decide) fl_X7_10 rfl rfl ?_
  refine X.aload_n C dX7_init_46 rfl 0 rfl ?_
  refine X.get C dX7_init_47 lay_X7 0 rfl rfl 3 (by decide) fl_X7_23 rfl rfl ?_
  refine X.get C dX7_init_50 lay_X3 21 rfl rfl 0 (by decide) fl_X7_28 rfl rfl ?_
  refine X.callIT (As := [.ref (qy 31), .ref (rp 31)]) (rest := [.ref p4, .ref o]) C dX7_init_53 ml_X7_32 mX5_init (kX5_init p4 (qy 31) (rp 31)) rfl rfl rfl rfl (fun W1 hW1 => ?_)
  subst hW1
  refine X.eqw (ws2 := ((o, .inr (7, [.ref (qy 31), .null, .ref (qs 31), .ref (rs 31), .null, .null, .null])) :: (((([] ++ W_Y G qy ob0) ++ W_S G qs qp qa plan0 air0) ++ W_S G rs rp ra plan0 air0) ++ [(p4, oX5 qy rp tell0)]))) rfl ?_
  refine X.putF (ws2 := ((o, .inr (7, [.ref (qy 31), .ref p4, .ref (qs 31), .ref (rs 31), .null, .null, .null])) :: (((([] ++ W_Y G qy ob0) ++ W_S G qs qp qa plan0 air0) ++ W_S G rs rp ra plan0 air0) ++ [(p4, oX5 qy rp tell0)]))) (ty := (.object "TableNine$Teller")) C dX7_init_56 lay_X7 tyX7_ok nmX7 0 rfl rfl 1 (by decide) fl_X7_35 rfl rfl rfl rfl (by decide +kernel) rfl rfl (Nat.le_of_ble_eq_true rfl) rfl ?_
  refine X.aload_n C dX7_init_59 rfl 0 rfl ?_
  refine X.iconst C dX7_init_60 ?_
  refine X.newQ (CC := RX3) (j := 5) (N := 3) C dX7_init_61 kl_X7_16 C.sf.2.2.2.2.2.2.2.2 rfl (by decide) (by decide) (Nat.le_of_ble_eq_true rfl) (Nat.le_of_ble_eq_true rfl) (Nat.le_of_ble_eq_true rfl) (fun qi => ?_)
  refine X.eqw (ws2 := ((o, .inr (7, [.ref (qy 31), .ref p4, .ref (qs 31), .ref (rs 31), .null, .null, .null])) :: ((((([] ++ W_Y G qy ob0) ++ W_S G qs qp qa plan0 air0) ++ W_S G rs rp ra plan0 air0) ++ [(p4, oX5 qy rp tell0)]) ++ [(qi, aQ (G.2.1 5) 3 (fun _ => none))]))) rfl ?_
  refine X.putF (ws2 := ((o, .inr (7, [.ref (qy 31), .ref p4, .ref (qs 31), .ref (rs 31), .ref qi, .null, .null])) :: ((((([] ++ W_Y G qy ob0) ++ W_S G qs qp qa plan0 air0) ++ W_S G rs rp ra plan0 air0) ++ [(p4, oX5 qy rp tell0)]) ++ [(qi, aQ (G.2.1 5) 3 (fun _ => none))]))) (ty := (.array (.object "TableNine$Scene"))) C dX7_init_64 lay_X7 tyX7_ok nmX7 0 rfl rfl 4 (by decide) fl_X7_39 rfl rfl rfl rfl (by decide +kernel) rfl rfl (Nat.le_of_ble_eq_true rfl) rfl ?_
  refine X.aload_n C dX7_init_67 rfl 0 rfl ?_
  refine X.iconst C dX7_init_68 ?_
  refine X.newQ (CC := RX2) (j := 4) (N := 4) C dX7_init_69 kl_X7_43 C.sf.2.2.2.2.2.2.2.1 rfl (by decide) (by decide) (Nat.le_of_ble_eq_true rfl) (Nat.le_of_ble_eq_true rfl) (Nat.le_of_ble_eq_true rfl) (fun qr => ?_)
  refine X.permP (ws2 := ((o, .inr (7, [.ref (qy 31), .ref p4, .ref (qs 31), .ref (rs 31), .ref qi, .null, .null])) :: (qr, aQ (G.2.1 4) 4 (fun _ => none)) :: ((((([] ++ W_Y G qy ob0) ++ W_S G qs qp qa plan0 air0) ++ W_S G rs rp ra plan0 air0) ++ [(p4, oX5 qy rp tell0)]) ++ [(qi, aQ (G.2.1 5) 3 (fun _ => none))]))) (perm_c (fun p => by simp only [List.countP_append, List.countP_cons, List.countP_nil]; omega)) ?_
  refine X.putF (ws2 := ((o, .inr (7, [.ref (qy 31), .ref p4, .ref (qs 31), .ref (rs 31), .ref qi, .ref qr, .null])) :: (qr, aQ (G.2.1 4) 4 (fun _ => none)) :: ((((([] ++ W_Y G qy ob0) ++ W_S G qs qp qa plan0 air0) ++ W_S G rs rp ra plan0 air0) ++ [(p4, oX5 qy rp tell0)]) ++ [(qi, aQ (G.2.1 5) 3 (fun _ => none))]))) (ty := (.array (.object "TableNine$Row"))) C dX7_init_72 lay_X7 tyX7_ok nmX7 0 rfl rfl 5 (by decide) fl_X7_45 rfl rfl rfl rfl (by decide +kernel) rfl rfl (Nat.le_of_ble_eq_true rfl) rfl ?_
  refine X.iconst C dX7_init_75 ?_
  refine X.istore_n (lv2 := [(1, vi 0), (0, .ref o)]) C dX7_init_76 rfl (by decide) rfl ?_
  refine X.iload_n C dX7_init_77 rfl 0 rfl ?_
  refine X.iconst C dX7_init_78 ?_
  refine X.icmp_geR (tgt := 101) C dX7_init_79 (by decide) (fun c => absurd c (by decide)) (fun _ => ?_)
  refine X.aload_n C dX7_init_82 rfl 1 rfl ?_
  refine X.get C dX7_init_83 lay_X7 0 rfl rfl 5 (by decide) fl_X7_45 rfl rfl ?_
  refine X.iload_n C dX7_init_86 rfl 0 rfl ?_
  refine X.newO (ci := 2) (fs := [vi 0, vi 0, vi 0, .null]) C dX7_init_87 lay_X2 tyX2_ok kl_X7_43 nw_X2 in_X2 rfl (fun j hj => by
    rcases (show j = 0 ∨ j = 1 ∨ j = 2 ∨ j = 3 by omega) with rfl | rfl | rfl | rfl <;> rfl) (Nat.le_of_ble_eq_true rfl) (Nat.le_of_ble_eq_true rfl) (fun w0 => ?_)
  refine X.dup C dX7_init_90 rfl ?_
  refine X.callINT (As := []) (rest := [.ref w0, vi 0, .ref qr]) C dX7_init_91 mn_X7_49 mX2_init (kX2_init w0) rfl rfl rfl rfl (fun W1 hW1 => ?_)
  obtain ⟨s0, hq, hp⟩ := hW1
  subst hq
  refine X.permP (List.Perm.append_left _ hp) ?_
  refine X.eqw (ws2 := ((o, .inr (7, [.ref (qy 31), .ref p4, .ref (qs 31), .ref (rs 31), .ref qi, .ref qr, .null])) :: (qr, aQ (G.2.1 4) 4 (fun _ => none)) :: (((((([] ++ W_Y G qy ob0) ++ W_S G qs qp qa plan0 air0) ++ W_S G rs rp ra plan0 air0) ++ [(p4, oX5 qy rp tell0)]) ++ [(qi, aQ (G.2.1 5) 3 (fun _ => none))]) ++ W_R G s0 ob0))) rfl ?_
  refine X.astQ (cr := (RX2, TX2, 4)) (ci := 2) (j := 4) (ws2 := ((o, .inr (7, [.ref (qy 31), .ref p4, .ref (qs 31), .ref (rs 31), .ref qi, .ref qr, .null])) :: (qr, aQ (G.2.1 4) 4 (va_up (fun _ => none) (ix 0) (some (s0 31)))) :: (((((([] ++ W_Y G qy ob0) ++ W_S G qs qp qa plan0 air0) ++ W_S G rs rp ra plan0 air0) ++ [(p4, oX5 qy rp tell0)]) ++ [(qi, aQ (G.2.1 5) 3 (fun _ => none))]) ++ W_R G s0 ob0))) C (by decide) dX7_init_94 1 42 rfl rfl rfl rfl rfl ?_
  refine X.iincN (f := fun x => some x) (r := some (0 + 1)) (lv2 := fun x => [(1, vi x), (0, .ref o)]) C rfl dX7_init_95 0 rfl (by decide) (fun _ => rfl) (fun x h => ?_)
  cases h
  refine X.goto (tgt := 77) C dX7_init_98 (by decide) ?_
  refine X.iload_n C dX7_init_77 rfl 0 rfl ?_
  refine X.iconst C dX7_init_78 ?_
  refine X.icmp_geR (tgt := 101) C dX7_init_79 (by decide) (fun c => absurd c (by decide)) (fun _ => ?_)
  refine X.aload_n C dX7_init_82 rfl 1 rfl ?_
  refine X.get C dX7_init_83 lay_X7 0 rfl rfl 5 (by decide) fl_X7_45 rfl rfl ?_
  refine X.iload_n C dX7_init_86 rfl 0 rfl ?_
  refine X.newO (ci := 2) (fs := [vi 0, vi 0, vi 0, .null]) C dX7_init_87 lay_X2 tyX2_ok kl_X7_43 nw_X2 in_X2 rfl (fun j hj => by
    rcases (show j = 0 ∨ j = 1 ∨ j = 2 ∨ j = 3 by omega) with rfl | rfl | rfl | rfl <;> rfl) (Nat.le_of_ble_eq_true rfl) (Nat.le_of_ble_eq_true rfl) (fun w1 => ?_)
  refine X.dup C dX7_init_90 rfl ?_
  refine X.callINT (As := []) (rest := [.ref w1, vi 1, .ref qr]) C dX7_init_91 mn_X7_49 mX2_init (kX2_init w1) rfl rfl rfl rfl (fun W1 hW1 => ?_)
  obtain ⟨s1, hq, hp⟩ := hW1
  subst hq
  refine X.permP (List.Perm.append_left _ hp) ?_
  refine X.eqw (ws2 := ((o, .inr (7, [.ref (qy 31), .ref p4, .ref (qs 31), .ref (rs 31), .ref qi, .ref qr, .null])) :: (qr, aQ (G.2.1 4) 4 (va_up (fun _ => none) (ix 0) (some (s0 31)))) :: ((((((([] ++ W_Y G qy ob0) ++ W_S G qs qp qa plan0 air0) ++ W_S G rs rp ra plan0 air0) ++ [(p4, oX5 qy rp tell0)]) ++ [(qi, aQ (G.2.1 5) 3 (fun _ => none))]) ++ W_R G s0 ob0) ++ W_R G s1 ob0))) rfl ?_
  refine X.astQ (cr := (RX2, TX2, 4)) (ci := 2) (j := 4) (ws2 := ((o, .inr (7, [.ref (qy 31), .ref p4, .ref (qs 31), .ref (rs 31), .ref qi, .ref qr, .null])) :: (qr, aQ (G.2.1 4) 4 (va_up (va_up (fun _ => none) (ix 0) (some (s0 31))) (ix 1) (some (s1 31)))) :: ((((((([] ++ W_Y G qy ob0) ++ W_S G qs qp qa plan0 air0) ++ W_S G rs rp ra plan0 air0) ++ [(p4, oX5 qy rp tell0)]) ++ [(qi, aQ (G.2.1 5) 3 (fun _ => none))]) ++ W_R G s0 ob0) ++ W_R G s1 ob0))) C (by decide) dX7_init_94 1 44 rfl rfl rfl rfl rfl ?_
  refine X.iincN (f := fun x => some x) (r := some (1 + 1)) (lv2 := fun x => [(1, vi x), (0, .ref o)]) C rfl dX7_init_95 0 rfl (by decide) (fun _ => rfl) (fun x h => ?_)
  cases h
  refine X.goto (tgt := 77) C dX7_init_98 (by decide) ?_
  refine X.iload_n C dX7_init_77 rfl 0 rfl ?_
  refine X.iconst C dX7_init_78 ?_
  refine X.icmp_geR (tgt := 101) C dX7_init_79 (by decide) (fun c => absurd c (by decide)) (fun _ => ?_)
  refine X.aload_n C dX7_init_82 rfl 1 rfl ?_
  refine X.get C dX7_init_83 lay_X7 0 rfl rfl 5 (by decide) fl_X7_45 rfl rfl ?_
  refine X.iload_n C dX7_init_86 rfl 0 rfl ?_
  refine X.newO (ci := 2) (fs := [vi 0, vi 0, vi 0, .null]) C dX7_init_87 lay_X2 tyX2_ok kl_X7_43 nw_X2 in_X2 rfl (fun j hj => by
    rcases (show j = 0 ∨ j = 1 ∨ j = 2 ∨ j = 3 by omega) with rfl | rfl | rfl | rfl <;> rfl) (Nat.le_of_ble_eq_true rfl) (Nat.le_of_ble_eq_true rfl) (fun w2 => ?_)
  refine X.dup C dX7_init_90 rfl ?_
  refine X.callINT (As := []) (rest := [.ref w2, vi 2, .ref qr]) C dX7_init_91 mn_X7_49 mX2_init (kX2_init w2) rfl rfl rfl rfl (fun W1 hW1 => ?_)
  obtain ⟨s2, hq, hp⟩ := hW1
  subst hq
  refine X.permP (List.Perm.append_left _ hp) ?_
  refine X.eqw (ws2 := ((o, .inr (7, [.ref (qy 31), .ref p4, .ref (qs 31), .ref (rs 31), .ref qi, .ref qr, .null])) :: (qr, aQ (G.2.1 4) 4 (va_up (va_up (fun _ => none) (ix 0) (some (s0 31))) (ix 1) (some (s1 31)))) :: (((((((([] ++ W_Y G qy ob0) ++ W_S G qs qp qa plan0 air0) ++ W_S G rs rp ra plan0 air0) ++ [(p4, oX5 qy rp tell0)]) ++ [(qi, aQ (G.2.1 5) 3 (fun _ => none))]) ++ W_R G s0 ob0) ++ W_R G s1 ob0) ++ W_R G s2 ob0))) rfl ?_
  refine X.astQ (cr := (RX2, TX2, 4)) (ci := 2) (j := 4) (ws2 := ((o, .inr (7, [.ref (qy 31), .ref p4, .ref (qs 31), .ref (rs 31), .ref qi, .ref qr, .null])) :: (qr, aQ (G.2.1 4) 4 (va_up (va_up (va_up (fun _ => none) (ix 0) (some (s0 31))) (ix 1) (some (s1 31))) (ix 2) (some (s2 31)))) :: (((((((([] ++ W_Y G qy ob0) ++ W_S G qs qp qa plan0 air0) ++ W_S G rs rp ra plan0 air0) ++ [(p4, oX5 qy rp tell0)]) ++ [(qi, aQ (G.2.1 5) 3 (fun _ => none))]) ++ W_R G s0 ob0) ++ W_R G s1 ob0) ++ W_R G s2 ob0))) C (by decide) dX7_init_94 1 46 rfl rfl rfl rfl rfl ?_
  refine X.iincN (f := fun x => some x) (r := some (2 + 1)) (lv2 := fun x => [(1, vi x), (0, .ref o)]) C rfl dX7_init_95 0 rfl (by decide) (fun _ => rfl) (fun x h => ?_)
  cases h
  refine X.goto (tgt := 77) C dX7_init_98 (by decide) ?_
  refine X.iload_n C dX7_init_77 rfl 0 rfl ?_
  refine X.iconst C dX7_init_78 ?_
  refine X.icmp_geR (tgt := 101) C dX7_init_79 (by decide) (fun c => absurd c (by decide)) (fun _ => ?_)
  refine X.aload_n C dX7_init_82 rfl 1 rfl ?_
  refine X.get C dX7_init_83 lay_X7 0 rfl rfl 5 (by decide) fl_X7_45 rfl rfl ?_
  refine X.iload_n C dX7_init_86 rfl 0 rfl ?_
  refine X.newO (ci := 2) (fs := [vi 0, vi 0, vi 0, .null]) C dX7_init_87 lay_X2 tyX2_ok kl_X7_43 nw_X2 in_X2 rfl (fun j hj => by
    rcases (show j = 0 ∨ j = 1 ∨ j = 2 ∨ j = 3 by omega) with rfl | rfl | rfl | rfl <;> rfl) (Nat.le_of_ble_eq_true rfl) (Nat.le_of_ble_eq_true rfl) (fun w3 => ?_)
  refine X.dup C dX7_init_90 rfl ?_
  refine X.callINT (As := []) (rest := [.ref w3, vi 3, .ref qr]) C dX7_init_91 mn_X7_49 mX2_init (kX2_init w3) rfl rfl rfl rfl (fun W1 hW1 => ?_)
  obtain ⟨s3, hq, hp⟩ := hW1
  subst hq
  refine X.permP (List.Perm.append_left _ hp) ?_
  refine X.eqw (ws2 := ((o, .inr (7, [.ref (qy 31), .ref p4, .ref (qs 31), .ref (rs 31), .ref qi, .ref qr, .null])) :: (qr, aQ (G.2.1 4) 4 (va_up (va_up (va_up (fun _ => none) (ix 0) (some (s0 31))) (ix 1) (some (s1 31))) (ix 2) (some (s2 31)))) :: ((((((((([] ++ W_Y G qy ob0) ++ W_S G qs qp qa plan0 air0) ++ W_S G rs rp ra plan0 air0) ++ [(p4, oX5 qy rp tell0)]) ++ [(qi, aQ (G.2.1 5) 3 (fun _ => none))]) ++ W_R G s0 ob0) ++ W_R G s1 ob0) ++ W_R G s2 ob0) ++ W_R G s3 ob0))) rfl ?_
  refine X.astQ (cr := (RX2, TX2, 4)) (ci := 2) (j := 4) (ws2 := ((o, .inr (7, [.ref (qy 31), .ref p4, .ref (qs 31), .ref (rs 31), .ref qi, .ref qr, .null])) :: (qr, aQ (G.2.1 4) 4 (va_up (va_up (va_up (va_up (fun _ => none) (ix 0) (some (s0 31))) (ix 1) (some (s1 31))) (ix 2) (some (s2 31))) (ix 3) (some (s3 31)))) :: ((((((((([] ++ W_Y G qy ob0) ++ W_S G qs qp qa plan0 air0) ++ W_S G rs rp ra plan0 air0) ++ [(p4, oX5 qy rp tell0)]) ++ [(qi, aQ (G.2.1 5) 3 (fun _ => none))]) ++ W_R G s0 ob0) ++ W_R G s1 ob0) ++ W_R G s2 ob0) ++ W_R G s3 ob0))) C (by decide) dX7_init_94 1 48 rfl rfl rfl rfl rfl ?_
  refine X.iincN (f := fun x => some x) (r := some (3 + 1)) (lv2 := fun x => [(1, vi x), (0, .ref o)]) C rfl dX7_init_95 0 rfl (by decide) (fun _ => rfl) (fun x h => ?_)
  cases h
  refine X.goto (tgt := 77) C dX7_init_98 (by decide) ?_
  refine X.iload_n C dX7_init_77 rfl 0 rfl ?_
  refine X.iconst C dX7_init_78 ?_
  refine X.icmp_geR (tgt := 101) C dX7_init_79 (by decide) (fun _ => ?_) (fun c => absurd (by decide) c)
  refine X.aload_n C dX7_init_101 rfl 1 rfl ?_
  refine X.newO (ci := 6) (fs := [.null]) C dX7_init_102 lay_X6 tyX6_ok kl_X7_50 nw_X6 in_X6 rfl (fun j hj => by
    rcases (show j = 0 by omega) with rfl <;> rfl) (Nat.le_of_ble_eq_true rfl) (Nat.le_of_ble_eq_true rfl) (fun p6 => ?_)
  refine X.dup C dX7_init_105 rfl ?_
  refine X.callINT (As := []) (rest := [.ref p6, .ref o]) C dX7_init_106 mn_X7_52 mX6_init (kX6_init p6) rfl rfl rfl rfl (fun W1 hW1 => ?_)
  obtain ⟨qk, hq, hp⟩ := hW1
  subst hq
  refine X.permP (List.Perm.append_left _ hp) ?_
  refine X.eqw (ws2 := ((o, .inr (7, [.ref (qy 31), .ref p4, .ref (qs 31), .ref (rs 31), .ref qi, .ref qr, .null])) :: (qr, aQ (G.2.1 4) 4 (va_up (va_up (va_up (va_up (fun _ => none) (ix 0) (some (s0 31))) (ix 1) (some (s1 31))) (ix 2) (some (s2 31))) (ix 3) (some (s3 31)))) :: (((((((((([] ++ W_Y G qy ob0) ++ W_S G qs qp qa plan0 air0) ++ W_S G rs rp ra plan0 air0) ++ [(p4, oX5 qy rp tell0)]) ++ [(qi, aQ (G.2.1 5) 3 (fun _ => none))]) ++ W_R G s0 ob0) ++ W_R G s1 ob0) ++ W_R G s2 ob0) ++ W_R G s3 ob0) ++ wX6 G qk ob0))) rfl ?_
  refine X.putF (ws2 := ((o, .inr (7, [.ref (qy 31), .ref p4, .ref (qs 31), .ref (rs 31), .ref qi, .ref qr, .ref (qk 31)])) :: (qr, aQ (G.2.1 4) 4 (va_up (va_up (va_up (va_up (fun _ => none) (ix 0) (some (s0 31))) (ix 1) (some (s1 31))) (ix 2) (some (s2 31))) (ix 3) (some (s3 31)))) :: (((((((((([] ++ W_Y G qy ob0) ++ W_S G qs qp qa plan0 air0) ++ W_S G rs rp ra plan0 air0) ++ [(p4, oX5 qy rp tell0)]) ++ [(qi, aQ (G.2.1 5) 3 (fun _ => none))]) ++ W_R G s0 ob0) ++ W_R G s1 ob0) ++ W_R G s2 ob0) ++ W_R G s3 ob0) ++ wX6 G qk ob0))) (ty := (.object "TableNine$Walk")) C dX7_init_109 lay_X7 tyX7_ok nmX7 0 rfl rfl 6 (by decide) fl_X7_53 rfl rfl rfl rfl (by decide +kernel) rfl rfl (Nat.le_of_ble_eq_true rfl) rfl ?_
  refine X.permP (ws2 := (qr, aQ (G.2.1 4) 4 (va_up (va_up (va_up (va_up (fun _ => none) (ix 0) (some (s0 31))) (ix 1) (some (s1 31))) (ix 2) (some (s2 31))) (ix 3) (some (s3 31)))) :: (o, .inr (7, [.ref (qy 31), .ref p4, .ref (qs 31), .ref (rs 31), .ref qi, .ref qr, .ref (qk 31)])) :: (((((((((([] ++ W_Y G qy ob0) ++ W_S G qs qp qa plan0 air0) ++ W_S G rs rp ra plan0 air0) ++ [(p4, oX5 qy rp tell0)]) ++ [(qi, aQ (G.2.1 5) 3 (fun _ => none))]) ++ W_R G s0 ob0) ++ W_R G s1 ob0) ++ W_R G s2 ob0) ++ W_R G s3 ob0) ++ wX6 G qk ob0)) (List.Perm.swap _ _ _) ?_
  refine X.cellQ (rf2 := fun j => some ((qF o qi qr p4 qy qs qp qa rs rp ra s0 s1 s2 s3 qk) (6 + j) 31)) (fun j hj => by rcases (show j = 0 ∨ j = 1 ∨ j = 2 ∨ j = 3 by omega) with rfl | rfl | rfl | rfl <;> rfl) ?_
  refine X.vretE C ⟨(qF o qi qr p4 qy qs qp qa rs rp ra s0 s1 s2 s3 qk), rfl, perm_c (fun p => ?_)⟩ dX7_init_112 (Nat.le_of_ble_eq_true rfl) (Nat.le_of_ble_eq_true rfl)
  rw [show W_T G (qF o qi qr p4 qy qs qp qa rs rp ra s0 s1 s2 s3 qk) T0 = (o, .inr (7, [.ref (qy 31), .ref p4, .ref (qs 31), .ref (rs 31), .ref qi, .ref qr, .ref (qk 31)])) :: (qr, aQ (G.2.1 4) 4 (fun j => some ((qF o qi qr p4 qy qs qp qa rs rp ra s0 s1 s2 s3 qk) (6 + j) 31))) :: (wX4 G qy ob0 ++ ((p4, oX5 qy rp tell0) :: (W_S G qs qp qa plan0 air0 ++ (W_S G rs rp ra plan0 air0 ++ (wX2 G s0 ob0 ++ (wX2 G s1 ob0 ++ (wX2 G s2 ob0 ++ (wX2 G s3 ob0 ++ wX6 G qk ob0)))))))) from rfl, show (qF o qi qr p4 qy qs qp qa rs rp ra s0 s1 s2 s3 qk) 11 4 = qi from rfl]
  simp only [W_Y, W_R, List.countP_append, List.countP_cons, List.countP_nil]
  omega
