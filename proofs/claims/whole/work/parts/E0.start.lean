/-! the law's start: what the Statement gives -/
def strI (i : Nat) : Nat := [137, 173, 144, 139, 140, 58, 169, 113, 162, 77, 87, 149, 67, 99, 72, 82, 105, 177].getD i 0
def strM (i : Nat) : Nat := [163, 201, 168, 164, 166, 176, 199, 161, 172, 181, 185, 170, 178, 153, 179, 183, 155, 174].getD i 0
def tmS (i : Nat) : Term := .string "TableNine$Teller" (strI i)
def nrw : List Cond := flatC (Jvm.Cond.and given_1 narrow_1)
theorem nr_ex : ∀ i, i < 18 → Cond.exactly (tmS i) "java/lang/String" ∈ nrw := by decide +kernel
theorem nr_co : ∀ i, i < 18 → Cond.eq (.field (tmS i) "java/lang/String" "coder" "B") (.int 0) ∈ nrw := by decide +kernel
theorem nr_ar : ∀ i, i < 18 → Cond.arrayOf (.field (tmS i) "java/lang/String" "value" "[B") .byte ∈ nrw := by decide +kernel
theorem nr_le : ∀ i, i < 18 → Cond.eq (.length (.field (tmS i) "java/lang/String" "value" "[B")) (.int (Int32.ofNat (wlen i))) ∈ nrw := by decide +kernel
theorem nr_el : ∀ i, i < 18 → ∀ j, j < wlen i → Cond.eq (.elem (.field (tmS i) "java/lang/String" "value" "[B") (.int (Int32.ofNat j))) (.int (i32 (wch i j))) ∈ nrw := by decide +kernel
theorem nr_eq : ∀ i, i < 18 → Cond.eq (tmS i) (.string "TableNineModel" (strM i)) ∈ nrw := by decide +kernel
theorem nr_wx : ∀ j, j < 4 → Cond.eq (.elem (.static "TableNine" "WAY_X" "[I") (.int (Int32.ofNat j))) (.int (i32 (wayX j))) ∈ nrw := by decide +kernel
theorem nr_wy : ∀ j, j < 4 → Cond.eq (.elem (.static "TableNine" "WAY_Y" "[I") (.int (Int32.ofNat j))) (.int (i32 (wayY j))) ∈ nrw := by decide +kernel
theorem nr_xl : Cond.eq (.length (.static "TableNine" "WAY_X" "[I")) (.int 4) ∈ nrw := by decide +kernel
theorem nr_yl : Cond.eq (.length (.static "TableNine" "WAY_Y" "[I")) (.int 4) ∈ nrw := by decide +kernel
theorem nr_xa : Cond.arrayOf (.static "TableNine" "WAY_X" "[I") .int ∈ nrw := by decide +kernel
theorem nr_ya : Cond.arrayOf (.static "TableNine" "WAY_Y" "[I") .int ∈ nrw := by decide +kernel
theorem nr_cs : Cond.eq (.static "java/lang/String" "COMPACT_STRINGS" "Z") (.int 1) ∈ nrw := by decide +kernel
theorem nr_sf : Cond.isRef (.static "jdk/internal/util/Preconditions" "SIOOBE_FORMATTER" "Ljava/util/function/BiFunction;") ∈ nrw := by decide +kernel
theorem str_all : ∀ q ∈ strT, q.2.2.2 < 18 ∧ ((q.1 = "TableNine$Teller" ∧ q.2.1 = strI q.2.2.2) ∨ (q.1 = "TableNineModel" ∧ q.2.1 = strM q.2.2.2)) := by decide +kernel
theorem str_wd : ∀ q ∈ strT, Cond.stringRef q.1 q.2.1 q.2.2.1 ∈ lw_tbl := by
  unfold strT
  exact List.forall_mem_cons.mpr ⟨sr_X5_58, List.forall_mem_cons.mpr ⟨sr_X5_67, List.forall_mem_cons.mpr ⟨sr_X5_72, List.forall_mem_cons.mpr ⟨sr_X5_77, List.forall_mem_cons.mpr ⟨sr_X5_82, List.forall_mem_cons.mpr ⟨sr_X5_87, List.forall_mem_cons.mpr ⟨sr_X5_99, List.forall_mem_cons.mpr ⟨sr_X5_105, List.forall_mem_cons.mpr ⟨sr_X5_113, List.forall_mem_cons.mpr ⟨sr_X5_137, List.forall_mem_cons.mpr ⟨sr_X5_139, List.forall_mem_cons.mpr ⟨sr_X5_140, List.forall_mem_cons.mpr ⟨sr_X5_144, List.forall_mem_cons.mpr ⟨sr_X5_149, List.forall_mem_cons.mpr ⟨sr_X5_162, List.forall_mem_cons.mpr ⟨sr_X5_169, List.forall_mem_cons.mpr ⟨sr_X5_173, List.forall_mem_cons.mpr ⟨sr_X5_177, List.forall_mem_cons.mpr ⟨sr_X8_153, List.forall_mem_cons.mpr ⟨sr_X8_155, List.forall_mem_cons.mpr ⟨sr_X8_161, List.forall_mem_cons.mpr ⟨sr_X8_163, List.forall_mem_cons.mpr ⟨sr_X8_164, List.forall_mem_cons.mpr ⟨sr_X8_166, List.forall_mem_cons.mpr ⟨sr_X8_168, List.forall_mem_cons.mpr ⟨sr_X8_170, List.forall_mem_cons.mpr ⟨sr_X8_172, List.forall_mem_cons.mpr ⟨sr_X8_174, List.forall_mem_cons.mpr ⟨sr_X8_176, List.forall_mem_cons.mpr ⟨sr_X8_178, List.forall_mem_cons.mpr ⟨sr_X8_179, List.forall_mem_cons.mpr ⟨sr_X8_181, List.forall_mem_cons.mpr ⟨sr_X8_183, List.forall_mem_cons.mpr ⟨sr_X8_185, List.forall_mem_cons.mpr ⟨sr_X8_199, List.forall_mem_cons.mpr ⟨sr_X8_201, fun _ h => absurd h List.not_mem_nil⟩⟩⟩⟩⟩⟩⟩⟩⟩⟩⟩⟩⟩⟩⟩⟩⟩⟩⟩⟩⟩⟩⟩⟩⟩⟩⟩⟩⟩⟩⟩⟩⟩⟩⟩⟩
theorem va_eqRr {args : Array Value} {s : State} {t u : Term} {a : Nat} (h : (Cond.eq t u).before args s = true) (ht : t.eval args s none [] s = some (.ref a)) : u.eval args s none [] s = some (.ref a) := by
  cases hu : u.eval args s none [] s with
  | none => simp [Cond.before, Cond.holds, Cond.value, ht, hu] at h
  | some w =>
    simp only [Cond.before, Cond.holds, Cond.value, ht, hu] at h
    cases w <;> simp_all
theorem arr_prim {args : Array Value} {s : State} {ty : FieldType} (hty : ∀ C, ty ≠ .object C) (h : (Cond.arrayClass ty).before args s = true) : ∃ cA : ClassId, ArrOfT s cA ty ∧ va_RA s cA ty := by
  obtain ⟨cA, kA, comp, h1, h2, h3⟩ := Cond.arrayClass_spec (args := args) (first := s) (o := none) (s := s) (idx := []) h
  refine ⟨cA, fun N z => ⟨(fun k h => by cases h), kA, h2, comp, h3⟩, ?_⟩
  cases ty with
  | object C => exact absurd rfl (hty C)
  | _ => exact h1
theorem arr_obj {args : Array Value} {s : State} {C : String} (h : (Cond.arrayOver (.object C)).before args s = true) : ∃ cA : ClassId, ArrOfT s cA (.object C) ∧ va_RA s cA (.object C) := by
  obtain ⟨comp, cA, kA, h1, h2, h3, h4, h5⟩ := Cond.arrayOver_spec (args := args) (first := s) (o := none) (s := s) (idx := []) h
  exact ⟨cA, fun N z => ⟨(fun k h => by cases h), kA, h3, comp, h4⟩, kA, comp, h3, h4, h1, h5⟩
theorem law_world {s : State} {b : Nat} (hts : ∀ w ∈ lw_tbl, w.before #[Value.ref b] s = true) (hgv : (Jvm.Cond.and given_1 narrow_1).before #[Value.ref b] s = true) : ∃ G : GT, KK G s ∧ SF G (fun q => s.heap.size ≤ q) s s.heap := by
  have hs : ∀ w ∈ nrw, w.before #[Value.ref b] s = true := flat_of_before _ hgv
  have hu : ∀ w ∈ UW, w.before #[Value.ref b] s = true := fun w h => hts w (UW_in h)
  have hA : ∀ a : Nat, a < s.heap.size → ¬ (fun q : Nat => s.heap.size ≤ q) a := fun a h => Nat.not_le.mpr h
  obtain ⟨c0, i0, k0⟩ := u_known (C := RX0) (T := TX0) (N := 17) hu lay_X0 (hu _ nw_X0)
  obtain ⟨c1, i1, k1⟩ := u_known (C := RX1) (T := TX1) (N := 20) hu lay_X1 (hu _ nw_X1)
  obtain ⟨c2, i2, k2⟩ := u_known (C := RX2) (T := TX2) (N := 4) hu lay_X2 (hu _ nw_X2)
  obtain ⟨c3, i3, k3⟩ := u_known (C := RX3) (T := TX3) (N := 2) hu lay_X3 (hu _ nw_X3)
  obtain ⟨c4, i4, k4⟩ := u_known (C := RX4) (T := TX4) (N := 5) hu lay_X4 (hu _ nw_X4)
  obtain ⟨c5, i5, k5⟩ := u_known (C := RX5) (T := TX5) (N := 7) hu lay_X5 (hu _ nw_X5)
  obtain ⟨c6, i6, k6⟩ := u_known (C := RX6) (T := TX6) (N := 1) hu lay_X6 (hu _ nw_X6)
  obtain ⟨c7, i7, k7⟩ := u_known (C := RX7) (T := TX7) (N := 7) hu lay_X7 (hu _ nw_X7)
  obtain ⟨c8, i8, k8⟩ := u_known (C := RX8) (T := TX8) (N := 29) hu lay_X8 (hu _ nw_X8)
  obtain ⟨a0, A0⟩ := arr_prim (ty := .int) (fun C h => by cases h) (hu _ ac_int)
  obtain ⟨a1, A1⟩ := arr_prim (ty := .byte) (fun C h => by cases h) (hu _ ac_byte)
  obtain ⟨a2, A2⟩ := arr_prim (ty := .long) (fun C h => by cases h) (hu _ ac_long)
  obtain ⟨a3, A3⟩ := arr_prim (ty := .boolean) (fun C h => by cases h) (hu _ ac_boolean)
  obtain ⟨a4, A4⟩ := arr_obj (C := RX2) (hts _ ao_X2)
  obtain ⟨a5, A5⟩ := arr_obj (C := RX3) (hts _ ao_X3)
  have h0 : ∀ i : Nat, ∃ q : Nat × Nat, i < 18 → (tmS i).eval #[Value.ref b] s none [] s = some (.ref q.1) ∧ va_O "java/lang/String" q.1 (fun q => s.heap.size ≤ q) s s.heap ∧ va_OF "java/lang/String" "coder" "B" (.int 0) q.1 (fun q => s.heap.size ≤ q) s s.heap ∧ va_OF "java/lang/String" "value" "[B" (.ref q.2) q.1 (fun q => s.heap.size ≤ q) s s.heap ∧ va_T .byte q.2 (wlen i) (fun j => vi (wch i j)) (fun q => s.heap.size ≤ q) s s.heap := by
    intro i
    by_cases hi : i < 18
    · obtain ⟨a, c, cA, kA, q1, q2, q3, q4, q5, q6, -⟩ := Cond.exactly_spec (args := #[Value.ref b]) (first := s) (o := none) (s := s) (idx := []) (t := tmS i) (cls := "java/lang/String") (hs _ (nr_ex i hi))
      obtain ⟨t, ht, hT⟩ := va_Tof (f := fun j => vi (wch i j)) (A := fun q => s.heap.size ≤ q) (N := wlen i) (by have := wlen_b i hi; omega) (hs _ (nr_ar i hi)) (va_eqt (hs _ (nr_le i hi))) (fun j hj => va_eqt (hs _ (nr_el i hi j hj))) hA
      exact ⟨(a, t), fun _ => ⟨q1, ⟨cA, q3, q5, by rw [q6]; exact q2, hA a (Array.getElem?_eq_some_iff.mp q3).1⟩, vk_OFof q1 (va_eqt (hs _ (nr_co i hi))) hA, vk_OFof q1 ht hA, hT⟩⟩
    · exact ⟨(0, 0), fun h => absurd h hi⟩
  obtain ⟨ad, had⟩ := Classical.axiomOfChoice h0
  obtain ⟨tx, x1, x2⟩ := va_Tof (f := fun j => vi (wayX j)) (A := fun q => s.heap.size ≤ q) (N := 4) (by decide) (hs _ nr_xa) (va_eqt (hs _ nr_xl)) (fun j hj => va_eqt (hs _ (nr_wx j hj))) hA
  obtain ⟨ty, y1, y2⟩ := va_Tof (f := fun j => vi (wayY j)) (A := fun q => s.heap.size ≤ q) (N := 4) (by decide) (hs _ nr_ya) (va_eqt (hs _ nr_yl)) (fun j hj => va_eqt (hs _ (nr_wy j hj))) hA
  refine ⟨((fun k => [c0, c1, c2, c3, c4, c5, c6, c7, c8].getD k c0, fun k => [i0, i1, i2, i3, i4, i5, i6, i7, i8].getD k i0), fun k => [a0, a1, a2, a3, a4, a5].getD k a0, fun k => [tx, ty].getD k 0, fun k => (ad k).1, fun k => (ad k).2), ⟨?_, ?_⟩, ?_⟩
  · intro k q hq
    match k, hq with
    | 0, hq => cases hq; exact k0
    | 1, hq => cases hq; exact k1
    | 2, hq => cases hq; exact k2
    | 3, hq => cases hq; exact k3
    | 4, hq => cases hq; exact k4
    | 5, hq => cases hq; exact k5
    | 6, hq => cases hq; exact k6
    | 7, hq => cases hq; exact k7
    | 8, hq => cases hq; exact k8
    | k + 9, hq => simp [vwCl] at hq
  · intro k q hq
    match k, hq with
    | 0, hq => cases hq; exact A0
    | 1, hq => cases hq; exact A1
    | 2, hq => cases hq; exact A2
    | 3, hq => cases hq; exact A3
    | 4, hq => cases hq; exact A4
    | 5, hq => cases hq; exact A5
    | k + 6, hq => simp [TY] at hq
  · refine ⟨va_Zof (hts _ ls_X7_WAY_X) (hu _ in_X7) x1 hA, x2, va_Zof (hts _ ls_X7_WAY_Y) (hu _ in_X7) y1 hA, y2, fun w hw hn => va_Nw.of (by cases w <;> first | rfl | cases hn) (hts w hw), ⟨fun i hi => (had i hi).2, va_Zof (hts _ ls_java_lang_String_COMPACT_STRINGS) (hu _ in_java_lang_String) (va_eqi (hs _ nr_cs)) hA, va_Zqof (hts _ ls_jdk_internal_util_Preconditions_SIOOBE_FORMATTER) (hu _ in_jdk_internal_util_Preconditions) (hs _ nr_sf) hA⟩, fun q hq => ?_, va_AO.of (hts _ ao_X2), va_AO.of (hts _ ao_X3)⟩
    obtain ⟨z1, z2⟩ := str_all q hq
    refine vk_R.of (hts _ (str_wd q hq)) ?_
    have e1 := (had q.2.2.2 z1).1
    rcases z2 with ⟨z2, z3⟩ | ⟨z2, z3⟩
    · rw [z2, z3]; exact e1
    · rw [z2, z3]; exact va_eqRr (hs _ (nr_eq q.2.2.2 z1)) e1
