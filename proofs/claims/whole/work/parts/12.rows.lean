section
variable {κ : Kx} {G : GT} {y : MethodName} {cc : ByteArray} {ret : Option FieldType} {nL : Nat} {rm : Room} {ws : va_W} {pc : Nat} {lv : List (Nat × Value)} {st : List Value} {a b : Nat} {Q : State → Prop}
theorem X.nameS {α β : Type} {e : α} {f : α → Option β} {r : Option β} {ws : α → va_W} (h : nm e f = r) (k : ∀ x, f x = r → X κ G nL (ws x) pc lv st a b Q) : X κ G nL (ws e) pc lv st a b Q := k e h
def nz (z : Int) : Bool := !decide (i32 z = 0)
theorem nz_ne {z : Int} (h : nz z = true) : ¬ i32 z = 0 := by
  unfold nz at h
  simpa using h
theorem bq_out {β : Type} {x z : Int} {T F r : β} (h : bq x z T F = r) : (i32 x = i32 z ∧ T = r) ∨ (¬ i32 x = i32 z ∧ F = r) := by
  by_cases c : i32 x = i32 z
  · exact Or.inl ⟨c, (if_pos c).symm.trans h⟩
  · exact Or.inr ⟨c, (if_neg c).symm.trans h⟩
theorem X.tsIn {x c : Int} {dflt lo hi : Int} {offs : Array Int} {len : Nat} {off : Int} {tgt : Nat} (hx : i32 x = i32 c) (C : Cx κ G y cc ret nL rm) (hd : decode cc pc = .ok (.tableswitch dflt lo hi offs, len)) (h1 : ¬ (i32 c).toInt < lo) (h2 : ¬ hi < (i32 c).toInt) (ho : offs[((i32 c).toInt - lo).toNat]? = some off) (ht : (pc : Int) + off = (tgt : Int)) (k : X κ G nL ws tgt lv st a b Q) : X κ G nL ws pc lv (vi x :: st) a b Q := X.tableIn C hd (by rw [hx]; exact h1) (by rw [hx]; exact h2) (by rw [hx]; exact ho) ht k
theorem ts_ne {x c : Int} {z : Int} (h : ¬ i32 x = i32 c) (hc : (i32 c).toInt = z) : (i32 x).toInt ≠ z := fun e => h (Int32.toInt_inj.mp (e.trans hc.symm))
theorem ix_lt {z : Int} {n : Nat} (h : inb z n = true) : ix z < n := Nat.not_le.mp fun q => inb_in h (Or.inr q)
theorem X.aldR {q : Nat → Nat → Nat} {o : Nat} {i : Int} {β : Type} {r : β} {T : Option β} (C : Cx κ G y cc ret nL rm) (h : gd (inb i 4) T = some r) (hd : decode cc pc = .ok (.aaload, 1)) (q0 : Nat) (he : ws[q0]? = some (o, aR G q)) (kk : T = some r → ix i < 4 → X κ G nL ws (pc + 1) lv (.ref (q (6 + ix i) 31) :: st) a b Q) : X κ G nL ws pc lv (vi i :: .ref o :: st) a b Q := fun H locs ls hP hD hS hl => va_aldq C.ex C.cd C.kk hP q0 4 he rfl (inb_in (gd_out h).1) hd (kk (gd_out h).2 (ix_lt (gd_out h).1) H locs ls hP hD hS hl)
def cpok (sp dp n : Int) (n0 n1 : Nat) : Bool := !decide (i32 sp < 0) && !decide (i32 dp < 0) && !decide (i32 n < 0) && Nat.ble (ix sp + ix n) n0 && Nat.ble (ix dp + ix n) n1
theorem cpok_out {sp dp n : Int} {n0 n1 : Nat} (h : cpok sp dp n n0 n1 = true) : (¬ i32 sp < 0) ∧ (¬ i32 dp < 0) ∧ (¬ i32 n < 0) ∧ ix sp + ix n ≤ n0 ∧ ix dp + ix n ≤ n1 := by
  unfold cpok at h
  simp only [Bool.and_eq_true, Bool.not_eq_true', decide_eq_false_iff_not, Nat.ble_eq] at h
  exact ⟨h.1.1.1.1, h.1.1.1.2, h.1.1.2, h.1.2, h.2⟩
def cpf (f g : Nat → Int) (sp dp n : Int) : Nat → Int := va_cpy f g (ix sp) (ix dp) (ix n)
theorem cpI_eq (f g : Nat → Int) (sp dp n : Int) : va_cpy (fun j => i32 (f j)) (fun j => i32 (g j)) (i32 sp).toNatClampNeg (i32 dp).toNatClampNeg (i32 n).toNatClampNeg = fun j => i32 (cpf f g sp dp n j) := by
  funext j
  unfold cpf va_cpy ix
  split <;> rfl
theorem cpL_eq (f g : Nat → Int) (sp dp n : Int) : va_cpy (fun j => l64 (f j)) (fun j => l64 (g j)) (i32 sp).toNatClampNeg (i32 dp).toNatClampNeg (i32 n).toNatClampNeg = fun j => l64 (cpf f g sp dp n j) := by
  funext j
  unfold cpf va_cpy ix
  split <;> rfl
theorem X.cpI {f g : Nat → Int} {n0 n1 o0 o1 index : Nat} {sp dp n : Int} {β : Type} {r : β} {T : Option β} {ws2 : va_W} (C : Cx κ G y cc ret nL rm) (h : gd (cpok sp dp n n0 n1) T = some r) (hd : decode cc pc = .ok (.invokestatic index, 3)) (hlk : Cond.methodLink y.cls index arraycopyName ∈ UW) (q0 q1 : Nat) (h0 : ws[q0]? = some (o0, aI G n0 f)) (h1 : ws[q1]? = some (o1, aI G n1 g)) (hf : 1 ≤ rm.frames) (hw : (st.map fun v => v.category).sum + (nativeFrameWords "java/lang/System" "arraycopy" 5 + 11) ≤ rm.locals) (h2 : ws.set q1 (o1, aI G n1 (cpf f g sp dp n)) = ws2) (kk : T = some r → X κ G nL ws2 (pc + 3) lv st a b Q) : X κ G nL ws pc lv (vi n :: vi dp :: .ref o1 :: vi sp :: .ref o0 :: st) a b Q := fun H locs ls hP hD hS hl => by
  obtain ⟨e1, e2, e3, e4, e5⟩ := cpok_out (gd_out h).1
  refine va_copyi C.ex C.cd (C.ml.trans hl.1.symm) C.own (C.ts _ hlk) (C.ts _ nt_java_lang_System_arraycopy) (C.ts _ sm_java_lang_System_arraycopy) (C.ts _ in_java_lang_System) C.kk hP hD hS q0 q1 0 0 h0 h1 rfl rfl rfl e1 e2 e3 e4 e5 (fun _ _ => rfl) (by rw [C.room]; exact hf) (by rw [C.room]; exact hw) hd (fun H1 locs1 hP1 hD1 hS1 => ?_)
  rw [cpI_eq] at hP1 hD1
  exact kk (gd_out h).2 H1 locs1 ls (h2 ▸ hP1) (h2 ▸ hD1) hS1 hl
theorem X.cpL {f g : Nat → Int} {n0 n1 o0 o1 index : Nat} {sp dp n : Int} {β : Type} {r : β} {T : Option β} {ws2 : va_W} (C : Cx κ G y cc ret nL rm) (h : gd (cpok sp dp n n0 n1) T = some r) (hd : decode cc pc = .ok (.invokestatic index, 3)) (hlk : Cond.methodLink y.cls index arraycopyName ∈ UW) (q0 q1 : Nat) (h0 : ws[q0]? = some (o0, aJ G n0 f)) (h1 : ws[q1]? = some (o1, aJ G n1 g)) (hf : 1 ≤ rm.frames) (hw : (st.map fun v => v.category).sum + (nativeFrameWords "java/lang/System" "arraycopy" 5 + 11) ≤ rm.locals) (h2 : ws.set q1 (o1, aJ G n1 (cpf f g sp dp n)) = ws2) (kk : T = some r → X κ G nL ws2 (pc + 3) lv st a b Q) : X κ G nL ws pc lv (vi n :: vi dp :: .ref o1 :: vi sp :: .ref o0 :: st) a b Q := fun H locs ls hP hD hS hl => by
  obtain ⟨e1, e2, e3, e4, e5⟩ := cpok_out (gd_out h).1
  refine va_copyl C.ex C.cd (C.ml.trans hl.1.symm) C.own (C.ts _ hlk) (C.ts _ nt_java_lang_System_arraycopy) (C.ts _ sm_java_lang_System_arraycopy) (C.ts _ in_java_lang_System) C.kk hP hD hS q0 q1 2 2 h0 h1 rfl rfl rfl e1 e2 e3 e4 e5 (fun _ _ => rfl) (by rw [C.room]; exact hf) (by rw [C.room]; exact hw) hd (fun H1 locs1 hP1 hD1 hS1 => ?_)
  rw [cpL_eq] at hP1 hD1
  exact kk (gd_out h).2 H1 locs1 ls (h2 ▸ hP1) (h2 ▸ hD1) hS1 hl
end
theorem X.tsOut3 {κ : Kx} {G : GT} {y : MethodName} {cc : ByteArray} {ret : Option FieldType} {nL : Nat} {rm : Room} {ws : va_W} {pc : Nat} {lv : List (Nat × Value)} {st : List Value} {a b : Nat} {Q : State → Prop} {x : Int} {dflt : Int} {offs : Array Int} {len : Nat} {tgt : Nat} (h0 : ¬ i32 x = i32 0) (h1 : ¬ i32 x = i32 1) (h2 : ¬ i32 x = i32 2) (C : Cx κ G y cc ret nL rm) (hd : decode cc pc = .ok (.tableswitch dflt 0 2 offs, len)) (ht : (pc : Int) + dflt = (tgt : Int)) (k : X κ G nL ws tgt lv st a b Q) : X κ G nL ws pc lv (vi x :: st) a b Q := by
  have g0 := ts_ne (z := 0) h0 (by decide)
  have g1 := ts_ne (z := 1) h1 (by decide)
  have g2 := ts_ne (z := 2) h2 (by decide)
  refine X.tableOut C hd ?_ ht k
  omega
theorem X.tsOut4 {κ : Kx} {G : GT} {y : MethodName} {cc : ByteArray} {ret : Option FieldType} {nL : Nat} {rm : Room} {ws : va_W} {pc : Nat} {lv : List (Nat × Value)} {st : List Value} {a b : Nat} {Q : State → Prop} {x : Int} {dflt : Int} {offs : Array Int} {len : Nat} {tgt : Nat} (h0 : ¬ i32 x = i32 0) (h1 : ¬ i32 x = i32 1) (h2 : ¬ i32 x = i32 2) (h3 : ¬ i32 x = i32 3) (C : Cx κ G y cc ret nL rm) (hd : decode cc pc = .ok (.tableswitch dflt 0 3 offs, len)) (ht : (pc : Int) + dflt = (tgt : Int)) (k : X κ G nL ws tgt lv st a b Q) : X κ G nL ws pc lv (vi x :: st) a b Q := by
  have g0 := ts_ne (z := 0) h0 (by decide)
  have g1 := ts_ne (z := 1) h1 (by decide)
  have g2 := ts_ne (z := 2) h2 (by decide)
  have g3 := ts_ne (z := 3) h3 (by decide)
  refine X.tableOut C hd ?_ ht k
  omega
theorem X.tsOut5 {κ : Kx} {G : GT} {y : MethodName} {cc : ByteArray} {ret : Option FieldType} {nL : Nat} {rm : Room} {ws : va_W} {pc : Nat} {lv : List (Nat × Value)} {st : List Value} {a b : Nat} {Q : State → Prop} {x : Int} {dflt : Int} {offs : Array Int} {len : Nat} {tgt : Nat} (h0 : ¬ i32 x = i32 0) (h1 : ¬ i32 x = i32 1) (h2 : ¬ i32 x = i32 2) (h3 : ¬ i32 x = i32 3) (h4 : ¬ i32 x = i32 4) (C : Cx κ G y cc ret nL rm) (hd : decode cc pc = .ok (.tableswitch dflt 0 4 offs, len)) (ht : (pc : Int) + dflt = (tgt : Int)) (k : X κ G nL ws tgt lv st a b Q) : X κ G nL ws pc lv (vi x :: st) a b Q := by
  have g0 := ts_ne (z := 0) h0 (by decide)
  have g1 := ts_ne (z := 1) h1 (by decide)
  have g2 := ts_ne (z := 2) h2 (by decide)
  have g3 := ts_ne (z := 3) h3 (by decide)
  have g4 := ts_ne (z := 4) h4 (by decide)
  refine X.tableOut C hd ?_ ht k
  omega
theorem X.tsOut6 {κ : Kx} {G : GT} {y : MethodName} {cc : ByteArray} {ret : Option FieldType} {nL : Nat} {rm : Room} {ws : va_W} {pc : Nat} {lv : List (Nat × Value)} {st : List Value} {a b : Nat} {Q : State → Prop} {x : Int} {dflt : Int} {offs : Array Int} {len : Nat} {tgt : Nat} (h0 : ¬ i32 x = i32 0) (h1 : ¬ i32 x = i32 1) (h2 : ¬ i32 x = i32 2) (h3 : ¬ i32 x = i32 3) (h4 : ¬ i32 x = i32 4) (h5 : ¬ i32 x = i32 5) (C : Cx κ G y cc ret nL rm) (hd : decode cc pc = .ok (.tableswitch dflt 0 5 offs, len)) (ht : (pc : Int) + dflt = (tgt : Int)) (k : X κ G nL ws tgt lv st a b Q) : X κ G nL ws pc lv (vi x :: st) a b Q := by
  have g0 := ts_ne (z := 0) h0 (by decide)
  have g1 := ts_ne (z := 1) h1 (by decide)
  have g2 := ts_ne (z := 2) h2 (by decide)
  have g3 := ts_ne (z := 3) h3 (by decide)
  have g4 := ts_ne (z := 4) h4 (by decide)
  have g5 := ts_ne (z := 5) h5 (by decide)
  refine X.tableOut C hd ?_ ht k
  omega
theorem X.tsOut13 {κ : Kx} {G : GT} {y : MethodName} {cc : ByteArray} {ret : Option FieldType} {nL : Nat} {rm : Room} {ws : va_W} {pc : Nat} {lv : List (Nat × Value)} {st : List Value} {a b : Nat} {Q : State → Prop} {x : Int} {dflt : Int} {offs : Array Int} {len : Nat} {tgt : Nat} (h0 : ¬ i32 x = i32 0) (h1 : ¬ i32 x = i32 1) (h2 : ¬ i32 x = i32 2) (h3 : ¬ i32 x = i32 3) (h4 : ¬ i32 x = i32 4) (h5 : ¬ i32 x = i32 5) (h6 : ¬ i32 x = i32 6) (h7 : ¬ i32 x = i32 7) (h8 : ¬ i32 x = i32 8) (h9 : ¬ i32 x = i32 9) (h10 : ¬ i32 x = i32 10) (h11 : ¬ i32 x = i32 11) (h12 : ¬ i32 x = i32 12) (C : Cx κ G y cc ret nL rm) (hd : decode cc pc = .ok (.tableswitch dflt 0 12 offs, len)) (ht : (pc : Int) + dflt = (tgt : Int)) (k : X κ G nL ws tgt lv st a b Q) : X κ G nL ws pc lv (vi x :: st) a b Q := by
  have g0 := ts_ne (z := 0) h0 (by decide)
  have g1 := ts_ne (z := 1) h1 (by decide)
  have g2 := ts_ne (z := 2) h2 (by decide)
  have g3 := ts_ne (z := 3) h3 (by decide)
  have g4 := ts_ne (z := 4) h4 (by decide)
  have g5 := ts_ne (z := 5) h5 (by decide)
  have g6 := ts_ne (z := 6) h6 (by decide)
  have g7 := ts_ne (z := 7) h7 (by decide)
  have g8 := ts_ne (z := 8) h8 (by decide)
  have g9 := ts_ne (z := 9) h9 (by decide)
  have g10 := ts_ne (z := 10) h10 (by decide)
  have g11 := ts_ne (z := 11) h11 (by decide)
  have g12 := ts_ne (z := 12) h12 (by decide)
  refine X.tableOut C hd ?_ ht k
  omega
theorem row_set {G : GT} {q : Nat → Nat → Nat} {T : Nat → Ob} {j i : Nat} {v : Int} (hj : j < 4) : (W_T G q T).set (42 + 2 * j) (q (6 + j) 3, aJ G 60 (up1 (T (6 + j) 3) i v)) = W_T G q (upO T (6 + j) (up2 (T (6 + j)) 3 i v)) := by
  rcases (show j = 0 ∨ j = 1 ∨ j = 2 ∨ j = 3 by omega) with rfl | rfl | rfl | rfl <;> rfl
theorem row_setA {G : GT} {q : Nat → Nat → Nat} {T : Nat → Ob} {j : Nat} {F : Nat → Int} (hj : j < 4) : (W_T G q T).set (42 + 2 * j) (q (6 + j) 3, aJ G 60 F) = W_T G q (upO T (6 + j) (upA (T (6 + j)) 3 F)) := by
  rcases (show j = 0 ∨ j = 1 ∨ j = 2 ∨ j = 3 by omega) with rfl | rfl | rfl | rfl <;> rfl
