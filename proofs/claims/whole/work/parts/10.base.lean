/-! The machine's state as one judgement, numbers as mathematical integers. -/
abbrev Ob : Type := Nat → Nat → Int
abbrev i32 (z : Int) : Int32 := Int32.ofInt z
abbrev l64 (z : Int) : Int64 := Int64.ofInt z
abbrev vi (z : Int) : Value := .int (Int32.ofInt z)
abbrev vl (z : Int) : Value := .long (Int64.ofInt z)
/-- G: places of fields, classes of arrays (0 int, 1 byte, 2 long, 3 boolean, 4 rows, 5 scenes), addresses of what is static (0 WAY_X, 1 WAY_Y), of the words and of their bytes -/
abbrev GT : Type := va_G × (Nat → ClassId) × (Nat → Nat) × (Nat → Nat) × (Nat → Nat)
def TY (G : GT) : List (ClassId × FieldType) := [(G.2.1 0, .int), (G.2.1 1, .byte), (G.2.1 2, .long), (G.2.1 3, .boolean), (G.2.1 4, .object RX2), (G.2.1 5, .object RX3)]
abbrev KK (G : GT) (U : State) : Prop := va_K G.1 vwCl (TY G) U
abbrev PP (G : GT) (ws : va_W) (H : Heap) : Prop := va_P G.1 vwCl ws H
def up1 (f : Nat → Int) (i : Nat) (v : Int) : Nat → Int := fun j => cond (Nat.beq j i) v (f j)
def up2 (M : Ob) (k i : Nat) (v : Int) : Ob := fun a => cond (Nat.beq a k) (up1 (M a) i v) (M a)
def upA (M : Ob) (k : Nat) (f : Nat → Int) : Ob := fun a => cond (Nat.beq a k) f (M a)
def upO (T : Nat → Ob) (o : Nat) (P : Ob) : Nat → Ob := fun a => cond (Nat.beq a o) P (T a)
abbrev aI (G : GT) (n : Nat) (f : Nat → Int) : va_E := .inl (G.2.1 0, n, .inl (fun j => i32 (f j)))
abbrev aB (G : GT) (n : Nat) (f : Nat → Int) : va_E := .inl (G.2.1 1, n, .inl (fun j => i32 (f j)))
abbrev aJ (G : GT) (n : Nat) (f : Nat → Int) : va_E := .inl (G.2.1 2, n, .inr (.inl (fun j => l64 (f j))))
abbrev aZ (G : GT) (n : Nat) (f : Nat → Int) : va_E := .inl (G.2.1 3, n, .inl (fun j => i32 (f j)))
/-! the pure side: a computation that may have no answer -/
def nm {α β : Type} (e : α) (k : α → β) : β := k e
def bd {α β : Type} (e : Option α) (k : α → Option β) : Option β := match e with
  | some a => k a
  | none => none
def gd {β : Type} (c : Bool) (k : Option β) : Option β := cond c k none
def ix (z : Int) : Nat := (i32 z).toNatClampNeg
def inb (z : Int) (n : Nat) : Bool := !(decide (i32 z < 0) || decide (n ≤ ix z))
def jdv (a b : Int) : Int := (i32 a / i32 b).toInt
def jrm (a b : Int) : Int := (i32 a - i32 a / i32 b * i32 b).toInt
def jan (a b : Int) : Int := (i32 a &&& i32 b).toInt
def jor (a b : Int) : Int := (i32 a ||| i32 b).toInt
def jsl (a b : Int) : Int := (i32 a <<< (i32 b &&& 31)).toInt
def jsr (a b : Int) : Int := (i32 a >>> (i32 b &&& 31)).toInt
def jus (a b : Int) : Int := ((i32 a).toUInt32 >>> ((i32 b).toUInt32 &&& Int32.toUInt32 31)).toInt32.toInt
def jb8 (a : Int) : Int := (i32 a).toInt8.toInt32.toInt
def js16 (a : Int) : Int := (i32 a).toInt16.toInt32.toInt
def jwl (a : Int) : Int := (i32 a).toInt64.toInt
def jld (a b : Int) : Int := (l64 a / l64 b).toInt
def jlr (a b : Int) : Int := (l64 a - l64 a / l64 b * l64 b).toInt
def jla (a b : Int) : Int := (l64 a &&& l64 b).toInt
def jlo (a b : Int) : Int := (l64 a ||| l64 b).toInt
def jls (a b : Int) : Int := (l64 a <<< ((i32 b).toInt64 &&& 63)).toInt
def jlsr (a b : Int) : Int := (l64 a >>> ((i32 b).toInt64 &&& 63)).toInt
def jlc (a b : Int) : Int := (lg_cmp (l64 a) (l64 b)).toInt
def jmx (a b : Int) : Int := if i32 a < i32 b then b else a
def jmi (a b : Int) : Int := if i32 b < i32 a then b else a
def jab (a : Int) : Int := if 0 ≤ i32 a then a else 0 - a
def jzb (a : Int) : Int := (vp_nar .boolean (i32 a)).toInt
def jnb (a : Int) : Int := (vp_nar .byte (i32 a)).toInt
def isz (a : Int) : Bool := decide (a = 0) || decide (a = 1)
theorem i32_toInt (x : Int32) : i32 x.toInt = x := Int32.ofInt_toInt x
theorem l64_toInt (x : Int64) : l64 x.toInt = x := Int64.ofInt_toInt x
theorem i32_add (a b : Int) : i32 a + i32 b = i32 (a + b) := (Int32.ofInt_add a b).symm
theorem i32_sub (a b : Int) : i32 a - i32 b = i32 (a - b) := (Int32.ofInt_sub a b).symm
theorem i32_mul (a b : Int) : i32 a * i32 b = i32 (a * b) := (Int32.ofInt_mul a b).symm
theorem i32_neg (a : Int) : -i32 a = i32 (-a) := (Int32.ofInt_neg a).symm
theorem l64_add (a b : Int) : l64 a + l64 b = l64 (a + b) := (Int64.ofInt_add a b).symm
theorem l64_sub (a b : Int) : l64 a - l64 b = l64 (a - b) := (Int64.ofInt_sub a b).symm
theorem l64_mul (a b : Int) : l64 a * l64 b = l64 (a * b) := (Int64.ofInt_mul a b).symm
theorem l64_i (a : Int) : (l64 a).toInt32 = i32 a := by
  apply Int32.toInt_inj.mp
  rw [Int64.toInt_toInt32, Int64.toInt_ofInt, Int32.toInt_ofInt]
  exact Int.bmod_bmod_of_dvd (by decide)
theorem nm_out {α β : Type} {e : α} {k : α → β} {r : β} (h : nm e k = r) : k e = r := h
theorem bd_out {α β : Type} {e : Option α} {k : α → Option β} {r : β} (h : bd e k = some r) : ∃ a, e = some a ∧ k a = some r := by
  cases e with
  | none => cases h
  | some a => exact ⟨a, rfl, h⟩
theorem gd_out {β : Type} {c : Bool} {k : Option β} {r : β} (h : gd c k = some r) : c = true ∧ k = some r := by
  cases c with
  | false => cases h
  | true => exact ⟨rfl, h⟩
theorem inb_in {z : Int} {n : Nat} (h : inb z n = true) : vp_in (i32 z) n := by
  unfold inb at h
  simp only [Bool.not_eq_true', Bool.or_eq_false_iff, decide_eq_false_iff_not] at h
  exact fun q => q.elim h.1 h.2
theorem beq_no {j i : Nat} (h : ¬ j = i) : Nat.beq j i = false := by
  cases hh : Nat.beq j i with
  | false => rfl
  | true => exact absurd (Nat.eq_of_beq_eq_true hh) h
theorem upI_eq (f : Nat → Int) (i : Nat) (v : Int) : upd (fun j => i32 (f j)) i (i32 v) = fun j => i32 (up1 f i v j) := by
  funext j
  unfold upd up1
  by_cases h : j = i
  · subst h; rw [if_pos rfl, Nat.beq_refl]; rfl
  · rw [if_neg h, beq_no h]; rfl
theorem upL_eq (f : Nat → Int) (i : Nat) (v : Int) : vp_updL (fun j => l64 (f j)) i (l64 v) = fun j => l64 (up1 f i v j) := by
  funext j
  unfold vp_updL up1
  by_cases h : j = i
  · subst h; rw [if_pos rfl, Nat.beq_refl]; rfl
  · rw [if_neg h, beq_no h]; rfl
/-- what never changes: the two static rows -/
def wayX (j : Nat) : Int := if j = 1 then 1 else if j = 3 then -1 else 0
def wayY (j : Nat) : Int := if j = 0 then -1 else if j = 2 then 1 else 0
def isNest : Cond → Bool
  | .fieldLinkNest .. => true
  | .methodLinkNest .. => true
  | _ => false
theorem nest_warm {w : Cond} (hw : isNest w = true) {s U : State} (hW : s.WarmedH U.vm) (h : va_Nw w s) : va_Nw w U := by
  cases w <;> first | (exact va_Nw.warmF hW h) | (exact va_Nw.warmM hW h) | (cases hw)
theorem nest_same {w : Cond} (hw : isNest w = true) {s U : State} (hv : s.vm = U.vm) (h : va_Nw w s) : va_Nw w U := by
  cases w <;> first | (exact va_Nw.same rfl hv h) | (cases hw)
/-- the words of the text, by their numbers -/
def wlenT : List Nat := [2, 5, 4, 4, 4, 3, 3, 4, 4, 4, 4, 5, 4, 6, 5, 4, 4, 4]
def wchT : List (List Int) := [[97, 116], [99, 108, 105, 109, 98], [100, 114, 97, 103], [104, 97, 108, 102], [104, 105, 103, 104], [106, 101, 116], [108, 97, 103], [108, 111, 110, 103], [109, 111, 115, 116], [114, 111, 97, 100], [114, 117, 108, 101], [115, 104, 97, 114, 101], [115, 105, 122, 101], [115, 113, 117, 97, 114, 101], [116, 97, 98, 108, 101], [118, 97, 110, 101], [119, 105, 100, 101], [119, 105, 110, 100]]
def wlen (w : Nat) : Nat := wlenT.getD w 0
def wch (w j : Nat) : Int := (wchT.getD w []).getD j 0
def strT : List (String × Nat × String × Nat) := [("TableNine$Teller", 58, "jet", 5), ("TableNine$Teller", 67, "size", 12), ("TableNine$Teller", 72, "table", 14), ("TableNine$Teller", 77, "road", 9), ("TableNine$Teller", 82, "vane", 15), ("TableNine$Teller", 87, "rule", 10), ("TableNine$Teller", 99, "square", 13), ("TableNine$Teller", 105, "wide", 16), ("TableNine$Teller", 113, "long", 7), ("TableNine$Teller", 137, "at", 0), ("TableNine$Teller", 139, "half", 3), ("TableNine$Teller", 140, "high", 4), ("TableNine$Teller", 144, "drag", 2), ("TableNine$Teller", 149, "share", 11), ("TableNine$Teller", 162, "most", 8), ("TableNine$Teller", 169, "lag", 6), ("TableNine$Teller", 173, "climb", 1), ("TableNine$Teller", 177, "wind", 17), ("TableNineModel", 153, "square", 13), ("TableNineModel", 155, "wide", 16), ("TableNineModel", 161, "long", 7), ("TableNineModel", 163, "at", 0), ("TableNineModel", 164, "half", 3), ("TableNineModel", 166, "high", 4), ("TableNineModel", 168, "drag", 2), ("TableNineModel", 170, "share", 11), ("TableNineModel", 172, "most", 8), ("TableNineModel", 174, "wind", 17), ("TableNineModel", 176, "jet", 5), ("TableNineModel", 178, "size", 12), ("TableNineModel", 179, "table", 14), ("TableNineModel", 181, "road", 9), ("TableNineModel", 183, "vane", 15), ("TableNineModel", 185, "rule", 10), ("TableNineModel", 199, "lag", 6), ("TableNineModel", 201, "climb", 1)]
def SW (G : GT) (A : Nat → Prop) (U : State) (H : Heap) (i : Nat) : Prop := va_O "java/lang/String" (G.2.2.2.1 i) A U H ∧ va_OF "java/lang/String" "coder" "B" (.int 0) (G.2.2.2.1 i) A U H ∧ va_OF "java/lang/String" "value" "[B" (.ref (G.2.2.2.2 i)) (G.2.2.2.1 i) A U H ∧ va_T .byte (G.2.2.2.2 i) (wlen i) (fun j => vi (wch i j)) A U H
def S8 (G : GT) (A : Nat → Prop) (U : State) (H : Heap) : Prop := (∀ i, i < 18 → SW G A U H i) ∧ va_Z "java/lang/String" "COMPACT_STRINGS" "Z" (.int 1) A U H ∧ va_Zq "jdk/internal/util/Preconditions" "SIOOBE_FORMATTER" "Ljava/util/function/BiFunction;" A U H
def S9 (G : GT) (U : State) : Prop := ∀ q ∈ strT, vk_R q.1 q.2.1 q.2.2.1 (G.2.2.2.1 q.2.2.2) U
theorem S8.moved {G : GT} {A : Nat → Prop} {u U : State} {H : Heap} (e : u.vm.Alike U.vm) (h : S8 G A u H) : S8 G A U H := ⟨fun i hi => ⟨(h.1 i hi).1.moved e, (h.1 i hi).2.1.moved e, (h.1 i hi).2.2.1.moved e, (h.1 i hi).2.2.2.moved e⟩, h.2.1.moved e, h.2.2.moved e⟩
theorem S8.kept {G : GT} {A : Nat → Prop} {U : State} {H H1 : Heap} (h : S8 G A U H) (hq : ∀ a : Nat, a < H.size → ¬ A a → H1[a]? = H[a]?) : S8 G A U H1 := ⟨fun i hi => ⟨(h.1 i hi).1.kept hq, (h.1 i hi).2.1.kept hq, (h.1 i hi).2.2.1.kept hq, (h.1 i hi).2.2.2.kept hq⟩, h.2.1.kept hq, h.2.2.kept hq⟩
theorem S8.narrow {G : GT} {A B : Nat → Prop} {U : State} {H : Heap} (h : S8 G A U H) (hAB : ∀ q, B q → A q) : S8 G B U H := ⟨fun i hi => ⟨(h.1 i hi).1.narrow hAB, (h.1 i hi).2.1.narrow hAB, (h.1 i hi).2.2.1.narrow hAB, (h.1 i hi).2.2.2.narrow hAB⟩, h.2.1.narrow hAB, h.2.2.narrow hAB⟩
def SF (G : GT) (A : Nat → Prop) (U : State) (H : Heap) : Prop :=
  va_Z "TableNine" "WAY_X" "[I" (.ref (G.2.2.1 0)) A U H ∧ va_T .int (G.2.2.1 0) 4 (fun j => vi (wayX j)) A U H ∧
  va_Z "TableNine" "WAY_Y" "[I" (.ref (G.2.2.1 1)) A U H ∧ va_T .int (G.2.2.1 1) 4 (fun j => vi (wayY j)) A U H ∧
  (∀ w ∈ lw_tbl, isNest w = true → va_Nw w U) ∧ S8 G A U H ∧ S9 G U ∧ va_AO RX2 U ∧ va_AO RX3 U
theorem SF.moved {G : GT} {A : Nat → Prop} {u U : State} {H : Heap} (hvm : u.WarmedH U.vm) (h : SF G A u H) : SF G A U H := ⟨h.1.moved hvm.alike, h.2.1.moved hvm.alike, h.2.2.1.moved hvm.alike, h.2.2.2.1.moved hvm.alike, fun w hw hn => nest_warm hn hvm (h.2.2.2.2.1 w hw hn), h.2.2.2.2.2.1.moved hvm.alike, fun q hq => vk_R.warm hvm (h.2.2.2.2.2.2.1 q hq), va_AO.moved hvm.alike h.2.2.2.2.2.2.2.1, va_AO.moved hvm.alike h.2.2.2.2.2.2.2.2⟩
theorem SF.same {G : GT} {A : Nat → Prop} {u U : State} {H : Heap} (hvm : U.vm = u.vm) (h : SF G A u H) : SF G A U H :=
  have e : u.vm.Alike U.vm := by rw [hvm]; exact Vm.Alike.refl u.vm
  ⟨h.1.moved e, h.2.1.moved e, h.2.2.1.moved e, h.2.2.2.1.moved e, fun w hw hn => nest_same hn hvm.symm (h.2.2.2.2.1 w hw hn), h.2.2.2.2.2.1.moved e, fun q hq => vk_R.same hvm (h.2.2.2.2.2.2.1 q hq), va_AO.moved e h.2.2.2.2.2.2.2.1, va_AO.moved e h.2.2.2.2.2.2.2.2⟩
theorem SF.kept {G : GT} {A : Nat → Prop} {U : State} {H H1 : Heap} (h : SF G A U H) (hq : ∀ a : Nat, a < H.size → ¬ A a → H1[a]? = H[a]?) : SF G A U H1 := ⟨h.1.kept hq, h.2.1.kept hq, h.2.2.1.kept hq, h.2.2.2.1.kept hq, h.2.2.2.2.1, h.2.2.2.2.2.1.kept hq, h.2.2.2.2.2.2⟩
theorem SF.narrow {G : GT} {A B : Nat → Prop} {U : State} {H : Heap} (h : SF G A U H) (hAB : ∀ q, B q → A q) : SF G B U H := ⟨h.1.narrow hAB, h.2.1.narrow hAB, h.2.2.1.narrow hAB, h.2.2.2.1.narrow hAB, h.2.2.2.2.1, h.2.2.2.2.2.1.narrow hAB, h.2.2.2.2.2.2⟩
/-- the place where a method stands: program, launch, env, room, state, method, args, below, meth, code, A -/
abbrev Kx : Type := Program × Launch × Env × Room × State × MethodId × Array Value × List Frame × Method × Code × (Nat → Prop)
def Cx (κ : Kx) (G : GT) (y : MethodName) (cc : ByteArray) (ret : Option FieldType) (nL : Nat) (rm : Room) : Prop :=
  κ.1.tables.exec = Jvm.exec ∧ κ.2.2.2.2.2.2.2.2.2.1.code = cc ∧ κ.2.2.2.2.2.2.2.2.2.1.maxLocals = nL ∧ κ.2.2.2.2.1.vm.findClass y.cls = some κ.2.2.2.2.2.1.cls ∧ (∀ w ∈ UW, w.before κ.2.2.2.2.2.2.1 κ.2.2.2.2.1 = true) ∧
  κ.2.2.2.2.2.2.2.2.1.sig.returnType = ret ∧ κ.2.2.2.2.2.2.2.2.1.locks = false ∧ κ.2.2.2.2.2.2.2.2.1.name = y.name ∧ KK G κ.2.2.2.2.1 ∧ (∀ q, κ.2.2.2.2.1.heap.size ≤ q → κ.2.2.2.2.2.2.2.2.2.2 q) ∧ SF G κ.2.2.2.2.2.2.2.2.2.2 κ.2.2.2.2.1 κ.2.2.2.2.1.heap ∧ κ.2.2.2.1 = rm
abbrev Wx (κ : Kx) (H : Heap) (locs : List Loc) (a b : Nat) (Q : State → Prop) (g : JFrame) : Prop := W κ.1 κ.2.1 κ.2.2.1 κ.2.2.2.1 κ.2.2.2.2.1 κ.2.2.2.2.2.1 κ.2.2.2.2.2.2.1 κ.2.2.2.2.2.2.2.1 κ.2.2.2.2.2.2.2.2.1 κ.2.2.2.2.2.2.2.2.2.1 H locs a b Q g
/-- at pc, with the cells ws, the locals lv and the stack st, the machine comes to Q -/
def X (κ : Kx) (G : GT) (nL : Nat) (ws : va_W) (pc : Nat) (lv : List (Nat × Value)) (st : List Value) (a b : Nat) (Q : State → Prop) : Prop :=
  ∀ (H : Heap) (locs : List Loc) (ls : Array Slot), PP G ws H → va_D κ.2.2.2.2.2.2.2.2.2.2 ws → va_S κ.2.2.2.2.2.2.2.2.2.2 κ.2.2.2.2.1.heap H locs → lv_has ls nL lv → Wx κ H locs a b Q (F0 κ.2.2.2.2.2.1 pc ls st)
/-- a method's end -/
def CQ (G : GT) (A : Nat → Prop) (W1 : va_W) (Rv : Option Value) : Array Value → State → Outcome → State → Prop := fun _ st o t => o = .returned Rv ∧ (PP G W1 t.heap ∧ KK G t ∧ va_D A W1) ∧ va_F A st t
def QM (κ : Kx) (G : GT) (W1 : va_W) (Rv : Option Value) (mc ms : Nat) : State → Prop := MQ κ.2.2.2.2.2.2.2.1 (CQ G κ.2.2.2.2.2.2.2.2.2.2 W1 Rv) κ.2.2.2.2.2.2.1 κ.2.2.2.2.1 mc ms κ.2.2.2.2.2.2.2.2.2.2
def CP (G : GT) (as : List Value) (W0 : va_W) (sz : Nat) : Array Value → State → Prop := va_Pc as (fun U => U.heap.size = sz ∧ PP G W0 U.heap ∧ KK G U ∧ va_D (fun _ => True) W0 ∧ SF G (va_A W0 sz) U U.heap)
/-- a method's contract: from the cells W0, with these arguments, it answers Rv and leaves W1 -/
def CT (l : Launch) (G : GT) (y : MethodName) (cc : ByteArray) (nL : Nat) (ret : Option FieldType) (rm : Room) (as : List Value) (W0 W1 : va_W) (Rv : Option Value) : Prop :=
  ∀ sz, Met l y (Cond.code y cc nL ret :: UW) rm (CP G as W0 sz) (CQ G (va_A W0 sz) W1 Rv) rm.cells rm.slots (va_A W0 sz)
theorem CP.blind {G : GT} {as : List Value} {W0 : va_W} {sz : Nat} : FrameBlind (CP G as W0 sz) := by
  intro a U g mk q
  obtain ⟨q0, q1, qP, qK, qD, qS⟩ := q
  exact ⟨q0, q1, qP, va_K.moved (u := U) (U := U.calling g mk a) (Vm.Alike.refl U.vm) qK, qD, SF.same (u := U) (U := U.calling g mk a) rfl qS⟩
theorem CT.of {l : Launch} {G : GT} {y : MethodName} {rm : Room} {as : List Value} {W0 W1 : va_W} {Rv : Option Value} {cc : ByteArray} {nL : Nat} {ret : Option FieldType} {lv : List (Nat × Value)}
    (hy : plainName y.cls = true) (hn : (lg_sl as).length ≤ nL) (hl : lv_args 0 as = lv)
    (body : ∀ κ : Kx, κ.2.1 = l → Cx κ G y cc ret nL rm → X κ G nL W0 0 lv [] 0 0 (QM κ G W1 Rv rm.cells rm.slots)) : CT l G y cc nL ret rm as W0 W1 Rv := by
  intro sz
  refine Met.ofW (cc := cc) (maxL := nL) (ret := ret) hy rfl ?_
  intro p e s m args below meth c s₁ B hml hv
  obtain ⟨rfl, hsz, hP, hK, hD0, hSF⟩ := hv
  subst hsz
  have hD := hD0.self (sz := s.heap.size)
  have hl' := lv_entry as (n := nL) hn
  rw [lg_entry_eq]
  have hts := atoms_spec (ws := Cond.code y cc nL ret :: UW) B.pre
  have K := body (p, l, e, (headSpec (Cond.code y cc nL ret :: UW) rm).room, s, m, as.toArray, below, meth, c, va_A W0 s.heap.size) rfl ⟨B.exec, B.bytes, hml, findClass_of_methodNamed B.named, fun w h => hts w (List.mem_cons_of_mem _ h), B.returns, B.notSynchronized, (name_of_methodNamed B.named B.method).1, hK, fun q h => Or.inr h, hSF, rfl⟩
  rw [hl] at hl'
  exact K s.heap [] _ hP hD va_S.rf hl'
section
variable {κ : Kx} {G : GT} {y : MethodName} {cc : ByteArray} {ret : Option FieldType} {nL : Nat} {rm : Room} {ws : va_W} {pc : Nat} {lv : List (Nat × Value)} {st : List Value} {a b : Nat} {Q : State → Prop}
theorem Cx.ex (C : Cx κ G y cc ret nL rm) : κ.1.tables.exec = Jvm.exec := C.1
theorem Cx.cd (C : Cx κ G y cc ret nL rm) : κ.2.2.2.2.2.2.2.2.2.1.code = cc := C.2.1
theorem Cx.ml (C : Cx κ G y cc ret nL rm) : κ.2.2.2.2.2.2.2.2.2.1.maxLocals = nL := C.2.2.1
theorem Cx.own (C : Cx κ G y cc ret nL rm) : κ.2.2.2.2.1.vm.findClass y.cls = some κ.2.2.2.2.2.1.cls := C.2.2.2.1
theorem Cx.ts (C : Cx κ G y cc ret nL rm) : ∀ w ∈ UW, w.before κ.2.2.2.2.2.2.1 κ.2.2.2.2.1 = true := C.2.2.2.2.1
theorem Cx.rt (C : Cx κ G y cc ret nL rm) : κ.2.2.2.2.2.2.2.2.1.sig.returnType = ret := C.2.2.2.2.2.1
theorem Cx.lk (C : Cx κ G y cc ret nL rm) : κ.2.2.2.2.2.2.2.2.1.locks = false := C.2.2.2.2.2.2.1
theorem Cx.nme (C : Cx κ G y cc ret nL rm) : κ.2.2.2.2.2.2.2.2.1.name = y.name := C.2.2.2.2.2.2.2.1
theorem Cx.kk (C : Cx κ G y cc ret nL rm) : KK G κ.2.2.2.2.1 := C.2.2.2.2.2.2.2.2.1
theorem Cx.new (C : Cx κ G y cc ret nL rm) : ∀ q, κ.2.2.2.2.1.heap.size ≤ q → κ.2.2.2.2.2.2.2.2.2.2 q := C.2.2.2.2.2.2.2.2.2.1
theorem Cx.sf (C : Cx κ G y cc ret nL rm) : SF G κ.2.2.2.2.2.2.2.2.2.2 κ.2.2.2.2.1 κ.2.2.2.2.1.heap := C.2.2.2.2.2.2.2.2.2.2.1
theorem Cx.room (C : Cx κ G y cc ret nL rm) : κ.2.2.2.1 = rm := C.2.2.2.2.2.2.2.2.2.2.2
theorem X.iconst {n : Int} (C : Cx κ G y cc ret nL rm) (hd : decode cc pc = .ok (.iconst n, 1)) (k : X κ G nL ws (pc + 1) lv (vi n :: st) a b Q) : X κ G nL ws pc lv (st) a b Q := fun H locs ls hP hD hS hl => lv_iconst C.ex C.cd hd rfl (k H locs ls hP hD hS hl)
theorem X.bipush {n : Int} (C : Cx κ G y cc ret nL rm) (hd : decode cc pc = .ok (.bipush n, 2)) (hn : (Int8.ofInt n).toInt32 = i32 n) (k : X κ G nL ws (pc + 2) lv (vi n :: st) a b Q) : X κ G nL ws pc lv (st) a b Q := fun H locs ls hP hD hS hl => lv_bipush C.ex C.cd hd hn (k H locs ls hP hD hS hl)
theorem X.sipush {n : Int} (C : Cx κ G y cc ret nL rm) (hd : decode cc pc = .ok (.sipush n, 3)) (hn : (Int16.ofInt n).toInt32 = i32 n) (k : X κ G nL ws (pc + 3) lv (vi n :: st) a b Q) : X κ G nL ws pc lv (st) a b Q := fun H locs ls hP hD hS hl => lv_sipush C.ex C.cd hd hn (k H locs ls hP hD hS hl)
theorem X.lconst {n : Fin 2} {z : Int} (C : Cx κ G y cc ret nL rm) (hd : decode cc pc = .ok (.lconst n, 1)) (hz : Int64.ofNat (n : Nat) = l64 z) (k : X κ G nL ws (pc + 1) lv (vl z :: st) a b Q) : X κ G nL ws pc lv (st) a b Q := fun H locs ls hP hD hS hl => lv_lconst C.ex C.cd hd hz (k H locs ls hP hD hS hl)
theorem X.ldc {i : Nat} {v : Int32} {z : Int} (C : Cx κ G y cc ret nL rm) (hw : Cond.constant y.cls i v ∈ UW) (hz : v = i32 z) (hd : decode cc pc = .ok (.ldc i, 2)) (k : X κ G nL ws (pc + 2) lv (vi z :: st) a b Q) : X κ G nL ws pc lv (st) a b Q := fun H locs ls hP hD hS hl => lv_ldc C.ex C.cd C.own (C.ts _ hw) hd (by subst hz; exact (k H locs ls hP hD hS hl))
theorem X.ldc2 {i : Nat} {v : Int64} {z : Int} (C : Cx κ G y cc ret nL rm) (hw : Cond.constantLong y.cls i v ∈ UW) (hz : v = l64 z) (hd : decode cc pc = .ok (.ldc2_w i, 3)) (k : X κ G nL ws (pc + 3) lv (vl z :: st) a b Q) : X κ G nL ws pc lv (st) a b Q := fun H locs ls hP hD hS hl => lv_ldc2 C.ex C.cd C.own (C.ts _ hw) hd (by subst hz; exact (k H locs ls hP hD hS hl))
theorem X.ldc_w {i : Nat} {v : Int32} {z : Int} (C : Cx κ G y cc ret nL rm) (hw : Cond.constant y.cls i v ∈ UW) (hz : v = i32 z) (hd : decode cc pc = .ok (.ldc_w i, 3)) (k : X κ G nL ws (pc + 3) lv (vi z :: st) a b Q) : X κ G nL ws pc lv (st) a b Q := fun H locs ls hP hD hS hl => lv_ldcw C.ex C.cd C.own (C.ts _ hw) hd (by subst hz; exact (k H locs ls hP hD hS hl))
theorem X.ldcS {q : String × Nat × String × Nat} (C : Cx κ G y cc ret nL rm) (hq : q ∈ strT) (ho : q.1 = y.cls) (hd : decode cc pc = .ok (.ldc q.2.1, 2)) (k : X κ G nL ws (pc + 2) lv (.ref (G.2.2.2.1 q.2.2.2) :: st) a b Q) : X κ G nL ws pc lv (st) a b Q := fun H locs ls hP hD hS hl => va_ldcS C.ex C.cd (by rw [ho]; exact C.own) (C.sf.2.2.2.2.2.2.1 q hq) hd (k H locs ls hP hD hS hl)
theorem X.iload_n {j : Fin 4} {i : Nat} {x : Int32} (C : Cx κ G y cc ret nL rm) (hd : decode cc pc = .ok (.iload_n j, 1)) (hi : (j : Nat) = i) (p : Nat) (hp : lv[p]? = some (i, .int x)) (k : X κ G nL ws (pc + 1) lv (.int x :: st) a b Q) : X κ G nL ws pc lv (st) a b Q := fun H locs ls hP hD hS hl => lv_iload_n C.ex C.cd hd hi (lv_at hl p hp) (k H locs ls hP hD hS hl)
theorem X.iload {i : Nat} {x : Int32} (C : Cx κ G y cc ret nL rm) (hd : decode cc pc = .ok (.iload i, 2)) (p : Nat) (hp : lv[p]? = some (i, .int x)) (k : X κ G nL ws (pc + 2) lv (.int x :: st) a b Q) : X κ G nL ws pc lv (st) a b Q := fun H locs ls hP hD hS hl => lv_iload C.ex C.cd hd (lv_at hl p hp) (k H locs ls hP hD hS hl)
theorem X.lload_n {j : Fin 4} {i : Nat} {x : Int64} (C : Cx κ G y cc ret nL rm) (hd : decode cc pc = .ok (.lload_n j, 1)) (hi : (j : Nat) = i) (p : Nat) (hp : lv[p]? = some (i, .long x)) (k : X κ G nL ws (pc + 1) lv (.long x :: st) a b Q) : X κ G nL ws pc lv (st) a b Q := fun H locs ls hP hD hS hl => lv_lload_n C.ex C.cd hd hi (lv_at hl p hp) (k H locs ls hP hD hS hl)
theorem X.lload {i : Nat} {x : Int64} (C : Cx κ G y cc ret nL rm) (hd : decode cc pc = .ok (.lload i, 2)) (p : Nat) (hp : lv[p]? = some (i, .long x)) (k : X κ G nL ws (pc + 2) lv (.long x :: st) a b Q) : X κ G nL ws pc lv (st) a b Q := fun H locs ls hP hD hS hl => lv_lload C.ex C.cd hd (lv_at hl p hp) (k H locs ls hP hD hS hl)
theorem X.aload_n {j : Fin 4} {i : Nat} {x : Nat} (C : Cx κ G y cc ret nL rm) (hd : decode cc pc = .ok (.aload_n j, 1)) (hi : (j : Nat) = i) (p : Nat) (hp : lv[p]? = some (i, .ref x)) (k : X κ G nL ws (pc + 1) lv (.ref x :: st) a b Q) : X κ G nL ws pc lv (st) a b Q := fun H locs ls hP hD hS hl => lv_aload_n C.ex C.cd hd hi (lv_at hl p hp) (k H locs ls hP hD hS hl)
theorem X.aload {i : Nat} {x : Nat} (C : Cx κ G y cc ret nL rm) (hd : decode cc pc = .ok (.aload i, 2)) (p : Nat) (hp : lv[p]? = some (i, .ref x)) (k : X κ G nL ws (pc + 2) lv (.ref x :: st) a b Q) : X κ G nL ws pc lv (st) a b Q := fun H locs ls hP hD hS hl => lv_aload C.ex C.cd hd (lv_at hl p hp) (k H locs ls hP hD hS hl)
theorem X.istore_n {j : Fin 4} {i : Nat} {x : Int} {lv2 : List (Nat × Value)} (C : Cx κ G y cc ret nL rm) (hd : decode cc pc = .ok (.istore_n j, 1)) (hi : (j : Nat) = i) (hn : i < nL) (h2 : (i, vi x) :: lv.filter (fun q => !(q.1 == i) && !(q.1 + 1 == i && q.2.category == 2)) = lv2) (k : X κ G nL ws (pc + 1) lv2 st a b Q) : X κ G nL ws pc lv (vi x :: st) a b Q := fun H locs ls hP hD hS hl => lv_istore_n C.ex C.cd hd hi hl hn h2 (fun ls2 hl2 => k H locs ls2 hP hD hS hl2)
theorem X.istoreN_n {j : Fin 4} {i : Nat} {β : Type} {x : Int} {f : Int → Option β} {r : Option β} {lv2 : Int → List (Nat × Value)} (C : Cx κ G y cc ret nL rm) (h : nm x f = r) (hd : decode cc pc = .ok (.istore_n j, 1)) (hi : (j : Nat) = i) (hn : i < nL) (h2 : ∀ x, (i, vi x) :: lv.filter (fun q => !(q.1 == i) && !(q.1 + 1 == i && q.2.category == 2)) = lv2 x) (k : ∀ x : Int, f x = r → X κ G nL ws (pc + 1) (lv2 x) st a b Q) : X κ G nL ws pc lv (vi x :: st) a b Q := fun H locs ls hP hD hS hl => lv_istore_n C.ex C.cd hd hi hl hn (h2 x) (fun ls2 hl2 => k x h H locs ls2 hP hD hS hl2)
theorem X.istore {i : Nat} {x : Int} {lv2 : List (Nat × Value)} (C : Cx κ G y cc ret nL rm) (hd : decode cc pc = .ok (.istore i, 2)) (hn : i < nL) (h2 : (i, vi x) :: lv.filter (fun q => !(q.1 == i) && !(q.1 + 1 == i && q.2.category == 2)) = lv2) (k : X κ G nL ws (pc + 2) lv2 st a b Q) : X κ G nL ws pc lv (vi x :: st) a b Q := fun H locs ls hP hD hS hl => lv_istore C.ex C.cd hd hl hn h2 (fun ls2 hl2 => k H locs ls2 hP hD hS hl2)
theorem X.istoreN {i : Nat} {β : Type} {x : Int} {f : Int → Option β} {r : Option β} {lv2 : Int → List (Nat × Value)} (C : Cx κ G y cc ret nL rm) (h : nm x f = r) (hd : decode cc pc = .ok (.istore i, 2)) (hn : i < nL) (h2 : ∀ x, (i, vi x) :: lv.filter (fun q => !(q.1 == i) && !(q.1 + 1 == i && q.2.category == 2)) = lv2 x) (k : ∀ x : Int, f x = r → X κ G nL ws (pc + 2) (lv2 x) st a b Q) : X κ G nL ws pc lv (vi x :: st) a b Q := fun H locs ls hP hD hS hl => lv_istore C.ex C.cd hd hl hn (h2 x) (fun ls2 hl2 => k x h H locs ls2 hP hD hS hl2)
theorem X.lstore_n {j : Fin 4} {i : Nat} {x : Int} {lv2 : List (Nat × Value)} (C : Cx κ G y cc ret nL rm) (hd : decode cc pc = .ok (.lstore_n j, 1)) (hi : (j : Nat) = i) (hn : i + 1 < nL) (h2 : (i, vl x) :: lv.filter (fun q => !(q.1 == i) && (!(q.1 == i + 1) && !(q.1 + 1 == i && q.2.category == 2))) = lv2) (k : X κ G nL ws (pc + 1) lv2 st a b Q) : X κ G nL ws pc lv (vl x :: st) a b Q := fun H locs ls hP hD hS hl => lv_lstore_n C.ex C.cd hd hi hl hn h2 (fun ls2 hl2 => k H locs ls2 hP hD hS hl2)
theorem X.lstoreN_n {j : Fin 4} {i : Nat} {β : Type} {x : Int} {f : Int → Option β} {r : Option β} {lv2 : Int → List (Nat × Value)} (C : Cx κ G y cc ret nL rm) (h : nm x f = r) (hd : decode cc pc = .ok (.lstore_n j, 1)) (hi : (j : Nat) = i) (hn : i + 1 < nL) (h2 : ∀ x, (i, vl x) :: lv.filter (fun q => !(q.1 == i) && (!(q.1 == i + 1) && !(q.1 + 1 == i && q.2.category == 2))) = lv2 x) (k : ∀ x : Int, f x = r → X κ G nL ws (pc + 1) (lv2 x) st a b Q) : X κ G nL ws pc lv (vl x :: st) a b Q := fun H locs ls hP hD hS hl => lv_lstore_n C.ex C.cd hd hi hl hn (h2 x) (fun ls2 hl2 => k x h H locs ls2 hP hD hS hl2)
theorem X.lstore {i : Nat} {x : Int} {lv2 : List (Nat × Value)} (C : Cx κ G y cc ret nL rm) (hd : decode cc pc = .ok (.lstore i, 2)) (hn : i + 1 < nL) (h2 : (i, vl x) :: lv.filter (fun q => !(q.1 == i) && (!(q.1 == i + 1) && !(q.1 + 1 == i && q.2.category == 2))) = lv2) (k : X κ G nL ws (pc + 2) lv2 st a b Q) : X κ G nL ws pc lv (vl x :: st) a b Q := fun H locs ls hP hD hS hl => lv_lstore C.ex C.cd hd hl hn h2 (fun ls2 hl2 => k H locs ls2 hP hD hS hl2)
theorem X.lstoreN {i : Nat} {β : Type} {x : Int} {f : Int → Option β} {r : Option β} {lv2 : Int → List (Nat × Value)} (C : Cx κ G y cc ret nL rm) (h : nm x f = r) (hd : decode cc pc = .ok (.lstore i, 2)) (hn : i + 1 < nL) (h2 : ∀ x, (i, vl x) :: lv.filter (fun q => !(q.1 == i) && (!(q.1 == i + 1) && !(q.1 + 1 == i && q.2.category == 2))) = lv2 x) (k : ∀ x : Int, f x = r → X κ G nL ws (pc + 2) (lv2 x) st a b Q) : X κ G nL ws pc lv (vl x :: st) a b Q := fun H locs ls hP hD hS hl => lv_lstore C.ex C.cd hd hl hn (h2 x) (fun ls2 hl2 => k x h H locs ls2 hP hD hS hl2)
theorem X.astore_n {j : Fin 4} {i : Nat} {x : Nat} {lv2 : List (Nat × Value)} (C : Cx κ G y cc ret nL rm) (hd : decode cc pc = .ok (.astore_n j, 1)) (hi : (j : Nat) = i) (hn : i < nL) (h2 : (i, .ref x) :: lv.filter (fun q => !(q.1 == i) && !(q.1 + 1 == i && q.2.category == 2)) = lv2) (k : X κ G nL ws (pc + 1) lv2 st a b Q) : X κ G nL ws pc lv (.ref x :: st) a b Q := fun H locs ls hP hD hS hl => lv_astore_n C.ex C.cd hd hi hl hn h2 (fun ls2 hl2 => k H locs ls2 hP hD hS hl2)
theorem X.astore {i : Nat} {x : Nat} {lv2 : List (Nat × Value)} (C : Cx κ G y cc ret nL rm) (hd : decode cc pc = .ok (.astore i, 2)) (hn : i < nL) (h2 : (i, .ref x) :: lv.filter (fun q => !(q.1 == i) && !(q.1 + 1 == i && q.2.category == 2)) = lv2) (k : X κ G nL ws (pc + 2) lv2 st a b Q) : X κ G nL ws pc lv (.ref x :: st) a b Q := fun H locs ls hP hD hS hl => lv_astore C.ex C.cd hd hl hn h2 (fun ls2 hl2 => k H locs ls2 hP hD hS hl2)
theorem X.iincN {i : Nat} {n : Int} {β : Type} {x : Int} {f : Int → Option β} {r : Option β} {lv2 : Int → List (Nat × Value)} (C : Cx κ G y cc ret nL rm) (h : nm (x + n) f = r) (hd : decode cc pc = .ok (.iinc i n, 3)) (p : Nat) (hp : lv[p]? = some (i, vi x)) (hn : i < nL) (h2 : ∀ x, (i, vi x) :: lv.filter (fun q => !(q.1 == i) && !(q.1 + 1 == i && q.2.category == 2)) = lv2 x) (k : ∀ x : Int, f x = r → X κ G nL ws (pc + 3) (lv2 x) st a b Q) : X κ G nL ws pc lv st a b Q := fun H locs ls hP hD hS hl => lv_iinc C.ex C.cd hd hl hp (i32_add x n) hn (h2 (x + n)) (fun ls2 hl2 => k (x + n) h H locs ls2 hP hD hS hl2)
theorem X.iadd {x z : Int} (C : Cx κ G y cc ret nL rm) (hd : decode cc pc = .ok (.iadd, 1)) (k : X κ G nL ws (pc + 1) lv (vi (x + z) :: st) a b Q) : X κ G nL ws pc lv (vi z :: vi x :: st) a b Q := fun H locs ls hP hD hS hl => lv_iadd C.ex C.cd hd (by rw [i32_add]; exact (k H locs ls hP hD hS hl))
theorem X.isub {x z : Int} (C : Cx κ G y cc ret nL rm) (hd : decode cc pc = .ok (.isub, 1)) (k : X κ G nL ws (pc + 1) lv (vi (x - z) :: st) a b Q) : X κ G nL ws pc lv (vi z :: vi x :: st) a b Q := fun H locs ls hP hD hS hl => lv_isub C.ex C.cd hd (by rw [i32_sub]; exact (k H locs ls hP hD hS hl))
theorem X.imul {x z : Int} (C : Cx κ G y cc ret nL rm) (hd : decode cc pc = .ok (.imul, 1)) (k : X κ G nL ws (pc + 1) lv (vi (x * z) :: st) a b Q) : X κ G nL ws pc lv (vi z :: vi x :: st) a b Q := fun H locs ls hP hD hS hl => lv_imul C.ex C.cd hd (by rw [i32_mul]; exact (k H locs ls hP hD hS hl))
theorem X.ladd {x z : Int} (C : Cx κ G y cc ret nL rm) (hd : decode cc pc = .ok (.ladd, 1)) (k : X κ G nL ws (pc + 1) lv (vl (x + z) :: st) a b Q) : X κ G nL ws pc lv (vl z :: vl x :: st) a b Q := fun H locs ls hP hD hS hl => lv_ladd C.ex C.cd hd (by rw [l64_add]; exact (k H locs ls hP hD hS hl))
theorem X.lsub {x z : Int} (C : Cx κ G y cc ret nL rm) (hd : decode cc pc = .ok (.lsub, 1)) (k : X κ G nL ws (pc + 1) lv (vl (x - z) :: st) a b Q) : X κ G nL ws pc lv (vl z :: vl x :: st) a b Q := fun H locs ls hP hD hS hl => lv_lsub C.ex C.cd hd (by rw [l64_sub]; exact (k H locs ls hP hD hS hl))
theorem X.lmul {x z : Int} (C : Cx κ G y cc ret nL rm) (hd : decode cc pc = .ok (.lmul, 1)) (k : X κ G nL ws (pc + 1) lv (vl (x * z) :: st) a b Q) : X κ G nL ws pc lv (vl z :: vl x :: st) a b Q := fun H locs ls hP hD hS hl => lv_lmul C.ex C.cd hd (by rw [l64_mul]; exact (k H locs ls hP hD hS hl))
theorem X.iand {x z : Int} (C : Cx κ G y cc ret nL rm) (hd : decode cc pc = .ok (.iand, 1)) (k : X κ G nL ws (pc + 1) lv (vi (jan x z) :: st) a b Q) : X κ G nL ws pc lv (vi z :: vi x :: st) a b Q := fun H locs ls hP hD hS hl => lv_iand C.ex C.cd hd (by unfold jan at k; have k2 := (k H locs ls hP hD hS hl); rw [vi, Int32.ofInt_toInt] at k2; exact k2)
theorem X.ior {x z : Int} (C : Cx κ G y cc ret nL rm) (hd : decode cc pc = .ok (.ior, 1)) (k : X κ G nL ws (pc + 1) lv (vi (jor x z) :: st) a b Q) : X κ G nL ws pc lv (vi z :: vi x :: st) a b Q := fun H locs ls hP hD hS hl => lv_ior C.ex C.cd hd (by unfold jor at k; have k2 := (k H locs ls hP hD hS hl); rw [vi, Int32.ofInt_toInt] at k2; exact k2)
theorem X.ishl {x z : Int} (C : Cx κ G y cc ret nL rm) (hd : decode cc pc = .ok (.ishl, 1)) (k : X κ G nL ws (pc + 1) lv (vi (jsl x z) :: st) a b Q) : X κ G nL ws pc lv (vi z :: vi x :: st) a b Q := fun H locs ls hP hD hS hl => lv_ishl C.ex C.cd hd (by unfold jsl at k; have k2 := (k H locs ls hP hD hS hl); rw [vi, Int32.ofInt_toInt] at k2; exact k2)
theorem X.ishr {x z : Int} (C : Cx κ G y cc ret nL rm) (hd : decode cc pc = .ok (.ishr, 1)) (k : X κ G nL ws (pc + 1) lv (vi (jsr x z) :: st) a b Q) : X κ G nL ws pc lv (vi z :: vi x :: st) a b Q := fun H locs ls hP hD hS hl => lv_ishr C.ex C.cd hd (by unfold jsr at k; have k2 := (k H locs ls hP hD hS hl); rw [vi, Int32.ofInt_toInt] at k2; exact k2)
theorem X.iushr {x z : Int} (C : Cx κ G y cc ret nL rm) (hd : decode cc pc = .ok (.iushr, 1)) (k : X κ G nL ws (pc + 1) lv (vi (jus x z) :: st) a b Q) : X κ G nL ws pc lv (vi z :: vi x :: st) a b Q := fun H locs ls hP hD hS hl => lv_iushr C.ex C.cd hd (i32_toInt _).symm (k H locs ls hP hD hS hl)
theorem X.idiv {x z : Int} (C : Cx κ G y cc ret nL rm) (hz : ¬ i32 z = 0) (hd : decode cc pc = .ok (.idiv, 1)) (k : X κ G nL ws (pc + 1) lv (vi (jdv x z) :: st) a b Q) : X κ G nL ws pc lv (vi z :: vi x :: st) a b Q := fun H locs ls hP hD hS hl => lv_idiv C.ex C.cd hd hz (by unfold jdv at k; have k2 := (k H locs ls hP hD hS hl); rw [vi, Int32.ofInt_toInt] at k2; exact k2)
theorem X.irem {x z : Int} (C : Cx κ G y cc ret nL rm) (hz : ¬ i32 z = 0) (hd : decode cc pc = .ok (.irem, 1)) (k : X κ G nL ws (pc + 1) lv (vi (jrm x z) :: st) a b Q) : X κ G nL ws pc lv (vi z :: vi x :: st) a b Q := fun H locs ls hP hD hS hl => lv_irem C.ex C.cd hd hz (by unfold jrm at k; have k2 := (k H locs ls hP hD hS hl); rw [vi, Int32.ofInt_toInt] at k2; exact k2)
theorem X.ldiv {x z : Int} (C : Cx κ G y cc ret nL rm) (hz : ¬ l64 z = 0) (hd : decode cc pc = .ok (.ldiv, 1)) (k : X κ G nL ws (pc + 1) lv (vl (jld x z) :: st) a b Q) : X κ G nL ws pc lv (vl z :: vl x :: st) a b Q := fun H locs ls hP hD hS hl => lv_ldiv C.ex C.cd hd hz (by unfold jld at k; have k2 := (k H locs ls hP hD hS hl); rw [vl, Int64.ofInt_toInt] at k2; exact k2)
theorem X.lrem {x z : Int} (C : Cx κ G y cc ret nL rm) (hz : ¬ l64 z = 0) (hd : decode cc pc = .ok (.lrem, 1)) (k : X κ G nL ws (pc + 1) lv (vl (jlr x z) :: st) a b Q) : X κ G nL ws pc lv (vl z :: vl x :: st) a b Q := fun H locs ls hP hD hS hl => lv_lrem C.ex C.cd hd hz (by unfold jlr at k; have k2 := (k H locs ls hP hD hS hl); rw [vl, Int64.ofInt_toInt] at k2; exact k2)
theorem X.land {x z : Int} (C : Cx κ G y cc ret nL rm) (hd : decode cc pc = .ok (.land, 1)) (k : X κ G nL ws (pc + 1) lv (vl (jla x z) :: st) a b Q) : X κ G nL ws pc lv (vl z :: vl x :: st) a b Q := fun H locs ls hP hD hS hl => lv_land C.ex C.cd hd (by unfold jla at k; have k2 := (k H locs ls hP hD hS hl); rw [vl, Int64.ofInt_toInt] at k2; exact k2)
theorem X.lor {x z : Int} (C : Cx κ G y cc ret nL rm) (hd : decode cc pc = .ok (.lor, 1)) (k : X κ G nL ws (pc + 1) lv (vl (jlo x z) :: st) a b Q) : X κ G nL ws pc lv (vl z :: vl x :: st) a b Q := fun H locs ls hP hD hS hl => lv_lor C.ex C.cd hd (by unfold jlo at k; have k2 := (k H locs ls hP hD hS hl); rw [vl, Int64.ofInt_toInt] at k2; exact k2)
theorem X.lshl {x z : Int} (C : Cx κ G y cc ret nL rm) (hd : decode cc pc = .ok (.lshl, 1)) (k : X κ G nL ws (pc + 1) lv (vl (jls x z) :: st) a b Q) : X κ G nL ws pc lv (vi z :: vl x :: st) a b Q := fun H locs ls hP hD hS hl => lv_lshl C.ex C.cd hd (l64_toInt _).symm (k H locs ls hP hD hS hl)
theorem X.lshr {x z : Int} (C : Cx κ G y cc ret nL rm) (hd : decode cc pc = .ok (.lshr, 1)) (k : X κ G nL ws (pc + 1) lv (vl (jlsr x z) :: st) a b Q) : X κ G nL ws pc lv (vi z :: vl x :: st) a b Q := fun H locs ls hP hD hS hl => lv_lshr C.ex C.cd hd (l64_toInt _).symm (k H locs ls hP hD hS hl)
theorem X.lcmp {x z : Int} (C : Cx κ G y cc ret nL rm) (hd : decode cc pc = .ok (.lcmp, 1)) (k : X κ G nL ws (pc + 1) lv (vi (jlc x z) :: st) a b Q) : X κ G nL ws pc lv (vl z :: vl x :: st) a b Q := fun H locs ls hP hD hS hl => W.lcmp C.ex C.cd hd (by unfold jlc at k; have k2 := (k H locs ls hP hD hS hl); rw [vi, Int32.ofInt_toInt] at k2; exact k2)
theorem X.ineg {x : Int} (C : Cx κ G y cc ret nL rm) (hd : decode cc pc = .ok (.ineg, 1)) (k : X κ G nL ws (pc + 1) lv (vi (-x) :: st) a b Q) : X κ G nL ws pc lv (vi x :: st) a b Q := fun H locs ls hP hD hS hl => lv_ineg C.ex C.cd hd (by have k2 := (k H locs ls hP hD hS hl); rw [vi, Int32.ofInt_neg] at k2; exact k2)
theorem X.i2l {x : Int} (C : Cx κ G y cc ret nL rm) (hd : decode cc pc = .ok (.i2l, 1)) (k : X κ G nL ws (pc + 1) lv (vl (jwl x) :: st) a b Q) : X κ G nL ws pc lv (vi x :: st) a b Q := fun H locs ls hP hD hS hl => lv_i2l C.ex C.cd hd (l64_toInt _).symm (k H locs ls hP hD hS hl)
theorem X.l2i {x : Int} (C : Cx κ G y cc ret nL rm) (hd : decode cc pc = .ok (.l2i, 1)) (k : X κ G nL ws (pc + 1) lv (vi x :: st) a b Q) : X κ G nL ws pc lv (vl x :: st) a b Q := fun H locs ls hP hD hS hl => lv_l2i C.ex C.cd hd (l64_i x) (k H locs ls hP hD hS hl)
theorem X.i2b {x : Int} (C : Cx κ G y cc ret nL rm) (hd : decode cc pc = .ok (.i2b, 1)) (k : X κ G nL ws (pc + 1) lv (vi (jb8 x) :: st) a b Q) : X κ G nL ws pc lv (vi x :: st) a b Q := fun H locs ls hP hD hS hl => lv_i2b C.ex C.cd hd (i32_toInt _).symm (k H locs ls hP hD hS hl)
theorem X.i2s {x : Int} (C : Cx κ G y cc ret nL rm) (hd : decode cc pc = .ok (.i2s, 1)) (k : X κ G nL ws (pc + 1) lv (vi (js16 x) :: st) a b Q) : X κ G nL ws pc lv (vi x :: st) a b Q := fun H locs ls hP hD hS hl => lv_i2s C.ex C.cd hd (i32_toInt _).symm (k H locs ls hP hD hS hl)
theorem X.dup {v : Value} (C : Cx κ G y cc ret nL rm) (hd : decode cc pc = .ok (.dup, 1)) (hv : v.category = 1) (k : X κ G nL ws (pc + 1) lv (v :: v :: st) a b Q) : X κ G nL ws pc lv (v :: st) a b Q := fun H locs ls hP hD hS hl => lv_dup C.ex C.cd hd hv (k H locs ls hP hD hS hl)
theorem X.pop {v : Value} (C : Cx κ G y cc ret nL rm) (hd : decode cc pc = .ok (.pop, 1)) (hv : v.category = 1) (k : X κ G nL ws (pc + 1) lv (st) a b Q) : X κ G nL ws pc lv (v :: st) a b Q := fun H locs ls hP hD hS hl => lv_pop C.ex C.cd hd hv (k H locs ls hP hD hS hl)
theorem X.dup_x1 {v w : Value} (C : Cx κ G y cc ret nL rm) (hd : decode cc pc = .ok (.dup_x1, 1)) (hv : v.category = 1) (hw : w.category = 1) (k : X κ G nL ws (pc + 1) lv (v :: w :: v :: st) a b Q) : X κ G nL ws pc lv (v :: w :: st) a b Q := fun H locs ls hP hD hS hl => lv_dup_x1 C.ex C.cd hd hv hw (k H locs ls hP hD hS hl)
theorem X.dup2 {v w : Value} (C : Cx κ G y cc ret nL rm) (hd : decode cc pc = .ok (.dup2, 1)) (hv : v.category = 1) (hw : w.category = 1) (k : X κ G nL ws (pc + 1) lv (v :: w :: v :: w :: st) a b Q) : X κ G nL ws pc lv (v :: w :: st) a b Q := fun H locs ls hP hD hS hl => lv_dup2_11 C.ex C.cd hd hv hw (k H locs ls hP hD hS hl)
def bq {β : Type} (x z : Int) (T F : β) : β := if i32 x = i32 z then T else F
def bl {β : Type} (x z : Int) (T F : β) : β := if i32 x < i32 z then T else F
def be {β : Type} (x z : Int) (T F : β) : β := if i32 x ≤ i32 z then T else F
theorem X.goto {off : Int} {tgt : Nat} (C : Cx κ G y cc ret nL rm) (hd : decode cc pc = .ok (.goto off, 3)) (ht : (pc : Int) + off = (tgt : Int)) (k : X κ G nL ws tgt lv st a b Q) : X κ G nL ws pc lv st a b Q := fun H locs ls hP hD hS hl => lv_goto C.ex C.cd hd ht (k H locs ls hP hD hS hl)
theorem X.icmp_eq {x z : Int} {off : Int} {tgt : Nat} {β : Type} {T F r : Option β} (C : Cx κ G y cc ret nL rm) (h : bq x z T F = r) (hd : decode cc pc = .ok (.if_icmp .eq off, 3)) (ht : (pc : Int) + off = (tgt : Int)) (kt : T = r → X κ G nL ws tgt lv st a b Q) (kf : F = r → X κ G nL ws (pc + 3) lv st a b Q) : X κ G nL ws pc lv (vi z :: vi x :: st) a b Q := fun H locs ls hP hD hS hl => lv_icmp_eq C.ex C.cd hd ht (fun c => kt ((if_pos c).symm.trans h) H locs ls hP hD hS hl) (fun c => kf ((if_neg c).symm.trans h) H locs ls hP hD hS hl)
theorem X.icmp_ne {x z : Int} {off : Int} {tgt : Nat} {β : Type} {T F r : Option β} (C : Cx κ G y cc ret nL rm) (h : bq x z F T = r) (hd : decode cc pc = .ok (.if_icmp .ne off, 3)) (ht : (pc : Int) + off = (tgt : Int)) (kt : T = r → X κ G nL ws tgt lv st a b Q) (kf : F = r → X κ G nL ws (pc + 3) lv st a b Q) : X κ G nL ws pc lv (vi z :: vi x :: st) a b Q := fun H locs ls hP hD hS hl => lv_icmp_ne C.ex C.cd hd ht (fun c => kt ((if_neg c).symm.trans h) H locs ls hP hD hS hl) (fun c => kf ((if_pos c).symm.trans h) H locs ls hP hD hS hl)
theorem X.icmp_lt {x z : Int} {off : Int} {tgt : Nat} {β : Type} {T F r : Option β} (C : Cx κ G y cc ret nL rm) (h : bl x z T F = r) (hd : decode cc pc = .ok (.if_icmp .lt off, 3)) (ht : (pc : Int) + off = (tgt : Int)) (kt : T = r → X κ G nL ws tgt lv st a b Q) (kf : F = r → X κ G nL ws (pc + 3) lv st a b Q) : X κ G nL ws pc lv (vi z :: vi x :: st) a b Q := fun H locs ls hP hD hS hl => lv_icmp_lt C.ex C.cd hd ht (fun c => kt ((if_pos c).symm.trans h) H locs ls hP hD hS hl) (fun c => kf ((if_neg c).symm.trans h) H locs ls hP hD hS hl)
theorem X.icmp_ge {x z : Int} {off : Int} {tgt : Nat} {β : Type} {T F r : Option β} (C : Cx κ G y cc ret nL rm) (h : be z x T F = r) (hd : decode cc pc = .ok (.if_icmp .ge off, 3)) (ht : (pc : Int) + off = (tgt : Int)) (kt : T = r → X κ G nL ws tgt lv st a b Q) (kf : F = r → X κ G nL ws (pc + 3) lv st a b Q) : X κ G nL ws pc lv (vi z :: vi x :: st) a b Q := fun H locs ls hP hD hS hl => lv_icmp_ge C.ex C.cd hd ht (fun c => kt ((if_pos c).symm.trans h) H locs ls hP hD hS hl) (fun c => kf ((if_neg c).symm.trans h) H locs ls hP hD hS hl)
theorem X.icmp_gt {x z : Int} {off : Int} {tgt : Nat} {β : Type} {T F r : Option β} (C : Cx κ G y cc ret nL rm) (h : bl z x T F = r) (hd : decode cc pc = .ok (.if_icmp .gt off, 3)) (ht : (pc : Int) + off = (tgt : Int)) (kt : T = r → X κ G nL ws tgt lv st a b Q) (kf : F = r → X κ G nL ws (pc + 3) lv st a b Q) : X κ G nL ws pc lv (vi z :: vi x :: st) a b Q := fun H locs ls hP hD hS hl => lv_icmp_gt C.ex C.cd hd ht (fun c => kt ((if_pos c).symm.trans h) H locs ls hP hD hS hl) (fun c => kf ((if_neg c).symm.trans h) H locs ls hP hD hS hl)
theorem X.icmp_le {x z : Int} {off : Int} {tgt : Nat} {β : Type} {T F r : Option β} (C : Cx κ G y cc ret nL rm) (h : be x z T F = r) (hd : decode cc pc = .ok (.if_icmp .le off, 3)) (ht : (pc : Int) + off = (tgt : Int)) (kt : T = r → X κ G nL ws tgt lv st a b Q) (kf : F = r → X κ G nL ws (pc + 3) lv st a b Q) : X κ G nL ws pc lv (vi z :: vi x :: st) a b Q := fun H locs ls hP hD hS hl => lv_icmp_le C.ex C.cd hd ht (fun c => kt ((if_pos c).symm.trans h) H locs ls hP hD hS hl) (fun c => kf ((if_neg c).symm.trans h) H locs ls hP hD hS hl)
theorem X.if_eq {x : Int} {off : Int} {tgt : Nat} {β : Type} {T F r : Option β} (C : Cx κ G y cc ret nL rm) (h : bq x 0 T F = r) (hd : decode cc pc = .ok (.ifCond .eq off, 3)) (ht : (pc : Int) + off = (tgt : Int)) (kt : T = r → X κ G nL ws tgt lv st a b Q) (kf : F = r → X κ G nL ws (pc + 3) lv st a b Q) : X κ G nL ws pc lv (vi x :: st) a b Q := fun H locs ls hP hD hS hl => lv_if_eq C.ex C.cd hd ht (fun c => kt ((if_pos c).symm.trans h) H locs ls hP hD hS hl) (fun c => kf ((if_neg c).symm.trans h) H locs ls hP hD hS hl)
theorem X.if_ne {x : Int} {off : Int} {tgt : Nat} {β : Type} {T F r : Option β} (C : Cx κ G y cc ret nL rm) (h : bq x 0 F T = r) (hd : decode cc pc = .ok (.ifCond .ne off, 3)) (ht : (pc : Int) + off = (tgt : Int)) (kt : T = r → X κ G nL ws tgt lv st a b Q) (kf : F = r → X κ G nL ws (pc + 3) lv st a b Q) : X κ G nL ws pc lv (vi x :: st) a b Q := fun H locs ls hP hD hS hl => lv_if_ne C.ex C.cd hd ht (fun c => kt ((if_neg c).symm.trans h) H locs ls hP hD hS hl) (fun c => kf ((if_pos c).symm.trans h) H locs ls hP hD hS hl)
theorem X.if_lt {x : Int} {off : Int} {tgt : Nat} {β : Type} {T F r : Option β} (C : Cx κ G y cc ret nL rm) (h : bl x 0 T F = r) (hd : decode cc pc = .ok (.ifCond .lt off, 3)) (ht : (pc : Int) + off = (tgt : Int)) (kt : T = r → X κ G nL ws tgt lv st a b Q) (kf : F = r → X κ G nL ws (pc + 3) lv st a b Q) : X κ G nL ws pc lv (vi x :: st) a b Q := fun H locs ls hP hD hS hl => lv_if_lt C.ex C.cd hd ht (fun c => kt ((if_pos c).symm.trans h) H locs ls hP hD hS hl) (fun c => kf ((if_neg c).symm.trans h) H locs ls hP hD hS hl)
theorem X.if_ge {x : Int} {off : Int} {tgt : Nat} {β : Type} {T F r : Option β} (C : Cx κ G y cc ret nL rm) (h : be 0 x T F = r) (hd : decode cc pc = .ok (.ifCond .ge off, 3)) (ht : (pc : Int) + off = (tgt : Int)) (kt : T = r → X κ G nL ws tgt lv st a b Q) (kf : F = r → X κ G nL ws (pc + 3) lv st a b Q) : X κ G nL ws pc lv (vi x :: st) a b Q := fun H locs ls hP hD hS hl => lv_if_ge C.ex C.cd hd ht (fun c => kt ((if_pos c).symm.trans h) H locs ls hP hD hS hl) (fun c => kf ((if_neg c).symm.trans h) H locs ls hP hD hS hl)
theorem X.if_gt {x : Int} {off : Int} {tgt : Nat} {β : Type} {T F r : Option β} (C : Cx κ G y cc ret nL rm) (h : bl 0 x T F = r) (hd : decode cc pc = .ok (.ifCond .gt off, 3)) (ht : (pc : Int) + off = (tgt : Int)) (kt : T = r → X κ G nL ws tgt lv st a b Q) (kf : F = r → X κ G nL ws (pc + 3) lv st a b Q) : X κ G nL ws pc lv (vi x :: st) a b Q := fun H locs ls hP hD hS hl => lv_if_gt C.ex C.cd hd ht (fun c => kt ((if_pos c).symm.trans h) H locs ls hP hD hS hl) (fun c => kf ((if_neg c).symm.trans h) H locs ls hP hD hS hl)
theorem X.if_le {x : Int} {off : Int} {tgt : Nat} {β : Type} {T F r : Option β} (C : Cx κ G y cc ret nL rm) (h : be x 0 T F = r) (hd : decode cc pc = .ok (.ifCond .le off, 3)) (ht : (pc : Int) + off = (tgt : Int)) (kt : T = r → X κ G nL ws tgt lv st a b Q) (kf : F = r → X κ G nL ws (pc + 3) lv st a b Q) : X κ G nL ws pc lv (vi x :: st) a b Q := fun H locs ls hP hD hS hl => lv_if_le C.ex C.cd hd ht (fun c => kt ((if_pos c).symm.trans h) H locs ls hP hD hS hl) (fun c => kf ((if_neg c).symm.trans h) H locs ls hP hD hS hl)
theorem X.get {CC : String} {T : u_T} {N ci index : Nat} {ref : String} {fs : List Value} {v : Value} {o : Nat} (C : Cx κ G y cc ret nL rm) (hd : decode cc pc = .ok (.getfield index, 3)) (hin : ∀ w ∈ u_ws CC T N, w ∈ UW) (q0 : Nat) (he : ws[q0]? = some (o, .inr (ci, fs))) (hc : vwCl[ci]? = some (CC, T, N)) (k : Nat) (hk : k < N) (hlink : Cond.fieldLink y.cls index ref (T k).2.1 (T k).2.2.1 ∈ UW) (hr : (T k).1 = ref) (hv : fs[k]? = some v) (kk : X κ G nL ws (pc + 3) lv (v :: st) a b Q) : X κ G nL ws pc lv (.ref o :: st) a b Q := fun H locs ls hP hD hS hl => va_get C.ex C.cd C.ts hin C.own C.kk hP q0 he hc k hk (C.ts _ hlink) (fun _ h9 => by rw [← hr]; exact h9) hv hd (kk H locs ls hP hD hS hl)
theorem X.put {CC : String} {T : u_T} {N ci index : Nat} {ref : String} {fs : List Value} {v : Value} {o : Nat} {ty : FieldType} {ty0 : Nat → FieldType} {ws2 : va_W} (C : Cx κ G y cc ret nL rm) (hd : decode cc pc = .ok (.putfield index, 3)) (hin : ∀ w ∈ u_ws CC T N, w ∈ UW) (hty : ∀ k, k < N → parseFieldDescriptor (T k).2.2.1 = some (ty0 k)) (hnm : ∀ a, a < N → ∀ b, b < N → a ≠ b → (T a).2.1 ≠ (T b).2.1) (q0 : Nat) (he : ws[q0]? = some (o, .inr (ci, fs))) (hc : vwCl[ci]? = some (CC, T, N)) (k : Nat) (hk : k < N) (hlink : Cond.fieldLink y.cls index ref (T k).2.1 (T k).2.2.1 ∈ UW) (hr : (T k).1 = ref) (hfin : (T k).2.2.2 = false) (hdd : parseFieldDescriptor (T k).2.2.1 = some ty) (hn : narrow ty v = v) (hfit : fits ty v = true) (hl0 : k < fs.length) (h2 : ws.set q0 (o, .inr (ci, fs.set k v)) = ws2) (kk : X κ G nL ws2 (pc + 3) lv st a b Q) : X κ G nL ws pc lv (v :: .ref o :: st) a b Q := fun H locs ls hP hD hS hl => va_put C.ex C.cd C.ts hin ty0 hty hnm C.own C.kk hP hD hS q0 he hc k hk (C.ts _ hlink) (fun _ h9 => by rw [← hr]; exact h9) hfin hdd hn hfit hl0 hd (fun H1 locs1 hP1 hD1 hS1 => kk H1 locs1 ls (h2 ▸ hP1) (h2 ▸ hD1) hS1 hl)
theorem X.putF {CC : String} {T : u_T} {N ci index : Nat} {ref : String} {fs : List Value} {v : Value} {o : Nat} {ty : FieldType} {ty0 : Nat → FieldType} {ws2 : va_W} (C : Cx κ G y cc ret nL rm) (hd : decode cc pc = .ok (.putfield index, 3)) (hin : ∀ w ∈ u_ws CC T N, w ∈ UW) (hty : ∀ k, k < N → parseFieldDescriptor (T k).2.2.1 = some (ty0 k)) (hnm : ∀ a, a < N → ∀ b, b < N → a ≠ b → (T a).2.1 ≠ (T b).2.1) (q0 : Nat) (he : ws[q0]? = some (o, .inr (ci, fs))) (hc : vwCl[ci]? = some (CC, T, N)) (k : Nat) (hk : k < N) (hlink : Cond.fieldLink y.cls index ref (T k).2.1 (T k).2.2.1 ∈ UW) (hr : (T k).1 = ref) (hfin : (T k).2.2.2 = true) (hini : y.name = "<init>") (hdecl : (T k).1 = y.cls) (hdd : parseFieldDescriptor (T k).2.2.1 = some ty) (hn : narrow ty v = v) (hfit : fits ty v = true) (hl0 : k < fs.length) (h2 : ws.set q0 (o, .inr (ci, fs.set k v)) = ws2) (kk : X κ G nL ws2 (pc + 3) lv st a b Q) : X κ G nL ws pc lv (v :: .ref o :: st) a b Q := fun H locs ls hP hD hS hl => va_putF C.ex C.cd C.ts hin ty0 hty hnm C.own C.kk hP hD hS q0 he hc k hk (C.ts _ hlink) (fun _ h9 => by rw [← hr]; exact h9) hfin (C.nme.trans hini) hdecl hdd hn hfit hl0 hd (fun H1 locs1 hP1 hD1 hS1 => kk H1 locs1 ls (h2 ▸ hP1) (h2 ▸ hD1) hS1 hl)
theorem X.iald {n o : Nat} {f : Nat → Int} {i : Int} {β : Type} {r : β} {T : Option β} (C : Cx κ G y cc ret nL rm) (h : gd (inb i n) T = some r) (hd : decode cc pc = .ok (.iaload, 1)) (q0 : Nat) (he : ws[q0]? = some (o, aI G n f)) (kk : T = some r → X κ G nL ws (pc + 1) lv (vi (f (ix i)) :: st) a b Q) : X κ G nL ws pc lv (vi i :: .ref o :: st) a b Q := fun H locs ls hP hD hS hl => va_iald C.ex C.cd C.kk hP q0 0 he rfl (inb_in (gd_out h).1) hd (kk (gd_out h).2 H locs ls hP hD hS hl)
theorem X.bald {n o : Nat} {f : Nat → Int} {i : Int} {β : Type} {r : β} {T : Option β} (C : Cx κ G y cc ret nL rm) (h : gd (inb i n) T = some r) (hd : decode cc pc = .ok (.baload, 1)) (q0 : Nat) (he : ws[q0]? = some (o, aB G n f)) (kk : T = some r → X κ G nL ws (pc + 1) lv (vi (f (ix i)) :: st) a b Q) : X κ G nL ws pc lv (vi i :: .ref o :: st) a b Q := fun H locs ls hP hD hS hl => va_bald C.ex C.cd C.kk hP q0 1 he rfl (inb_in (gd_out h).1) hd (kk (gd_out h).2 H locs ls hP hD hS hl)
theorem X.zald {n o : Nat} {f : Nat → Int} {i : Int} {β : Type} {r : β} {T : Option β} (C : Cx κ G y cc ret nL rm) (h : gd (inb i n) T = some r) (hd : decode cc pc = .ok (.baload, 1)) (q0 : Nat) (he : ws[q0]? = some (o, aZ G n f)) (kk : T = some r → X κ G nL ws (pc + 1) lv (vi (f (ix i)) :: st) a b Q) : X κ G nL ws pc lv (vi i :: .ref o :: st) a b Q := fun H locs ls hP hD hS hl => va_zald C.ex C.cd C.kk hP q0 3 he rfl (inb_in (gd_out h).1) hd (kk (gd_out h).2 H locs ls hP hD hS hl)
theorem X.lald {n o : Nat} {f : Nat → Int} {i : Int} {β : Type} {r : β} {T : Option β} (C : Cx κ G y cc ret nL rm) (h : gd (inb i n) T = some r) (hd : decode cc pc = .ok (.laload, 1)) (q0 : Nat) (he : ws[q0]? = some (o, aJ G n f)) (kk : T = some r → X κ G nL ws (pc + 1) lv (vl (f (ix i)) :: st) a b Q) : X κ G nL ws pc lv (vi i :: .ref o :: st) a b Q := fun H locs ls hP hD hS hl => va_lald C.ex C.cd C.kk hP q0 2 he rfl (inb_in (gd_out h).1) hd (kk (gd_out h).2 H locs ls hP hD hS hl)
theorem X.iast {n o : Nat} {f : Nat → Int} {i x : Int} {β : Type} {r : β} {T : Option β} {ws2 : va_W} (C : Cx κ G y cc ret nL rm) (h : gd (inb i n) T = some r) (hd : decode cc pc = .ok (.iastore, 1)) (q0 : Nat) (he : ws[q0]? = some (o, aI G n f)) (h2 : ws.set q0 (o, aI G n (up1 f (ix i) (x))) = ws2) (kk : T = some r → X κ G nL ws2 (pc + 1) lv st a b Q) : X κ G nL ws pc lv (vi x :: vi i :: .ref o :: st) a b Q := fun H locs ls hP hD hS hl => va_iast C.ex C.cd C.kk hP hD hS q0 0 he rfl (inb_in (gd_out h).1) hd (fun H1 locs1 hP1 hD1 hS1 => by
  have e := upI_eq f (ix i) x
  rw [show (i32 i).toNatClampNeg = ix i from rfl, e] at hP1 hD1
  exact kk (gd_out h).2 H1 locs1 ls (h2 ▸ hP1) (h2 ▸ hD1) hS1 hl)
theorem X.bast {n o : Nat} {f : Nat → Int} {i x : Int} {β : Type} {r : β} {T : Option β} {ws2 : va_W} (C : Cx κ G y cc ret nL rm) (h : gd (inb i n) T = some r) (hd : decode cc pc = .ok (.bastore, 1)) (q0 : Nat) (he : ws[q0]? = some (o, aB G n f)) (h2 : ws.set q0 (o, aB G n (up1 f (ix i) (jnb x))) = ws2) (kk : T = some r → X κ G nL ws2 (pc + 1) lv st a b Q) : X κ G nL ws pc lv (vi x :: vi i :: .ref o :: st) a b Q := fun H locs ls hP hD hS hl => va_bast C.ex C.cd C.kk hP hD hS q0 1 he rfl (inb_in (gd_out h).1) hd (fun H1 locs1 hP1 hD1 hS1 => by
  have e := upI_eq f (ix i) (jnb x)
  rw [show i32 (jnb x) = _ from i32_toInt _] at e
  rw [show (i32 i).toNatClampNeg = ix i from rfl, e] at hP1 hD1
  exact kk (gd_out h).2 H1 locs1 ls (h2 ▸ hP1) (h2 ▸ hD1) hS1 hl)
theorem X.zast {n o : Nat} {f : Nat → Int} {i x : Int} {β : Type} {r : β} {T : Option β} {ws2 : va_W} (C : Cx κ G y cc ret nL rm) (h : gd (inb i n) T = some r) (hd : decode cc pc = .ok (.bastore, 1)) (q0 : Nat) (he : ws[q0]? = some (o, aZ G n f)) (h2 : ws.set q0 (o, aZ G n (up1 f (ix i) (jzb x))) = ws2) (kk : T = some r → X κ G nL ws2 (pc + 1) lv st a b Q) : X κ G nL ws pc lv (vi x :: vi i :: .ref o :: st) a b Q := fun H locs ls hP hD hS hl => va_zast C.ex C.cd C.kk hP hD hS q0 3 he rfl (inb_in (gd_out h).1) hd (fun H1 locs1 hP1 hD1 hS1 => by
  have e := upI_eq f (ix i) (jzb x)
  rw [show i32 (jzb x) = _ from i32_toInt _] at e
  rw [show (i32 i).toNatClampNeg = ix i from rfl, e] at hP1 hD1
  exact kk (gd_out h).2 H1 locs1 ls (h2 ▸ hP1) (h2 ▸ hD1) hS1 hl)
theorem X.last {n o : Nat} {f : Nat → Int} {i x : Int} {β : Type} {r : β} {T : Option β} {ws2 : va_W} (C : Cx κ G y cc ret nL rm) (h : gd (inb i n) T = some r) (hd : decode cc pc = .ok (.lastore, 1)) (q0 : Nat) (he : ws[q0]? = some (o, aJ G n f)) (h2 : ws.set q0 (o, aJ G n (up1 f (ix i) (x))) = ws2) (kk : T = some r → X κ G nL ws2 (pc + 1) lv st a b Q) : X κ G nL ws pc lv (vl x :: vi i :: .ref o :: st) a b Q := fun H locs ls hP hD hS hl => va_last C.ex C.cd C.kk hP hD hS q0 2 he rfl (inb_in (gd_out h).1) hd (fun H1 locs1 hP1 hD1 hS1 => by
  have e := upL_eq f (ix i) x
  rw [show (i32 i).toNatClampNeg = ix i from rfl, e] at hP1 hD1
  exact kk (gd_out h).2 H1 locs1 ls (h2 ▸ hP1) (h2 ▸ hD1) hS1 hl)
theorem X.alen {o : Nat} {cA : ClassId} {x : vp_A} {z : Int} {ty : FieldType} (C : Cx κ G y cc ret nL rm) (hd : decode cc pc = .ok (.arraylength, 1)) (q0 t0 : Nat) (he : ws[q0]? = some (o, .inl (cA, x))) (ht : (TY G)[t0]? = some (cA, ty)) (hv : Int32.ofNat x.1 = i32 z) (kk : X κ G nL ws (pc + 1) lv (vi z :: st) a b Q) : X κ G nL ws pc lv (.ref o :: st) a b Q := fun H locs ls hP hD hS hl => va_alen C.ex C.cd C.kk hP q0 t0 he ht hv hd (kk H locs ls hP hD hS hl)
theorem X.getsX {index : Nat} (C : Cx κ G y cc ret nL rm) (hd : decode cc pc = .ok (.getstatic index, 3)) (hlink : Cond.fieldLink y.cls index "TableNine" "WAY_X" "[I" ∈ UW) (kk : X κ G nL ws (pc + 3) lv (.ref (G.2.2.1 0) :: st) a b Q) : X κ G nL ws pc lv st a b Q := fun H locs ls hP hD hS hl => va_gets C.ex C.cd C.sf.1 hS C.own (C.ts _ hlink) (fun _ h => h) hd (kk H locs ls hP hD hS hl)
theorem X.aldX {i : Int} {β : Type} {r : β} {T : Option β} (C : Cx κ G y cc ret nL rm) (h : gd (inb i 4) T = some r) (hd : decode cc pc = .ok (.iaload, 1)) (kk : T = some r → X κ G nL ws (pc + 1) lv (vi (wayX (ix i)) :: st) a b Q) : X κ G nL ws pc lv (vi i :: .ref (G.2.2.1 0) :: st) a b Q := fun H locs ls hP hD hS hl => va_ti C.ex C.cd C.sf.2.1 hS (inb_in (gd_out h).1) rfl hd (kk (gd_out h).2 H locs ls hP hD hS hl)
theorem X.getsY {index : Nat} (C : Cx κ G y cc ret nL rm) (hd : decode cc pc = .ok (.getstatic index, 3)) (hlink : Cond.fieldLink y.cls index "TableNine" "WAY_Y" "[I" ∈ UW) (kk : X κ G nL ws (pc + 3) lv (.ref (G.2.2.1 1) :: st) a b Q) : X κ G nL ws pc lv st a b Q := fun H locs ls hP hD hS hl => va_gets C.ex C.cd C.sf.2.2.1 hS C.own (C.ts _ hlink) (fun _ h => h) hd (kk H locs ls hP hD hS hl)
theorem X.aldY {i : Int} {β : Type} {r : β} {T : Option β} (C : Cx κ G y cc ret nL rm) (h : gd (inb i 4) T = some r) (hd : decode cc pc = .ok (.iaload, 1)) (kk : T = some r → X κ G nL ws (pc + 1) lv (vi (wayY (ix i)) :: st) a b Q) : X κ G nL ws pc lv (vi i :: .ref (G.2.2.1 1) :: st) a b Q := fun H locs ls hP hD hS hl => va_ti C.ex C.cd C.sf.2.2.2.1 hS (inb_in (gd_out h).1) rfl hd (kk (gd_out h).2 H locs ls hP hD hS hl)
theorem X.getsNX {index : Nat} (C : Cx κ G y cc ret nL rm) (hd : decode cc pc = .ok (.getstatic index, 3)) (hlink : Cond.fieldLinkNest y.cls index "TableNine" "WAY_X" "[I" "TableNine" ∈ lw_tbl) (kk : X κ G nL ws (pc + 3) lv (.ref (G.2.2.1 0) :: st) a b Q) : X κ G nL ws pc lv st a b Q := fun H locs ls hP hD hS hl => va_getsN C.ex C.cd C.sf.1 hS C.own (C.sf.2.2.2.2.1 _ hlink rfl) (fun _ h => h) hd (kk H locs ls hP hD hS hl)
theorem X.getsNY {index : Nat} (C : Cx κ G y cc ret nL rm) (hd : decode cc pc = .ok (.getstatic index, 3)) (hlink : Cond.fieldLinkNest y.cls index "TableNine" "WAY_Y" "[I" "TableNine" ∈ lw_tbl) (kk : X κ G nL ws (pc + 3) lv (.ref (G.2.2.1 1) :: st) a b Q) : X κ G nL ws pc lv st a b Q := fun H locs ls hP hD hS hl => va_getsN C.ex C.cd C.sf.2.2.1 hS C.own (C.sf.2.2.2.2.1 _ hlink rfl) (fun _ h => h) hd (kk H locs ls hP hD hS hl)
theorem X.wide {a' b' : Nat} (h1 : a ≤ a') (h2 : b ≤ b') (k : X κ G nL ws pc lv st a' b' Q) : X κ G nL ws pc lv st a b Q := fun H locs ls hP hD hS hl => W.widen h1 h2 (k H locs ls hP hD hS hl)
theorem X.iret {z : Int} {mc ms : Nat} (C : Cx κ G y cc (some .int) nL rm) (hd : decode cc pc = .ok (.ireturn, 1)) (h1 : a ≤ mc) (h2 : b ≤ ms) : X κ G nL ws pc lv [vi z] a b (QM κ G ws (some (vi z)) mc ms) := fun H locs ls hP hD hS hl => W.widen h1 h2 (W.iret C.ex C.cd C.rt (fun t ht hW => ⟨rfl, ⟨by rw [ht]; exact hP, va_K.moved hW.alike C.kk, hD⟩, hS.F ht⟩) hS.2.2 hd C.lk)
theorem X.zret {z : Int} {mc ms : Nat} (C : Cx κ G y cc (some .boolean) nL rm) (hz : isz z = true) (hd : decode cc pc = .ok (.ireturn, 1)) (h1 : a ≤ mc) (h2 : b ≤ ms) : X κ G nL ws pc lv [vi z] a b (QM κ G ws (some (vi z)) mc ms) := fun H locs ls hP hD hS hl => W.widen h1 h2 (W.zret C.ex C.cd C.rt (by
  have h : z = 0 ∨ z = 1 := by simpa [isz] using hz
  rcases h with rfl | rfl <;> decide) (fun t ht hW => ⟨rfl, ⟨by rw [ht]; exact hP, va_K.moved hW.alike C.kk, hD⟩, hS.F ht⟩) hS.2.2 hd C.lk)
theorem X.lret {z : Int} {mc ms : Nat} (C : Cx κ G y cc (some .long) nL rm) (hd : decode cc pc = .ok (.lreturn, 1)) (h1 : a ≤ mc) (h2 : b ≤ ms) : X κ G nL ws pc lv [vl z] a b (QM κ G ws (some (vl z)) mc ms) := fun H locs ls hP hD hS hl => W.widen h1 h2 (W.lret C.ex C.cd C.rt (fun t ht hW => ⟨rfl, ⟨by rw [ht]; exact hP, va_K.moved hW.alike C.kk, hD⟩, hS.F ht⟩) hS.2.2 hd C.lk)
theorem X.vret {mc ms : Nat} (C : Cx κ G y cc none nL rm) (hd : decode cc pc = .ok (.return_, 1)) (h1 : a ≤ mc) (h2 : b ≤ ms) : X κ G nL ws pc lv [] a b (QM κ G ws none mc ms) := fun H locs ls hP hD hS hl => W.widen h1 h2 (W.vret C.ex C.cd C.rt (fun t ht hW => ⟨rfl, ⟨by rw [ht]; exact hP, va_K.moved hW.alike C.kk, hD⟩, hS.F ht⟩) hS.2.2 hd C.lk)
theorem X.sub {lv2 : List (Nat × Value)} (ks : List Nat) (h : lv_pick lv ks = lv2) (k : X κ G nL ws pc lv2 st a b Q) : X κ G nL ws pc lv st a b Q := fun H locs ls hP hD hS hl => k H locs ls hP hD hS (lv_sub hl ks h)
theorem X.mmax {x z : Int} {index : Nat} (C : Cx κ G y cc ret nL rm) (hd : decode cc pc = .ok (.invokestatic index, 3)) (h1 : Cond.methodLink y.cls index Lib.Math.max.name ∈ UW) (h2 : Cond.static Lib.Math.max.name ∈ UW) (h3 : Cond.initialized "java/lang/Math" ∈ UW) (h4 : Cond.code Lib.Math.max.name Lib.Math.max.code 2 (some .int) ∈ UW) (h5 : 1 ≤ rm.frames) (h6 : (st.map fun v => v.category).sum + 13 ≤ rm.locals) (h7 : a ≤ rm.cells) (h8 : b ≤ rm.slots) (k : X κ G nL ws (pc + 3) lv (vi (jmx x z) :: st) a b Q) : X κ G nL ws pc lv (vi z :: vi x :: st) a b Q := fun H locs ls hP hD hS hl => va_mmax C.ex C.cd (C.ml.trans hl.1.symm) C.own (C.ts _ h1) (C.ts _ h2) (C.ts _ h3) (C.ts _ h4) (by rw [C.room]; exact h5) (by rw [C.room]; exact h6) (by rw [C.room]; exact h7) (by rw [C.room]; exact h8) hd (by
  have k2 := (k H locs ls hP hD hS hl)
  unfold jmx at k2
  split at k2 <;> rename_i hc
  · rw [if_pos hc]; exact k2
  · rw [if_neg hc]; exact k2)
theorem X.mmin {x z : Int} {index : Nat} (C : Cx κ G y cc ret nL rm) (hd : decode cc pc = .ok (.invokestatic index, 3)) (h1 : Cond.methodLink y.cls index Lib.Math.min.name ∈ UW) (h2 : Cond.static Lib.Math.min.name ∈ UW) (h3 : Cond.initialized "java/lang/Math" ∈ UW) (h4 : Cond.code Lib.Math.min.name Lib.Math.min.code 2 (some .int) ∈ UW) (h5 : 1 ≤ rm.frames) (h6 : (st.map fun v => v.category).sum + 13 ≤ rm.locals) (h7 : a ≤ rm.cells) (h8 : b ≤ rm.slots) (k : X κ G nL ws (pc + 3) lv (vi (jmi x z) :: st) a b Q) : X κ G nL ws pc lv (vi z :: vi x :: st) a b Q := fun H locs ls hP hD hS hl => va_mmin C.ex C.cd (C.ml.trans hl.1.symm) C.own (C.ts _ h1) (C.ts _ h2) (C.ts _ h3) (C.ts _ h4) (by rw [C.room]; exact h5) (by rw [C.room]; exact h6) (by rw [C.room]; exact h7) (by rw [C.room]; exact h8) hd (by
  have k2 := (k H locs ls hP hD hS hl)
  unfold jmi at k2
  split at k2 <;> rename_i hc
  · rw [if_pos hc]; exact k2
  · rw [if_neg hc]; exact k2)
theorem X.mabs {x : Int} {index : Nat} (C : Cx κ G y cc ret nL rm) (hd : decode cc pc = .ok (.invokestatic index, 3)) (h1 : Cond.methodLink y.cls index Lib.Math.abs.name ∈ UW) (h2 : Cond.static Lib.Math.abs.name ∈ UW) (h3 : Cond.initialized "java/lang/Math" ∈ UW) (h4 : Cond.code Lib.Math.abs.name Lib.Math.abs.code 1 (some .int) ∈ UW) (h5 : 1 ≤ rm.frames) (h6 : (st.map fun v => v.category).sum + 13 ≤ rm.locals) (h7 : a ≤ rm.cells) (h8 : b ≤ rm.slots) (k : X κ G nL ws (pc + 3) lv (vi (jab x) :: st) a b Q) : X κ G nL ws pc lv (vi x :: st) a b Q := fun H locs ls hP hD hS hl => va_mabs C.ex C.cd (C.ml.trans hl.1.symm) C.own (C.ts _ h1) (C.ts _ h2) (C.ts _ h3) (C.ts _ h4) (by rw [C.room]; exact h5) (by rw [C.room]; exact h6) (by rw [C.room]; exact h7) (by rw [C.room]; exact h8) hd (by
  have k2 := (k H locs ls hP hD hS hl)
  unfold jab at k2
  split at k2 <;> rename_i hc
  · rw [if_pos hc]; exact k2
  · rw [if_neg hc, show (0 : Int32) - i32 x = i32 (0 - x) from i32_sub 0 x]; exact k2)
theorem X.tableIn {x : Int} {dflt lo hi : Int} {offs : Array Int} {len : Nat} {off : Int} {tgt : Nat} (C : Cx κ G y cc ret nL rm) (hd : decode cc pc = .ok (.tableswitch dflt lo hi offs, len)) (h1 : ¬ (i32 x).toInt < lo) (h2 : ¬ hi < (i32 x).toInt) (ho : offs[((i32 x).toInt - lo).toNat]? = some off) (ht : (pc : Int) + off = (tgt : Int)) (k : X κ G nL ws tgt lv st a b Q) : X κ G nL ws pc lv (vi x :: st) a b Q := fun H locs ls hP hD hS hl => lv_tableIn C.ex C.cd hd h1 h2 ho ht (k H locs ls hP hD hS hl)
theorem X.tableOut {x : Int} {dflt lo hi : Int} {offs : Array Int} {len : Nat} {tgt : Nat} (C : Cx κ G y cc ret nL rm) (hd : decode cc pc = .ok (.tableswitch dflt lo hi offs, len)) (h : (i32 x).toInt < lo ∨ hi < (i32 x).toInt) (ht : (pc : Int) + dflt = (tgt : Int)) (k : X κ G nL ws tgt lv st a b Q) : X κ G nL ws pc lv (vi x :: st) a b Q := fun H locs ls hP hD hS hl => lv_tableOut C.ex C.cd hd h ht (k H locs ls hP hD hS hl)
end
/-! calls -/
/-- W0 put in place of W1 in ws gives ws2 -/
def Ln (ws W0 W1 ws2 : va_W) : Prop := ∃ (isC isR ps : List Nat) (Wr : va_W), va_nd isC = true ∧ isC.map (fun i => ws[i]?) = W0.map some ∧ isR.map (fun i => ws[i]?) = Wr.map some ∧ va_nd isR = true ∧ (∀ i ∈ isR, i ∉ isC) ∧ ps.map (fun i => (Wr ++ W1)[i]?) = ws2.map some ∧ va_nd ps = true
theorem Ln.of {ws W0 W1 ws2 : va_W} (isC isR ps : List Nat) (Wr : va_W) (h0 : va_nd isC = true) (h1 : isC.map (fun i => ws[i]?) = W0.map some) (h2 : isR.map (fun i => ws[i]?) = Wr.map some) (h3 : va_nd isR = true) (h4 : ∀ i ∈ isR, i ∉ isC) (h5 : ps.map (fun i => (Wr ++ W1)[i]?) = ws2.map some) (h6 : va_nd ps = true) : Ln ws W0 W1 ws2 := ⟨isC, isR, ps, Wr, h0, h1, h2, h3, h4, h5, h6⟩
section
variable {κ : Kx} {G : GT} {y : MethodName} {cc : ByteArray} {ret : Option FieldType} {nL : Nat} {rm : Room} {ws : va_W} {pc : Nat} {lv : List (Nat × Value)} {st : List Value} {a b : Nat} {Q : State → Prop}
variable {y2 : MethodName} {cc2 : ByteArray} {nL2 : Nat} {ret2 : Option FieldType} {rm2 : Room} {As rest : List Value} {W0 W1 ws2 : va_W} {Rv : Option Value} {index o : Nat}
theorem X.after {H : Heap} {locs : List Loc} {ls : Array Slot} (hL : Ln ws W0 W1 ws2) (C : Cx κ G y cc ret nL rm) (hP : PP G ws H) (hD : va_D κ.2.2.2.2.2.2.2.2.2.2 ws) (hS : va_S κ.2.2.2.2.2.2.2.2.2.2 κ.2.2.2.2.1.heap H locs) (hl : lv_has ls nL lv) {args : Array Value}
    (hr : va_Run κ.1 κ.2.1 κ.2.2.1 κ.2.2.2.1 κ.2.2.2.2.1 κ.2.2.2.2.2.1 κ.2.2.2.2.2.2.1 κ.2.2.2.2.2.2.2.1 κ.2.2.2.2.2.2.2.2.1 κ.2.2.2.2.2.2.2.2.2.1 H locs a b rm2.cells rm2.slots (F0 κ.2.2.2.2.2.1 pc ls st) rest (CQ G (va_A W0 H.size) W1 Rv args) (va_A W0 H.size))
    (k : X κ G nL ws2 (pc + 3) lv (Rv.toList ++ rest) (a + rm2.cells) (b + rm2.slots) Q) : Wx κ H locs a b Q (F0 κ.2.2.2.2.2.1 pc ls st) := by
  obtain ⟨isC, isR, ps, Wr, h0, h1, h2, h3, h4, h5, h6⟩ := hL
  have hF := va_free (wc := W0) hD hS C.new isC h1
  intro T hT X0
  obtain ⟨v, st₀, t, T', L, hst, X', hLL, e1, e2, ⟨hv, ⟨hP1, hK1, hD1⟩, hz, hk⟩, stp⟩ := hr T hT X0
  cases hv
  rw [hst] at hz hk
  obtain ⟨hP2, hD2⟩ := va_join (wr := Wr) (w1 := W1) hP hD isC isR h1 h2 h3 h4 (fun q q1 q2 => hk q q1 q2) hF hP1 hD1
  have hP3 : PP G ws2 t.heap := by
    intro j q hq
    have h7 : (ps.map (fun i => (Wr ++ W1)[i]?))[j]? = some (some q) := by rw [h5, List.getElem?_map, hq]; rfl
    rw [List.getElem?_map] at h7
    cases hi : ps[j]? with
    | none => rw [hi] at h7; cases h7
    | some i => rw [hi] at h7; exact hP2 i q (Option.some.inj h7)
  have hD3 : va_D κ.2.2.2.2.2.2.2.2.2.2 ws2 := hD2.sub ps h6 h5
  have hS3 : va_S κ.2.2.2.2.2.2.2.2.2.2 κ.2.2.2.2.1.heap t.heap (locs ++ L) := ⟨Nat.le_trans hS.1 hz, fun q h1 h2 => by rw [hk q (Nat.lt_of_lt_of_le h1 hS.1) (fun z => h2 (hF q z))]; exact hS.2.1 q h1 h2, fun q hq => by
      rcases List.mem_append.mp hq with h | h
      · exact hS.2.2 q h
      · exact hF _ (hLL q h)⟩
  obtain ⟨t2, a1, b1⟩ := k t.heap (locs ++ L) ls hP3 hD3 hS3 hl T' e1 X'
  exact ⟨t2, stp t2 a1, b1⟩
theorem X.pre {H : Heap} {locs : List Loc} (hL : Ln ws W0 W1 ws2) (C : Cx κ G y cc ret nL rm) (hP : PP G ws H) (hD : va_D κ.2.2.2.2.2.2.2.2.2.2 ws) (hS : va_S κ.2.2.2.2.2.2.2.2.2.2 κ.2.2.2.2.1.heap H locs) {as : List Value} : PreS κ.2.2.2.2.1 H (CP G as W0 H.size) as := by
  obtain ⟨isC, isR, ps, Wr, h0, h1, h2, h3, h4, h5, h6⟩ := hL
  have hF := va_free (wc := W0) hD hS C.new isC h1
  have pick : ∀ (j : Nat) (q : Nat × va_E), W0[j]? = some q → ∃ i, isC[j]? = some i ∧ ws[i]? = some q := by
    intro j q hq
    have h7 : (isC.map (fun i => ws[i]?))[j]? = some (some q) := by rw [h1, List.getElem?_map, hq]; rfl
    rw [List.getElem?_map] at h7
    cases hi : isC[j]? with
    | none => rw [hi] at h7; cases h7
    | some i => rw [hi] at h7; exact ⟨i, rfl, Option.some.inj h7⟩
  refine ⟨CP.blind, fun U hU hW => ⟨rfl, by rw [hU], ?_, va_K.moved hW.alike C.kk, ?_, ?_⟩⟩
  · rw [hU]
    intro j q hq
    obtain ⟨i, -, h8⟩ := pick j q hq
    exact hP i q h8
  · exact (hD.sub isC h0 h1).weaken (fun _ _ _ _ => trivial)
  · have hs := (C.sf.kept (H1 := H) hS.2.1).narrow hF
    rw [hU]
    exact hs.moved hW
theorem X.words (C : Cx κ G y cc ret nL rm) (hc : Cond.code y2 cc2 nL2 ret2 ∈ UW) : ∀ w ∈ (Cond.code y2 cc2 nL2 ret2 :: UW), ∀ (a' : Array Value) (U : State), κ.2.2.2.2.1.WarmedH U.vm → w.before a' U = true := by
  intro w hw a' U hW
  have h : w ∈ UW := by
    rcases List.mem_cons.mp hw with h | h
    · rw [h]; exact hc
    · exact h
  exact word_at hW (good_of_word (UW_good h)) (C.ts w h)
def MD (y : MethodName) (n : Nat) : Prop := (y.cls ≠ "java/lang/invoke/MethodHandle" ∧ y.cls ≠ "java/lang/invoke/VarHandle") ∧ (parseMethodDescriptor y.desc).map (fun d => d.parameters.length) = some n
def MV (y : MethodName) (cc : ByteArray) (nL : Nat) (ret : Option FieldType) (n : Nat) : Prop := Cond.code y cc nL ret ∈ UW ∧ Cond.initialized y.cls ∈ UW ∧ MD y n ∧ Cond.instanceMethod y ∈ UW ∧ Cond.selects y.cls y y ∈ UW
def MS (y : MethodName) (cc : ByteArray) (nL : Nat) (ret : Option FieldType) (n : Nat) : Prop := Cond.code y cc nL ret ∈ UW ∧ Cond.initialized y.cls ∈ UW ∧ MD y n ∧ Cond.static y ∈ UW
def MN (y : MethodName) (cc : ByteArray) (nL : Nat) (n : Nat) : Prop := Cond.code y cc nL none ∈ UW ∧ Cond.initialized y.cls ∈ UW ∧ MD y n ∧ Cond.instanceMethod y ∈ UW ∧ y.name = "<init>"
theorem MD.len {n : Nat} (h : MD y2 n) : ∀ sig, parseMethodDescriptor y2.desc = some sig → n = sig.parameters.length := by
  intro sig e
  have h2 := h.2
  rw [e] at h2
  exact (Option.some.inj h2).symm
def RM (rm rm2 : Room) (nL2 a b : Nat) : Prop := (rm2.frames + 1 ≤ rm.frames ∧ 8 + (nL2 + 11) + rm2.locals ≤ rm.locals) ∧ a + rm2.cells ≤ rm.cells ∧ b + rm2.slots ≤ rm.slots
theorem X.cb {n : Nat} (C : Cx κ G y cc ret nL rm) (hc : Cond.code y2 cc2 nL2 ret2 ∈ UW) (hi : Cond.initialized y2.cls ∈ UW) (hd : MD y2 n) (hl : Cond.methodLink y.cls index y2 ∈ UW) (hR : RM rm rm2 nL2 a b) : CallB κ.2.2.2.1 κ.2.2.2.2.1 κ.2.2.2.2.2.2.1 y.cls index y2 cc2 nL2 ret2 (Cond.code y2 cc2 nL2 ret2 :: UW) rm2 rm2.cells rm2.slots n := by
  rw [C.room]
  exact ⟨rfl, rfl, hR.1.1, hR.1.2, X.words C hc, List.mem_cons_self, C.ts _ hc, C.ts _ hi, hd.1, hd.len, C.ts _ hl⟩
theorem X.cn {n : Nat} {host : String} (C : Cx κ G y cc ret nL rm) (hc : Cond.code y2 cc2 nL2 ret2 ∈ UW) (hi : Cond.initialized y2.cls ∈ UW) (hd : MD y2 n) (hl : Cond.methodLinkNest y.cls index y2 host ∈ lw_tbl) (hR : RM rm rm2 nL2 a b) : va_CN κ.2.2.2.1 κ.2.2.2.2.1 κ.2.2.2.2.2.2.1 y.cls index y2 host cc2 nL2 ret2 (Cond.code y2 cc2 nL2 ret2 :: UW) rm2 rm2.cells rm2.slots n := by
  rw [C.room]
  exact ⟨⟨rfl, rfl, hR.1.1, hR.1.2, X.words C hc, List.mem_cons_self⟩, C.ts _ hc, C.ts _ hi, hd.1, hd.len, va_Nw.use rfl (C.sf.2.2.2.2.1 _ hl rfl)⟩
theorem X.callV0 {n ci q0 N : Nat} {fs : List Value} {T : u_T} (C : Cx κ G y cc ret nL rm) (hd : decode cc pc = .ok (.invokevirtual index, 3)) (hl : Cond.methodLink y.cls index y2 ∈ UW) (hM : MV y2 cc2 nL2 ret2 n) (hC : CT κ.2.1 G y2 cc2 nL2 ret2 rm2 (.ref o :: As) W0 W1 Rv) (hL : Ln ws W0 W1 ws2) (he : ws[q0]? = some (o, .inr (ci, fs))) (hc : vwCl[ci]? = some (y2.cls, T, N)) (hn : As.length = n) (hst : st = As.reverse ++ .ref o :: rest) (hW : (rest.map fun v => v.category).sum ≤ 8) (hR : RM rm rm2 nL2 a b)
    (k : X κ G nL ws2 (pc + 3) lv (Rv.toList ++ rest) (a + rm2.cells) (b + rm2.slots) Q) : X κ G nL ws pc lv st a b Q := fun H locs ls hP hD hS hl2 =>
  X.after hL C hP hD hS hl2 (va_runV (As := As) (rest := rest) ⟨C.ex, C.cd, C.ml, C.own, C.ts⟩ (hC H.size) ⟨X.cb C hM.1 hM.2.1 hM.2.2.1 hl hR, C.ts _ hM.2.2.2.1, C.ts _ hM.2.2.2.2⟩ ⟨(X.pre hL C hP hD hS (as := .ref o :: As)).1, va_recv C.kk hP hc he, (X.pre hL C hP hD hS (as := .ref o :: As)).2⟩ rfl hn hl2.1 hst (lv_room hW) hd (by rw [C.room]; exact hR.2)) k
theorem X.callVN0 {n ci q0 N : Nat} {host : String} {fs : List Value} {T : u_T} (C : Cx κ G y cc ret nL rm) (hd : decode cc pc = .ok (.invokevirtual index, 3)) (hl : Cond.methodLinkNest y.cls index y2 host ∈ lw_tbl) (hM : MV y2 cc2 nL2 ret2 n) (hC : CT κ.2.1 G y2 cc2 nL2 ret2 rm2 (.ref o :: As) W0 W1 Rv) (hL : Ln ws W0 W1 ws2) (he : ws[q0]? = some (o, .inr (ci, fs))) (hc : vwCl[ci]? = some (y2.cls, T, N)) (hn : As.length = n) (hst : st = As.reverse ++ .ref o :: rest) (hW : (rest.map fun v => v.category).sum ≤ 8) (hR : RM rm rm2 nL2 a b)
    (k : X κ G nL ws2 (pc + 3) lv (Rv.toList ++ rest) (a + rm2.cells) (b + rm2.slots) Q) : X κ G nL ws pc lv st a b Q := fun H locs ls hP hD hS hl2 =>
  X.after hL C hP hD hS hl2 (va_runVN (As := As) (rest := rest) ⟨C.ex, C.cd, C.ml, C.own, C.ts⟩ (hC H.size) ⟨X.cn C hM.1 hM.2.1 hM.2.2.1 hl hR, C.ts _ hM.2.2.2.1, C.ts _ hM.2.2.2.2⟩ ⟨(X.pre hL C hP hD hS (as := .ref o :: As)).1, va_recv C.kk hP hc he, (X.pre hL C hP hD hS (as := .ref o :: As)).2⟩ rfl hn hl2.1 hst (lv_room hW) hd (by rw [C.room]; exact hR.2)) k
theorem X.callS0 {n : Nat} (C : Cx κ G y cc ret nL rm) (hd : decode cc pc = .ok (.invokestatic index, 3)) (hl : Cond.methodLink y.cls index y2 ∈ UW) (hM : MS y2 cc2 nL2 ret2 n) (hC : CT κ.2.1 G y2 cc2 nL2 ret2 rm2 As W0 W1 Rv) (hL : Ln ws W0 W1 ws2) (hn : As.length = n) (hst : st = As.reverse ++ rest) (hW : (rest.map fun v => v.category).sum ≤ 8) (hR : RM rm rm2 nL2 a b)
    (k : X κ G nL ws2 (pc + 3) lv (Rv.toList ++ rest) (a + rm2.cells) (b + rm2.slots) Q) : X κ G nL ws pc lv st a b Q := fun H locs ls hP hD hS hl2 =>
  X.after hL C hP hD hS hl2 (va_runS (As := As) (rest := rest) ⟨C.ex, C.cd, C.ml, C.own, C.ts⟩ (hC H.size) ⟨X.cb C hM.1 hM.2.1 hM.2.2.1 hl hR, C.ts _ hM.2.2.2⟩ (X.pre hL C hP hD hS) rfl hn hl2.1 hst (lv_room hW) hd (by rw [C.room]; exact hR.2)) k
theorem X.callSN0 {n : Nat} {host : String} (C : Cx κ G y cc ret nL rm) (hd : decode cc pc = .ok (.invokestatic index, 3)) (hl : Cond.methodLinkNest y.cls index y2 host ∈ lw_tbl) (hM : MS y2 cc2 nL2 ret2 n) (hC : CT κ.2.1 G y2 cc2 nL2 ret2 rm2 As W0 W1 Rv) (hL : Ln ws W0 W1 ws2) (hn : As.length = n) (hst : st = As.reverse ++ rest) (hW : (rest.map fun v => v.category).sum ≤ 8) (hR : RM rm rm2 nL2 a b)
    (k : X κ G nL ws2 (pc + 3) lv (Rv.toList ++ rest) (a + rm2.cells) (b + rm2.slots) Q) : X κ G nL ws pc lv st a b Q := fun H locs ls hP hD hS hl2 =>
  X.after hL C hP hD hS hl2 (va_runSN (As := As) (rest := rest) ⟨C.ex, C.cd, C.ml, C.own, C.ts⟩ (hC H.size) ⟨X.cn C hM.1 hM.2.1 hM.2.2.1 hl hR, C.ts _ hM.2.2.2, trivial⟩ (X.pre hL C hP hD hS) rfl hn hl2.1 hst (lv_room hW) hd (by rw [C.room]; exact hR.2)) k
theorem X.callI0 {n : Nat} (C : Cx κ G y cc ret nL rm) (hd : decode cc pc = .ok (.invokespecial index, 3)) (hl : Cond.methodLink y.cls index y2 ∈ UW) (hM : MN y2 cc2 nL2 n) (hC : CT κ.2.1 G y2 cc2 nL2 none rm2 (.ref o :: As) W0 W1 Rv) (hL : Ln ws W0 W1 ws2) (hn : As.length = n) (hst : st = As.reverse ++ .ref o :: rest) (hW : (rest.map fun v => v.category).sum ≤ 8) (hR : RM rm rm2 nL2 a b)
    (k : X κ G nL ws2 (pc + 3) lv (Rv.toList ++ rest) (a + rm2.cells) (b + rm2.slots) Q) : X κ G nL ws pc lv st a b Q := fun H locs ls hP hD hS hl2 =>
  X.after hL C hP hD hS hl2 (va_runI (As := As) (rest := rest) ⟨C.ex, C.cd, C.ml, C.own, C.ts⟩ (hC H.size) ⟨X.cb C hM.1 hM.2.1 hM.2.2.1 hl hR, hM.2.2.2.2, C.ts _ hM.2.2.2.1⟩ (X.pre hL C hP hD hS) rfl hn hl2.1 hst (lv_room hW) hd (by rw [C.room]; exact hR.2)) k
theorem X.callIN0 {n : Nat} {host : String} (C : Cx κ G y cc ret nL rm) (hd : decode cc pc = .ok (.invokespecial index, 3)) (hl : Cond.methodLinkNest y.cls index y2 host ∈ lw_tbl) (hM : MN y2 cc2 nL2 n) (hC : CT κ.2.1 G y2 cc2 nL2 none rm2 (.ref o :: As) W0 W1 Rv) (hL : Ln ws W0 W1 ws2) (hn : As.length = n) (hst : st = As.reverse ++ .ref o :: rest) (hW : (rest.map fun v => v.category).sum ≤ 8) (hR : RM rm rm2 nL2 a b)
    (k : X κ G nL ws2 (pc + 3) lv (Rv.toList ++ rest) (a + rm2.cells) (b + rm2.slots) Q) : X κ G nL ws pc lv st a b Q := fun H locs ls hP hD hS hl2 =>
  X.after hL C hP hD hS hl2 (va_runIN (As := As) (rest := rest) ⟨C.ex, C.cd, C.ml, C.own, C.ts⟩ (hC H.size) ⟨X.cn C hM.1 hM.2.1 hM.2.2.1 hl hR, hM.2.2.2.2, C.ts _ hM.2.2.2.1⟩ (X.pre hL C hP hD hS) rfl hn hl2.1 hst (lv_room hW) hd (by rw [C.room]; exact hR.2)) k
def rmOk (rm rm2 : Room) (nL2 a b : Nat) : Bool := Nat.ble (rm2.frames + 1) rm.frames && Nat.ble (8 + (nL2 + 11) + rm2.locals) rm.locals && Nat.ble (a + rm2.cells) rm.cells && Nat.ble (b + rm2.slots) rm.slots
theorem RM.of (h : rmOk rm rm2 nL2 a b = true) : RM rm rm2 nL2 a b := by
  unfold rmOk at h
  simp only [Bool.and_eq_true, Nat.ble_eq] at h
  exact ⟨⟨h.1.1.1, h.1.1.2⟩, h.1.2, h.2⟩
def catOk (rest : List Value) : Bool := Nat.ble (rest.map fun v => v.category).sum 8
theorem cat_of {rest : List Value} (h : catOk rest = true) : (rest.map fun v => v.category).sum ≤ 8 := Nat.le_of_ble_eq_true h

theorem X.callVi {n : Nat} {ci q0 N : Nat} {fs : List Value} {T : u_T} {α β : Type} {e : Option α} {f : α → Option β} {r : β} {g : α → Int} {W1 ws2 : α → va_W} (C : Cx κ G y cc ret nL rm) (h : bd e f = some r) (hd : decode cc pc = .ok (.invokevirtual index, 3)) (hl : Cond.methodLink y.cls index y2 ∈ UW) (hM : MV y2 cc2 nL2 ret2 n) (hC : ∀ v, e = some v → CT κ.2.1 G y2 cc2 nL2 ret2 rm2 (.ref o :: As) W0 (W1 v) (some (vi (g v)))) (hL : ∀ v, Ln ws W0 (W1 v) (ws2 v)) (he : ws[q0]? = some (o, .inr (ci, fs))) (hc : vwCl[ci]? = some (y2.cls, T, N)) (hn : As.length = n) (hst : st = As.reverse ++ .ref o :: rest) (hW : catOk rest = true) (hR : rmOk rm rm2 nL2 a b = true) (h0 : rm2.cells = 0) (h1 : rm2.slots = 0) (k : ∀ v, f v = some r → X κ G nL (ws2 v) (pc + 3) lv (vi (g v) :: rest) a b Q) : X κ G nL ws pc lv st a b Q := by
  obtain ⟨v, hv, hf⟩ := bd_out h
  refine X.callV0 C hd hl hM (hC v hv) (hL v) he hc hn hst (cat_of hW) (RM.of hR) ?_
  rw [h0, h1]
  exact k v hf
theorem X.callVl {n : Nat} {ci q0 N : Nat} {fs : List Value} {T : u_T} {α β : Type} {e : Option α} {f : α → Option β} {r : β} {g : α → Int} {W1 ws2 : α → va_W} (C : Cx κ G y cc ret nL rm) (h : bd e f = some r) (hd : decode cc pc = .ok (.invokevirtual index, 3)) (hl : Cond.methodLink y.cls index y2 ∈ UW) (hM : MV y2 cc2 nL2 ret2 n) (hC : ∀ v, e = some v → CT κ.2.1 G y2 cc2 nL2 ret2 rm2 (.ref o :: As) W0 (W1 v) (some (vl (g v)))) (hL : ∀ v, Ln ws W0 (W1 v) (ws2 v)) (he : ws[q0]? = some (o, .inr (ci, fs))) (hc : vwCl[ci]? = some (y2.cls, T, N)) (hn : As.length = n) (hst : st = As.reverse ++ .ref o :: rest) (hW : catOk rest = true) (hR : rmOk rm rm2 nL2 a b = true) (h0 : rm2.cells = 0) (h1 : rm2.slots = 0) (k : ∀ v, f v = some r → X κ G nL (ws2 v) (pc + 3) lv (vl (g v) :: rest) a b Q) : X κ G nL ws pc lv st a b Q := by
  obtain ⟨v, hv, hf⟩ := bd_out h
  refine X.callV0 C hd hl hM (hC v hv) (hL v) he hc hn hst (cat_of hW) (RM.of hR) ?_
  rw [h0, h1]
  exact k v hf
theorem X.callVv {n : Nat} {ci q0 N : Nat} {fs : List Value} {T : u_T} {α β : Type} {e : Option α} {f : α → Option β} {r : β} {W1 ws2 : α → va_W} (C : Cx κ G y cc ret nL rm) (h : bd e f = some r) (hd : decode cc pc = .ok (.invokevirtual index, 3)) (hl : Cond.methodLink y.cls index y2 ∈ UW) (hM : MV y2 cc2 nL2 ret2 n) (hC : ∀ v, e = some v → CT κ.2.1 G y2 cc2 nL2 ret2 rm2 (.ref o :: As) W0 (W1 v) none) (hL : ∀ v, Ln ws W0 (W1 v) (ws2 v)) (he : ws[q0]? = some (o, .inr (ci, fs))) (hc : vwCl[ci]? = some (y2.cls, T, N)) (hn : As.length = n) (hst : st = As.reverse ++ .ref o :: rest) (hW : catOk rest = true) (hR : rmOk rm rm2 nL2 a b = true) (h0 : rm2.cells = 0) (h1 : rm2.slots = 0) (k : ∀ v, f v = some r → X κ G nL (ws2 v) (pc + 3) lv rest a b Q) : X κ G nL ws pc lv st a b Q := by
  obtain ⟨v, hv, hf⟩ := bd_out h
  refine X.callV0 C hd hl hM (hC v hv) (hL v) he hc hn hst (cat_of hW) (RM.of hR) ?_
  rw [h0, h1]
  exact k v hf
theorem X.callVNi {n : Nat} {ci q0 N : Nat} {fs : List Value} {T : u_T} {host : String} {α β : Type} {e : Option α} {f : α → Option β} {r : β} {g : α → Int} {W1 ws2 : α → va_W} (C : Cx κ G y cc ret nL rm) (h : bd e f = some r) (hd : decode cc pc = .ok (.invokevirtual index, 3)) (hl : Cond.methodLinkNest y.cls index y2 host ∈ lw_tbl) (hM : MV y2 cc2 nL2 ret2 n) (hC : ∀ v, e = some v → CT κ.2.1 G y2 cc2 nL2 ret2 rm2 (.ref o :: As) W0 (W1 v) (some (vi (g v)))) (hL : ∀ v, Ln ws W0 (W1 v) (ws2 v)) (he : ws[q0]? = some (o, .inr (ci, fs))) (hc : vwCl[ci]? = some (y2.cls, T, N)) (hn : As.length = n) (hst : st = As.reverse ++ .ref o :: rest) (hW : catOk rest = true) (hR : rmOk rm rm2 nL2 a b = true) (h0 : rm2.cells = 0) (h1 : rm2.slots = 0) (k : ∀ v, f v = some r → X κ G nL (ws2 v) (pc + 3) lv (vi (g v) :: rest) a b Q) : X κ G nL ws pc lv st a b Q := by
  obtain ⟨v, hv, hf⟩ := bd_out h
  refine X.callVN0 C hd hl hM (hC v hv) (hL v) he hc hn hst (cat_of hW) (RM.of hR) ?_
  rw [h0, h1]
  exact k v hf
theorem X.callVNl {n : Nat} {ci q0 N : Nat} {fs : List Value} {T : u_T} {host : String} {α β : Type} {e : Option α} {f : α → Option β} {r : β} {g : α → Int} {W1 ws2 : α → va_W} (C : Cx κ G y cc ret nL rm) (h : bd e f = some r) (hd : decode cc pc = .ok (.invokevirtual index, 3)) (hl : Cond.methodLinkNest y.cls index y2 host ∈ lw_tbl) (hM : MV y2 cc2 nL2 ret2 n) (hC : ∀ v, e = some v → CT κ.2.1 G y2 cc2 nL2 ret2 rm2 (.ref o :: As) W0 (W1 v) (some (vl (g v)))) (hL : ∀ v, Ln ws W0 (W1 v) (ws2 v)) (he : ws[q0]? = some (o, .inr (ci, fs))) (hc : vwCl[ci]? = some (y2.cls, T, N)) (hn : As.length = n) (hst : st = As.reverse ++ .ref o :: rest) (hW : catOk rest = true) (hR : rmOk rm rm2 nL2 a b = true) (h0 : rm2.cells = 0) (h1 : rm2.slots = 0) (k : ∀ v, f v = some r → X κ G nL (ws2 v) (pc + 3) lv (vl (g v) :: rest) a b Q) : X κ G nL ws pc lv st a b Q := by
  obtain ⟨v, hv, hf⟩ := bd_out h
  refine X.callVN0 C hd hl hM (hC v hv) (hL v) he hc hn hst (cat_of hW) (RM.of hR) ?_
  rw [h0, h1]
  exact k v hf
theorem X.callVNv {n : Nat} {ci q0 N : Nat} {fs : List Value} {T : u_T} {host : String} {α β : Type} {e : Option α} {f : α → Option β} {r : β} {W1 ws2 : α → va_W} (C : Cx κ G y cc ret nL rm) (h : bd e f = some r) (hd : decode cc pc = .ok (.invokevirtual index, 3)) (hl : Cond.methodLinkNest y.cls index y2 host ∈ lw_tbl) (hM : MV y2 cc2 nL2 ret2 n) (hC : ∀ v, e = some v → CT κ.2.1 G y2 cc2 nL2 ret2 rm2 (.ref o :: As) W0 (W1 v) none) (hL : ∀ v, Ln ws W0 (W1 v) (ws2 v)) (he : ws[q0]? = some (o, .inr (ci, fs))) (hc : vwCl[ci]? = some (y2.cls, T, N)) (hn : As.length = n) (hst : st = As.reverse ++ .ref o :: rest) (hW : catOk rest = true) (hR : rmOk rm rm2 nL2 a b = true) (h0 : rm2.cells = 0) (h1 : rm2.slots = 0) (k : ∀ v, f v = some r → X κ G nL (ws2 v) (pc + 3) lv rest a b Q) : X κ G nL ws pc lv st a b Q := by
  obtain ⟨v, hv, hf⟩ := bd_out h
  refine X.callVN0 C hd hl hM (hC v hv) (hL v) he hc hn hst (cat_of hW) (RM.of hR) ?_
  rw [h0, h1]
  exact k v hf
theorem X.callSi {n : Nat} {α β : Type} {e : Option α} {f : α → Option β} {r : β} {g : α → Int} {W1 ws2 : α → va_W} (C : Cx κ G y cc ret nL rm) (h : bd e f = some r) (hd : decode cc pc = .ok (.invokestatic index, 3)) (hl : Cond.methodLink y.cls index y2 ∈ UW) (hM : MS y2 cc2 nL2 ret2 n) (hC : ∀ v, e = some v → CT κ.2.1 G y2 cc2 nL2 ret2 rm2 (As) W0 (W1 v) (some (vi (g v)))) (hL : ∀ v, Ln ws W0 (W1 v) (ws2 v)) (hn : As.length = n) (hst : st = As.reverse ++ rest) (hW : catOk rest = true) (hR : rmOk rm rm2 nL2 a b = true) (h0 : rm2.cells = 0) (h1 : rm2.slots = 0) (k : ∀ v, f v = some r → X κ G nL (ws2 v) (pc + 3) lv (vi (g v) :: rest) a b Q) : X κ G nL ws pc lv st a b Q := by
  obtain ⟨v, hv, hf⟩ := bd_out h
  refine X.callS0 C hd hl hM (hC v hv) (hL v) hn hst (cat_of hW) (RM.of hR) ?_
  rw [h0, h1]
  exact k v hf
theorem X.callSl {n : Nat} {α β : Type} {e : Option α} {f : α → Option β} {r : β} {g : α → Int} {W1 ws2 : α → va_W} (C : Cx κ G y cc ret nL rm) (h : bd e f = some r) (hd : decode cc pc = .ok (.invokestatic index, 3)) (hl : Cond.methodLink y.cls index y2 ∈ UW) (hM : MS y2 cc2 nL2 ret2 n) (hC : ∀ v, e = some v → CT κ.2.1 G y2 cc2 nL2 ret2 rm2 (As) W0 (W1 v) (some (vl (g v)))) (hL : ∀ v, Ln ws W0 (W1 v) (ws2 v)) (hn : As.length = n) (hst : st = As.reverse ++ rest) (hW : catOk rest = true) (hR : rmOk rm rm2 nL2 a b = true) (h0 : rm2.cells = 0) (h1 : rm2.slots = 0) (k : ∀ v, f v = some r → X κ G nL (ws2 v) (pc + 3) lv (vl (g v) :: rest) a b Q) : X κ G nL ws pc lv st a b Q := by
  obtain ⟨v, hv, hf⟩ := bd_out h
  refine X.callS0 C hd hl hM (hC v hv) (hL v) hn hst (cat_of hW) (RM.of hR) ?_
  rw [h0, h1]
  exact k v hf
theorem X.callSv {n : Nat} {α β : Type} {e : Option α} {f : α → Option β} {r : β} {W1 ws2 : α → va_W} (C : Cx κ G y cc ret nL rm) (h : bd e f = some r) (hd : decode cc pc = .ok (.invokestatic index, 3)) (hl : Cond.methodLink y.cls index y2 ∈ UW) (hM : MS y2 cc2 nL2 ret2 n) (hC : ∀ v, e = some v → CT κ.2.1 G y2 cc2 nL2 ret2 rm2 (As) W0 (W1 v) none) (hL : ∀ v, Ln ws W0 (W1 v) (ws2 v)) (hn : As.length = n) (hst : st = As.reverse ++ rest) (hW : catOk rest = true) (hR : rmOk rm rm2 nL2 a b = true) (h0 : rm2.cells = 0) (h1 : rm2.slots = 0) (k : ∀ v, f v = some r → X κ G nL (ws2 v) (pc + 3) lv rest a b Q) : X κ G nL ws pc lv st a b Q := by
  obtain ⟨v, hv, hf⟩ := bd_out h
  refine X.callS0 C hd hl hM (hC v hv) (hL v) hn hst (cat_of hW) (RM.of hR) ?_
  rw [h0, h1]
  exact k v hf
theorem X.callSNi {n : Nat} {host : String} {α β : Type} {e : Option α} {f : α → Option β} {r : β} {g : α → Int} {W1 ws2 : α → va_W} (C : Cx κ G y cc ret nL rm) (h : bd e f = some r) (hd : decode cc pc = .ok (.invokestatic index, 3)) (hl : Cond.methodLinkNest y.cls index y2 host ∈ lw_tbl) (hM : MS y2 cc2 nL2 ret2 n) (hC : ∀ v, e = some v → CT κ.2.1 G y2 cc2 nL2 ret2 rm2 (As) W0 (W1 v) (some (vi (g v)))) (hL : ∀ v, Ln ws W0 (W1 v) (ws2 v)) (hn : As.length = n) (hst : st = As.reverse ++ rest) (hW : catOk rest = true) (hR : rmOk rm rm2 nL2 a b = true) (h0 : rm2.cells = 0) (h1 : rm2.slots = 0) (k : ∀ v, f v = some r → X κ G nL (ws2 v) (pc + 3) lv (vi (g v) :: rest) a b Q) : X κ G nL ws pc lv st a b Q := by
  obtain ⟨v, hv, hf⟩ := bd_out h
  refine X.callSN0 C hd hl hM (hC v hv) (hL v) hn hst (cat_of hW) (RM.of hR) ?_
  rw [h0, h1]
  exact k v hf
theorem X.callSNl {n : Nat} {host : String} {α β : Type} {e : Option α} {f : α → Option β} {r : β} {g : α → Int} {W1 ws2 : α → va_W} (C : Cx κ G y cc ret nL rm) (h : bd e f = some r) (hd : decode cc pc = .ok (.invokestatic index, 3)) (hl : Cond.methodLinkNest y.cls index y2 host ∈ lw_tbl) (hM : MS y2 cc2 nL2 ret2 n) (hC : ∀ v, e = some v → CT κ.2.1 G y2 cc2 nL2 ret2 rm2 (As) W0 (W1 v) (some (vl (g v)))) (hL : ∀ v, Ln ws W0 (W1 v) (ws2 v)) (hn : As.length = n) (hst : st = As.reverse ++ rest) (hW : catOk rest = true) (hR : rmOk rm rm2 nL2 a b = true) (h0 : rm2.cells = 0) (h1 : rm2.slots = 0) (k : ∀ v, f v = some r → X κ G nL (ws2 v) (pc + 3) lv (vl (g v) :: rest) a b Q) : X κ G nL ws pc lv st a b Q := by
  obtain ⟨v, hv, hf⟩ := bd_out h
  refine X.callSN0 C hd hl hM (hC v hv) (hL v) hn hst (cat_of hW) (RM.of hR) ?_
  rw [h0, h1]
  exact k v hf
theorem X.callSNv {n : Nat} {host : String} {α β : Type} {e : Option α} {f : α → Option β} {r : β} {W1 ws2 : α → va_W} (C : Cx κ G y cc ret nL rm) (h : bd e f = some r) (hd : decode cc pc = .ok (.invokestatic index, 3)) (hl : Cond.methodLinkNest y.cls index y2 host ∈ lw_tbl) (hM : MS y2 cc2 nL2 ret2 n) (hC : ∀ v, e = some v → CT κ.2.1 G y2 cc2 nL2 ret2 rm2 (As) W0 (W1 v) none) (hL : ∀ v, Ln ws W0 (W1 v) (ws2 v)) (hn : As.length = n) (hst : st = As.reverse ++ rest) (hW : catOk rest = true) (hR : rmOk rm rm2 nL2 a b = true) (h0 : rm2.cells = 0) (h1 : rm2.slots = 0) (k : ∀ v, f v = some r → X κ G nL (ws2 v) (pc + 3) lv rest a b Q) : X κ G nL ws pc lv st a b Q := by
  obtain ⟨v, hv, hf⟩ := bd_out h
  refine X.callSN0 C hd hl hM (hC v hv) (hL v) hn hst (cat_of hW) (RM.of hR) ?_
  rw [h0, h1]
  exact k v hf
end
