/-! what is made: constructors leave a world of which only its form is known -/
def CQE (G : GT) (A : Nat → Prop) (post : va_W → Prop) : Array Value → State → Outcome → State → Prop := fun _ st o t => o = .returned none ∧ (∃ W1, post W1 ∧ PP G W1 t.heap ∧ KK G t ∧ va_D A W1) ∧ va_F A st t
def CTE (l : Launch) (G : GT) (y : MethodName) (cc : ByteArray) (nL : Nat) (rm : Room) (as : List Value) (W0 : va_W) (post : va_W → Prop) : Prop :=
  ∀ sz, Met l y (Cond.code y cc nL none :: UW) rm (CP G as W0 sz) (CQE G (va_A W0 sz) post) rm.cells rm.slots (va_A W0 sz)
def QME (κ : Kx) (G : GT) (post : va_W → Prop) (mc ms : Nat) : State → Prop := MQ κ.2.2.2.2.2.2.2.1 (CQE G κ.2.2.2.2.2.2.2.2.2.2 post) κ.2.2.2.2.2.2.1 κ.2.2.2.2.1 mc ms κ.2.2.2.2.2.2.2.2.2.2
theorem CTE.of {l : Launch} {G : GT} {y : MethodName} {rm : Room} {as : List Value} {W0 : va_W} {post : va_W → Prop} {cc : ByteArray} {nL : Nat} {lv : List (Nat × Value)}
    (hy : plainName y.cls = true) (hn : (lg_sl as).length ≤ nL) (hl : lv_args 0 as = lv)
    (body : ∀ κ : Kx, κ.2.1 = l → Cx κ G y cc none nL rm → X κ G nL W0 0 lv [] 0 0 (QME κ G post rm.cells rm.slots)) : CTE l G y cc nL rm as W0 post := by
  intro sz
  refine Met.ofW (cc := cc) (maxL := nL) (ret := none) hy rfl ?_
  intro p e s m args below meth c s₁ B hml hv
  obtain ⟨rfl, hsz, hP, hK, hD0, hSF⟩ := hv
  subst hsz
  have hD := hD0.self (sz := s.heap.size)
  have hl' := lv_entry as (n := nL) hn
  rw [lg_entry_eq]
  have hts := atoms_spec (ws := Cond.code y cc nL none :: UW) B.pre
  have K := body (p, l, e, (headSpec (Cond.code y cc nL none :: UW) rm).room, s, m, as.toArray, below, meth, c, va_A W0 s.heap.size) rfl ⟨B.exec, B.bytes, hml, findClass_of_methodNamed B.named, fun w h => hts w (List.mem_cons_of_mem _ h), B.returns, B.notSynchronized, (name_of_methodNamed B.named B.method).1, hK, fun q h => Or.inr h, hSF, rfl⟩
  rw [hl] at hl'
  exact K s.heap [] _ hP hD va_S.rf hl'
section
variable {κ : Kx} {G : GT} {y : MethodName} {cc : ByteArray} {ret : Option FieldType} {nL : Nat} {rm : Room} {ws : va_W} {pc : Nat} {lv : List (Nat × Value)} {st : List Value} {a b : Nat} {Q : State → Prop} {index o : Nat}
theorem X.vretE {post : va_W → Prop} {mc ms : Nat} (C : Cx κ G y cc none nL rm) (hp : post ws) (hd : decode cc pc = .ok (.return_, 1)) (h1 : a ≤ mc) (h2 : b ≤ ms) : X κ G nL ws pc lv [] a b (QME κ G post mc ms) := fun H locs ls hP hD hS hl => W.widen h1 h2 (W.vret C.ex C.cd C.rt (fun t ht hW => ⟨rfl, ⟨ws, hp, by rw [ht]; exact hP, va_K.moved hW.alike C.kk, hD⟩, hS.F ht⟩) hS.2.2 hd C.lk)
theorem X.objI (C : Cx κ G y cc ret nL rm) (hd : decode cc pc = .ok (.invokespecial index, 3)) (h1 : Cond.methodLink y.cls index Lib.objectInit ∈ UW) (h2 : Cond.instanceMethod Lib.objectInit ∈ UW) (h3 : Cond.code Lib.objectInit ⟨#[0xb1]⟩ 1 none ∈ UW) (hf : 1 ≤ rm.frames) (hw : (st.map fun v => v.category).sum + 12 ≤ rm.locals) (k : X κ G nL ws (pc + 3) lv st a b Q) : X κ G nL ws pc lv (.ref o :: st) a b Q := fun H locs ls hP hD hS hl => W.objInit C.ex C.cd C.own (C.ts _ h1) (C.ts _ h2) (C.ts _ h3) rfl (hl.1.trans C.ml.symm) rfl hd (by rw [C.room]; exact hf) (by rw [C.room]; show 2 * 0 + _ + 12 ≤ _; omega) (k H locs ls hP hD hS hl)
theorem X.newO {CC : String} {T : u_T} {N ci : Nat} {ty : Nat → FieldType} {fs : List Value} (C : Cx κ G y cc ret nL rm) (hd : decode cc pc = .ok (.new index, 3)) (hin : ∀ w ∈ u_ws CC T N, w ∈ UW) (hty : ∀ k, k < N → parseFieldDescriptor (T k).2.2.1 = some (ty k)) (hkl : Cond.classLink y.cls index CC ∈ UW) (hnw : Cond.instantiable CC N ∈ UW) (hini : Cond.initialized CC ∈ UW) (hc : vwCl[ci]? = some (CC, T, N)) (hfs : ∀ j, j < N → defaultValue (ty j) = vp_V fs j) (ha : a + 1 ≤ rm.cells) (hb : b + N ≤ rm.slots) (k : ∀ q, X κ G nL (ws ++ [(q, .inr (ci, fs))]) (pc + 3) lv (.ref q :: st) (a + 1) (b + N) Q) : X κ G nL ws pc lv st a b Q := fun H locs ls hP hD hS hl => va_new C.ex C.cd C.ts hin ty hty C.own (C.ts _ hkl) (C.ts _ hnw) (C.ts _ hini) C.kk hP hD hS C.new hc hfs (by rw [C.room]; exact ha) (by rw [C.room]; exact hb) hd (fun q H1 hP1 hD1 hS1 => k q H1 locs ls hP1 hD1 hS1 hl)
theorem X.newI {n : Int} {N : Nat} (C : Cx κ G y cc ret nL rm) (hd : decode cc pc = .ok (.newarray .int, 2)) (hw : Cond.arrayClass .int ∈ UW) (hn : ¬ i32 n < 0) (hN : (i32 n).toNatClampNeg = N) (hb4 : N * 4 ≤ 536870912) (ha : a + 1 ≤ rm.cells) (hb : b + N ≤ rm.slots) (k : ∀ q, X κ G nL (ws ++ [(q, aI G N (fun _ => 0))]) (pc + 2) lv (.ref q :: st) (a + 1) (b + N) Q) : X κ G nL ws pc lv (vi n :: st) a b Q := fun H locs ls hP hD hS hl => va_newa (a0 := (N, .inl (fun _ => i32 0))) (ty := .int) (atype := .int) C.ex C.cd (C.ts _ hw) rfl C.kk hP hD hS C.new (fun cA => rfl) hn hN hb4 (by rw [C.room]; exact ha) (by rw [C.room]; exact hb) hd (fun q cA H1 hK1 hP1 hD1 hS1 => by
  have e : cA = G.2.1 0 := Option.some.inj ((hK1.2 6 (cA, .int) rfl).2.symm.trans (C.kk.2 0 (G.2.1 0, .int) rfl).2)
  subst e
  exact k q H1 locs ls hP1 hD1 hS1 hl)
theorem X.newB {n : Int} {N : Nat} (C : Cx κ G y cc ret nL rm) (hd : decode cc pc = .ok (.newarray .byte, 2)) (hw : Cond.arrayClass .byte ∈ UW) (hn : ¬ i32 n < 0) (hN : (i32 n).toNatClampNeg = N) (hb4 : N * 1 ≤ 536870912) (ha : a + 1 ≤ rm.cells) (hb : b + N ≤ rm.slots) (k : ∀ q, X κ G nL (ws ++ [(q, aB G N (fun _ => 0))]) (pc + 2) lv (.ref q :: st) (a + 1) (b + N) Q) : X κ G nL ws pc lv (vi n :: st) a b Q := fun H locs ls hP hD hS hl => va_newa (a0 := (N, .inl (fun _ => i32 0))) (ty := .byte) (atype := .byte) C.ex C.cd (C.ts _ hw) rfl C.kk hP hD hS C.new (fun cA => rfl) hn hN hb4 (by rw [C.room]; exact ha) (by rw [C.room]; exact hb) hd (fun q cA H1 hK1 hP1 hD1 hS1 => by
  have e : cA = G.2.1 1 := Option.some.inj ((hK1.2 6 (cA, .byte) rfl).2.symm.trans (C.kk.2 1 (G.2.1 1, .byte) rfl).2)
  subst e
  exact k q H1 locs ls hP1 hD1 hS1 hl)
theorem X.newJ {n : Int} {N : Nat} (C : Cx κ G y cc ret nL rm) (hd : decode cc pc = .ok (.newarray .long, 2)) (hw : Cond.arrayClass .long ∈ UW) (hn : ¬ i32 n < 0) (hN : (i32 n).toNatClampNeg = N) (hb4 : N * 8 ≤ 536870912) (ha : a + 1 ≤ rm.cells) (hb : b + N ≤ rm.slots) (k : ∀ q, X κ G nL (ws ++ [(q, aJ G N (fun _ => 0))]) (pc + 2) lv (.ref q :: st) (a + 1) (b + N) Q) : X κ G nL ws pc lv (vi n :: st) a b Q := fun H locs ls hP hD hS hl => va_newa (a0 := (N, .inr (.inl (fun _ => l64 0)))) (ty := .long) (atype := .long) C.ex C.cd (C.ts _ hw) rfl C.kk hP hD hS C.new (fun cA => rfl) hn hN hb4 (by rw [C.room]; exact ha) (by rw [C.room]; exact hb) hd (fun q cA H1 hK1 hP1 hD1 hS1 => by
  have e : cA = G.2.1 2 := Option.some.inj ((hK1.2 6 (cA, .long) rfl).2.symm.trans (C.kk.2 2 (G.2.1 2, .long) rfl).2)
  subst e
  exact k q H1 locs ls hP1 hD1 hS1 hl)
theorem X.newZ {n : Int} {N : Nat} (C : Cx κ G y cc ret nL rm) (hd : decode cc pc = .ok (.newarray .boolean, 2)) (hw : Cond.arrayClass .boolean ∈ UW) (hn : ¬ i32 n < 0) (hN : (i32 n).toNatClampNeg = N) (hb4 : N * 1 ≤ 536870912) (ha : a + 1 ≤ rm.cells) (hb : b + N ≤ rm.slots) (k : ∀ q, X κ G nL (ws ++ [(q, aZ G N (fun _ => 0))]) (pc + 2) lv (.ref q :: st) (a + 1) (b + N) Q) : X κ G nL ws pc lv (vi n :: st) a b Q := fun H locs ls hP hD hS hl => va_newa (a0 := (N, .inl (fun _ => i32 0))) (ty := .boolean) (atype := .boolean) C.ex C.cd (C.ts _ hw) rfl C.kk hP hD hS C.new (fun cA => rfl) hn hN hb4 (by rw [C.room]; exact ha) (by rw [C.room]; exact hb) hd (fun q cA H1 hK1 hP1 hD1 hS1 => by
  have e : cA = G.2.1 3 := Option.some.inj ((hK1.2 6 (cA, .boolean) rfl).2.symm.trans (C.kk.2 3 (G.2.1 3, .boolean) rfl).2)
  subst e
  exact k q H1 locs ls hP1 hD1 hS1 hl)
/-- a row of references: rf holds the addresses -/
abbrev aQ (c : ClassId) (n : Nat) (rf : Nat → Option Nat) : va_E := .inl (c, n, .inr (.inr (.inr (.inr rf))))
theorem X.newQ {CC : String} {j : Nat} {n : Int} {N : Nat} (C : Cx κ G y cc ret nL rm) (hd : decode cc pc = .ok (.anewarray index, 3)) (hkl : Cond.classLink y.cls index CC ∈ UW) (hov : va_AO CC κ.2.2.2.2.1) (hj : (TY G)[j]? = some (G.2.1 j, .object CC)) (hn : ¬ i32 n < 0) (hN : (i32 n).toNatClampNeg = N) (hb4 : N * 4 ≤ 536870912) (ha : a + 1 ≤ rm.cells) (hb : b + N ≤ rm.slots) (k : ∀ q, X κ G nL (ws ++ [(q, aQ (G.2.1 j) N (fun _ => none))]) (pc + 3) lv (.ref q :: st) (a + 1) (b + N) Q) : X κ G nL ws pc lv (vi n :: st) a b Q := fun H locs ls hP hD hS hl => va_newq C.ex C.cd C.own (C.ts _ hkl) hov C.kk hP hD hS C.new hn hN hb4 (by rw [C.room]; exact ha) (by rw [C.room]; exact hb) hd (fun q cA H1 hK1 hP1 hD1 hS1 => by
  obtain ⟨_, _, -, -, -, e1⟩ := (hK1.2 6 (cA, .object CC) rfl).2
  obtain ⟨_, _, -, -, -, e2⟩ := (C.kk.2 j (G.2.1 j, .object CC) hj).2
  have e : cA = G.2.1 j := Option.some.inj (e1.symm.trans e2)
  subst e
  exact k q H1 locs ls hP1 hD1 hS1 hl)
theorem X.astQ {cr : vw_C} {ci j n v : Nat} {vs : List Value} {rf : Nat → Option Nat} {i : Int} {ws2 : va_W} (C : Cx κ G y cc ret nL rm) (hi : inb i n = true) (hd : decode cc pc = .ok (.aastore, 1)) (q0 qk : Nat) (he : ws[q0]? = some (o, aQ (G.2.1 j) n rf)) (hj : (TY G)[j]? = some (G.2.1 j, .object cr.1)) (hv : ws[qk]? = some (v, .inr (ci, vs))) (hc : vwCl[ci]? = some cr) (h2 : ws.set q0 (o, aQ (G.2.1 j) n (va_up rf (ix i) (some v))) = ws2) (k : X κ G nL ws2 (pc + 1) lv st a b Q) : X κ G nL ws pc lv (.ref v :: vi i :: .ref o :: st) a b Q := fun H locs ls hP hD hS hl => va_astq C.ex C.cd C.kk hP hD hS q0 j qk ci he hj hv hc (inb_in hi) hd (fun H1 locs1 hP1 hD1 hS1 => k H1 locs1 ls (h2 ▸ hP1) (h2 ▸ hD1) hS1 hl)
/-- the same cells in another order -/
theorem X.perm {ws2 : va_W} (ps : List Nat) (hn : va_nd ps = true) (h : ps.map (fun i => ws[i]?) = ws2.map some) (k : X κ G nL ws2 pc lv st a b Q) : X κ G nL ws pc lv st a b Q := by
  intro H locs ls hP hD hS hl
  refine k H locs ls (fun j q hq => ?_) (hD.sub ps hn h) hS hl
  have h7 : (ps.map (fun i => ws[i]?))[j]? = some (some q) := by rw [h, List.getElem?_map, hq]; rfl
  rw [List.getElem?_map] at h7
  cases hi : ps[j]? with
  | none => rw [hi] at h7; cases h7
  | some i => rw [hi] at h7; exact hP i q (Option.some.inj h7)
variable {y2 : MethodName} {cc2 : ByteArray} {nL2 : Nat} {rm2 : Room} {As rest : List Value} {W0 Wr : va_W} {post : va_W → Prop}
theorem X.afterE {H : Heap} {locs : List Loc} {ls : Array Slot} (isC isR : List Nat) (h1 : isC.map (fun i => ws[i]?) = W0.map some) (h2 : isR.map (fun i => ws[i]?) = Wr.map some) (h3 : va_nd isR = true) (h4 : ∀ i ∈ isR, i ∉ isC) (C : Cx κ G y cc ret nL rm) (hP : PP G ws H) (hD : va_D κ.2.2.2.2.2.2.2.2.2.2 ws) (hS : va_S κ.2.2.2.2.2.2.2.2.2.2 κ.2.2.2.2.1.heap H locs) (hl : lv_has ls nL lv) {args : Array Value}
    (hr : va_Run κ.1 κ.2.1 κ.2.2.1 κ.2.2.2.1 κ.2.2.2.2.1 κ.2.2.2.2.2.1 κ.2.2.2.2.2.2.1 κ.2.2.2.2.2.2.2.1 κ.2.2.2.2.2.2.2.2.1 κ.2.2.2.2.2.2.2.2.2.1 H locs a b rm2.cells rm2.slots (F0 κ.2.2.2.2.2.1 pc ls st) rest (CQE G (va_A W0 H.size) post args) (va_A W0 H.size))
    (k : ∀ W1, post W1 → X κ G nL (Wr ++ W1) (pc + 3) lv rest (a + rm2.cells) (b + rm2.slots) Q) : Wx κ H locs a b Q (F0 κ.2.2.2.2.2.1 pc ls st) := by
  have hF := va_free (wc := W0) hD hS C.new isC h1
  intro T hT X0
  obtain ⟨v, st₀, t, T', L, hst, X', hLL, e1, e2, ⟨hv, ⟨W1, hpo, hP1, hK1, hD1⟩, hz, hk⟩, stp⟩ := hr T hT X0
  cases hv
  rw [hst] at hz hk
  obtain ⟨hP2, hD2⟩ := va_join (wr := Wr) (w1 := W1) hP hD isC isR h1 h2 h3 h4 (fun q q1 q2 => hk q q1 q2) hF hP1 hD1
  have hS3 : va_S κ.2.2.2.2.2.2.2.2.2.2 κ.2.2.2.2.1.heap t.heap (locs ++ L) := ⟨Nat.le_trans hS.1 hz, fun q h1 h2 => by rw [hk q (Nat.lt_of_lt_of_le h1 hS.1) (fun z => h2 (hF q z))]; exact hS.2.1 q h1 h2, fun q hq => by
      rcases List.mem_append.mp hq with h | h
      · exact hS.2.2 q h
      · exact hF _ (hLL q h)⟩
  obtain ⟨t2, a1, b1⟩ := k W1 hpo t.heap (locs ++ L) ls hP2 hD2 hS3 hl T' e1 X'
  exact ⟨t2, stp t2 a1, b1⟩
theorem X.preE {H : Heap} {locs : List Loc} (isC : List Nat) (h0 : va_nd isC = true) (h1 : isC.map (fun i => ws[i]?) = W0.map some) (C : Cx κ G y cc ret nL rm) (hP : PP G ws H) (hD : va_D κ.2.2.2.2.2.2.2.2.2.2 ws) (hS : va_S κ.2.2.2.2.2.2.2.2.2.2 κ.2.2.2.2.1.heap H locs) {as : List Value} : PreS κ.2.2.2.2.1 H (CP G as W0 H.size) as := by
  have hF := va_free (wc := W0) hD hS C.new isC h1
  refine ⟨CP.blind, fun U hU hW => ⟨rfl, by rw [hU], ?_, va_K.moved hW.alike C.kk, (hD.sub isC h0 h1).weaken (fun _ _ _ _ => trivial), ?_⟩⟩
  · rw [hU]
    intro j q hq
    have h7 : (isC.map (fun i => ws[i]?))[j]? = some (some q) := by rw [h1, List.getElem?_map, hq]; rfl
    rw [List.getElem?_map] at h7
    cases hi : isC[j]? with
    | none => rw [hi] at h7; cases h7
    | some i => rw [hi] at h7; exact hP i q (Option.some.inj h7)
  · have hs := (C.sf.kept (H1 := H) hS.2.1).narrow hF
    rw [hU]
    exact hs.moved hW
theorem X.callIE {n : Nat} (C : Cx κ G y cc ret nL rm) (hd : decode cc pc = .ok (.invokespecial index, 3)) (hl : Cond.methodLink y.cls index y2 ∈ UW) (hM : MN y2 cc2 nL2 n) (hC : CTE κ.2.1 G y2 cc2 nL2 rm2 (.ref o :: As) W0 post) (isC isR : List Nat) (h0 : va_nd isC = true) (h1 : isC.map (fun i => ws[i]?) = W0.map some) (h2 : isR.map (fun i => ws[i]?) = Wr.map some) (h3 : va_nd isR = true) (h4 : ∀ i ∈ isR, i ∉ isC) (hn : As.length = n) (hst : st = As.reverse ++ .ref o :: rest) (hW : catOk rest = true) (hR : rmOk rm rm2 nL2 a b = true)
    (k : ∀ W1, post W1 → X κ G nL (Wr ++ W1) (pc + 3) lv rest (a + rm2.cells) (b + rm2.slots) Q) : X κ G nL ws pc lv st a b Q := fun H locs ls hP hD hS hl2 =>
  X.afterE isC isR h1 h2 h3 h4 C hP hD hS hl2 (va_runI (As := As) (rest := rest) ⟨C.ex, C.cd, C.ml, C.own, C.ts⟩ (hC H.size) ⟨X.cb C hM.1 hM.2.1 hM.2.2.1 hl (RM.of hR), hM.2.2.2.2, C.ts _ hM.2.2.2.1⟩ (X.preE isC h0 h1 C hP hD hS) rfl hn hl2.1 hst (lv_room (cat_of hW)) hd (by rw [C.room]; exact (RM.of hR).2)) k
theorem X.callINE {n : Nat} {host : String} (C : Cx κ G y cc ret nL rm) (hd : decode cc pc = .ok (.invokespecial index, 3)) (hl : Cond.methodLinkNest y.cls index y2 host ∈ lw_tbl) (hM : MN y2 cc2 nL2 n) (hC : CTE κ.2.1 G y2 cc2 nL2 rm2 (.ref o :: As) W0 post) (isC isR : List Nat) (h0 : va_nd isC = true) (h1 : isC.map (fun i => ws[i]?) = W0.map some) (h2 : isR.map (fun i => ws[i]?) = Wr.map some) (h3 : va_nd isR = true) (h4 : ∀ i ∈ isR, i ∉ isC) (hn : As.length = n) (hst : st = As.reverse ++ .ref o :: rest) (hW : catOk rest = true) (hR : rmOk rm rm2 nL2 a b = true)
    (k : ∀ W1, post W1 → X κ G nL (Wr ++ W1) (pc + 3) lv rest (a + rm2.cells) (b + rm2.slots) Q) : X κ G nL ws pc lv st a b Q := fun H locs ls hP hD hS hl2 =>
  X.afterE isC isR h1 h2 h3 h4 C hP hD hS hl2 (va_runIN (As := As) (rest := rest) ⟨C.ex, C.cd, C.ml, C.own, C.ts⟩ (hC H.size) ⟨X.cn C hM.1 hM.2.1 hM.2.2.1 hl (RM.of hR), hM.2.2.2.2, C.ts _ hM.2.2.2.1⟩ (X.preE isC h0 h1 C hP hD hS) rfl hn hl2.1 hst (lv_room (cat_of hW)) hd (by rw [C.room]; exact (RM.of hR).2)) k
end
theorem va_nd_of {l : List Nat} (h : l.Nodup) : va_nd l = true := by
  induction l with
  | nil => rfl
  | cons x l ih =>
    rw [List.nodup_cons] at h
    show (decide (x ∉ l) && va_nd l) = true
    rw [ih h.2, Bool.and_true, decide_eq_true_eq]
    exact h.1
theorem pick_l (A B : va_W) : (List.range A.length).map (fun i => (A ++ B)[i]?) = A.map some := by
  apply List.ext_getElem?
  intro i
  rw [List.getElem?_map, List.getElem?_map]
  by_cases hi : i < A.length
  · rw [List.getElem?_range hi]
    show some ((A ++ B)[i]?) = _
    rw [List.getElem?_append_left hi, List.getElem?_eq_getElem hi]
    rfl
  · rw [List.getElem?_eq_none (by simp; omega), List.getElem?_eq_none (by omega)]
    rfl
theorem pick_r (A B : va_W) : ((List.range B.length).map (fun i => i + A.length)).map (fun i => (A ++ B)[i]?) = B.map some := by
  apply List.ext_getElem?
  intro i
  rw [List.getElem?_map, List.getElem?_map, List.getElem?_map]
  by_cases hi : i < B.length
  · rw [List.getElem?_range hi]
    show some ((A ++ B)[i + A.length]?) = _
    rw [List.getElem?_append_right (by omega), Nat.add_sub_cancel, List.getElem?_eq_getElem hi]
    rfl
  · rw [List.getElem?_eq_none (by simp; omega), List.getElem?_eq_none (by omega)]
    rfl
theorem nd_r (n k : Nat) : ((List.range n).map (fun i => i + k)).Nodup := by
  rw [List.Nodup, List.pairwise_map]
  exact List.nodup_range.imp (fun h e => h (by omega))
/-- the callee's cells stand first -/
theorem Ln.head (W0 W1 R : va_W) : Ln (W0 ++ R) W0 W1 (W1 ++ R) := by
  refine Ln.of (List.range W0.length) ((List.range R.length).map (fun i => i + W0.length)) ((List.range W1.length).map (fun i => i + R.length) ++ List.range R.length) R (va_nd_of List.nodup_range) (pick_l W0 R) (pick_r W0 R) (va_nd_of (nd_r _ _)) ?_ ?_ ?_
  · intro i hi hj
    obtain ⟨x, hx, rfl⟩ := List.mem_map.mp hi
    have := List.mem_range.mp hj
    omega
  · rw [List.map_append, List.map_append, pick_r R W1, pick_l R W1]
  · apply va_nd_of
    rw [List.nodup_append]
    refine ⟨nd_r _ _, List.nodup_range, ?_⟩
    intro x hx y hy e
    obtain ⟨z, hz, rfl⟩ := List.mem_map.mp hx
    have := List.mem_range.mp hy
    omega
/-- the callee's cells stand last -/
theorem Ln.tail (W0 W1 R : va_W) : Ln (R ++ W0) W0 W1 (R ++ W1) := by
  refine Ln.of ((List.range W0.length).map (fun i => i + R.length)) (List.range R.length) (List.range (R ++ W1).length) R (va_nd_of (nd_r _ _)) (pick_r R W0) (pick_l R W0) (va_nd_of List.nodup_range) ?_ ?_ (va_nd_of List.nodup_range)
  · intro i hi hj
    obtain ⟨x, hx, rfl⟩ := List.mem_map.mp hj
    have := List.mem_range.mp hi
    omega
  · have h := pick_l (R ++ W1) []
    rwa [List.append_nil] at h
