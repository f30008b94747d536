/-! keep and back: the machine -/
def CQR (G : GT) (A : Nat → Prop) (post : va_W → Prop) (Rv : Option Value) : Array Value → State → Outcome → State → Prop := fun _ st o t => o = .returned Rv ∧ (∃ W1, post W1 ∧ PP G W1 t.heap ∧ KK G t ∧ va_D A W1) ∧ va_F A st t
/-- a contract of a method that answers Rv and leaves a world of which only its form is known -/
def CTR (l : Launch) (G : GT) (y : MethodName) (cc : ByteArray) (nL : Nat) (ret : Option FieldType) (rm : Room) (as : List Value) (W0 : va_W) (post : va_W → Prop) (Rv : Option Value) : Prop :=
  ∀ sz, Met l y (Cond.code y cc nL ret :: UW) rm (CP G as W0 sz) (CQR G (va_A W0 sz) post Rv) rm.cells rm.slots (va_A W0 sz)
def QMR (κ : Kx) (G : GT) (post : va_W → Prop) (Rv : Option Value) (mc ms : Nat) : State → Prop := MQ κ.2.2.2.2.2.2.2.1 (CQR G κ.2.2.2.2.2.2.2.2.2.2 post Rv) κ.2.2.2.2.2.2.1 κ.2.2.2.2.1 mc ms κ.2.2.2.2.2.2.2.2.2.2
theorem CTR.of {l : Launch} {G : GT} {y : MethodName} {rm : Room} {as : List Value} {W0 : va_W} {post : va_W → Prop} {Rv : Option Value} {cc : ByteArray} {nL : Nat} {ret : Option FieldType} {lv : List (Nat × Value)}
    (hy : plainName y.cls = true) (hn : (lg_sl as).length ≤ nL) (hl : lv_args 0 as = lv)
    (body : ∀ κ : Kx, κ.2.1 = l → Cx κ G y cc ret nL rm → X κ G nL W0 0 lv [] 0 0 (QMR κ G post Rv rm.cells rm.slots)) : CTR l G y cc nL ret rm as W0 post Rv := by
  intro sz
  refine Met.ofW (cc := cc) (maxL := nL) (ret := ret) hy rfl ?_
  intro p e s m args below meth c s₁ B hml hv
  obtain ⟨rfl, hsz, hP, hK, hD0, hSF⟩ := hv
  subst hsz
  have hD := hD0.self (sz := s.heap.size)
  have hl' := lv_entry as (n := nL) hn
  rw [lg_entry_eq]
  have hts := atoms_spec (ws := Cond.code y cc nL ret :: UW) B.pre
  have K := body (p, l, e, (headSpec (Cond.code y cc nL ret :: UW) rm).room, s, m, as.toArray, below, meth, c, va_A W0 s.heap.size) rfl ⟨B.exec, B.bytes, hml, findClass_of_methodNamed B.named, fun w h => hts w (List.mem_cons_of_mem _ h), B.returns, B.notSynchronized, (name_of_methodNamed B.named B.method).1, hK, fun q h => Or.inr h, hSF, rfl⟩
  rw [hl] at hl'
  exact K s.heap [] _ hP hD va_S.rf hl'
section
variable {κ : Kx} {G : GT} {y : MethodName} {cc : ByteArray} {ret : Option FieldType} {nL : Nat} {rm : Room} {ws : va_W} {pc : Nat} {lv : List (Nat × Value)} {st : List Value} {a b : Nat} {Q : State → Prop} {index o : Nat}
theorem X.iretR {z : Int} {post : va_W → Prop} {mc ms : Nat} (C : Cx κ G y cc (some .int) nL rm) (hp : post ws) (hd : decode cc pc = .ok (.ireturn, 1)) (h1 : a ≤ mc) (h2 : b ≤ ms) : X κ G nL ws pc lv [vi z] a b (QMR κ G post (some (vi z)) mc ms) := fun H locs ls hP hD hS hl => W.widen h1 h2 (W.iret C.ex C.cd C.rt (fun t ht hW => ⟨rfl, ⟨ws, hp, by rw [ht]; exact hP, va_K.moved hW.alike C.kk, hD⟩, hS.F ht⟩) hS.2.2 hd C.lk)
theorem X.aldQ {n j : Nat} {CC : String} {rf : Nat → Option Nat} {i : Int} (C : Cx κ G y cc ret nL rm) (hi : inb i n = true) (hd : decode cc pc = .ok (.aaload, 1)) (q0 : Nat) (he : ws[q0]? = some (o, aQ (G.2.1 j) n rf)) (hj : (TY G)[j]? = some (G.2.1 j, .object CC)) (kk : X κ G nL ws (pc + 1) lv (va_rf (rf (ix i)) :: st) a b Q) : X κ G nL ws pc lv (vi i :: .ref o :: st) a b Q := fun H locs ls hP hD hS hl => va_aldq C.ex C.cd C.kk hP q0 j he hj (inb_in hi) hd (kk H locs ls hP hD hS hl)
theorem X.ifnn {x tgt : Nat} {off : Int} (C : Cx κ G y cc ret nL rm) (hd : decode cc pc = .ok (.ifnonnull off, 3)) (ht : (pc : Int) + off = (tgt : Int)) (k : X κ G nL ws tgt lv st a b Q) : X κ G nL ws pc lv (.ref x :: st) a b Q := fun H locs ls hP hD hS hl => lv_ifnonnull C.ex C.cd hd ht (k H locs ls hP hD hS hl)
theorem X.ifnnN {off : Int} (C : Cx κ G y cc ret nL rm) (hd : decode cc pc = .ok (.ifnonnull off, 3)) (k : X κ G nL ws (pc + 3) lv st a b Q) : X κ G nL ws pc lv (.null :: st) a b Q := fun H locs ls hP hD hS hl => lv_ifnonnullN C.ex C.cd hd (k H locs ls hP hD hS hl)
variable {y2 : MethodName} {cc2 : ByteArray} {nL2 : Nat} {ret2 : Option FieldType} {rm2 : Room} {As rest : List Value} {W0 Wr : va_W} {post : va_W → Prop} {Rv : Option Value}
theorem X.afterR {H : Heap} {locs : List Loc} {ls : Array Slot} (isC isR : List Nat) (h1 : isC.map (fun i => ws[i]?) = W0.map some) (h2 : isR.map (fun i => ws[i]?) = Wr.map some) (h3 : va_nd isR = true) (h4 : ∀ i ∈ isR, i ∉ isC) (C : Cx κ G y cc ret nL rm) (hP : PP G ws H) (hD : va_D κ.2.2.2.2.2.2.2.2.2.2 ws) (hS : va_S κ.2.2.2.2.2.2.2.2.2.2 κ.2.2.2.2.1.heap H locs) (hl : lv_has ls nL lv) {args : Array Value}
    (hr : va_Run κ.1 κ.2.1 κ.2.2.1 κ.2.2.2.1 κ.2.2.2.2.1 κ.2.2.2.2.2.1 κ.2.2.2.2.2.2.1 κ.2.2.2.2.2.2.2.1 κ.2.2.2.2.2.2.2.2.1 κ.2.2.2.2.2.2.2.2.2.1 H locs a b rm2.cells rm2.slots (F0 κ.2.2.2.2.2.1 pc ls st) rest (CQR G (va_A W0 H.size) post Rv args) (va_A W0 H.size))
    (k : ∀ W1, post W1 → X κ G nL (Wr ++ W1) (pc + 3) lv (Rv.toList ++ rest) (a + rm2.cells) (b + rm2.slots) Q) : Wx κ H locs a b Q (F0 κ.2.2.2.2.2.1 pc ls st) := by
  have hF := va_free (wc := W0) hD hS C.new isC h1
  intro T hT X0
  obtain ⟨v, st₀, t, T', L, hst, X', hLL, e1, e2, ⟨hv, ⟨W1, hpo, hP1, hK1, hD1⟩, hz, hk⟩, stp⟩ := hr T hT X0
  cases hv
  rw [hst] at hz hk
  obtain ⟨hP2, hD2⟩ := va_join (wr := Wr) (w1 := W1) hP hD isC isR h1 h2 h3 h4 (fun q q1 q2 => hk q q1 q2) hF hP1 hD1
  have hS3 : va_S κ.2.2.2.2.2.2.2.2.2.2 κ.2.2.2.2.1.heap t.heap (locs ++ L) := ⟨Nat.le_trans hS.1 hz, fun q h1 h2 => by rw [hk q (Nat.lt_of_lt_of_le h1 hS.1) (fun z => h2 (hF q z))]; exact hS.2.1 q h1 h2, fun q hq => by
      rcases List.mem_append.mp hq with h | h
      · exact hS.2.2 q h
      · exact hF _ (hLL q h)⟩
  obtain ⟨t2, a1, b1⟩ := k W1 hpo t.heap (locs ++ L) ls hP2 hD2 hS3 hl T' e1 X'
  exact ⟨t2, stp t2 a1, b1⟩
/-- the callee's cells stand first -/
theorem X.callVR {n ci N q0 : Nat} {fs : List Value} {T : u_T} (C : Cx κ G y cc ret nL rm) (hd : decode cc pc = .ok (.invokevirtual index, 3)) (hl : Cond.methodLink y.cls index y2 ∈ UW) (hM : MV y2 cc2 nL2 ret2 n) (hC : CTR κ.2.1 G y2 cc2 nL2 ret2 rm2 (.ref o :: As) W0 post Rv) (he : (W0 ++ Wr)[q0]? = some (o, .inr (ci, fs))) (hc : vwCl[ci]? = some (y2.cls, T, N)) (hn : As.length = n) (hst : st = As.reverse ++ .ref o :: rest) (hW : (rest.map fun v => v.category).sum ≤ 8) (hR : RM rm rm2 nL2 a b)
    (k : ∀ W1, post W1 → X κ G nL (Wr ++ W1) (pc + 3) lv (Rv.toList ++ rest) (a + rm2.cells) (b + rm2.slots) Q) : X κ G nL (W0 ++ Wr) pc lv st a b Q := fun H locs ls hP hD hS hl2 =>
  X.afterR (List.range W0.length) ((List.range Wr.length).map (fun i => i + W0.length)) (pick_l W0 Wr) (pick_r W0 Wr) (va_nd_of (nd_r _ _)) (fun i hi hj => by
    obtain ⟨x, hx, rfl⟩ := List.mem_map.mp hi
    have := List.mem_range.mp hj
    omega) C hP hD hS hl2 (va_runV (As := As) (rest := rest) ⟨C.ex, C.cd, C.ml, C.own, C.ts⟩ (hC H.size) ⟨X.cb C hM.1 hM.2.1 hM.2.2.1 hl hR, C.ts _ hM.2.2.2.1, C.ts _ hM.2.2.2.2⟩ ⟨(X.preE (List.range W0.length) (va_nd_of List.nodup_range) (pick_l W0 Wr) C hP hD hS (as := .ref o :: As)).1, va_recv C.kk hP hc he, (X.preE (List.range W0.length) (va_nd_of List.nodup_range) (pick_l W0 Wr) C hP hD hS (as := .ref o :: As)).2⟩ rfl hn hl2.1 hst (lv_room hW) hd (by rw [C.room]; exact hR.2)) k
end
/-! the images -/
def im (G : GT) (q : Nat → Nat → Nat) (J : Nat → Bool) (T : Nat → Ob) (k : Nat) : va_W := cond (J k) (W_S G (q (14 + 3 * k)) (q (15 + 3 * k)) (q (16 + 3 * k)) (T (15 + 3 * k)) (T (16 + 3 * k))) []
def imR (q : Nat → Nat → Nat) (J : Nat → Bool) : Nat → Option Nat := fun k => cond (J k) (some (q (14 + 3 * k) 31)) none
def W_X (G : GT) (q : Nat → Nat → Nat) (J : Nat → Bool) (T : Nat → Ob) : va_W := W_T G q T ++ ((q 11 4, aQ (G.2.1 5) 3 (imR q J)) :: (im G q J T 0 ++ (im G q J T 1 ++ im G q J T 2)))
def RT (G : GT) (q : Nat → Nat → Nat) (T : Nat → Ob) : va_W := (q 11 31, oX7 q) :: (q 11 5, aR G q) :: (wX4 G (q 0) (T 0) ++ ((q 1 31, oX5 (q 0) (q 4) (T 1)) :: (W_S G (q 13) (q 4) (q 5) (T 4) (T 5) ++ (wX2 G (q 6) (T 6) ++ (wX2 G (q 7) (T 7) ++ (wX2 G (q 8) (T 8) ++ (wX2 G (q 9) (T 9) ++ wX6 G (q 10) (T 10))))))))
def oth (G : GT) (q : Nat → Nat → Nat) (J : Nat → Bool) (T : Nat → Ob) (k : Nat) : va_W := match k with
  | 0 => im G q J T 1 ++ im G q J T 2
  | 1 => im G q J T 0 ++ im G q J T 2
  | _ => im G q J T 0 ++ im G q J T 1
section
variable {G : GT} {q : Nat → Nat → Nat} {J : Nat → Bool} {T : Nat → Ob} {k : Nat}
theorem im_t (h : J k = true) : im G q J T k = W_S G (q (14 + 3 * k)) (q (15 + 3 * k)) (q (16 + 3 * k)) (T (15 + 3 * k)) (T (16 + 3 * k)) := by
  unfold im; rw [h]; rfl
theorem im_f (h : J k = false) : im G q J T k = [] := by
  unfold im; rw [h]; rfl
/-- image k first, then what is now -/
theorem pX (hk : k < 3) : (W_X G q J T).Perm ((im G q J T k ++ W_S G (q 12) (q 2) (q 3) (T 2) (T 3)) ++ (RT G q T ++ ((q 11 4, aQ (G.2.1 5) 3 (imR q J)) :: oth G q J T k))) := by
  unfold W_X W_T RT
  rcases (show k = 0 ∨ k = 1 ∨ k = 2 by omega) with rfl | rfl | rfl <;> exact perm_c (fun p => by simp only [oth, List.countP_append, List.countP_cons, List.countP_nil]; omega)
theorem pX' (hk : k < 3) : (W_X G q J T).Perm ((W_S G (q 12) (q 2) (q 3) (T 2) (T 3) ++ im G q J T k) ++ (RT G q T ++ ((q 11 4, aQ (G.2.1 5) 3 (imR q J)) :: oth G q J T k))) := (pX hk).trans (List.Perm.append_right _ List.perm_append_comm)
end
