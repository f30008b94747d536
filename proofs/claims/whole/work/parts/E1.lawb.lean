/-! the law: how its pieces go -/
def xi (xs : Nat → Int32) (j : Nat) : Int := (xs j).toInt
theorem xi_r (xs : Nat → Int32) (j : Nat) : R32 (xi xs j) := by
  have h1 := Int32.le_toInt (xs j)
  have h2 := Int32.toInt_lt (xs j)
  unfold xi
  exact ⟨by omega, by omega⟩
def Sc (κ : Kx) (b L : Nat) (xs : Nat → Int32) : Prop := va_X b L xs κ.2.2.2.2.1 κ.2.2.2.2.1.heap ∧ b < κ.2.2.2.2.1.heap.size ∧ ¬ κ.2.2.2.2.2.2.2.2.2.2 b
def lvL (bb ox om : Nat) (i : Int) : List (Nat × Value) := [(3, vi i), (2, .ref om), (1, .ref ox), (0, .ref bb)]
def IM (G : GT) (q : Nat → Nat → Nat) (J : Nat → Bool) (T : Nat → Ob) : va_W := (q 11 4, aQ (G.2.1 5) 3 (imR q J)) :: (im G q J T 0 ++ (im G q J T 1 ++ im G q J T 2))
/-- the world of the law: the class's cells, its images, the model's cells -/
def WL (G : GT) (q : Nat → Nat → Nat) (J : Nat → Bool) (T : Nat → Ob) (qm : Nat → Nat) (M : Ob) : va_W := W_T G q T ++ (IM G q J T ++ W_M G qm M)
theorem IM_c {G : GT} {q : Nat → Nat → Nat} {J : Nat → Bool} {T T' : Nat → Ob} (h : ∀ k, 11 ≤ k → T' k = T k) : IM G q J T' = IM G q J T := by
  unfold IM im
  rw [h (15 + 3 * 0) (by decide), h (16 + 3 * 0) (by decide), h (15 + 3 * 1) (by decide), h (16 + 3 * 1) (by decide), h (15 + 3 * 2) (by decide), h (16 + 3 * 2) (by decide)]
theorem WL_perm {G : GT} {q : Nat → Nat → Nat} {J : Nat → Bool} {T : Nat → Ob} {qm : Nat → Nat} {M : Ob} : (WL G q J T qm M).Perm (W_M G qm M ++ (W_T G q T ++ IM G q J T)) := by
  unfold WL
  rw [← List.append_assoc]
  exact List.perm_append_comm
def rmz (rm2 : Room) (nL2 : Nat) : Bool := Nat.ble (rm2.frames + 1) 15 && Nat.ble (8 + (nL2 + 11) + rm2.locals) 560 && Nat.beq rm2.cells 0 && Nat.beq rm2.slots 0
theorem rmz_of {rm2 : Room} {nL2 a b : Nat} (h : rmz rm2 nL2 = true) (ha : a ≤ 600000) (hb : b ≤ 7302250) : RM room_1 rm2 nL2 a b ∧ rm2.cells = 0 ∧ rm2.slots = 0 := by
  unfold rmz at h
  simp only [Bool.and_eq_true, Nat.ble_eq] at h
  have e1 := Nat.eq_of_beq_eq_true h.1.2
  have e2 := Nat.eq_of_beq_eq_true h.2
  refine ⟨⟨⟨h.1.1.1, h.1.1.2⟩, ?_, ?_⟩, e1, e2⟩
  · rw [e1]; exact ha
  · rw [e2]; exact hb
section
variable {κ : Kx} {G : GT} {y : MethodName} {ret : Option FieldType} {pc : Nat} {st : List Value} {a b : Nat} {Q : State → Prop} {index : Nat} {ws : va_W} {lv : List (Nat × Value)}
variable {bb L ox om : Nat} {xs : Nat → Int32} {i k : Int}
theorem X.sld (C : Cx κ G y code ret 4 room_1) (hX : Sc κ bb L xs) (hin : inb i L = true) (hd : decode code pc = .ok (.iaload, 1)) (kk : X κ G 4 ws (pc + 1) lv (vi (xi xs (ix i)) :: st) a b Q) : X κ G 4 ws pc lv (vi i :: .ref bb :: st) a b Q := fun H locs ls hP hD hS hl => va_sld C.ex C.cd hX.1 hX.2.1 hX.2.2 hS (inb_in hin) hd (by
  have k2 := kk H locs ls hP hD hS hl
  unfold xi at k2
  rw [vi, Int32.ofInt_toInt] at k2
  exact k2)
theorem X.scl (C : Cx κ G y code ret 4 room_1) (hX : Sc κ bb L xs) (hd : decode code pc = .ok (.arraylength, 1)) (kk : X κ G 4 ws (pc + 1) lv (vi (L : Int) :: st) a b Q) : X κ G 4 ws pc lv (.ref bb :: st) a b Q := fun H locs ls hP hD hS hl => va_slen C.ex C.cd hX.1 hX.2.1 hX.2.2 hS hd (by
  have k2 := kk H locs ls hP hD hS hl
  rw [vi, show Int32.ofInt (L : Int) = Int32.ofNat L from (Int32.ofInt_eq_ofNat).symm ▸ rfl] at k2
  exact k2)
/-- one argument -/
theorem X.arg (C : Cx κ G y code ret 4 room_1) (hX : Sc κ bb L xs) (hi : 0 ≤ i) (hk : 0 ≤ k) (hL : i + k < L) (hL2 : L ≤ 3584) (h0 : decode code pc = .ok (.aload_n 0, 1)) (h1 : decode code (pc + 1) = .ok (.iload_n 3, 1)) (h2 : decode code (pc + 2) = .ok (.iconst k, 1)) (h3 : decode code (pc + 3) = .ok (.iadd, 1)) (h4 : decode code (pc + 4) = .ok (.iaload, 1)) (kk : X κ G 4 ws (pc + 5) (lvL bb ox om i) (vi (xi xs (i + k).toNat) :: st) a b Q) : X κ G 4 ws pc (lvL bb ox om i) st a b Q := by
  refine X.aload_n C h0 rfl 3 rfl ?_
  refine X.iload_n C h1 rfl 0 rfl ?_
  refine X.iconst C h2 ?_
  refine X.iadd C h3 ?_
  refine X.sld C hX (inb_t (by omega) hL (by omega)) h4 ?_
  rw [ix_e (by omega) (by omega)]
  exact kk
theorem X.arg6 (C : Cx κ G y code ret 4 room_1) (hX : Sc κ bb L xs) (hi : 0 ≤ i) (hL : i + 6 < L) (hL2 : L ≤ 3584) (h0 : decode code pc = .ok (.aload_n 0, 1)) (h1 : decode code (pc + 1) = .ok (.iload_n 3, 1)) (h2 : decode code (pc + 2) = .ok (.bipush 6, 2)) (h3 : decode code (pc + 4) = .ok (.iadd, 1)) (h4 : decode code (pc + 5) = .ok (.iaload, 1)) (kk : X κ G 4 ws (pc + 6) (lvL bb ox om i) (vi (xi xs (i + 6).toNat) :: st) a b Q) : X κ G 4 ws pc (lvL bb ox om i) st a b Q := by
  refine X.aload_n C h0 rfl 3 rfl ?_
  refine X.iload_n C h1 rfl 0 rfl ?_
  refine X.bipush C h2 (by decide) ?_
  refine X.iadd C h3 ?_
  refine X.sld C hX (inb_t (by omega) hL (by omega)) h4 ?_
  rw [ix_e (by omega) (by omega)]
  exact kk
variable {y2 : MethodName} {cc2 : ByteArray} {nL2 n : Nat} {ret2 : Option FieldType} {rm2 : Room} {As rest : List Value} {q : Nat → Nat → Nat} {J : Nat → Bool} {T T' : Nat → Ob} {qm : Nat → Nat} {M M' : Ob} {r : Int}
/-- the class is called -/
theorem X.callC (C : Cx κ G y code ret 4 room_1) (hd : decode code pc = .ok (.invokevirtual index, 3)) (hl : Cond.methodLink y.cls index y2 ∈ UW) (hM : MV y2 cc2 nL2 ret2 n) (hC : CT κ.2.1 G y2 cc2 nL2 ret2 rm2 (.ref (q 11 31) :: As) (W_T G q T) (W_T G q T') (some (vi r))) (hfr : ∀ k, 11 ≤ k → T' k = T k) (hy : y2.cls = RX7) (hn : As.length = n) (hst : st = As.reverse ++ .ref (q 11 31) :: rest) (hW : catOk rest = true) (hR : rmz rm2 nL2 = true) (ha : a ≤ 600000) (hb : b ≤ 7302250) (kk : X κ G 4 (WL G q J T' qm M) (pc + 3) lv (vi r :: rest) a b Q) : X κ G 4 (WL G q J T qm M) pc lv st a b Q := by
  obtain ⟨r1, r2, r3⟩ := rmz_of (a := a) (b := b) hR ha hb
  refine X.callV0 (q0 := 0) (As := As) (rest := rest) (ci := 7) (T := TX7) (N := 7) (ws2 := W_T G q T' ++ (IM G q J T ++ W_M G qm M)) C hd hl hM hC (Ln.head _ _ _) rfl (by rw [hy]; rfl) hn hst (cat_of hW) r1 ?_
  rw [r2, r3]
  unfold WL at kk
  rw [IM_c hfr] at kk
  exact kk
/-- the model is called -/
theorem X.callM (C : Cx κ G y code ret 4 room_1) (hd : decode code pc = .ok (.invokevirtual index, 3)) (hl : Cond.methodLink y.cls index y2 ∈ UW) (hM : MV y2 cc2 nL2 ret2 n) (hC : CT κ.2.1 G y2 cc2 nL2 ret2 rm2 (.ref (qm 31) :: As) (W_M G qm M) (W_M G qm M') (some (vi r))) (hy : y2.cls = RX8) (hn : As.length = n) (hst : st = As.reverse ++ .ref (qm 31) :: rest) (hW : catOk rest = true) (hR : rmz rm2 nL2 = true) (ha : a ≤ 600000) (hb : b ≤ 7302250) (kk : X κ G 4 (WL G q J T qm M') (pc + 3) lv (vi r :: rest) a b Q) : X κ G 4 (WL G q J T qm M) pc lv st a b Q := by
  obtain ⟨r1, r2, r3⟩ := rmz_of (a := a) (b := b) hR ha hb
  refine X.permP WL_perm ?_
  refine X.callV0 (q0 := 0) (As := As) (rest := rest) (ci := 8) (T := TX8) (N := 29) (ws2 := W_M G qm M' ++ (W_T G q T ++ IM G q J T)) C hd hl hM hC (Ln.head _ _ _) rfl (by rw [hy]; rfl) hn hst (cat_of hW) r1 ?_
  rw [r2, r3]
  exact X.permP WL_perm.symm kk
/-- both answers are the same -/
theorem X.same {z : Int} {tgt : Nat} {off : Int} (C : Cx κ G y code ret 4 room_1) (hd : decode code pc = .ok (.if_icmp .eq off, 3)) (ht : (pc : Int) + off = (tgt : Int)) (k : X κ G 4 ws tgt lv [] a b Q) : X κ G 4 ws pc lv [vi z, vi z] a b Q := X.icmp_eq (T := some 1) (F := some 0) (r := some (1 : Nat)) C (bq_t rfl) hd ht (fun _ => k) (fun c => absurd c (by decide))
end
