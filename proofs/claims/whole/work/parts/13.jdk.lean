/-! the JDK's own: filling a row, a word's length and letters -/
def filA (n : Nat) (v : Int) (f : Nat → Int) : Nat → Int := fun j => cond (Nat.blt j n) v (f j)
theorem blt_t {j n : Nat} (h : j < n) : Nat.blt j n = true := Nat.ble_eq_true_of_le h
theorem blt_f {j n : Nat} (h : ¬ j < n) : Nat.blt j n = false := by
  cases hh : Nat.blt j n with
  | false => rfl
  | true => exact absurd (Nat.le_of_ble_eq_true hh) h
theorem filA_0 (v : Int) (f : Nat → Int) : filA 0 v f = f := by
  funext j
  unfold filA
  rw [blt_f (by omega)]
  rfl
theorem filA_s (i : Nat) (v : Int) (f : Nat → Int) : up1 (filA i v f) i v = filA (i + 1) v f := by
  funext j
  unfold up1 filA
  by_cases h : j = i
  · subst h
    rw [Nat.beq_refl, blt_t (show j < j + 1 by omega)]
    rfl
  · rw [beq_no h]
    by_cases h2 : j < i
    · rw [blt_t h2, blt_t (show j < i + 1 by omega)]
      rfl
    · rw [blt_f h2, blt_f (show ¬ j < i + 1 by omega)]
      rfl
theorem i32_nat (n : Nat) : i32 (n : Int) = nI n := Int32.ofInt_eq_ofNat
theorem ix_nat {n : Nat} (h : n < 2 ^ 31) : ix (n : Int) = n := by
  unfold ix
  rw [i32_nat]
  exact nI_clamp h
theorem inb_nat {i n : Nat} (h : i < n) (hn : n < 2 ^ 31) : inb (i : Int) n = true := by
  unfold inb
  rw [ix_nat (by omega), i32_nat]
  have h1 := nI_pos (n := i) (by omega)
  simp [h1]
  omega
theorem gd_in {c : Bool} (h : c = true) : gd c (some ()) = some () := by rw [h]; rfl
section
variable {κ : Kx} {G : GT} {y : MethodName} {cc : ByteArray} {ret : Option FieldType} {nL : Nat} {rm : Room} {ws : va_W} {pc : Nat} {lv : List (Nat × Value)} {st : List Value} {a b : Nat} {Q : State → Prop}
theorem X.icmp_geR {x z : Int} {off : Int} {tgt : Nat} (C : Cx κ G y cc ret nL rm) (hd : decode cc pc = .ok (.if_icmp .ge off, 3)) (ht : (pc : Int) + off = (tgt : Int)) (kt : i32 z ≤ i32 x → X κ G nL ws tgt lv st a b Q) (kf : ¬ i32 z ≤ i32 x → X κ G nL ws (pc + 3) lv st a b Q) : X κ G nL ws pc lv (vi z :: vi x :: st) a b Q := fun H locs ls hP hD hS hl => lv_icmp_ge C.ex C.cd hd ht (fun c => kt c H locs ls hP hD hS hl) (fun c => kf c H locs ls hP hD hS hl)
theorem X.icmp_ltR {x z : Int} {off : Int} {tgt : Nat} (C : Cx κ G y cc ret nL rm) (hd : decode cc pc = .ok (.if_icmp .lt off, 3)) (ht : (pc : Int) + off = (tgt : Int)) (kt : i32 x < i32 z → X κ G nL ws tgt lv st a b Q) (kf : ¬ i32 x < i32 z → X κ G nL ws (pc + 3) lv st a b Q) : X κ G nL ws pc lv (vi z :: vi x :: st) a b Q := fun H locs ls hP hD hS hl => lv_icmp_lt C.ex C.cd hd ht (fun c => kt c H locs ls hP hD hS hl) (fun c => kf c H locs ls hP hD hS hl)
theorem X.if_ltR {x : Int} {off : Int} {tgt : Nat} (C : Cx κ G y cc ret nL rm) (hd : decode cc pc = .ok (.ifCond .lt off, 3)) (ht : (pc : Int) + off = (tgt : Int)) (kt : i32 x < 0 → X κ G nL ws tgt lv st a b Q) (kf : ¬ i32 x < 0 → X κ G nL ws (pc + 3) lv st a b Q) : X κ G nL ws pc lv (vi x :: st) a b Q := fun H locs ls hP hD hS hl => lv_if_lt C.ex C.cd hd ht (fun c => kt c H locs ls hP hD hS hl) (fun c => kf c H locs ls hP hD hS hl)
theorem X.if_eqR {x : Int} {off : Int} {tgt : Nat} (C : Cx κ G y cc ret nL rm) (hd : decode cc pc = .ok (.ifCond .eq off, 3)) (ht : (pc : Int) + off = (tgt : Int)) (kt : i32 x = 0 → X κ G nL ws tgt lv st a b Q) (kf : ¬ i32 x = 0 → X κ G nL ws (pc + 3) lv st a b Q) : X κ G nL ws pc lv (vi x :: st) a b Q := fun H locs ls hP hD hS hl => lv_if_eq C.ex C.cd hd ht (fun c => kt c H locs ls hP hD hS hl) (fun c => kf c H locs ls hP hD hS hl)
theorem X.if_neR {x : Int} {off : Int} {tgt : Nat} (C : Cx κ G y cc ret nL rm) (hd : decode cc pc = .ok (.ifCond .ne off, 3)) (ht : (pc : Int) + off = (tgt : Int)) (kt : ¬ i32 x = 0 → X κ G nL ws tgt lv st a b Q) (kf : i32 x = 0 → X κ G nL ws (pc + 3) lv st a b Q) : X κ G nL ws pc lv (vi x :: st) a b Q := fun H locs ls hP hD hS hl => lv_if_ne C.ex C.cd hd ht (fun c => kt c H locs ls hP hD hS hl) (fun c => kf c H locs ls hP hD hS hl)
theorem X.nret {z : Int} {ty : FieldType} {mc ms : Nat} (C : Cx κ G y cc (some ty) nL rm) (hz : narrow ty (vi z) = vi z) (hd : decode cc pc = .ok (.ireturn, 1)) (h1 : a ≤ mc) (h2 : b ≤ ms) : X κ G nL ws pc lv [vi z] a b (QM κ G ws (some (vi z)) mc ms) := fun H locs ls hP hD hS hl => W.widen h1 h2 (W.zret C.ex C.cd C.rt hz (fun t ht hW => ⟨rfl, ⟨by rw [ht]; exact hP, va_K.moved hW.alike C.kk, hD⟩, hS.F ht⟩) hS.2.2 hd C.lk)
end
def rJ7_fill_53178 : Room := { frames := 0, cells := 0, slots := 0, locals := 0 }
def rJ7_fill_d0a16 : Room := { frames := 0, cells := 0, slots := 0, locals := 0 }
theorem mJ7_fill_53178 : MS yJ7_fill_53178 cJ7_fill_53178 4 none 2 := ⟨cd_J7_fill_53178, in_java_util_Arrays, ⟨⟨by decide, by decide⟩, by decide +kernel⟩, sm_J7_fill_53178⟩
theorem mJ7_fill_d0a16 : MS yJ7_fill_d0a16 cJ7_fill_d0a16 5 none 2 := ⟨cd_J7_fill_d0a16, in_java_util_Arrays, ⟨⟨by decide, by decide⟩, by decide +kernel⟩, sm_J7_fill_d0a16⟩
theorem fillI_loop {κ : Kx} {G : GT} {o n : Nat} {f : Nat → Int} {v : Int} (hn : n < 2 ^ 31) (C : Cx κ G yJ7_fill_53178 cJ7_fill_53178 none 4 rJ7_fill_53178) : ∀ (k i : Nat), i + k = n → X κ G 4 [(o, aI G n (filA i v f))] 5 [(0, .ref o), (1, vi v), (2, vi (i : Int)), (3, vi (n : Int))] [] 0 0 (QM κ G [(o, aI G n (filA n v f))] none rJ7_fill_53178.cells rJ7_fill_53178.slots) := by
  intro k
  induction k with
  | zero =>
    intro i hi
    obtain rfl : i = n := by omega
    refine X.iload_n C dJ7_fill_53178_5 rfl 2 rfl ?_
    refine X.iload_n C dJ7_fill_53178_6 rfl 3 rfl ?_
    refine X.icmp_geR (tgt := 20) C dJ7_fill_53178_7 (by decide) (fun _ => ?_) (fun c => absurd (Int32.le_refl _) c)
    exact X.vret C dJ7_fill_53178_20 (Nat.zero_le _) (Nat.zero_le _)
  | succ k ih =>
    intro i hi
    refine X.iload_n C dJ7_fill_53178_5 rfl 2 rfl ?_
    refine X.iload_n C dJ7_fill_53178_6 rfl 3 rfl ?_
    refine X.icmp_geR (tgt := 20) C dJ7_fill_53178_7 (by decide) (fun c => absurd c ?_) (fun c => ?_)
    · rw [i32_nat, i32_nat]
      exact nI_ge (by omega) hn
    refine X.aload_n C dJ7_fill_53178_10 rfl 0 rfl ?_
    refine X.iload_n C dJ7_fill_53178_11 rfl 2 rfl ?_
    refine X.iload_n C dJ7_fill_53178_12 rfl 1 rfl ?_
    refine X.iast (ws2 := [(o, aI G n (filA (i + 1) v f))]) C (gd_in (inb_nat (i := i) (by omega) hn)) dJ7_fill_53178_13 0 rfl ?_ (fun _ => ?_)
    · rw [ix_nat (by omega), filA_s]; rfl
    refine X.iincN (f := fun x => some x) (r := some ((i : Int) + 1)) (lv2 := fun x => [(2, vi x), (0, .ref o), (1, vi v), (3, vi (n : Int))]) C rfl dJ7_fill_53178_14 2 rfl (by decide) (fun _ => rfl) (fun x h => ?_)
    cases h
    refine X.goto (tgt := 5) C dJ7_fill_53178_17 (by decide) ?_
    refine X.sub [1, 2, 0, 3] rfl ?_
    exact ih (i + 1) (by omega)
theorem kJ7_fill_53178 {l : Launch} {G : GT} {o n : Nat} {f : Nat → Int} {v : Int} (hn : n < 2 ^ 31) : CT l G yJ7_fill_53178 cJ7_fill_53178 4 none rJ7_fill_53178 [.ref o, vi v] [(o, aI G n f)] [(o, aI G n (filA n v f))] none := by
  refine CT.of (by decide) (Nat.le_of_ble_eq_true rfl) rfl (fun κ _ C => ?_)
  refine X.iconst C dJ7_fill_53178_0 ?_
  refine X.istore_n (lv2 := [(2, vi 0), (0, .ref o), (1, vi v)]) C dJ7_fill_53178_1 rfl (by decide) rfl ?_
  refine X.aload_n C dJ7_fill_53178_2 rfl 1 rfl ?_
  refine X.alen (z := (n : Int)) C dJ7_fill_53178_3 0 0 rfl rfl (i32_nat n).symm ?_
  refine X.istore_n (lv2 := [(3, vi (n : Int)), (2, vi 0), (0, .ref o), (1, vi v)]) C dJ7_fill_53178_4 rfl (by decide) rfl ?_
  refine X.sub [2, 3, 1, 0] rfl ?_
  have h := fillI_loop (f := f) (v := v) (o := o) hn C n 0 (by omega)
  rw [filA_0] at h
  exact h
theorem fillL_loop {κ : Kx} {G : GT} {o n : Nat} {f : Nat → Int} {v : Int} (hn : n < 2 ^ 31) (C : Cx κ G yJ7_fill_d0a16 cJ7_fill_d0a16 none 5 rJ7_fill_d0a16) : ∀ (k i : Nat), i + k = n → X κ G 5 [(o, aJ G n (filA i v f))] 6 [(0, .ref o), (1, vl v), (3, vi (i : Int)), (4, vi (n : Int))] [] 0 0 (QM κ G [(o, aJ G n (filA n v f))] none rJ7_fill_d0a16.cells rJ7_fill_d0a16.slots) := by
  intro k
  induction k with
  | zero =>
    intro i hi
    obtain rfl : i = n := by omega
    refine X.iload_n C dJ7_fill_d0a16_6 rfl 2 rfl ?_
    refine X.iload C dJ7_fill_d0a16_7 3 rfl ?_
    refine X.icmp_geR (tgt := 22) C dJ7_fill_d0a16_9 (by decide) (fun _ => ?_) (fun c => absurd (Int32.le_refl _) c)
    exact X.vret C dJ7_fill_d0a16_22 (Nat.zero_le _) (Nat.zero_le _)
  | succ k ih =>
    intro i hi
    refine X.iload_n C dJ7_fill_d0a16_6 rfl 2 rfl ?_
    refine X.iload C dJ7_fill_d0a16_7 3 rfl ?_
    refine X.icmp_geR (tgt := 22) C dJ7_fill_d0a16_9 (by decide) (fun c => absurd c ?_) (fun c => ?_)
    · rw [i32_nat, i32_nat]
      exact nI_ge (by omega) hn
    refine X.aload_n C dJ7_fill_d0a16_12 rfl 0 rfl ?_
    refine X.iload_n C dJ7_fill_d0a16_13 rfl 2 rfl ?_
    refine X.lload_n C dJ7_fill_d0a16_14 rfl 1 rfl ?_
    refine X.last (ws2 := [(o, aJ G n (filA (i + 1) v f))]) C (gd_in (inb_nat (i := i) (by omega) hn)) dJ7_fill_d0a16_15 0 rfl ?_ (fun _ => ?_)
    · rw [ix_nat (by omega), filA_s]; rfl
    refine X.iincN (f := fun x => some x) (r := some ((i : Int) + 1)) (lv2 := fun x => [(3, vi x), (0, .ref o), (1, vl v), (4, vi (n : Int))]) C rfl dJ7_fill_d0a16_16 2 rfl (by decide) (fun _ => rfl) (fun x h => ?_)
    cases h
    refine X.goto (tgt := 6) C dJ7_fill_d0a16_19 (by decide) ?_
    refine X.sub [1, 2, 0, 3] rfl ?_
    exact ih (i + 1) (by omega)
theorem kJ7_fill_d0a16 {l : Launch} {G : GT} {o n : Nat} {f : Nat → Int} {v : Int} (hn : n < 2 ^ 31) : CT l G yJ7_fill_d0a16 cJ7_fill_d0a16 5 none rJ7_fill_d0a16 [.ref o, vl v] [(o, aJ G n f)] [(o, aJ G n (filA n v f))] none := by
  refine CT.of (by decide) (Nat.le_of_ble_eq_true rfl) rfl (fun κ _ C => ?_)
  refine X.iconst C dJ7_fill_d0a16_0 ?_
  refine X.istore_n (lv2 := [(3, vi 0), (0, .ref o), (1, vl v)]) C dJ7_fill_d0a16_1 rfl (by decide) rfl ?_
  refine X.aload_n C dJ7_fill_d0a16_2 rfl 1 rfl ?_
  refine X.alen (z := (n : Int)) C dJ7_fill_d0a16_3 0 2 rfl rfl (i32_nat n).symm ?_
  refine X.istore (lv2 := [(4, vi (n : Int)), (3, vi 0), (0, .ref o), (1, vl v)]) C dJ7_fill_d0a16_4 (by decide) rfl ?_
  refine X.sub [2, 3, 1, 0] rfl ?_
  have h := fillL_loop (f := f) (v := v) (o := o) hn C n 0 (by omega)
  rw [filA_0] at h
  exact h
section
variable {κ : Kx} {G : GT} {y : MethodName} {cc : ByteArray} {ret : Option FieldType} {nL : Nat} {rm : Room} {ws ws2 : va_W} {pc : Nat} {lv : List (Nat × Value)} {st : List Value} {a b : Nat} {Q : State → Prop} {index o n : Nat} {f : Nat → Int} {v : Int}
theorem X.fillI (C : Cx κ G y cc ret nL rm) (hd : decode cc pc = .ok (.invokestatic index, 3)) (hl : Cond.methodLink y.cls index yJ7_fill_53178 ∈ UW) (hL : Ln ws [(o, aI G n f)] [(o, aI G n (filA n v f))] ws2) (hR : rmOk rm rJ7_fill_53178 4 a b = true) (hW : catOk st = true) (hn : n < 2 ^ 31) (k : X κ G nL ws2 (pc + 3) lv st a b Q) : X κ G nL ws pc lv (vi v :: .ref o :: st) a b Q := X.callS0 (As := [.ref o, vi v]) (rest := st) C hd hl mJ7_fill_53178 (kJ7_fill_53178 hn) hL rfl rfl (cat_of hW) (RM.of hR) k
theorem X.fillL (C : Cx κ G y cc ret nL rm) (hd : decode cc pc = .ok (.invokestatic index, 3)) (hl : Cond.methodLink y.cls index yJ7_fill_d0a16 ∈ UW) (hL : Ln ws [(o, aJ G n f)] [(o, aJ G n (filA n v f))] ws2) (hR : rmOk rm rJ7_fill_d0a16 5 a b = true) (hW : catOk st = true) (hn : n < 2 ^ 31) (k : X κ G nL ws2 (pc + 3) lv st a b Q) : X κ G nL ws pc lv (vl v :: .ref o :: st) a b Q := X.callS0 (As := [.ref o, vl v]) (rest := st) C hd hl mJ7_fill_d0a16 (kJ7_fill_d0a16 hn) hL rfl rfl (cat_of hW) (RM.of hR) k
end
/-! words -/
def rJ0_coder_7d493 : Room := { frames := 0, cells := 0, slots := 0, locals := 0 }
def rJ0_isLatin1_aae02 : Room := { frames := 0, cells := 0, slots := 0, locals := 0 }
def rJ0_length_8abf5 : Room := { frames := 1, cells := 0, slots := 0, locals := 20 }
def rJ3_checkIndex_8e157 : Room := { frames := 0, cells := 0, slots := 0, locals := 0 }
def rJ0_checkIndex_df160 : Room := { frames := 1, cells := 0, slots := 0, locals := 22 }
def rJ1_charAt_3b067 : Room := { frames := 2, cells := 0, slots := 0, locals := 43 }
def rJ0_charAt_5068e : Room := { frames := 3, cells := 0, slots := 0, locals := 64 }
theorem mJ0_coder_7d493 : MV yJ0_coder_7d493 cJ0_coder_7d493 1 (some .byte) 0 := ⟨cd_J0_coder_7d493, in_java_lang_String, ⟨⟨by decide, by decide⟩, by decide +kernel⟩, im_J0_coder_7d493, se_J0_coder_7d493⟩
theorem mJ0_isLatin1_aae02 : MV yJ0_isLatin1_aae02 cJ0_isLatin1_aae02 1 (some .boolean) 0 := ⟨cd_J0_isLatin1_aae02, in_java_lang_String, ⟨⟨by decide, by decide⟩, by decide +kernel⟩, im_J0_isLatin1_aae02, se_J0_isLatin1_aae02⟩
theorem mJ0_length_8abf5 : MV yJ0_length_8abf5 cJ0_length_8abf5 1 (some .int) 0 := ⟨cd_J0_length_8abf5, in_java_lang_String, ⟨⟨by decide, by decide⟩, by decide +kernel⟩, im_J0_length_8abf5, se_J0_length_8abf5⟩
theorem mJ0_charAt_5068e : MV yJ0_charAt_5068e cJ0_charAt_5068e 2 (some .char) 1 := ⟨cd_J0_charAt_5068e, in_java_lang_String, ⟨⟨by decide, by decide⟩, by decide +kernel⟩, im_J0_charAt_5068e, se_J0_charAt_5068e⟩
theorem mJ3_checkIndex_8e157 : MS yJ3_checkIndex_8e157 cJ3_checkIndex_8e157 3 (some .int) 3 := ⟨cd_J3_checkIndex_8e157, in_jdk_internal_util_Preconditions, ⟨⟨by decide, by decide⟩, by decide +kernel⟩, sm_J3_checkIndex_8e157⟩
theorem mJ0_checkIndex_df160 : MS yJ0_checkIndex_df160 cJ0_checkIndex_df160 2 none 2 := ⟨cd_J0_checkIndex_df160, in_java_lang_String, ⟨⟨by decide, by decide⟩, by decide +kernel⟩, sm_J0_checkIndex_df160⟩
theorem mJ1_charAt_3b067 : MS yJ1_charAt_3b067 cJ1_charAt_3b067 2 (some .char) 2 := ⟨cd_J1_charAt_3b067, in_java_lang_StringLatin1, ⟨⟨by decide, by decide⟩, by decide +kernel⟩, sm_J1_charAt_3b067⟩
theorem Ln.nil (ws : va_W) : Ln ws [] [] ws := by
  have h : (List.range ws.length).map (fun i => ws[i]?) = ws.map some := by
    apply List.ext_getElem?
    intro i
    rw [List.getElem?_map, List.getElem?_map]
    by_cases hi : i < ws.length
    · rw [List.getElem?_range hi]
      simp [hi]
    · rw [List.getElem?_eq_none (by simp; omega), List.getElem?_eq_none (by omega)]
      rfl
  have nd : ∀ n k, va_nd ((List.range n).map (fun i => i + k)) = true := by
    intro n
    induction n with
    | zero => intro k; rfl
    | succ n ih =>
      intro k
      rw [List.range_succ_eq_map, List.map_cons, List.map_map]
      have e : (List.range n).map ((fun i => i + k) ∘ Nat.succ) = (List.range n).map (fun i => i + (k + 1)) := by
        apply List.map_congr_left
        intro x _
        show x + 1 + k = x + (k + 1)
        omega
      rw [e]
      show (decide (0 + k ∉ _) && va_nd _) = true
      rw [ih (k + 1), Bool.and_true, decide_eq_true_eq]
      intro hm
      obtain ⟨x, -, hx⟩ := List.mem_map.mp hm
      omega
  have nd0 : va_nd (List.range ws.length) = true := by
    have h := nd ws.length 0
    rwa [show (List.range ws.length).map (fun i => i + 0) = List.range ws.length from by simp] at h
  exact Ln.of [] (List.range ws.length) (List.range ws.length) ws rfl rfl h nd0 (fun i _ hm => nomatch hm) (by rw [List.append_nil]; exact h) nd0
section
variable {κ : Kx} {G : GT} {y : MethodName} {cc : ByteArray} {ret : Option FieldType} {nL : Nat} {rm : Room} {ws : va_W} {pc : Nat} {lv : List (Nat × Value)} {st : List Value} {a b : Nat} {Q : State → Prop} {index w : Nat}
theorem X.getsCS (C : Cx κ G y cc ret nL rm) (hd : decode cc pc = .ok (.getstatic index, 3)) (hlink : Cond.fieldLink y.cls index "java/lang/String" "COMPACT_STRINGS" "Z" ∈ UW) (kk : X κ G nL ws (pc + 3) lv (vi 1 :: st) a b Q) : X κ G nL ws pc lv st a b Q := fun H locs ls hP hD hS hl => va_gets C.ex C.cd C.sf.2.2.2.2.2.1.2.1 hS C.own (C.ts _ hlink) (fun _ h => h) hd (kk H locs ls hP hD hS hl)
theorem X.strC (C : Cx κ G y cc ret nL rm) (hw : w < 18) (hd : decode cc pc = .ok (.getfield index, 3)) (hlink : Cond.fieldLink y.cls index "java/lang/String" "coder" "B" ∈ UW) (kk : X κ G nL ws (pc + 3) lv (vi 0 :: st) a b Q) : X κ G nL ws pc lv (.ref (G.2.2.2.1 w) :: st) a b Q := fun H locs ls hP hD hS hl => vk_getf C.ex C.cd (C.sf.2.2.2.2.2.1.1 w hw).2.1 hS C.own (C.ts _ hlink) (fun _ h => h) hd (kk H locs ls hP hD hS hl)
theorem X.strV (C : Cx κ G y cc ret nL rm) (hw : w < 18) (hd : decode cc pc = .ok (.getfield index, 3)) (hlink : Cond.fieldLink y.cls index "java/lang/String" "value" "[B" ∈ UW) (kk : X κ G nL ws (pc + 3) lv (.ref (G.2.2.2.2 w) :: st) a b Q) : X κ G nL ws pc lv (.ref (G.2.2.2.1 w) :: st) a b Q := fun H locs ls hP hD hS hl => vk_getf C.ex C.cd (C.sf.2.2.2.2.2.1.1 w hw).2.2.1 hS C.own (C.ts _ hlink) (fun _ h => h) hd (kk H locs ls hP hD hS hl)
theorem X.strL (C : Cx κ G y cc ret nL rm) (hw : w < 18) (hd : decode cc pc = .ok (.arraylength, 1)) (kk : X κ G nL ws (pc + 1) lv (vi (wlen w : Int) :: st) a b Q) : X κ G nL ws pc lv (.ref (G.2.2.2.2 w) :: st) a b Q := fun H locs ls hP hD hS hl => va_tlen C.ex C.cd (C.sf.2.2.2.2.2.1.1 w hw).2.2.2 hS (i32_nat _).symm hd (kk H locs ls hP hD hS hl)
theorem X.strB {i : Int} (C : Cx κ G y cc ret nL rm) (hw : w < 18) (hi : inb i (wlen w) = true) (hd : decode cc pc = .ok (.baload, 1)) (kk : X κ G nL ws (pc + 1) lv (vi (wch w (ix i)) :: st) a b Q) : X κ G nL ws pc lv (vi i :: .ref (G.2.2.2.2 w) :: st) a b Q := fun H locs ls hP hD hS hl => va_tb C.ex C.cd (C.sf.2.2.2.2.2.1.1 w hw).2.2.2 hS (inb_in hi) rfl hd (kk H locs ls hP hD hS hl)
theorem X.getsQ (C : Cx κ G y cc ret nL rm) (hd : decode cc pc = .ok (.getstatic index, 3)) (hlink : Cond.fieldLink y.cls index "jdk/internal/util/Preconditions" "SIOOBE_FORMATTER" "Ljava/util/function/BiFunction;" ∈ UW) (kk : ∀ v : Value, (v = .null ∨ ∃ t, v = .ref t) → X κ G nL ws (pc + 3) lv (v :: st) a b Q) : X κ G nL ws pc lv st a b Q := fun H locs ls hP hD hS hl => by
  rcases C.sf.2.2.2.2.2.1.2.2 with h | ⟨t, h⟩
  · exact va_gets C.ex C.cd h hS C.own (C.ts _ hlink) (fun _ h => h) hd (kk _ (Or.inl rfl) H locs ls hP hD hS hl)
  · exact va_gets C.ex C.cd h hS C.own (C.ts _ hlink) (fun _ h => h) hd (kk _ (Or.inr ⟨t, rfl⟩) H locs ls hP hD hS hl)
variable {y2 : MethodName} {cc2 : ByteArray} {nL2 : Nat} {ret2 : Option FieldType} {rm2 : Room} {As rest : List Value} {Rv : Option Value}
theorem X.callT0 {n : Nat} (C : Cx κ G y cc ret nL rm) (hw : w < 18) (hd : decode cc pc = .ok (.invokevirtual index, 3)) (hl : Cond.methodLink y.cls index y2 ∈ UW) (hM : MV y2 cc2 nL2 ret2 n) (hcl : y2.cls = "java/lang/String") (hC : CT κ.2.1 G y2 cc2 nL2 ret2 rm2 (.ref (G.2.2.2.1 w) :: As) [] [] Rv) (hn : As.length = n) (hst : st = As.reverse ++ .ref (G.2.2.2.1 w) :: rest) (hW : (rest.map fun v => v.category).sum ≤ 8) (hR : RM rm rm2 nL2 a b)
    (k : X κ G nL ws (pc + 3) lv (Rv.toList ++ rest) (a + rm2.cells) (b + rm2.slots) Q) : X κ G nL ws pc lv st a b Q := fun H locs ls hP hD hS hl2 =>
  X.after (Ln.nil ws) C hP hD hS hl2 (va_runV (As := As) (rest := rest) ⟨C.ex, C.cd, C.ml, C.own, C.ts⟩ (hC H.size) ⟨X.cb C hM.1 hM.2.1 hM.2.2.1 hl hR, C.ts _ hM.2.2.2.1, C.ts _ hM.2.2.2.2⟩ ⟨(X.pre (Ln.nil ws) C hP hD hS (as := .ref (G.2.2.2.1 w) :: As)).1, by rw [hcl]; exact va_Orecv (C.sf.2.2.2.2.2.1.1 w hw).1 hS, (X.pre (Ln.nil ws) C hP hD hS (as := .ref (G.2.2.2.1 w) :: As)).2⟩ rfl hn hl2.1 hst (lv_room hW) hd (by rw [C.room]; exact hR.2)) k
end
theorem kJ0_coder_7d493 {l : Launch} {G : GT} {w : Nat} (hw : w < 18) : CT l G yJ0_coder_7d493 cJ0_coder_7d493 1 (some .byte) rJ0_coder_7d493 [.ref (G.2.2.2.1 w)] [] [] (some (vi 0)) := by
  refine CT.of (by decide) (Nat.le_of_ble_eq_true rfl) rfl (fun κ _ C => ?_)
  refine X.getsCS C dJ0_coder_7d493_0 fl_java_lang_String_38 ?_
  refine X.if_eqR (tgt := 13) C dJ0_coder_7d493_3 (by decide) (fun c => absurd c (by decide)) (fun _ => ?_)
  refine X.aload_n C dJ0_coder_7d493_6 rfl 0 rfl ?_
  refine X.strC C hw dJ0_coder_7d493_7 fl_java_lang_String_15 ?_
  refine X.goto (tgt := 14) C dJ0_coder_7d493_10 (by decide) ?_
  exact X.nret C (by decide) dJ0_coder_7d493_14 (Nat.zero_le _) (Nat.zero_le _)
theorem kJ0_isLatin1_aae02 {l : Launch} {G : GT} {w : Nat} (hw : w < 18) : CT l G yJ0_isLatin1_aae02 cJ0_isLatin1_aae02 1 (some .boolean) rJ0_isLatin1_aae02 [.ref (G.2.2.2.1 w)] [] [] (some (vi 1)) := by
  refine CT.of (by decide) (Nat.le_of_ble_eq_true rfl) rfl (fun κ _ C => ?_)
  refine X.getsCS C dJ0_isLatin1_aae02_0 fl_java_lang_String_38 ?_
  refine X.if_eqR (tgt := 17) C dJ0_isLatin1_aae02_3 (by decide) (fun c => absurd c (by decide)) (fun _ => ?_)
  refine X.aload_n C dJ0_isLatin1_aae02_6 rfl 0 rfl ?_
  refine X.strC C hw dJ0_isLatin1_aae02_7 fl_java_lang_String_15 ?_
  refine X.if_neR (tgt := 17) C dJ0_isLatin1_aae02_10 (by decide) (fun c => absurd (by decide) c) (fun _ => ?_)
  refine X.iconst C dJ0_isLatin1_aae02_13 ?_
  refine X.goto (tgt := 18) C dJ0_isLatin1_aae02_14 (by decide) ?_
  exact X.zret C rfl dJ0_isLatin1_aae02_18 (Nat.zero_le _) (Nat.zero_le _)
theorem wlen_sr : ∀ w, w < 18 → i32 (jsr (wlen w : Int) 0) = i32 (wlen w : Int) := by decide +kernel
theorem kJ0_length_8abf5 {l : Launch} {G : GT} {w : Nat} (hw : w < 18) : CT l G yJ0_length_8abf5 cJ0_length_8abf5 1 (some .int) rJ0_length_8abf5 [.ref (G.2.2.2.1 w)] [] [] (some (vi (wlen w : Int))) := by
  refine CT.of (by decide) (Nat.le_of_ble_eq_true rfl) rfl (fun κ _ C => ?_)
  refine X.aload_n C dJ0_length_8abf5_0 rfl 0 rfl ?_
  refine X.strV C hw dJ0_length_8abf5_1 fl_java_lang_String_9 ?_
  refine X.strL C hw dJ0_length_8abf5_4 ?_
  refine X.aload_n C dJ0_length_8abf5_5 rfl 0 rfl ?_
  refine X.callT0 (As := []) (rest := [vi (wlen w : Int)]) C hw dJ0_length_8abf5_6 ml_java_lang_String_335 mJ0_coder_7d493 rfl (kJ0_coder_7d493 hw) rfl rfl (Nat.le_of_ble_eq_true rfl) (RM.of rfl) ?_
  refine X.ishr (x := (wlen w : Int)) (z := 0) C dJ0_length_8abf5_9 ?_
  rw [show vi (jsr (wlen w : Int) 0) = vi (wlen w : Int) from congrArg Value.int (wlen_sr w hw)]
  exact X.iret C dJ0_length_8abf5_10 (Nat.zero_le _) (Nat.zero_le _)
theorem kJ3_checkIndex_8e157 {l : Launch} {G : GT} {i n : Int} {v : Value} (hv : v = .null ∨ ∃ t, v = .ref t) (h0 : ¬ i32 i < 0) (h1 : i32 i < i32 n) : CT l G yJ3_checkIndex_8e157 cJ3_checkIndex_8e157 3 (some .int) rJ3_checkIndex_8e157 [vi i, vi n, v] [] [] (some (vi i)) := by
  rcases hv with rfl | ⟨t, rfl⟩
  · refine CT.of (by decide) (Nat.le_of_ble_eq_true rfl) rfl (fun κ _ C => ?_)
    refine X.iload_n C dJ3_checkIndex_8e157_0 rfl 0 rfl ?_
    refine X.if_ltR (tgt := 9) C dJ3_checkIndex_8e157_1 (by decide) (fun c => absurd c h0) (fun _ => ?_)
    refine X.iload_n C dJ3_checkIndex_8e157_4 rfl 0 rfl ?_
    refine X.iload_n C dJ3_checkIndex_8e157_5 rfl 1 rfl ?_
    refine X.icmp_ltR (tgt := 16) C dJ3_checkIndex_8e157_6 (by decide) (fun _ => ?_) (fun c => absurd h1 c)
    refine X.iload_n C dJ3_checkIndex_8e157_16 rfl 0 rfl ?_
    exact X.iret C dJ3_checkIndex_8e157_17 (Nat.zero_le _) (Nat.zero_le _)
  · refine CT.of (by decide) (Nat.le_of_ble_eq_true rfl) rfl (fun κ _ C => ?_)
    refine X.iload_n C dJ3_checkIndex_8e157_0 rfl 0 rfl ?_
    refine X.if_ltR (tgt := 9) C dJ3_checkIndex_8e157_1 (by decide) (fun c => absurd c h0) (fun _ => ?_)
    refine X.iload_n C dJ3_checkIndex_8e157_4 rfl 0 rfl ?_
    refine X.iload_n C dJ3_checkIndex_8e157_5 rfl 1 rfl ?_
    refine X.icmp_ltR (tgt := 16) C dJ3_checkIndex_8e157_6 (by decide) (fun _ => ?_) (fun c => absurd h1 c)
    refine X.iload_n C dJ3_checkIndex_8e157_16 rfl 0 rfl ?_
    exact X.iret C dJ3_checkIndex_8e157_17 (Nat.zero_le _) (Nat.zero_le _)
theorem kJ0_checkIndex_df160 {l : Launch} {G : GT} {i n : Int} (h0 : ¬ i32 i < 0) (h1 : i32 i < i32 n) : CT l G yJ0_checkIndex_df160 cJ0_checkIndex_df160 2 none rJ0_checkIndex_df160 [vi i, vi n] [] [] none := by
  refine CT.of (by decide) (Nat.le_of_ble_eq_true rfl) rfl (fun κ _ C => ?_)
  refine X.iload_n C dJ0_checkIndex_df160_0 rfl 0 rfl ?_
  refine X.iload_n C dJ0_checkIndex_df160_1 rfl 1 rfl ?_
  refine X.getsQ C dJ0_checkIndex_df160_2 fl_java_lang_String_1053 (fun v hv => ?_)
  refine X.callS0 (As := [vi i, vi n, v]) (rest := []) C dJ0_checkIndex_df160_5 ml_java_lang_String_1059 mJ3_checkIndex_8e157 (kJ3_checkIndex_8e157 hv h0 h1) (Ln.nil _) rfl rfl (Nat.zero_le _) (RM.of rfl) ?_
  refine X.pop (v := vi i) C dJ0_checkIndex_df160_8 rfl ?_
  exact X.vret C dJ0_checkIndex_df160_9 (Nat.zero_le _) (Nat.zero_le _)
theorem wch_ok : ∀ w, w < 18 → ∀ j, j < wlen w → ((i32 (jan (wch w j) 255)).toUInt32 % 65536).toInt32 = i32 (wch w j) ∧ narrow .char (vi (wch w j)) = vi (wch w j) := by decide +kernel
theorem kJ1_charAt_3b067 {l : Launch} {G : GT} {w : Nat} {i : Int} (hw : w < 18) (hi : inb i (wlen w) = true) : CT l G yJ1_charAt_3b067 cJ1_charAt_3b067 2 (some .char) rJ1_charAt_3b067 [.ref (G.2.2.2.2 w), vi i] [] [] (some (vi (wch w (ix i)))) := by
  have h0 : ¬ i32 i < 0 := fun h => inb_in hi (Or.inl h)
  have h2 : ix i < wlen w := ix_lt hi
  have h1 : i32 i < i32 (wlen w : Int) := by
    obtain ⟨j, hj, e⟩ := nI_of h0
    have e2 : ix i = j := by unfold ix; rw [e]; exact nI_clamp hj
    have hlt : wlen w < 2 ^ 31 := (by decide +kernel : ∀ w, w < 18 → wlen w < 2 ^ 31) w hw
    rw [e, i32_nat]
    exact nI_lt (by omega) hlt
  refine CT.of (by decide) (Nat.le_of_ble_eq_true rfl) rfl (fun κ _ C => ?_)
  refine X.iload_n C dJ1_charAt_3b067_0 rfl 1 rfl ?_
  refine X.aload_n C dJ1_charAt_3b067_1 rfl 0 rfl ?_
  refine X.strL C hw dJ1_charAt_3b067_2 ?_
  refine X.callS0 (As := [vi i, vi (wlen w : Int)]) (rest := []) C dJ1_charAt_3b067_3 ml_java_lang_StringLatin1_9 mJ0_checkIndex_df160 (kJ0_checkIndex_df160 h0 h1) (Ln.nil _) rfl rfl (Nat.zero_le _) (RM.of rfl) ?_
  refine X.aload_n C dJ1_charAt_3b067_6 rfl 0 rfl ?_
  refine X.iload_n C dJ1_charAt_3b067_7 rfl 1 rfl ?_
  refine X.strB C hw hi dJ1_charAt_3b067_8 ?_
  refine X.sipush C dJ1_charAt_3b067_9 (by decide) ?_
  refine X.iand C dJ1_charAt_3b067_12 ?_
  have hk := wch_ok w hw (ix i) h2
  have K : X κ G 2 [] 14 [(0, .ref (G.2.2.2.2 w)), (1, vi i)] [vi (wch w (ix i))] 0 0 (QM κ G [] (some (vi (wch w (ix i)))) rJ1_charAt_3b067.cells rJ1_charAt_3b067.slots) := X.nret C hk.2 dJ1_charAt_3b067_14 (Nat.zero_le _) (Nat.zero_le _)
  exact fun H locs ls hP hD hS hl => lv_i2c C.ex C.cd dJ1_charAt_3b067_13 hk.1 (K H locs ls hP hD hS hl)
theorem kJ0_charAt_5068e {l : Launch} {G : GT} {w : Nat} {i : Int} (hw : w < 18) (hi : inb i (wlen w) = true) : CT l G yJ0_charAt_5068e cJ0_charAt_5068e 2 (some .char) rJ0_charAt_5068e [.ref (G.2.2.2.1 w), vi i] [] [] (some (vi (wch w (ix i)))) := by
  refine CT.of (by decide) (Nat.le_of_ble_eq_true rfl) rfl (fun κ _ C => ?_)
  refine X.aload_n C dJ0_charAt_5068e_0 rfl 0 rfl ?_
  refine X.callT0 (As := []) (rest := []) C hw dJ0_charAt_5068e_1 ml_java_lang_String_492 mJ0_isLatin1_aae02 rfl (kJ0_isLatin1_aae02 hw) rfl rfl (Nat.zero_le _) (RM.of rfl) ?_
  refine X.if_eqR (x := 1) (tgt := 16) C dJ0_charAt_5068e_4 (by decide) (fun c => absurd c (by decide)) (fun _ => ?_)
  refine X.aload_n C dJ0_charAt_5068e_7 rfl 0 rfl ?_
  refine X.strV C hw dJ0_charAt_5068e_8 fl_java_lang_String_9 ?_
  refine X.iload_n C dJ0_charAt_5068e_11 rfl 1 rfl ?_
  refine X.callS0 (As := [.ref (G.2.2.2.2 w), vi i]) (rest := []) C dJ0_charAt_5068e_12 ml_java_lang_String_495 mJ1_charAt_3b067 (kJ1_charAt_3b067 hw hi) (Ln.nil _) rfl rfl (Nat.zero_le _) (RM.of rfl) ?_
  exact X.nret C (wch_ok w hw (ix i) (ix_lt hi)).2 dJ0_charAt_5068e_15 (Nat.zero_le _) (Nat.zero_le _)
section
variable {κ : Kx} {G : GT} {y : MethodName} {cc : ByteArray} {ret : Option FieldType} {nL : Nat} {rm : Room} {ws : va_W} {pc : Nat} {lv : List (Nat × Value)} {st : List Value} {a b : Nat} {Q : State → Prop} {index w : Nat} {β : Type} {r : β} {T : Option β}
theorem X.slen (C : Cx κ G y cc ret nL rm) (h : gd (decide (w < 18)) T = some r) (hd : decode cc pc = .ok (.invokevirtual index, 3)) (hl : Cond.methodLink y.cls index yJ0_length_8abf5 ∈ UW) (hR : rmOk rm rJ0_length_8abf5 1 a b = true) (hW : catOk st = true) (k : T = some r → X κ G nL ws (pc + 3) lv (vi (wlen w : Int) :: st) a b Q) : X κ G nL ws pc lv (.ref (G.2.2.2.1 w) :: st) a b Q := X.callT0 (As := []) (rest := st) C (of_decide_eq_true (gd_out h).1) hd hl mJ0_length_8abf5 rfl (kJ0_length_8abf5 (of_decide_eq_true (gd_out h).1)) rfl rfl (cat_of hW) (RM.of hR) (k (gd_out h).2)
theorem X.schar {i : Int} (C : Cx κ G y cc ret nL rm) (h : gd (decide (w < 18) && inb i (wlen w)) T = some r) (hd : decode cc pc = .ok (.invokevirtual index, 3)) (hl : Cond.methodLink y.cls index yJ0_charAt_5068e ∈ UW) (hR : rmOk rm rJ0_charAt_5068e 2 a b = true) (hW : catOk st = true) (k : T = some r → X κ G nL ws (pc + 3) lv (vi (wch w (ix i)) :: st) a b Q) : X κ G nL ws pc lv (vi i :: .ref (G.2.2.2.1 w) :: st) a b Q := by
  obtain ⟨h1, h2⟩ := gd_out h
  rw [Bool.and_eq_true] at h1
  exact X.callT0 (As := [vi i]) (rest := st) C (of_decide_eq_true h1.1) hd hl mJ0_charAt_5068e rfl (kJ0_charAt_5068e (of_decide_eq_true h1.1) h1.2) rfl rfl (cat_of hW) (RM.of hR) (k h2)
end
