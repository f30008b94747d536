/-! the model's empties(int[]) -/
def empA (f : Nat → Int) : Nat → Int := up1 (up1 (up1 (up1 (filA 1419 0 f) (ix 7) (-1)) (ix 17) (-1)) (ix 22) (-1)) (ix 24) 1
def rX8_empties : Room := { frames := 0, cells := 0, slots := 0, locals := 0 }
theorem mX8_empties : MS yX8_empties cX8_empties 2 none 1 := ⟨cd_X8_empties, in_X8, ⟨⟨by decide, by decide⟩, by decide +kernel⟩, sm_X8_empties⟩
theorem emp_loop {κ : Kx} {G : GT} {o : Nat} {f : Nat → Int} {Q : State → Prop} (C : Cx κ G yX8_empties cX8_empties none 2 rX8_empties) (K : X κ G 2 [(o, aI G 1419 (filA 1419 0 f))] 19 [(0, .ref o)] [] 0 0 Q) : ∀ (k i : Nat), i + k = 1419 → X κ G 2 [(o, aI G 1419 (filA i 0 f))] 2 [(0, .ref o), (1, vi (i : Int))] [] 0 0 Q := by
  intro k
  induction k with
  | zero =>
    intro i hi
    obtain rfl : i = 1419 := by omega
    refine X.iload_n C dX8_empties_2 rfl 1 rfl ?_
    refine X.sipush C dX8_empties_3 (by decide) ?_
    refine X.icmp_geR (tgt := 19) C dX8_empties_6 (by decide) (fun _ => ?_) (fun c => absurd (by decide) c)
    refine X.sub [0] rfl ?_
    exact K
  | succ k ih =>
    intro i hi
    refine X.iload_n C dX8_empties_2 rfl 1 rfl ?_
    refine X.sipush C dX8_empties_3 (by decide) ?_
    refine X.icmp_geR (tgt := 19) C dX8_empties_6 (by decide) (fun c => absurd c ?_) (fun c => ?_)
    · rw [show i32 1419 = nI 1419 from i32_nat 1419, i32_nat]
      exact nI_ge (by omega) (by decide)
    refine X.aload_n C dX8_empties_9 rfl 0 rfl ?_
    refine X.iload_n C dX8_empties_10 rfl 1 rfl ?_
    refine X.iconst C dX8_empties_11 ?_
    refine X.iast (ws2 := [(o, aI G 1419 (filA (i + 1) 0 f))]) C (gd_in (inb_nat (i := i) (by omega) (by decide))) dX8_empties_12 0 rfl ?_ (fun _ => ?_)
    · rw [ix_nat (by omega), filA_s]; rfl
    refine X.iincN (f := fun x => some x) (r := some ((i : Int) + 1)) (lv2 := fun x => [(1, vi x), (0, .ref o)]) C rfl dX8_empties_13 1 rfl (by decide) (fun _ => rfl) (fun x h => ?_)
    cases h
    refine X.goto (tgt := 2) C dX8_empties_16 (by decide) ?_
    refine X.sub [1, 0] rfl ?_
    exact ih (i + 1) (by omega)
theorem kX8_empties {l : Launch} {G : GT} {o : Nat} {f : Nat → Int} : CT l G yX8_empties cX8_empties 2 none rX8_empties [.ref o] [(o, aI G 1419 f)] [(o, aI G 1419 (empA f))] none := by
  refine CT.of (by decide) (Nat.le_of_ble_eq_true rfl) rfl (fun κ _ C => ?_)
  refine X.iconst C dX8_empties_0 ?_
  refine X.istore_n (lv2 := [(1, vi 0), (0, .ref o)]) C dX8_empties_1 rfl (by decide) rfl ?_
  refine X.sub [1, 0] rfl ?_
  have h := emp_loop (f := f) (o := o) (Q := QM κ G [(o, aI G 1419 (empA f))] none rX8_empties.cells rX8_empties.slots) C ?_ 1419 0 (by omega)
  · rw [filA_0] at h
    exact h
  refine X.aload_n C dX8_empties_19 rfl 0 rfl ?_
  refine X.bipush C dX8_empties_20 (by decide) ?_
  refine X.iconst C dX8_empties_22 ?_
  refine X.iast (ws2 := [(o, aI G 1419 (up1 (filA 1419 0 f) (ix 7) (-1)))]) C (gd_in (by decide)) dX8_empties_23 0 rfl rfl (fun _ => ?_)
  refine X.aload_n C dX8_empties_24 rfl 0 rfl ?_
  refine X.bipush C dX8_empties_25 (by decide) ?_
  refine X.iconst C dX8_empties_27 ?_
  refine X.iast (ws2 := [(o, aI G 1419 (up1 (up1 (filA 1419 0 f) (ix 7) (-1)) (ix 17) (-1)))]) C (gd_in (by decide)) dX8_empties_28 0 rfl rfl (fun _ => ?_)
  refine X.aload_n C dX8_empties_29 rfl 0 rfl ?_
  refine X.bipush C dX8_empties_30 (by decide) ?_
  refine X.iconst C dX8_empties_32 ?_
  refine X.iast (ws2 := [(o, aI G 1419 (up1 (up1 (up1 (filA 1419 0 f) (ix 7) (-1)) (ix 17) (-1)) (ix 22) (-1)))]) C (gd_in (by decide)) dX8_empties_33 0 rfl rfl (fun _ => ?_)
  refine X.aload_n C dX8_empties_34 rfl 0 rfl ?_
  refine X.bipush C dX8_empties_35 (by decide) ?_
  refine X.iconst C dX8_empties_37 ?_
  refine X.iast (ws2 := [(o, aI G 1419 (empA f))]) C (gd_in (by decide)) dX8_empties_38 0 rfl rfl (fun _ => ?_)
  exact X.vret C dX8_empties_39 (Nat.zero_le _) (Nat.zero_le _)
section
variable {κ : Kx} {G : GT} {y : MethodName} {cc : ByteArray} {ret : Option FieldType} {nL : Nat} {rm : Room} {ws ws2 : va_W} {pc : Nat} {lv : List (Nat × Value)} {st : List Value} {a b : Nat} {Q : State → Prop} {index o : Nat} {f : Nat → Int}
theorem X.empt (C : Cx κ G y cc ret nL rm) (hd : decode cc pc = .ok (.invokestatic index, 3)) (hl : Cond.methodLink y.cls index yX8_empties ∈ UW) (hL : Ln ws [(o, aI G 1419 f)] [(o, aI G 1419 (empA f))] ws2) (hR : rmOk rm rX8_empties 2 a b = true) (hW : catOk st = true) (k : X κ G nL ws2 (pc + 3) lv st a b Q) : X κ G nL ws pc lv (.ref o :: st) a b Q := X.callS0 (As := [.ref o]) (rest := st) C hd hl mX8_empties kX8_empties hL rfl rfl (cat_of hW) (RM.of hR) k
end
