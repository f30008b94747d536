/-! LAYER 2: calls that only look, first part -/
def Eqv (a b : Option Int) : Prop := ∃ r, a = some r ∧ b = some r
theorem Eqv.s (r : Int) : Eqv (some r) (some r) := ⟨r, rfl, rfl⟩
theorem Eqv.e {r s : Int} (h : r = s) : Eqv (some r) (some s) := ⟨r, rfl, by rw [h]⟩
theorem Eqv.bq {x z : Int} {a b c d : Option Int} (h1 : Eqv a b) (h2 : Eqv c d) : Eqv (bq x z a c) (bq x z b d) := by
  by_cases h : i32 x = i32 z
  · obtain ⟨r, e1, e2⟩ := h1
    exact ⟨r, (if_pos h).trans e1, (if_pos h).trans e2⟩
  · obtain ⟨r, e1, e2⟩ := h2
    exact ⟨r, (if_neg h).trans e1, (if_neg h).trans e2⟩
theorem Eqv.bl {x z : Int} {a b c d : Option Int} (h1 : Eqv a b) (h2 : Eqv c d) : Eqv (bl x z a c) (bl x z b d) := by
  by_cases h : i32 x < i32 z
  · obtain ⟨r, e1, e2⟩ := h1
    exact ⟨r, (if_pos h).trans e1, (if_pos h).trans e2⟩
  · obtain ⟨r, e1, e2⟩ := h2
    exact ⟨r, (if_neg h).trans e1, (if_neg h).trans e2⟩
theorem Eqv.be {x z : Int} {a b c d : Option Int} (h1 : Eqv a b) (h2 : Eqv c d) : Eqv (be x z a c) (be x z b d) := by
  by_cases h : i32 x ≤ i32 z
  · obtain ⟨r, e1, e2⟩ := h1
    exact ⟨r, (if_pos h).trans e1, (if_pos h).trans e2⟩
  · obtain ⟨r, e1, e2⟩ := h2
    exact ⟨r, (if_neg h).trans e1, (if_neg h).trans e2⟩
theorem Eqv.ite {c : Prop} [Decidable c] {a b a2 b2 : Option Int} (h1 : c → Eqv a b) (h2 : ¬ c → Eqv a2 b2) : Eqv (if c then a else a2) (if c then b else b2) := by
  by_cases h : c
  · rw [if_pos h, if_pos h]; exact h1 h
  · rw [if_neg h, if_neg h]; exact h2 h
theorem Eqv.bd1 {a b : Option Int} (h : Eqv a b) : Eqv (bd a (fun r => some r)) (bd b (fun r => some r)) := by
  obtain ⟨r, e1, e2⟩ := h
  exact ⟨r, by rw [e1]; rfl, by rw [e2]; rfl⟩
theorem r32 {x lo hi : Int} (h : lo ≤ x ∧ x ≤ hi) (h1 : -2147483648 ≤ lo) (h2 : hi ≤ 2147483647) : R32 x := ⟨by omega, by omega⟩
section
variable {P A M : Ob} {w : Nat → Int} {B x z : Int}
theorem isCell7 (hp : PR P w) (hb : PB w) (hx : R32 x) (hz : R32 z) : fX1_isCell P x z = some (if (0 ≤ x ∧ x < w 1) ∧ 0 ≤ z ∧ z < w 2 then 1 else 0) := by
  have h1 := hb.b1; have h2 := hb.b2; have := hx.1; have := hx.2; have := hz.1; have := hz.2
  unfold fX1_isCell
  rw [hp.p1, hp.p2]
  by_cases c1 : x < 0
  · rw [bl_t c1 (by omega) (by omega), if_neg (by omega)]
  · rw [bl_f (by omega) (by omega) (by omega)]
    by_cases c2 : w 1 ≤ x
    · rw [be_t c2 (by omega) (by omega), if_neg (by omega)]
    · rw [be_f (by omega) (by omega) (by omega)]
      by_cases c3 : z < 0
      · rw [bl_t c3 (by omega) (by omega), if_neg (by omega)]
      · rw [bl_f (by omega) (by omega) (by omega)]
        by_cases c4 : w 2 ≤ z
        · rw [be_t c4 (by omega) (by omega), if_neg (by omega)]
        · rw [be_f (by omega) (by omega) (by omega), if_pos (by omega)]
theorem lit {n : Nat} {β : Type} {k : Option β} {i : Int} (h : inb i n = true) : gd (inb i n) k = k := gd_t h
theorem isCell8 (hb : PB (M 1)) (hx : R32 x) (hz : R32 z) : fX8_isCell M x z = some (if (0 ≤ x ∧ x < M 1 1) ∧ 0 ≤ z ∧ z < M 1 2 then 1 else 0) := by
  have h1 := hb.b1; have h2 := hb.b2
  unfold fX8_isCell
  rw [lit (by decide), show ix 1 = 1 from by decide, in8w hx ⟨by decide, by decide⟩ ⟨by omega, by omega⟩, bd_some, bq_ite]
  by_cases c : 0 ≤ x ∧ x ≤ M 1 1 - 1
  · rw [if_pos c, lit (by decide), show ix 2 = 2 from by decide, in8w hz ⟨by decide, by decide⟩ ⟨by omega, by omega⟩, bd_some, bq_ite]
    by_cases c2 : 0 ≤ z ∧ z ≤ M 1 2 - 1
    · rw [if_pos c2, if_pos (by omega)]
    · rw [if_neg c2, if_neg (by omega)]
  · rw [if_neg c, if_neg (by omega)]
theorem wetAt7 (ha : ∀ c : Nat, c < 900 → A 16 c = w (519 + c)) (h1 : 0 ≤ x) (h2 : x < 30) (h3 : 0 ≤ z) (h4 : z < 30) : fX0_wetAt A x z = some (w (519 + (30 * z + x).toNat)) := by
  unfold fX0_wetAt
  rw [gi (by omega) (by omega) (by omega), ix_e (by omega) (by omega), ha _ (by omega)]
theorem wetOf8 (h1 : 0 ≤ x) (h2 : x < 30) (h3 : 0 ≤ z) (h4 : z < 30) : fX8_wetOf M x z = some (M 1 (519 + (30 * z + x).toNat)) := by
  unfold fX8_wetOf
  rw [gi (by omega) (by omega) (by omega), ix_e (by omega) (by omega), show (519 + 30 * z + x).toNat = 519 + (30 * z + x).toNat from by omega]
theorem ofTable8 {k : Nat} {c : Int} {d : Nat} (hd : c = d) (hc : d < 3) (hk : k < 8) : fX8_ofTable M (k : Int) c = some (M 1 (35 + 3 * k + d)) := by
  unfold fX8_ofTable
  subst hd
  rw [gi (by omega) (by omega) (by omega), ix_e (by omega) (by omega), show (35 + 3 * (k : Int) + (d : Int)).toNat = 35 + 3 * k + d from by omega]
theorem isTable7 {T : Nat → Ob} (hp : PR (T 2) w) (hb : PB w) (hx : R32 x) : fX7_isTable T x = some (if 0 ≤ x ∧ x ≤ w 11 - 1 then 1 else 0) := by
  have h1 := hb.b11
  unfold fX7_isTable
  rw [hp.p14, within7r hx ⟨by decide, by decide⟩ ⟨by omega, by omega⟩, bd_some, gd_t isz_ite]
theorem isTable8 (hb : PB (M 1)) (hx : R32 x) : fX8_isTable M x = some (if 0 ≤ x ∧ x ≤ M 1 11 - 1 then 1 else 0) := by
  have h1 := hb.b11
  unfold fX8_isTable
  rw [lit (by decide), show ix 11 = 11 from by decide, in8w hx ⟨by decide, by decide⟩ ⟨by omega, by omega⟩, bd_some, gd_t isz_ite]
theorem isSize7 {T : Nat → Ob} (hp : PR (T 2) w) (hb : PB w) (hx : R32 x) : fX7_isSize T x = some (if 0 ≤ x ∧ x ≤ w 10 - 1 then 1 else 0) := by
  have h1 := hb.b10
  unfold fX7_isSize
  rw [hp.p11, within7r hx ⟨by decide, by decide⟩ ⟨by omega, by omega⟩, bd_some, gd_t isz_ite]
theorem isSize8 (hb : PB (M 1)) (hx : R32 x) : fX8_isSize M x = some (if 0 ≤ x ∧ x ≤ M 1 10 - 1 then 1 else 0) := by
  have h1 := hb.b10
  unfold fX8_isSize
  rw [lit (by decide), show ix 10 = 10 from by decide, in8w hx ⟨by decide, by decide⟩ ⟨by omega, by omega⟩, bd_some, gd_t isz_ite]
theorem hasSq7 {T : Nat → Ob} (hp : PR (T 2) w) (hb : PB w) : fX7_hasSquare T = some (if w 1 ≠ 0 then 1 else 0) := by
  have h0 := hb.b0; have h1 := hb.b1; have hs := hb.sq
  unfold fX7_hasSquare
  rw [hp.p0]
  by_cases c : w 1 = 0
  · rw [be_t (by omega) (by omega) (by omega), if_neg (by omega)]
  · rw [be_f (by omega) (by omega) (by omega), if_pos c]
theorem isSq8 (hb : PB (M 1)) : fX8_isSquare M = some (if M 1 1 ≠ 0 then 1 else 0) := by
  have h1 := hb.b1
  unfold fX8_isSquare
  rw [lit (by decide), show ix 1 = 1 from by decide]
  by_cases c : M 1 1 = 0
  · rw [be_t (by omega) (by omega) (by omega), if_neg (by omega)]
  · rw [be_f (by omega) (by omega) (by omega), if_pos c]
/-- what is wet at a table -/
theorem tableWet7 {k : Nat} (hb : PB w) (hp : PR P w) (ha : ∀ c : Nat, c < 900 → A 16 c = w (519 + c)) (hk : (k : Int) < w 11) : fX3_tableWet P A (k : Int) = some (w (519 + (30 * w (36 + 3 * k) + w (35 + 3 * k)).toNat)) := by
  have h11 := hb.b11; have h1 := hb.b1; have h2 := hb.b2
  obtain ⟨t1, t2, t3, t4, t5, t6⟩ := hb.tab k hk
  obtain ⟨e1, e2, e3⟩ := hp.tab k hk
  unfold fX3_tableWet
  rw [gi (by omega) (by omega) (by omega), gi (by omega) (by omega) (by omega), ix_nat (by omega), e1, e2, wetAt7 ha t1 (by omega) t3 (by omega)]
  rfl
theorem wetAt8 {k : Nat} (hb : PB (M 1)) (hk : (k : Int) < M 1 11) : fX8_wetAt M (k : Int) = some (M 1 (519 + (30 * M 1 (36 + 3 * k) + M 1 (35 + 3 * k)).toNat)) := by
  have h11 := hb.b11; have h1 := hb.b1; have h2 := hb.b2
  obtain ⟨t1, t2, t3, t4, t5, t6⟩ := hb.tab k hk
  unfold fX8_wetAt
  rw [ofTable8 (c := 0) (d := 0) rfl (by decide) (by omega), bd_some, ofTable8 (c := 1) (d := 1) rfl (by decide) (by omega), bd_some, show 35 + 3 * k + 0 = 35 + 3 * k from rfl, show 35 + 3 * k + 1 = 36 + 3 * k from by omega, wetOf8 t1 (by omega) t3 (by omega)]
  rfl
end
section
variable {n : Nat} {T : Nat → Ob} {J : Nat → Bool} {M : Ob} {x z : Int}
theorem op_fault (h : Inv n T J M) : Eqv (fX7_fault T x) (fX8_fault M x) := by
  unfold fX7_fault fX8_fault
  rw [h.fault.1, h.fault.2]
  exact Eqv.bq (Eqv.s _) (Eqv.bq (Eqv.s _) (Eqv.s _))
theorem op_jet (h : Inv n T J M) : Eqv (fX7_jet T x) (fX8_jet M x) := by
  unfold fX7_jet fX8_jet
  have ha := h.now.ar
  rw [ha.a1, ha.a2, ha.a0, h.seen]
  exact Eqv.bq (Eqv.s _) (Eqv.bq (Eqv.s _) (Eqv.bq (Eqv.s _) (Eqv.bq (Eqv.s _) (Eqv.s _))))
theorem op_wet (h : Inv n T J M) (hx : R32 x) (hz : R32 z) : Eqv (fX7_wet T x z) (fX8_wet M x z) := by
  have hb := h.now.pb
  have h1 := hb.b1; have h2 := hb.b2
  unfold fX7_wet fX8_wet
  rw [isCell7 h.now.pr hb hx hz, isCell8 hb hx hz, bd_some, bd_some, bq_ite, bq_ite]
  refine Eqv.ite (fun c => ?_) (fun _ => Eqv.s _)
  rw [wetAt7 h.now.ar.wet (by omega) (by omega) (by omega) (by omega), wetOf8 (by omega) (by omega) (by omega) (by omega)]
  exact Eqv.s _
theorem op_table (h : Inv n T J M) (hx : R32 x) (hz : R32 z) : Eqv (fX7_table T x z) (fX8_table M x z) := by
  have hb := h.now.pb
  have h1 := hb.b11
  have := hz.1; have := hz.2
  unfold fX7_table fX8_table
  rw [isTable7 h.now.pr hb hx, isTable8 hb hx, bd_some, bd_some, bq_ite, bq_ite]
  refine Eqv.ite (fun c => ?_) (fun _ => Eqv.s _)
  obtain ⟨k, rfl⟩ := Int.eq_ofNat_of_zero_le c.1
  have hk : (k : Int) < M 1 11 := by omega
  obtain ⟨e1, e2, e3⟩ := h.now.pr.tab k hk
  rw [in8i hz ⟨by decide, by decide⟩ ⟨by decide, by decide⟩, bd_some, bq_ite, tableWet7 hb h.now.pr h.now.ar.wet hk, wetAt8 hb hk, ix_nat (by omega), e1, e2, e3]
  by_cases c0 : z = 0
  · rw [bq_t c0, if_pos (by omega), be_f (by omega) (by omega) (by omega), gi (by omega) (by omega) (by omega), ofTable8 (d := 0) c0 (by decide) (by omega)]
    exact Eqv.s _
  · rw [bq_f c0 (by omega) (by omega) (by omega) (by omega)]
    by_cases c1 : z = 1
    · rw [bq_t c1, if_pos (by omega), be_f (by omega) (by omega) (by omega), gi (by omega) (by omega) (by omega), ofTable8 (d := 1) c1 (by decide) (by omega)]
      exact Eqv.e (by rw [show 35 + 3 * k + 1 = 36 + 3 * k from by omega])
    · rw [bq_f c1 (by omega) (by omega) (by omega) (by omega)]
      by_cases c2 : z = 2
      · rw [bq_t c2, if_pos (by omega), be_f (by omega) (by omega) (by omega), gi (by omega) (by omega) (by omega), ofTable8 (d := 2) c2 (by decide) (by omega)]
        exact Eqv.e (by rw [show 35 + 3 * k + 2 = 37 + 3 * k from by omega])
      · rw [bq_f c2 (by omega) (by omega) (by omega) (by omega)]
        by_cases c3 : z = 3
        · rw [bq_t c3, if_pos (by omega), be_t (by omega) (by omega) (by omega)]
          exact Eqv.s _
        · rw [bq_f c3 (by omega) (by omega) (by omega) (by omega), if_neg (by omega)]
          exact Eqv.s _
end
