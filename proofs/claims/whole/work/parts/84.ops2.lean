/-! LAYER 2: calls that only look, loops in step -/
theorem be_p {β : Type} {a b : Int} {T F : β} (h : i32 a ≤ i32 b) : be a b T F = T := if_pos h
theorem be_n {β : Type} {a b : Int} {T F : β} (h : ¬ i32 a ≤ i32 b) : be a b T F = F := if_neg h
theorem bl_p {β : Type} {a b : Int} {T F : β} (h : i32 a < i32 b) : bl a b T F = T := if_pos h
theorem bl_n {β : Type} {a b : Int} {T F : β} (h : ¬ i32 a < i32 b) : bl a b T F = F := if_neg h
theorem bq_p {β : Type} {a b : Int} {T F : β} (h : i32 a = i32 b) : bq a b T F = T := if_pos h
theorem bq_n {β : Type} {a b : Int} {T F : β} (h : ¬ i32 a = i32 b) : bq a b T F = F := if_neg h
theorem toInt_r (x : Int32) : R32 x.toInt := ⟨Int32.le_toInt x, by have := Int32.toInt_lt x; omega⟩
theorem jor_r (a b : Int) : R32 (jor a b) := toInt_r _
theorem jor_0 {a : Int} (h : R32 a) : jor a 0 = a := by
  unfold jor
  rw [show i32 0 = (0 : Int32) from rfl, Int32.or_zero, toI h.1 h.2]
section
variable {P A M : Ob} {B : Int}
theorem over_loop (hb : PB (M 1)) (hp : PR P (M 1)) (ha : ∀ c : Nat, c < 900 → A 16 c = M 1 (519 + c)) : ∀ (m i : Nat) (acc : Int), R32 acc → (i : Int) ≤ M 1 11 → M 1 11 - i < m → Eqv (lX3_tablesOver_4 P A m acc i) (lX8_overSet_4 M m acc i) := by
  have h11 := hb.b11
  intro m
  induction m with
  | zero => intro i acc _ h1 h2; omega
  | succ m ih =>
    intro i acc hr h1 h2
    rw [lX3_tablesOver_4, lX8_overSet_4, lit (by decide), show ix 11 = 11 from by decide, hp.p14]
    by_cases c : M 1 11 ≤ i
    · rw [be_t c (by omega) (by omega), be_t c (by omega) (by omega)]
      exact Eqv.s _
    · have hk : (i : Int) < M 1 11 := by omega
      obtain ⟨t1, t2, t3, t4, t5, t6⟩ := hb.tab i hk
      obtain ⟨e1, e2, e3⟩ := hp.tab i hk
      rw [be_f (by omega) (by omega) (by omega), be_f (by omega) (by omega) (by omega)]
      unfold fX3_isOver
      rw [tableWet7 hb hp ha hk, wetAt8 hb hk, bd_some, bd_some, gi (by omega) (by omega) (by omega), ix_nat (by omega), e3, ofTable8 (c := 2) (d := 2) rfl (by decide) (by omega), bd_some, show 35 + 3 * i + 2 = 37 + 3 * i from by omega]
      by_cases c2 : i32 (M 1 (519 + (30 * M 1 (36 + 3 * i) + M 1 (35 + 3 * i)).toNat)) ≤ i32 (M 1 (37 + 3 * i))
      · rw [be_p c2, be_p c2, bd_some, bq_t rfl, nm_e', nm_e', nm_e', jor_0 hr]
        exact ih (i + 1) acc hr (by omega) (by omega)
      · rw [be_n c2, be_n c2, bd_some, bq_f (by decide) (by decide) (by decide) (by decide) (by decide), nm_e', nm_e', nm_e', nm_e']
        exact ih (i + 1) _ (jor_r _ _) (by omega) (by omega)
theorem over_eq (hb : PB (M 1)) (hp : PR P (M 1)) (ha : ∀ c : Nat, c < 900 → A 16 c = M 1 (519 + c)) : Eqv (fX3_tablesOver P A) (fX8_overSet M) := by
  have h11 := hb.b11
  exact over_loop hb hp ha FU 0 0 ⟨by decide, by decide⟩ (by omega) (by show _ < ((5000 : Nat) : Int); omega)
theorem ice_loop (hb : PB (M 1)) (hp : PR P (M 1)) (ha : ∀ c : Nat, c < 900 → A 16 c = M 1 (519 + c)) (hr : M 1 7 ≠ -1) : ∀ (m i : Nat) (acc : Int), (i : Int) ≤ M 1 1 → M 1 1 - i < m → Eqv (lX3_roadWet_17 P A m acc i) (lX8_iceOf_4 M m acc i) := by
  have h1 := hb.b1; have h2 := hb.b2; have h7 := hb.b7; have hro := hb.road
  intro m
  induction m with
  | zero => intro i acc q1 q2; omega
  | succ m ih =>
    intro i acc q1 q2
    rw [lX3_roadWet_17, lX8_iceOf_4, lit (by decide), show ix 1 = 1 from by decide, hp.p1, hp.p7]
    by_cases c : M 1 1 ≤ i
    · rw [be_t c (by omega) (by omega), be_t c (by omega) (by omega)]
      exact Eqv.s _
    · rw [be_f (by omega) (by omega) (by omega), be_f (by omega) (by omega) (by omega), lit (by decide), show ix 7 = 7 from by decide, wetAt7 ha (by omega) (by omega) (by omega) (by omega), wetOf8 (by omega) (by omega) (by omega) (by omega), bd_some, bd_some, nm_e', nm_e', nm_e', nm_e']
      exact ih (i + 1) _ (by omega) (by omega)
theorem ice_eq (hb : PB (M 1)) (hp : PR P (M 1)) (ha : ∀ c : Nat, c < 900 → A 16 c = M 1 (519 + c)) : Eqv (fX3_roadWet P A) (gd (inb 7 1419) (bq (M 1 (ix 7)) (-1) (some (-1)) (bd (fX8_iceOf M) (fun rr_1 => some rr_1)))) := by
  have h1 := hb.b1; have h7 := hb.b7
  unfold fX3_roadWet
  rw [lit (by decide), show ix 7 = 7 from by decide, hp.p7]
  by_cases c : M 1 7 = -1
  · rw [bq_t c, bq_t c]
    exact Eqv.s _
  · rw [bq_f c (by omega) (by omega) (by omega) (by omega), bq_f c (by omega) (by omega) (by omega) (by omega)]
    obtain ⟨r, e1, e2⟩ := ice_loop hb hp ha c FU 0 0 (by omega) (by show _ < ((5000 : Nat) : Int); omega)
    refine ⟨r, e1, ?_⟩
    unfold fX8_iceOf
    rw [show lX8_iceOf_4 M FU 0 0 = some r from e2]
    rfl
/-- what the rules let -/
theorem lets_loop (hb : PB (M 1)) {st : Int} (hst : R32 st) (kx : Int → Option Int) : ∀ (m k : Nat), (k : Int) ≤ M 1 12 → M 1 12 - k < m → lX8_letsBy_5 M st kx m (letsR (M 1) st k) k = kx (letsR (M 1) st (M 1 12).toNat) := by
  have h12 := hb.b12
  have := hst.1; have := hst.2
  intro m
  induction m with
  | zero => intro k q1 q2; omega
  | succ m ih =>
    intro k q1 q2
    rw [lX8_letsBy_5, lit (by decide), show ix 12 = 12 from by decide]
    by_cases c : M 1 12 ≤ k
    · rw [be_t c (by omega) (by omega), show (M 1 12).toNat = k from by omega]
    · have hk : (k : Int) < M 1 12 := by omega
      obtain ⟨t1, t2, t3, t4⟩ := hb.rule k hk
      rw [be_f (by omega) (by omega) (by omega), gi (by omega) (by omega) (by omega), ix_e (by omega) (by omega), show (59 + 2 * (k : Int)).toNat = 59 + 2 * k from by omega]
      have hs : letsR (M 1) st (k + 1) = if M 1 (59 + 2 * k) ≤ st then M 1 (60 + 2 * k) else letsR (M 1) st k := rfl
      by_cases c2 : M 1 (59 + 2 * k) ≤ st
      · rw [bl_f c2 (by omega) (by omega), gi (by omega) (by omega) (by omega), ix_e (by omega) (by omega), show (59 + 2 * (k : Int) + 1).toNat = 60 + 2 * k from by omega, nm_e', nm_e']
        rw [if_pos c2] at hs
        rw [← hs]
        exact ih (k + 1) (by omega) (by omega)
      · rw [bl_t (by omega) (by omega) (by omega), nm_e']
        rw [if_neg c2] at hs
        rw [← hs]
        exact ih (k + 1) (by omega) (by omega)
theorem letsR_b (hb : PB (M 1)) {st : Int} : ∀ k : Nat, (k : Int) ≤ M 1 12 → 0 ≤ letsR (M 1) st k ∧ letsR (M 1) st k ≤ 60 := by
  intro k
  induction k with
  | zero => intro _; exact ⟨(by decide : (0 : Int) ≤ 60), (by decide : (60 : Int) ≤ 60)⟩
  | succ k ih =>
    intro hk
    obtain ⟨t1, t2, t3, t4⟩ := hb.rule k (by omega)
    have := ih (by omega)
    rw [letsR]
    split <;> omega
theorem lets8 (hb : PB (M 1)) {st : Int} (h0 : 0 ≤ st) (h1 : st ≤ 9) : fX8_letsBy M st = some (min (M 1 6) (letsR (M 1) st (M 1 12).toNat)) := by
  have h12 := hb.b12; have h6 := hb.b6
  have hl := letsR_b hb (st := st) (M 1 12).toNat (by omega)
  unfold fX8_letsBy
  have h := lets_loop hb (st := st) ⟨by omega, by omega⟩ (fun lx2_4 => gd (inb 6 1419) (some (jmi (M 1 (ix 6)) lx2_4))) FU 0 (by omega) (by show _ < ((5000 : Nat) : Int); omega)
  rw [show letsR (M 1) st 0 = 60 from rfl] at h
  rw [show lX8_letsBy_5 M st (fun lx2_4 => gd (inb 6 1419) (some (jmi (M 1 (ix 6)) lx2_4))) FU 60 0 = _ from h, lit (by decide), show ix 6 = 6 from by decide, jmi_e (by omega) (by omega) (by omega) (by omega)]
theorem lets7 (hb : PB (M 1)) (hp : PR P (M 1)) {st : Int} (h0 : 0 ≤ st) (h1 : st ≤ 9) : fX1_highLetBy P st = some (min (M 1 6) (letsR (M 1) st (M 1 12).toNat)) := by
  have h12 := hb.b12; have h6 := hb.b6
  obtain ⟨k, rfl⟩ := Int.eq_ofNat_of_zero_le h0
  have hl := letsR_b hb (st := (k : Int)) (M 1 12).toNat (by omega)
  unfold fX1_highLetBy
  rw [gi (by omega) (by omega) (by omega), ix_nat (by omega), hp.p6, hp.lets k (by omega), jmi_e (by omega) (by omega) (by omega) (by omega)]
end
section
variable {n : Nat} {T : Nat → Ob} {J : Nat → Bool} {M : Ob} {x z : Int}
theorem op_over (h : Inv n T J M) : Eqv (fX7_over T) (fX8_over M) := Eqv.bd1 (over_eq h.now.pb h.now.pr h.now.ar.wet)
theorem op_ice (h : Inv n T J M) : Eqv (fX7_ice T) (fX8_ice M) := by
  obtain ⟨r, e1, e2⟩ := ice_eq h.now.pb h.now.pr h.now.ar.wet
  exact ⟨r, by unfold fX7_ice; rw [e1]; rfl, e2⟩
theorem op_lets (h : Inv n T J M) (hx : R32 x) : Eqv (fX7_lets T x) (fX8_lets M x) := by
  have hb := h.now.pb
  unfold fX7_lets fX8_lets
  rw [hasSq7 h.now.pr hb, isSq8 hb, bd_some, bd_some, bq_ite, bq_ite]
  refine Eqv.ite (fun c => ?_) (fun _ => Eqv.s _)
  rw [within7r hx ⟨by decide, by decide⟩ ⟨by decide, by decide⟩, in8i hx ⟨by decide, by decide⟩ ⟨by decide, by decide⟩, bd_some, bd_some, bq_ite, bq_ite]
  refine Eqv.ite (fun c => ?_) (fun _ => Eqv.s _)
  rw [lets7 hb h.now.pr c.1 c.2, lets8 hb c.1 c.2]
  exact Eqv.s _
end
