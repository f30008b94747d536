/-! LAYER 2: bows, sums, counts, room for tables, nozzles -/
section
variable {n : Nat} {T : Nat → Ob} {J : Nat → Bool} {M : Ob} {x z y0 a b : Int}
/-- whether a bow is seen -/
def bowR (w : Nat → Int) (x z v : Int) : Int := if 0 < (w 3 - x) * wayX v.toNat + (w 4 - z) * wayY v.toNat ∧ (if 0 ≤ (w 3 - x) * wayY v.toNat then (w 3 - x) * wayY v.toNat else -((w 3 - x) * wayY v.toNat)) + (if 0 ≤ (w 4 - z) * wayX v.toNat then (w 4 - z) * wayX v.toNat else -((w 4 - z) * wayX v.toNat)) ≤ ((w 3 - x) * wayX v.toNat + (w 4 - z) * wayY v.toNat) / 2 then 1 else 0
theorem bow_e {P A : Int} {p : Prop} [Decidable p] (h : p ↔ (0 < A ∧ P ≤ A / 2)) (hA : -1000 ≤ A) (hA2 : A ≤ 1000) (hP : -1000 ≤ P) (hP2 : P ≤ 2000) : be A 0 (some (0 : Int)) (bl (jdv A 2) P (some 0) (some 1)) = some (if p then 1 else 0) := by
  by_cases c : A ≤ 0
  · rw [be_t c (by omega) (by omega), if_neg (by rw [h]; omega)]
  · rw [be_f (by omega) (by omega) (by omega), jdv_n (by omega) (by omega) (by decide) (by decide)]
    by_cases c2 : P ≤ A / 2
    · rw [bl_f c2 (by omega) (by omega), if_pos (by rw [h]; omega)]
    · rw [bl_t (by omega) (by omega) (by omega), if_neg (by rw [h]; omega)]
theorem bow7 {P : Ob} {w : Nat → Int} {v : Int} (hb : PB w) (hp : PR P w) (hx : 0 ≤ x ∧ x < 30) (hz : 0 ≤ z ∧ z < 30) (hv : 0 ≤ v) (hv2 : v ≤ 3) : fX1_showsBow P x z v = some (bowR w x z v) := by
  have b3 := hb.b3; have b4 := hb.b4
  unfold fX1_showsBow bowR
  rw [gi (by omega) (by omega) (by decide), gi (by omega) (by omega) (by decide), nm_e', gi (by omega) (by omega) (by decide), gi (by omega) (by omega) (by decide), nm_e', ix_e (by omega) (by omega), hp.p3, hp.p4]
  rcases (show v = 0 ∨ v = 1 ∨ v = 2 ∨ v = 3 by omega) with e | e | e | e <;> subst e
  · rw [show wayX (0 : Int).toNat = 0 from rfl, show wayY (0 : Int).toNat = -1 from rfl, jab_e (by omega) (by omega), jab_e (by omega) (by omega)]
    exact bow_e Iff.rfl (by omega) (by omega) (by split <;> split <;> omega) (by split <;> split <;> omega)
  · rw [show wayX (1 : Int).toNat = 1 from rfl, show wayY (1 : Int).toNat = 0 from rfl, jab_e (by omega) (by omega), jab_e (by omega) (by omega)]
    exact bow_e Iff.rfl (by omega) (by omega) (by split <;> split <;> omega) (by split <;> split <;> omega)
  · rw [show wayX (2 : Int).toNat = 0 from rfl, show wayY (2 : Int).toNat = 1 from rfl, jab_e (by omega) (by omega), jab_e (by omega) (by omega)]
    exact bow_e Iff.rfl (by omega) (by omega) (by split <;> split <;> omega) (by split <;> split <;> omega)
  · rw [show wayX (3 : Int).toNat = -1 from rfl, show wayY (3 : Int).toNat = 0 from rfl, jab_e (by omega) (by omega), jab_e (by omega) (by omega)]
    exact bow_e Iff.rfl (by omega) (by omega) (by split <;> split <;> omega) (by split <;> split <;> omega)
theorem bow8 {v : Int} (hb : PB (M 1)) (hx : 0 ≤ x ∧ x < 30) (hz : 0 ≤ z ∧ z < 30) (hv : 0 ≤ v) (hv2 : v ≤ 3) : fX8_isBow M x z v = some (bowR (M 1) x z v) := by
  have b3 := hb.b3; have b4 := hb.b4
  unfold fX8_isBow bowR jX8_isBow_53 jX8_isBow_74
  rw [lit (by decide), nm_e', lit (by decide), nm_e', show ix 3 = 3 from by decide, show ix 4 = 4 from by decide, jab_e (by omega) (by omega), jab_e (by omega) (by omega)]
  rcases (show v = 0 ∨ v = 1 ∨ v = 2 ∨ v = 3 by omega) with e | e | e | e <;> subst e
  · rw [show wayX (0 : Int).toNat = 0 from rfl, show wayY (0 : Int).toNat = -1 from rfl, bq_t rfl, show jrm 0 2 = 0 from by decide, bq_t rfl]
    exact bow_e (by split <;> split <;> split <;> omega) (by omega) (by omega) (by split <;> omega) (by split <;> omega)
  · rw [show wayX (1 : Int).toNat = 1 from rfl, show wayY (1 : Int).toNat = 0 from rfl, bq_f (a := 1) (b := 0) (by decide) (by decide) (by decide) (by decide) (by decide), bq_t rfl, show jrm 1 2 = 1 from by decide, bq_f (by decide) (by decide) (by decide) (by decide) (by decide)]
    exact bow_e (by split <;> split <;> split <;> omega) (by omega) (by omega) (by split <;> omega) (by split <;> omega)
  · rw [show wayX (2 : Int).toNat = 0 from rfl, show wayY (2 : Int).toNat = 1 from rfl, bq_f (a := 2) (b := 0) (by decide) (by decide) (by decide) (by decide) (by decide), bq_f (a := 2) (b := 1) (by decide) (by decide) (by decide) (by decide) (by decide), bq_t rfl, show jrm 2 2 = 0 from by decide, bq_t rfl]
    exact bow_e (by split <;> split <;> split <;> omega) (by omega) (by omega) (by split <;> omega) (by split <;> omega)
  · rw [show wayX (3 : Int).toNat = -1 from rfl, show wayY (3 : Int).toNat = 0 from rfl, bq_f (a := 3) (b := 0) (by decide) (by decide) (by decide) (by decide) (by decide), bq_f (a := 3) (b := 1) (by decide) (by decide) (by decide) (by decide) (by decide), bq_f (a := 3) (b := 2) (by decide) (by decide) (by decide) (by decide) (by decide), show jrm 3 2 = 1 from by decide, bq_f (by decide) (by decide) (by decide) (by decide) (by decide)]
    exact bow_e (by split <;> split <;> split <;> omega) (by omega) (by omega) (by split <;> omega) (by split <;> omega)
theorem op_bow (h : Inv n T J M) (hx : R32 x) (hz : R32 z) (hy : R32 y0) : Eqv (fX7_bow T x z y0) (fX8_bow M x z y0) := by
  have hb := h.now.pb
  have b1 := hb.b1; have b2 := hb.b2
  unfold fX7_bow fX8_bow
  rw [isCell7 h.now.pr hb hx hz, isCell8 hb hx hz, bd_some, bd_some, bq_ite, bq_ite]
  refine Eqv.ite (fun c => ?_) (fun _ => Eqv.s _)
  rw [isWay7 hy, in8i hy ⟨by decide, by decide⟩ ⟨by decide, by decide⟩, bd_some, bd_some, bq_ite, bq_ite]
  refine Eqv.ite (fun c2 => ?_) (fun _ => Eqv.s _)
  rw [bow7 hb h.now.pr (by omega) (by omega) c2.1 c2.2, bow8 hb (by omega) (by omega) c2.1 c2.2, bd_some]
  exact Eqv.bq (Eqv.s _) (Eqv.s _)
/-- in the basin, on the class's side -/
theorem inBasin7 {P : Ob} {w : Nat → Int} (hb : PB w) (hp : PR P w) (hx : -1000 ≤ x) (hx2 : x ≤ 1000) (hz : -1000 ≤ z) (hz2 : z ≤ 1000) : fX1_isBasin P x z = some (@ite _ (inB w x z) (Classical.propDecidable _) 1 0) := by
  have b3 := hb.b3; have b4 := hb.b4; have b5 := hb.b5
  unfold fX1_isBasin
  rw [hp.p3, hp.p4, hp.p5, within7r ⟨by omega, by omega⟩ ⟨by omega, by omega⟩ ⟨by omega, by omega⟩, within7r ⟨by omega, by omega⟩ ⟨by omega, by omega⟩ ⟨by omega, by omega⟩, bd_some, bd_some, bq_ite, bq_ite]
  by_cases c : inB w x z
  · rw [if_pos c]
    obtain ⟨⟨c1, c2⟩, c3, c4⟩ := c
    rw [if_pos (by omega), if_pos (by omega)]
  · rw [if_neg c]
    by_cases c1 : w 3 - w 5 ≤ x ∧ x ≤ w 3 + w 5
    · rw [if_pos c1, if_neg (fun q => c ⟨⟨by omega, by omega⟩, by omega, by omega⟩)]
    · rw [if_neg c1]
theorem bows_in {v : Int} {yy : Nat} {kx kx8 : Int → Option Int} (hb : PB (M 1)) (hp : PR (T 2) (M 1)) (hv : 0 ≤ v) (hv2 : v ≤ 3) (hy : (yy : Int) < M 1 2) (hk : ∀ r, Eqv (kx r) (kx8 r)) : ∀ (m xx : Nat) (acc : Int), (xx : Int) ≤ M 1 1 → M 1 1 - xx < m → Eqv (lX7_bows_38 T v (yy : Int) kx m acc (xx : Int)) (lX8_bows_39 M v (yy : Int) kx8 m acc (xx : Int)) := by
  have b1 := hb.b1; have b2 := hb.b2
  intro m
  induction m with
  | zero => intro xx acc h1 h2; omega
  | succ m ih =>
    intro xx acc h1 h2
    rw [lX7_bows_38, lX8_bows_39, lit (by decide), show ix 1 = 1 from by decide, hp.p1]
    simp only [nm_e', Int.add_zero]
    by_cases c : M 1 1 ≤ xx
    · rw [be_t c (by omega) (by omega), be_t c (by omega) (by omega)]
      exact hk acc
    · rw [be_f (by omega) (by omega) (by omega), be_f (by omega) (by omega) (by omega), inBasin7 hb hp (by omega) (by omega) (by omega) (by omega), basin8 hb (by omega) (by omega) (by omega) (by omega), bd_some, bd_some, bow7 hb hp (by omega) (by omega) hv hv2, bow8 hb (by omega) (by omega) hv hv2, bd_some, bd_some]
      by_cases ci : inB (M 1) (xx : Int) (yy : Int)
      · rw [if_pos ci, bq_f (a := 1) (b := 0) (by decide) (by decide) (by decide) (by decide) (by decide), bq_f (a := 1) (b := 0) (by decide) (by decide) (by decide) (by decide) (by decide)]
        exact ih (xx + 1) acc (by omega) (by omega)
      · rw [if_neg ci, bq_t rfl, bq_t rfl]
        by_cases cb : i32 (bowR (M 1) (xx : Int) (yy : Int) v) = i32 0
        · rw [bq_p cb, bq_p cb]
          exact ih (xx + 1) acc (by omega) (by omega)
        · rw [bq_n cb, bq_n cb]
          exact ih (xx + 1) _ (by omega) (by omega)
theorem bows_out {v : Int} (hb : PB (M 1)) (hp : PR (T 2) (M 1)) (hv : 0 ≤ v) (hv2 : v ≤ 3) : ∀ (m yy : Nat) (acc : Int), (yy : Int) ≤ M 1 2 → M 1 2 - yy < m → Eqv (lX7_bows_21 T v m acc (yy : Int)) (lX8_bows_26 M v m acc (yy : Int)) := by
  have b1 := hb.b1; have b2 := hb.b2
  intro m
  induction m with
  | zero => intro yy acc h1 h2; omega
  | succ m ih =>
    intro yy acc h1 h2
    rw [lX7_bows_21, lX8_bows_26, lit (by decide), show ix 2 = 2 from by decide, hp.p2]
    by_cases c : M 1 2 ≤ yy
    · rw [be_t c (by omega) (by omega), be_t c (by omega) (by omega)]
      exact Eqv.s _
    · rw [be_f (by omega) (by omega) (by omega), be_f (by omega) (by omega) (by omega)]
      exact bows_in hb hp hv hv2 (by omega) (fun r => by rw [nm_e', nm_e']; exact ih (yy + 1) r (by omega) (by omega)) FU 0 acc (by omega) (by show _ < ((5000 : Nat) : Int); omega)
theorem op_bows (h : Inv n T J M) (hx : R32 x) : Eqv (fX7_bows T x) (fX8_bows M x) := by
  have hb := h.now.pb
  have b2 := hb.b2
  unfold fX7_bows fX8_bows
  rw [hasSq7 h.now.pr hb, isSq8 hb, bd_some, bd_some, bq_ite, bq_ite]
  refine Eqv.ite (fun c => ?_) (fun _ => Eqv.s _)
  rw [isWay7 hx, in8i hx ⟨by decide, by decide⟩ ⟨by decide, by decide⟩, bd_some, bd_some, bq_ite, bq_ite]
  refine Eqv.ite (fun c2 => ?_) (fun _ => Eqv.s _)
  exact bows_out hb h.now.pr c2.1 c2.2 FU 0 0 (by omega) (by show _ < ((5000 : Nat) : Int); omega)
theorem sum_in {x0 ex v w1 w2 w3 w4 : Int} {kx kx8 : Int → Option Int} (hb : PB (M 1)) (ha : ∀ c : Nat, c < 900 → T 3 16 c = M 1 (519 + c)) (hv : 0 ≤ v) (hv2 : v < 30) (he0 : 0 ≤ ex) (he : ex ≤ 30) (hex : jmi (x0 + w2) (M 1 1) = ex) (hk : ∀ r, Eqv (kx r) (kx8 r)) : ∀ (m xx : Nat) (acc : Int), (xx : Int) ≤ ex → ex - xx < m → Eqv (lX7_sum_92 T x0 ex w4 v kx m acc (xx : Int)) (lX8_sum_64 M x0 w1 w2 w3 v kx8 m acc (xx : Int)) := by
  have b1 := hb.b1
  intro m
  induction m with
  | zero => intro xx acc h1 h2; omega
  | succ m ih =>
    intro xx acc h1 h2
    rw [lX7_sum_92, lX8_sum_64, lit (by decide), show ix 1 = 1 from by decide, hex]
    by_cases c : ex ≤ (xx : Int)
    · rw [be_t c (by omega) (by omega), be_t c (by omega) (by omega)]
      exact hk acc
    · rw [be_f (by omega) (by omega) (by omega), be_f (by omega) (by omega) (by omega), wetAt7 ha (by omega) (by omega) hv hv2, wetOf8 (by omega) (by omega) hv hv2, bd_some, bd_some, nm_e', nm_e', nm_e', nm_e']
      exact ih (xx + 1) _ (by omega) (by omega)
theorem sum_out {ex ey w1 w2 z0 : Int} {x0 : Nat} (hb : PB (M 1)) (ha : ∀ c : Nat, c < 900 → T 3 16 c = M 1 (519 + c)) (he0 : (x0 : Int) ≤ ex) (he : ex ≤ 30) (hf0 : 0 ≤ ey) (hf : ey ≤ 30) (hex : jmi ((x0 : Int) + w1) (M 1 1) = ex) (hey : jmi (z0 + w2) (M 1 2) = ey) : ∀ (m yy : Nat) (acc : Int), (yy : Int) ≤ ey → ey - yy < m → Eqv (lX7_sum_82 T (x0 : Int) ex ey m acc (yy : Int)) (lX8_sum_43 M (x0 : Int) z0 w1 w2 m acc (yy : Int)) := by
  intro m
  induction m with
  | zero => intro yy acc h1 h2; omega
  | succ m ih =>
    intro yy acc h1 h2
    rw [lX7_sum_82, lX8_sum_43, lit (by decide), show ix 2 = 2 from by decide, hey]
    by_cases c : ey ≤ (yy : Int)
    · rw [be_t c (by omega) (by omega), be_t c (by omega) (by omega)]
      exact Eqv.s _
    · rw [be_f (by omega) (by omega) (by omega), be_f (by omega) (by omega) (by omega)]
      exact sum_in hb ha (by omega) (by omega) (by omega) he hex (fun r => by rw [nm_e', nm_e']; exact ih (yy + 1) r (by omega) (by omega)) FU x0 acc he0 (by show _ < ((5000 : Nat) : Int); omega)
theorem op_sum (h : Inv n T J M) (hx : R32 x) (hz : R32 z) (ha : R32 a) (hbb : R32 b) : Eqv (fX7_sum T x z a b) (fX8_sum M x z a b) := by
  have hb := h.now.pb
  have b1 := hb.b1; have b2 := hb.b2
  unfold fX7_sum fX8_sum
  rw [isCell7 h.now.pr hb hx hz, isCell8 hb hx hz, bd_some, bd_some, bq_ite, bq_ite]
  refine Eqv.ite (fun c => ?_) (fun _ => Eqv.s _)
  rw [within7r ha ⟨by decide, by decide⟩ ⟨by decide, by decide⟩, in8i ha ⟨by decide, by decide⟩ ⟨by decide, by decide⟩, bd_some, bd_some, bq_ite, bq_ite]
  refine Eqv.ite (fun c1 => ?_) (fun _ => Eqv.s _)
  rw [within7r hbb ⟨by decide, by decide⟩ ⟨by decide, by decide⟩, in8i hbb ⟨by decide, by decide⟩ ⟨by decide, by decide⟩, bd_some, bd_some, bq_ite, bq_ite]
  refine Eqv.ite (fun c2 => ?_) (fun _ => Eqv.s _)
  obtain ⟨X, rfl⟩ := Int.eq_ofNat_of_zero_le c.1.1
  obtain ⟨Z, rfl⟩ := Int.eq_ofNat_of_zero_le c.2.1
  have e1 := jmi_e (a := (X : Int) + a) (b := M 1 1) (by omega) (by omega) (by omega) (by omega)
  have e2 := jmi_e (a := (Z : Int) + b) (b := M 1 2) (by omega) (by omega) (by omega) (by omega)
  rw [nm_e', nm_e', h.now.pr.p1, h.now.pr.p2, e1, e2]
  exact sum_out hb h.now.ar.wet (by omega) (by omega) (by omega) (by omega) e1 e2 FU Z 0 (by omega) (by show _ < ((5000 : Nat) : Int); omega)
theorem wettest_in {what : Int} {yy : Nat} {kx kx8 : Int → Int → Option Int} (hb : PB (M 1)) (hp : PR (T 2) (M 1)) (ha : ∀ c : Nat, c < 900 → T 3 16 c = M 1 (519 + c)) (hy : (yy : Int) < M 1 2) (hk : ∀ g p, -1 ≤ p → p ≤ 3000 → Eqv (kx g p) (kx8 p g)) : ∀ (m xx : Nat) (g p : Int), -1 ≤ p → p ≤ 3000 → (xx : Int) ≤ M 1 1 → M 1 1 - xx < m → Eqv (lX7_wettest_44 T what (yy : Int) kx m g p (xx : Int)) (lX8_wettest_41 M what (yy : Int) kx8 m p g (xx : Int)) := by
  have b1 := hb.b1; have b2 := hb.b2
  intro m
  induction m with
  | zero => intro xx g p _ _ h1 h2; omega
  | succ m ih =>
    intro xx g p hp1 hp2 h1 h2
    rw [lX7_wettest_44, lX8_wettest_41, lit (by decide), show ix 1 = 1 from by decide, hp.p1]
    by_cases c : M 1 1 ≤ (xx : Int)
    · rw [be_t c (by omega) (by omega), be_t c (by omega) (by omega)]
      exact hk g p hp1 hp2
    · unfold fX7_placeOf
      simp only [nm_e', bd_some]
      rw [be_f (by omega) (by omega) (by omega), be_f (by omega) (by omega) (by omega), wetAt7 ha (by omega) (by omega) (by omega) (by omega), wetOf8 (by omega) (by omega) (by omega) (by omega), bd_some, bd_some, bd_some, bd_some, be_bl]
      by_cases c2 : i32 g < i32 (M 1 (519 + (30 * (yy : Int) + (xx : Int)).toNat))
      · rw [bl_p c2, bl_p c2]
        exact ih (xx + 1) _ _ (by omega) (by omega) (by omega) (by omega)
      · rw [bl_n c2, bl_n c2]
        exact ih (xx + 1) _ _ hp1 hp2 (by omega) (by omega)
theorem wettest_out {what : Int} {kx kx8 : Int → Int → Option Int} (hb : PB (M 1)) (hp : PR (T 2) (M 1)) (ha : ∀ c : Nat, c < 900 → T 3 16 c = M 1 (519 + c)) (hk : ∀ g p, -1 ≤ p → p ≤ 3000 → Eqv (kx g p) (kx8 p g)) : ∀ (m yy : Nat) (g p : Int), -1 ≤ p → p ≤ 3000 → (yy : Int) ≤ M 1 2 → M 1 2 - yy < m → Eqv (lX7_wettest_26 T what kx m g p (yy : Int)) (lX8_wettest_27 M what kx8 m p g (yy : Int)) := by
  have b1 := hb.b1; have b2 := hb.b2
  intro m
  induction m with
  | zero => intro yy g p _ _ h1 h2; omega
  | succ m ih =>
    intro yy g p hp1 hp2 h1 h2
    rw [lX7_wettest_26, lX8_wettest_27, lit (by decide), show ix 2 = 2 from by decide, hp.p2]
    by_cases c : M 1 2 ≤ (yy : Int)
    · rw [be_t c (by omega) (by omega), be_t c (by omega) (by omega)]
      exact hk g p hp1 hp2
    · rw [be_f (by omega) (by omega) (by omega), be_f (by omega) (by omega) (by omega)]
      exact wettest_in hb hp ha (by omega) (fun g p q1 q2 => by rw [nm_e', nm_e']; exact ih (yy + 1) g p q1 q2 (by omega) (by omega)) FU 0 g p hp1 hp2 (by omega) (by show _ < ((5000 : Nat) : Int); omega)
theorem op_wettest (h : Inv n T J M) (hx : R32 x) : Eqv (fX7_wettest T x) (fX8_wettest M x) := by
  have hb := h.now.pb
  have b2 := hb.b2
  unfold fX7_wettest fX8_wettest
  rw [hasSq7 h.now.pr hb, isSq8 hb, bd_some, bd_some, bq_ite, bq_ite]
  refine Eqv.ite (fun c => ?_) (fun _ => Eqv.s _)
  rw [within7r hx ⟨by decide, by decide⟩ ⟨by decide, by decide⟩, in8i hx ⟨by decide, by decide⟩ ⟨by decide, by decide⟩, bd_some, bd_some, bq_ite, bq_ite]
  refine Eqv.ite (fun c2 => ?_) (fun _ => Eqv.s _)
  refine wettest_out hb h.now.pr h.now.ar.wet (fun g p q1 q2 => ?_) FU 0 0 (-1) (by decide) (by decide) (by omega) (by show _ < ((5000 : Nat) : Int); omega)
  by_cases q : p = -1
  · rw [bq_t (a := p) (b := -1) q, bq_t (a := p) (b := -1) q]
    have e : ∀ (X : Option Int), bq x 0 X X = X := fun X => by unfold bq; split <;> rfl
    rw [e, q]
    exact Eqv.s _
  · rw [bq_f (a := p) (b := -1) q (by omega) (by omega) (by omega) (by omega), bq_f (a := p) (b := -1) q (by omega) (by omega) (by omega) (by omega)]
    exact Eqv.bq (Eqv.s _) (Eqv.s _)
theorem rows_loop (h : Inv n T J M) : ∀ (m i : Nat) (acc : Int), i ≤ 4 → 4 - i < m → Eqv (lX7_countRows_4 T m acc (i : Int)) (lX8_count_159 M m acc (i : Int)) := by
  intro m
  induction m with
  | zero => intro i acc _ h2; omega
  | succ m ih =>
    intro i acc h1 h2
    rw [lX7_countRows_4, lX8_count_159]
    simp only [nm_e', Int.add_zero]
    by_cases c : i = 4
    · subst c
      rw [be_t (by decide) (by decide) (by decide), be_t (by decide) (by decide) (by decide)]
      exact Eqv.s _
    · rw [be_f (by omega) (by omega) (by omega), be_f (by omega) (by omega) (by omega), gi (by omega) (by omega) (by omega), gi (by omega) (by omega) (by omega), ix_nat (by omega)]
      rcases (h.row i (by omega)).has with ⟨r1, r2⟩ | ⟨r1, r2, r3⟩
      · rw [bq_t r1, bq_t r2]
        exact ih (i + 1) acc (by omega) (by omega)
      · rw [bq_f (by omega) (by omega) (by omega) (by omega) (by omega), bq_f (by omega) (by omega) (by omega) (by omega) (by omega)]
        exact ih (i + 1) _ (by omega) (by omega)
theorem op_count (h : Inv n T J M) : Eqv (fX7_count T x) (fX8_count M x) := by
  have hp := h.now.pr
  unfold fX7_count fX8_count
  rw [hp.p0, hp.p1, hp.p2, hp.p5, hp.p6, hp.p7, hp.p8, hp.p10, hp.p11, hp.p14, hp.p18, h.tape.len]
  refine Eqv.bq (Eqv.s _) (Eqv.bq (Eqv.s _) (Eqv.bq (Eqv.s _) (Eqv.bq (Eqv.s _) (Eqv.bq (Eqv.s _) (Eqv.bq (Eqv.s _) (Eqv.bq (Eqv.s _) (Eqv.bq (Eqv.s _) (Eqv.bq (Eqv.s _) (Eqv.bq (Eqv.s _) (Eqv.bq (Eqv.s _) (Eqv.bq (Eqv.s _) (Eqv.bq ?_ (Eqv.s _)))))))))))))
  obtain ⟨r, e1, e2⟩ := rows_loop h FU 0 0 (by omega) (by show _ < 5000; omega)
  exact ⟨r, by unfold fX7_countRows; rw [show lX7_countRows_4 T FU 0 0 = some r from e1, bd_some], e2⟩
/-! room for a table -/
def takenT (w : Nat → Int) (t : Nat) (x z : Int) (k : Nat) : Prop := k ≠ t ∧ w (35 + 3 * k) = x ∧ w (36 + 3 * k) = z
theorem room7 {P : Ob} {w : Nat → Int} {t : Nat} {kx : Option Int} (hb : PB w) (hp : PR P w) (ht : t < 8) (hx : 0 ≤ x ∧ x < 30) (hz : 0 ≤ z ∧ z < 30) : ∀ (m k : Nat), (k : Int) ≤ w 11 → w 11 - k < m → (lX1_hasRoomFor_3 P (t : Int) x z kx m (k : Int) = some 0 ∧ ∃ i : Nat, (i : Int) < w 11 ∧ takenT w t x z i) ∨ (lX1_hasRoomFor_3 P (t : Int) x z kx m (k : Int) = kx ∧ ∀ i : Nat, k ≤ i → (i : Int) < w 11 → ¬ takenT w t x z i) := by
  have b11 := hb.b11; have b1 := hb.b1; have b2 := hb.b2
  intro m
  induction m with
  | zero => intro k h1 h2; omega
  | succ m ih =>
    intro k h1 h2
    rw [lX1_hasRoomFor_3, hp.p14]
    simp only [nm_e']
    by_cases c : w 11 ≤ k
    · rw [be_t c (by omega) (by omega)]
      exact Or.inr ⟨rfl, fun i q1 q2 => by omega⟩
    · have hk : (k : Int) < w 11 := by omega
      obtain ⟨e1, e2, e3⟩ := hp.tab k hk
      have htb := hb.tab k hk
      have next : ¬ takenT w t x z k → (lX1_hasRoomFor_3 P (t : Int) x z kx m ((k : Int) + 1) = some 0 ∧ ∃ i : Nat, (i : Int) < w 11 ∧ takenT w t x z i) ∨ (lX1_hasRoomFor_3 P (t : Int) x z kx m ((k : Int) + 1) = kx ∧ ∀ i : Nat, k ≤ i → (i : Int) < w 11 → ¬ takenT w t x z i) := fun hn => by
        rcases ih (k + 1) (by omega) (by omega) with q | ⟨q1, q2⟩
        · exact Or.inl q
        · refine Or.inr ⟨q1, fun i a1 a2 => ?_⟩
          by_cases ci : i = k
          · subst ci; exact hn
          · exact q2 i (by omega) a2
      rw [be_f (by omega) (by omega) (by omega), gi (by omega) (by omega) (by omega), gi (by omega) (by omega) (by omega), ix_nat (by omega), e1, e2]
      by_cases c1 : k = t
      · subst c1
        rw [bq_t rfl]
        exact next (fun q => q.1 rfl)
      · rw [bq_f (a := (k : Int)) (by omega) (by omega) (by omega) (by omega) (by omega)]
        by_cases c2 : w (35 + 3 * k) = x
        · rw [bq_t c2]
          by_cases c3 : w (36 + 3 * k) = z
          · rw [bq_t c3]
            exact Or.inl ⟨rfl, k, hk, c1, c2, c3⟩
          · rw [bq_f c3 (by omega) (by omega) (by omega) (by omega)]
            exact next (fun q => c3 q.2.2)
        · rw [bq_f c2 (by omega) (by omega) (by omega) (by omega)]
          exact next (fun q => c2 q.2.1)
theorem taken1 (hb : PB (M 1)) {t : Int} : ∀ (m k : Nat), (k : Int) ≤ M 1 11 → M 1 11 - k < m → lX8_isTaken_11 M x z t m 1 (k : Int) = some 1 := by
  have b11 := hb.b11
  intro m
  induction m with
  | zero => intro k h1 h2; omega
  | succ m ih =>
    intro k h1 h2
    rw [lX8_isTaken_11, lit (by decide), show ix 11 = 11 from by decide]
    by_cases c : M 1 11 ≤ k
    · rw [be_t c (by omega) (by omega)]; rfl
    · rw [be_f (by omega) (by omega) (by omega), bq_f (by decide) (by decide) (by decide) (by decide) (by decide), nm_e']
      exact ih (k + 1) (by omega) (by omega)
theorem taken0 {t : Nat} (hb : PB (M 1)) (ht : t < 8) (hx : 0 ≤ x ∧ x < 30) (hz : 0 ≤ z ∧ z < 30) : ∀ (m k : Nat), (k : Int) ≤ M 1 11 → M 1 11 - k < m → (lX8_isTaken_11 M x z (t : Int) m 0 (k : Int) = some 1 ∧ ∃ i : Nat, (i : Int) < M 1 11 ∧ takenT (M 1) t x z i) ∨ (lX8_isTaken_11 M x z (t : Int) m 0 (k : Int) = some 0 ∧ ∀ i : Nat, k ≤ i → (i : Int) < M 1 11 → ¬ takenT (M 1) t x z i) := by
  have b11 := hb.b11; have b1 := hb.b1; have b2 := hb.b2
  intro m
  induction m with
  | zero => intro k h1 h2; omega
  | succ m ih =>
    intro k h1 h2
    rw [lX8_isTaken_11, lit (by decide), show ix 11 = 11 from by decide]
    simp only [nm_e']
    by_cases c : M 1 11 ≤ k
    · rw [be_t c (by omega) (by omega)]
      exact Or.inr ⟨rfl, fun i q1 q2 => by omega⟩
    · have hk : (k : Int) < M 1 11 := by omega
      have htb := hb.tab k hk
      have next : ¬ takenT (M 1) t x z k → (lX8_isTaken_11 M x z (t : Int) m 0 ((k : Int) + 1) = some 1 ∧ ∃ i : Nat, (i : Int) < M 1 11 ∧ takenT (M 1) t x z i) ∨ (lX8_isTaken_11 M x z (t : Int) m 0 ((k : Int) + 1) = some 0 ∧ ∀ i : Nat, k ≤ i → (i : Int) < M 1 11 → ¬ takenT (M 1) t x z i) := fun hn => by
        rcases ih (k + 1) (by omega) (by omega) with q | ⟨q1, q2⟩
        · exact Or.inl q
        · refine Or.inr ⟨q1, fun i a1 a2 => ?_⟩
          by_cases ci : i = k
          · subst ci; exact hn
          · exact q2 i (by omega) a2
      rw [be_f (by omega) (by omega) (by omega), bq_t rfl, ofTable8 (c := 0) (d := 0) rfl (by decide) (by omega), bd_some, ofTable8 (c := 1) (d := 1) rfl (by decide) (by omega), bd_some, show 35 + 3 * k + 0 = 35 + 3 * k from rfl, show 35 + 3 * k + 1 = 36 + 3 * k from by omega]
      by_cases c1 : k = t
      · subst c1
        rw [bq_t rfl]
        exact next (fun q => q.1 rfl)
      · rw [bq_f (a := (k : Int)) (by omega) (by omega) (by omega) (by omega) (by omega)]
        by_cases c2 : M 1 (35 + 3 * k) = x
        · rw [bq_t c2]
          by_cases c3 : M 1 (36 + 3 * k) = z
          · rw [bq_t c3]
            exact Or.inl ⟨taken1 hb m (k + 1) (by omega) (by omega), k, hk, c1, c2, c3⟩
          · rw [bq_f c3 (by omega) (by omega) (by omega) (by omega)]
            exact next (fun q => c3 q.2.2)
        · rw [bq_f c2 (by omega) (by omega) (by omega) (by omega)]
          exact next (fun q => c2 q.2.1)
theorem room_eq {P : Ob} {t : Nat} (hb : PB (M 1)) (hp : PR P (M 1)) (ht : t < 8) (hx : 0 ≤ x ∧ x < 30) (hz : 0 ≤ z ∧ z < 30) : (fX1_hasRoomFor P (t : Int) x z = some 0 ∧ fX8_isTaken M x z (t : Int) = some 1) ∨ (fX1_hasRoomFor P (t : Int) x z = some 1 ∧ fX8_isTaken M x z (t : Int) = some 0) := by
  have b11 := hb.b11
  unfold fX1_hasRoomFor fX8_isTaken
  rw [inBasin7 hb hp (by omega) (by omega) (by omega) (by omega), basin8 hb (by omega) (by omega) (by omega) (by omega), bd_some, bd_some]
  by_cases ci : inB (M 1) x z
  · rw [if_pos ci, bq_f (by decide) (by decide) (by decide) (by decide) (by decide)]
    refine Or.inl ⟨?_, taken1 hb FU 0 (by omega) (by show _ < ((5000 : Nat) : Int); omega)⟩
    rcases room7 (kx := some 0) hb hp ht hx hz FU 0 (by omega) (by show _ < ((5000 : Nat) : Int); omega) with ⟨e, -⟩ | ⟨e, -⟩
    · exact e
    · exact e
  · rw [if_neg ci, bq_t rfl]
    rcases room7 (kx := some 1) hb hp ht hx hz FU 0 (by omega) (by show _ < ((5000 : Nat) : Int); omega) with ⟨e, i, i1, i2⟩ | ⟨e, q⟩
    · rcases taken0 hb ht hx hz FU 0 (by omega) (by show _ < ((5000 : Nat) : Int); omega) with ⟨e2, -⟩ | ⟨e2, q2⟩
      · exact Or.inl ⟨e, e2⟩
      · exact absurd i2 (q2 i (by omega) i1)
    · rcases taken0 hb ht hx hz FU 0 (by omega) (by show _ < ((5000 : Nat) : Int); omega) with ⟨e2, i, i1, i2⟩ | ⟨e2, q2⟩
      · exact absurd i2 (q i (by omega) i1)
      · exact Or.inr ⟨e, e2⟩
theorem where_in {d v ox oy : Int} {t : Nat} {kx kx8 : Int → Int → Option Int} (hb : PB (M 1)) (hp : PR (T 2) (M 1)) (ha : ∀ c : Nat, c < 900 → T 3 16 c = M 1 (519 + c)) (ht : (t : Int) < M 1 11) (hox : M 1 (35 + 3 * t) = ox) (hd : 0 ≤ d) (hd2 : d ≤ 9) (hv : -10 ≤ v) (hv2 : v ≤ 100) (hk : ∀ b l, Eqv (kx b l) (kx8 b l)) :
    ∀ (m e : Nat) (b l : Int), (e : Int) ≤ 2 * d + 1 → 2 * d + 1 - e < m → Eqv (lX7_where_74 T (t : Int) d ox oy v kx m b l (ox - d + (e : Int))) (lX8_where_61 M (t : Int) d v kx8 m b l (ox - d + (e : Int))) := by
  have b11 := hb.b11; have b1 := hb.b1; have b2 := hb.b2
  have htb := hb.tab t ht
  intro m
  induction m with
  | zero => intro e b l h1 h2; omega
  | succ m ih =>
    intro e b l h1 h2
    have e1 : ox - d + (e : Int) + 1 = ox - d + ((e + 1 : Nat) : Int) := by omega
    rw [lX7_where_74, lX8_where_61, ofTable8 (c := 0) (d := 0) rfl (by decide) (by omega), bd_some, show 35 + 3 * t + 0 = 35 + 3 * t from rfl, hox]
    simp only [nm_e']
    by_cases c : (e : Int) = 2 * d + 1
    · rw [bl_t (by omega) (by omega) (by omega), bl_t (by omega) (by omega) (by omega)]
      exact hk b l
    · rw [bl_f (by omega) (by omega) (by omega), bl_f (by omega) (by omega) (by omega), isCell7 hp hb ⟨by omega, by omega⟩ ⟨by omega, by omega⟩, isCell8 hb ⟨by omega, by omega⟩ ⟨by omega, by omega⟩, bd_some, bd_some, bq_ite, bq_ite]
      refine Eqv.ite (fun cc => ?_) (fun _ => ?_)
      · have take : Eqv (jX7_where_142 (lX7_where_74 T (t : Int) d ox oy v kx m) T (t : Int) d ox oy v (ox - d + (e : Int))) (jX8_where_118 (lX8_where_61 M (t : Int) d v kx8 m) M (t : Int) d v (ox - d + (e : Int))) := by
          unfold jX7_where_142 jX8_where_118 fX7_placeOf
          rw [wetAt7 ha (by omega) (by omega) (by omega) (by omega), wetOf8 (by omega) (by omega) (by omega) (by omega), bd_some, bd_some, nm_e', nm_e', bd_some, nm_e', e1]
          exact ih (e + 1) _ _ (by omega) (by omega)
        rcases room_eq (P := T 2) (t := t) (x := ox - d + (e : Int)) (z := v) hb hp (by omega) (by omega) (by omega) with ⟨r1, r2⟩ | ⟨r1, r2⟩
        · rw [r1, r2, bd_some, bd_some, bq_t rfl, bq_f (by decide) (by decide) (by decide) (by decide) (by decide), e1]
          exact ih (e + 1) _ _ (by omega) (by omega)
        · rw [r1, r2, bd_some, bd_some, bq_f (a := 1) (b := 0) (by decide) (by decide) (by decide) (by decide) (by decide), bq_t (a := 0) (b := 0) rfl]
          by_cases c2 : i32 b = i32 (-1)
          · rw [bq_p c2, bq_p c2]
            exact take
          · rw [bq_n c2, bq_n c2, wetAt7 ha (by omega) (by omega) (by omega) (by omega), wetOf8 (by omega) (by omega) (by omega) (by omega), bd_some, bd_some, be_bl]
            by_cases c3 : i32 (M 1 (519 + (30 * v + (ox - d + (e : Int))).toNat)) < i32 l
            · rw [bl_p c3, bl_p c3]
              exact take
            · rw [bl_n c3, bl_n c3, e1]
              exact ih (e + 1) _ _ (by omega) (by omega)
      · rw [e1]
        exact ih (e + 1) _ _ (by omega) (by omega)
theorem where_out {d ox oy : Int} {t : Nat} (hb : PB (M 1)) (hp : PR (T 2) (M 1)) (ha : ∀ c : Nat, c < 900 → T 3 16 c = M 1 (519 + c)) (ht : (t : Int) < M 1 11) (hox : M 1 (35 + 3 * t) = ox) (hoy : M 1 (36 + 3 * t) = oy) (hd : 0 ≤ d) (hd2 : d ≤ 9) :
    ∀ (m e : Nat) (b l : Int), (e : Int) ≤ 2 * d + 1 → 2 * d + 1 - e < m → Eqv (lX7_where_60 T (t : Int) d ox oy m b l (oy - d + (e : Int))) (lX8_where_38 M (t : Int) d m b l (oy - d + (e : Int))) := by
  have b11 := hb.b11; have b1 := hb.b1; have b2 := hb.b2
  have htb := hb.tab t ht
  intro m
  induction m with
  | zero => intro e b l h1 h2; omega
  | succ m ih =>
    intro e b l h1 h2
    have e1 : oy - d + (e : Int) + 1 = oy - d + ((e + 1 : Nat) : Int) := by omega
    rw [lX7_where_60, lX8_where_38, ofTable8 (c := 1) (d := 1) rfl (by decide) (by omega), bd_some, ofTable8 (c := 0) (d := 0) rfl (by decide) (by omega), bd_some, show 35 + 3 * t + 0 = 35 + 3 * t from rfl, show 35 + 3 * t + 1 = 36 + 3 * t from by omega, hox, hoy]
    by_cases c : (e : Int) = 2 * d + 1
    · rw [bl_t (by omega) (by omega) (by omega), bl_t (by omega) (by omega) (by omega)]
      exact Eqv.s _
    · rw [bl_f (by omega) (by omega) (by omega), bl_f (by omega) (by omega) (by omega), nm_e', nm_e', show ox - d = ox - d + ((0 : Nat) : Int) from by omega]
      exact where_in hb hp ha ht hox hd hd2 (by omega) (by omega) (fun b l => by
        rw [nm_e', nm_e', e1]
        exact ih (e + 1) b l (by omega) (by omega)) FU 0 b l (by omega) (by show _ < ((5000 : Nat) : Int); omega)
theorem op_where (h : Inv n T J M) (hx : R32 x) (hz : R32 z) : Eqv (fX7_where T x z) (fX8_where M x z) := by
  have hb := h.now.pb
  have b11 := hb.b11
  unfold fX7_where fX8_where
  rw [isTable7 h.now.pr hb hx, isTable8 hb hx, bd_some, bd_some, bq_ite, bq_ite]
  refine Eqv.ite (fun c => ?_) (fun _ => Eqv.s _)
  rw [within7r hz ⟨by decide, by decide⟩ ⟨by decide, by decide⟩, in8i hz ⟨by decide, by decide⟩ ⟨by decide, by decide⟩, bd_some, bd_some, bq_ite, bq_ite]
  refine Eqv.ite (fun c2 => ?_) (fun _ => Eqv.s _)
  obtain ⟨t, rfl⟩ := Int.eq_ofNat_of_zero_le c.1
  have ht : (t : Int) < M 1 11 := by omega
  rw [gi (by omega) (by omega) (by omega), nm_e', gi (by omega) (by omega) (by omega), nm_e', nm_e', ix_nat (by omega), (h.now.pr.tab t ht).1, (h.now.pr.tab t ht).2.1, ofTable8 (c := 1) (d := 1) rfl (by decide) (by omega), bd_some, nm_e', show 35 + 3 * t + 1 = 36 + 3 * t from by omega, show M 1 (36 + 3 * t) - z = M 1 (36 + 3 * t) - z + ((0 : Nat) : Int) from by omega]
  exact where_out hb h.now.pr h.now.ar.wet ht rfl rfl c2.1 c2.2 FU 0 _ _ (by omega) (by show _ < ((5000 : Nat) : Int); omega)
end
