/-! LAYER 2: steady winds -/
/-- in the basin -/
def inB (w : Nat → Int) (x z : Int) : Prop := (-(w 5) ≤ x - w 3 ∧ x - w 3 ≤ w 5) ∧ -(w 5) ≤ z - w 4 ∧ z - w 4 ≤ w 5
/-- where drops come: -3 the basin, -1 beyond the square -/
noncomputable def plc (w : Nat → Int) (x z : Int) : Int := @ite _ (inB w x z) (Classical.propDecidable _) (-3) (if (0 ≤ x ∧ x < w 1) ∧ 0 ≤ z ∧ z < w 2 then x + 100 * z else -1)
theorem plc_b {w : Nat → Int} {x z : Int} (h : inB w x z) : plc w x z = -3 := by unfold plc; rw [if_pos h]
theorem plc_n {w : Nat → Int} {x z : Int} (h : ¬ inB w x z) : plc w x z = if (0 ≤ x ∧ x < w 1) ∧ 0 ≤ z ∧ z < w 2 then x + 100 * z else -1 := by unfold plc; rw [if_neg h]
/-- how far a steady wind drifts a drop of this drag from this height -/
def stD (d h v : Int) : Int := d * (v % 10) * (2 * pcN h)
def stX (w : Nat → Int) (d h v : Int) : Int := w 3 + stD d h v / 100 * wayX (v / 10).toNat
def stZ (w : Nat → Int) (d h v : Int) : Int := w 4 + stD d h v / 100 * wayY (v / 10).toNat
theorem way_all : ∀ k : Nat, k < 4 → (wayX k = 0 ∨ wayX k = 1 ∨ wayX k = -1) ∧ (wayY k = 0 ∨ wayY k = 1 ∨ wayY k = -1) := by decide
theorem stD_b {d h v : Int} (hd : 0 ≤ d) (hd2 : d ≤ 99) (hh : 0 ≤ h) (hh2 : h ≤ 60) : 0 ≤ stD d h v ∧ stD d h v ≤ 19602 := by
  have hp := pcB hh hh2
  unfold stD
  have h1 : 0 ≤ v % 10 := Int.emod_nonneg v (by decide)
  have h2 : v % 10 < 10 := Int.emod_lt_of_pos v (by decide)
  have a1 : 0 ≤ d * (v % 10) := Int.mul_nonneg hd h1
  have a2 : d * (v % 10) ≤ 99 * 9 := Int.mul_le_mul hd2 (by omega) h1 (by omega)
  exact ⟨Int.mul_nonneg a1 (by omega), Int.le_trans (Int.mul_le_mul a2 (show 2 * pcN h ≤ 22 by omega) (by omega) (by omega)) (by decide)⟩
section
variable {P A M : Ob} {w : Nat → Int} {B x z d h v : Int}
theorem basin7 (hp : PR P w) (hb : PB w) (hx : -1000 ≤ x) (hx2 : x ≤ 1000) (hz : -1000 ≤ z) (hz2 : z ≤ 1000) : fX1_placeHit P x z = some (plc w x z) := by
  have h1 := hb.b1; have h2 := hb.b2; have h3 := hb.b3; have h4 := hb.b4; have h5 := hb.b5
  have hj : jX1_placeHit_55 P x z = some (if (0 ≤ x ∧ x < w 1) ∧ 0 ≤ z ∧ z < w 2 then x + 100 * z else -1) := by
    unfold jX1_placeHit_55
    rw [hp.p1, hp.p2]
    by_cases c1 : x < 0
    · rw [bl_t c1 (by omega) (by omega), if_neg (by omega)]
    · rw [bl_f (by omega) (by omega) (by omega)]
      by_cases c2 : w 1 ≤ x
      · rw [be_t c2 (by omega) (by omega), if_neg (by omega)]
      · rw [be_f (by omega) (by omega) (by omega)]
        by_cases c3 : z < 0
        · rw [bl_t c3 (by omega) (by omega), if_neg (by omega)]
        · rw [bl_f (by omega) (by omega) (by omega)]
          by_cases c4 : w 2 ≤ z
          · rw [be_t c4 (by omega) (by omega), if_neg (by omega)]
          · rw [be_f (by omega) (by omega) (by omega), if_pos (by omega)]
  unfold fX1_placeHit
  rw [hp.p3, hp.p4, hp.p5, hj]
  by_cases c1 : x < w 3 - w 5
  · rw [bl_t c1 (by omega) (by omega), plc_n (fun q => by have := q.1.1; omega)]
  · rw [bl_f (by omega) (by omega) (by omega)]
    by_cases c2 : w 3 + w 5 < x
    · rw [bl_t c2 (by omega) (by omega), plc_n (fun q => by have := q.1.2; omega)]
    · rw [bl_f (by omega) (by omega) (by omega)]
      by_cases c3 : z < w 4 - w 5
      · rw [bl_t c3 (by omega) (by omega), plc_n (fun q => by have := q.2.1; omega)]
      · rw [bl_f (by omega) (by omega) (by omega)]
        by_cases c4 : w 4 + w 5 < z
        · rw [bl_t c4 (by omega) (by omega), plc_n (fun q => by have := q.2.2; omega)]
        · rw [bl_f (by omega) (by omega) (by omega), plc_b ⟨⟨by omega, by omega⟩, by omega, by omega⟩]
theorem basin8 (hb : PB (M 1)) (hx : -1000 ≤ x) (hx2 : x ≤ 1000) (hz : -1000 ≤ z) (hz2 : z ≤ 1000) : fX8_isBasin M x z = some (@ite _ (inB (M 1) x z) (Classical.propDecidable _) 1 0) := by
  have h3 := hb.b3; have h4 := hb.b4; have h5 := hb.b5
  unfold fX8_isBasin
  rw [lit (by decide), lit (by decide), show ix 5 = 5 from by decide, show ix 3 = 3 from by decide, show ix 4 = 4 from by decide, jab_e (by omega) (by omega), jab_e (by omega) (by omega), lit (by decide), lit (by decide)]
  by_cases c1 : -(M 1 5) ≤ x - M 1 3 ∧ x - M 1 3 ≤ M 1 5
  · rw [bl_f (by split <;> omega) (by split <;> omega) (by omega)]
    by_cases c2 : -(M 1 5) ≤ z - M 1 4 ∧ z - M 1 4 ≤ M 1 5
    · rw [bl_f (by split <;> omega) (by split <;> omega) (by omega), if_pos (show inB (M 1) x z from ⟨c1, c2⟩)]
    · rw [bl_t (by split <;> omega) (by omega) (by split <;> omega), if_neg (show ¬ inB (M 1) x z from fun q => c2 q.2)]
  · rw [bl_t (by split <;> omega) (by omega) (by split <;> omega), if_neg (show ¬ inB (M 1) x z from fun q => c1 q.1)]
theorem driftOf8 (hh : 0 ≤ h) (hh2 : h ≤ 60) (hv : 0 ≤ v) (hv2 : v ≤ 39) : fX8_driftOf M d h v = some (stD d h v) := by
  unfold fX8_driftOf stD
  rw [pc8 hh hh2, bd_some, jrm_n hv (by omega) (by decide) (by decide), Int.mul_assoc (d * (v % 10)) 2 (pcN h)]
theorem east8 (hh : 0 ≤ h) (hh2 : h ≤ 60) (hv : 0 ≤ v) (hv2 : v ≤ 39) : fX8_eastOf M d h v = some (stD d h v * wayX (v / 10).toNat) := by
  unfold fX8_eastOf
  rw [driftOf8 hh hh2 hv hv2, jdv_n hv (by omega) (by decide) (by decide)]
  rcases (show v / 10 = 0 ∨ v / 10 = 1 ∨ v / 10 = 2 ∨ v / 10 = 3 by omega) with e | e | e | e <;> rw [e]
  · rw [bq_f (by decide) (by decide) (by decide) (by decide) (by decide), bq_f (by decide) (by decide) (by decide) (by decide) (by decide), show wayX (0 : Int).toNat = 0 from rfl, Int.mul_zero]
  · rw [bq_t rfl, show wayX (1 : Int).toNat = 1 from rfl, Int.mul_one]; rfl
  · rw [bq_f (by decide) (by decide) (by decide) (by decide) (by decide), bq_f (by decide) (by decide) (by decide) (by decide) (by decide), show wayX (2 : Int).toNat = 0 from rfl, Int.mul_zero]
  · rw [bq_f (by decide) (by decide) (by decide) (by decide) (by decide), bq_t rfl, show wayX (3 : Int).toNat = -1 from rfl, show stD d h v * (-1) = -(stD d h v) from by omega]; rfl
theorem south8 (hh : 0 ≤ h) (hh2 : h ≤ 60) (hv : 0 ≤ v) (hv2 : v ≤ 39) : fX8_southOf M d h v = some (stD d h v * wayY (v / 10).toNat) := by
  unfold fX8_southOf
  rw [driftOf8 hh hh2 hv hv2, jdv_n hv (by omega) (by decide) (by decide)]
  rcases (show v / 10 = 0 ∨ v / 10 = 1 ∨ v / 10 = 2 ∨ v / 10 = 3 by omega) with e | e | e | e <;> rw [e]
  · rw [bq_f (by decide) (by decide) (by decide) (by decide) (by decide), bq_t rfl, show wayY (0 : Int).toNat = -1 from rfl, show stD d h v * (-1) = -(stD d h v) from by omega]; rfl
  · rw [bq_f (by decide) (by decide) (by decide) (by decide) (by decide), bq_f (by decide) (by decide) (by decide) (by decide) (by decide), show wayY (1 : Int).toNat = 0 from rfl, Int.mul_zero]
  · rw [bq_t rfl, show wayY (2 : Int).toNat = 1 from rfl, Int.mul_one]; rfl
  · rw [bq_f (by decide) (by decide) (by decide) (by decide) (by decide), bq_f (by decide) (by decide) (by decide) (by decide) (by decide), show wayY (3 : Int).toNat = 0 from rfl, Int.mul_zero]
theorem tdiv_way {D k : Int} (hD : 0 ≤ D) (hk : k = 0 ∨ k = 1 ∨ k = -1) : (D * k).tdiv 100 = D / 100 * k := by
  rcases hk with rfl | rfl | rfl
  · rw [Int.mul_zero, Int.mul_zero]; rfl
  · rw [Int.mul_one, Int.mul_one, Int.tdiv_eq_ediv_of_nonneg hD]
  · rw [show D * (-1) = -D from by omega, Int.neg_tdiv, Int.tdiv_eq_ediv_of_nonneg hD]; omega
theorem cellX8 (hb : PB (M 1)) (hd : 0 ≤ d) (hd2 : d ≤ 99) (hh : 0 ≤ h) (hh2 : h ≤ 60) (hv : 0 ≤ v) (hv2 : v ≤ 39) : fX8_cellX M (stD d h v * wayX (v / 10).toNat) = some (stX (M 1) d h v) := by
  have hD := stD_b (v := v) hd hd2 hh hh2
  have hw := (way_all (v / 10).toNat (by omega)).1
  unfold fX8_cellX stX
  rw [lit (by decide), show ix 3 = 3 from by decide, jdv_e (by rcases hw with e | e | e <;> rw [e] <;> omega) (by rcases hw with e | e | e <;> rw [e] <;> omega) (by decide) (by decide), tdiv_way hD.1 hw]
theorem cellZ8 (hb : PB (M 1)) (hd : 0 ≤ d) (hd2 : d ≤ 99) (hh : 0 ≤ h) (hh2 : h ≤ 60) (hv : 0 ≤ v) (hv2 : v ≤ 39) : fX8_cellY M (stD d h v * wayY (v / 10).toNat) = some (stZ (M 1) d h v) := by
  have hD := stD_b (v := v) hd hd2 hh hh2
  have hw := (way_all (v / 10).toNat (by omega)).2
  unfold fX8_cellY stZ
  rw [lit (by decide), show ix 4 = 4 from by decide, jdv_e (by rcases hw with e | e | e <;> rw [e] <;> omega) (by rcases hw with e | e | e <;> rw [e] <;> omega) (by decide) (by decide), tdiv_way hD.1 hw]
theorem st_b (hb : PB w) (hd : 0 ≤ d) (hd2 : d ≤ 99) (hh : 0 ≤ h) (hh2 : h ≤ 60) (hv : 0 ≤ v) (hv2 : v ≤ 39) : (-1000 ≤ stX w d h v ∧ stX w d h v ≤ 1000) ∧ -1000 ≤ stZ w d h v ∧ stZ w d h v ≤ 1000 := by
  have hD := stD_b (v := v) hd hd2 hh hh2
  have hw := way_all (v / 10).toNat (by omega)
  have h3 := hb.b3; have h4 := hb.b4
  unfold stX stZ
  refine ⟨?_, ?_⟩
  · rcases hw.1 with e | e | e <;> rw [e] <;> omega
  · rcases hw.2 with e | e | e <;> rw [e] <;> omega
theorem caught8 (hb : PB (M 1)) (hd : 0 ≤ d) (hd2 : d ≤ 99) (hh : 0 ≤ h) (hh2 : h ≤ 60) (hv : 0 ≤ v) (hv2 : v ≤ 39) : fX8_isCaught M (stD d h v * wayX (v / 10).toNat) (stD d h v * wayY (v / 10).toNat) = some (@ite _ (inB (M 1) (stX (M 1) d h v) (stZ (M 1) d h v)) (Classical.propDecidable _) 1 0) := by
  have hs := st_b hb hd hd2 hh hh2 hv hv2
  unfold fX8_isCaught
  rw [cellX8 hb hd hd2 hh hh2 hv hv2, bd_some, cellZ8 hb hd hd2 hh hh2 hv hv2, bd_some, basin8 hb hs.1.1 hs.1.2 hs.2.1 hs.2.2, bd_some, gd_t (@isz_ite _ (Classical.propDecidable _))]
theorem sCaught8 (hb : PB (M 1)) (hd : 0 ≤ d) (hd2 : d ≤ 99) (hh : 0 ≤ h) (hh2 : h ≤ 60) (hv : 0 ≤ v) (hv2 : v ≤ 39) : fX8_isSteadyCaught M d h v = some (@ite _ (inB (M 1) (stX (M 1) d h v) (stZ (M 1) d h v)) (Classical.propDecidable _) 1 0) := by
  unfold fX8_isSteadyCaught
  rw [east8 hh hh2 hv hv2, bd_some, south8 hh hh2 hv hv2, bd_some, caught8 hb hd hd2 hh hh2 hv hv2, bd_some, gd_t (@isz_ite _ (Classical.propDecidable _))]
theorem flight7 (hh : 0 ≤ h) (hh2 : h ≤ 60) : fX7_flightOf h = some (2 * pcN h) := by
  unfold fX7_flightOf
  rw [pc7 hh hh2]
  rfl
theorem sDrift7 {s : Nat} (hb : PB w) (hp : PR P w) (hs : (s : Int) < w 10) (hv : 0 ≤ v) (hv2 : v ≤ 39) : fX1_steadyDrift P (s : Int) (2 * pcN h) v = some (stD (w (25 + 2 * s)) h v) := by
  have h10 := hb.b10
  unfold fX1_steadyDrift stD
  rw [gi (by omega) (by omega) (by omega), ix_nat (by omega), (hp.size s hs).1, jrm_n hv (by omega) (by decide) (by decide)]
theorem sPlace7 {s : Nat} (hb : PB w) (hp : PR P w) (hs : (s : Int) < w 10) (hh : 0 ≤ h) (hh2 : h ≤ 60) (hv : 0 ≤ v) (hv2 : v ≤ 39) : fX1_steadyPlace P (s : Int) (2 * pcN h) v = some (plc w (stX w (w (25 + 2 * s)) h v) (stZ w (w (25 + 2 * s)) h v)) := by
  obtain ⟨t1, t2, t3, t4⟩ := hb.size s hs
  have hD := stD_b (v := v) t1 t2 hh hh2
  have hst := st_b hb t1 t2 hh hh2 hv hv2
  unfold fX1_steadyPlace
  rw [sDrift7 hb hp hs hv hv2, bd_some, nm_e', jdv_n hv (by omega) (by decide) (by decide), gi (by omega) (by omega) (by decide), gi (by omega) (by omega) (by decide), jdv_n hD.1 (by omega) (by decide) (by decide), hp.p3, hp.p4, ix_e (by omega) (by omega)]
  show bd (fX1_placeHit P (stX w (w (25 + 2 * s)) h v) (stZ w (w (25 + 2 * s)) h v)) _ = _
  rw [basin7 hp hb hst.1.1 hst.1.2 hst.2.1 hst.2.2]
  rfl
theorem drag8 {s : Nat} (hs : s < 5) : fX8_dragOf M (s : Int) = some (M 1 (25 + 2 * s)) := by
  unfold fX8_dragOf
  rw [gi (by omega) (by omega) (by omega), ix_e (by omega) (by omega), show (25 + 2 * (s : Int)).toNat = 25 + 2 * s from by omega]
theorem share8 {s : Nat} (hs : s < 5) : fX8_shareOf M (s : Int) = some (M 1 (26 + 2 * s)) := by
  unfold fX8_shareOf
  rw [gi (by omega) (by omega) (by omega), ix_e (by omega) (by omega), show (25 + 2 * (s : Int) + 1).toNat = 26 + 2 * s from by omega]
theorem stray_loop (hb : PB (M 1)) (hp : PR P (M 1)) (hh : 0 ≤ h) (hh2 : h ≤ 60) (hv : 0 ≤ v) (hv2 : v ≤ 39) : ∀ (m s : Nat) (acc : Int), 0 ≤ acc → acc ≤ 9 * s → (s : Int) ≤ M 1 10 → M 1 10 - s < m → ∃ r, lX1_strayFrom_11 P v (2 * pcN h) m acc s = some r ∧ lX8_strayOf_5 M h v m acc s = some r ∧ 0 ≤ r ∧ r ≤ 45 := by
  have h10 := hb.b10
  intro m
  induction m with
  | zero => intro s acc _ _ h1 h2; omega
  | succ m ih =>
    intro s acc ha ha2 h1 h2
    rw [lX1_strayFrom_11, lX8_strayOf_5, lit (i := 10) (n := 1419) (by decide), show ix 10 = 10 from by decide, hp.p11]
    by_cases c : M 1 10 ≤ s
    · rw [be_t c (by omega) (by omega), be_t c (by omega) (by omega)]
      exact ⟨acc, rfl, rfl, ha, by omega⟩
    · have hs : (s : Int) < M 1 10 := by omega
      obtain ⟨t1, t2, t3, t4⟩ := hb.size s hs
      have e := hp.size s hs
      rw [be_f (by omega) (by omega) (by omega), be_f (by omega) (by omega) (by omega), sPlace7 hb hp hs hh hh2 hv hv2, drag8 (by omega), bd_some, bd_some, sCaught8 hb t1 t2 hh hh2 hv hv2, bd_some, share8 (by omega)]
      by_cases c2 : inB (M 1) (stX (M 1) (M 1 (25 + 2 * s)) h v) (stZ (M 1) (M 1 (25 + 2 * s)) h v)
      · rw [plc_b c2, if_pos c2, bq_t rfl, bq_f (by decide) (by decide) (by decide) (by decide) (by decide), nm_e', nm_e', nm_e', Int.add_zero]
        exact ih (s + 1) acc ha (by omega) (by omega) (by omega)
      · rw [plc_n c2, if_neg c2]
        have hne : (if (0 ≤ stX (M 1) (M 1 (25 + 2 * s)) h v ∧ stX (M 1) (M 1 (25 + 2 * s)) h v < M 1 1) ∧ 0 ≤ stZ (M 1) (M 1 (25 + 2 * s)) h v ∧ stZ (M 1) (M 1 (25 + 2 * s)) h v < M 1 2 then stX (M 1) (M 1 (25 + 2 * s)) h v + 100 * stZ (M 1) (M 1 (25 + 2 * s)) h v else -1) ≠ -3 := by
          split <;> omega
        have hst := st_b hb t1 t2 hh hh2 hv hv2
        rw [bq_f hne (by split <;> omega) (by split <;> omega) (by decide) (by decide), bq_t rfl, gi (by omega) (by omega) (by omega), ix_nat (by omega), e.2, bd_some, nm_e', nm_e', nm_e', nm_e']
        exact ih (s + 1) _ (by omega) (by omega) (by omega) (by omega)
theorem stray_eq (hb : PB (M 1)) (hp : PR P (M 1)) (hh : 0 ≤ h) (hh2 : h ≤ 60) (hv : 0 ≤ v) (hv2 : v ≤ 39) : ∃ r, fX1_strayFrom P h v = some r ∧ fX8_strayOf M h v = some r ∧ 0 ≤ r ∧ r ≤ 45 := by
  have h10 := hb.b10
  obtain ⟨r, e1, e2, e3⟩ := stray_loop hb hp hh hh2 hv hv2 FU 0 0 (by omega) (by omega) (by omega) (by show _ < ((5000 : Nat) : Int); omega)
  refine ⟨r, ?_, e2, e3⟩
  unfold fX1_strayFrom
  rw [flight7 hh hh2, bd_some]
  exact e1
end
section
variable {n : Nat} {T : Nat → Ob} {J : Nat → Bool} {M : Ob} {x z y0 : Int}
theorem op_stray (h : Inv n T J M) (hx : R32 x) (hz : R32 z) : Eqv (fX7_stray T x z) (fX8_stray M x z) := by
  have hb := h.now.pb
  unfold fX7_stray fX8_stray
  rw [hasSq7 h.now.pr hb, isSq8 hb, bd_some, bd_some, bq_ite, bq_ite]
  refine Eqv.ite (fun c => ?_) (fun _ => Eqv.s _)
  rw [within7r hx ⟨by decide, by decide⟩ ⟨by decide, by decide⟩, isHigh8 hx, bd_some, bd_some, bq_ite, bq_ite]
  refine Eqv.ite (fun c => ?_) (fun _ => Eqv.s _)
  rw [isWind7 hz, jwl_e hz.1 hz.2, isWind8 (by have := hz.1; omega) (by have := hz.2; omega), bd_some, bd_some, bq_ite, bq_ite]
  refine Eqv.ite (fun c2 => ?_) (fun _ => Eqv.s _)
  obtain ⟨r, e1, e2, -⟩ := stray_eq hb h.now.pr c.1 c.2 c2.1 c2.2
  rw [e1, e2]
  exact Eqv.s _
theorem throw7 (h : Inv n T J M) (hx : R32 x) (hz : R32 z) (hy : R32 y0) : fX7_isThrow T x z y0 = some (if (0 ≤ x ∧ x ≤ M 1 10 - 1) ∧ (1 ≤ z ∧ z ≤ 60) ∧ 0 ≤ y0 ∧ y0 ≤ 39 then 1 else 0) := by
  have hb := h.now.pb
  unfold fX7_isThrow
  rw [isSize7 h.now.pr hb hx, bd_some, bq_ite]
  by_cases c1 : 0 ≤ x ∧ x ≤ M 1 10 - 1
  · rw [if_pos c1, within7r hz ⟨by decide, by decide⟩ ⟨by decide, by decide⟩, bd_some, bq_ite]
    by_cases c2 : 1 ≤ z ∧ z ≤ 60
    · rw [if_pos c2, isWind7 hy, bd_some, bq_ite]
      by_cases c3 : 0 ≤ y0 ∧ y0 ≤ 39
      · rw [if_pos c3, if_pos ⟨c1, c2, c3⟩]
      · rw [if_neg c3, if_neg (fun q => c3 q.2.2)]
    · rw [if_neg c2, if_neg (fun q => c2 q.2.1)]
  · rw [if_neg c1, if_neg (fun q => c1 q.1)]
theorem op_drift (h : Inv n T J M) (hx : R32 x) (hz : R32 z) (hy : R32 y0) : Eqv (fX7_drift T x z y0) (fX8_drift M x z y0) := by
  have hb := h.now.pb
  have h10 := hb.b10
  unfold fX7_drift fX8_drift
  rw [throw7 h hx hz hy, bd_some, bq_ite, isSize8 hb hx, bd_some, bq_ite]
  by_cases c1 : 0 ≤ x ∧ x ≤ M 1 10 - 1
  · rw [if_pos c1, in8i hz ⟨by decide, by decide⟩ ⟨by decide, by decide⟩, bd_some, bq_ite]
    by_cases c2 : 1 ≤ z ∧ z ≤ 60
    · rw [if_pos c2, jwl_e hy.1 hy.2, isWind8 (by have := hy.1; omega) (by have := hy.2; omega), bd_some, bq_ite]
      by_cases c3 : 0 ≤ y0 ∧ y0 ≤ 39
      · obtain ⟨s, rfl⟩ := Int.eq_ofNat_of_zero_le c1.1
        have hs : (s : Int) < M 1 10 := by omega
        rw [if_pos c3, if_pos ⟨c1, c2, c3⟩, flight7 (by omega) c2.2, bd_some, sDrift7 hb h.now.pr hs c3.1 c3.2, bd_some, drag8 (by omega), bd_some, driftOf8 (by omega) c2.2 c3.1 c3.2]
        exact Eqv.s _
      · rw [if_neg c3, if_neg (fun q => c3 q.2.2)]; exact Eqv.s _
    · rw [if_neg c2, if_neg (fun q => c2 q.2.1)]; exact Eqv.s _
  · rw [if_neg c1, if_neg (fun q => c1 q.1)]; exact Eqv.s _
end
