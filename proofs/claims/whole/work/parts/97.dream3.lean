/-! LAYER 2: dreams: the calls -/
theorem letsR_c {u w : Nat → Int} (h : ∀ k, 59 ≤ k → k < 71 → u k = w k) {st : Int} : ∀ k : Nat, k ≤ 6 → letsR u st k = letsR w st k
  | 0, _ => rfl
  | k + 1, hk => by rw [letsR, letsR, h (59 + 2 * k) (by omega) (by omega), h (60 + 2 * k) (by omega) (by omega), letsR_c h k (by omega)]
theorem PR.set {Q : Ob} {w : Nat → Int} {v : Int} {i a : Nat} (hi : (i = 3 ∧ a = 3) ∨ (i = 4 ∧ a = 4) ∨ (i = 5 ∧ a = 5) ∨ (i = 6 ∧ a = 6) ∨ (i = 8 ∧ a = 8) ∨ (i = 9 ∧ a = 22) ∨ (i = 10 ∧ a = 9)) (hb : PB w) (h : PR Q w) : PR (up2 Q i 0 v) (up1 w a v) := by
  have b10 := hb.b10; have b11 := hb.b11; have b12 := hb.b12
  have t1 : ∀ s : Nat, (s : Int) < up1 w a v 10 → up2 Q i 0 v 12 s = up1 w a v (25 + 2 * s) ∧ up2 Q i 0 v 13 s = up1 w a v (26 + 2 * s) := fun s hs => by
    rw [up1_n (by omega)] at hs
    rw [up2_n (by omega), up2_n (by omega), up1_n (by omega), up1_n (by omega)]
    exact h.size s hs
  have t2 : ∀ k : Nat, (k : Int) < up1 w a v 11 → up2 Q i 0 v 15 k = up1 w a v (35 + 3 * k) ∧ up2 Q i 0 v 16 k = up1 w a v (36 + 3 * k) ∧ up2 Q i 0 v 17 k = up1 w a v (37 + 3 * k) := fun k hk => by
    rw [up1_n (by omega)] at hk
    rw [up2_n (by omega), up2_n (by omega), up2_n (by omega), up1_n (by omega), up1_n (by omega), up1_n (by omega)]
    exact h.tab k hk
  have t3 : ∀ s : Nat, s < 10 → up2 Q i 0 v 19 s = letsR (up1 w a v) (s : Int) (up1 w a v 12).toNat := fun s hs => by
    rw [up2_n (by omega), up1_n (show 12 ≠ a by omega), letsR_c (w := w) (fun k h1 h2 => up1_n (by omega)) _ (by omega)]
    exact h.lets s hs
  rcases hi with ⟨rfl, rfl⟩ | ⟨rfl, rfl⟩ | ⟨rfl, rfl⟩ | ⟨rfl, rfl⟩ | ⟨rfl, rfl⟩ | ⟨rfl, rfl⟩ | ⟨rfl, rfl⟩
  all_goals exact ⟨by first | exact h.p0 | rfl, by first | exact h.p1 | rfl, by first | exact h.p2 | rfl, by first | exact h.p3 | rfl, by first | exact h.p4 | rfl, by first | exact h.p5 | rfl, by first | exact h.p6 | rfl, by first | exact h.p7 | rfl, by first | exact h.p8 | rfl, by first | exact h.p9 | rfl, by first | exact h.p10 | rfl, by first | exact h.p11 | rfl, by first | exact h.p14 | rfl, by first | exact h.p18 | rfl, t1, t2, t3⟩
theorem PB.set {w : Nat → Int} {v : Int} {a : Nat} (hb : PB w) (hv : (a = 5 ∧ 0 ≤ v ∧ v ≤ 9) ∨ (a = 6 ∧ 0 ≤ v ∧ v ≤ 60) ∨ (a = 8 ∧ 0 ≤ v ∧ v ≤ 20) ∨ (a = 22 ∧ 0 ≤ v ∧ v ≤ 20) ∨ (a = 9 ∧ 0 ≤ v ∧ v ≤ 60) ∨ a = 24) : PB (up1 w a v) := by
  have b10 := hb.b10; have b11 := hb.b11; have b12 := hb.b12
  have t1 : ∀ s : Nat, (s : Int) < up1 w a v 10 → 0 ≤ up1 w a v (25 + 2 * s) ∧ up1 w a v (25 + 2 * s) ≤ 99 ∧ 1 ≤ up1 w a v (26 + 2 * s) ∧ up1 w a v (26 + 2 * s) ≤ 9 := fun s hs => by
    rw [up1_n (by omega)] at hs
    rw [up1_n (by omega), up1_n (by omega)]
    exact hb.size s hs
  have t2 : ∀ k : Nat, (k : Int) < up1 w a v 11 → 0 ≤ up1 w a v (35 + 3 * k) ∧ up1 w a v (35 + 3 * k) < up1 w a v 1 ∧ 0 ≤ up1 w a v (36 + 3 * k) ∧ up1 w a v (36 + 3 * k) < up1 w a v 2 ∧ 0 ≤ up1 w a v (37 + 3 * k) ∧ up1 w a v (37 + 3 * k) ≤ 999 := fun k hk => by
    rw [up1_n (by omega)] at hk
    rw [up1_n (show 35 + 3 * k ≠ a by omega), up1_n (show 36 + 3 * k ≠ a by omega), up1_n (show 37 + 3 * k ≠ a by omega), up1_n (show 1 ≠ a by omega), up1_n (show 2 ≠ a by omega)]
    exact hb.tab k hk
  have t3 : ∀ k : Nat, (k : Int) < up1 w a v 12 → 0 ≤ up1 w a v (59 + 2 * k) ∧ up1 w a v (59 + 2 * k) ≤ 9 ∧ 0 ≤ up1 w a v (60 + 2 * k) ∧ up1 w a v (60 + 2 * k) ≤ 60 := fun k hk => by
    rw [up1_n (by omega)] at hk
    rw [up1_n (by omega), up1_n (by omega)]
    exact hb.rule k hk
  rcases hv with ⟨rfl, v1, v2⟩ | ⟨rfl, v1, v2⟩ | ⟨rfl, v1, v2⟩ | ⟨rfl, v1, v2⟩ | ⟨rfl, v1, v2⟩ | rfl
  all_goals exact ⟨hb.b0, hb.b1, hb.b2, hb.b3, hb.b4, by first | exact hb.b5 | exact ⟨v1, v2⟩, by first | exact hb.b6 | exact ⟨v1, v2⟩, hb.b7, by first | exact hb.b8 | exact ⟨v1, v2⟩, by first | exact hb.b9 | exact ⟨v1, v2⟩, hb.b10, hb.b11, hb.b12, by first | exact hb.b22 | exact ⟨(show (-1 : Int) ≤ v by omega), v2⟩, hb.sq, hb.none, hb.some, hb.road, t1, t2, t3⟩
theorem up1_self {w : Nat → Int} {k : Nat} : up1 w k (w k) = w := by
  funext a
  by_cases h : a = k
  · subst h; rw [up1_s]
  · rw [up1_n h]
/-- one day in thought -/
theorem day_go {n : Nat} {T Td : Nat → Ob} {J : Nat → Bool} {M : Ob} {j : Nat} {u : Nat → Int} (h : Inv n T J M) (ho : rowOk M j) (hT : ∀ i, i ≠ 4 → i ≠ 5 → i ≠ 10 → Td i = T i) (hp : PR (Td 4) u) (hb : PB u) (h5 : AEq (Td 5) (T 3))
    (hu : ∀ k, k = 10 ∨ k = 11 ∨ (14 ≤ k ∧ k ≤ 21) ∨ (25 ≤ k ∧ k < 59) ∨ (71 ≤ k ∧ k < 1419) → u k = M 1 k) (h23 : u 23 = 0) (h24 : u 24 = 1) :
    ∃ Tf Mf M', fX7_dreamDay Td (j : Int) = some Tf ∧ fX8_goesDown (upA (Mk M) 1 u) (j : Int) = some Mf ∧ fX8_wakes Mf = some M' ∧ Fr T M Tf M' ∧ (∀ q : Nat, q < 6 → fX7_gainOf Tf (q : Int) = some (M' 16 q)) ∧ (0 ≤ M' 16 0 ∧ M' 16 0 ≤ 18000000) ∧
      (PB (Mf 1) ∧ PR (Tf 4) (Mf 1)) ∧ (∀ c : Nat, c < 900 → Tf 5 16 c = Mf 1 (519 + c)) ∧ (∀ c : Nat, c < 900 → M 1 (519 + c) ≤ Mf 1 (519 + c) ∧ Mf 1 (519 + c) ≤ 13500000) ∧ (∀ k, k < 13 ∨ (25 ≤ k ∧ k < 71) → Mf 1 k = u k) ∧ Mf 15 = Mk M 15 := by
  obtain ⟨A1, A2, Mf, M', f1, f2, f3, f4, f5, f6, f7, f8, f9, f10, f11, f12⟩ := dream_go (K := 1) h ho hp hb h5 hu h23 h24 (by decide)
  obtain ⟨r, A1', g1, g2⟩ : ∃ r A1', fX3_playRow (Td 4) (Td 5) (T (6 + j)) = some (r, A1') ∧ A1 = A1' := f1
  subst g2
  rw [← hT (6 + j) (by omega) (by omega) (by have := ho.1; omega)] at g1
  refine ⟨upO Td 5 A2, Mf, M', dreamDay_ok ho.1 g1 f2, f3, f4, f5 _ (fun i h4 h5 h10 => by rw [upO_n h5, hT i h4 h5 h10]), f6 _ ?_ ?_ ?_ ?_, f7, ⟨f8.1, ?_⟩, fun c hc => ?_, f10, f11, f12⟩
  · rw [upO_n (by decide), hT 2 (by decide) (by decide) (by decide)]
  · rw [upO_n (by decide), hT 3 (by decide) (by decide) (by decide)]
  · rw [upO_n (by decide)]
  · rw [upO_s]
  · rw [upO_n (by decide)]; exact f8.2
  · rw [upO_s]; exact f9 c hc
theorem begin_ok {n : Nat} {T : Nat → Ob} {J : Nat → Bool} {M : Ob} (h : Inv n T J M) : ∃ Tb, fX7_beginDream T = some Tb ∧ PR (Tb 4) (M 1) ∧ AEq (Tb 5) (T 3) ∧ ∀ i, i ≠ 4 → i ≠ 5 → Tb i = T i := by
  obtain ⟨Q, C, q1, q2, q3⟩ := beginDream7 T
  exact ⟨_, q1, by rw [upO_n (by decide), upO_s]; exact q2.pr h.now.pb h.now.pr, by rw [upO_s]; exact q3, fun i h4 h5 => by rw [upO_n h5, upO_n h4]⟩
theorem thinksBy8 {M Mf M' : Ob} {j a : Nat} {v z : Int} (hz : ix z = a) (hz2 : inb z 1419 = true) (f3 : fX8_goesDown (upA (Mk M) 1 (up1 (M 1) a v)) (j : Int) = some Mf) (f4 : fX8_wakes Mf = some M') : fX8_thinksBy M (j : Int) z v = some M' := by
  unfold fX8_thinksBy
  rw [thinksMk, bd_some, gd_t hz2, nm_e', hz, up2_A1]
  rw [show fX8_goesDown (upA (Mk M) 1 (up1 (Mk M 1) a v)) (j : Int) = some Mf from f3, bd_some, f4, bd_some]
/-- a day in thought with one number of the plan changed -/
theorem by_ok {n : Nat} {T : Nat → Ob} {J : Nat → Bool} {M : Ob} {j i a : Nat} {v z : Int} (h : Inv n T J M) (ho : rowOk M j) (hz : ix z = a) (hz2 : inb z 1419 = true)
    (hi : (i = 5 ∧ a = 5 ∧ 0 ≤ v ∧ v ≤ 9) ∨ (i = 6 ∧ a = 6 ∧ 0 ≤ v ∧ v ≤ 60) ∨ (i = 8 ∧ a = 8 ∧ 0 ≤ v ∧ v ≤ 20) ∨ (i = 9 ∧ a = 22 ∧ 0 ≤ v ∧ v ≤ 20) ∨ (i = 10 ∧ a = 9 ∧ 0 ≤ v ∧ v ≤ 60)) :
    ∃ Tb Tf M', fX7_beginDream T = some Tb ∧ fX7_dreamDay (upO Tb 4 (up2 (Tb 4) i 0 v)) (j : Int) = some Tf ∧ fX8_thinksBy M (j : Int) z v = some M' ∧ Fr T M Tf M' ∧ (∀ q : Nat, q < 6 → fX7_gainOf Tf (q : Int) = some (M' 16 q)) ∧ (0 ≤ M' 16 0 ∧ M' 16 0 ≤ 18000000) := by
  obtain ⟨Tb, b1, b2, b3, b4⟩ := begin_ok h
  obtain ⟨Tf, Mf, M', f1, f2, f3, f4, f5, f6, -⟩ := day_go (Td := upO Tb 4 (up2 (Tb 4) i 0 v)) (u := up1 (M 1) a v) h ho (fun i' h4 h5 _ => by rw [upO_n h4, b4 i' h4 h5]) (by rw [upO_s]; exact b2.set (by omega) h.now.pb) (h.now.pb.set (by omega)) (by rw [upO_n (by decide)]; exact b3) (fun k hk => up1_n (by omega)) (by rw [up1_n (by omega)]; exact h.still) (by rw [up1_n (by omega)]; exact h.rep)
  exact ⟨Tb, Tf, M', b1, f1, thinksBy8 hz hz2 f2 f3, f4, f5, f6⟩
section
variable {n : Nat} {T : Nat → Ob} {J : Nat → Bool} {M : Ob} {x z y0 : Int}
theorem op_thought (h : Inv n T J M) (hx : R32 x) (hz : R32 z) : Ef T M (fX7_thought T x z) (fX8_thought M x z) := by
  unfold fX7_thought fX8_thought
  rcases isThought_eq h hx hz with ⟨e1, e2⟩ | ⟨e1, e2, c, j, rfl, ho⟩
  · rw [e1, e2, bd_some, bd_some, bq_t rfl, bq_t rfl]
    exact Ef.s _
  · obtain ⟨Tb, b1, b2, b3, b4⟩ := begin_ok h
    obtain ⟨Tf, Mf, M', f1, f2, f3, f4, f5, f6, -⟩ := day_go (Td := Tb) (u := M 1) h ho (fun i' h4 h5 _ => b4 i' h4 h5) b2 h.now.pb b3 (fun k hk => rfl) h.still h.rep
    obtain ⟨q, rfl⟩ := Int.eq_ofNat_of_zero_le c.1
    rw [← up1_self (w := M 1) (k := 8)] at f2
    rw [e1, e2, bd_some, bd_some, bq_f (by decide) (by decide) (by decide) (by decide) (by decide), bq_f (by decide) (by decide) (by decide) (by decide) (by decide), b1, bd_some, f1, bd_some, f5 q (by omega), bd_some, lit (by decide), show M 1 (ix 8) = M 1 8 from rfl, thinksBy8 (a := 8) (by decide) (by decide) f2 f3, bd_some, gi (by omega) (by omega) (by omega), ix_nat (by omega)]
    exact Ef.f rfl f4
theorem op_lagged (h : Inv n T J M) (hx : R32 x) (hy : R32 y0) (hz : R32 z) : Ef T M (fX7_lagged T x y0 z) (fX8_lagged M x y0 z) := by
  unfold fX7_lagged fX8_lagged
  rcases isThought_eq h hx hz with ⟨e1, e2⟩ | ⟨e1, e2, c, j, rfl, ho⟩
  · rw [e1, e2, bd_some, bd_some, bq_t rfl, bq_t rfl]
    exact Ef.s _
  · rw [e1, e2, bd_some, bd_some, bq_f (by decide) (by decide) (by decide) (by decide) (by decide), bq_f (by decide) (by decide) (by decide) (by decide) (by decide), within7r hy ⟨by decide, by decide⟩ ⟨by decide, by decide⟩, in8i hy ⟨by decide, by decide⟩ ⟨by decide, by decide⟩, bd_some, bd_some, bq_ite, bq_ite]
    refine Ef.ite (fun c2 => ?_) (fun _ => Ef.s _)
    obtain ⟨Tb, Tf, M', f1, f2, f3, f4, f5, f6⟩ := by_ok (i := 8) (a := 8) (v := y0) (z := 8) h ho (by decide) (by decide) (by omega)
    obtain ⟨q, rfl⟩ := Int.eq_ofNat_of_zero_le c.1
    rw [f1, bd_some, nm_e', f2, bd_some, f5 q (by omega), bd_some, f3, bd_some, gi (by omega) (by omega) (by omega), ix_nat (by omega)]
    exact Ef.f rfl f4
theorem op_two (h : Inv n T J M) (hx : R32 x) (hy : R32 y0) (hz : R32 z) : Ef T M (fX7_two T x y0 z) (fX8_two M x y0 z) := by
  unfold fX7_two fX8_two
  rcases isThought_eq h hx hz with ⟨e1, e2⟩ | ⟨e1, e2, c, j, rfl, ho⟩
  · rw [e1, e2, bd_some, bd_some, bq_t rfl, bq_t rfl]
    exact Ef.s _
  · rw [e1, e2, bd_some, bd_some, bq_f (by decide) (by decide) (by decide) (by decide) (by decide), bq_f (by decide) (by decide) (by decide) (by decide) (by decide), within7r hy ⟨by decide, by decide⟩ ⟨by decide, by decide⟩, in8i hy ⟨by decide, by decide⟩ ⟨by decide, by decide⟩, bd_some, bd_some, bq_ite, bq_ite]
    refine Ef.ite (fun c2 => ?_) (fun _ => Ef.s _)
    obtain ⟨Tb, Tf, M', f1, f2, f3, f4, f5, f6⟩ := by_ok (i := 9) (a := 22) (v := y0) (z := 22) h ho (by decide) (by decide) (by omega)
    obtain ⟨q, rfl⟩ := Int.eq_ofNat_of_zero_le c.1
    rw [f1, bd_some, nm_e', f2, bd_some, f5 q (by omega), bd_some, f3, bd_some, gi (by omega) (by omega) (by omega), ix_nat (by omega)]
    exact Ef.f rfl f4
theorem op_climbs (h : Inv n T J M) (hx : R32 x) (hy : R32 y0) (hz : R32 z) : Ef T M (fX7_climbs T x y0 z) (fX8_climbs M x y0 z) := by
  unfold fX7_climbs fX8_climbs
  rcases isThought_eq h hx hz with ⟨e1, e2⟩ | ⟨e1, e2, c, j, rfl, ho⟩
  · rw [e1, e2, bd_some, bd_some, bq_t rfl, bq_t rfl]
    exact Ef.s _
  · rw [e1, e2, bd_some, bd_some, bq_f (by decide) (by decide) (by decide) (by decide) (by decide), bq_f (by decide) (by decide) (by decide) (by decide) (by decide), within7r hy ⟨by decide, by decide⟩ ⟨by decide, by decide⟩, in8i hy ⟨by decide, by decide⟩ ⟨by decide, by decide⟩, bd_some, bd_some, bq_ite, bq_ite]
    refine Ef.ite (fun c2 => ?_) (fun _ => Ef.s _)
    obtain ⟨Tb, Tf, M', f1, f2, f3, f4, f5, f6⟩ := by_ok (i := 10) (a := 9) (v := y0) (z := 9) h ho (by decide) (by decide) (by omega)
    obtain ⟨q, rfl⟩ := Int.eq_ofNat_of_zero_le c.1
    rw [f1, bd_some, nm_e', f2, bd_some, f5 q (by omega), bd_some, f3, bd_some, gi (by omega) (by omega) (by omega), ix_nat (by omega)]
    exact Ef.f rfl f4
theorem value_ok {j : Nat} {v : Int} (h : Inv n T J M) (ho : rowOk M j) (hv : 0 ≤ v) (hv2 : v ≤ 20) : ∃ Tf M', fX7_valueByLag T (j : Int) v = some (M' 16 0 - M' 16 4, Tf) ∧ fX8_thinksBy M (j : Int) 8 v = some M' ∧ Fr T M Tf M' := by
  obtain ⟨Tb, Tf, M', f1, f2, f3, f4, f5, f6⟩ := by_ok (i := 8) (a := 8) (v := v) (z := 8) h ho (by decide) (by decide) (by omega)
  refine ⟨Tf, M', ?_, f3, f4⟩
  unfold fX7_valueByLag
  rw [f1, bd_some, nm_e', f2, bd_some, show fX7_gainOf Tf 0 = some (M' 16 0) from f5 0 (by decide), bd_some, show fX7_gainOf Tf 4 = some (M' 16 4) from f5 4 (by decide), bd_some]
theorem op_worth (h : Inv n T J M) (hx : R32 x) : Ef T M (fX7_worth T x) (fX8_worth M x) := by
  unfold fX7_worth fX8_worth
  obtain ⟨q, e1, e2, e3⟩ := asks_eq h hx
  rw [e1, e2, bd_some, bd_some]
  rcases e3 with ⟨rfl, j, rfl, ho⟩ | e3
  · have b8 := h.now.pb.b8
    obtain ⟨T1, M1, g1, g2, g3⟩ := value_ok (v := 0) h ho (by decide) (by decide)
    have hl : T1 2 8 0 = M 1 8 := by rw [g3.1 2 (by decide) (by decide) (by decide)]; exact h.now.pr.p8
    have hl2 : M1 1 8 = M 1 8 := g3.2.1 8 (by decide)
    obtain ⟨T2, M2, k1, k2, k3⟩ := value_ok (v := M 1 8) (h.fr g3) (ho.fr g3) b8.1 b8.2
    rw [bq_t rfl, bq_t rfl, g1, bd_some]
    dsimp only
    rw [hl, k1, bd_some, g2, bd_some, lit (by decide), lit (by decide), nm_e', lit (by decide), show ix 8 = 8 from by decide, hl2, k2, bd_some, lit (by decide), lit (by decide)]
    exact Ef.f rfl (g3.trans k3)
  · rw [bq_f (by omega) (by omega) (by omega) (by omega) (by omega), bq_f (by omega) (by omega) (by omega) (by omega) (by omega)]
    exact Ef.s _
theorem best_loop {j : Nat} : ∀ (d m m2 l : Nat) (b g : Int) (T : Nat → Ob) (M : Ob), Inv n T J M → rowOk M j → 1 ≤ l → l + d = 21 → d < m → d < m2 → Ef T M (lX7_best_25 (j : Int) m b g (l : Int) T) (lX8_best_20 (j : Int) m2 b g (l : Int) M) := by
  intro d
  induction d with
  | zero =>
    intro m m2 l b g T M h ho h1 h2 h3 h4
    obtain ⟨m, rfl⟩ : ∃ k, m = k + 1 := ⟨m - 1, by omega⟩
    obtain ⟨m2, rfl⟩ : ∃ k, m2 = k + 1 := ⟨m2 - 1, by omega⟩
    rw [lX7_best_25, lX8_best_20, bl_t (by omega) (by omega) (by omega), bl_t (by omega) (by omega) (by omega)]
    exact Ef.s _
  | succ d ih =>
    intro m m2 l b g T M h ho h1 h2 h3 h4
    obtain ⟨m, rfl⟩ : ∃ k, m = k + 1 := ⟨m - 1, by omega⟩
    obtain ⟨m2, rfl⟩ : ∃ k, m2 = k + 1 := ⟨m2 - 1, by omega⟩
    obtain ⟨T1, M1, g1, g2, g3⟩ := value_ok (v := (l : Int)) h ho (by omega) (by omega)
    rw [lX7_best_25, lX8_best_20, bl_f (by omega) (by omega) (by omega), bl_f (by omega) (by omega) (by omega), g1, bd_some, nm_e', g2, bd_some, be_f (a := (l : Int)) (b := 0) (by omega) (by omega) (by omega), lit (by decide), lit (by decide), be_bl, show ix 0 = 0 from by decide, show ix 4 = 4 from by decide]
    refine Ef.pre g3 ?_
    by_cases c2 : i32 g < i32 (M1 16 0 - M1 16 4)
    · rw [bl_p c2, bl_p c2, nm_e']
      unfold jX8_best_62
      rw [lit (by decide), lit (by decide), nm_e', nm_e', show ix 0 = 0 from by decide, show ix 4 = 4 from by decide]
      exact ih m m2 (l + 1) _ _ _ _ (h.fr g3) (ho.fr g3) (by omega) (by omega) (by omega) (by omega)
    · rw [bl_n c2, bl_n c2, nm_e', nm_e']
      exact ih m m2 (l + 1) _ _ _ _ (h.fr g3) (ho.fr g3) (by omega) (by omega) (by omega) (by omega)
theorem op_best (h : Inv n T J M) (hx : R32 x) : Ef T M (fX7_best T x) (fX8_best M x) := by
  unfold fX7_best fX8_best
  obtain ⟨q, e1, e2, e3⟩ := asks_eq h hx
  rw [e1, e2, bd_some, bd_some]
  rcases e3 with ⟨rfl, j, rfl, ho⟩ | e3
  · obtain ⟨T1, M1, g1, g2, g3⟩ := value_ok (v := 0) h ho (by decide) (by decide)
    rw [bq_t rfl, be_t (by decide) (by decide) (by decide), g1, bd_some, nm_e']
    refine Ef.pre g3 ?_
    have hb := best_loop (n := n) (J := J) (j := j) 20 5000 4999 1 0 (M1 16 0 - M1 16 4) T1 M1 (h.fr g3) (ho.fr g3) (by decide) (by decide) (by decide) (by decide)
    have e8 : lX8_best_20 (j : Int) FU 0 0 0 M = lX8_best_20 (j : Int) 4999 0 (M1 16 0 - M1 16 4) 1 M1 := by
      rw [show FU = 4999 + 1 from rfl, lX8_best_20, bl_f (by decide) (by decide) (by decide), g2, bd_some, be_t (by decide) (by decide) (by decide)]
      unfold jX8_best_62
      rw [lit (by decide), lit (by decide), nm_e', nm_e', show ix 0 = 0 from by decide, show ix 4 = 4 from by decide]
      rfl
    rw [e8]
    exact hb
  · rw [bq_f (by omega) (by omega) (by omega) (by omega) (by omega), be_f (by omega) (by omega) (by omega)]
    exact Ef.s _
end
