/-! LAYER 2: what is told: jet, road, vane, square -/
section
variable {S : Nat} {B : Nat → Int} {L Y M P L1 Y1 M1 M2 : Ob} {a b : Nat}
theorem bit_ok {p q r : Int} (hp : p = 0 ∨ p = 1) (hq : q = 0 ∨ q = 1) (hr : r = 0 ∨ r = 1) : jan (p + 2 * q + 4 * r) 1 = p ∧ jan (p + 2 * q + 4 * r) 2 = 2 * q ∧ jan (p + 2 * q + 4 * r) 4 = 4 * r ∧ jor (p + 2 * q + 4 * r) 1 = 1 + 2 * q + 4 * r ∧ jor (p + 2 * q + 4 * r) 2 = p + 2 * 1 + 4 * r ∧ jor (p + 2 * q + 4 * r) 4 = p + 2 * q + 4 * 1 := by
  rcases hp with rfl | rfl <;> rcases hq with rfl | rfl <;> rcases hr with rfl | rfl <;> decide +kernel
theorem if_01 {c : Prop} [Decidable c] : (if c then (0 : Int) else 1) = 0 ∨ (if c then (0 : Int) else 1) = 1 := by
  by_cases h : c
  · rw [if_pos h]; exact Or.inl rfl
  · rw [if_neg h]; exact Or.inr rfl
theorem GI.bits {w : Nat → Int} (h : GI L P w) : jan (w 13) 1 = L 4 0 ∧ jan (w 13) 2 = 2 * (if w 7 = -1 then 0 else 1) ∧ jan (w 13) 4 = 4 * L 5 0 ∧ jor (w 13) 1 = 1 + 2 * (if w 7 = -1 then 0 else 1) + 4 * L 5 0 ∧ jor (w 13) 2 = L 4 0 + 2 * 1 + 4 * L 5 0 ∧ jor (w 13) 4 = L 4 0 + 2 * (if w 7 = -1 then 0 else 1) + 4 * 1 := by
  rw [h.2.2.2.1]
  exact bit_ok h.2.1 if_01 h.2.2.1
theorem jet_upd {w : Nat → Int} {v u s t : Int} (hb : PB w) (h : GI L P w) (h0 : w 0 ≠ 0) (hv : 0 ≤ v ∧ v < w 1) (hu : 0 ≤ u ∧ u < w 2) (hs : 0 ≤ s ∧ s ≤ 9) (ht : 0 ≤ t ∧ t ≤ 60) : PB (up1 (up1 (up1 (up1 (up1 w 13 (jor (w 13) 1)) 3 v) 4 u) 5 s) 6 t) ∧ GI (up2 L 4 0 1) (up2 (up2 (up2 (up2 P 3 0 v) 4 0 u) 5 0 s) 6 0 t) (up1 (up1 (up1 (up1 (up1 w 13 (jor (w 13) 1)) 3 v) 4 u) 5 s) 6 t) := by
  obtain ⟨w', hw'⟩ : ∃ w', w' = (up1 (up1 (up1 (up1 (up1 w 13 (jor (w 13) 1)) 3 v) 4 u) 5 s) 6 t) := ⟨_, rfl⟩
  rw [← hw']
  have e : ∀ i, i ≠ 13 → i ≠ 3 → i ≠ 4 → i ≠ 5 → i ≠ 6 → w' i = w i := fun i h0 h1 h2 h3 h4 => by rw [hw', up1_n h4, up1_n h3, up1_n h2, up1_n h1, up1_n h0]
  have x13 : w' 13 = jor (w 13) 1 := by rw [hw', up1_n (by decide), up1_n (by decide), up1_n (by decide), up1_n (by decide), up1_s]
  have x3 : w' 3 = v := by rw [hw', up1_n (by decide), up1_n (by decide), up1_n (by decide), up1_s]
  have x4 : w' 4 = u := by rw [hw', up1_n (by decide), up1_n (by decide), up1_s]
  have x5 : w' 5 = s := by rw [hw', up1_n (by decide), up1_s]
  have x6 : w' 6 = t := by rw [hw', up1_s]
  have e0 := e 0 (by omega) (by omega) (by omega) (by omega) (by omega)
  have e1 := e 1 (by omega) (by omega) (by omega) (by omega) (by omega)
  have e2 := e 2 (by omega) (by omega) (by omega) (by omega) (by omega)
  have e7 := e 7 (by omega) (by omega) (by omega) (by omega) (by omega)
  have e8 := e 8 (by omega) (by omega) (by omega) (by omega) (by omega)
  have e9 := e 9 (by omega) (by omega) (by omega) (by omega) (by omega)
  have e10 := e 10 (by omega) (by omega) (by omega) (by omega) (by omega)
  have e11 := e 11 (by omega) (by omega) (by omega) (by omega) (by omega)
  have e12 := e 12 (by omega) (by omega) (by omega) (by omega) (by omega)
  have e22 := e 22 (by omega) (by omega) (by omega) (by omega) (by omega)
  have hp := h.1
  have b10 := hb.b10; have b11 := hb.b11; have b12 := hb.b12; have hsq := hb.sq; have hso := hb.some; have hno := hb.none
  constructor
  · obtain ⟨b0, b1, b2, b3, b4, b5, b6, b7, b8, b9, b10, b11, b12, b22, c1, c2, c3, c4, c5, c6, c7⟩ := hb
    refine ⟨by omega, by omega, by omega, by omega, by omega, by omega, by omega, by omega, by omega, by omega, by omega, by omega, by omega, by omega, by omega, by omega, by omega, by omega, ?_, ?_, ?_⟩
    · intro s hs
      rw [e _ (by omega) (by omega) (by omega) (by omega) (by omega), e _ (by omega) (by omega) (by omega) (by omega) (by omega)]
      exact c5 s (by omega)
    · intro s hs
      rw [e (35 + 3 * s) (by omega) (by omega) (by omega) (by omega) (by omega), e (36 + 3 * s) (by omega) (by omega) (by omega) (by omega) (by omega), e (37 + 3 * s) (by omega) (by omega) (by omega) (by omega) (by omega), e1, e2]
      exact c6 s (by omega)
    · intro s hs
      rw [e _ (by omega) (by omega) (by omega) (by omega) (by omega), e _ (by omega) (by omega) (by omega) (by omega) (by omega)]
      exact c7 s (by omega)
  · refine ⟨⟨?_, ?_, ?_, ?_, ?_, ?_, ?_, ?_, ?_, ?_, ?_, ?_, ?_, ?_, ?_, ?_, ?_⟩, Or.inr rfl, h.2.2.1, ?_, ?_, ?_⟩
    · rw [e0]; exact hp.p0
    · rw [e1]; exact hp.p1
    · rw [e2]; exact hp.p2
    · rw [x3]; rfl
    · rw [x4]; rfl
    · rw [x5]; rfl
    · rw [x6]; rfl
    · rw [e7]; exact hp.p7
    · rw [e8]; exact hp.p8
    · rw [e22]; exact hp.p9
    · rw [e9]; exact hp.p10
    · rw [e10]; exact hp.p11
    · rw [e11]; exact hp.p14
    · rw [e12]; exact hp.p18
    · intro s hs
      rw [e _ (by omega) (by omega) (by omega) (by omega) (by omega), e _ (by omega) (by omega) (by omega) (by omega) (by omega)]
      exact hp.size s (by omega)
    · intro s hs
      rw [e (35 + 3 * s) (by omega) (by omega) (by omega) (by omega) (by omega), e (36 + 3 * s) (by omega) (by omega) (by omega) (by omega) (by omega), e (37 + 3 * s) (by omega) (by omega) (by omega) (by omega) (by omega)]
      exact hp.tab s (by omega)
    · intro s hs
      rw [e12, letsR_c (w := w) (fun i h1 h2 => e i (by omega) (by omega) (by omega) (by omega) (by omega)) _ (by omega)]
      exact hp.lets s hs
    · rw [x13, e7, h.bits.2.2.2.1]; rfl
    · refine Eq.trans h.2.2.2.2.1 ?_
      unfold lastW
      rw [e12]
      by_cases c : w 12 ≤ 0
      · rw [if_pos c, if_pos c]
      · rw [if_neg c, if_neg c, e _ (by omega) (by omega) (by omega) (by omega) (by omega)]
    · intro i hi
      rw [e i (by omega) (by omega) (by omega) (by omega) (by omega)]
      exact h.2.2.2.2.2 i hi
theorem road_upd {w : Nat → Int} {v : Int} (hb : PB w) (h : GI L P w) (h0 : w 0 ≠ 0) (hv : 0 ≤ v ∧ v < w 2) : PB (up1 (up1 w 13 (jor (w 13) 2)) 7 v) ∧ GI L (up2 P 7 0 v) (up1 (up1 w 13 (jor (w 13) 2)) 7 v) := by
  obtain ⟨w', hw'⟩ : ∃ w', w' = (up1 (up1 w 13 (jor (w 13) 2)) 7 v) := ⟨_, rfl⟩
  rw [← hw']
  have e : ∀ i, i ≠ 13 → i ≠ 7 → w' i = w i := fun i h0 h1 => by rw [hw', up1_n h1, up1_n h0]
  have x13 : w' 13 = jor (w 13) 2 := by rw [hw', up1_n (by decide), up1_s]
  have x7 : w' 7 = v := by rw [hw', up1_s]
  have e0 := e 0 (by omega) (by omega)
  have e1 := e 1 (by omega) (by omega)
  have e2 := e 2 (by omega) (by omega)
  have e3 := e 3 (by omega) (by omega)
  have e4 := e 4 (by omega) (by omega)
  have e5 := e 5 (by omega) (by omega)
  have e6 := e 6 (by omega) (by omega)
  have e8 := e 8 (by omega) (by omega)
  have e9 := e 9 (by omega) (by omega)
  have e10 := e 10 (by omega) (by omega)
  have e11 := e 11 (by omega) (by omega)
  have e12 := e 12 (by omega) (by omega)
  have e22 := e 22 (by omega) (by omega)
  have hp := h.1
  have b10 := hb.b10; have b11 := hb.b11; have b12 := hb.b12; have hsq := hb.sq; have hso := hb.some; have hno := hb.none
  constructor
  · obtain ⟨b0, b1, b2, b3, b4, b5, b6, b7, b8, b9, b10, b11, b12, b22, c1, c2, c3, c4, c5, c6, c7⟩ := hb
    refine ⟨by omega, by omega, by omega, by omega, by omega, by omega, by omega, by omega, by omega, by omega, by omega, by omega, by omega, by omega, by omega, by omega, by omega, by omega, ?_, ?_, ?_⟩
    · intro s hs
      rw [e _ (by omega) (by omega), e _ (by omega) (by omega)]
      exact c5 s (by omega)
    · intro s hs
      rw [e (35 + 3 * s) (by omega) (by omega), e (36 + 3 * s) (by omega) (by omega), e (37 + 3 * s) (by omega) (by omega), e1, e2]
      exact c6 s (by omega)
    · intro s hs
      rw [e _ (by omega) (by omega), e _ (by omega) (by omega)]
      exact c7 s (by omega)
  · refine ⟨⟨?_, ?_, ?_, ?_, ?_, ?_, ?_, ?_, ?_, ?_, ?_, ?_, ?_, ?_, ?_, ?_, ?_⟩, h.2.1, h.2.2.1, ?_, ?_, ?_⟩
    · rw [e0]; exact hp.p0
    · rw [e1]; exact hp.p1
    · rw [e2]; exact hp.p2
    · rw [e3]; exact hp.p3
    · rw [e4]; exact hp.p4
    · rw [e5]; exact hp.p5
    · rw [e6]; exact hp.p6
    · rw [x7]; rfl
    · rw [e8]; exact hp.p8
    · rw [e22]; exact hp.p9
    · rw [e9]; exact hp.p10
    · rw [e10]; exact hp.p11
    · rw [e11]; exact hp.p14
    · rw [e12]; exact hp.p18
    · intro s hs
      rw [e _ (by omega) (by omega), e _ (by omega) (by omega)]
      exact hp.size s (by omega)
    · intro s hs
      rw [e (35 + 3 * s) (by omega) (by omega), e (36 + 3 * s) (by omega) (by omega), e (37 + 3 * s) (by omega) (by omega)]
      exact hp.tab s (by omega)
    · intro s hs
      rw [e12, letsR_c (w := w) (fun i h1 h2 => e i (by omega) (by omega)) _ (by omega)]
      exact hp.lets s hs
    · rw [x13, x7, if_neg (by omega), h.bits.2.2.2.2.1]
    · refine Eq.trans h.2.2.2.2.1 ?_
      unfold lastW
      rw [e12]
      by_cases c : w 12 ≤ 0
      · rw [if_pos c, if_pos c]
      · rw [if_neg c, if_neg c, e _ (by omega) (by omega)]
    · intro i hi
      rw [e i (by omega) (by omega)]
      exact h.2.2.2.2.2 i hi
theorem vane_upd {w : Nat → Int} {v u : Int} (hb : PB w) (h : GI L P w) (h0 : w 0 ≠ 0) (hv : 0 ≤ v ∧ v ≤ 20) (hu : 1 ≤ u ∧ u ≤ 60) : PB (up1 (up1 (up1 w 13 (jor (w 13) 4)) 8 v) 9 u) ∧ GI (up2 L 5 0 1) (up2 (up2 P 8 0 v) 10 0 u) (up1 (up1 (up1 w 13 (jor (w 13) 4)) 8 v) 9 u) := by
  obtain ⟨w', hw'⟩ : ∃ w', w' = (up1 (up1 (up1 w 13 (jor (w 13) 4)) 8 v) 9 u) := ⟨_, rfl⟩
  rw [← hw']
  have e : ∀ i, i ≠ 13 → i ≠ 8 → i ≠ 9 → w' i = w i := fun i h0 h1 h2 => by rw [hw', up1_n h2, up1_n h1, up1_n h0]
  have x13 : w' 13 = jor (w 13) 4 := by rw [hw', up1_n (by decide), up1_n (by decide), up1_s]
  have x8 : w' 8 = v := by rw [hw', up1_n (by decide), up1_s]
  have x9 : w' 9 = u := by rw [hw', up1_s]
  have e0 := e 0 (by omega) (by omega) (by omega)
  have e1 := e 1 (by omega) (by omega) (by omega)
  have e2 := e 2 (by omega) (by omega) (by omega)
  have e3 := e 3 (by omega) (by omega) (by omega)
  have e4 := e 4 (by omega) (by omega) (by omega)
  have e5 := e 5 (by omega) (by omega) (by omega)
  have e6 := e 6 (by omega) (by omega) (by omega)
  have e7 := e 7 (by omega) (by omega) (by omega)
  have e10 := e 10 (by omega) (by omega) (by omega)
  have e11 := e 11 (by omega) (by omega) (by omega)
  have e12 := e 12 (by omega) (by omega) (by omega)
  have e22 := e 22 (by omega) (by omega) (by omega)
  have hp := h.1
  have b10 := hb.b10; have b11 := hb.b11; have b12 := hb.b12; have hsq := hb.sq; have hso := hb.some; have hno := hb.none
  constructor
  · obtain ⟨b0, b1, b2, b3, b4, b5, b6, b7, b8, b9, b10, b11, b12, b22, c1, c2, c3, c4, c5, c6, c7⟩ := hb
    refine ⟨by omega, by omega, by omega, by omega, by omega, by omega, by omega, by omega, by omega, by omega, by omega, by omega, by omega, by omega, by omega, by omega, by omega, by omega, ?_, ?_, ?_⟩
    · intro s hs
      rw [e _ (by omega) (by omega) (by omega), e _ (by omega) (by omega) (by omega)]
      exact c5 s (by omega)
    · intro s hs
      rw [e (35 + 3 * s) (by omega) (by omega) (by omega), e (36 + 3 * s) (by omega) (by omega) (by omega), e (37 + 3 * s) (by omega) (by omega) (by omega), e1, e2]
      exact c6 s (by omega)
    · intro s hs
      rw [e _ (by omega) (by omega) (by omega), e _ (by omega) (by omega) (by omega)]
      exact c7 s (by omega)
  · refine ⟨⟨?_, ?_, ?_, ?_, ?_, ?_, ?_, ?_, ?_, ?_, ?_, ?_, ?_, ?_, ?_, ?_, ?_⟩, h.2.1, Or.inr rfl, ?_, ?_, ?_⟩
    · rw [e0]; exact hp.p0
    · rw [e1]; exact hp.p1
    · rw [e2]; exact hp.p2
    · rw [e3]; exact hp.p3
    · rw [e4]; exact hp.p4
    · rw [e5]; exact hp.p5
    · rw [e6]; exact hp.p6
    · rw [e7]; exact hp.p7
    · rw [x8]; rfl
    · rw [e22]; exact hp.p9
    · rw [x9]; rfl
    · rw [e10]; exact hp.p11
    · rw [e11]; exact hp.p14
    · rw [e12]; exact hp.p18
    · intro s hs
      rw [e _ (by omega) (by omega) (by omega), e _ (by omega) (by omega) (by omega)]
      exact hp.size s (by omega)
    · intro s hs
      rw [e (35 + 3 * s) (by omega) (by omega) (by omega), e (36 + 3 * s) (by omega) (by omega) (by omega), e (37 + 3 * s) (by omega) (by omega) (by omega)]
      exact hp.tab s (by omega)
    · intro s hs
      rw [e12, letsR_c (w := w) (fun i h1 h2 => e i (by omega) (by omega) (by omega)) _ (by omega)]
      exact hp.lets s hs
    · rw [x13, e7, h.bits.2.2.2.2.2]; rfl
    · refine Eq.trans h.2.2.2.2.1 ?_
      unfold lastW
      rw [e12]
      by_cases c : w 12 ≤ 0
      · rw [if_pos c, if_pos c]
      · rw [if_neg c, if_neg c, e _ (by omega) (by omega) (by omega)]
    · intro i hi
      rw [e i (by omega) (by omega) (by omega)]
      exact h.2.2.2.2.2 i hi
theorem square_upd {w : Nat → Int} {v u n : Int} (hb : PB w) (h : GI L P w) (h0 : w 0 = 0) (hv : 5 ≤ v ∧ v ≤ 30) (hu : 5 ≤ u ∧ u ≤ 30) (hn : 1 ≤ n ∧ n ≤ 1600) : PB (up1 (up1 (up1 (up1 (up1 (up1 (up1 (up1 w 1 v) 2 u) 3 (jdv v 2)) 4 (jdv u 2)) 5 1) 6 30) 9 60) 0 n) ∧ GI L (up2 (up2 (up2 (up2 (up2 (up2 (up2 (up2 P 1 0 v) 2 0 u) 3 0 (jdv v 2)) 4 0 (jdv u 2)) 5 0 1) 6 0 30) 10 0 60) 0 0 n) (up1 (up1 (up1 (up1 (up1 (up1 (up1 (up1 w 1 v) 2 u) 3 (jdv v 2)) 4 (jdv u 2)) 5 1) 6 30) 9 60) 0 n) := by
  obtain ⟨w', hw'⟩ : ∃ w', w' = (up1 (up1 (up1 (up1 (up1 (up1 (up1 (up1 w 1 v) 2 u) 3 (jdv v 2)) 4 (jdv u 2)) 5 1) 6 30) 9 60) 0 n) := ⟨_, rfl⟩
  rw [← hw']
  have e : ∀ i, i ≠ 1 → i ≠ 2 → i ≠ 3 → i ≠ 4 → i ≠ 5 → i ≠ 6 → i ≠ 9 → i ≠ 0 → w' i = w i := fun i h0 h1 h2 h3 h4 h5 h6 h7 => by rw [hw', up1_n h7, up1_n h6, up1_n h5, up1_n h4, up1_n h3, up1_n h2, up1_n h1, up1_n h0]
  have x1 : w' 1 = v := by rw [hw', up1_n (by decide), up1_n (by decide), up1_n (by decide), up1_n (by decide), up1_n (by decide), up1_n (by decide), up1_n (by decide), up1_s]
  have x2 : w' 2 = u := by rw [hw', up1_n (by decide), up1_n (by decide), up1_n (by decide), up1_n (by decide), up1_n (by decide), up1_n (by decide), up1_s]
  have x3 : w' 3 = jdv v 2 := by rw [hw', up1_n (by decide), up1_n (by decide), up1_n (by decide), up1_n (by decide), up1_n (by decide), up1_s]
  have x4 : w' 4 = jdv u 2 := by rw [hw', up1_n (by decide), up1_n (by decide), up1_n (by decide), up1_n (by decide), up1_s]
  have x5 : w' 5 = 1 := by rw [hw', up1_n (by decide), up1_n (by decide), up1_n (by decide), up1_s]
  have x6 : w' 6 = 30 := by rw [hw', up1_n (by decide), up1_n (by decide), up1_s]
  have x9 : w' 9 = 60 := by rw [hw', up1_n (by decide), up1_s]
  have x0 : w' 0 = n := by rw [hw', up1_s]
  have e7 := e 7 (by omega) (by omega) (by omega) (by omega) (by omega) (by omega) (by omega) (by omega)
  have e8 := e 8 (by omega) (by omega) (by omega) (by omega) (by omega) (by omega) (by omega) (by omega)
  have e10 := e 10 (by omega) (by omega) (by omega) (by omega) (by omega) (by omega) (by omega) (by omega)
  have e11 := e 11 (by omega) (by omega) (by omega) (by omega) (by omega) (by omega) (by omega) (by omega)
  have e12 := e 12 (by omega) (by omega) (by omega) (by omega) (by omega) (by omega) (by omega) (by omega)
  have e22 := e 22 (by omega) (by omega) (by omega) (by omega) (by omega) (by omega) (by omega) (by omega)
  have hp := h.1
  have b10 := hb.b10; have b11 := hb.b11; have b12 := hb.b12; have hsq := hb.sq; have hso := hb.some; have hno := hb.none
  have j1 : jdv v 2 = v / 2 := jdv_n (by omega) (by omega) (by decide) (by decide)
  have j2 : jdv u 2 = u / 2 := jdv_n (by omega) (by omega) (by decide) (by decide)
  constructor
  · obtain ⟨b0, b1, b2, b3, b4, b5, b6, b7, b8, b9, b10, b11, b12, b22, c1, c2, c3, c4, c5, c6, c7⟩ := hb
    refine ⟨by omega, by omega, by omega, by omega, by omega, by omega, by omega, by omega, by omega, by omega, by omega, by omega, by omega, by omega, by omega, by omega, by omega, by omega, ?_, ?_, ?_⟩
    · intro s hs
      rw [e _ (by omega) (by omega) (by omega) (by omega) (by omega) (by omega) (by omega) (by omega), e _ (by omega) (by omega) (by omega) (by omega) (by omega) (by omega) (by omega) (by omega)]
      exact c5 s (by omega)
    · intro s hs
      omega
    · intro s hs
      rw [e _ (by omega) (by omega) (by omega) (by omega) (by omega) (by omega) (by omega) (by omega), e _ (by omega) (by omega) (by omega) (by omega) (by omega) (by omega) (by omega) (by omega)]
      exact c7 s (by omega)
  · refine ⟨⟨?_, ?_, ?_, ?_, ?_, ?_, ?_, ?_, ?_, ?_, ?_, ?_, ?_, ?_, ?_, ?_, ?_⟩, h.2.1, h.2.2.1, ?_, ?_, ?_⟩
    · rw [x0]; rfl
    · rw [x1]; rfl
    · rw [x2]; rfl
    · rw [x3]; rfl
    · rw [x4]; rfl
    · rw [x5]; rfl
    · rw [x6]; rfl
    · rw [e7]; exact hp.p7
    · rw [e8]; exact hp.p8
    · rw [e22]; exact hp.p9
    · rw [x9]; rfl
    · rw [e10]; exact hp.p11
    · rw [e11]; exact hp.p14
    · rw [e12]; exact hp.p18
    · intro s hs
      rw [e _ (by omega) (by omega) (by omega) (by omega) (by omega) (by omega) (by omega) (by omega), e _ (by omega) (by omega) (by omega) (by omega) (by omega) (by omega) (by omega) (by omega)]
      exact hp.size s (by omega)
    · intro s hs
      rw [e (35 + 3 * s) (by omega) (by omega) (by omega) (by omega) (by omega) (by omega) (by omega) (by omega), e (36 + 3 * s) (by omega) (by omega) (by omega) (by omega) (by omega) (by omega) (by omega) (by omega), e (37 + 3 * s) (by omega) (by omega) (by omega) (by omega) (by omega) (by omega) (by omega) (by omega)]
      exact hp.tab s (by omega)
    · intro s hs
      rw [e12, letsR_c (w := w) (fun i h1 h2 => e i (by omega) (by omega) (by omega) (by omega) (by omega) (by omega) (by omega) (by omega)) _ (by omega)]
      exact hp.lets s hs
    · rw [e 13 (by omega) (by omega) (by omega) (by omega) (by omega) (by omega) (by omega) (by omega), e7]; exact h.2.2.2.1
    · refine Eq.trans h.2.2.2.2.1 ?_
      unfold lastW
      rw [e12]
      by_cases c : w 12 ≤ 0
      · rw [if_pos c, if_pos c]
      · rw [if_neg c, if_neg c, e _ (by omega) (by omega) (by omega) (by omega) (by omega) (by omega) (by omega) (by omega)]
    · intro i hi
      rw [e i (by omega) (by omega) (by omega) (by omega) (by omega) (by omega) (by omega) (by omega)]
      exact h.2.2.2.2.2 i hi
end
