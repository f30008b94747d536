/-! LAYER 2: what is told: tables and rules -/
section
variable {S : Nat} {B : Nat → Int} {L Y M P L1 Y1 M1 M2 : Ob} {a b : Nat}
theorem table_upd {w : Nat → Int} {k : Nat} {v u t : Int} (hb : PB w) (h : GI L P w) (h0 : w 0 ≠ 0) (hk : w 11 = (k : Int)) (hk5 : k < 8) (hv : 0 ≤ v ∧ v < w 1) (hu : 0 ≤ u ∧ u < w 2) (ht : 0 ≤ t ∧ t ≤ 999) : PB (up1 (up1 (up1 (up1 w (35 + 3 * k) v) (36 + 3 * k) u) (37 + 3 * k) t) 11 ((k : Int) + 1)) ∧ GI L (up2 (up2 (up2 (up2 P 15 k v) 16 k u) 17 k t) 14 0 ((k : Int) + 1)) (up1 (up1 (up1 (up1 w (35 + 3 * k) v) (36 + 3 * k) u) (37 + 3 * k) t) 11 ((k : Int) + 1)) := by
  obtain ⟨w', hw'⟩ : ∃ w', w' = up1 (up1 (up1 (up1 w (35 + 3 * k) v) (36 + 3 * k) u) (37 + 3 * k) t) 11 ((k : Int) + 1) := ⟨_, rfl⟩
  rw [← hw']
  have e : ∀ i, i ≠ 11 → i ≠ 35 + 3 * k → i ≠ 36 + 3 * k → i ≠ 37 + 3 * k → w' i = w i := fun i h1 h2 h3 h4 => by rw [hw', up1_n h1, up1_n h4, up1_n h3, up1_n h2]
  have x11 : w' 11 = (k : Int) + 1 := by rw [hw', up1_s]
  have x35 : w' (35 + 3 * k) = v := by rw [hw', up1_n (by omega), up1_n (by omega), up1_n (by omega), up1_s]
  have x36 : w' (36 + 3 * k) = u := by rw [hw', up1_n (by omega), up1_n (by omega), up1_s]
  have x37 : w' (37 + 3 * k) = t := by rw [hw', up1_n (by omega), up1_s]
  have e0 := e 0 (by omega) (by omega) (by omega) (by omega)
  have e1 := e 1 (by omega) (by omega) (by omega) (by omega)
  have e2 := e 2 (by omega) (by omega) (by omega) (by omega)
  have e3 := e 3 (by omega) (by omega) (by omega) (by omega)
  have e4 := e 4 (by omega) (by omega) (by omega) (by omega)
  have e5 := e 5 (by omega) (by omega) (by omega) (by omega)
  have e6 := e 6 (by omega) (by omega) (by omega) (by omega)
  have e7 := e 7 (by omega) (by omega) (by omega) (by omega)
  have e8 := e 8 (by omega) (by omega) (by omega) (by omega)
  have e9 := e 9 (by omega) (by omega) (by omega) (by omega)
  have e10 := e 10 (by omega) (by omega) (by omega) (by omega)
  have e12 := e 12 (by omega) (by omega) (by omega) (by omega)
  have e22 := e 22 (by omega) (by omega) (by omega) (by omega)
  have hp := h.1
  have b12 := hb.b12
  have b10 := hb.b10
  have hsq := hb.sq
  constructor
  · obtain ⟨b0, b1, b2, b3, b4, b5, b6, b7, b8, b9, b10, b11, b12, b22, c1, c2, c3, c4, c5, c6, c7⟩ := hb
    refine ⟨by omega, by omega, by omega, by omega, by omega, by omega, by omega, by omega, by omega, by omega, by omega, by omega, by omega, by omega, by omega, by omega, by omega, by omega, ?_, ?_, ?_⟩
    · intro s hs
      rw [e _ (by omega) (by omega) (by omega) (by omega), e _ (by omega) (by omega) (by omega) (by omega)]
      exact c5 s (by omega)
    · intro s hs
      rw [e1, e2]
      by_cases c : s = k
      · rw [c, x35, x36, x37]; omega
      · rw [e (35 + 3 * s) (by omega) (by omega) (by omega) (by omega), e (36 + 3 * s) (by omega) (by omega) (by omega) (by omega), e (37 + 3 * s) (by omega) (by omega) (by omega) (by omega)]
        exact c6 s (by omega)
    · intro s hs
      rw [e _ (by omega) (by omega) (by omega) (by omega), e _ (by omega) (by omega) (by omega) (by omega)]
      exact c7 s (by omega)
  · refine ⟨⟨?_, ?_, ?_, ?_, ?_, ?_, ?_, ?_, ?_, ?_, ?_, ?_, ?_, ?_, ?_, ?_, ?_⟩, h.2.1, h.2.2.1, ?_, ?_, ?_⟩
    · rw [e0]; exact hp.p0
    · rw [e1]; exact hp.p1
    · rw [e2]; exact hp.p2
    · rw [e3]; exact hp.p3
    · rw [e4]; exact hp.p4
    · rw [e5]; exact hp.p5
    · rw [e6]; exact hp.p6
    · rw [e7]; exact hp.p7
    · rw [e8]; exact hp.p8
    · rw [e22]; exact hp.p9
    · rw [e9]; exact hp.p10
    · rw [e10]; exact hp.p11
    · rw [x11, up2_s, up1_s]
    · rw [e12]; exact hp.p18
    · intro s hs
      rw [e _ (by omega) (by omega) (by omega) (by omega), e _ (by omega) (by omega) (by omega) (by omega)]
      exact hp.size s (by omega)
    · intro s hs
      rw [up2_n (show 15 ≠ 14 by decide), up2_n (show 15 ≠ 17 by decide), up2_n (show 15 ≠ 16 by decide), up2_n (show 16 ≠ 14 by decide), up2_n (show 16 ≠ 17 by decide), up2_n (show 17 ≠ 14 by decide), up2_s, up2_s, up2_s, up2_n (show 16 ≠ 15 by decide), up2_n (show 17 ≠ 16 by decide), up2_n (show 17 ≠ 15 by decide)]
      by_cases c : s = k
      · rw [c, x35, x36, x37, up1_s, up1_s, up1_s]; exact ⟨rfl, rfl, rfl⟩
      · rw [e (35 + 3 * s) (by omega) (by omega) (by omega) (by omega), e (36 + 3 * s) (by omega) (by omega) (by omega) (by omega), e (37 + 3 * s) (by omega) (by omega) (by omega) (by omega), up1_n c, up1_n c, up1_n c]
        exact hp.tab s (by omega)
    · intro s hs
      rw [e12, letsR_c (w := w) (fun i h1 h2 => e i (by omega) (by omega) (by omega) (by omega)) _ (by omega)]
      exact hp.lets s hs
    · rw [e 13 (by omega) (by omega) (by omega) (by omega), e7]; exact h.2.2.2.1
    · rw [h.2.2.2.2.1]
      unfold lastW
      rw [e12]
      by_cases c : w 12 ≤ 0
      · rw [if_pos c, if_pos c]
      · rw [if_neg c, if_neg c, e _ (by omega) (by omega) (by omega) (by omega)]
    · intro i hi
      rw [e i (by omega) (by omega) (by omega) (by omega)]
      exact h.2.2.2.2.2 i hi
theorem table_rd (h : St S B L Y M) (hg : M 12 0 = 0) (t : TK S B Y M a b) (hi : isW B M a b 14) (hb : PB (M 14)) (hG : GI L P (M 14)) (h0 : M 14 0 ≠ 0) (h5 : M 14 11 < 8) : ∃ M1 L' Y' P' M', fX5_readTable L Y P = some (L', Y', P') ∧ fX8_takes M 14 = some (1, M1) ∧ fX8_readTable M1 = some M' ∧ Out S B Y M L' Y' P' M' := by
  have b11 := hb.b11; have b1 := hb.b1; have b2 := hb.b2
  obtain ⟨k, hk⟩ : ∃ k : Nat, M 14 11 = (k : Int) := ⟨(M 14 11).toNat, by omega⟩
  obtain ⟨Y1, M1, a1, a2, a3, a4, a5, a6, a7⟩ := take_rd (by decide) h hg t hi
  obtain ⟨La, Ya, v7, v8, Lb, Yb, Mb, c1, c2, c3, c4, c5, c6, c7, c8⟩ := told_rd (w := 0) (lo := 0) (hi := M 14 1 - 1) (by decide) (by decide) (by decide) (by omega) (by omega) a4
  obtain ⟨x7, x8, Lx, Yx, Mx, f1, f2, f3, f4, f5, f6, f7⟩ := num_rd (lo := 0) (hi := M 14 2 - 1) (by decide) (by decide) (by omega) (by omega) (c4.m14 (i := 35 + 3 * k) (v := v8))
  obtain ⟨Lc, Yc, u7, u8, Ld, Yd, Md, d1, d2, d3, d4, d5, d6, d7, d8⟩ := told_rd (w := 8) (lo := 0) (hi := 999) (by decide) (by decide) (by decide) (by decide) (by decide) (f3.m14 (i := 36 + 3 * k) (v := x8))
  have m1 : M1 14 = M 14 := a5 14 (by decide)
  have mx : Mx 14 = up1 (M 14) (35 + 3 * k) v8 := by rw [f5 14 (by decide), up2_14, c6 14 (by decide), m1]
  have md : Md 14 = up1 (up1 (M 14) (35 + 3 * k) v8) (36 + 3 * k) x8 := by rw [d6 14 (by decide), up2_14, mx]
  have x2 : up2 Mb 14 (35 + 3 * k) v8 14 2 = M 14 2 := by rw [up2_14, up1_n (by omega), c6 14 (by decide), m1]
  have x11 : up1 (up1 (up1 (M 14) (35 + 3 * k) v8) (36 + 3 * k) x8) (37 + 3 * k) u8 11 = (k : Int) := by rw [up1_n (by omega), up1_n (by omega), up1_n (by omega)]; exact hk
  refine ⟨M1, Ld, Yd, up2 (up2 (up2 (up2 P 15 k v7) 16 k x7) 17 k u7) 14 0 ((k : Int) + 1), up2 (up2 Md 14 (37 + 3 * k) u8) 14 11 ((k : Int) + 1), ?_, a2, ?_, (d4.m14).m14, ?_, ?_⟩
  · unfold fX5_readTable
    rw [nm_e', hG.1.p14, hk, bl_t (by omega) (by omega) (by omega), a1, bd_some, c1, bd_some, hG.1.p1, c2, bd_some, gi (by omega) (by omega) (by omega), nm_e', up2_n (show 2 ≠ 15 by decide), hG.1.p2, f1, bd_some, gi (by omega) (by omega) (by omega), nm_e', d1, bd_some, d2, bd_some, gi (by omega) (by omega) (by omega), nm_e', nm_e', ix_nat (by omega), up2_n (show 14 ≠ 17 by decide), up2_n (show 14 ≠ 16 by decide), up2_n (show 14 ≠ 15 by decide), hG.1.p14, hk]
  · unfold fX8_readTable
    rw [lit (by decide), nm_e', show ix 11 = 11 from by decide, lit (by decide), show ix 1 = 1 from by decide, m1, hk, c3, bd_some, show (35 + 3 * (k : Int)) = ((35 + 3 * k : Nat) : Int) from by omega, show ((35 + 3 * k : Nat) : Int) + 1 = ((36 + 3 * k : Nat) : Int) from by omega, show ((35 + 3 * k : Nat) : Int) + 2 = ((37 + 3 * k : Nat) : Int) from by omega, gi (by omega) (by omega) (by omega), nm_e', lit (by decide), ix_nat (by omega), show ix 2 = 2 from by decide]
    rw [show up2 (v8, Mb).2 14 (35 + 3 * k) (v8, Mb).1 14 2 = M 14 2 from x2, f2, bd_some, gi (by omega) (by omega) (by omega), nm_e', ix_nat (by omega), d3, bd_some, gi (by omega) (by omega) (by omega), nm_e', lit (by decide), lit (by decide), nm_e', ix_nat (by omega), up2_14]
    show some (up2 (up2 Md 14 (37 + 3 * k) u8) 14 11 (up1 (Md 14) (37 + 3 * k) u8 11 + 1)) = _
    rw [md, x11]
  · exact (a5.fx.trans c6.fx).trans ((FX.u.trans f5.fx).trans ((FX.u.trans d6.fx).trans (FX.u.trans FX.u)))
  · intro q
    rw [up2_n (by decide), up2_n (by decide)] at q
    obtain ⟨q1, q2, q3, q4, q5, q6⟩ := d8 q
    rw [up2_n (by decide)] at q1
    obtain ⟨s1, s2, s3, s4, s5, s6⟩ := f7 q1
    rw [up2_n (by decide)] at s1
    obtain ⟨r1, r2, r3, r4, r5, r6⟩ := c8 s1
    obtain ⟨z1, z2⟩ := table_upd (L := L) (P := P) (k := k) (v := v8) (u := x8) (t := u8) hb hG h0 hk (by omega) ⟨by omega, by omega⟩ ⟨by omega, by omega⟩ ⟨by omega, by omega⟩
    rw [up2_14, up2_14, md, q4, s4, r4, q3, s3, r3]
    refine ⟨by omega, by rw [up1_n (by omega), up1_n (by omega), up1_n (by omega), up1_n (by omega)], hG.1.p0, fun n n1 n2 => ⟨z1.cnt (by rw [up1_n (by omega), up1_n (by omega), up1_n (by omega), up1_n (by omega)]; exact h0) n1 n2, z2.cnt z1⟩⟩
theorem letsR_cn {u w : Nat → Int} {st : Int} : ∀ k : Nat, (∀ i, 59 ≤ i → i < 59 + 2 * k → u i = w i) → letsR u st k = letsR w st k
  | 0, _ => rfl
  | k + 1, h => by rw [letsR, letsR, h (59 + 2 * k) (by omega) (by omega), h (60 + 2 * k) (by omega) (by omega), letsR_cn k (fun i h1 h2 => h i h1 (by omega))]
theorem rule_upd {w : Nat → Int} {k x : Nat} {v : Int} (hb : PB w) (h : GI L P w) (h0 : w 0 ≠ 0) (hk : w 12 = (k : Int)) (hk5 : k < 6) (hx : x ≤ 9) (hv : 0 ≤ v ∧ v ≤ 60) : PB (up1 (up1 (up1 w (59 + 2 * k) (x : Int)) (60 + 2 * k) v) 12 ((k : Int) + 1)) ∧ GI (up2 L 6 0 (x : Int)) (upA (up2 P 18 0 ((k : Int) + 1)) 19 (fun j => if x ≤ j ∧ j < 10 then v else P 19 j)) (up1 (up1 (up1 w (59 + 2 * k) (x : Int)) (60 + 2 * k) v) 12 ((k : Int) + 1)) := by
  obtain ⟨w', hw'⟩ : ∃ w', w' = up1 (up1 (up1 w (59 + 2 * k) (x : Int)) (60 + 2 * k) v) 12 ((k : Int) + 1) := ⟨_, rfl⟩
  rw [← hw']
  have e : ∀ i, i ≠ 12 → i ≠ 59 + 2 * k → i ≠ 60 + 2 * k → w' i = w i := fun i h1 h2 h3 => by rw [hw', up1_n h1, up1_n h3, up1_n h2]
  have x12 : w' 12 = (k : Int) + 1 := by rw [hw', up1_s]
  have x59 : w' (59 + 2 * k) = (x : Int) := by rw [hw', up1_n (by omega), up1_n (by omega), up1_s]
  have x60 : w' (60 + 2 * k) = v := by rw [hw', up1_n (by omega), up1_s]
  have e0 := e 0 (by omega) (by omega) (by omega)
  have e1 := e 1 (by omega) (by omega) (by omega)
  have e2 := e 2 (by omega) (by omega) (by omega)
  have e3 := e 3 (by omega) (by omega) (by omega)
  have e4 := e 4 (by omega) (by omega) (by omega)
  have e5 := e 5 (by omega) (by omega) (by omega)
  have e6 := e 6 (by omega) (by omega) (by omega)
  have e7 := e 7 (by omega) (by omega) (by omega)
  have e8 := e 8 (by omega) (by omega) (by omega)
  have e9 := e 9 (by omega) (by omega) (by omega)
  have e10 := e 10 (by omega) (by omega) (by omega)
  have e11 := e 11 (by omega) (by omega) (by omega)
  have e22 := e 22 (by omega) (by omega) (by omega)
  have hp := h.1
  have b11 := hb.b11
  have b10 := hb.b10
  have hsq := hb.sq
  constructor
  · obtain ⟨b0, b1, b2, b3, b4, b5, b6, b7, b8, b9, b10, b11, b12, b22, c1, c2, c3, c4, c5, c6, c7⟩ := hb
    refine ⟨by omega, by omega, by omega, by omega, by omega, by omega, by omega, by omega, by omega, by omega, by omega, by omega, by omega, by omega, by omega, by omega, by omega, by omega, ?_, ?_, ?_⟩
    · intro s hs
      rw [e _ (by omega) (by omega) (by omega), e _ (by omega) (by omega) (by omega)]
      exact c5 s (by omega)
    · intro s hs
      rw [e (35 + 3 * s) (by omega) (by omega) (by omega), e (36 + 3 * s) (by omega) (by omega) (by omega), e (37 + 3 * s) (by omega) (by omega) (by omega), e1, e2]
      exact c6 s (by omega)
    · intro s hs
      by_cases c : s = k
      · rw [c, x59, x60]; omega
      · rw [e _ (by omega) (by omega) (by omega), e _ (by omega) (by omega) (by omega)]
        exact c7 s (by omega)
  · refine ⟨⟨?_, ?_, ?_, ?_, ?_, ?_, ?_, ?_, ?_, ?_, ?_, ?_, ?_, ?_, ?_, ?_, ?_⟩, h.2.1, h.2.2.1, ?_, ?_, ?_⟩
    · rw [e0]; exact hp.p0
    · rw [e1]; exact hp.p1
    · rw [e2]; exact hp.p2
    · rw [e3]; exact hp.p3
    · rw [e4]; exact hp.p4
    · rw [e5]; exact hp.p5
    · rw [e6]; exact hp.p6
    · rw [e7]; exact hp.p7
    · rw [e8]; exact hp.p8
    · rw [e22]; exact hp.p9
    · rw [e9]; exact hp.p10
    · rw [e10]; exact hp.p11
    · rw [e11]; exact hp.p14
    · rw [x12, upA_n (by decide), up2_s, up1_s]
    · intro s hs
      rw [e _ (by omega) (by omega) (by omega), e _ (by omega) (by omega) (by omega)]
      exact hp.size s (by omega)
    · intro s hs
      rw [e (35 + 3 * s) (by omega) (by omega) (by omega), e (36 + 3 * s) (by omega) (by omega) (by omega), e (37 + 3 * s) (by omega) (by omega) (by omega)]
      exact hp.tab s (by omega)
    · intro s hs
      have hl := hp.lets s hs
      rw [hk, Int.toNat_natCast] at hl
      rw [upA_s, x12, show ((k : Int) + 1).toNat = k + 1 from by omega, letsR, x59, x60, letsR_cn (u := w') (w := w) k (fun i h1 h2 => e i (by omega) (by omega) (by omega)), ← hl]
      by_cases c : x ≤ s
      · rw [if_pos ⟨c, hs⟩, if_pos (by omega)]
      · rw [if_neg (by omega), if_neg (by omega)]
    · rw [e 13 (by omega) (by omega) (by omega), e7]; exact h.2.2.2.1
    · rw [up2_s, up1_s]
      unfold lastW
      rw [x12, if_neg (by omega), show 57 + 2 * ((k : Int) + 1).toNat = 59 + 2 * k from by omega, x59]
    · intro i hi
      rw [e i (by omega) (by omega) (by omega)]
      exact h.2.2.2.2.2 i hi
theorem addRule_any {x v : Int} (h0 : 0 ≤ x) (h1 : x ≤ 1000000) : ∃ P', fX1_addRule P x v = some P' := by
  by_cases c : x ≤ 10
  · obtain ⟨w, rfl⟩ := Int.eq_ofNat_of_zero_le h0
    exact ⟨_, addRule7 (by omega)⟩
  · refine ⟨up2 P 18 0 (P 18 0 + 1), ?_⟩
    unfold fX1_addRule
    rw [nm_e', show FU = 4999 + 1 from rfl, lX1_addRule_12, be_t (by omega) (by omega) (by omega)]
theorem lastW_b {w : Nat → Int} (hb : PB w) : -1 ≤ lastW w ∧ lastW w ≤ 9 := by
  unfold lastW
  by_cases c : w 12 ≤ 0
  · rw [if_pos c]; omega
  · have := hb.rule ((w 12).toNat - 1) (by omega)
    rw [show 59 + 2 * ((w 12).toNat - 1) = 57 + 2 * (w 12).toNat from by omega] at this
    rw [if_neg c]; omega
theorem rule_rd (h : St S B L Y M) (hg : M 12 0 = 0) (t : TK S B Y M a b) (hi : isW B M a b 10) (hb : PB (M 14)) (hG : GI L P (M 14)) (h0 : M 14 0 ≠ 0) (h5 : M 14 12 < 6) : ∃ M1 L' Y' P' M', fX5_readRule L Y P = some (L', Y', P') ∧ fX8_takes M 10 = some (1, M1) ∧ fX8_readRule M1 = some M' ∧ Out S B Y M L' Y' P' M' := by
  have b12 := hb.b12
  have hlw := lastW_b hb
  obtain ⟨k, hk⟩ : ∃ k : Nat, M 14 12 = (k : Int) := ⟨(M 14 12).toNat, by omega⟩
  obtain ⟨Y1, M1, a1, a2, a3, a4, a5, a6, a7⟩ := take_rd (by decide) h hg t hi
  obtain ⟨Lw, Yw, Mw, w1, w2, w3, w4, w5, w6⟩ := word_rd (w := 17) (by decide) a4
  obtain ⟨v7, v8, Lb, Yb, Mb, c2, c3, c4, c5, c6, c7, c8⟩ := num_rd (lo := lastW (M 14) + 1) (hi := 9) (by omega) (by omega) (by decide) (by decide) w3
  obtain ⟨Lc, Yc, u7, u8, Ld, Yd, Md, d1, d2, d3, d4, d5, d6, d7, d8⟩ := told_rd (w := 4) (lo := 0) (hi := 60) (by decide) (by decide) (by decide) (by decide) (by decide) (c4.m14 (i := 59 + 2 * k) (v := v8))
  obtain ⟨P', hP⟩ := addRule_any (P := P) (v := u7) c7.1 c7.2
  have m1 : M1 14 = M 14 := a5 14 (by decide)
  have md : Md 14 = up1 (M 14) (59 + 2 * k) v8 := by rw [d6 14 (by decide), up2_14, c6 14 (by decide), w5 14 (by decide), m1]
  have x12 : up1 (up1 (M 14) (59 + 2 * k) v8) (60 + 2 * k) u8 12 = (k : Int) := by rw [up1_n (by omega), up1_n (by omega)]; exact hk
  have l6 : Lw 6 0 = lastW (M 14) := by rw [w4 6 (by decide) (by decide)]; exact hG.2.2.2.2.1
  have tl : fX8_told M1 17 (lastW (M 14) + 1) 9 = some (v8, Mb) := by
    unfold fX8_told
    rw [w2, bd_some, c3, bd_some]
  have r45 : jX8_readRule_45 M1 (59 + 2 * (k : Int)) (lastW (M 14) + 1) (59 + 2 * (k : Int)) = some (up2 (up2 Md 14 (60 + 2 * k) u8) 14 12 ((k : Int) + 1)) := by
    unfold jX8_readRule_45
    rw [tl, bd_some, show (59 + 2 * (k : Int)) = ((59 + 2 * k : Nat) : Int) from by omega, show ((59 + 2 * k : Nat) : Int) + 1 = ((60 + 2 * k : Nat) : Int) from by omega, gi (by omega) (by omega) (by omega), nm_e', ix_nat (by omega), d3, bd_some, gi (by omega) (by omega) (by omega), nm_e', lit (by decide), lit (by decide), nm_e', ix_nat (by omega), show ix 12 = 12 from by decide, up2_14]
    show some (up2 (up2 Md 14 (60 + 2 * k) u8) 14 12 (up1 (Md 14) (60 + 2 * k) u8 12 + 1)) = _
    rw [md, x12]
  refine ⟨M1, up2 Ld 6 0 v7, Yd, P', up2 (up2 Md 14 (60 + 2 * k) u8) 14 12 ((k : Int) + 1), ?_, a2, ?_, ((d4.m14).m14).l (by decide), ?_, ?_⟩
  · unfold fX5_readRule
    rw [hG.1.p18, hk, bl_t (by omega) (by omega) (by omega), a1, bd_some, w1, bd_some]
    rw [show ((Lw, Yw).1 6 0) = lastW (M 14) from l6, c2, bd_some, nm_e', d1, bd_some, d2, bd_some]
    rw [show fX1_addRule P (v7, Lb, Yb).1 (u7, Ld, Yd).1 = some P' from hP, bd_some, nm_e']
  · unfold fX8_readRule
    rw [lit (by decide), nm_e', lit (by decide), show ix 12 = 12 from by decide, m1, hk]
    by_cases c : k = 0
    · rw [bq_t (show (k : Int) = 0 by omega)]
      have : lastW (M 14) + 1 = 0 := by unfold lastW; rw [hk, if_pos (by omega)]; rfl
      rw [this] at r45
      exact r45
    · have hlk : lastW (M 14) = M 14 (57 + 2 * k) := by unfold lastW; rw [hk, if_neg (by omega), Int.toNat_natCast]
      rw [bq_f (by omega) (by omega) (by omega) (by omega) (by omega), gi (by omega) (by omega) (by omega), show ix (59 + 2 * (k : Int) - 2) = 57 + 2 * k from by rw [show 59 + 2 * (k : Int) - 2 = ((57 + 2 * k : Nat) : Int) from by omega, ix_nat (by omega)], ← hlk]
      exact r45
  · exact ((a5.fx.trans w5.fx).trans c6.fx).trans ((FX.u.trans d6.fx).trans (FX.u.trans FX.u))
  · intro q
    rw [up2_n (by decide), up2_n (by decide)] at q
    obtain ⟨q1, q2, q3, q4, q5, q6⟩ := d8 q
    rw [up2_n (by decide)] at q1
    obtain ⟨r1, r2, r3, r4, r5, r6⟩ := c8 q1
    obtain ⟨s1, s2, s3⟩ := w6 r1
    obtain ⟨x, hx⟩ : ∃ x : Nat, v8 = (x : Int) := ⟨v8.toNat, by omega⟩
    obtain ⟨z1, z2⟩ := rule_upd (L := L) (P := P) (k := k) (x := x) (v := u8) hb hG h0 hk (by omega) (by omega) ⟨by omega, by omega⟩
    have e := addRule7 (P := P) (v := u8) (w := x) (by omega)
    rw [r4, q4, hx, e] at hP
    injection hP with hP
    rw [hG.1.p18, hk] at hP
    rw [up2_14, up2_14, md, r4, q3, r3, s3, hx, ← hP]
    refine ⟨by omega, by rw [up1_n (by omega), up1_n (by omega), up1_n (by omega)], hG.1.p0, fun n n1 n2 => ⟨z1.cnt (by rw [up1_n (by omega), up1_n (by omega), up1_n (by omega)]; exact h0) n1 n2, z2.cnt z1⟩⟩
end
