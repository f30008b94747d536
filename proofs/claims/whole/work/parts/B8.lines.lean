/-! LAYER 2: what is told: sizes and tables -/
def E0 (k : Nat) : Int := if k = 17 ∨ k = 22 then -1 else if k = 24 then 1 else 0
def lastW (w : Nat → Int) : Int := if w 12 ≤ 0 then -1 else w (57 + 2 * (w 12).toNat)
/-- what is told so far, behind a good line -/
def GI (L P : Ob) (w : Nat → Int) : Prop := PR P w ∧ (L 4 0 = 0 ∨ L 4 0 = 1) ∧ (L 5 0 = 0 ∨ L 5 0 = 1) ∧ w 13 = L 4 0 + 2 * (if w 7 = -1 then 0 else 1) + 4 * L 5 0 ∧ L 6 0 = lastW w ∧ ∀ k : Nat, (14 ≤ k ∧ k ≤ 24) ∨ (71 ≤ k ∧ k < 1419) → w k = E0 k
def FX (M M' : Ob) : Prop := ∀ j, j < 8 ∨ 14 < j → M' j = M j
/-- what a line's words leave behind -/
def Out (S : Nat) (B : Nat → Int) (Y M L' Y' P' M' : Ob) : Prop := St S B L' Y' M' ∧ FX M M' ∧ (M' 12 0 = 0 → Y 3 0 ≤ Y' 3 0 ∧ M' 14 0 = M 14 0 ∧ P' 0 0 = M 14 0 ∧ ∀ n : Int, 1 ≤ n → n ≤ 1600 → PB (up1 (M' 14) 0 n) ∧ GI L' (up2 P' 0 0 n) (up1 (M' 14) 0 n))
section
variable {S : Nat} {B : Nat → Int} {L Y M P L1 Y1 M1 M2 : Ob} {a b : Nat}
theorem FM.fx (h : FM M M1) : FX M M1 := fun j hj => h j (by omega)
theorem FX.refl (M : Ob) : FX M M := fun _ _ => rfl
theorem FX.trans (h : FX M M1) (h2 : FX M1 M2) : FX M M2 := fun j a => by rw [h2 j a, h j a]
theorem FX.u {i : Nat} {v : Int} : FX M (up2 M 14 i v) := fun j hj => up2_n (by omega)
/-- the word at hand is taken -/
theorem take_rd {w : Nat} (hw : w < 18) (h : St S B L Y M) (hg : M 12 0 = 0) (t : TK S B Y M a b) (hi : isW B M a b w) : ∃ Y1 M1, (∀ P, fX5_readWord L Y P w = some (L, Y1)) ∧ fX8_takes M w = some (1, M1) ∧ fX8_advance M = some M1 ∧ St S B L Y1 M1 ∧ FM M M1 ∧ M1 12 0 = 0 ∧ Y 3 0 ≤ Y1 3 0 := by
  obtain ⟨r, r1, r2, r3⟩ := isw hw t hg
  obtain ⟨Y', M', e1, e2, e3, e4, e5, e6, e7, e8, e9⟩ := go_ok h hg
  rcases r3 with ⟨rfl, r3⟩ | ⟨rfl, r3⟩
  · refine ⟨Y', M', fun P => ?_, ?_, e2, e3, e4, e5, e7⟩
    · unfold fX5_readWord
      rw [h.1, bq_t hg, r1, bd_some, bq_f (a := 1) (b := 0) (by decide) (by decide) (by decide) (by decide) (by decide), e1, bd_some]
    · unfold fX8_takes
      rw [r2, bd_some, bq_f (a := 1) (b := 0) (by decide) (by decide) (by decide) (by decide) (by decide), e2, bd_some, gd_t (by decide)]
  · exact absurd hi r3
theorem takes_no {w : Nat} (hw : w < 18) (hg : M 12 0 = 0) (t : TK S B Y M a b) (hi : ¬ isW B M a b w) : fX8_takes M w = some (0, M) := by
  obtain ⟨r, r1, r2, r3⟩ := isw hw t hg
  rcases r3 with ⟨rfl, r3⟩ | ⟨rfl, r3⟩
  · exact absurd r3 hi
  · unfold fX8_takes
    rw [r2, bd_some, bq_t rfl, gd_t (by decide)]
/-- lines are counted -/
theorem PB.cnt {w : Nat → Int} {n : Int} (hb : PB w) (h0 : w 0 ≠ 0) (h1 : 1 ≤ n) (h2 : n ≤ 1600) : PB (up1 w 0 n) := by
  have e : ∀ i, i ≠ 0 → up1 w 0 n i = w i := fun i hi => up1_n hi
  have hs := hb.sq
  refine ⟨⟨?_, ?_⟩, hb.b1, hb.b2, hb.b3, hb.b4, hb.b5, hb.b6, hb.b7, hb.b8, hb.b9, hb.b10, hb.b11, hb.b12, hb.b22, ?_, hb.none, hb.some, hb.road, ?_, ?_, ?_⟩
  · rw [up1_s]; omega
  · rw [up1_s]; exact h2
  · rw [up1_s, e 1 (by decide)]; omega
  · intro s hs
    rw [e _ (by omega), e _ (by omega)]
    exact hb.size s hs
  · intro k hk
    rw [e (35 + 3 * k) (by omega), e (36 + 3 * k) (by omega), e (37 + 3 * k) (by omega)]
    exact hb.tab k hk
  · intro k hk
    rw [e _ (by omega), e _ (by omega)]
    exact hb.rule k hk
theorem PR.cnt {w : Nat → Int} {n : Int} (hb : PB w) (h : PR P w) : PR (up2 P 0 0 n) (up1 w 0 n) := by
  have b12 := hb.b12
  have e : ∀ i, i ≠ 0 → up1 w 0 n i = w i := fun i hi => up1_n hi
  refine ⟨?_, h.p1, h.p2, h.p3, h.p4, h.p5, h.p6, h.p7, h.p8, h.p9, h.p10, h.p11, h.p14, h.p18, ?_, ?_, ?_⟩
  · rw [up2_s, up1_s, up1_s]
  · intro s hs
    rw [e _ (by omega), e _ (by omega)]
    exact h.size s hs
  · intro k hk
    rw [e (35 + 3 * k) (by omega), e (36 + 3 * k) (by omega), e (37 + 3 * k) (by omega)]
    exact h.tab k hk
  · intro s hs
    rw [e 12 (by decide), letsR_c (w := w) (fun k h1 h2 => e k (by omega)) _ (by omega)]
    exact h.lets s hs
theorem GI.cnt {w : Nat → Int} {n : Int} (hb : PB w) (h : GI L P w) : GI L (up2 P 0 0 n) (up1 w 0 n) := by
  have e : ∀ i, i ≠ 0 → up1 w 0 n i = w i := fun i hi => up1_n hi
  refine ⟨h.1.cnt hb, h.2.1, h.2.2.1, h.2.2.2.1, ?_, fun k hk => by rw [e k (by omega)]; exact h.2.2.2.2.2 k hk⟩
  rw [h.2.2.2.2.1]
  unfold lastW
  rw [e 12 (by decide), e _ (by omega)]
/-- a size is told -/
theorem size_upd {w : Nat → Int} {k : Nat} {v u : Int} (hb : PB w) (h : GI L P w) (h0 : w 0 ≠ 0) (hk : w 10 = (k : Int)) (hk5 : k < 5) (hv : 0 ≤ v ∧ v ≤ 99) (hu : 1 ≤ u ∧ u ≤ 9) : PB (up1 (up1 (up1 w (25 + 2 * k) v) (26 + 2 * k) u) 10 ((k : Int) + 1)) ∧ GI L (up2 (up2 (up2 P 12 k v) 13 k u) 11 0 ((k : Int) + 1)) (up1 (up1 (up1 w (25 + 2 * k) v) (26 + 2 * k) u) 10 ((k : Int) + 1)) := by
  obtain ⟨w', hw'⟩ : ∃ w', w' = up1 (up1 (up1 w (25 + 2 * k) v) (26 + 2 * k) u) 10 ((k : Int) + 1) := ⟨_, rfl⟩
  rw [← hw']
  have e : ∀ i, i ≠ 10 → i ≠ 25 + 2 * k → i ≠ 26 + 2 * k → w' i = w i := fun i h1 h2 h3 => by rw [hw', up1_n h1, up1_n h3, up1_n h2]
  have x10 : w' 10 = (k : Int) + 1 := by rw [hw', up1_s]
  have x25 : w' (25 + 2 * k) = v := by rw [hw', up1_n (by omega), up1_n (by omega), up1_s]
  have x26 : w' (26 + 2 * k) = u := by rw [hw', up1_n (by omega), up1_s]
  have e0 := e 0 (by omega) (by omega) (by omega)
  have e1 := e 1 (by omega) (by omega) (by omega)
  have e2 := e 2 (by omega) (by omega) (by omega)
  have e3 := e 3 (by omega) (by omega) (by omega)
  have e4 := e 4 (by omega) (by omega) (by omega)
  have e5 := e 5 (by omega) (by omega) (by omega)
  have e6 := e 6 (by omega) (by omega) (by omega)
  have e7 := e 7 (by omega) (by omega) (by omega)
  have e8 := e 8 (by omega) (by omega) (by omega)
  have e9 := e 9 (by omega) (by omega) (by omega)
  have e11 := e 11 (by omega) (by omega) (by omega)
  have e12 := e 12 (by omega) (by omega) (by omega)
  have e22 := e 22 (by omega) (by omega) (by omega)
  have hp := h.1
  have b12 := hb.b12
  have hsq := hb.sq
  constructor
  · obtain ⟨b0, b1, b2, b3, b4, b5, b6, b7, b8, b9, b10, b11, b12, b22, c1, c2, c3, c4, c5, c6, c7⟩ := hb
    refine ⟨by omega, by omega, by omega, by omega, by omega, by omega, by omega, by omega, by omega, by omega, by omega, by omega, by omega, by omega, by omega, by omega, by omega, by omega, ?_, ?_, ?_⟩
    · intro s hs
      by_cases c : s = k
      · rw [c, x25, x26]; omega
      · rw [e _ (by omega) (by omega) (by omega), e _ (by omega) (by omega) (by omega)]
        exact c5 s (by omega)
    · intro s hs
      rw [e (35 + 3 * s) (by omega) (by omega) (by omega), e (36 + 3 * s) (by omega) (by omega) (by omega), e (37 + 3 * s) (by omega) (by omega) (by omega), e1, e2]
      exact c6 s (by omega)
    · intro s hs
      rw [e _ (by omega) (by omega) (by omega), e _ (by omega) (by omega) (by omega)]
      exact c7 s (by omega)
  · refine ⟨⟨?_, ?_, ?_, ?_, ?_, ?_, ?_, ?_, ?_, ?_, ?_, ?_, ?_, ?_, ?_, ?_, ?_⟩, h.2.1, h.2.2.1, ?_, ?_, ?_⟩
    · rw [e0]; exact hp.p0
    · rw [e1]; exact hp.p1
    · rw [e2]; exact hp.p2
    · rw [e3]; exact hp.p3
    · rw [e4]; exact hp.p4
    · rw [e5]; exact hp.p5
    · rw [e6]; exact hp.p6
    · rw [e7]; exact hp.p7
    · rw [e8]; exact hp.p8
    · rw [e22]; exact hp.p9
    · rw [e9]; exact hp.p10
    · rw [x10, up2_s, up1_s]
    · rw [e11]; exact hp.p14
    · rw [e12]; exact hp.p18
    · intro s hs
      rw [up2_n (show 12 ≠ 11 by decide), up2_n (show 12 ≠ 13 by decide), up2_n (show 13 ≠ 11 by decide), up2_s, up2_s, up2_n (show 13 ≠ 12 by decide)]
      by_cases c : s = k
      · rw [c, x25, x26, up1_s, up1_s]; exact ⟨rfl, rfl⟩
      · rw [e _ (by omega) (by omega) (by omega), e _ (by omega) (by omega) (by omega), up1_n c, up1_n c]
        exact hp.size s (by omega)
    · intro s hs
      rw [e (35 + 3 * s) (by omega) (by omega) (by omega), e (36 + 3 * s) (by omega) (by omega) (by omega), e (37 + 3 * s) (by omega) (by omega) (by omega)]
      exact hp.tab s (by omega)
    · intro s hs
      rw [e12, letsR_c (w := w) (fun i h1 h2 => e i (by omega) (by omega) (by omega)) _ (by omega)]
      exact hp.lets s hs
    · rw [e 13 (by omega) (by omega) (by omega), e7]; exact h.2.2.2.1
    · rw [h.2.2.2.2.1]
      unfold lastW
      rw [e12]
      by_cases c : w 12 ≤ 0
      · rw [if_pos c, if_pos c]
      · rw [if_neg c, if_neg c, e _ (by omega) (by omega) (by omega)]
    · intro i hi
      rw [e i (by omega) (by omega) (by omega)]
      exact h.2.2.2.2.2 i hi
theorem up2_14 {X : Ob} {i : Nat} {v : Int} : up2 X 14 i v 14 = up1 (X 14) i v := up2_s
theorem size_rd (h : St S B L Y M) (hg : M 12 0 = 0) (t : TK S B Y M a b) (hi : isW B M a b 12) (hb : PB (M 14)) (hG : GI L P (M 14)) (h0 : M 14 0 ≠ 0) (h5 : M 14 10 < 5) : ∃ M1 L' Y' P' M', fX5_readSize L Y P = some (L', Y', P') ∧ fX8_takes M 12 = some (1, M1) ∧ fX8_readSize M1 = some M' ∧ Out S B Y M L' Y' P' M' := by
  have b10 := hb.b10
  obtain ⟨k, hk⟩ : ∃ k : Nat, M 14 10 = (k : Int) := ⟨(M 14 10).toNat, by omega⟩
  obtain ⟨Y1, M1, a1, a2, a3, a4, a5, a6, a7⟩ := take_rd (by decide) h hg t hi
  obtain ⟨La, Ya, v7, v8, Lb, Yb, Mb, c1, c2, c3, c4, c5, c6, c7, c8⟩ := told_rd (w := 2) (lo := 0) (hi := 99) (by decide) (by decide) (by decide) (by decide) (by decide) a4
  obtain ⟨Lc, Yc, u7, u8, Ld, Yd, Md, d1, d2, d3, d4, d5, d6, d7, d8⟩ := told_rd (w := 11) (lo := 1) (hi := 9) (by decide) (by decide) (by decide) (by decide) (by decide) (c4.m14 (i := 25 + 2 * k) (v := v8))
  have m1 : M1 14 = M 14 := a5 14 (by decide)
  have md : Md 14 = up1 (M 14) (25 + 2 * k) v8 := by rw [d6 14 (by decide), up2_14, c6 14 (by decide), m1]
  have x10 : up1 (up1 (M 14) (25 + 2 * k) v8) (26 + 2 * k) u8 10 = (k : Int) := by rw [up1_n (by omega), up1_n (by omega)]; exact hk
  refine ⟨M1, Ld, Yd, up2 (up2 (up2 P 12 k v7) 13 k u7) 11 0 ((k : Int) + 1), up2 (up2 Md 14 (26 + 2 * k) u8) 14 10 ((k : Int) + 1), ?_, a2, ?_, (d4.m14).m14, ?_, ?_⟩
  · unfold fX5_readSize
    rw [nm_e', hG.1.p11, hk, bl_t (by omega) (by omega) (by omega), a1, bd_some, c1, bd_some, c2, bd_some, gi (by omega) (by omega) (by omega), nm_e', d1, bd_some, d2, bd_some, gi (by omega) (by omega) (by omega), nm_e', nm_e', ix_nat (by omega), up2_n (show 11 ≠ 13 by decide), up2_n (show 11 ≠ 12 by decide), hG.1.p11, hk]
  · unfold fX8_readSize
    rw [lit (by decide), nm_e', show ix 10 = 10 from by decide, m1, hk, c3, bd_some, show (25 + 2 * (k : Int)) = ((25 + 2 * k : Nat) : Int) from by omega, show ((25 + 2 * k : Nat) : Int) + 1 = ((26 + 2 * k : Nat) : Int) from by omega, gi (by omega) (by omega) (by omega), nm_e', ix_nat (by omega), d3, bd_some, gi (by omega) (by omega) (by omega), nm_e', lit (by decide), lit (by decide), nm_e', ix_nat (by omega), up2_14]
    show some (up2 (up2 Md 14 (26 + 2 * k) u8) 14 10 (up1 (Md 14) (26 + 2 * k) u8 10 + 1)) = _
    rw [md, x10]
  · exact (a5.fx.trans c6.fx).trans ((FX.u.trans d6.fx).trans (FX.u.trans FX.u))
  · intro q
    rw [up2_n (by decide), up2_n (by decide)] at q
    obtain ⟨q1, q2, q3, q4, q5, q6⟩ := d8 q
    rw [up2_n (by decide)] at q1
    obtain ⟨r1, r2, r3, r4, r5, r6⟩ := c8 q1
    obtain ⟨z1, z2⟩ := size_upd (L := L) (P := P) (k := k) (v := v8) (u := u8) hb hG h0 hk (by omega) ⟨by omega, by omega⟩ ⟨by omega, by omega⟩
    rw [up2_14, up2_14, md, q4, r4, q3, r3]
    refine ⟨by omega, by rw [up1_n (by omega), up1_n (by omega), up1_n (by omega)], hG.1.p0, fun n n1 n2 => ⟨z1.cnt (by rw [up1_n (by omega), up1_n (by omega), up1_n (by omega)]; exact h0) n1 n2, z2.cnt z1⟩⟩
end
