/-! LAYER 2: what is told: a line, all lines -/
section
variable {S : Nat} {B : Nat → Int} {L Y M P L1 Y1 M1 M2 : Ob} {a b : Nat}
theorem isw_yes {w : Nat} (hw : w < 18) (t : TK S B Y M a b) (hg : M 12 0 = 0) (h : isW B M a b w) : fX4_isWord Y w = some 1 ∧ fX8_is M w = some 1 := by
  obtain ⟨r, r1, r2, r3⟩ := isw hw t hg
  rcases r3 with ⟨rfl, r3⟩ | ⟨rfl, r3⟩
  · exact ⟨r1, r2⟩
  · exact absurd h r3
theorem isw_not {w : Nat} (hw : w < 18) (t : TK S B Y M a b) (hg : M 12 0 = 0) (h : ¬ isW B M a b w) : fX4_isWord Y w = some 0 ∧ fX8_is M w = some 0 := by
  obtain ⟨r, r1, r2, r3⟩ := isw hw t hg
  rcases r3 with ⟨rfl, r3⟩ | ⟨rfl, r3⟩
  · exact absurd r3 h
  · exact ⟨r1, r2⟩
theorem q10 {β : Type} {T F : β} : bq 1 0 T F = F := bq_f (by decide) (by decide) (by decide) (by decide) (by decide)
theorem q00 {β : Type} {T F : β} : bq 0 0 T F = T := bq_t rfl
theorem n204_bad (h : M 12 0 ≠ 0) (h0 : 0 ≤ M 12 0) (h1 : M 12 0 ≤ 3) : jX8_readNext_204 M = some M := by
  unfold jX8_readNext_204
  rw [bad8 h h0 h1, bd_some, q00]
theorem n137_bad (h : M 12 0 ≠ 0) (h0 : 0 ≤ M 12 0) (h1 : M 12 0 ≤ 3) : jX8_readNext_137 M = some M := by
  unfold jX8_readNext_137 jX8_readNext_157 jX8_readNext_178
  rw [is_bad (by decide) h h0 h1, bd_some, q00, is_bad (by decide) h h0 h1, bd_some, q00, is_bad (by decide) h h0 h1, bd_some, q00, n204_bad h h0 h1]
theorem n69_bad (h : M 12 0 ≠ 0) (h0 : 0 ≤ M 12 0) (h1 : M 12 0 ≤ 3) : jX8_readNext_69 M = some M := by
  unfold jX8_readNext_69 jX8_readNext_90 jX8_readNext_111
  rw [is_bad (by decide) h h0 h1, bd_some, q00, is_bad (by decide) h h0 h1, bd_some, q00, is_bad (by decide) h h0 h1, bd_some, q00, n137_bad h h0 h1]
theorem Out.bad {L' Y' P' M' : Ob} (h : St S B L' Y' M') (f : FM M M') (hb : M' 12 0 ≠ 0) : Out S B Y M L' Y' P' M' := ⟨h, f.fx, fun q => absurd q hb⟩
/-- the words of a line that isn't the first -/
theorem next_rd (h : St S B L Y M) (hg : M 12 0 = 0) (hb : PB (M 14)) (hG : GI L P (M 14)) (h0 : M 14 0 ≠ 0) : ∃ L' Y' P' M', fX5_readLine L Y P = jX5_readLine_136 L' Y' P' ∧ fX8_readNext M = some M' ∧ Out S B Y M L' Y' P' M' := by
  obtain ⟨a, b, t⟩ := h.2.2.2 hg
  have b0 := hb.b0; have b10 := hb.b10; have b11 := hb.b11; have b12 := hb.b12; have b7 := hb.b7
  obtain ⟨bt1, bt2, bt3, -⟩ := hG.bits
  have hl4 := hG.2.1; have hl5 := hG.2.2.1
  unfold fX5_readLine fX8_readNext jX8_readNext_54
  rw [hG.1.p0, bq_f h0 (by omega) (by omega) (by omega) (by omega)]
  by_cases c5 : isW B M a b 5
  · skip
    obtain ⟨s5, i5⟩ := isw_yes (w := 5) (by decide) t hg c5
    have c12 : ¬ isW B M a b 12 := fun q => absurd (isW_dis (by decide) (by decide) c5 q) (by decide)
    obtain ⟨s12, i12⟩ := isw_not (w := 12) (by decide) t hg c12
    have c14 : ¬ isW B M a b 14 := fun q => absurd (isW_dis (by decide) (by decide) c5 q) (by decide)
    obtain ⟨s14, i14⟩ := isw_not (w := 14) (by decide) t hg c14
    have c9 : ¬ isW B M a b 9 := fun q => absurd (isW_dis (by decide) (by decide) c5 q) (by decide)
    obtain ⟨s9, i9⟩ := isw_not (w := 9) (by decide) t hg c9
    have c15 : ¬ isW B M a b 15 := fun q => absurd (isW_dis (by decide) (by decide) c5 q) (by decide)
    obtain ⟨s15, i15⟩ := isw_not (w := 15) (by decide) t hg c15
    have c10 : ¬ isW B M a b 10 := fun q => absurd (isW_dis (by decide) (by decide) c5 q) (by decide)
    obtain ⟨s10, i10⟩ := isw_not (w := 10) (by decide) t hg c10
    rw [s5, bd_some, q10]
    rw [i5, bd_some, q10]
    unfold jX8_readNext_59
    rw [q10]
    rcases hl4 with h4 | h4
    · obtain ⟨M1, L', Y', P', M', e1, e2, e3, e4⟩ := jet_rd h hg t c5 hb hG h0 h4
      refine ⟨L', Y', P', M', by rw [e1, bd_some], ?_, e4⟩
      unfold jX8_readNext_69 jX8_readNext_90 jX8_readNext_111 jX8_readNext_137 jX8_readNext_157 jX8_readNext_178 jX8_readNext_204
      rw [i5, bd_some, q10, lit (by decide), show ix 13 = 13 from by decide, bt1, h4, bl_f (by decide) (by decide) (by decide), i9, bd_some, q00, i15, bd_some, q00, i12, bd_some, q00, i14, bd_some, q00, i10, bd_some, q00, good8 hg, bd_some, q10, e2, bd_some, q10, e3, bd_some]
    · obtain ⟨L', M', e1, e2, e3, e4, e5, e6⟩ := note_ok 2 (by decide) h hg
      obtain ⟨P', k1⟩ := jet_twice h4 (e1 P) (by rw [e3.1]; exact e6)
      refine ⟨up2 L' 4 0 1, Y, P', M', by rw [k1, bd_some], ?_, Out.bad (e3.l (by decide)) e5 (by omega)⟩
      unfold jX8_readNext_69
      rw [i5, bd_some, q10, lit (by decide), show ix 13 = 13 from by decide, bt1, h4, bl_t (by decide) (by decide) (by decide)]
      unfold jX8_readNext_132
      rw [e2, bd_some, n137_bad (by omega) (by omega) (by omega)]
  by_cases c12 : isW B M a b 12
  · skip
    obtain ⟨s5, i5⟩ := isw_not (w := 5) (by decide) t hg c5
    obtain ⟨s12, i12⟩ := isw_yes (w := 12) (by decide) t hg c12
    have c14 : ¬ isW B M a b 14 := fun q => absurd (isW_dis (by decide) (by decide) c12 q) (by decide)
    obtain ⟨s14, i14⟩ := isw_not (w := 14) (by decide) t hg c14
    have c9 : ¬ isW B M a b 9 := fun q => absurd (isW_dis (by decide) (by decide) c12 q) (by decide)
    obtain ⟨s9, i9⟩ := isw_not (w := 9) (by decide) t hg c9
    have c15 : ¬ isW B M a b 15 := fun q => absurd (isW_dis (by decide) (by decide) c12 q) (by decide)
    obtain ⟨s15, i15⟩ := isw_not (w := 15) (by decide) t hg c15
    have c10 : ¬ isW B M a b 10 := fun q => absurd (isW_dis (by decide) (by decide) c12 q) (by decide)
    obtain ⟨s10, i10⟩ := isw_not (w := 10) (by decide) t hg c10
    rw [s5, bd_some, q00, s12, bd_some, q10]
    rw [i5, bd_some, q00, i12, bd_some, q10]
    unfold jX8_readNext_59
    rw [q10]
    by_cases hc : M 14 10 < 5
    · obtain ⟨M1, L', Y', P', M', e1, e2, e3, e4⟩ := size_rd h hg t c12 hb hG h0 hc
      refine ⟨L', Y', P', M', by rw [e1, bd_some], ?_, e4⟩
      unfold jX8_readNext_69 jX8_readNext_90 jX8_readNext_111 jX8_readNext_137 jX8_readNext_157 jX8_readNext_178 jX8_readNext_204
      rw [i5, bd_some, q00, i9, bd_some, q00, i15, bd_some, q00, i12, bd_some, q10, lit (by decide), show ix 10 = 10 from by decide, bq_f (a := M 14 10) (b := 5) (by omega) (by omega) (by omega) (by omega) (by omega), i14, bd_some, q00, i10, bd_some, q00, good8 hg, bd_some, q10, takes_no (w := 5) (by decide) hg t c5, bd_some, q00, e2, bd_some, q10, e3, bd_some]
    · obtain ⟨L', M', e1, e2, e3, e4, e5, e6⟩ := note_ok 3 (by decide) h hg
      refine ⟨L', Y, P, M', ?_, ?_, Out.bad e3 e5 (by omega)⟩
      · unfold fX5_readSize
        rw [nm_e', hG.1.p11, bl_f (by omega) (by omega) (by omega), e1, bd_some, bd_some]
      · unfold jX8_readNext_69 jX8_readNext_90 jX8_readNext_111 jX8_readNext_137
        rw [i5, bd_some, q00, i9, bd_some, q00, i15, bd_some, q00, i12, bd_some, q10, lit (by decide), show ix 10 = 10 from by decide, bq_t (show M 14 10 = 5 by omega)]
        unfold jX8_readNext_199
        rw [e2, bd_some, n204_bad (by omega) (by omega) (by omega)]
  by_cases c14 : isW B M a b 14
  · skip
    obtain ⟨s5, i5⟩ := isw_not (w := 5) (by decide) t hg c5
    obtain ⟨s12, i12⟩ := isw_not (w := 12) (by decide) t hg c12
    obtain ⟨s14, i14⟩ := isw_yes (w := 14) (by decide) t hg c14
    have c9 : ¬ isW B M a b 9 := fun q => absurd (isW_dis (by decide) (by decide) c14 q) (by decide)
    obtain ⟨s9, i9⟩ := isw_not (w := 9) (by decide) t hg c9
    have c15 : ¬ isW B M a b 15 := fun q => absurd (isW_dis (by decide) (by decide) c14 q) (by decide)
    obtain ⟨s15, i15⟩ := isw_not (w := 15) (by decide) t hg c15
    have c10 : ¬ isW B M a b 10 := fun q => absurd (isW_dis (by decide) (by decide) c14 q) (by decide)
    obtain ⟨s10, i10⟩ := isw_not (w := 10) (by decide) t hg c10
    rw [s5, bd_some, q00, s12, bd_some, q00, s14, bd_some, q10]
    rw [i5, bd_some, q00, i12, bd_some, q00, i14, bd_some, q10]
    unfold jX8_readNext_59
    rw [q10]
    by_cases hc : M 14 11 < 8
    · obtain ⟨M1, L', Y', P', M', e1, e2, e3, e4⟩ := table_rd h hg t c14 hb hG h0 hc
      refine ⟨L', Y', P', M', by rw [e1, bd_some], ?_, e4⟩
      unfold jX8_readNext_69 jX8_readNext_90 jX8_readNext_111 jX8_readNext_137 jX8_readNext_157 jX8_readNext_178 jX8_readNext_204
      rw [i5, bd_some, q00, i9, bd_some, q00, i15, bd_some, q00, i12, bd_some, q00, i14, bd_some, q10, lit (by decide), show ix 11 = 11 from by decide, bq_f (a := M 14 11) (b := 8) (by omega) (by omega) (by omega) (by omega) (by omega), i10, bd_some, q00, good8 hg, bd_some, q10, takes_no (w := 5) (by decide) hg t c5, bd_some, q00, takes_no (w := 12) (by decide) hg t c12, bd_some, q00, e2, bd_some, q10, e3, bd_some]
    · obtain ⟨L', M', e1, e2, e3, e4, e5, e6⟩ := note_ok 3 (by decide) h hg
      refine ⟨L', Y, P, M', ?_, ?_, Out.bad e3 e5 (by omega)⟩
      · unfold fX5_readTable
        rw [nm_e', hG.1.p14, bl_f (by omega) (by omega) (by omega), e1, bd_some, bd_some]
      · unfold jX8_readNext_69 jX8_readNext_90 jX8_readNext_111 jX8_readNext_137 jX8_readNext_157
        rw [i5, bd_some, q00, i9, bd_some, q00, i15, bd_some, q00, i12, bd_some, q00, i14, bd_some, q10, lit (by decide), show ix 11 = 11 from by decide, bq_t (show M 14 11 = 8 by omega)]
        unfold jX8_readNext_199
        rw [e2, bd_some, n204_bad (by omega) (by omega) (by omega)]
  by_cases c9 : isW B M a b 9
  · skip
    obtain ⟨s5, i5⟩ := isw_not (w := 5) (by decide) t hg c5
    obtain ⟨s12, i12⟩ := isw_not (w := 12) (by decide) t hg c12
    obtain ⟨s14, i14⟩ := isw_not (w := 14) (by decide) t hg c14
    obtain ⟨s9, i9⟩ := isw_yes (w := 9) (by decide) t hg c9
    have c15 : ¬ isW B M a b 15 := fun q => absurd (isW_dis (by decide) (by decide) c9 q) (by decide)
    obtain ⟨s15, i15⟩ := isw_not (w := 15) (by decide) t hg c15
    have c10 : ¬ isW B M a b 10 := fun q => absurd (isW_dis (by decide) (by decide) c9 q) (by decide)
    obtain ⟨s10, i10⟩ := isw_not (w := 10) (by decide) t hg c10
    rw [s5, bd_some, q00, s12, bd_some, q00, s14, bd_some, q00, s9, bd_some, q10]
    rw [i5, bd_some, q00, i12, bd_some, q00, i14, bd_some, q00, i9, bd_some, q10]
    unfold jX8_readNext_59
    rw [q10]
    by_cases h7 : M 14 7 = -1
    · obtain ⟨M1, L', Y', P', M', e1, e2, e3, e4⟩ := road_rd h hg t c9 hb hG h0 h7
      refine ⟨L', Y', P', M', by rw [e1, bd_some], ?_, e4⟩
      unfold jX8_readNext_69 jX8_readNext_90 jX8_readNext_111 jX8_readNext_137 jX8_readNext_157 jX8_readNext_178 jX8_readNext_204
      rw [i5, bd_some, q00, i9, bd_some, q10, lit (i := 13) (by decide), show ix 13 = 13 from by decide, bt2, if_pos h7, bl_f (by decide) (by decide) (by decide), i15, bd_some, q00, i12, bd_some, q00, i14, bd_some, q00, i10, bd_some, q00, good8 hg, bd_some, q10, takes_no (w := 5) (by decide) hg t c5, bd_some, q00, takes_no (w := 12) (by decide) hg t c12, bd_some, q00, takes_no (w := 14) (by decide) hg t c14, bd_some, q00, takes_no (w := 10) (by decide) hg t c10, bd_some, q00, e2, bd_some, q10]
      exact e3
    · obtain ⟨L', M', e1, e2, e3, e4, e5, e6⟩ := note_ok 2 (by decide) h hg
      obtain ⟨P', k1⟩ := road_twice (by rw [hG.1.p7]; exact h7) (by rw [hG.1.p7]; omega) (by rw [hG.1.p7]; omega) (e1 P) (by rw [e3.1]; exact e6)
      refine ⟨L', Y, P', M', by rw [k1, bd_some], ?_, Out.bad e3 e5 (by omega)⟩
      unfold jX8_readNext_69 jX8_readNext_90
      rw [i5, bd_some, q00, i9, bd_some, q10, lit (by decide), show ix 13 = 13 from by decide, bt2, if_neg h7, bl_t (by decide) (by decide) (by decide)]
      unfold jX8_readNext_132
      rw [e2, bd_some, n137_bad (by omega) (by omega) (by omega)]
  by_cases c15 : isW B M a b 15
  · skip
    obtain ⟨s5, i5⟩ := isw_not (w := 5) (by decide) t hg c5
    obtain ⟨s12, i12⟩ := isw_not (w := 12) (by decide) t hg c12
    obtain ⟨s14, i14⟩ := isw_not (w := 14) (by decide) t hg c14
    obtain ⟨s9, i9⟩ := isw_not (w := 9) (by decide) t hg c9
    obtain ⟨s15, i15⟩ := isw_yes (w := 15) (by decide) t hg c15
    have c10 : ¬ isW B M a b 10 := fun q => absurd (isW_dis (by decide) (by decide) c15 q) (by decide)
    obtain ⟨s10, i10⟩ := isw_not (w := 10) (by decide) t hg c10
    rw [s5, bd_some, q00, s12, bd_some, q00, s14, bd_some, q00, s9, bd_some, q00, s15, bd_some, q10]
    rw [i5, bd_some, q00, i12, bd_some, q00, i14, bd_some, q00, i9, bd_some, q00, i15, bd_some, q10]
    unfold jX8_readNext_59
    rw [q10]
    rcases hl5 with h5 | h5
    · obtain ⟨L', Y', P', M', e1, e3, e4⟩ := vane_rd h hg t c15 hb hG h0 h5
      refine ⟨L', Y', P', M', by rw [e1, bd_some], ?_, e4⟩
      unfold jX8_readNext_69 jX8_readNext_90 jX8_readNext_111 jX8_readNext_137 jX8_readNext_157 jX8_readNext_178 jX8_readNext_204
      rw [i5, bd_some, q00, i9, bd_some, q00, i15, bd_some, q10, lit (i := 13) (by decide), show ix 13 = 13 from by decide, bt3, h5, be_t (by decide) (by decide) (by decide), i12, bd_some, q00, i14, bd_some, q00, i10, bd_some, q00, good8 hg, bd_some, q10, takes_no (w := 5) (by decide) hg t c5, bd_some, q00, takes_no (w := 12) (by decide) hg t c12, bd_some, q00, takes_no (w := 14) (by decide) hg t c14, bd_some, q00, takes_no (w := 10) (by decide) hg t c10, bd_some, q00, takes_no (w := 9) (by decide) hg t c9, bd_some, q00]
      exact e3
    · obtain ⟨L', M', e1, e2, e3, e4, e5, e6⟩ := note_ok 2 (by decide) h hg
      obtain ⟨P', k1⟩ := vane_twice h5 (e1 P) (by rw [e3.1]; exact e6)
      refine ⟨up2 L' 5 0 1, Y, P', M', by rw [k1, bd_some], ?_, Out.bad (e3.l (by decide)) e5 (by omega)⟩
      unfold jX8_readNext_69 jX8_readNext_90 jX8_readNext_111
      rw [i5, bd_some, q00, i9, bd_some, q00, i15, bd_some, q10, lit (by decide), show ix 13 = 13 from by decide, bt3, h5, be_f (by decide) (by decide) (by decide)]
      unfold jX8_readNext_132
      rw [e2, bd_some, n137_bad (by omega) (by omega) (by omega)]
  by_cases c10 : isW B M a b 10
  · skip
    obtain ⟨s5, i5⟩ := isw_not (w := 5) (by decide) t hg c5
    obtain ⟨s12, i12⟩ := isw_not (w := 12) (by decide) t hg c12
    obtain ⟨s14, i14⟩ := isw_not (w := 14) (by decide) t hg c14
    obtain ⟨s9, i9⟩ := isw_not (w := 9) (by decide) t hg c9
    obtain ⟨s15, i15⟩ := isw_not (w := 15) (by decide) t hg c15
    obtain ⟨s10, i10⟩ := isw_yes (w := 10) (by decide) t hg c10
    rw [s5, bd_some, q00, s12, bd_some, q00, s14, bd_some, q00, s9, bd_some, q00, s15, bd_some, q00, s10, bd_some, q10]
    rw [i5, bd_some, q00, i12, bd_some, q00, i14, bd_some, q00, i9, bd_some, q00, i15, bd_some, q00, i10, bd_some, q10]
    unfold jX8_readNext_59
    rw [q10]
    by_cases hc : M 14 12 < 6
    · obtain ⟨M1, L', Y', P', M', e1, e2, e3, e4⟩ := rule_rd h hg t c10 hb hG h0 hc
      refine ⟨L', Y', P', M', by rw [e1, bd_some], ?_, e4⟩
      unfold jX8_readNext_69 jX8_readNext_90 jX8_readNext_111 jX8_readNext_137 jX8_readNext_157 jX8_readNext_178 jX8_readNext_204
      rw [i5, bd_some, q00, i9, bd_some, q00, i15, bd_some, q00, i12, bd_some, q00, i14, bd_some, q00, i10, bd_some, q10, lit (by decide), show ix 12 = 12 from by decide, bq_f (a := M 14 12) (b := 6) (by omega) (by omega) (by omega) (by omega) (by omega), good8 hg, bd_some, q10, takes_no (w := 5) (by decide) hg t c5, bd_some, q00, takes_no (w := 12) (by decide) hg t c12, bd_some, q00, takes_no (w := 14) (by decide) hg t c14, bd_some, q00, e2, bd_some, q10, e3, bd_some]
    · obtain ⟨L', M', e1, e2, e3, e4, e5, e6⟩ := note_ok 3 (by decide) h hg
      refine ⟨L', Y, P, M', ?_, ?_, Out.bad e3 e5 (by omega)⟩
      · unfold fX5_readRule
        rw [hG.1.p18, bl_f (by omega) (by omega) (by omega), e1, bd_some, bd_some]
      · unfold jX8_readNext_69 jX8_readNext_90 jX8_readNext_111 jX8_readNext_137 jX8_readNext_157 jX8_readNext_178
        rw [i5, bd_some, q00, i9, bd_some, q00, i15, bd_some, q00, i12, bd_some, q00, i14, bd_some, q00, i10, bd_some, q10, lit (by decide), show ix 12 = 12 from by decide, bq_t (show M 14 12 = 6 by omega)]
        unfold jX8_readNext_199
        rw [e2, bd_some, n204_bad (by omega) (by omega) (by omega)]
  obtain ⟨s5, i5⟩ := isw_not (w := 5) (by decide) t hg c5
  obtain ⟨s12, i12⟩ := isw_not (w := 12) (by decide) t hg c12
  obtain ⟨s14, i14⟩ := isw_not (w := 14) (by decide) t hg c14
  obtain ⟨s9, i9⟩ := isw_not (w := 9) (by decide) t hg c9
  obtain ⟨s15, i15⟩ := isw_not (w := 15) (by decide) t hg c15
  obtain ⟨s10, i10⟩ := isw_not (w := 10) (by decide) t hg c10
  obtain ⟨L', M', e1, e2, e3, e4, e5, e6⟩ := note_ok 1 (by decide) h hg
  rw [s5, bd_some, q00, s12, bd_some, q00, s14, bd_some, q00, s9, bd_some, q00, s15, bd_some, q00, s10, bd_some, q00, e1, bd_some]
  rw [i5, bd_some, q00, i12, bd_some, q00, i14, bd_some, q00, i9, bd_some, q00, i15, bd_some, q00, i10, bd_some, q00]
  unfold jX8_readNext_59
  rw [q00, e2, bd_some, n69_bad (by omega) (by omega) (by omega)]
  exact ⟨L', Y, P, M', rfl, rfl, Out.bad e3 e5 (by omega)⟩
/-- the end of a line -/
def Lin (S : Nat) (B : Nat → Int) (Y M L' Y' P' M' : Ob) : Prop := St S B L' Y' M' ∧ FX M M' ∧ (M' 12 0 = 0 → Y 3 0 + 1 ≤ Y' 3 0 ∧ Y' 3 0 ≤ S ∧ M' 14 0 = M 14 0 + 1 ∧ (0 ≤ M 14 0 → M 14 0 + 1 ≤ 1600 → PB (M' 14) ∧ GI L' P' (M' 14)))
theorem sign_rd {L' Y' P' M' : Ob} (o : Out S B Y M L' Y' P' M') : ∃ L2 Y2 P2 M2, jX5_readLine_136 L' Y' P' = some (L2, Y2, P2) ∧ jX8_readLine_20 M' = some M2 ∧ Lin S B Y M L2 Y2 P2 M2 := by
  obtain ⟨h, f, g⟩ := o
  have hr := h.2.2.1
  have n40 : ∀ X : Ob, X 12 0 ≠ 0 → 0 ≤ X 12 0 → X 12 0 ≤ 3 → jX8_readLine_40 X = some (up2 X 14 0 (X 14 0 + 1)) := fun X h1 h2 h3 => by
    unfold jX8_readLine_40 jX8_readLine_51
    rw [bad8 h1 h2 h3, bd_some, q00, lit (by decide), lit (by decide), nm_e', show ix 0 = 0 from by decide]
  unfold jX5_readLine_136 fX5_readSign jX8_readLine_20
  by_cases hg : M' 12 0 = 0
  · obtain ⟨a, b, t⟩ := h.2.2.2 hg
    have hk := t.2.2.2.2.2.2.1
    obtain ⟨g1, g2, g3, g4⟩ := g hg
    rw [h.1, bq_t hg, good8 hg, bd_some, q10, t.2.1]
    by_cases c3 : M' 10 0 = 3
    · obtain ⟨Y2, M2, e1, e2, e3, e4, e5, e6, e7, e8, e9⟩ := go_ok h hg
      have q8 := e8 (by omega)
      rw [bq_t c3, bq_t c3, nm_e', e1, bd_some, bd_some]
      unfold jX8_readLine_40 jX8_readLine_51
      rw [good8 hg, bd_some, q10, e2, bd_some, lit (by decide), lit (by decide), nm_e', show ix 0 = 0 from by decide]
      have m2 : M2 14 = M' 14 := e4 14 (by decide)
      refine ⟨_, _, _, _, rfl, rfl, e3.m14, (f.trans e4.fx).trans FX.u, fun _ => ⟨by show Y 3 0 + 1 ≤ Y2 3 0; omega, e9, ?_, fun k1 k2 => ?_⟩⟩
      · rw [up2_14, up1_s, m2, g2]
      · rw [up2_14, m2, g2]
        show PB (up1 (M' 14) 0 (M 14 0 + 1)) ∧ GI L' (up2 P' 0 0 (P' 0 0 + 1)) (up1 (M' 14) 0 (M 14 0 + 1))
        rw [g3]
        exact g4 _ (by omega) k2
    · obtain ⟨L2, M2, e1, e2, e3, e4, e5, e6⟩ := note_ok 1 (by decide) h hg
      rw [bq_f c3 (by omega) (by omega) (by omega) (by omega), bq_f c3 (by omega) (by omega) (by omega) (by omega), e1, bd_some, bd_some, e2, bd_some, n40 M2 (by omega) (by omega) (by omega)]
      refine ⟨_, _, _, _, rfl, rfl, e3.m14, (f.trans e5.fx).trans FX.u, fun q => ?_⟩
      rw [up2_n (by decide)] at q
      omega
  · rw [h.1, bq_f hg (by omega) (by omega) (by omega) (by omega), bd_some, bad8 hg hr.1 hr.2, bd_some, q00, n40 M' hg hr.1 hr.2]
    refine ⟨_, _, _, _, rfl, rfl, h.m14, f.trans FX.u, fun q => ?_⟩
    rw [up2_n (by decide)] at q
    exact absurd q hg
theorem line_rd (h : St S B L Y M) (hg : M 12 0 = 0) (hb : PB (M 14)) (hG : GI L P (M 14)) : ∃ L2 Y2 P2 M2, fX5_readLine L Y P = some (L2, Y2, P2) ∧ fX8_readLine M = some M2 ∧ Lin S B Y M L2 Y2 P2 M2 := by
  have b0 := hb.b0
  by_cases h0 : M 14 0 = 0
  · obtain ⟨L', Y', P', M', e1, e2, e3⟩ := square_rd h hb hG h0
    obtain ⟨L2, Y2, P2, M2, f1, f2, f3⟩ := sign_rd e3
    refine ⟨L2, Y2, P2, M2, ?_, ?_, f3⟩
    · unfold fX5_readLine
      rw [hG.1.p0, bq_t h0, e1, bd_some]
      exact f1
    · unfold fX8_readLine
      rw [lit (by decide), show ix 0 = 0 from by decide, bq_t h0, e2, bd_some]
      exact f2
  · obtain ⟨L', Y', P', M', e1, e2, e3⟩ := next_rd h hg hb hG h0
    obtain ⟨L2, Y2, P2, M2, f1, f2, f3⟩ := sign_rd e3
    refine ⟨L2, Y2, P2, M2, by rw [e1]; exact f1, ?_, f3⟩
    unfold fX8_readLine
    rw [lit (by decide), show ix 0 = 0 from by decide, bq_f h0 (by omega) (by omega) (by omega) (by omega), e2, bd_some]
    exact f2
end
