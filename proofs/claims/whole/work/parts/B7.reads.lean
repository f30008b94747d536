/-! LAYER 2: what is told: words and numbers, good or at fault -/
def St (S : Nat) (B : Nat → Int) (L Y M : Ob) : Prop := L 2 0 = M 12 0 ∧ L 3 0 = M 13 0 ∧ (0 ≤ M 12 0 ∧ M 12 0 ≤ 3) ∧ (M 12 0 = 0 → ∃ a b : Nat, TK S B Y M a b)
def FL (L L' : Ob) : Prop := ∀ j, j ≠ 2 → j ≠ 3 → L' j = L j
def FM (M M' : Ob) : Prop := ∀ j, j < 8 ∨ 13 < j → M' j = M j
section
variable {S : Nat} {B : Nat → Int} {L Y M L1 Y1 M1 L2 Y2 M2 : Ob} {a b : Nat}
theorem FL.refl (L : Ob) : FL L L := fun _ _ _ => rfl
theorem FM.refl (M : Ob) : FM M M := fun _ _ => rfl
theorem FL.trans (h : FL L L1) (h2 : FL L1 L2) : FL L L2 := fun j a b => by rw [h2 j a b, h j a b]
theorem FM.trans (h : FM M M1) (h2 : FM M1 M2) : FM M M2 := fun j a => by rw [h2 j a, h j a]
theorem TK.c (h : TK S B Y M a b) (h4 : M1 4 = M 4) (hj : ∀ j, 7 ≤ j → j ≤ 11 → M1 j = M j) : TK S B Y M1 a b := by
  unfold TK
  rw [hj 8 (by decide) (by decide), hj 9 (by decide) (by decide), hj 10 (by decide) (by decide), hj 11 (by decide) (by decide)]
  exact ⟨h.1.c rfl rfl h4 (hj 7 (by decide) (by decide)), h.2⟩
theorem St.c (h : St S B L Y M) (h2 : L1 2 = L 2) (h3 : L1 3 = L 3) (h4 : M1 4 = M 4) (hj : ∀ j, 7 ≤ j → j ≤ 13 → M1 j = M j) : St S B L1 Y M1 := by
  unfold St
  rw [h2, h3, hj 12 (by decide) (by decide), hj 13 (by decide) (by decide)]
  refine ⟨h.1, h.2.1, h.2.2.1, fun q => ?_⟩
  obtain ⟨a, b, t⟩ := h.2.2.2 q
  exact ⟨a, b, t.c h4 (fun j h1 h2 => hj j h1 (by omega))⟩
theorem St.m14 (h : St S B L Y M) {i : Nat} {v : Int} : St S B L Y (up2 M 14 i v) := h.c rfl rfl (up2_n (by decide)) (fun j h1 h2 => up2_n (by omega))
theorem St.l {i j : Nat} {v : Int} (h : St S B L Y M) (hi : 4 ≤ i) : St S B (up2 L i j v) Y M := h.c (up2_n (by omega)) (up2_n (by omega)) rfl (fun _ _ _ => rfl)
theorem good8 (h : M 12 0 = 0) : fX8_good M = some 1 := by unfold fX8_good; rw [bq_t h]
theorem bad8 (h : M 12 0 ≠ 0) (h0 : 0 ≤ M 12 0) (h1 : M 12 0 ≤ 3) : fX8_good M = some 0 := by unfold fX8_good; rw [bq_f h (by omega) (by omega) (by omega) (by omega)]
theorem errs_bad {k : Int} (h : M 12 0 ≠ 0) (h0 : 0 ≤ M 12 0) (h1 : M 12 0 ≤ 3) : fX8_errs M k = some M := by
  unfold fX8_errs
  rw [bad8 h h0 h1, bd_some, bq_t rfl]
theorem note_bad {k : Int} {P : Ob} (h : L 2 0 ≠ 0) (h0 : 0 ≤ L 2 0) (h1 : L 2 0 ≤ 3) : fX5_note L Y P k = some L := by
  unfold fX5_note
  rw [bq_f h (by omega) (by omega) (by omega) (by omega)]
/-- a fault is noted -/
theorem note_ok (k : Int) (hk : 1 ≤ k ∧ k ≤ 3) (h : St S B L Y M) (hg : M 12 0 = 0) : ∃ L' M', (∀ P, fX5_note L Y P k = some L') ∧ fX8_errs M k = some M' ∧ St S B L' Y M' ∧ FL L L' ∧ FM M M' ∧ M' 12 0 = k := by
  obtain ⟨a, b, t⟩ := h.2.2.2 hg
  refine ⟨up2 (up2 L 2 0 k) 3 0 (Y 3 0), up2 (up2 M 12 0 k) 13 0 (M 9 0), fun P => ?_, ?_, ⟨?_, ?_, ?_, ?_⟩, ?_, ?_, ?_⟩
  · unfold fX5_note
    rw [h.1, bq_t hg, nm_e', nm_e']
  · unfold fX8_errs
    rw [good8 hg, bd_some, bq_f (a := 1) (b := 0) (by decide) (by decide) (by decide) (by decide) (by decide), nm_e', nm_e', up2_n (show 9 ≠ 12 by decide)]
  · rw [up2_n (by decide), up2_s, up1_s, up2_n (by decide), up2_s, up1_s]
  · rw [up2_s, up1_s, up2_s, up1_s, t.2.2.1.1, t.2.2.1.2]
  · rw [up2_n (by decide), up2_s, up1_s]; omega
  · intro q
    rw [up2_n (by decide), up2_s, up1_s] at q
    omega
  · intro j h1 h2
    rw [up2_n h2, up2_n h1]
  · intro j h1
    rw [up2_n (by omega), up2_n (by omega)]
  · rw [up2_n (by decide), up2_s, up1_s]
theorem word_bad {w : Nat} {P : Ob} (h : L 2 0 ≠ 0) (h0 : 0 ≤ L 2 0) (h1 : L 2 0 ≤ 3) : fX5_readWord L Y P w = some (L, Y) := by
  unfold fX5_readWord
  rw [bq_f h (by omega) (by omega) (by omega) (by omega)]
theorem number_bad {lo hi : Int} {P : Ob} (h : L 2 0 ≠ 0) (h0 : 0 ≤ L 2 0) (h1 : L 2 0 ≤ 3) : fX5_readNumber L Y P lo hi = some (0, L, Y) := by
  unfold fX5_readNumber
  rw [bq_f h (by omega) (by omega) (by omega) (by omega)]
theorem is_bad {w : Nat} (hw : w < 18) (h : M 12 0 ≠ 0) (h0 : 0 ≤ M 12 0) (h1 : M 12 0 ≤ 3) : fX8_is M w = some 0 := by
  unfold fX8_is
  rw [bad8 h h0 h1, bd_some, bq_t rfl]
  exact is_no hw 4999 (by decide) (by decide)
/-- a step in a good state -/
theorem go_ok (h : St S B L Y M) (hg : M 12 0 = 0) : ∃ Y' M', fX4_step Y = some Y' ∧ fX8_advance M = some M' ∧ St S B L Y' M' ∧ FM M M' ∧ M' 12 0 = 0 ∧ Y 4 0 ≤ Y' 3 0 ∧ Y 3 0 ≤ Y' 3 0 ∧ (M 10 0 ≠ 0 → Y 3 0 + 1 ≤ Y' 3 0) ∧ Y' 3 0 ≤ S := by
  obtain ⟨a, b, t⟩ := h.2.2.2 hg
  have t' := t
  obtain ⟨hB, hy2, ⟨hy3, hm9⟩, ⟨hy4, hm8⟩, hab, hbS, hk, k0, k1, _⟩ := t'
  obtain ⟨Y', M', a', b', e1, e2, e3, e4, e5⟩ := tok_ok hB hy4 hm8 hbS
  have f3 := e3.2.2.1.1
  have f4 := e3.2.2.2.2.1
  have f5 := e3.2.2.2.2.2.1
  refine ⟨Y', M', e1, e2, ⟨?_, ?_, ?_, fun _ => ⟨a', b', e3⟩⟩, fun j hj => e5 j (by omega), ?_, ?_, ?_, ?_, ?_⟩
  · rw [e5 12 (by decide)]; exact h.1
  · rw [e5 13 (by decide)]; exact h.2.1
  · rw [e5 12 (by decide)]; exact h.2.2.1
  · rw [e5 12 (by decide)]; exact hg
  · rw [hy4, f3]; omega
  · rw [hy3, f3]; omega
  · intro q
    have := k1 q
    rw [hy3, f3]; omega
  · rw [f3]; omega
/-- a word is asked for -/
theorem word_rd {w : Nat} (hw : w < 18) (h : St S B L Y M) : ∃ L' Y' M', (∀ P, fX5_readWord L Y P w = some (L', Y')) ∧ fX8_needs M w = some M' ∧ St S B L' Y' M' ∧ FL L L' ∧ FM M M' ∧ (M' 12 0 = 0 → M 12 0 = 0 ∧ Y 3 0 ≤ Y' 3 0 ∧ L' = L) := by
  have hr := h.2.2.1
  by_cases hg : M 12 0 = 0
  · obtain ⟨a, b, t⟩ := h.2.2.2 hg
    obtain ⟨r, r1, r2, r3⟩ := isw hw t hg
    rcases r3 with ⟨rfl, r3⟩ | ⟨rfl, r3⟩
    · obtain ⟨Y', M', e1, e2, e3, e4, e5, e6, e7, e8, e9⟩ := go_ok h hg
      refine ⟨L, Y', M', fun P => ?_, ?_, e3, FL.refl L, e4, fun _ => ⟨hg, e7, rfl⟩⟩
      · unfold fX5_readWord
        rw [h.1, bq_t hg, r1, bd_some, bq_f (a := 1) (b := 0) (by decide) (by decide) (by decide) (by decide) (by decide), e1, bd_some]
      · unfold fX8_needs fX8_takes
        rw [r2, bd_some, bq_f (a := 1) (b := 0) (by decide) (by decide) (by decide) (by decide) (by decide), e2, bd_some, gd_t (by decide), bd_some, bq_f (a := 1) (b := 0) (by decide) (by decide) (by decide) (by decide) (by decide)]
    · obtain ⟨L', M', e1, e2, e3, e4, e5, e6⟩ := note_ok 1 (by decide) h hg
      refine ⟨L', Y, M', fun P => ?_, ?_, e3, e4, e5, fun q => by omega⟩
      · unfold fX5_readWord
        rw [h.1, bq_t hg, r1, bd_some, bq_t rfl, e1, bd_some]
      · unfold fX8_needs fX8_takes
        rw [r2, bd_some, bq_t rfl, gd_t (by decide), bd_some, bq_t rfl, e2, bd_some]
  · refine ⟨L, Y, M, fun P => word_bad (by rw [h.1]; exact hg) (by rw [h.1]; omega) (by rw [h.1]; omega), ?_, h, FL.refl L, FM.refl M, fun q => absurd q hg⟩
    unfold fX8_needs fX8_takes
    rw [is_bad hw hg hr.1 hr.2, bd_some, bq_t rfl, gd_t (by decide), bd_some, bq_t rfl, errs_bad hg hr.1 hr.2, bd_some]
/-- a number is asked for -/
theorem num_rd {lo hi : Int} (hl : 0 ≤ lo) (hl2 : lo ≤ 1000) (hh : -1 ≤ hi) (hh2 : hi ≤ 1000) (h : St S B L Y M) : ∃ v7 v8 L' Y' M', (∀ P, fX5_readNumber L Y P lo hi = some (v7, L', Y')) ∧ fX8_number M lo hi = some (v8, M') ∧ St S B L' Y' M' ∧ FL L L' ∧ FM M M' ∧ (0 ≤ v7 ∧ v7 ≤ 1000000) ∧ (M' 12 0 = 0 → M 12 0 = 0 ∧ Y 3 0 ≤ Y' 3 0 ∧ L' = L ∧ v7 = v8 ∧ lo ≤ v8 ∧ v8 ≤ hi) := by
  have hr := h.2.2.1
  have n47 : ∀ M' : Ob, M' 12 0 ≠ 0 → 0 ≤ M' 12 0 → M' 12 0 ≤ 3 → jX8_number_47 M' = some (0, M') := fun M' q0 q1 q2 => by
    unfold jX8_number_47
    rw [bad8 q0 q1 q2, bd_some, bq_t rfl]
  have n20 : ∀ M' : Ob, M' 12 0 ≠ 0 → 0 ≤ M' 12 0 → M' 12 0 ≤ 3 → jX8_number_20 M' lo hi = some (0, M') := fun M' q0 q1 q2 => by
    unfold jX8_number_20
    rw [bad8 q0 q1 q2, bd_some, bq_t rfl, n47 M' q0 q1 q2]
  by_cases hg : M 12 0 = 0
  · obtain ⟨a, b, t⟩ := h.2.2.2 hg
    have hk := t.2.2.2.2.2.2.1
    by_cases c2 : M 10 0 = 2
    · obtain ⟨v, v1, v2, v3, v4⟩ := tval_ok t c2
      by_cases c3 : lo ≤ v ∧ v ≤ hi
      · obtain ⟨Y', M', e1, e2, e3, e4, e5, e6, e7, e8, e9⟩ := go_ok h hg
        refine ⟨v, M 11 0, L, Y', M', fun P => ?_, ?_, e3, FL.refl L, e4, ⟨v3, v4⟩, fun _ => ⟨hg, e7, rfl, by omega, by omega, by omega⟩⟩
        · unfold fX5_readNumber
          rw [h.1, bq_t hg, t.2.1, bq_t c2, v1, bd_some, within7r ⟨by omega, by omega⟩ ⟨by omega, by omega⟩ ⟨by omega, by omega⟩, bd_some, bq_ite, if_pos c3, e1, bd_some]
        · unfold fX8_number jX8_number_20 jX8_number_47
          rw [good8 hg, bd_some, bq_f (a := 1) (b := 0) (by decide) (by decide) (by decide) (by decide) (by decide), bq_t c2, bd_some, bq_f (a := 1) (b := 0) (by decide) (by decide) (by decide) (by decide) (by decide), jwl_e (a := lo) (by omega) (by omega), in8w ⟨by omega, by omega⟩ ⟨by omega, by omega⟩ ⟨by omega, by omega⟩, bd_some, bq_ite, if_pos (by omega), bd_some, bq_f (a := 1) (b := 0) (by decide) (by decide) (by decide) (by decide) (by decide), nm_e', e2, bd_some]
      · obtain ⟨L', M', e1, e2, e3, e4, e5, e6⟩ := note_ok 2 (by decide) h hg
        refine ⟨v, 0, L', Y, M', fun P => ?_, ?_, e3, e4, e5, ⟨v3, v4⟩, fun q => by omega⟩
        · unfold fX5_readNumber
          rw [h.1, bq_t hg, t.2.1, bq_t c2, v1, bd_some, within7r ⟨by omega, by omega⟩ ⟨by omega, by omega⟩ ⟨by omega, by omega⟩, bd_some, bq_ite, if_neg c3, e1, bd_some]
        · unfold fX8_number jX8_number_20
          rw [good8 hg, bd_some, bq_f (a := 1) (b := 0) (by decide) (by decide) (by decide) (by decide) (by decide), bq_t c2, bd_some, bq_f (a := 1) (b := 0) (by decide) (by decide) (by decide) (by decide) (by decide), jwl_e (a := lo) (by omega) (by omega), in8w ⟨by omega, by omega⟩ ⟨by omega, by omega⟩ ⟨by omega, by omega⟩, bd_some, bq_ite, if_neg (by omega), e2, bd_some, n47 M' (by omega) (by omega) (by omega)]
    · obtain ⟨L', M', e1, e2, e3, e4, e5, e6⟩ := note_ok 1 (by decide) h hg
      refine ⟨0, 0, L', Y, M', fun P => ?_, ?_, e3, e4, e5, ⟨by decide, by decide⟩, fun q => by omega⟩
      · unfold fX5_readNumber
        rw [h.1, bq_t hg, t.2.1, bq_f c2 (by omega) (by omega) (by omega) (by omega), e1, bd_some]
      · unfold fX8_number
        rw [good8 hg, bd_some, bq_f (a := 1) (b := 0) (by decide) (by decide) (by decide) (by decide) (by decide), bq_f c2 (by omega) (by omega) (by omega) (by omega), e2, bd_some, n20 M' (by omega) (by omega) (by omega)]
  · refine ⟨0, 0, L, Y, M, fun P => number_bad (by rw [h.1]; exact hg) (by rw [h.1]; omega) (by rw [h.1]; omega), ?_, h, FL.refl L, FM.refl M, ⟨by decide, by decide⟩, fun q => absurd q hg⟩
    unfold fX8_number
    rw [bad8 hg hr.1 hr.2, bd_some, bq_t rfl, n20 M hg hr.1 hr.2]
/-- a word and a number -/
theorem told_rd {w : Nat} {lo hi : Int} (hw : w < 18) (hl : 0 ≤ lo) (hl2 : lo ≤ 1000) (hh : -1 ≤ hi) (hh2 : hi ≤ 1000) (h : St S B L Y M) : ∃ L1 Y1 v7 v8 L' Y' M', (∀ P, fX5_readWord L Y P w = some (L1, Y1)) ∧ (∀ P, fX5_readNumber L1 Y1 P lo hi = some (v7, L', Y')) ∧ fX8_told M w lo hi = some (v8, M') ∧ St S B L' Y' M' ∧ FL L L' ∧ FM M M' ∧ (0 ≤ v7 ∧ v7 ≤ 1000000) ∧ (M' 12 0 = 0 → M 12 0 = 0 ∧ Y 3 0 ≤ Y' 3 0 ∧ L' = L ∧ v7 = v8 ∧ lo ≤ v8 ∧ v8 ≤ hi) := by
  obtain ⟨L1, Y1, M1, a1, a2, a3, a4, a5, a6⟩ := word_rd hw h
  obtain ⟨v7, v8, L', Y', M', b1, b2, b3, b4, b5, b6, b7⟩ := num_rd hl hl2 hh hh2 a3
  refine ⟨L1, Y1, v7, v8, L', Y', M', a1, b1, ?_, b3, a4.trans b4, a5.trans b5, b6, fun q => ?_⟩
  · unfold fX8_told
    rw [a2, bd_some, b2, bd_some]
  · obtain ⟨c1, c2, c3, c4⟩ := b7 q
    obtain ⟨d1, d2, d3⟩ := a6 c1
    exact ⟨d1, by omega, by rw [c3, d3], c4⟩
end
