/-! LAYER 2: a beat keeps the class and the model together, whole -/
theorem playWind7 {P A : Ob} {w : Nat → Int} {B v : Int} {N : Nat} (h : WR P A w B) (hB : B ≤ 300000) (hN : w 14 = (N : Int)) (h23 : w 23 = 0) (hv : 0 ≤ v) (hv2 : v ≤ 39) :
    ∃ A', fX3_playWind P A v = some (dD w v N 19 + dD w v N 20, A') ∧ Tw (upA (cadd (cdr A w v) (fun k => cS (cdr A w v) w N 11 k)) 9 (zz (cdr A w v) N 11)) w v N (hG w v N) A' := by
  have hb := h.pb; have hp := h.pr; have har := h.ar; have hab := h.ab
  have hn := hab.beats
  have hbk := wr_bok h hB hN (Or.inl h23)
  have hc9 : cdr A w v 9 = A 9 := cdr_n (by decide) (by decide)
  have h9 : ∀ i, i < 32 → 0 ≤ cdr A w v 9 i ∧ cdr A w v 9 i ≤ 11 := fun i hi => by
    rw [hc9]
    by_cases c : i < N
    · obtain ⟨b, hb1, rfl⟩ := ring_b hN hi c
      exact har.pace b hb1
    · rw [har.free i hi (by omega)]; omega
  have hc : ∀ i, i < 32 → 0 < cdr A w v 9 i → cok (cdr A w v) w i := fun i hi hpos => by
    rw [hc9] at hpos
    by_cases c : i < N
    · obtain ⟨b, hb1, rfl⟩ := ring_b hN hi c
      have hu := har.up b hb1 hpos
      have hpc := har.pace b hb1
      unfold cok
      rw [cdr_n (show 10 ≠ 12 by decide) (by decide), cdr_n (show 11 ≠ 12 by decide) (by decide), hu.2.2.1, hu.2.2.2.1]
      refine ⟨by omega, by omega, fun s hs => ?_⟩
      rw [cdr_12 hs, cdr_13 hs, cdr_n (show 14 ≠ 12 by decide) (by decide), cdr_n (show 15 ≠ 12 by decide) (by decide)]
      have hd := har.drift b hb1 hpos s hs
      have hdb := har.driftB b hb1 hpos s hs
      obtain ⟨t1, t2, -, -⟩ := hb.size s hs
      have e1 := mul_b t1 t2 (vE_b hv hv2).1 (vE_b hv hv2).2
      have e2 := mul_b t1 t2 (vS_b hv hv2).1 (vS_b hv hv2).2
      omega
    · rw [har.free i hi (by omega)] at hpos
      exact absurd hpos (by decide)
  have hL := land_loop (a := v) (b := A 5 0 + A 6 0) (kx := fun A_7 => bd (fX0_throwLump A_7 P v) (fun rr_8 => some ((((rr_8 5 0) + (rr_8 6 0)) - (A 5 0 + A 6 0)), rr_8))) hb hp (show cdr A w v 0 0 = (N : Int) from by rw [cdr_n (by decide) (by decide), har.a0, hN]) (by omega) h9 hc FU 0 (by decide) (by show _ < 5000; decide)
  rw [show (upA (cadd (cdr A w v) (fun k => cS (cdr A w v) w N 0 k)) 9 (zz (cdr A w v) N 0)) = cdr A w v from by
    rw [show cadd (cdr A w v) (fun k => cS (cdr A w v) w N 0 k) = cdr A w v from cadd_0 (fun k => rfl)]
    exact upA_self, show (((0 : Nat) : Int) + 1) = 1 from rfl] at hL
  generalize hBB : upA (cadd (cdr A w v) (fun k => cS (cdr A w v) w N 11 k)) 9 (zz (cdr A w v) N 11) = BB at *
  have hBn : ∀ j, j ≠ 4 → j ≠ 5 → j ≠ 6 → j ≠ 16 → j ≠ 9 → j ≠ 12 → j ≠ 13 → BB j = A j := fun j a1 a2 a3 a4 a5 a6 a7 => by rw [← hBB, upA_n a5, cadd_n a1 a2 a3 a4, cdr_n a6 a7]
  obtain ⟨A', e1, e2⟩ := throwLump7 (B := BB) hb hp hbk h23 hv hv2 (by rw [hBn 0 (by decide) (by decide) (by decide) (by decide) (by decide) (by decide) (by decide), har.a0, hN]) (by rw [hBn 1 (by decide) (by decide) (by decide) (by decide) (by decide) (by decide) (by decide), har.a1]) (fun b h1 h2 h3 => by
    rw [hBn 8 (by decide) (by decide) (by decide) (by decide) (by decide) (by decide) (by decide)]
    exact har.wind b ⟨h1, by omega, by omega⟩)
  refine ⟨A', ?_, e2⟩
  unfold fX3_playWind
  rw [nm_e', driftAll7 hb hp hv hv2, bd_some]
  rw [hL, e1, bd_some]
  have h5 : A' 5 0 = A 5 0 + dD w v N 19 := by
    rw [e2.2.2.1.2.1, ← hBB, upA_n (by decide), cadd_5, cdr_n (by decide) (by decide), sums_eq h hB hN hv hv2 (by omega)]
  have h6 : A' 6 0 = A 6 0 + dD w v N 20 := by
    rw [e2.2.2.1.2.2.1, ← hBB, upA_n (by decide), cadd_6, cdr_n (by decide) (by decide), sums_eq h hB hN hv hv2 (by omega)]
  rw [h5, h6]
  refine congrArg some (Prod.ext ?_ rfl)
  show A 5 0 + dD w v N 19 + (A 6 0 + dD w v N 20) - (A 5 0 + A 6 0) = _
  omega
theorem wind_ok {P A : Ob} {w : Nat → Int} {B v : Int} {N : Nat} (h : WR P A w B) (hB : B ≤ 300000) (hN : w 14 = (N : Int)) (h23 : w 23 = 0) (hv : 0 ≤ v) (hv2 : v ≤ 39) :
    ∃ A', fX3_playWind P A v = some (dD w v N 19 + dD w v N 20, A') ∧ WR P A' (bw w v N) (B + 1) ∧ (w 22 = -1 → A' 3 0 = bw w v N 17) := by
  obtain ⟨A', hpw, ht⟩ := playWind7 h hB hN h23 hv hv2
  refine ⟨A', hpw, ?_, ?_⟩
  rotate_left
  · intro c
    rw [ht.1.2.2.2.1, bw_17]
    unfold snG
    rw [if_pos (Or.inl c)]
  have hb := h.pb; have hp := h.pr; have har := h.ar; have hab := h.ab
  have hn := hab.beats
  have b10 := hb.b10; have b3 := hb.b3; have b4 := hb.b4
  have hbk := wr_bok h hB hN (Or.inl h23)
  have hg := hG_b (v := v) hbk
  have hpcn := pcB hg.1 hg.2
  have hpl : Pl (bw w v N) w := bw_pl hb
  have hsb := shS_b hb
  generalize hBB : upA (cadd (cdr A w v) (fun k => cS (cdr A w v) w N 11 k)) 9 (zz (cdr A w v) N 11) = BB at *
  have hBn : ∀ j, j ≠ 4 → j ≠ 5 → j ≠ 6 → j ≠ 16 → j ≠ 9 → j ≠ 12 → j ≠ 13 → BB j = A j := fun j a1 a2 a3 a4 a5 a6 a7 => by rw [← hBB, upA_n a5, cadd_n a1 a2 a3 a4, cdr_n a6 a7]
  obtain ⟨⟨t0, t1, t2, t3, t7⟩, ⟨t8, t9, t10, t11⟩, ⟨t4, t5, t6, t12, t13, t16⟩, t14, t15⟩ := ht
  have c18 : A' 4 0 = w 18 + dD w v N 18 := by rw [t4, ← hBB, upA_n (by decide), cadd_4, cdr_n (by decide) (by decide), sums_eq h hB hN hv hv2 (by omega), har.a4]
  have c19 : A' 5 0 = w 19 + dD w v N 19 := by rw [t5, ← hBB, upA_n (by decide), cadd_5, cdr_n (by decide) (by decide), sums_eq h hB hN hv hv2 (by omega), har.a5]
  have c20 : A' 6 0 = w 20 + dD w v N 20 := by rw [t6, ← hBB, upA_n (by decide), cadd_6, cdr_n (by decide) (by decide), sums_eq h hB hN hv hv2 (by omega), har.a6]
  have c16 : ∀ c : Nat, c < 900 → A' 16 c = w (519 + c) + dD w v N (519 + c) := fun c hc => by rw [t16, ← hBB, upA_n (by decide), cadd_16, cdr_n (by decide) (by decide), sums_eq h hB hN hv hv2 (by omega), har.wet c hc]
  have c9 : BB 9 = zz (cdr A w v) N 11 := by rw [← hBB, upA_s]
  have cdr9 : cdr A w v 9 = A 9 := cdr_n (by decide) (by decide)
  have c12 : ∀ s : Nat, (s : Int) < w 10 → A' 12 s = A 12 s + w (25 + 2 * s) * vE v := fun s hs => by rw [t12, ← hBB, upA_n (by decide), cadd_n (by decide) (by decide) (by decide) (by decide), cdr_12 hs]
  have c13 : ∀ s : Nat, (s : Int) < w 10 → A' 13 s = A 13 s + w (25 + 2 * s) * vS v := fun s hs => by rw [t13, ← hBB, upA_n (by decide), cadd_n (by decide) (by decide) (by decide) (by decide), cdr_13 hs]
  have c7 : A' 7 0 = w 21 + (if hG w v N ≤ 0 then 0 else shS w) := by rw [t7, hBn 7 (by decide) (by decide) (by decide) (by decide) (by decide) (by decide) (by decide), har.a7]
  -- the paces of old lumps
  have zold : ∀ b : Nat, inW w b → (zz (cdr A w v) N 11 (rg b) = 0 ∧ (A 9 (rg b) = 0 ∨ w (lm b) = (N : Int) + 1)) ∨ (zz (cdr A w v) N 11 (rg b) = A 9 (rg b) ∧ (0 < A 9 (rg b) → w (lm b) ≠ (N : Int) + 1)) := fun b hi => by
    have hpc := har.pace b hi
    have hi1 := hi.1; have hi2 := hi.2.1; have hi3 := hi.2.2
    by_cases ca : 0 < A 9 (rg b)
    · have hu := har.up b hi ca
      by_cases cb : w (lm b) = (N : Int) + 1
      · left
        obtain ⟨q, hq⟩ : ∃ q : Nat, A 9 (rg b) = (q : Int) := ⟨(A 9 (rg b)).toNat, by omega⟩
        have h1 := hu.1
        rw [hq] at h1
        exact ⟨zz_0 (q := q) (by omega) (by unfold rg rq; omega) (by rw [cdr9]; exact hq) 11 (by omega) (by omega), Or.inr cb⟩
      · right
        refine ⟨?_, fun _ => cb⟩
        rw [zz_n 11 (fun q q1 q2 q3 hne => ?_), cdr9]
        rw [cdr9, ← hne] at q3
        apply cb
        have hx : (b + 31) % 32 = (N + 32 - 2 * q) % 32 := hne
        have : w (lm b) = b + 2 * (q : Int) := by rw [hu.1, q3]
        omega
    · have h0 : A 9 (rg b) = 0 := by omega
      left
      refine ⟨?_, Or.inl h0⟩
      rw [zz_n 11 (fun q q1 q2 q3 hne => ?_), cdr9, h0]
      rw [cdr9, ← hne, h0] at q3
      omega
  have znn : ∀ i, i < 32 → zz (cdr A w v) N 11 i = 0 ∨ zz (cdr A w v) N 11 i = A 9 i := fun i hi => by
    by_cases c : i < N
    · obtain ⟨b, hb1, rfl⟩ := ring_b hN hi c
      rcases zold b hb1 with ⟨z, -⟩ | ⟨z, -⟩
      · exact Or.inl z
      · exact Or.inr z
    · have h0 := har.free i hi (by omega)
      right
      rw [zz_n 11 (fun q q1 q2 q3 hne => ?_), cdr9]
      rw [cdr9, ← hne, h0] at q3
      omega
  have inold : ∀ b : Nat, inW (bw w v N) b → b ≠ N + 1 → inW w b ∧ fB N ≤ b ∧ b ≤ N ∧ N < b + 31 ∧ rg b ≠ N % 32 := fun b hi hne => by
    have h1 := hi.1; have h2 := hi.2.1; have h3 := hi.2.2
    rw [bw_14] at h2 h3
    exact ⟨⟨h1, by omega, by omega⟩, by unfold fB; split <;> omega, by omega, by omega, by unfold rg; omega⟩
  have rgn : rg (N + 1) = N % 32 := by unfold rg; omega
  have cons := cons_zz (A := cdr A w v) (w := w) (N := N) 11 (by decide)
  rw [← sums_eq h hB hN hv hv2 (by omega), ← sums_eq h hB hN hv hv2 (by omega), ← sums_eq h hB hN hv hv2 (by omega), cdr9] at cons
  have cons0 : w 21 - w 18 - w 19 - w 20 = un (A 9) * shS w := har.cons
  have zi0 : zz (cdr A w v) N 11 (N % 32) = 0 := by
    rcases znn (N % 32) (by omega) with z | z
    · exact z
    · rw [z]
      by_cases c : N % 32 < N
      · obtain ⟨b, hb1, hb2⟩ := ring_b hN (i := N % 32) (by omega) c
        have hpc := har.pace b hb1
        have hi1 := hb1.1; have hi2 := hb1.2.1; have hi3 := hb1.2.2
        rw [← hb2]
        by_cases ca : 0 < A 9 (rg b)
        · have hu := har.up b hb1 ca
          have hx : (b + 31) % 32 = N % 32 := hb2
          omega
        · omega
      · exact har.free (N % 32) (by omega) (by omega)
  have un' : un (A' 9) = un (zz (cdr A w v) N 11) + (if 0 < hG w v N then 1 else 0) := by
    rw [t9, c9, un_up1 (by omega), zi0]
    by_cases c : 0 < hG w v N
    · rw [if_pos (hpcn.2.2 c), if_pos c]; rfl
    · rw [if_neg c, show hG w v N = 0 from by omega]; rfl
  have consn : bw w v N 21 - bw w v N 18 - bw w v N 19 - bw w v N 20 = un (A' 9) * shS w := by
    rw [bw_21, bw_c (by omega), bw_c (by omega), bw_c (by omega), un', Int.add_mul]
    by_cases c : 0 < hG w v N
    · rw [if_neg (by omega), if_pos c, Int.one_mul]; omega
    · rw [if_pos (by omega), if_neg c, Int.zero_mul]; omega
  have hub := un_b (z := A' 9)
  have hprod : 0 ≤ un (A' 9) * shS w := Int.mul_nonneg hub.1 hsb.1
  refine ⟨hpl.pb hb, hpl.pr hb hp, ?_, ?_⟩
  · -- bounds
    have hsh := hab.show; have hth := hab.thrown; have hca := hab.caught; have hlo := hab.lost; have hce := hab.cells
    have d18 := (dD_c (v := v) (N := N) hb (k := 18) (by omega)).1
    have d19 := (dD_c (v := v) (N := N) hb (k := 19) (by omega)).1
    have d20 := (dD_c (v := v) (N := N) hb (k := 20) (by omega)).1
    refine ⟨by rw [bw_14]; omega, by rw [bw_15]; omega, by rw [bw_16, bw_14]; omega, by rw [bw_c (by omega)]; omega, by rw [bw_c (by omega)]; omega, by rw [bw_c (by omega)]; omega, ⟨by omega, ?_⟩, ?_, ?_⟩
    · rw [bw_21, bw_14]
      split <;> omega
    · intro c hc
      have hw := hab.wet c hc
      have hd := dD_c (v := v) (N := N) hb (k := 519 + c) (by omega)
      have hd2 := hd.2 (by omega)
      rw [bw_c (by omega), bw_c (by omega)]
      omega
    · intro b hi
      by_cases c : b = N + 1
      · subst c
        rw [bw_wnew]; omega
      · obtain ⟨i1, i2, i3, i4, i5⟩ := inold b hi c
        rw [bw_wind hb i3 i4]
        exact hab.wind b i1
  · refine ⟨?_, ?_, ?_, ?_, ?_, ?_, ?_, ?_, ?_, ?_, ?_, ?_, ?_, ?_, ?_, ?_, ?_⟩
    · rw [t0, bw_14]
    · rw [t1, bw_15]
    · rw [t2, hBn 2 (by decide) (by decide) (by decide) (by decide) (by decide) (by decide) (by decide), har.a2, bw_16]
    · rw [c18, bw_c (by omega)]
    · rw [c19, bw_c (by omega)]
    · rw [c20, bw_c (by omega)]
    · rw [c7, bw_21]
    · intro c hc
      rw [c16 c hc, bw_c (by omega)]
    · intro b hi
      by_cases c : b = N + 1
      · subst c
        rw [bw_wnew, t8, rgn, up1_s]
      · obtain ⟨i1, i2, i3, i4, i5⟩ := inold b hi c
        rw [bw_wind hb i3 i4, t8, up1_n i5, hBn 8 (by decide) (by decide) (by decide) (by decide) (by decide) (by decide) (by decide)]
        exact har.wind b i1
    · intro b hi
      by_cases c : b = N + 1
      · subst c
        rw [t9, rgn, up1_s]; omega
      · obtain ⟨i1, i2, i3, i4, i5⟩ := inold b hi c
        have hpc := har.pace b i1
        rw [t9, up1_n i5, c9]
        rcases zold b i1 with ⟨z, -⟩ | ⟨z, -⟩ <;> rw [z] <;> omega
    · intro b hi h0
      rw [bw_14]
      by_cases c : b = N + 1
      · subst c
        rw [t9, rgn, up1_s] at h0
        rw [bw_l0]
        split <;> omega
      · obtain ⟨i1, i2, i3, i4, i5⟩ := inold b hi c
        rw [t9, up1_n i5, c9] at h0
        have hl0 := bw_lold (w := w) (v := v) (b := b) (d := 0) i3 i4 (by omega)
        rw [dD_l hb i2 i3 (by omega), dlb_lo hb (by omega)] at hl0
        rw [Nat.add_zero] at hl0
        rw [hl0]
        rcases zold b i1 with ⟨-, z⟩ | ⟨z, z2⟩
        · rcases z with z | z
          · have := har.down b i1 z
            omega
          · omega
        · have := har.down b i1 (by omega)
          omega
    · intro b hi h0
      rw [bw_14]
      by_cases c : b = N + 1
      · subst c
        rw [t9, rgn, up1_s] at h0
        have hpos : 0 < hG w v N := by
          by_cases cc : 0 < hG w v N
          · exact cc
          · rw [show hG w v N = 0 from by omega] at h0
            exact absurd h0 (by decide)
        rw [bw_l0, if_neg (by omega), t9, rgn, up1_s, t10, up1_s, t11, up1_s, bw_l1, bw_l2]
        refine ⟨by omega, by omega, rfl, rfl, by omega, by omega, by omega, by omega⟩
      · obtain ⟨i1, i2, i3, i4, i5⟩ := inold b hi c
        rw [t9, up1_n i5, c9] at h0
        have hl0 := bw_lold (w := w) (v := v) (b := b) (d := 0) i3 i4 (by omega)
        rw [dD_l hb i2 i3 (by omega), dlb_lo hb (by omega)] at hl0
        rw [Nat.add_zero] at hl0
        rcases zold b i1 with ⟨z, -⟩ | ⟨z, z2⟩
        · rw [z] at h0
          exact absurd h0 (by decide)
        · rw [z] at h0
          have hu := har.up b i1 h0
          rw [hl0, t9, up1_n i5, c9, z, t10, up1_n i5, t11, up1_n i5, hBn 10 (by decide) (by decide) (by decide) (by decide) (by decide) (by decide) (by decide), hBn 11 (by decide) (by decide) (by decide) (by decide) (by decide) (by decide) (by decide), bw_lold i3 i4 (by omega), bw_lold i3 i4 (by omega), dD_l hb i2 i3 (by omega), dD_l hb i2 i3 (by omega), dlb_lo hb (by omega), dlb_lo hb (by omega)]
          have := z2 h0
          refine ⟨by omega, by omega, by omega, by omega, by omega, by omega, by omega, by omega⟩
    · intro b hi h0 s hs
      rw [hpl 10 (by omega)] at hs
      by_cases c : b = N + 1
      · subst c
        rw [t9, rgn, up1_s] at h0
        have hpos : 0 < hG w v N := by
          by_cases cc : 0 < hG w v N
          · exact cc
          · rw [show hG w v N = 0 from by omega] at h0
            exact absurd h0 (by decide)
        have h14 := t14 hpos s hs
        rw [rgn, h14.1, h14.2, t12, t13, Nat.add_assoc, Nat.add_assoc, bw_l3 (by omega) (by omega), bw_l3 (by omega) (by omega)]
        exact ⟨by omega, by omega⟩
      · obtain ⟨i1, i2, i3, i4, i5⟩ := inold b hi c
        rw [t9, up1_n i5, c9] at h0
        rcases zold b i1 with ⟨z, -⟩ | ⟨z, z2⟩
        · rw [z] at h0
          exact absurd h0 (by decide)
        · rw [z] at h0
          have hup : upb w b := (ar_up hab har i1).mpr h0
          have hd := har.drift b i1 h0 s hs
          have hk := t15 (5 * rg b + s) (by have : rg b < 32 := by unfold rg; omega
                                            omega)
          rw [c12 s hs, c13 s hs, hk.1, hk.2, hBn 14 (by decide) (by decide) (by decide) (by decide) (by decide) (by decide) (by decide), hBn 15 (by decide) (by decide) (by decide) (by decide) (by decide) (by decide) (by decide)]
          have x1 := bw_lold (w := w) (v := v) (b := b) (d := 3 + 2 * s) i3 i4 (by omega)
          have x2 := bw_lold (w := w) (v := v) (b := b) (d := 4 + 2 * s) i3 i4 (by omega)
          rw [dD_l hb i2 i3 (by omega), ← Nat.add_assoc, dlb_x hb hup hs] at x1
          rw [dD_l hb i2 i3 (by omega), ← Nat.add_assoc, dlb_y hb hup hs] at x2
          rw [x1, x2]
          omega
    · intro b hi h0 s hs
      rw [hpl 10 (by omega)] at hs
      rw [bw_14]
      by_cases c : b = N + 1
      · subst c
        rw [Nat.add_assoc, Nat.add_assoc, bw_l3 (by omega) (by omega), bw_l3 (by omega) (by omega)]
        omega
      · obtain ⟨i1, i2, i3, i4, i5⟩ := inold b hi c
        rw [t9, up1_n i5, c9] at h0
        rcases zold b i1 with ⟨z, -⟩ | ⟨z, z2⟩
        · rw [z] at h0
          exact absurd h0 (by decide)
        · rw [z] at h0
          have hup : upb w b := (ar_up hab har i1).mpr h0
          have hd := har.driftB b i1 h0 s hs
          obtain ⟨q1, q2, -, -⟩ := hb.size s hs
          have e1 := mul_b q1 q2 (vE_b hv hv2).1 (vE_b hv hv2).2
          have e2 := mul_b q1 q2 (vS_b hv hv2).1 (vS_b hv hv2).2
          have x1 := bw_lold (w := w) (v := v) (b := b) (d := 3 + 2 * s) i3 i4 (by omega)
          have x2 := bw_lold (w := w) (v := v) (b := b) (d := 4 + 2 * s) i3 i4 (by omega)
          rw [dD_l hb i2 i3 (by omega), ← Nat.add_assoc, dlb_x hb hup hs] at x1
          rw [dD_l hb i2 i3 (by omega), ← Nat.add_assoc, dlb_y hb hup hs] at x2
          rw [x1, x2]
          omega
    · rw [hpl.sh hb]
      exact consn
    · intro i hi hi2
      rw [bw_14] at hi2
      rw [t9, up1_n (by omega), c9]
      rcases znn i hi with z | z
      · exact z
      · rw [z, har.free i hi (by omega)]
    · intro s hs
      rw [hpl 10 (by omega)] at hs
      have hs2 := har.sumB s hs
      obtain ⟨q1, q2, -, -⟩ := hb.size s hs
      have e1 := mul_b q1 q2 (vE_b hv hv2).1 (vE_b hv hv2).2
      have e2 := mul_b q1 q2 (vS_b hv hv2).1 (vS_b hv hv2).2
      rw [c12 s hs, c13 s hs, bw_14]
      omega
