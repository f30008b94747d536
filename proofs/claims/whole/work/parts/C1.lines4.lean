/-! LAYER 2: what is told: a line -/
section
variable {S : Nat} {B : Nat → Int} {L Y M P L1 Y1 M1 M2 : Ob} {a b : Nat}
theorem jet_rd (h : St S B L Y M) (hg : M 12 0 = 0) (t : TK S B Y M a b) (hi : isW B M a b 5) (hb : PB (M 14)) (hG : GI L P (M 14)) (h0 : M 14 0 ≠ 0) (h4 : L 4 0 = 0) : ∃ M1 L' Y' P' M', fX5_readJet L Y P = some (L', Y', P') ∧ fX8_takes M 5 = some (1, M1) ∧ fX8_readJet M1 = some M' ∧ Out S B Y M L' Y' P' M' := by
  have b1 := hb.b1; have b2 := hb.b2
  obtain ⟨Y1, M1, a1, a2, a3, a4, a5, a6, a7⟩ := take_rd (by decide) (h.l (i := 4) (j := 0) (v := 1) (by decide)) hg t hi
  obtain ⟨La, Ya, v7, v8, Lb, Yb, Mb, c1, c2, c3, c4, c5, c6, c7, c8⟩ := told_rd (w := 0) (lo := 0) (hi := M 14 1 - 1) (by decide) (by decide) (by decide) (by omega) (by omega) (a4.m14 (i := 13) (v := jor (M 14 13) 1))
  obtain ⟨x7, x8, Lx, Yx, Mx, f1, f2, f3, f4, f5, f6, f7⟩ := num_rd (lo := 0) (hi := M 14 2 - 1) (by decide) (by decide) (by omega) (by omega) (c4.m14 (i := 3) (v := v8))
  obtain ⟨Lc, Yc, u7, u8, Ld, Yd, Md, d1, d2, d3, d4, d5, d6, d7, d8⟩ := told_rd (w := 3) (lo := 0) (hi := 9) (by decide) (by decide) (by decide) (by decide) (by decide) (f3.m14 (i := 4) (v := x8))
  obtain ⟨Le, Ye, y7, y8, Lf, Yf, Mf, g1, g2, g3, g4, g5, g6, g7, g8⟩ := told_rd (w := 4) (lo := 0) (hi := 60) (by decide) (by decide) (by decide) (by decide) (by decide) (d4.m14 (i := 5) (v := u8))
  have m1 : M1 14 = M 14 := a5 14 (by decide)
  have mb : Mb 14 = up1 (M 14) 13 (jor (M 14 13) 1) := by rw [c6 14 (by decide), up2_14, m1]
  have mx : Mx 14 = up1 (up1 (M 14) 13 (jor (M 14 13) 1)) 3 v8 := by rw [f5 14 (by decide), up2_14, mb]
  have md : Md 14 = up1 (up1 (up1 (M 14) 13 (jor (M 14 13) 1)) 3 v8) 4 x8 := by rw [d6 14 (by decide), up2_14, mx]
  have mf : Mf 14 = up1 (up1 (up1 (up1 (M 14) 13 (jor (M 14 13) 1)) 3 v8) 4 x8) 5 u8 := by rw [g6 14 (by decide), up2_14, md]
  have x1 : up2 M1 14 13 (jor (M 14 13) 1) 14 1 = M 14 1 := by rw [up2_14, up1_n (by decide), m1]
  have x2 : up2 Mb 14 3 v8 14 2 = M 14 2 := by rw [up2_14, up1_n (by decide), mb, up1_n (by decide)]
  refine ⟨M1, Lf, Yf, up2 (up2 (up2 (up2 P 3 0 v7) 4 0 x7) 5 0 u7) 6 0 y7, up2 Mf 14 6 y8, ?_, a2, ?_, g4.m14, ?_, ?_⟩
  · unfold fX5_readJet fX5_readOnce
    rw [h4, bq_t rfl, bd_some, nm_e', a1, bd_some, c1, bd_some, hG.1.p1, c2, bd_some, nm_e', up2_n (show 2 ≠ 3 by decide), hG.1.p2, f1, bd_some, nm_e', d1, bd_some, d2, bd_some, nm_e', g1, bd_some, g2, bd_some, nm_e']
  · unfold fX8_readJet
    rw [lit (by decide), lit (by decide), nm_e', lit (by decide), show ix 13 = 13 from by decide, show ix 1 = 1 from by decide, m1, x1, c3, bd_some, lit (by decide), nm_e', lit (by decide), show ix 3 = 3 from by decide, show ix 2 = 2 from by decide]
    rw [show up2 (v8, Mb).2 14 3 (v8, Mb).1 14 2 = M 14 2 from x2, f2, bd_some, lit (by decide), nm_e', show ix 4 = 4 from by decide, d3, bd_some, lit (by decide), nm_e', show ix 5 = 5 from by decide, g3, bd_some, lit (by decide), nm_e', show ix 6 = 6 from by decide]
  · exact (a5.fx.trans (FX.u.trans c6.fx)).trans ((FX.u.trans f5.fx).trans ((FX.u.trans d6.fx).trans ((FX.u.trans g6.fx).trans FX.u)))
  · intro q
    rw [up2_n (by decide)] at q
    obtain ⟨p1, p2, p3, p4, p5, p6⟩ := g8 q
    rw [up2_n (by decide)] at p1
    obtain ⟨q1, q2, q3, q4, q5, q6⟩ := d8 p1
    rw [up2_n (by decide)] at q1
    obtain ⟨s1, s2, s3, s4, s5, s6⟩ := f7 q1
    rw [up2_n (by decide)] at s1
    obtain ⟨r1, r2, r3, r4, r5, r6⟩ := c8 s1
    obtain ⟨z1, z2⟩ := jet_upd (L := L) (P := P) (v := v8) (u := x8) (s := u8) (t := y8) hb hG h0 ⟨by omega, by omega⟩ ⟨by omega, by omega⟩ ⟨by omega, by omega⟩ ⟨by omega, by omega⟩
    rw [up2_14, mf, p4, q4, s4, r4, p3, q3, s3, r3]
    exact ⟨by omega, rfl, hG.1.p0, fun n n1 n2 => ⟨z1.cnt h0 n1 n2, z2.cnt z1⟩⟩
theorem jet_twice (h4 : L 4 0 = 1) (hn : fX5_note L Y P 2 = some L1) (h2 : L1 2 0 = 2) : ∃ P', fX5_readJet L Y P = some (up2 L1 4 0 1, Y, P') := by
  have k : up2 L1 4 0 1 2 0 = 2 := by rw [up2_n (by decide)]; exact h2
  have wb : ∀ P w, fX5_readWord (up2 L1 4 0 1) Y P w = some (up2 L1 4 0 1, Y) := fun P w => word_bad (by rw [k]; decide) (by rw [k]; decide) (by rw [k]; decide)
  have nb : ∀ P lo hi, fX5_readNumber (up2 L1 4 0 1) Y P lo hi = some (0, up2 L1 4 0 1, Y) := fun P lo hi => number_bad (by rw [k]; decide) (by rw [k]; decide) (by rw [k]; decide)
  unfold fX5_readJet fX5_readOnce
  rw [h4, bq_f (by decide) (by decide) (by decide) (by decide) (by decide), hn, bd_some, bd_some, nm_e', wb, bd_some, wb, bd_some, nb, bd_some, nm_e', nb, bd_some, nm_e', wb, bd_some, nb, bd_some, nm_e', wb, bd_some, nb, bd_some, nm_e']
  exact ⟨_, rfl⟩
theorem vane_rd (h : St S B L Y M) (hg : M 12 0 = 0) (t : TK S B Y M a b) (hi : isW B M a b 15) (hb : PB (M 14)) (hG : GI L P (M 14)) (h0 : M 14 0 ≠ 0) (h4 : L 5 0 = 0) : ∃ L' Y' P' M', fX5_readVane L Y P = some (L', Y', P') ∧ bd (fX8_advance M) (fun rr_14 => gd (inb 13 1419) (gd (inb 13 1419) (nm (up2 rr_14 14 (ix 13) (jor (rr_14 14 (ix 13)) 4)) (fun M_15 => bd (fX8_told M_15 6 0 20) (fun rr_16 => gd (inb 8 1419) (nm (up2 rr_16.2 14 (ix 8) rr_16.1) (fun M_17 => bd (fX8_told M_17 1 1 60) (fun rr_18 => gd (inb 9 1419) (nm (up2 rr_18.2 14 (ix 9) rr_18.1) (fun M_19 => some M_19)))))))))) = some M' ∧ Out S B Y M L' Y' P' M' := by
  obtain ⟨Y1, M1, a1, a2, a3, a4, a5, a6, a7⟩ := take_rd (by decide) (h.l (i := 5) (j := 0) (v := 1) (by decide)) hg t hi
  obtain ⟨La, Ya, v7, v8, Lb, Yb, Mb, c1, c2, c3, c4, c5, c6, c7, c8⟩ := told_rd (w := 6) (lo := 0) (hi := 20) (by decide) (by decide) (by decide) (by omega) (by omega) (a4.m14 (i := 13) (v := jor (M 14 13) 4))
  obtain ⟨Lc, Yc, u7, u8, Ld, Yd, Md, d1, d2, d3, d4, d5, d6, d7, d8⟩ := told_rd (w := 1) (lo := 1) (hi := 60) (by decide) (by decide) (by decide) (by decide) (by decide) (c4.m14 (i := 8) (v := v8))
  have m1 : M1 14 = M 14 := a5 14 (by decide)
  have mb : Mb 14 = up1 (M 14) 13 (jor (M 14 13) 4) := by rw [c6 14 (by decide), up2_14, m1]
  have md : Md 14 = up1 (up1 (M 14) 13 (jor (M 14 13) 4)) 8 v8 := by rw [d6 14 (by decide), up2_14, mb]
  refine ⟨Ld, Yd, up2 (up2 P 8 0 v7) 10 0 u7, up2 Md 14 9 u8, ?_, ?_, d4.m14, ?_, ?_⟩
  · unfold fX5_readVane fX5_readOnce
    rw [h4, bq_t rfl, bd_some, nm_e', a1, bd_some, c1, bd_some, c2, bd_some, nm_e', d1, bd_some, d2, bd_some, nm_e']
  · rw [a3, bd_some, lit (by decide), lit (by decide), nm_e', show ix 13 = 13 from by decide, m1, c3, bd_some, lit (by decide), nm_e', show ix 8 = 8 from by decide, d3, bd_some, lit (by decide), nm_e', show ix 9 = 9 from by decide]
  · exact (a5.fx.trans (FX.u.trans c6.fx)).trans ((FX.u.trans d6.fx).trans FX.u)
  · intro q
    rw [up2_n (by decide)] at q
    obtain ⟨q1, q2, q3, q4, q5, q6⟩ := d8 q
    rw [up2_n (by decide)] at q1
    obtain ⟨r1, r2, r3, r4, r5, r6⟩ := c8 q1
    obtain ⟨z1, z2⟩ := vane_upd (L := L) (P := P) (v := v8) (u := u8) hb hG h0 ⟨by omega, by omega⟩ ⟨by omega, by omega⟩
    rw [up2_14, md, q4, r4, q3, r3]
    exact ⟨by omega, rfl, hG.1.p0, fun n n1 n2 => ⟨z1.cnt h0 n1 n2, z2.cnt z1⟩⟩
theorem vane_twice (h4 : L 5 0 = 1) (hn : fX5_note L Y P 2 = some L1) (h2 : L1 2 0 = 2) : ∃ P', fX5_readVane L Y P = some (up2 L1 5 0 1, Y, P') := by
  have k : up2 L1 5 0 1 2 0 = 2 := by rw [up2_n (by decide)]; exact h2
  have wb : ∀ P w, fX5_readWord (up2 L1 5 0 1) Y P w = some (up2 L1 5 0 1, Y) := fun P w => word_bad (by rw [k]; decide) (by rw [k]; decide) (by rw [k]; decide)
  have nb : ∀ P lo hi, fX5_readNumber (up2 L1 5 0 1) Y P lo hi = some (0, up2 L1 5 0 1, Y) := fun P lo hi => number_bad (by rw [k]; decide) (by rw [k]; decide) (by rw [k]; decide)
  unfold fX5_readVane fX5_readOnce
  rw [h4, bq_f (by decide) (by decide) (by decide) (by decide) (by decide), hn, bd_some, bd_some, nm_e', wb, bd_some, wb, bd_some, nb, bd_some, nm_e', wb, bd_some, nb, bd_some, nm_e']
  exact ⟨_, rfl⟩
theorem road_rd (h : St S B L Y M) (hg : M 12 0 = 0) (t : TK S B Y M a b) (hi : isW B M a b 9) (hb : PB (M 14)) (hG : GI L P (M 14)) (h0 : M 14 0 ≠ 0) (h7 : M 14 7 = -1) : ∃ M1 L' Y' P' M', fX5_readRoad L Y P = some (L', Y', P') ∧ fX8_takes M 9 = some (1, M1) ∧ gd (inb 13 1419) (gd (inb 13 1419) (nm (up2 M1 14 (ix 13) (jor (M1 14 (ix 13)) 2)) (fun M_20 => gd (inb 2 1419) (bd (fX8_number M_20 0 ((M_20 14 (ix 2)) - 1)) (fun rr_21 => gd (inb 7 1419) (nm (up2 rr_21.2 14 (ix 7) rr_21.1) (fun M_22 => some M_22))))))) = some M' ∧ Out S B Y M L' Y' P' M' := by
  have b2 := hb.b2
  obtain ⟨Y1, M1, a1, a2, a3, a4, a5, a6, a7⟩ := take_rd (by decide) h hg t hi
  obtain ⟨x7, x8, Lx, Yx, Mx, f1, f2, f3, f4, f5, f6, f7⟩ := num_rd (lo := 0) (hi := M 14 2 - 1) (by decide) (by decide) (by omega) (by omega) (a4.m14 (i := 13) (v := jor (M 14 13) 2))
  have m1 : M1 14 = M 14 := a5 14 (by decide)
  have mx : Mx 14 = up1 (M 14) 13 (jor (M 14 13) 2) := by rw [f5 14 (by decide), up2_14, m1]
  have x2 : up2 M1 14 13 (jor (M 14 13) 2) 14 2 = M 14 2 := by rw [up2_14, up1_n (by decide), m1]
  refine ⟨M1, Lx, Yx, up2 P 7 0 x7, up2 Mx 14 7 x8, ?_, a2, ?_, f3.m14, ?_, ?_⟩
  · unfold fX5_readRoad jX5_readRoad_17 fX5_readOnce
    rw [hG.1.p7, bq_t h7, bq_t rfl, bd_some, a1, bd_some, hG.1.p2, f1, bd_some, nm_e']
  · rw [lit (by decide), lit (by decide), nm_e', lit (by decide), show ix 13 = 13 from by decide, show ix 2 = 2 from by decide, m1, x2, f2, bd_some, lit (by decide), nm_e', show ix 7 = 7 from by decide]
  · exact (a5.fx.trans (FX.u.trans f5.fx)).trans FX.u
  · intro q
    rw [up2_n (by decide)] at q
    obtain ⟨s1, s2, s3, s4, s5, s6⟩ := f7 q
    obtain ⟨z1, z2⟩ := road_upd (L := L) (P := P) (v := x8) hb hG h0 ⟨by omega, by omega⟩
    rw [up2_14, mx, s4, s3]
    exact ⟨by omega, rfl, hG.1.p0, fun n n1 n2 => ⟨z1.cnt h0 n1 n2, z2.cnt z1⟩⟩
theorem road_twice (h7 : P 7 0 ≠ -1) (h70 : -1 ≤ P 7 0) (h71 : P 7 0 ≤ 30) (hn : fX5_note L Y P 2 = some L1) (h2 : L1 2 0 = 2) : ∃ P', fX5_readRoad L Y P = some (L1, Y, P') := by
  have wb : ∀ P w, fX5_readWord L1 Y P w = some (L1, Y) := fun P w => word_bad (by rw [h2]; decide) (by rw [h2]; decide) (by rw [h2]; decide)
  have nb : ∀ P lo hi, fX5_readNumber L1 Y P lo hi = some (0, L1, Y) := fun P lo hi => number_bad (by rw [h2]; decide) (by rw [h2]; decide) (by rw [h2]; decide)
  unfold fX5_readRoad jX5_readRoad_17 fX5_readOnce
  rw [bq_f (a := P 7 0) (b := -1) h7 (by omega) (by omega) (by omega) (by omega), bq_f (a := 1) (b := 0) (by decide) (by decide) (by decide) (by decide) (by decide), hn, bd_some, bd_some, wb, bd_some, nb, bd_some, nm_e']
  exact ⟨_, rfl⟩
theorem square_rd (h : St S B L Y M) (hb : PB (M 14)) (hG : GI L P (M 14)) (h0 : M 14 0 = 0) : ∃ L' Y' P' M', fX5_readSquare L Y P = some (L', Y', P') ∧ fX8_readSquare M = some M' ∧ Out S B Y M L' Y' P' M' := by
  obtain ⟨Lw, Yw, Mw, w1, w2, w3, w4, w5, w6⟩ := word_rd (w := 13) (by decide) h
  obtain ⟨La, Ya, v7, v8, Lb, Yb, Mb, c1, c2, c3, c4, c5, c6, c7, c8⟩ := told_rd (w := 16) (lo := 5) (hi := 30) (by decide) (by decide) (by decide) (by omega) (by omega) w3
  obtain ⟨Lc, Yc, u7, u8, Ld, Yd, Md, d1, d2, d3, d4, d5, d6, d7, d8⟩ := told_rd (w := 7) (lo := 5) (hi := 30) (by decide) (by decide) (by decide) (by decide) (by decide) (c4.m14 (i := 1) (v := v8))
  have mb : Mb 14 = M 14 := by rw [c6 14 (by decide), w5 14 (by decide)]
  have md : Md 14 = up1 (M 14) 1 v8 := by rw [d6 14 (by decide), up2_14, mb]
  refine ⟨Ld, Yd, up2 (up2 (up2 (up2 (up2 (up2 (up2 P 1 0 v7) 2 0 u7) 3 0 (jdv v7 2)) 4 0 (jdv u7 2)) 5 0 1) 6 0 30) 10 0 60, up2 (up2 (up2 (up2 (up2 (up2 Md 14 2 u8) 14 3 (jdv v8 2)) 14 4 (jdv u8 2)) 14 5 1) 14 6 30) 14 9 60, ?_, ?_, ((((((d4.m14).m14).m14).m14).m14).m14), ?_, ?_⟩
  · unfold fX5_readSquare
    rw [w1, bd_some, c1, bd_some, c2, bd_some, nm_e', d1, bd_some, d2, bd_some, nm_e', nm_e', nm_e', nm_e', nm_e', nm_e']
    rfl
  · unfold fX8_readSquare
    have y1 : up2 Md 14 2 u8 14 1 = v8 := by rw [up2_14, up1_n (by decide), md, up1_s]
    have y2 : up2 (up2 Md 14 2 u8) 14 3 (jdv v8 2) 14 2 = u8 := by rw [up2_14, up1_n (by decide), up2_14, up1_s]
    rw [w2, bd_some, c3, bd_some, lit (by decide), nm_e', show ix 1 = 1 from by decide, d3, bd_some, lit (by decide), nm_e', lit (by decide), lit (by decide), nm_e', lit (by decide), lit (by decide), nm_e', lit (by decide), nm_e', lit (by decide), nm_e', lit (by decide), nm_e', show ix 2 = 2 from by decide, show ix 3 = 3 from by decide, show ix 4 = 4 from by decide, show ix 5 = 5 from by decide, show ix 6 = 6 from by decide, show ix 9 = 9 from by decide]
    rw [show up2 (u8, Md).2 14 2 (u8, Md).1 14 1 = v8 from y1, show up2 (up2 (u8, Md).2 14 2 (u8, Md).1) 14 3 (jdv v8 2) 14 2 = u8 from y2]
  · exact (w5.fx.trans c6.fx).trans ((FX.u.trans d6.fx).trans (FX.u.trans (FX.u.trans (FX.u.trans (FX.u.trans (FX.u.trans FX.u))))))
  · intro q
    rw [up2_n (by decide), up2_n (by decide), up2_n (by decide), up2_n (by decide), up2_n (by decide), up2_n (by decide)] at q
    obtain ⟨q1, q2, q3, q4, q5, q6⟩ := d8 q
    rw [up2_n (by decide)] at q1
    obtain ⟨r1, r2, r3, r4, r5, r6⟩ := c8 q1
    obtain ⟨s1, s2, s3⟩ := w6 r1
    rw [up2_14, up2_14, up2_14, up2_14, up2_14, up2_14, md, q4, r4, q3, r3, s3]
    exact ⟨by omega, rfl, hG.1.p0, fun n n1 n2 => square_upd (L := L) (P := P) (v := v8) (u := u8) hb hG h0 ⟨by omega, by omega⟩ ⟨by omega, by omega⟩ ⟨n1, n2⟩⟩
end
