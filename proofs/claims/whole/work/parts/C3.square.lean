/-! LAYER 2: the square is told -/
section
variable {S : Nat} {B : Nat → Int} {L Y M P A L1 Y1 M1 M2 : Ob} {w : Nat → Int}
theorem lines_bad {kx : Ob → Ob → Ob → Option (Int × Ob × Ob × Ob)} {lx : Int} (m : Nat) (h : L 2 0 ≠ 0) (h0 : 0 ≤ L 2 0) (h1 : L 2 0 ≤ 3) : lX5_readsAll_41 kx (m + 1) lx L Y P = kx L Y P := by
  rw [lX5_readsAll_41, be_bl, bq_f h (by omega) (by omega) (by omega) (by omega)]
  by_cases c : i32 lx < i32 1600
  · rw [bl_p c]
  · rw [bl_n c]
theorem lines_ok {kx : Ob → Ob → Ob → Option (Int × Ob × Ob × Ob)} {kx8 : Ob → Option (Int × Ob)} : ∀ (m n : Nat) (L Y P M : Ob), St S B L Y M → M 12 0 = 0 → PB (M 14) → GI L P (M 14) → M 14 0 = (n : Int) → (n : Int) ≤ Y 3 0 → n ≤ 1600 → 1601 - n < m → ∃ L' Y' P' M', lX5_readsAll_41 kx m (n : Int) L Y P = kx L' Y' P' ∧ lX8_square_39 kx8 m M = kx8 M' ∧ St S B L' Y' M' ∧ FX M M' ∧ (M' 12 0 = 0 → PB (M' 14) ∧ GI L' P' (M' 14)) := by
  intro m
  induction m with
  | zero => intro n L Y P M _ _ _ _ _ _ _ h; omega
  | succ m ih =>
    intro n L Y P M h hg hb hG hn hs h16 hm
    obtain ⟨a, b, t⟩ := h.2.2.2 hg
    have hk := t.2.2.2.2.2.2.1
    have hS := t.1.2.2.1
    have ha := t.2.2.1.1
    have hab := t.2.2.2.2.1
    have hbS := t.2.2.2.2.2.1
    have k1 := t.2.2.2.2.2.2.2.2.1
    rw [lX5_readsAll_41, lX8_square_39, good8 hg, bd_some, q10, h.1, bq_t hg, t.2.1]
    by_cases c0 : M 10 0 = 0
    · rw [bq_t c0, bq_t c0, be_bl]
      refine ⟨L, Y, P, M, ?_, rfl, h, FX.refl M, fun _ => ⟨hb, hG⟩⟩
      by_cases c : i32 (n : Int) < i32 1600
      · rw [bl_p c]
      · rw [bl_n c]
    · have := k1 c0
      obtain ⟨L2, Y2, P2, M2, e1, e2, e3, e4, e5⟩ := line_rd h hg hb hG
      rw [be_f (by omega) (by omega) (by omega), bq_f c0 (by omega) (by omega) (by omega) (by omega), bq_f c0 (by omega) (by omega) (by omega) (by omega), e1, bd_some, nm_e', e2, bd_some]
      by_cases g2 : M2 12 0 = 0
      · obtain ⟨x1, x2, x3, x4⟩ := e5 g2
        obtain ⟨z1, z2⟩ := x4 (by omega) (by omega)
        obtain ⟨L', Y', P', M', f1, f2, f3, f4, f5⟩ := ih (n + 1) L2 Y2 P2 M2 e3 g2 z1 z2 (by omega) (by omega) (by omega) (by omega)
        exact ⟨L', Y', P', M', f1, f2, f3, e4.trans f4, f5⟩
      · have hr := e3.2.2.1
        refine ⟨L2, Y2, P2, M2, ?_, ?_, e3, e4, fun q => absurd q g2⟩
        · rw [show m = (m - 1) + 1 from by omega]
          exact lines_bad (L := L2) (Y := Y2) (P := P2) (m - 1) (by rw [e3.1]; exact g2) (by rw [e3.1]; omega) (by rw [e3.1]; omega)
        · rw [show m = (m - 1) + 1 from by omega, lX8_square_39, bad8 g2 hr.1 hr.2, bd_some, q00]
/-- a world in which nothing has blown yet -/
theorem clean_air {C : Int} (hb : PB w) (hC : 0 ≤ C) (hE : ∀ k : Nat, (14 ≤ k ∧ k ≤ 24) ∨ (71 ≤ k ∧ k < 1419) → w k = E0 k) (h0 : A 0 0 = 0 ∧ A 1 0 = 0 ∧ A 2 0 = 0 ∧ A 4 0 = 0 ∧ A 5 0 = 0 ∧ A 6 0 = 0 ∧ A 7 0 = 0) (h9 : ∀ i, i < 32 → A 9 i = 0) (h12 : ∀ s, s < 5 → A 12 s = 0 ∧ A 13 s = 0) (h16 : ∀ c, c < 900 → A 16 c = 0) : AB w C ∧ AR A w ∧ WS w := by
  have b10 := hb.b10
  have e14 : w 14 = 0 := hE 14 (by decide)
  have e15 : w 15 = 0 := hE 15 (by decide)
  have e16 : w 16 = 0 := hE 16 (by decide)
  have e18 : w 18 = 0 := hE 18 (by decide)
  have e19 : w 19 = 0 := hE 19 (by decide)
  have e20 : w 20 = 0 := hE 20 (by decide)
  have e21 : w 21 = 0 := hE 21 (by decide)
  have ew : ∀ c : Nat, c < 900 → w (519 + c) = 0 := fun c hc => by
    rw [hE _ (by omega)]
    unfold E0
    rw [if_neg (by omega), if_neg (by omega)]
  have nW : ∀ b : Nat, ¬ inW w b := fun b q => by
    have := q.1; have := q.2.1; omega
  have u0 : upN A = 0 := sm_zero (fun i hi => by
    show (if 0 < A 9 i then (1 : Int) else 0) = 0
    rw [h9 i hi]; rfl)
  refine ⟨⟨by omega, by omega, by omega, by omega, by omega, by omega, by omega, fun c hc => by rw [ew c hc]; omega, fun b q => absurd q (nW b)⟩, ⟨by rw [h0.1, e14], by rw [h0.2.1, e15], by rw [h0.2.2.1, e16], by rw [h0.2.2.2.1, e18], by rw [h0.2.2.2.2.1, e19], by rw [h0.2.2.2.2.2.1, e20], by rw [h0.2.2.2.2.2.2, e21], fun c hc => by rw [h16 c hc, ew c hc], fun b q => absurd q (nW b), fun b q => absurd q (nW b), fun b q => absurd q (nW b), fun b q => absurd q (nW b), fun b q => absurd q (nW b), fun b q => absurd q (nW b), by rw [u0, e18, e19, e20, e21, Int.zero_mul]; rfl, fun i hi _ => h9 i hi, fun s hs => by
    have := h12 s (by omega)
    omega⟩, ?_⟩
  unfold WS
  rw [e20]
  exact sm_zero (fun c hc => ew c hc)
theorem empA_e (f : Nat → Int) {k : Nat} (hk : k < 1419) : empA f k = if k = 7 then -1 else E0 k := by
  unfold empA
  rw [show ix 7 = 7 from by decide, show ix 17 = 17 from by decide, show ix 22 = 22 from by decide, show ix 24 = 24 from by decide]
  unfold E0
  by_cases c24 : k = 24
  · subst c24; rw [up1_s]; rfl
  rw [up1_n c24]
  by_cases c22 : k = 22
  · subst c22; rw [up1_s]; rfl
  rw [up1_n c22]
  by_cases c17 : k = 17
  · subst c17; rw [up1_s]; rfl
  rw [up1_n c17]
  by_cases c7 : k = 7
  · subst c7; rw [up1_s]; rfl
  rw [up1_n c7, if_neg c7, if_neg (by omega), if_neg c24]
  unfold filA
  rw [blt_t hk]
  rfl
/-- nothing is told -/
theorem clean_pb (hE : ∀ k : Nat, k < 1419 → w k = if k = 7 then -1 else E0 k) : PB w := by
  have e0 : w 0 = 0 := hE 0 (by decide)
  have e1 : w 1 = 0 := hE 1 (by decide)
  have e2 : w 2 = 0 := hE 2 (by decide)
  have e3 : w 3 = 0 := hE 3 (by decide)
  have e4 : w 4 = 0 := hE 4 (by decide)
  have e5 : w 5 = 0 := hE 5 (by decide)
  have e6 : w 6 = 0 := hE 6 (by decide)
  have e7 : w 7 = -1 := hE 7 (by decide)
  have e8 : w 8 = 0 := hE 8 (by decide)
  have e9 : w 9 = 0 := hE 9 (by decide)
  have e10 : w 10 = 0 := hE 10 (by decide)
  have e11 : w 11 = 0 := hE 11 (by decide)
  have e12 : w 12 = 0 := hE 12 (by decide)
  have e22 : w 22 = -1 := hE 22 (by decide)
  exact ⟨by omega, by omega, by omega, by omega, by omega, by omega, by omega, by omega, by omega, by omega, by omega, by omega, by omega, by omega, by omega, by omega, by omega, by omega, fun s hs => by omega, fun s hs => by omega, fun s hs => by omega⟩
theorem clean_pr (hE : ∀ k : Nat, k < 1419 → w k = if k = 7 then -1 else E0 k) (h0 : P 0 0 = 0 ∧ P 1 0 = 0 ∧ P 2 0 = 0 ∧ P 3 0 = 0 ∧ P 4 0 = 0 ∧ P 5 0 = 0 ∧ P 6 0 = 0 ∧ P 7 0 = -1 ∧ P 8 0 = 0 ∧ P 9 0 = -1 ∧ P 10 0 = 0 ∧ P 11 0 = 0 ∧ P 14 0 = 0 ∧ P 18 0 = 0) (h19 : ∀ s, s < 10 → P 19 s = 60) : PR P w := by
  obtain ⟨p0, p1, p2, p3, p4, p5, p6, p7, p8, p9, p10, p11, p14, p18⟩ := h0
  have e10 : w 10 = 0 := hE 10 (by decide)
  have e11 : w 11 = 0 := hE 11 (by decide)
  have e12 : w 12 = 0 := hE 12 (by decide)
  refine ⟨by rw [p0, hE 0 (by decide)]; rfl, by rw [p1, hE 1 (by decide)]; rfl, by rw [p2, hE 2 (by decide)]; rfl, by rw [p3, hE 3 (by decide)]; rfl, by rw [p4, hE 4 (by decide)]; rfl, by rw [p5, hE 5 (by decide)]; rfl, by rw [p6, hE 6 (by decide)]; rfl, by rw [p7, hE 7 (by decide)]; rfl, by rw [p8, hE 8 (by decide)]; rfl, by rw [p9, hE 22 (by decide)]; rfl, by rw [p10, hE 9 (by decide)]; rfl, by rw [p11, e10], by rw [p14, e11], by rw [p18, e12], fun s hs => by omega, fun s hs => by omega, fun s hs => ?_⟩
  rw [h19 s hs, e12]
  rfl
theorem clear1 (P : Ob) : ∃ Q, fX1_clear P = some Q ∧ (Q 0 0 = 0 ∧ Q 1 0 = 0 ∧ Q 2 0 = 0 ∧ Q 3 0 = 0 ∧ Q 4 0 = 0 ∧ Q 5 0 = 0 ∧ Q 6 0 = 0 ∧ Q 7 0 = -1 ∧ Q 8 0 = 0 ∧ Q 9 0 = -1 ∧ Q 10 0 = 0 ∧ Q 11 0 = 0 ∧ Q 14 0 = 0 ∧ Q 18 0 = 0) ∧ ∀ s, s < 10 → Q 19 s = 60 := by
  refine ⟨_, rfl, ⟨rfl, rfl, rfl, rfl, rfl, rfl, rfl, rfl, rfl, rfl, rfl, rfl, rfl, rfl⟩, fun s hs => ?_⟩
  rw [upA_s]
  unfold filA
  rw [blt_t hs]
  rfl
theorem clear0 (A : Ob) : ∃ C, fX0_clear A = some C ∧ (C 0 0 = 0 ∧ C 1 0 = 0 ∧ C 2 0 = 0 ∧ C 4 0 = 0 ∧ C 5 0 = 0 ∧ C 6 0 = 0 ∧ C 7 0 = 0) ∧ C 3 0 = -1 ∧ (∀ i, i < 32 → C 9 i = 0) ∧ (∀ s, s < 5 → C 12 s = 0 ∧ C 13 s = 0) ∧ ∀ c, c < 900 → C 16 c = 0 := by
  refine ⟨_, rfl, ⟨rfl, rfl, rfl, rfl, rfl, rfl, rfl⟩, rfl, fun i hi => ?_, fun s hs => ⟨?_, ?_⟩, fun c hc => ?_⟩
  · rw [upA_n (by decide), upA_n (by decide), upA_n (by decide), upA_s]
    unfold filA
    rw [blt_t hi]
    rfl
  · rw [upA_n (by decide), upA_n (by decide), upA_s]
    unfold filA
    rw [blt_t hs]
    rfl
  · rw [upA_n (by decide), upA_s]
    unfold filA
    rw [blt_t hs]
    rfl
  · rw [upA_s]
    unfold filA
    rw [blt_t hc]
    rfl
/-- the world is laid -/
theorem lay_loop : ∀ (m k : Nat) (X : Ob), (∀ j, j ≠ 1 → X j = M j) → (∀ i, i < k → X 1 i = M 14 i) → k ≤ 1419 → 1419 - k < m → ∃ X', lX8_square_72 m (k : Int) X = some (X' 1 0, X') ∧ (∀ j, j ≠ 1 → X' j = M j) ∧ ∀ i, i < 1419 → X' 1 i = M 14 i := by
  intro m
  induction m with
  | zero => intro k X _ _ _ h; omega
  | succ m ih =>
    intro k X h1 h2 h3 h4
    rw [lX8_square_72]
    by_cases c : k = 1419
    · subst c
      rw [be_t (by decide) (by decide) (by decide), lit (by decide), show ix 0 = 0 from by decide]
      exact ⟨X, rfl, h1, h2⟩
    · rw [be_f (by omega) (by omega) (by omega), gi (by omega) (by omega) (by omega), gi (by omega) (by omega) (by omega), nm_e', nm_e', ix_nat (by omega)]
      refine ih (k + 1) (up2 X 1 k (X 14 k)) (fun j hj => by rw [up2_n hj]; exact h1 j hj) (fun i hi => ?_) (by omega) (by omega)
      rw [up2_s]
      by_cases ci : i = k
      · rw [ci, up1_s, h1 14 (by decide)]
      · rw [up1_n ci]; exact h2 i (by omega)
theorem Inv2.told {n : Nat} {T T' : Nat → Ob} {J : Nat → Bool} {M M' : Ob} (h : Inv2 n T J M) (hn : n + 1 ≤ 512) (hT : ∀ i, 5 ≤ i → T' i = T i) (hM : ∀ j, j = 2 ∨ j = 3 ∨ (25 ≤ j ∧ j ≤ 27) → M' j = M j) (ht : TR (T' 0) M') (hf : T' 1 2 0 = M' 12 0 ∧ T' 1 3 0 = M' 13 0) (hw : WR (T' 2) (T' 3) (M' 1) (400 * ((n + 1 : Nat) : Int))) (hs : T' 3 3 0 = M' 1 17) (h22 : M' 1 22 = -1) (h23 : M' 1 23 = 0) (h24 : M' 1 24 = 1) (hws : WS (M' 1)) : Inv2 (n + 1) T' J M' := by
  obtain ⟨hi, _, himg⟩ := h
  have hle : (400 * n : Int) ≤ 400 * ((n + 1 : Nat) : Int) := by omega
  refine ⟨⟨hn, ht, hf, hw, hs, h22, h23, h24, ?_, ?_, ?_⟩, hws, fun k hk hJ => by rw [hM 2 (by omega)]; exact himg k hk hJ⟩
  · intro j hj
    rw [hT (6 + j) (by omega)]
    unfold RR
    rw [hM 25 (by omega), hM 26 (by omega), hM 27 (by omega)]
    exact hi.row j hj
  · rw [hM 3 (by omega)]
    exact hi.has
  · intro k hk hJ
    rw [hT (15 + 3 * k) (by omega), hT (16 + 3 * k) (by omega), hM 2 (by omega)]
    have hg := hi.img k hk hJ
    exact ⟨hg.1.le hle, hg.2⟩
theorem op_square {n : Nat} {T : Nat → Ob} {J : Nat → Bool} {M : Ob} (h : Inv2 n T J M) (hn : n + 1 ≤ 512) : Nx n T J (fX7_square T) (fX8_square M) := by
  have ht := h.1.tape
  have htb := ht.b
  obtain ⟨S, hS⟩ : ∃ S : Nat, M 5 0 = (S : Int) := ⟨(M 5 0).toNat, by omega⟩
  obtain ⟨Q, q1, q2, q3⟩ := clear1 (T 4)
  unfold fX7_square fX8_square fX5_readsAll fX4_rewind
  rw [nm_e', nm_e', nm_e', nm_e', nm_e', q1, bd_some, nm_e']
  rw [nm_e', nm_e', nm_e', nm_e', nm_e', nm_e']
  obtain ⟨M6, hM6⟩ : ∃ M6, M6 = upA (up2 (up2 (up2 (up2 (up2 M 7 0 (M 5 0)) 5 0 0) 8 0 0) 12 0 0) 13 0 (-1)) 14 (empA (up2 (up2 (up2 (up2 (up2 M 7 0 (M 5 0)) 5 0 0) 8 0 0) 12 0 0) 13 0 (-1) 14)) := ⟨_, rfl⟩
  rw [← hM6]
  obtain ⟨L5, hL5⟩ : ∃ L5, L5 = up2 (up2 (up2 (up2 (up2 (T 1) 2 0 0) 3 0 (-1)) 4 0 0) 5 0 0) 6 0 (-1) := ⟨_, rfl⟩
  rw [← hL5]
  have m7 : M6 7 0 = (S : Int) := by rw [hM6, ← hS]; rfl
  have m5 : M6 5 0 = 0 := by rw [hM6]; rfl
  have m8 : M6 8 0 = ((0 : Nat) : Int) := by rw [hM6]; rfl
  have m12 : M6 12 0 = 0 := by rw [hM6]; rfl
  have m13 : M6 13 0 = -1 := by rw [hM6]; rfl
  have m4 : M6 4 = M 4 := by rw [hM6]; rfl
  have mo : ∀ j, j ≠ 5 → j ≠ 7 → j ≠ 8 → j ≠ 12 → j ≠ 13 → j ≠ 14 → M6 j = M j := fun j a1 a2 a3 a4 a5 a6 => by rw [hM6, upA_n a6, up2_n a5, up2_n a4, up2_n a3, up2_n a1, up2_n a2]
  have m14 : ∀ k : Nat, k < 1419 → M6 14 k = if k = 7 then -1 else E0 k := fun k hk => by
    rw [hM6, upA_s]; exact empA_e _ hk
  have hBS : BS S (M 4) (up2 (T 0) 4 0 0) M6 := by
    refine ⟨?_, m7, by omega, fun k hk => ?_⟩
    · rw [up2_n (by decide), ht.len, hS]
    · have := ht.byte k (by omega)
      rw [up2_n (by decide), m4]
      exact ⟨this.1, rfl, by omega, by omega⟩
  obtain ⟨Y1, M7, a', b', t1, t2, t3, t4, t5⟩ := tok_ok (b := 0) hBS (by rw [up2_s, up1_s]; rfl) m8 (by omega)
  have hSt : St S (M 4) L5 Y1 M7 := by
    refine ⟨?_, ?_, ?_, fun _ => ⟨a', b', t3⟩⟩
    · rw [t5 12 (by decide), m12, hL5]; rfl
    · rw [t5 13 (by decide), m13, hL5]; rfl
    · rw [t5 12 (by decide), m12]; omega
  have hg : M7 12 0 = 0 := by rw [t5 12 (by decide)]; exact m12
  have w14 : M7 14 = M6 14 := t5 14 (by decide)
  have hb0 : PB (M7 14) := by rw [w14]; exact clean_pb m14
  have hG0 : GI L5 Q (M7 14) := by
    rw [w14]
    refine ⟨clean_pr m14 q2 q3, Or.inl (by rw [hL5]; rfl), Or.inl (by rw [hL5]; rfl), ?_, ?_, ?_⟩
    · rw [m14 13 (by decide), m14 7 (by decide), hL5]; rfl
    · unfold lastW
      rw [m14 12 (by decide), hL5]; rfl
    · intro k hk
      rw [m14 k (by omega), if_neg (by omega)]
  have ha' := t3.2.2.1.1
  obtain ⟨L', Y', P', M', f1, f2, f3, f4, f5⟩ := lines_ok (S := S) (B := M 4) (kx := fun L_10 Y_11 P_12 => jX5_readsAll_75 L_10 Y_11 P_12) (kx8 := fun M_10 => jX8_square_60 M_10) FU 0 L5 Y1 Q M7 hSt hg hb0 hG0 (by rw [w14, m14 0 (by decide)]; rfl) (by rw [ha']; omega) (by omega) (by show _ < 5000; omega)
  rw [t1, bd_some, bd_some, show lX5_readsAll_41 _ FU 0 L5 Y1 Q = _ from f1, t2, bd_some, f2]
  have fr := f3.2.2.1
  have o : ∀ j, j < 5 ∨ j = 6 ∨ 14 < j → M' j = M j := fun j hj => by rw [f4 j (by omega), t5 j (by omega), mo j (by omega) (by omega) (by omega) (by omega) (by omega) (by omega)]
  have o5 : M' 5 0 = 0 := by rw [f4 5 (by decide), t5 5 (by decide)]; exact m5
  unfold jX5_readsAll_75 jX8_square_60
  by_cases g : M' 12 0 = 0
  · obtain ⟨zb, zG⟩ := f5 g
    obtain ⟨X, x1, x2, x3⟩ := lay_loop (M := M') FU 0 M' (fun _ _ => rfl) (fun i hi => by omega) (by omega) (by show _ < 5000; omega)
    obtain ⟨Qc, c1, c2⟩ := copyP7 (T 2) P'
    obtain ⟨C, d1, d2, d3, d4, d5, d6⟩ := clear0 (T 3)
    have eE : ∀ k : Nat, (14 ≤ k ∧ k ≤ 24) ∨ (71 ≤ k ∧ k < 1419) → M' 14 k = E0 k := zG.2.2.2.2.2
    obtain ⟨A1, A2, A3⟩ := clean_air (w := M' 14) (A := C) (C := 400 * ((n + 1 : Nat) : Int)) zb (by omega) eE d2 d4 d5 d6
    rw [f3.1, bq_t g, bd_some, nm_e', nm_e', nm_e', q10, good8 g, bd_some, q10]
    rw [show lX8_square_72 FU 0 M' = _ from x1]
    rw [upO_n (show 2 ≠ 0 by decide), upO_n (show 4 ≠ 0 by decide), upO_s, upO_n (show 2 ≠ 4 by decide), upO_n (show 2 ≠ 0 by decide), upO_n (show 2 ≠ 1 by decide)]
    rw [show fX1_copyFrom (T 2) (1, L', Y', P').2.2.2 = some Qc from c1, bd_some, nm_e', upO_n (show 3 ≠ 2 by decide), upO_n (show 3 ≠ 0 by decide), upO_n (show 3 ≠ 4 by decide), upO_n (show 3 ≠ 0 by decide), upO_n (show 3 ≠ 1 by decide), d1, bd_some, nm_e']
    have hwr : WR Qc C (M' 14) (400 * ((n + 1 : Nat) : Int)) := ⟨zb, c2.pr zb zG.1, A1, A2⟩
    refine ⟨X 1 0, _, X, ?_, rfl, h.told hn (T' := upO (upO (upO (upO (upO (upO T 1 L') 0 Y') 4 P') 0 (up2 (upO (upO (upO T 1 L') 0 Y') 4 P' 0) 1 0 0)) 2 Qc) 3 C) (fun i hi => ?_) (fun j hj => ?_) ⟨?_, ?_, fun k hk => ?_⟩ ⟨?_, ?_⟩ ?_ ?_ ?_ ?_ ?_ ?_, fun k hk => by rw [upO_n (by omega), upO_n (by omega), upO_n (by omega), upO_n (by omega), upO_n (by omega), upO_n (by omega)]⟩
    · rw [upO_n (show 2 ≠ 3 by decide), upO_s, c2.1 0 (by decide), zG.1.p0, x3 0 (by decide)]
    · rw [upO_n (by omega), upO_n (by omega), upO_n (by omega), upO_n (by omega), upO_n (by omega), upO_n (by omega)]
    · rw [x2 j (by omega), o j (by omega)]
    · rw [upO_n (by decide), upO_n (by decide), upO_s, up2_s, up1_s, x2 5 (by decide), o5]
    · rw [x2 5 (by decide), o5]; omega
    · rw [x2 5 (by decide), o5] at hk; omega
    · rw [upO_n (by decide), upO_n (by decide), upO_n (by decide), upO_n (by decide), upO_n (by decide), upO_s, x2 12 (by decide)]; exact f3.1
    · rw [upO_n (by decide), upO_n (by decide), upO_n (by decide), upO_n (by decide), upO_n (by decide), upO_s, x2 13 (by decide)]; exact f3.2.1
    · rw [upO_s, upO_n (show 2 ≠ 3 by decide), upO_s]; exact wc_wr x3 hwr
    · rw [upO_s, d3, x3 17 (by decide), eE 17 (by decide)]; rfl
    · rw [x3 22 (by decide), eE 22 (by decide)]; rfl
    · rw [x3 23 (by decide), eE 23 (by decide)]; rfl
    · rw [x3 24 (by decide), eE 24 (by decide)]; rfl
    · exact WS_c x3 A3
  · have hN := h.next hn
    rw [f3.1, bq_f g (by omega) (by omega) (by omega) (by omega), bd_some, nm_e', nm_e', nm_e', q00, bad8 g fr.1 fr.2, bd_some, q00]
    refine ⟨-4, _, M', rfl, rfl, h.told hn (fun i hi => ?_) (fun j hj => o j (by omega)) ⟨?_, by omega, fun k hk => by omega⟩ ⟨?_, ?_⟩ ?_ ?_ ?_ ?_ ?_ ?_, fun k hk => by rw [upO_n (by omega), upO_n (by omega), upO_n (by omega), upO_n (by omega)]⟩
    · rw [upO_n (by omega), upO_n (by omega), upO_n (by omega), upO_n (by omega)]
    · rw [upO_s, up2_s, up1_s, o5]
    · rw [upO_n (by decide), upO_n (by decide), upO_n (by decide), upO_s]; exact f3.1
    · rw [upO_n (by decide), upO_n (by decide), upO_n (by decide), upO_s]; exact f3.2.1
    · rw [upO_n (by decide), upO_n (by decide), upO_n (by decide), upO_n (by decide), upO_n (by decide), upO_n (by decide), upO_n (by decide), upO_n (by decide), o 1 (by omega)]; exact hN.1.now
    · rw [upO_n (by decide), upO_n (by decide), upO_n (by decide), upO_n (by decide), o 1 (by omega)]; exact hN.1.seen
    · rw [o 1 (by omega)]; exact hN.1.l2
    · rw [o 1 (by omega)]; exact hN.1.still
    · rw [o 1 (by omega)]; exact hN.1.rep
    · rw [o 1 (by omega)]; exact hN.2.1
end
