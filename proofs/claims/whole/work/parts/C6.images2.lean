/-! LAYER 2: keep and back -/
section
variable {n : Nat} {T : Nat → Ob} {J : Nat → Bool} {M : Ob} {k : Nat}
theorem copy3 (P A P2 A2 : Ob) : ∃ v, fX3_copyFrom P A P2 A2 = some v ∧ PEq v.1 P2 ∧ AEq v.2 A2 := by
  obtain ⟨Q, q1, q2⟩ := copyP7 P P2
  obtain ⟨C, c1, c2⟩ := copyA7 A A2
  refine ⟨(Q, C), ?_, q2, c2⟩
  unfold fX3_copyFrom
  rw [q1, bd_some, c1, bd_some]
theorem keep_loop {kx : Ob → Option (Int × Ob)} (hk : k < 3) : ∀ (m i : Nat) (X : Ob), (∀ j, j ≠ 2 → X j = M j) → (∀ z, z < i → X 2 (1419 * k + z) = M 1 z) → (∀ z, z < 1419 * k ∨ 1419 * k + i ≤ z → X 2 z = M 2 z) → i ≤ 1419 → 1419 - i < m → ∃ X', lX8_keep_17 (k : Int) kx m (i : Int) X = kx X' ∧ (∀ j, j ≠ 2 → X' j = M j) ∧ (∀ z, z < 1419 → X' 2 (1419 * k + z) = M 1 z) ∧ ∀ z, z < 1419 * k ∨ 1419 * k + 1419 ≤ z → X' 2 z = M 2 z := by
  intro m
  induction m with
  | zero => intro i X _ _ _ _ h; omega
  | succ m ih =>
    intro i X h1 h2 h3 h4 h5
    rw [lX8_keep_17]
    by_cases c : i = 1419
    · subst c
      rw [be_t (by decide) (by decide) (by decide)]
      exact ⟨X, rfl, h1, h2, h3⟩
    · rw [be_f (by omega) (by omega) (by omega), gi (by omega) (by omega) (by omega), gi (by omega) (by omega) (by omega), nm_e', nm_e', ix_nat (by omega), show 1419 * (k : Int) + (i : Int) = ((1419 * k + i : Nat) : Int) from by omega, ix_nat (by omega), h1 1 (by decide)]
      refine ih (i + 1) (up2 X 2 (1419 * k + i) (M 1 i)) (fun j hj => by rw [up2_n hj]; exact h1 j hj) (fun z hz => ?_) (fun z hz => ?_) (by omega) (by omega)
      · rw [up2_s]
        by_cases e : z = i
        · rw [e, up1_s]
        · rw [up1_n (by omega)]; exact h2 z (by omega)
      · rw [up2_s, up1_n (by omega)]; exact h3 z (by omega)
theorem back_loop (hk : k < 3) : ∀ (m i : Nat) (X : Ob), (∀ j, j ≠ 1 → X j = M j) → (∀ z, z < i → X 1 z = M 2 (1419 * k + z)) → i ≤ 1419 → 1419 - i < m → ∃ X', lX8_back_29 (k : Int) m (i : Int) X = some (0, X') ∧ (∀ j, j ≠ 1 → X' j = M j) ∧ ∀ z, z < 1419 → X' 1 z = M 2 (1419 * k + z) := by
  intro m
  induction m with
  | zero => intro i X _ _ _ h; omega
  | succ m ih =>
    intro i X h1 h2 h4 h5
    rw [lX8_back_29]
    by_cases c : i = 1419
    · subst c
      rw [be_t (by decide) (by decide) (by decide)]
      exact ⟨X, rfl, h1, h2⟩
    · rw [be_f (by omega) (by omega) (by omega), gi (by omega) (by omega) (by omega), gi (by omega) (by omega) (by omega), nm_e', nm_e', ix_nat (by omega), show 1419 * (k : Int) + (i : Int) = ((1419 * k + i : Nat) : Int) from by omega, ix_nat (by omega), h1 2 (by decide)]
      refine ih (i + 1) (up2 X 1 i (M 2 (1419 * k + i))) (fun j hj => by rw [up2_n hj]; exact h1 j hj) (fun z hz => ?_) (by omega) (by omega)
      rw [up2_s]
      by_cases e : z = i
      · rw [e, up1_s]
      · rw [up1_n e]; exact h2 z (by omega)
theorem keep_bad8 {x : Int} (hx : R32 x) (h : ¬ (0 ≤ x ∧ x ≤ 2)) : fX8_keep M x = some (-2, M) := by
  unfold fX8_keep
  rw [in8i hx ⟨by decide, by decide⟩ ⟨by decide, by decide⟩, bd_some, if_neg h, bq_t rfl]
theorem back_bad8 {x : Int} (hx : R32 x) (h : ¬ (0 ≤ x ∧ x ≤ 2)) : fX8_back M x = some (-2, M) := by
  unfold fX8_back
  rw [in8i hx ⟨by decide, by decide⟩ ⟨by decide, by decide⟩, bd_some, if_neg h, bq_t rfl]
theorem back_none8 (h : Inv2 n T J M) (hk : k < 3) (hJ : J k = false) : fX8_back M (k : Int) = some (-6, M) := by
  unfold fX8_back
  rw [in8i ⟨by omega, by omega⟩ ⟨by decide, by decide⟩ ⟨by decide, by decide⟩, bd_some, if_pos (by omega), q10, gi (by omega) (by omega) (by omega), ix_nat (by omega), h.1.has k hk, hJ, if_neg (by decide), q00]
theorem WR.cp {P A P' A' : Ob} {w : Nat → Int} {B : Int} (h : WR P A w B) (hp : PEq P' P) (ha : AEq A' A) : WR P' A' w B := ⟨h.pb, hp.pr h.pb h.pr, h.ab, ha.ar h.pb h.ar⟩
theorem back_m (h : Inv2 n T J M) (hn : n + 1 ≤ 512) (hk : k < 3) (hJ : J k = true) : ∃ M', fX8_back M (k : Int) = some (0, M') ∧ ∀ P' A', PEq P' (T (15 + 3 * k)) → AEq A' (T (16 + 3 * k)) → Inv2 (n + 1) (upO (upO T 2 P') 3 A') J M' := by
  obtain ⟨X, x1, x2, x3⟩ := back_loop (M := M) hk FU 0 M (fun _ _ => rfl) (fun z hz => by omega) (by omega) (by show _ < 5000; omega)
  refine ⟨X, ?_, fun P' A' hP hA => ?_⟩
  · unfold fX8_back
    rw [in8i ⟨by omega, by omega⟩ ⟨by decide, by decide⟩ ⟨by decide, by decide⟩, bd_some, if_pos (by omega), q10, gi (by omega) (by omega) (by omega), ix_nat (by omega), h.1.has k hk, hJ, if_pos rfl, q10]
    exact x1
  · obtain ⟨g1, g2, g3, g4, g5⟩ := h.1.img k hk hJ
    have hle : (400 * n : Int) ≤ 400 * ((n + 1 : Nat) : Int) := by omega
    have ht := h.1.tape
    have t3 : upO (upO T 2 P') 3 A' 3 = A' := upO_s
    have t2 : upO (upO T 2 P') 3 A' 2 = P' := by rw [upO_n (by decide), upO_s]
    have to : ∀ i, i ≠ 2 → i ≠ 3 → upO (upO T 2 P') 3 A' i = T i := fun i a b => by rw [upO_n b, upO_n a]
    refine ⟨⟨hn, ?_, ?_, ?_, ?_, ?_, ?_, ?_, ?_, ?_, ?_⟩, ?_, ?_⟩
    · rw [to 0 (by decide) (by decide)]
      unfold TR
      rw [x2 5 (by decide), x2 4 (by decide)]
      exact ht
    · rw [to 1 (by decide) (by decide), x2 12 (by decide), x2 13 (by decide)]; exact h.1.fault
    · rw [t2, t3]; exact wc_wr x3 ((g1.cp hP hA).le hle)
    · rw [t3, hA.1 3 (by decide), g2, x3 17 (by decide)]
    · rw [x3 22 (by decide)]; exact g3
    · rw [x3 23 (by decide)]; exact g4
    · rw [x3 24 (by decide)]; exact g5
    · intro j hj
      rw [to (6 + j) (by omega) (by omega)]
      unfold RR
      rw [x2 25 (by decide), x2 26 (by decide), x2 27 (by decide)]
      exact h.1.row j hj
    · rw [x2 3 (by decide)]; exact h.1.has
    · intro i hi hJi
      rw [to (15 + 3 * i) (by omega) (by omega), to (16 + 3 * i) (by omega) (by omega), x2 2 (by decide)]
      have hg := h.1.img i hi hJi
      exact ⟨hg.1.le hle, hg.2⟩
    · exact WS_c x3 (h.2.2 k hk hJ)
    · rw [x2 2 (by decide)]; exact h.2.2
theorem keep_m (h : Inv2 n T J M) (hn : n + 1 ≤ 512) (hk : k < 3) : ∃ M', fX8_keep M (k : Int) = some (0, M') ∧ ∀ P' A', PEq P' (T 2) → AEq A' (T 3) → Inv2 (n + 1) (upO (upO T (15 + 3 * k) P') (16 + 3 * k) A') (jN J k) M' := by
  obtain ⟨X, x1, x2, x3, x4⟩ := keep_loop (M := M) (kx := fun M_4 => gd (inb (k : Int) 3) (nm (up2 M_4 3 (ix (k : Int)) (jzb 1)) (fun M_5 => some (0, M_5)))) hk FU 0 M (fun _ _ => rfl) (fun z hz => by omega) (fun _ _ => rfl) (by omega) (by show _ < 5000; omega)
  refine ⟨up2 X 3 k 1, ?_, fun P' A' hP hA => ?_⟩
  · unfold fX8_keep
    rw [in8i ⟨by omega, by omega⟩ ⟨by decide, by decide⟩ ⟨by decide, by decide⟩, bd_some, if_pos (by omega), q10]
    rw [show lX8_keep_17 (k : Int) _ FU 0 M = _ from x1, gi (by omega) (by omega) (by omega), nm_e', ix_nat (by omega), show jzb 1 = 1 from by decide]
  · have hle : (400 * n : Int) ≤ 400 * ((n + 1 : Nat) : Int) := by omega
    have ht := h.1.tape
    have t16 : upO (upO T (15 + 3 * k) P') (16 + 3 * k) A' (16 + 3 * k) = A' := upO_s
    have t15 : upO (upO T (15 + 3 * k) P') (16 + 3 * k) A' (15 + 3 * k) = P' := by rw [upO_n (by omega), upO_s]
    have to : ∀ i, i ≠ 15 + 3 * k → i ≠ 16 + 3 * k → upO (upO T (15 + 3 * k) P') (16 + 3 * k) A' i = T i := fun i a b => by rw [upO_n b, upO_n a]
    have mo : ∀ j, j ≠ 2 → j ≠ 3 → up2 X 3 k 1 j = M j := fun j a b => by rw [up2_n b, x2 j a]
    have m2 : ∀ z, z < 1419 → up2 X 3 k 1 2 (1419 * k + z) = M 1 z := fun z hz => by rw [up2_n (by decide)]; exact x3 z hz
    have m2o : ∀ i : Nat, i < 3 → i ≠ k → ∀ z, z < 1419 → up2 X 3 k 1 2 (1419 * i + z) = M 2 (1419 * i + z) := fun i hi hik z hz => by
      rw [up2_n (by decide)]; exact x4 _ (by omega)
    refine ⟨⟨hn, ?_, ?_, ?_, ?_, ?_, ?_, ?_, ?_, ?_, ?_⟩, ?_, ?_⟩
    · rw [to 0 (by omega) (by omega)]
      unfold TR
      rw [mo 5 (by decide) (by decide), mo 4 (by decide) (by decide)]
      exact ht
    · rw [to 1 (by omega) (by omega), mo 12 (by decide) (by decide), mo 13 (by decide) (by decide)]; exact h.1.fault
    · rw [to 2 (by omega) (by omega), to 3 (by omega) (by omega), mo 1 (by decide) (by decide)]; exact h.1.now.le hle
    · rw [to 3 (by omega) (by omega), mo 1 (by decide) (by decide)]; exact h.1.seen
    · rw [mo 1 (by decide) (by decide)]; exact h.1.l2
    · rw [mo 1 (by decide) (by decide)]; exact h.1.still
    · rw [mo 1 (by decide) (by decide)]; exact h.1.rep
    · intro j hj
      rw [to (6 + j) (by omega) (by omega)]
      unfold RR
      rw [mo 25 (by decide) (by decide), mo 26 (by decide) (by decide), mo 27 (by decide) (by decide)]
      exact h.1.row j hj
    · intro i hi
      rw [up2_s]
      by_cases e : i = k
      · rw [e, up1_s, jN_s, if_pos rfl]
      · rw [up1_n e, jN_n e, x2 3 (by decide)]; exact h.1.has i hi
    · intro i hi hJi
      by_cases e : i = k
      · subst e
        rw [t15, t16]
        refine ⟨wc_wr m2 ((h.1.now.cp hP hA).le hle), ?_, ?_, ?_, ?_⟩
        · rw [hA.1 3 (by decide), m2 17 (by decide)]; exact h.1.seen
        · rw [m2 22 (by decide)]; exact h.1.l2
        · rw [m2 23 (by decide)]; exact h.1.still
        · rw [m2 24 (by decide)]; exact h.1.rep
      · rw [jN_n e] at hJi
        rw [to (15 + 3 * i) (by omega) (by omega), to (16 + 3 * i) (by omega) (by omega)]
        obtain ⟨g1, g2, g3, g4, g5⟩ := h.1.img i hi hJi
        refine ⟨wc_wr (m2o i hi e) (g1.le hle), ?_, ?_, ?_, ?_⟩
        · rw [m2o i hi e 17 (by decide)]; exact g2
        · rw [m2o i hi e 22 (by decide)]; exact g3
        · rw [m2o i hi e 23 (by decide)]; exact g4
        · rw [m2o i hi e 24 (by decide)]; exact g5
    · rw [mo 1 (by decide) (by decide)]; exact h.2.1
    · intro i hi hJi
      by_cases e : i = k
      · subst e
        exact WS_c m2 h.2.1
      · rw [jN_n e] at hJi
        exact WS_c (m2o i hi e) (h.2.2 i hi hJi)
/-- the start -/
theorem start_inv : Inv2 0 T0 (fun _ => false) mod0 := by
  have e1 : ∀ k : Nat, k < 1419 → mod0 1 k = if k = 7 then -1 else E0 k := fun k hk => empA_e _ hk
  have hb : PB (mod0 1) := clean_pb e1
  obtain ⟨A1, A2, A3⟩ := clean_air (w := mod0 1) (A := air0) (C := 400 * ((0 : Nat) : Int)) hb (by decide) (fun k hk => by rw [e1 k (by omega), if_neg (by omega)]) ⟨rfl, rfl, rfl, rfl, rfl, rfl, rfl⟩ (fun _ _ => rfl) (fun _ _ => ⟨rfl, rfl⟩) (fun _ _ => rfl)
  have hp : PR plan0 (mod0 1) := clean_pr e1 ⟨rfl, rfl, rfl, rfl, rfl, rfl, rfl, rfl, rfl, rfl, rfl, rfl, rfl, rfl⟩ (fun s hs => by
    rcases (show s = 0 ∨ s = 1 ∨ s = 2 ∨ s = 3 ∨ s = 4 ∨ s = 5 ∨ s = 6 ∨ s = 7 ∨ s = 8 ∨ s = 9 by omega) with e | e | e | e | e | e | e | e | e | e <;> subst e <;> rfl)
  refine ⟨⟨by decide, ⟨rfl, ⟨by decide, by decide⟩, fun k hk => absurd hk (by show ¬ (k : Int) < 0; omega)⟩, ⟨rfl, rfl⟩, ⟨hb, hp, A1, A2⟩, ?_, ?_, ?_, ?_, ?_, ?_, ?_⟩, A3, fun k _ hJ => by cases hJ⟩
  · rw [e1 17 (by decide)]; rfl
  · rw [e1 22 (by decide)]; rfl
  · rw [e1 23 (by decide)]; rfl
  · rw [e1 24 (by decide)]; rfl
  · intro j hj
    rcases (show j = 0 ∨ j = 1 ∨ j = 2 ∨ j = 3 by omega) with e | e | e | e <;> subst e <;> exact ⟨Or.inl ⟨rfl, rfl⟩, fun q => absurd rfl q, fun q => absurd rfl q⟩
  · intro k hk
    rfl
  · intro k _ hJ
    cases hJ
end
