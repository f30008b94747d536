/-! LAYER 2: the tape and the rows -/
theorem jnb_e (a : Int) : jnb a = (i32 a).toInt8.toInt32.toInt := rfl
theorem jnb_b (a : Int) : -128 ≤ jnb a ∧ jnb a ≤ 127 := by
  rw [jnb_e, Int8.toInt_toInt32]
  have h1 := Int8.le_toInt (i32 a).toInt8
  have h2 := Int8.toInt_lt (i32 a).toInt8
  exact ⟨by omega, by omega⟩
theorem Inv2.tape' {n : Nat} {T T' : Nat → Ob} {J : Nat → Bool} {M M' : Ob} (h : Inv2 n T J M) (hn : n + 1 ≤ 512) (hT : ∀ i, i ≠ 0 → T' i = T i) (hM : ∀ j, j ≠ 4 → j ≠ 5 → j ≠ 6 → M' j = M j) (ht : TR (T' 0) M') : Inv2 (n + 1) T' J M' := by
  obtain ⟨hi, hws, himg⟩ := h
  have hle : (400 * n : Int) ≤ 400 * ((n + 1 : Nat) : Int) := by omega
  refine ⟨?_, by rw [hM 1 (by decide) (by decide) (by decide)]; exact hws, fun k hk hJ => by rw [hM 2 (by decide) (by decide) (by decide)]; exact himg k hk hJ⟩
  unfold Inv
  rw [hT 1 (by decide), hT 2 (by decide), hT 3 (by decide), hM 1 (by decide) (by decide) (by decide), hM 12 (by decide) (by decide) (by decide), hM 13 (by decide) (by decide) (by decide), hM 3 (by decide) (by decide) (by decide), hM 2 (by decide) (by decide) (by decide)]
  refine ⟨hn, ht, hi.fault, hi.now.le hle, hi.seen, hi.l2, hi.still, hi.rep, ?_, hi.has, ?_⟩
  · intro j hj
    rw [hT (6 + j) (by omega)]
    unfold RR
    rw [hM 25 (by decide) (by decide) (by decide), hM 26 (by decide) (by decide) (by decide), hM 27 (by decide) (by decide) (by decide)]
    exact hi.row j hj
  · intro k hk hJ
    rw [hT (15 + 3 * k) (by omega), hT (16 + 3 * k) (by omega)]
    have hg := hi.img k hk hJ
    exact ⟨hg.1.le hle, hg.2⟩
section
variable {n : Nat} {T : Nat → Ob} {J : Nat → Bool} {M : Ob} {x z y0 a b c d e : Int}
theorem op_end (h : Inv2 n T J M) (hn : n + 1 ≤ 512) (hx : R32 x) : Nx n T J (fX7_end T x) (fX8_end M x) := by
  have ht := h.1.tape
  have hb := ht.b
  have := hx.1; have := hx.2
  unfold fX7_end fX8_end
  rw [ht.len, in8w hx ⟨by decide, by decide⟩ ⟨by omega, by omega⟩, bd_some, bq_ite]
  by_cases c1 : x < 0
  · rw [bl_t c1 (by omega) (by omega), if_neg (by omega)]
    exact Nx.s _ h hn
  · rw [bl_f (by omega) (by omega) (by omega)]
    by_cases c2 : x ≤ M 5 0
    · rw [be_t c2 (by omega) (by omega), if_pos (by omega), nm_e', nm_e']
      refine ⟨x, _, _, rfl, rfl, h.tape' hn (fun i hi => upO_n hi) (fun j _ h5 _ => up2_n h5) ?_, fun k hk => upO_n (by omega)⟩
      rw [upO_s]
      refine ⟨rfl, ⟨?_, ?_⟩, fun k hk => ?_⟩
      · rw [up2_s, up1_s]; omega
      · rw [up2_s, up1_s]; omega
      · rw [up2_s, up1_s] at hk
        rw [up2_n (by decide), up2_n (by decide)]
        exact ht.byte k (by omega)
    · rw [be_f (by omega) (by omega) (by omega), if_neg (by omega)]
      exact Nx.s _ h hn
/-- a byte of a number -/
def bv (a : Int) (i : Nat) : Int := jnb (jb8 (jsr a (24 - 8 * (i : Int))))
theorem append_step {m L : Nat} {Y : Ob} {sh : Int} (h0 : 0 ≤ sh) (h1 : sh ≤ 24) (hL : Y 1 0 = (L : Int)) (hL2 : L < 1600) : lX4_append_3 a (m + 1) sh Y = lX4_append_3 a m (sh + -8) (up2 (up2 Y 0 L (jnb (jb8 (jsr a sh)))) 1 0 ((L : Int) + 1)) := by
  rw [lX4_append_3, hL, bl_f (by omega) (by omega) (by omega), be_f (by omega) (by omega) (by omega), gi (by omega) (by omega) (by omega), nm_e', nm_e', nm_e', ix_nat (by omega), up2_n (show 1 ≠ 0 by decide), hL]
theorem append7 {L : Nat} {Y : Ob} (hL : Y 1 0 = (L : Int)) (hL2 : L + 4 ≤ 1600) : ∃ Y', fX4_append Y a = some Y' ∧ Y' 1 0 = ((L + 4 : Nat) : Int) ∧ (∀ i, i < L → Y' 0 i = Y 0 i) ∧ ∀ i, i < 4 → Y' 0 (L + i) = bv a i := by
  unfold fX4_append
  rw [show FU = 4995 + 1 + 1 + 1 + 1 + 1 from rfl]
  rw [append_step (L := L) (by decide) (by decide) hL (by omega), append_step (L := L + 1) (by decide) (by decide) rfl (by omega), append_step (L := L + 2) (by decide) (by decide) rfl (by omega), append_step (L := L + 3) (by decide) (by decide) rfl (by omega), lX4_append_3, bl_t (by decide) (by decide) (by decide)]
  refine ⟨_, rfl, rfl, fun i hi => ?_, fun i hi => ?_⟩
  · rw [up2_n (show 0 ≠ 1 by decide), up2_s, up1_n (by omega), up2_n (show 0 ≠ 1 by decide), up2_s, up1_n (by omega), up2_n (show 0 ≠ 1 by decide), up2_s, up1_n (by omega), up2_n (show 0 ≠ 1 by decide), up2_s, up1_n (by omega)]
  · rcases (show i = 0 ∨ i = 1 ∨ i = 2 ∨ i = 3 by omega) with e | e | e | e <;> subst e
    · rw [up2_n (show 0 ≠ 1 by decide), up2_s, up1_n (by omega), up2_n (show 0 ≠ 1 by decide), up2_s, up1_n (by omega), up2_n (show 0 ≠ 1 by decide), up2_s, up1_n (by omega), up2_n (show 0 ≠ 1 by decide), up2_s, Nat.add_zero, up1_s]
      rfl
    · rw [up2_n (show 0 ≠ 1 by decide), up2_s, up1_n (by omega), up2_n (show 0 ≠ 1 by decide), up2_s, up1_n (by omega), up2_n (show 0 ≠ 1 by decide), up2_s, up1_s]
      rfl
    · rw [up2_n (show 0 ≠ 1 by decide), up2_s, up1_n (by omega), up2_n (show 0 ≠ 1 by decide), up2_s, up1_s]
      rfl
    · rw [up2_n (show 0 ≠ 1 by decide), up2_s, up1_s]
      rfl
/-- the five numbers of feed -/
def fiv (a b c d e : Int) (q : Nat) : Int := if q = 0 then a else if q = 1 then b else if q = 2 then c else if q = 3 then d else e
theorem feed_loop {L : Nat} {kx : Ob → Option (Int × Ob)} (hL : L + 20 ≤ 1600) : ∀ (m k : Nat) (X : Ob), X 5 0 = (L : Int) → (∀ q, q < 5 → X 6 q = fiv a b c d e q) → (∀ j, j ≠ 4 → j ≠ 6 → X j = M j) → (∀ i, i < L → X 4 i = M 4 i) → (∀ i, i < k → X 4 (L + i) = bv (fiv a b c d e (i / 4)) (i % 4)) → k ≤ 20 → 20 - k < m → ∃ X', lX8_feed_55 kx m (k : Int) X = kx X' ∧ (∀ j, j ≠ 4 → j ≠ 6 → X' j = M j) ∧ (∀ i, i < L → X' 4 i = M 4 i) ∧ ∀ i, i < 20 → X' 4 (L + i) = bv (fiv a b c d e (i / 4)) (i % 4) := by
  intro m
  induction m with
  | zero => intro k X _ _ _ _ _ _ h; omega
  | succ m ih =>
    intro k X x5 x6 xj xo xn h1 h2
    rw [lX8_feed_55]
    by_cases ck : k = 20
    · subst ck
      rw [be_t (by decide) (by decide) (by decide)]
      exact ⟨X, rfl, xj, xo, xn⟩
    · rw [be_f (by omega) (by omega) (by omega), jdv_n (by omega) (by omega) (by decide) (by decide), jrm_n (by omega) (by omega) (by decide) (by decide), x5, gi (by omega) (by omega) (by decide), gi (by omega) (by omega) (by decide), nm_e', nm_e', ix_e (z := (k : Int) / 4) (by omega) (by omega), ix_e (z := (L : Int) + (k : Int)) (by omega) (by omega), show ((k : Int) / 4).toNat = k / 4 from by omega, show ((L : Int) + (k : Int)).toNat = L + k from by omega, x6 (k / 4) (by omega), show (24 : Int) - 8 * ((k : Int) % 4) = 24 - 8 * ((k % 4 : Nat) : Int) from by omega]
      refine ih (k + 1) _ (by rw [up2_n (by decide)]; exact x5) (fun q hq => by rw [up2_n (by decide)]; exact x6 q hq) (fun j h4 h6 => by rw [up2_n h4]; exact xj j h4 h6) (fun i hi => by rw [up2_s, up1_n (by omega)]; exact xo i hi) (fun i hi => ?_) (by omega) (by omega)
      rw [up2_s]
      by_cases ci : i = k
      · subst ci; rw [up1_s]; rfl
      · rw [up1_n (by omega)]; exact xn i (by omega)
theorem op_feed (h : Inv2 n T J M) (hn : n + 1 ≤ 512) : Nx n T J (fX7_feed T a b c d e) (fX8_feed M a b c d e) := by
  have ht := h.1.tape
  have hb := ht.b
  unfold fX7_feed fX8_feed
  rw [ht.len]
  by_cases cc : M 5 0 + 20 ≤ 1600
  · obtain ⟨L, hL⟩ : ∃ L : Nat, M 5 0 = (L : Int) := ⟨(M 5 0).toNat, by omega⟩
    obtain ⟨Y1, p1, p2, p3, p4⟩ := append7 (a := a) (L := L) (Y := T 0) (by rw [ht.len, hL]) (by omega)
    obtain ⟨Y2, q1, q2, q3, q4⟩ := append7 (a := b) (L := L + 4) (Y := Y1) p2 (by omega)
    obtain ⟨Y3, r1, r2, r3, r4⟩ := append7 (a := c) (L := L + 4 + 4) (Y := Y2) q2 (by omega)
    obtain ⟨Y4, s1, s2, s3, s4⟩ := append7 (a := d) (L := L + 4 + 4 + 4) (Y := Y3) r2 (by omega)
    obtain ⟨Y5, t1, t2, t3, t4⟩ := append7 (a := e) (L := L + 4 + 4 + 4 + 4) (Y := Y4) s2 (by omega)
    have hY : ∀ i, i < 20 → Y5 0 (L + i) = bv (fiv a b c d e (i / 4)) (i % 4) := fun i hi => by
      by_cases c1 : i < 4
      · rw [t3 _ (by omega), s3 _ (by omega), r3 _ (by omega), q3 _ (by omega), p4 i c1, show i / 4 = 0 from by omega, show i % 4 = i from by omega]; rfl
      · by_cases c2 : i < 8
        · rw [t3 _ (by omega), s3 _ (by omega), r3 _ (by omega), show L + i = L + 4 + (i - 4) from by omega, q4 (i - 4) (by omega), show i / 4 = 1 from by omega, show i % 4 = i - 4 from by omega]; rfl
        · by_cases c3 : i < 12
          · rw [t3 _ (by omega), s3 _ (by omega), show L + i = L + 4 + 4 + (i - 8) from by omega, r4 (i - 8) (by omega), show i / 4 = 2 from by omega, show i % 4 = i - 8 from by omega]; rfl
          · by_cases c4 : i < 16
            · rw [t3 _ (by omega), show L + i = L + 4 + 4 + 4 + (i - 12) from by omega, s4 (i - 12) (by omega), show i / 4 = 3 from by omega, show i % 4 = i - 12 from by omega]; rfl
            · rw [show L + i = L + 4 + 4 + 4 + 4 + (i - 16) from by omega, t4 (i - 16) (by omega), show i / 4 = 4 from by omega, show i % 4 = i - 16 from by omega]; rfl
    have hY0 : ∀ i, i < L → Y5 0 i = T 0 0 i := fun i hi => by rw [t3 _ (by omega), s3 _ (by omega), r3 _ (by omega), q3 _ (by omega), p3 i hi]
    obtain ⟨X, e1, e2, e3, e4⟩ := feed_loop (M := M) (a := a) (b := b) (c := c) (d := d) (e := e) (L := L) (kx := fun M_8 => nm (up2 M_8 5 0 ((M_8 5 0) + 20)) (fun M_9 => some ((M_9 5 0), M_9))) (by omega) FU 0 (up2 (up2 (up2 (up2 (up2 M 6 0 a) 6 1 b) 6 2 c) 6 3 d) 6 4 e) (by rw [up2_n (by decide), up2_n (by decide), up2_n (by decide), up2_n (by decide), up2_n (by decide)]; exact hL) (fun q hq => by
      rcases (show q = 0 ∨ q = 1 ∨ q = 2 ∨ q = 3 ∨ q = 4 by omega) with e | e | e | e | e <;> subst e <;> rfl) (fun j h4 h6 => by rw [up2_n h6, up2_n h6, up2_n h6, up2_n h6, up2_n h6]) (fun i hi => rfl) (fun i hi => by omega) (by omega) (by show _ < 5000; omega)
    rw [nm_e'] at e1
    rw [be_t cc (by omega) (by omega), be_t cc (by omega) (by omega), p1, bd_some, nm_e', upO_s, q1, bd_some, nm_e', upO_s, r1, bd_some, nm_e', upO_s, s1, bd_some, nm_e', upO_s, t1, bd_some, nm_e', upO_s, lit (by decide), nm_e', lit (by decide), nm_e', lit (by decide), nm_e', lit (by decide), nm_e', lit (by decide), nm_e', show ix 0 = 0 from by decide, show ix 1 = 1 from by decide, show ix 2 = 2 from by decide, show ix 3 = 3 from by decide, show ix 4 = 4 from by decide]
    have hx5 : X 5 0 = (L : Int) := by rw [e2 5 (by decide) (by decide)]; exact hL
    refine ⟨((L + 20 : Nat) : Int), _, _, ?_, Eq.trans e1 ?_, h.tape' hn (M' := up2 X 5 0 (X 5 0 + 20)) (T' := upO (upO (upO (upO (upO T 0 Y1) 0 Y2) 0 Y3) 0 Y4) 0 Y5) (fun i hi => by rw [upO_n hi, upO_n hi, upO_n hi, upO_n hi, upO_n hi]) (fun j h4 h5 h6 => by rw [up2_n h5]; exact e2 j h4 h6) ?_, fun k hk => by rw [upO_n (by omega), upO_n (by omega), upO_n (by omega), upO_n (by omega), upO_n (by omega)]⟩
    · rw [t2]
    · rw [up2_s, up1_s, hx5]; rfl
    · rw [upO_s]
      have e5 : up2 X 5 0 (X 5 0 + 20) 5 0 = ((L + 20 : Nat) : Int) := by rw [up2_s, up1_s, hx5]; rfl
      refine ⟨by rw [e5, t2], by rw [e5]; omega, fun k hk => ?_⟩
      rw [e5] at hk
      rw [up2_n (show 4 ≠ 5 by decide)]
      by_cases ck : k < L
      · have hq := ht.byte k (by omega)
        rw [hY0 k ck, e3 k ck]
        exact hq
      · rw [show k = L + (k - L) from by omega, hY (k - L) (by omega), e4 (k - L) (by omega)]
        exact ⟨rfl, jnb_b _⟩
  · rw [be_f (by omega) (by omega) (by omega), be_f (by omega) (by omega) (by omega)]
    exact Nx.s _ h hn
end
