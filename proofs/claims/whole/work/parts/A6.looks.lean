/-! LAYER 2: winds, mist, bows, sums, counts, room for tables -/
section
variable {n : Nat} {T : Nat → Ob} {J : Nat → Bool} {M : Ob} {x z y0 a b : Int}
theorem makes_eq {h v : Int} {j : Nat} (hb : PB (M 1)) (hp : PR (T 2) (M 1)) (hj : j < 4) (hr : RR (T (6 + j)) M j) (hn : M 25 j ≠ -1) (hh : 0 ≤ h) (hh2 : h ≤ 60) (hv : 0 ≤ v) (hv2 : v ≤ 39) : ∀ (m i : Nat), (i : Int) ≤ M 25 j → M 25 j - i < m → (lX7_makesMarks_3 T (2 * pcN h) v j m (i : Int) = some 0 ∧ lX8_makes_3 M (j : Int) h v m (i : Int) = some 0) ∨ (lX7_makesMarks_3 T (2 * pcN h) v j m (i : Int) = some 1 ∧ lX8_makes_3 M (j : Int) h v m (i : Int) = some 1) := by
  have hl := hr.lenB hn
  have b1 := hb.b1; have b2 := hb.b2; have b10 := hb.b10
  intro m
  induction m with
  | zero => intro i h1 h2; omega
  | succ m ih =>
    intro i h1 h2
    rw [lX7_makesMarks_3, lX8_makes_3, (hr.len hn).1, gi (z := (j : Int)) (n := 4) (by omega) (by omega) (by omega), ix_nat (n := j) (by omega)]
    by_cases c : M 25 j ≤ i
    · rw [be_t c (by omega) (by omega), be_t c (by omega) (by omega)]
      exact Or.inr ⟨rfl, rfl⟩
    · obtain ⟨z1, z2, z3⟩ := hr.num hn i (by omega)
      rw [be_f (by omega) (by omega) (by omega), be_f (by omega) (by omega) (by omega), gi (z := (i : Int)) (n := 60) (by omega) (by omega) (by omega), gi (z := 60 * (j : Int) + (i : Int)) (n := 240) (by omega) (by omega) (by omega), ix_nat (n := i) (by omega), ix_e (z := 60 * (j : Int) + (i : Int)) (by omega) (by omega), show (60 * (j : Int) + (i : Int)).toNat = 60 * j + i from by omega]
      rw [z1] at z2 z3 ⊢
      unfold fX7_placeOf
      simp only [nm_e', bd_some]
      generalize M 27 (60 * j + i) = N at *
      rw [in8 z2 z3 (by decide) (by decide) (by decide) (by decide), bd_some, bq_ite, jlc_lt z2 z3 (by decide) (by decide), show jwl (30 + 100 * 30) = 3030 from by decide, jlc_lt z2 z3 (by decide) (by decide)]
      by_cases c1 : N < 0
      · rw [if_neg (show ¬ (0 : Int) < N by omega), if_neg (show ¬ N = 0 by omega), bl_t (by decide) (by decide) (by decide), if_neg (by omega)]
        exact Or.inl ⟨rfl, rfl⟩
      · have e0 : (if (0 : Int) < N then (1 : Int) else if N = 0 then 0 else -1) = 1 ∨ (if (0 : Int) < N then (1 : Int) else if N = 0 then 0 else -1) = 0 := by
          split
          · exact Or.inl rfl
          · rw [if_pos (by omega)]; exact Or.inr rfl
        rw [bl_f (by omega) (by decide) (by omega)]
        by_cases c2 : 3030 < N
        · rw [if_pos c2, bl_t (by decide) (by decide) (by decide)]
          by_cases c3 : 0 ≤ N ∧ N ≤ 9999
          · rw [if_pos c3, jrm_n (by omega) (by omega) (by decide) (by decide), jdv_n (by omega) (by omega) (by decide) (by decide), isCell8 hb ⟨by omega, by omega⟩ ⟨by omega, by omega⟩, bd_some, bq_ite, if_neg (by omega)]
            exact Or.inl ⟨rfl, rfl⟩
          · rw [if_neg c3]
            exact Or.inl ⟨rfl, rfl⟩
        · have e1 : (if (3030 : Int) < N then (1 : Int) else if N = 3030 then 0 else -1) = 0 ∨ (if (3030 : Int) < N then (1 : Int) else if N = 3030 then 0 else -1) = -1 := by
            rw [if_neg c2]
            split
            · exact Or.inl rfl
            · exact Or.inr rfl
          rw [bl_f (a := 0) (by omega) (by omega) (by decide), if_pos (show 0 ≤ N ∧ N ≤ 9999 by omega), jrm_n (by omega) (by omega) (by decide) (by decide), jdv_n (by omega) (by omega) (by decide) (by decide), isCell8 hb ⟨by omega, by omega⟩ ⟨by omega, by omega⟩, bd_some, bq_ite]
          by_cases c3 : (0 ≤ N % 100 ∧ N % 100 < M 1 1) ∧ 0 ≤ N / 100 ∧ N / 100 < M 1 2
          · obtain ⟨r, f1, f2⟩ := hit_any (P := T 2) (h := h) (v := v) (x := N % 100) (z := N / 100) hb hp hh hh2 hv hv2 c3.1 c3.2
            rw [show N % 100 + 100 * (N / 100) = N from by omega] at f1
            rw [if_pos c3, f1, bd_some]
            rcases f2 with ⟨r1, r2, f3⟩ | ⟨r1, f3⟩
            · rw [f3, bd_some, bq_f (a := r) (by omega) (by omega) (by omega) (by omega) (by omega), bq_f (a := 1) (by decide) (by decide) (by decide) (by decide) (by decide)]
              exact ih (i + 1) (by omega) (by omega)
            · rw [f3, bd_some, bq_t r1, bq_t rfl]
              exact Or.inl ⟨rfl, rfl⟩
          · have hz0 := hB_0 (p := pOn (M 1) h v N) (n := (M 1 10).toNat) (fun s hs => tb_f (fun q => by
              by_cases ci : inB (M 1) (stX (M 1) (M 1 (25 + 2 * s)) h v) (stZ (M 1) (M 1 (25 + 2 * s)) h v)
              · rw [plc_b ci] at q; omega
              · rw [plc_n ci] at q
                by_cases ce : (0 ≤ stX (M 1) (M 1 (25 + 2 * s)) h v ∧ stX (M 1) (M 1 (25 + 2 * s)) h v < M 1 1) ∧ 0 ≤ stZ (M 1) (M 1 (25 + 2 * s)) h v ∧ stZ (M 1) (M 1 (25 + 2 * s)) h v < M 1 2
                · rw [if_pos ce] at q; omega
                · rw [if_neg ce] at q; omega))
            rw [if_neg c3, hits7 hb hp hh hh2 hv hv2 ⟨by omega, by omega⟩, bd_some, hz0.1, bq_t rfl]
            exact Or.inl ⟨rfl, rfl⟩
theorem winds_loop {h what : Int} {j : Nat} {kx : Int → Int → Option Int} (hb : PB (M 1)) (hp : PR (T 2) (M 1)) (hj : j < 4) (hr : RR (T (6 + j)) M j) (hn : M 25 j ≠ -1) (hh : 0 ≤ h) (hh2 : h ≤ 60) : ∀ (m v : Nat) (c l : Int), v ≤ 40 → 40 - v < m → ∃ c' l', lX7_winds_60 T (j : Int) h what kx m c l (v : Int) = kx c' l' ∧ ∀ kx8 : Int → Int → Option Int, lX8_winds_61 M (j : Int) h what kx8 m c l (v : Int) = kx8 c' l' := by
  have hl := hr.lenB hn
  intro m
  induction m with
  | zero => intro v c l _ h2; omega
  | succ m ih =>
    intro v c l h1 h2
    rw [lX7_winds_60]
    by_cases c0 : v = 40
    · subst c0
      refine ⟨c, l, ?_, fun kx8 => ?_⟩
      · rw [be_t (by decide) (by decide) (by decide)]
      · rw [lX8_winds_61, be_t (by decide) (by decide) (by decide)]
    · have hm := makes_eq (T := T) (h := h) (v := (v : Int)) hb hp hj hr hn hh hh2 (by omega) (by omega) FU 0 (by omega) (by show _ < ((5000 : Nat) : Int); omega)
      rw [be_f (by omega) (by omega) (by omega), gi (by omega) (by omega) (by omega), flight7 hh hh2, bd_some, ix_nat (by omega)]
      rcases hm with ⟨e1, e2⟩ | ⟨e1, e2⟩
      · obtain ⟨c', l', f1, f2⟩ := ih (v + 1) c l (by omega) (by omega)
        refine ⟨c', l', ?_, fun kx8 => ?_⟩
        · rw [show fX7_makesMarks T j (2 * pcN h) (v : Int) = some 0 from e1, bd_some, bq_t rfl, nm_e']
          exact f1
        · rw [lX8_winds_61, be_f (by omega) (by omega) (by omega), show fX8_makes M (j : Int) h (v : Int) = some 0 from e2, bd_some, bq_t rfl, nm_e']
          exact f2 kx8
      · by_cases cl : i32 l = i32 (-1)
        · obtain ⟨c', l', f1, f2⟩ := ih (v + 1) (c + 1) (v : Int) (by omega) (by omega)
          refine ⟨c', l', ?_, fun kx8 => ?_⟩
          · rw [show fX7_makesMarks T j (2 * pcN h) (v : Int) = some 1 from e1, bd_some, bq_f (by decide) (by decide) (by decide) (by decide) (by decide), nm_e', bq_p cl, nm_e']
            exact f1
          · rw [lX8_winds_61, be_f (by omega) (by omega) (by omega), show fX8_makes M (j : Int) h (v : Int) = some 1 from e2, bd_some, bq_f (by decide) (by decide) (by decide) (by decide) (by decide), nm_e', bq_p cl, nm_e']
            exact f2 kx8
        · obtain ⟨c', l', f1, f2⟩ := ih (v + 1) (c + 1) l (by omega) (by omega)
          refine ⟨c', l', ?_, fun kx8 => ?_⟩
          · rw [show fX7_makesMarks T j (2 * pcN h) (v : Int) = some 1 from e1, bd_some, bq_f (by decide) (by decide) (by decide) (by decide) (by decide), nm_e', bq_n cl, nm_e']
            exact f1
          · rw [lX8_winds_61, be_f (by omega) (by omega) (by omega), show fX8_makes M (j : Int) h (v : Int) = some 1 from e2, bd_some, bq_f (by decide) (by decide) (by decide) (by decide) (by decide), nm_e', bq_n cl, nm_e']
            exact f2 kx8
theorem op_winds (h : Inv n T J M) (hx : R32 x) (hz : R32 z) (hy : R32 y0) : Eqv (fX7_winds T x z y0) (fX8_winds M x z y0) := by
  have hb := h.now.pb
  unfold fX7_winds fX8_winds
  rw [isSlot7 hx, isSlot8 hx, bd_some, bd_some, bq_ite, bq_ite]
  refine Eqv.ite (fun c => ?_) (fun _ => Eqv.s _)
  rw [hasSq7 h.now.pr hb, isSq8 hb, bd_some, bd_some, bq_ite, bq_ite]
  refine Eqv.ite (fun c1 => ?_) (fun _ => Eqv.s _)
  rw [within7r hz ⟨by decide, by decide⟩ ⟨by decide, by decide⟩, in8i hz ⟨by decide, by decide⟩ ⟨by decide, by decide⟩, bd_some, bd_some, bq_ite, bq_ite]
  refine Eqv.ite (fun c2 => ?_) (fun _ => Eqv.s _)
  rw [within7r hy ⟨by decide, by decide⟩ ⟨by decide, by decide⟩, in8i hy ⟨by decide, by decide⟩ ⟨by decide, by decide⟩, bd_some, bd_some, bq_ite, bq_ite]
  refine Eqv.ite (fun c3 => ?_) (fun _ => Eqv.s _)
  obtain ⟨j, rfl⟩ := Int.eq_ofNat_of_zero_le c.1
  have hj : j < 4 := by omega
  have hr := h.row j hj
  rw [gi (by omega) (by omega) (by omega), gi (by omega) (by omega) (by omega), ix_nat (by omega)]
  rcases hr.has with ⟨r1, r2⟩ | ⟨r1, r2, r3⟩
  · rw [bq_t r1, bq_t r2]
    exact Eqv.s _
  · rw [bq_f (by omega) (by omega) (by omega) (by omega) (by omega), bq_f (by omega) (by omega) (by omega) (by omega) (by omega)]
    obtain ⟨c', l', e1, e2⟩ := winds_loop (T := T) (what := y0) (kx := fun lx4_13 lx5_14 => bq y0 0 (some lx4_13) (some lx5_14)) hb h.now.pr hj hr (by omega) (show 0 ≤ z by omega) c2.2 FU 0 0 (-1) (by omega) (by show _ < 5000; omega)
    have e3 := e2 (fun lx4_10 lx5_11 => bq y0 0 (some lx4_10) (some lx5_11))
    have q : Eqv (bq y0 0 (some c') (some l')) (bq y0 0 (some c') (some l')) := Eqv.bq (Eqv.s _) (Eqv.s _)
    obtain ⟨r, q1, q2⟩ := q
    exact ⟨r, e1.trans q1, e3.trans q2⟩
/-! mist -/
theorem pc_mono : ∀ h : Nat, h < 61 → ∀ h' : Nat, h' < 61 → h ≤ h' → pcN (h : Int) ≤ pcN (h' : Int) := by decide +kernel
theorem stD_mono {d v : Int} {h h' : Nat} (hd : 0 ≤ d) (h1 : h ≤ h') (h2 : h' ≤ 60) : stD d (h : Int) v ≤ stD d (h' : Int) v := by
  unfold stD
  have hp := pc_mono h (by omega) h' (by omega) h1
  have a1 : 0 ≤ d * (v % 10) := Int.mul_nonneg hd (Int.emod_nonneg v (by decide))
  exact Int.mul_le_mul_of_nonneg_left (by omega) a1
/-- the cell behind q steps by a way -/
def cX (w : Nat → Int) (v q : Int) : Int := w 3 + q * wayX (v / 10).toNat
def cZ (w : Nat → Int) (v q : Int) : Int := w 4 + q * wayY (v / 10).toNat
theorem c_inj {w : Nat → Int} {v q q' : Int} (hv : 0 ≤ v) (hv2 : v ≤ 39) (h1 : cX w v q = cX w v q') (h2 : cZ w v q = cZ w v q') : q = q' := by
  unfold cX at h1
  unfold cZ at h2
  rcases (show v / 10 = 0 ∨ v / 10 = 1 ∨ v / 10 = 2 ∨ v / 10 = 3 by omega) with e | e | e | e <;> rw [e] at h1 h2
  · rw [show wayY (0 : Int).toNat = -1 from rfl] at h2; omega
  · rw [show wayX (1 : Int).toNat = 1 from rfl] at h1; omega
  · rw [show wayY (2 : Int).toNat = 1 from rfl] at h2; omega
  · rw [show wayX (3 : Int).toNat = -1 from rfl] at h1; omega
def cIn (w : Nat → Int) (v q : Int) : Prop := (0 ≤ cX w v q ∧ cX w v q < w 1) ∧ 0 ≤ cZ w v q ∧ cZ w v q < w 2
/-- what has been marked, on both sides -/
def MiS (w : Nat → Int) (d v : Int) (h : Nat) (bf : Int) (mk : Nat → Int) : Prop :=
  (bf = -1 ∧ ∀ c : Nat, c < 900 → mk c = 0) ∨ ∃ q0 : Int, cIn w v q0 ∧ bf = cX w v q0 + 100 * cZ w v q0 ∧ (∀ h' : Nat, h ≤ h' → h' ≤ 60 → q0 ≤ stD d (h' : Int) v / 100) ∧ mk (30 * cZ w v q0 + cX w v q0).toNat = 1 ∧ ∀ c : Nat, c < 900 → mk c = 0 ∨ (mk c = 1 ∧ ∃ q : Int, q ≤ q0 ∧ cIn w v q ∧ c = (30 * cZ w v q + cX w v q).toNat)
theorem mist_loop {v : Int} {s : Nat} (hb : PB (M 1)) (hp : PR (T 2) (M 1)) (hs : (s : Int) < M 1 10) (hv : 0 ≤ v) (hv2 : v ≤ 39) : ∀ (m h : Nat) (cnt bf : Int) (X : Ob), (∀ j, j ≠ 23 → X j = M j) → MiS (M 1) (M 1 (25 + 2 * s)) v h bf (X 23) → -1 ≤ bf → bf ≤ 10000 → 1 ≤ h → h ≤ 61 → 61 - h < m → ∃ r X', lX7_mist_26 T (s : Int) v m cnt bf (h : Int) = some r ∧ lX8_mist_46 (s : Int) v m cnt (h : Int) X = some (r, X') ∧ ∀ j, j ≠ 23 → X' j = M j := by
  have b10 := hb.b10; have b1 := hb.b1; have b2 := hb.b2
  obtain ⟨t1, t2, -, -⟩ := hb.size s hs
  intro m
  induction m with
  | zero => intro h cnt bf X _ _ _ _ _ _ h2; omega
  | succ m ih =>
    intro h cnt bf X hX hM f1 f2 h0 h1 h2
    have x1 : X 1 = M 1 := hX 1 (by decide)
    have hbX : PB (X 1) := by rw [x1]; exact hb
    rw [lX7_mist_26, lX8_mist_46]
    simp only [nm_e']
    by_cases c : h = 61
    · subst c
      rw [bl_t (by decide) (by decide) (by decide), bl_t (by decide) (by decide) (by decide)]
      exact ⟨cnt, X, rfl, rfl, hX⟩
    · have hh : 0 ≤ (h : Int) := by omega
      have hh2 : (h : Int) ≤ 60 := by omega
      have hst := st_b hb t1 t2 hh hh2 hv hv2
      have hdr : fX8_dragOf X (s : Int) = some (M 1 (25 + 2 * s)) := by rw [drag8 (by omega), x1]
      have hcx : fX8_cellX X (stD (M 1 (25 + 2 * s)) (h : Int) v * wayX (v / 10).toNat) = some (stX (M 1) (M 1 (25 + 2 * s)) (h : Int) v) := by rw [cellX8 hbX t1 t2 hh hh2 hv hv2, x1]
      have hcz : fX8_cellY X (stD (M 1 (25 + 2 * s)) (h : Int) v * wayY (v / 10).toNat) = some (stZ (M 1) (M 1 (25 + 2 * s)) (h : Int) v) := by rw [cellZ8 hbX t1 t2 hh hh2 hv hv2, x1]
      have hca := caught8 hbX t1 t2 hh hh2 hv hv2
      rw [x1] at hca
      rw [bl_f (by omega) (by omega) (by omega), bl_f (a := 60) (b := (h : Int)) (by omega) (by omega) (by omega), flight7 hh hh2, bd_some, sPlace7 hb hp hs hh hh2 hv hv2, bd_some, hdr, bd_some, east8 hh hh2 hv hv2, bd_some, bd_some, south8 hh hh2 hv hv2, bd_some, hca, bd_some, hcx, bd_some, hcz, bd_some, isCell8 hbX ⟨by omega, by omega⟩ ⟨by omega, by omega⟩, bd_some, bd_some, bd_some, bd_some, bd_some, x1]
      have hX0 : stX (M 1) (M 1 (25 + 2 * s)) (h : Int) v = cX (M 1) v (stD (M 1 (25 + 2 * s)) (h : Int) v / 100) := rfl
      have hZ0 : stZ (M 1) (M 1 (25 + 2 * s)) (h : Int) v = cZ (M 1) v (stD (M 1 (25 + 2 * s)) (h : Int) v / 100) := rfl
      have hmono : ∀ h' : Nat, h + 1 ≤ h' → h' ≤ 60 → stD (M 1 (25 + 2 * s)) (h : Int) v / 100 ≤ stD (M 1 (25 + 2 * s)) (h' : Int) v / 100 := fun h' q1 q2 => Int.ediv_le_ediv (by decide) (stD_mono t1 (by omega) q2)
      have hnext : MiS (M 1) (M 1 (25 + 2 * s)) v (h + 1) bf (X 23) := by
        rcases hM with q | ⟨q0, q1, q2, q3, q4⟩
        · exact Or.inl q
        · exact Or.inr ⟨q0, q1, q2, fun h' a1 a2 => q3 h' (by omega) a2, q4⟩
      rw [hX0, hZ0]
      have hq3 : ∀ q0 : Int, (∀ h' : Nat, h ≤ h' → h' ≤ 60 → q0 ≤ stD (M 1 (25 + 2 * s)) (h' : Int) v / 100) → q0 ≤ stD (M 1 (25 + 2 * s)) (h : Int) v / 100 := fun q0 hq => hq h (by omega) (by omega)
      generalize stD (M 1 (25 + 2 * s)) (h : Int) v / 100 = q at *
      by_cases ci : inB (M 1) (cX (M 1) v q) (cZ (M 1) v q)
      · rw [plc_b ci, if_pos ci, bl_t (by decide) (by decide) (by decide), bq_f (a := 1) (b := 0) (by decide) (by decide) (by decide) (by decide) (by decide)]
        exact ih (h + 1) cnt bf X hX hnext f1 f2 (by omega) (by omega) (by omega)
      · rw [plc_n ci, if_neg ci, bq_t rfl]
        by_cases ce : (0 ≤ cX (M 1) v q ∧ cX (M 1) v q < M 1 1) ∧ 0 ≤ cZ (M 1) v q ∧ cZ (M 1) v q < M 1 2
        · rw [if_pos ce, if_pos ce, bl_f (by omega) (by omega) (by omega), bq_f (a := 1) (b := 0) (by decide) (by decide) (by decide) (by decide) (by decide), gi (by omega) (by omega) (by omega), gi (by omega) (by omega) (by omega), ix_e (by omega) (by omega)]
          by_cases cb : cX (M 1) v q + 100 * cZ (M 1) v q = bf
          · rw [bq_t cb]
            have hm1 : X 23 (30 * cZ (M 1) v q + cX (M 1) v q).toNat = 1 := by
              rcases hM with ⟨q1, -⟩ | ⟨q0, q1, q2, q3, q4, q5⟩
              · omega
              · have e1 : cX (M 1) v q = cX (M 1) v q0 := by unfold cIn at q1; omega
                have e2 : cZ (M 1) v q = cZ (M 1) v q0 := by unfold cIn at q1; omega
                rw [e1, e2]
                exact q4
            rw [hm1, bq_f (by decide) (by decide) (by decide) (by decide) (by decide)]
            exact ih (h + 1) cnt bf X hX hnext f1 f2 (by omega) (by omega) (by omega)
          · rw [bq_f cb (by omega) (by omega) (by omega) (by omega)]
            have hm0 : X 23 (30 * cZ (M 1) v q + cX (M 1) v q).toNat = 0 := by
              rcases hM with ⟨-, q1⟩ | ⟨q0, q1, q2, q3, q4, q5⟩
              · exact q1 _ (by omega)
              · rcases q5 (30 * cZ (M 1) v q + cX (M 1) v q).toNat (by omega) with q6 | ⟨q6, q', q7, q8, q9⟩
                · exact q6
                · exfalso
                  have e1 : cX (M 1) v q = cX (M 1) v q' := by unfold cIn at q8; omega
                  have e2 : cZ (M 1) v q = cZ (M 1) v q' := by unfold cIn at q8; omega
                  have e3 := c_inj hv hv2 e1 e2
                  have e4 := hq3 q0 q3
                  have e5 : q = q0 := by omega
                  subst e5
                  exact cb q2.symm
            rw [hm0, bq_t rfl, show jzb 1 = 1 from by decide]
            refine ih (h + 1) (cnt + 1) _ _ (fun j hj => by rw [up2_n hj]; exact hX j hj) (Or.inr ⟨q, ce, rfl, hmono, ?_, fun c hc => ?_⟩) (by omega) (by omega) (by omega) (by omega) (by omega)
            · rw [up2_s, up1_s]
            · rw [up2_s]
              by_cases cc : c = (30 * cZ (M 1) v q + cX (M 1) v q).toNat
              · subst cc
                rw [up1_s]
                exact Or.inr ⟨rfl, q, by omega, ce, rfl⟩
              · rw [up1_n cc]
                rcases hM with ⟨-, q1⟩ | ⟨q0, q1, q2, q3, q4, q5⟩
                · exact Or.inl (q1 c hc)
                · rcases q5 c hc with q6 | ⟨q6, q', q7, q8, q9⟩
                  · exact Or.inl q6
                  · exact Or.inr ⟨q6, q', by have := hq3 q0 q3; omega, q8, q9⟩
        · rw [if_neg ce, if_neg ce, bl_t (by decide) (by decide) (by decide), bq_t (a := 0) (b := 0) rfl]
          exact ih (h + 1) cnt bf X hX hnext f1 f2 (by omega) (by omega) (by omega)
theorem clear_loop {s v : Int} {kx : Ob → Option (Int × Ob)} : ∀ (m k : Nat) (X : Ob), (∀ j, j ≠ 23 → X j = M j) → (∀ c : Nat, c < k → X 23 c = 0) → k ≤ 900 → 900 - k < m → ∃ X', lX8_mist_21 s v kx m (k : Int) X = kx X' ∧ (∀ j, j ≠ 23 → X' j = M j) ∧ ∀ c : Nat, c < 900 → X' 23 c = 0 := by
  intro m
  induction m with
  | zero => intro k X _ _ _ h2; omega
  | succ m ih =>
    intro k X hX h0 h1 h2
    rw [lX8_mist_21]
    by_cases c : k = 900
    · subst c
      rw [be_t (by decide) (by decide) (by decide)]
      exact ⟨X, rfl, hX, h0⟩
    · rw [be_f (by omega) (by omega) (by omega), gi (by omega) (by omega) (by omega), nm_e', nm_e', ix_nat (by omega), show jzb 0 = 0 from by decide]
      exact ih (k + 1) _ (fun j hj => by rw [up2_n hj]; exact hX j hj) (fun c hc => by
        rw [up2_s]
        by_cases cc : c = k
        · subst cc; rw [up1_s]
        · rw [up1_n cc]; exact h0 c (by omega)) (by omega) (by omega)
theorem op_mist (h : Inv n T J M) (hx : R32 x) (hz : R32 z) : El T M (fX7_mist T x z) (fX8_mist M x z) := by
  have hb := h.now.pb
  unfold fX7_mist fX8_mist
  rw [isSize7 h.now.pr hb hx, isSize8 hb hx, bd_some, bd_some, bq_ite, bq_ite]
  refine El.ite (fun c => ?_) (fun _ => El.s _)
  rw [isWind7 hz, jwl_e hz.1 hz.2, isWind8 (by have := hz.1; omega) (by have := hz.2; omega), bd_some, bd_some, bq_ite, bq_ite]
  refine El.ite (fun c2 => ?_) (fun _ => El.s _)
  obtain ⟨s, rfl⟩ := Int.eq_ofNat_of_zero_le c.1
  obtain ⟨X, e1, e2, e3⟩ := clear_loop (M := M) (s := (s : Int)) (v := z) (kx := fun M_5 => lX8_mist_46 (s : Int) z FU 0 1 M_5) FU 0 M (fun _ _ => rfl) (fun c hc => by omega) (by omega) (by show _ < 5000; omega)
  obtain ⟨r, X', f1, f2, f3⟩ := mist_loop (T := T) (s := s) hb h.now.pr (by omega) c2.1 c2.2 FU 1 0 (-1) X e2 (Or.inl ⟨rfl, e3⟩) (by decide) (by decide) (by decide) (by decide) (by show _ < 5000; decide)
  exact ⟨r, X', f1, e1.trans f2, fun _ _ _ _ => rfl, fun k _ => by rw [f3 1 (by decide)], fun j hj => f3 j (by omega)⟩
end
