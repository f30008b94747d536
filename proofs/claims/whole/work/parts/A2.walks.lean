/-! LAYER 2: walks in thought: first, shut; draws: gusts, often -/
section
variable {n : Nat} {T : Nat → Ob} {J : Nat → Bool} {M : Ob} {x z y0 : Int} {j : Nat}
theorem first_loop {k : Nat} {W : Int} {kx : Int → Ob → Option (Int × Ob)} (hk : (k : Int) < M 1 11) (hnow : fX3_tableWet (T 2) (T 3) (k : Int) = some W) : ∀ (m i : Nat) (Td : Nat → Ob) (u : Nat → Int) (B : Int), rowIn T M j Td → WR (Td 4) (Td 5) u B → Pl u (M 1) → u 23 = 0 → (i : Int) ≤ M 25 j → M 25 j - i < m → B + (M 25 j - i) ≤ 300000 →
    ∃ r T' u', lX7_first_30 (j : Int) (k : Int) m (i : Int) Td = some (r, T') ∧ lX8_first_40 (j : Int) (k : Int) W kx m (-1) (i : Int) (upA (Mk M) 1 u) = kx r (upA (Mk M) 1 u') ∧ ∀ i, i ≠ 4 → i ≠ 5 → T' i = T i := by
  intro m
  induction m with
  | zero => intro i Td u B _ _ _ _ h1 h2; omega
  | succ m ih =>
    intro i Td u B hR hW hpl h23 h1 h2 h3
    obtain ⟨l1, l2, l3, l4⟩ := hR.len
    rw [lX7_first_30, lX8_first_40]
    simp only [nm_e']
    rw [gi (z := (j : Int)) (n := 4) (by omega) (by omega) (by omega), gi (z := (j : Int)) (n := 4) (by omega) (by omega) (by omega), gi (z := (j : Int)) (n := 4) (by omega) (by omega) (by omega), ix_nat (n := j) (by omega), l1, upA_n (show 25 ≠ 1 by decide), show Mk M 25 = M 25 from rfl]
    by_cases c : M 25 j ≤ i
    · rw [be_t c (by omega) (by omega), be_t c (by omega) (by omega)]
      exact ⟨-1, Td, u, rfl, rfl, hR.2.2⟩
    · obtain ⟨v, r, A', u', e1, e2, e3, e4, e5, e6⟩ := walk_step (i := i) hR hW (by omega) h23 (by omega)
      have hs := e6.2.2.1; have hs2 := e6.2.2.2.1
      have ht := e5.ab.thrown; have hbe := e5.ab.beats; have hca := e5.ab.caught; have hlo := hW.ab.lost; have hce := hW.ab.cells
      have hk' : (k : Int) < u' 11 := by rw [e6.1 11 (by omega), hpl 11 (by omega)]; exact hk
      rw [be_f (by omega) (by omega) (by omega), be_f (by omega) (by omega) (by omega), bq_t rfl, e1, bd_some, e3, bd_some, e2, bd_some, e4, bd_some]
      dsimp only
      rw [bl_f (by omega) (by omega) (by omega), upO_n (show 4 ≠ 5 by decide), upO_s, upO_n (show 2 ≠ 5 by decide), upO_n (show 3 ≠ 5 by decide), tableWet7 e5.pb e5.pr e5.ar.wet hk', bd_some, hR.2.2 2 (by decide) (by decide), hR.2.2 3 (by decide) (by decide), hnow, bd_some, wetAt8 (M := upA (Mk M) 1 u') e5.pb hk', bd_some, upA_1]
      by_cases c2 : i32 (u' (519 + (30 * u' (36 + 3 * k) + u' (35 + 3 * k)).toNat)) ≤ i32 W
      · rw [be_p c2, be_p c2]
        exact ih (i + 1) (upO Td 5 A') u' (B + 1) hR.up (by rw [upO_n (by decide), upO_s]; exact e5) (e6.1.trans hpl) (by rw [e6.1 23 (by omega)]; exact h23) (by omega) (by omega) (by omega)
      · rw [be_n c2, be_n c2]
        refine ⟨(i : Int) + 1, upO Td 5 A', u', rfl, ?_, hR.up.2.2⟩
        obtain ⟨m, rfl⟩ : ∃ k, m = k + 1 := ⟨m - 1, by omega⟩
        rw [lX8_first_40, gi (z := (j : Int)) (n := 4) (by omega) (by omega) (by omega), ix_nat (n := j) (by omega), upA_n (show 25 ≠ 1 by decide), show Mk M 25 = M 25 from rfl]
        by_cases c3 : M 25 j ≤ (i : Int) + 1
        · rw [be_t c3 (by omega) (by omega)]
        · rw [be_f (by omega) (by omega) (by omega), bq_f (by omega) (by omega) (by omega) (by omega) (by omega)]
theorem op_first (h : Inv n T J M) (hx : R32 x) (hz : R32 z) : Ef T M (fX7_first T x z) (fX8_first M x z) := by
  have hn := h.n
  have hb := h.now.pb
  have b11 := hb.b11
  unfold fX7_first fX8_first
  rw [isTable7 h.now.pr hb hz, isTable8 hb hz, bd_some, bd_some, bq_ite, bq_ite]
  refine Ef.ite (fun c2 => ?_) (fun _ => Ef.s _)
  obtain ⟨q, e1, e2, e3⟩ := asks_eq h hx
  rw [e1, e2, bd_some, bd_some]
  rcases e3 with ⟨rfl, j, rfl, ho⟩ | e3
  · obtain ⟨k, rfl⟩ := Int.eq_ofNat_of_zero_le c2.1
    have hk : (k : Int) < M 1 11 := by omega
    obtain ⟨Tb, b1, b2, b3, b4⟩ := begin_ok h
    have hR : rowIn T M j Tb := ⟨ho, h.row j ho.1, b4⟩
    obtain ⟨l1, l2, l3, l4⟩ := hR.len
    obtain ⟨r, T', u', f1, f2, f3⟩ := first_loop (kx := fun lx5_12 M_13 => jX8_first_97 M_13 lx5_12) hk (tableWet7 hb h.now.pr h.now.ar.wet hk) FU 0 Tb (M 1) (400 * n) hR (wr_begin h b2 b3) (Pl.refl _) h.still (by omega) (by show _ < ((5000 : Nat) : Int); omega) (by omega)
    obtain ⟨M', g1, g2⟩ := wake_fr0 (T := T) (M := M) (u := u')
    rw [bq_t rfl, be_t (by decide) (by decide) (by decide), b1, bd_some, thinksMk, bd_some, show fX8_wetAt (Mk M) (k : Int) = some (M 1 (519 + (30 * M 1 (36 + 3 * k) + M 1 (35 + 3 * k)).toNat)) from wetAt8 (M := Mk M) hb hk, bd_some]
    rw [Mk_self] at f2
    exact ⟨r, T', M', f1, f2.trans (by unfold jX8_first_97; rw [g1, bd_some]), g2 T' (fun i h4 h5 _ => f3 i h4 h5)⟩
  · rw [bq_f (by omega) (by omega) (by omega) (by omega) (by omega), be_f (by omega) (by omega) (by omega)]
    exact Ef.s _
theorem ice_eq2 {P A X : Ob} (hb : PB (X 1)) (hp : PR P (X 1)) (ha : ∀ c : Nat, c < 900 → A 16 c = X 1 (519 + c)) (hr : X 1 7 ≠ -1) : ∃ r, fX3_roadWet P A = some r ∧ fX8_iceOf X = some r := by
  have h1 := hb.b1; have h7 := hb.b7
  obtain ⟨r, e1, e2⟩ := ice_loop hb hp ha hr FU 0 0 (by omega) (by show _ < ((5000 : Nat) : Int); omega)
  refine ⟨r, ?_, e2⟩
  unfold fX3_roadWet
  rw [hp.p7, bq_f hr (by omega) (by omega) (by omega) (by omega)]
  exact e1
theorem shut_loop {N : Int} {kx : Int → Ob → Option (Int × Ob)} (hr : M 1 7 ≠ -1) : ∀ (m i : Nat) (Td : Nat → Ob) (u : Nat → Int) (B : Int), rowIn T M j Td → WR (Td 4) (Td 5) u B → Pl u (M 1) → u 23 = 0 → (i : Int) ≤ M 25 j → M 25 j - i < m → B + (M 25 j - i) ≤ 300000 →
    ∃ r T' u', lX7_shut_46 (j : Int) N m (i : Int) Td = some (r, T') ∧ lX8_shut_62 (j : Int) N kx m (-1) (i : Int) (upA (Mk M) 1 u) = kx r (upA (Mk M) 1 u') ∧ ∀ i, i ≠ 4 → i ≠ 5 → T' i = T i := by
  intro m
  induction m with
  | zero => intro i Td u B _ _ _ _ h1 h2; omega
  | succ m ih =>
    intro i Td u B hR hW hpl h23 h1 h2 h3
    obtain ⟨l1, l2, l3, l4⟩ := hR.len
    rw [lX7_shut_46, lX8_shut_62]
    simp only [nm_e']
    rw [gi (z := (j : Int)) (n := 4) (by omega) (by omega) (by omega), gi (z := (j : Int)) (n := 4) (by omega) (by omega) (by omega), gi (z := (j : Int)) (n := 4) (by omega) (by omega) (by omega), ix_nat (n := j) (by omega), l1, upA_n (show 25 ≠ 1 by decide), show Mk M 25 = M 25 from rfl]
    by_cases c : M 25 j ≤ i
    · rw [be_t c (by omega) (by omega), be_t c (by omega) (by omega)]
      exact ⟨-1, Td, u, rfl, rfl, hR.2.2⟩
    · obtain ⟨v, r, A', u', e1, e2, e3, e4, e5, e6⟩ := walk_step (i := i) hR hW (by omega) h23 (by omega)
      have hs := e6.2.2.1; have hs2 := e6.2.2.2.1
      have ht := e5.ab.thrown; have hbe := e5.ab.beats; have hca := e5.ab.caught; have hlo := hW.ab.lost; have hce := hW.ab.cells
      obtain ⟨ic, i1, i2⟩ := ice_eq2 (P := Td 4) (A := A') (X := upA (Mk M) 1 u') e5.pb e5.pr e5.ar.wet (by rw [upA_1, e6.1 7 (by omega), hpl 7 (by omega)]; exact hr)
      rw [be_f (by omega) (by omega) (by omega), be_f (by omega) (by omega) (by omega), bq_t rfl, e1, bd_some, e3, bd_some, e2, bd_some, e4, bd_some]
      dsimp only
      rw [bl_f (a := r) (b := 0) (by omega) (by omega) (by omega), upO_n (show 4 ≠ 5 by decide), upO_s, i1, bd_some, i2, bd_some]
      by_cases c2 : i32 ic < i32 N
      · rw [bl_p c2, bl_p c2]
        exact ih (i + 1) (upO Td 5 A') u' (B + 1) hR.up (by rw [upO_n (by decide), upO_s]; exact e5) (e6.1.trans hpl) (by rw [e6.1 23 (by omega)]; exact h23) (by omega) (by omega) (by omega)
      · rw [bl_n c2, bl_n c2]
        refine ⟨(i : Int) + 1, upO Td 5 A', u', rfl, ?_, hR.up.2.2⟩
        obtain ⟨m, rfl⟩ : ∃ k, m = k + 1 := ⟨m - 1, by omega⟩
        rw [lX8_shut_62, gi (z := (j : Int)) (n := 4) (by omega) (by omega) (by omega), ix_nat (n := j) (by omega), upA_n (show 25 ≠ 1 by decide), show Mk M 25 = M 25 from rfl]
        by_cases c3 : M 25 j ≤ (i : Int) + 1
        · rw [be_t c3 (by omega) (by omega)]
        · rw [be_f (by omega) (by omega) (by omega), bq_f (by omega) (by omega) (by omega) (by omega) (by omega)]
theorem shut_none {N : Int} (hr : M 1 7 = -1) (hN : 1 ≤ N) (hN2 : N ≤ 9999) : ∀ (m i : Nat) (Td : Nat → Ob) (u : Nat → Int) (B : Int), rowIn T M j Td → WR (Td 4) (Td 5) u B → Pl u (M 1) → u 23 = 0 → (i : Int) ≤ M 25 j → M 25 j - i < m → B + (M 25 j - i) ≤ 300000 →
    ∃ T', lX7_shut_46 (j : Int) N m (i : Int) Td = some (-1, T') ∧ ∀ i, i ≠ 4 → i ≠ 5 → T' i = T i := by
  intro m
  induction m with
  | zero => intro i Td u B _ _ _ _ h1 h2; omega
  | succ m ih =>
    intro i Td u B hR hW hpl h23 h1 h2 h3
    obtain ⟨l1, l2, l3, l4⟩ := hR.len
    rw [lX7_shut_46]
    simp only [nm_e']
    rw [gi (z := (j : Int)) (n := 4) (by omega) (by omega) (by omega), gi (z := (j : Int)) (n := 4) (by omega) (by omega) (by omega), ix_nat (n := j) (by omega), l1]
    by_cases c : M 25 j ≤ i
    · rw [be_t c (by omega) (by omega)]
      exact ⟨Td, rfl, hR.2.2⟩
    · obtain ⟨v, r, A', u', e1, e2, e3, e4, e5, e6⟩ := walk_step (i := i) hR hW (by omega) h23 (by omega)
      have hrw : fX3_roadWet (Td 4) A' = some (-1) := by
        unfold fX3_roadWet
        rw [e5.pr.p7, e6.1 7 (by omega), hpl 7 (by omega), bq_t hr]
      rw [be_f (by omega) (by omega) (by omega), e1, bd_some, e3, bd_some]
      dsimp only
      rw [upO_n (show 4 ≠ 5 by decide), upO_s, hrw, bd_some, bl_t (by omega) (by omega) (by omega)]
      exact ih (i + 1) (upO Td 5 A') u' (B + 1) hR.up (by rw [upO_n (by decide), upO_s]; exact e5) (e6.1.trans hpl) (by rw [e6.1 23 (by omega)]; exact h23) (by omega) (by omega) (by omega)
theorem op_shut (h : Inv n T J M) (hx : R32 x) (hz : R32 z) : Ef T M (fX7_shut T x z) (fX8_shut M x z) := by
  have hn := h.n
  have hb := h.now.pb
  have b7 := hb.b7
  unfold fX7_shut fX8_shut
  rw [within7r hz ⟨by decide, by decide⟩ ⟨by decide, by decide⟩, in8i hz ⟨by decide, by decide⟩ ⟨by decide, by decide⟩, bd_some, bd_some, bq_ite, bq_ite]
  refine Ef.ite (fun c2 => ?_) (fun _ => Ef.s _)
  obtain ⟨q, e1, e2, e3⟩ := asks_eq h hx
  rw [e1, e2, bd_some, bd_some]
  rcases e3 with ⟨rfl, j, rfl, ho⟩ | e3
  · obtain ⟨Tb, b1, b2, b3, b4⟩ := begin_ok h
    have hR : rowIn T M j Tb := ⟨ho, h.row j ho.1, b4⟩
    obtain ⟨l1, l2, l3, l4⟩ := hR.len
    rw [bq_t rfl, be_t (by decide) (by decide) (by decide), lit (by decide), show ix 7 = 7 from by decide]
    by_cases cr : M 1 7 = -1
    · obtain ⟨T', f1, f3⟩ := shut_none (N := z) cr c2.1 c2.2 FU 0 Tb (M 1) (400 * n) hR (wr_begin h b2 b3) (Pl.refl _) h.still (by omega) (by show _ < ((5000 : Nat) : Int); omega) (by omega)
      have hrw : fX3_roadWet (T 2) (T 3) = some (-1) := by
        unfold fX3_roadWet
        rw [h.now.pr.p7, bq_t cr]
      rw [hrw, bd_some, bl_t (by omega) (by omega) (by omega), b1, bd_some, bq_t cr]
      exact ⟨-1, T', M, f1, rfl, fun i h4 h5 _ => f3 i h4 h5, fun _ _ => rfl, fun _ _ => rfl⟩
    · obtain ⟨ic, i1, i2⟩ := ice_eq2 (P := T 2) (A := T 3) (X := Mk M) hb h.now.pr h.now.ar.wet cr
      rw [bq_f cr (by omega) (by omega) (by omega) (by omega), i1, bd_some, thinksMk, bd_some, i2, bd_some]
      by_cases c3 : i32 ic < i32 z
      · obtain ⟨r, T', u', f1, f2, f3⟩ := shut_loop (N := z) (kx := fun lx4_12 M_13 => jX8_shut_117 M_13 lx4_12) cr FU 0 Tb (M 1) (400 * n) hR (wr_begin h b2 b3) (Pl.refl _) h.still (by omega) (by show _ < ((5000 : Nat) : Int); omega) (by omega)
        obtain ⟨M', g1, g2⟩ := wake_fr0 (T := T) (M := M) (u := u')
        rw [bl_p c3, bl_p c3, b1, bd_some]
        rw [Mk_self] at f2
        exact ⟨r, T', M', f1, f2.trans (by unfold jX8_shut_117; rw [g1, bd_some]), g2 T' (fun i h4 h5 _ => f3 i h4 h5)⟩
      · obtain ⟨M', g1, g2⟩ := wake_fr0 (T := T) (M := M) (u := M 1)
        rw [Mk_self] at g1
        rw [bl_n c3, bl_n c3, show FU = 4999 + 1 from rfl, lX8_shut_62, gi (z := (j : Int)) (n := 4) (by omega) (by omega) (by omega), ix_nat (n := j) (by omega), show Mk M 25 = M 25 from rfl, bq_f (a := 0) (b := -1) (by decide) (by decide) (by decide) (by decide) (by decide)]
        have e : ∀ {β : Type} (a b : Int) (X : β), be a b X X = X := fun a b X => by unfold be; split <;> rfl
        rw [e]
        unfold jX8_shut_117
        rw [g1, bd_some]
        exact Ef.f rfl (g2 T (fun _ _ _ _ => rfl))
  · rw [bq_f (by omega) (by omega) (by omega) (by omega) (by omega), be_f (by omega) (by omega) (by omega)]
    exact Ef.s _
end
