/-! LAYER 2: beats: blow, blows, day; walks in thought -/
/-- both sides answer alike, and the invariant goes on -/
def Nx (n : Nat) (T : Nat → Ob) (J : Nat → Bool) (a : Option (Int × (Nat → Ob))) (b : Option (Int × Ob)) : Prop := ∃ r T' M', a = some (r, T') ∧ b = some (r, M') ∧ Inv2 (n + 1) T' J M' ∧ ∀ k, 11 ≤ k → T' k = T k
theorem Ef.nx {n : Nat} {T : Nat → Ob} {J : Nat → Bool} {M : Ob} {a : Option (Int × (Nat → Ob))} {b : Option (Int × Ob)} (e : Ef T M a b) (h : Inv2 n T J M) (hn : n + 1 ≤ 512) : Nx n T J a b := by
  obtain ⟨r, T', M', e1, e2, e3⟩ := e
  exact ⟨r, T', M', e1, e2, (h.fr e3).next hn, fun k hk => e3.1 k (by omega) (by omega) (by omega)⟩
theorem Nx.s {n : Nat} {T : Nat → Ob} {J : Nat → Bool} {M : Ob} (r : Int) (h : Inv2 n T J M) (hn : n + 1 ≤ 512) : Nx n T J (some (r, T)) (some (r, M)) := ⟨r, T, M, rfl, rfl, h.next hn, fun _ _ => rfl⟩
theorem Nx.ite {n : Nat} {T : Nat → Ob} {J : Nat → Bool} {c : Prop} [Decidable c] {a a2 : Option (Int × (Nat → Ob))} {b b2 : Option (Int × Ob)} (h1 : c → Nx n T J a b) (h2 : ¬ c → Nx n T J a2 b2) : Nx n T J (if c then a else a2) (if c then b else b2) := by
  by_cases h : c
  · rw [if_pos h, if_pos h]; exact h1 h
  · rw [if_neg h, if_neg h]; exact h2 h
theorem Inv2.beats {n : Nat} {T : Nat → Ob} {J : Nat → Bool} {M M0 A' : Ob} {u' : Nat → Int} {r : Int} (h : Inv2 n T J M) (hn : n + 1 ≤ 512) (hM0 : ∀ j, (2 ≤ j ∧ j ≤ 5) ∨ j = 12 ∨ j = 13 ∨ (25 ≤ j ∧ j ≤ 27) → M0 j = M j) (hW : WR (T 2) A' u' (400 * ((n + 1 : Nat) : Int))) (hs : SP (T 3) (M 1) A' u' r) : Inv2 (n + 1) (upO T 3 A') J (upA M0 1 u') := by
  obtain ⟨hi, hws, himg⟩ := h
  have hle : (400 * n : Int) ≤ 400 * ((n + 1 : Nat) : Int) := by omega
  have hM : ∀ j, (2 ≤ j ∧ j ≤ 5) ∨ j = 12 ∨ j = 13 ∨ (25 ≤ j ∧ j ≤ 27) → upA M0 1 u' j = M j := fun j hj => by rw [upA_n (by omega), hM0 j hj]
  refine ⟨?_, hs.2.2.2.2.2.2 hws, fun k hk hJ => by rw [hM 2 (by omega)]; exact himg k hk hJ⟩
  unfold Inv
  rw [upO_n (show 0 ≠ 3 by decide), upO_n (show 1 ≠ 3 by decide), upO_n (show 2 ≠ 3 by decide), upO_s, upA_1, hM 12 (by omega), hM 13 (by omega), hM 3 (by omega), hM 2 (by omega)]
  refine ⟨hn, ?_, hi.fault, hW, hs.2.1 hi.l2 hi.seen, by rw [hs.1 22 (by omega)]; exact hi.l2, by rw [hs.1 23 (by omega)]; exact hi.still, by rw [hs.1 24 (by omega)]; exact hi.rep, ?_, hi.has, ?_⟩
  · unfold TR
    rw [hM 5 (by omega), hM 4 (by omega)]
    exact hi.tape
  · intro j hj
    rw [upO_n (by omega)]
    unfold RR
    rw [hM 25 (by omega), hM 26 (by omega), hM 27 (by omega)]
    exact hi.row j hj
  · intro k hk hJ
    rw [upO_n (by omega), upO_n (by omega)]
    have hg := hi.img k hk hJ
    exact ⟨hg.1.le hle, hg.2⟩
theorem beats_lock {T : Nat → Ob} {M : Ob} {v : Int} {K : Nat} (hv : 0 ≤ v) (hv2 : v ≤ 39) (hK : K ≤ 400) : ∀ (m i : Nat) (acc : Int) (A : Ob) (u : Nat → Int) (B : Int), WR (T 2) A u B → u 23 = 0 → i ≤ K → K - i < m → B + ((K - i : Nat) : Int) ≤ 300000 →
    ∃ r A' u', lX7_blowMany_22 v (K : Int) m acc (i : Int) (upO T 3 A) = some (acc + r, upO T 3 A') ∧ lX8_blows_35 v (K : Int) m acc (i : Int) (upA M 1 u) = some (acc + r, upA M 1 u') ∧ WR (T 2) A' u' (B + ((K - i : Nat) : Int)) ∧ SP A u A' u' r := by
  intro m
  induction m with
  | zero => intro i acc A u B _ _ _ h; omega
  | succ m ih =>
    intro i acc A u B hW h23 h1 h2 h3
    rw [lX7_blowMany_22, lX8_blows_35]
    by_cases c : i = K
    · subst c
      refine ⟨0, A, u, ?_, ?_, hW.le (by omega), SP.refl A u⟩
      · rw [be_t (by omega) (by omega) (by omega), Int.add_zero]
      · rw [be_t (by omega) (by omega) (by omega), Int.add_zero]
    · obtain ⟨r, A', u', e1, e2, e3, e4, -⟩ := step_ok M hW (by omega) h23 hv hv2
      obtain ⟨r2, A2, u2, f1, f2, f3, f4⟩ := ih (i + 1) (acc + r) A' u' (B + 1) e3 (by rw [e4.1 23 (by omega)]; exact h23) (by omega) (by omega) (by omega)
      refine ⟨r + r2, A2, u2, ?_, ?_, f3.le (by omega), e4.trans f4⟩
      · rw [be_f (by omega) (by omega) (by omega), upO_n (show 2 ≠ 3 by decide), upO_s, e1, bd_some, nm_e', nm_e', nm_e', upO_upO, ← Int.add_assoc]
        exact f1
      · rw [be_f (by omega) (by omega) (by omega), e2, bd_some, nm_e', nm_e', ← Int.add_assoc]
        exact f2
section
variable {n : Nat} {T : Nat → Ob} {J : Nat → Bool} {M : Ob} {x z y0 : Int} {j : Nat}
theorem blow_go {v : Int} {K : Nat} (h : Inv2 n T J M) (hn : n + 1 ≤ 512) (hv : 0 ≤ v) (hv2 : v ≤ 39) (hK : K ≤ 400) : ∃ r T' M', lX7_blowMany_22 v (K : Int) FU 0 0 T = some (r, T') ∧ lX8_blows_35 v (K : Int) FU 0 0 M = some (r, M') ∧ Inv2 (n + 1) T' J M' ∧ ∀ k, 11 ≤ k → T' k = T k := by
  obtain ⟨r, A', u', e1, e2, e3, e4⟩ := beats_lock (T := T) (M := M) hv hv2 hK FU 0 0 (T 3) (M 1) (400 * n) h.1.now h.1.still (by omega) (by show _ < 5000; omega) (by omega)
  rw [upO_self, Int.zero_add] at e1
  rw [upA_self, Int.zero_add] at e2
  exact ⟨r, _, _, e1, e2, h.beats hn (fun _ _ => rfl) (e3.le (by omega)) e4, fun k hk => upO_n (by omega)⟩
theorem op_blows (h : Inv2 n T J M) (hn : n + 1 ≤ 512) (hx : R32 x) (hz : R32 z) : Nx n T J (fX7_blows T x z) (fX8_blows M x z) := by
  have hb := h.1.now.pb
  unfold fX7_blows fX8_blows fX7_blowMany
  rw [within7r hz ⟨by decide, by decide⟩ ⟨by decide, by decide⟩, in8i hz ⟨by decide, by decide⟩ ⟨by decide, by decide⟩, hasSq7 h.1.now.pr hb, isSq8 hb, isWind7 hx, jwl_e hx.1 hx.2, isWind8 (by have := hx.1; omega) (by have := hx.2; omega)]
  simp only [bd_some, bq_ite]
  by_cases c1 : M 1 1 ≠ 0
  · rw [if_pos c1, if_pos c1]
    by_cases c2 : 0 ≤ x ∧ x ≤ 39
    · rw [if_pos c2, if_pos c2]
      by_cases c3 : 0 ≤ z ∧ z ≤ 400
      · obtain ⟨K, rfl⟩ := Int.eq_ofNat_of_zero_le c3.1
        obtain ⟨r, T', M', e1, e2, e3⟩ := blow_go (K := K) h hn c2.1 c2.2 (by omega)
        rw [if_pos c3, if_pos c3, e1, e2, bd_some]
        exact ⟨r, T', M', rfl, rfl, e3⟩
      · rw [if_neg c3, if_neg c3]
        exact Nx.s _ h hn
    · rw [if_neg c2, if_neg c2, bd_some]
      by_cases c3 : 0 ≤ z ∧ z ≤ 400
      · rw [if_pos c3]
        exact Nx.s _ h hn
      · rw [if_neg c3]
        exact Nx.s _ h hn
  · rw [if_neg c1, if_neg c1, bd_some]
    by_cases c3 : 0 ≤ z ∧ z ≤ 400
    · rw [if_pos c3]
      exact Nx.s _ h hn
    · rw [if_neg c3]
      exact Nx.s _ h hn
theorem op_blow (h : Inv2 n T J M) (hn : n + 1 ≤ 512) (hx : R32 x) : Nx n T J (fX7_blow T x) (fX8_blow M x) := by
  have hb := h.1.now.pb
  unfold fX7_blow fX8_blow fX7_blowMany
  rw [hasSq7 h.1.now.pr hb, isSq8 hb, isWind7 hx, jwl_e hx.1 hx.2, isWind8 (by have := hx.1; omega) (by have := hx.2; omega)]
  simp only [bd_some, bq_ite]
  by_cases c1 : M 1 1 ≠ 0
  · rw [if_pos c1, if_pos c1]
    by_cases c2 : 0 ≤ x ∧ x ≤ 39
    · rw [if_pos c2, if_pos c2]
      obtain ⟨r, A', u', e1, e2, e3, e4, -⟩ := step_ok M h.1.now (by omega) h.1.still c2.1 c2.2
      rw [upA_self] at e2
      rw [show FU = 4998 + 1 + 1 from rfl, lX7_blowMany_22, be_f (by decide) (by decide) (by decide), e1, bd_some, nm_e', nm_e', nm_e', lX7_blowMany_22, be_t (by decide) (by decide) (by decide), bd_some, e2, bd_some, Int.zero_add]
      exact ⟨r, _, _, rfl, rfl, h.beats hn (fun _ _ => rfl) (e3.le (by omega)) e4, fun k hk => upO_n (by omega)⟩
    · rw [if_neg c2, if_neg c2, bd_some]
      exact Nx.s _ h hn
  · rw [if_neg c1, if_neg c1, bd_some]
    exact Nx.s _ h hn
theorem op_day (h : Inv2 n T J M) (hn : n + 1 ≤ 512) (hx : R32 x) : Nx n T J (fX7_day T x) (fX8_day M x) := by
  have hb := h.1.now.pb
  unfold fX7_day fX8_day
  obtain ⟨q, e1, e2, e3⟩ := asks_eq h.1 hx
  rw [e1, e2, bd_some, bd_some]
  rcases e3 with ⟨rfl, j, rfl, ho⟩ | e3
  · obtain ⟨hj, hsq, hh, hw⟩ := ho
    obtain ⟨r, A', u', f1, f2, f3, f4⟩ := row_ok hj (h.1.row j hj) hh hw h.1.now h.1.still (by omega)
    rw [upA_self] at f2
    rw [bq_t rfl, be_t (by decide) (by decide) (by decide), gi (by omega) (by omega) (by omega), ix_nat (by omega), f1, bd_some, nm_e', f2, bd_some]
    exact ⟨r, _, _, rfl, rfl, h.beats hn (fun _ _ => rfl) (f3.le (by omega)) f4, fun k hk => upO_n (by omega)⟩
  · rw [bq_f (by omega) (by omega) (by omega) (by omega) (by omega), be_f (by omega) (by omega) (by omega)]
    exact Nx.s _ h hn
/-! walks in thought -/
theorem wr_begin {Tb : Nat → Ob} (h : Inv n T J M) (b2 : PR (Tb 4) (M 1)) (b3 : AEq (Tb 5) (T 3)) : WR (Tb 4) (Tb 5) (M 1) (400 * n) := ⟨h.now.pb, b2, h.now.ab, b3.ar h.now.pb h.now.ar⟩
theorem wake_fr {X : Ob} (h15 : ∀ k, k < 1419 → X 15 k = M 1 k) (hX : ∀ j, (2 ≤ j ∧ j ≤ 5) ∨ j = 12 ∨ j = 13 ∨ (25 ≤ j ∧ j ≤ 27) → X j = M j) : ∃ M', fX8_wakes X = some M' ∧ ∀ T' : Nat → Ob, (∀ i, i ≠ 4 → i ≠ 5 → i ≠ 10 → T' i = T i) → Fr T M T' M' := by
  refine ⟨_, wakes8 X, fun T' hT' => ⟨hT', fun k hk => ?_, fun i hi => ?_⟩⟩
  · rw [upA_1, if_pos hk, h15 k hk]
  · rw [upA_n (by omega), hX i hi]
theorem wake_fr0 {u : Nat → Int} : ∃ M', fX8_wakes (upA (Mk M) 1 u) = some M' ∧ ∀ T' : Nat → Ob, (∀ i, i ≠ 4 → i ≠ 5 → i ≠ 10 → T' i = T i) → Fr T M T' M' := wake_fr (fun k hk => by rw [upA_n (by decide)]; exact if_pos hk) (fun i hi => by rw [upA_n (by omega)]; exact upA_n (by omega))
theorem Mk_self : upA (Mk M) 1 (M 1) = Mk M := upA_self (M := Mk M) (k := 1)
/-- what a walk in thought knows of its row -/
def rowIn (T : Nat → Ob) (M : Ob) (j : Nat) (Tb : Nat → Ob) : Prop := rowOk M j ∧ RR (T (6 + j)) M j ∧ ∀ i, i ≠ 4 → i ≠ 5 → Tb i = T i
theorem walk_step {Td : Nat → Ob} {u : Nat → Int} {B : Int} {i : Nat} (h : rowIn T M j Td) (hW : WR (Td 4) (Td 5) u B) (hB : B ≤ 300000) (h23 : u 23 = 0) (hi : (i : Int) < M 25 j) :
    ∃ v r A' u', fX2_windAt (Td (6 + j)) (i : Int) = some v ∧ fX8_windOf (upA (Mk M) 1 u) (j : Int) (i : Int) = some v ∧ fX3_playWind (Td 4) (Td 5) v = some (r, A') ∧ fX8_beat (upA (Mk M) 1 u) v = some (r, upA (Mk M) 1 u') ∧ WR (Td 4) A' u' (B + 1) ∧ SP (Td 5) u A' u' r := by
  obtain ⟨⟨hj, hsq, hh, hw⟩, hr, hT⟩ := h
  have hl := hr.lenB hh
  have hv := hw i hi
  obtain ⟨r, A', u', e1, e2, e3, e4, -⟩ := step_ok (Mk M) hW hB h23 hv.1 hv.2
  refine ⟨_, r, A', u', ?_, windOf8 hj (by omega), e1, e2, e3, e4⟩
  rw [hT (6 + j) (by omega) (by omega), windAt7 hr hh (by omega)]
  rfl
theorem rowIn.up {Td : Nat → Ob} {A' : Ob} (h : rowIn T M j Td) : rowIn T M j (upO Td 5 A') := ⟨h.1, h.2.1, fun i h4 h5 => by rw [upO_n h5, h.2.2 i h4 h5]⟩
theorem rowIn.len {Td : Nat → Ob} (h : rowIn T M j Td) : Td (6 + j) 2 0 = M 25 j ∧ 0 ≤ M 25 j ∧ M 25 j ≤ 60 ∧ j < 4 := by
  obtain ⟨⟨hj, hsq, hh, hw⟩, hr, hT⟩ := h
  rw [hT (6 + j) (by omega) (by omega)]
  exact ⟨(hr.len hh).1, (hr.lenB hh).1, (hr.lenB hh).2, hj⟩
theorem wear_loop {kx : Int → Ob → Option (Int × Ob)} : ∀ (m i : Nat) (acc : Int) (Td : Nat → Ob) (u : Nat → Int) (B : Int), rowIn T M j Td → WR (Td 4) (Td 5) u B → u 23 = 0 → (i : Int) ≤ M 25 j → M 25 j - i < m → B + (M 25 j - i) ≤ 300000 →
    ∃ r T' u', lX7_wear_21 (j : Int) m acc (i : Int) Td = some (r, T') ∧ lX8_wear_21 (j : Int) kx m acc (i : Int) (upA (Mk M) 1 u) = kx r (upA (Mk M) 1 u') ∧ ∀ i, i ≠ 4 → i ≠ 5 → T' i = T i := by
  intro m
  induction m with
  | zero => intro i acc Td u B _ _ _ h1 h2; omega
  | succ m ih =>
    intro i acc Td u B hR hW h23 h1 h2 h3
    obtain ⟨l1, l2, l3, l4⟩ := hR.len
    rw [lX7_wear_21, lX8_wear_21]
    simp only [nm_e']
    rw [gi (z := (j : Int)) (n := 4) (by omega) (by omega) (by omega), gi (z := (j : Int)) (n := 4) (by omega) (by omega) (by omega), gi (z := (j : Int)) (n := 4) (by omega) (by omega) (by omega), ix_nat (n := j) (by omega), l1, upA_n (show 25 ≠ 1 by decide), show Mk M 25 = M 25 from rfl]
    by_cases c : M 25 j ≤ i
    · rw [be_t c (by omega) (by omega), be_t c (by omega) (by omega)]
      exact ⟨acc, Td, u, rfl, rfl, hR.2.2⟩
    · obtain ⟨v, r, A', u', e1, e2, e3, e4, e5, e6⟩ := walk_step (i := i) hR hW (by omega) h23 (by omega)
      have hs := e6.2.2.1; have hs2 := e6.2.2.2.1
      have ht := e5.ab.thrown; have hbe := e5.ab.beats; have hca := e5.ab.caught; have hlo := hW.ab.lost; have hce := hW.ab.cells
      rw [be_f (by omega) (by omega) (by omega), be_f (by omega) (by omega) (by omega), e1, bd_some, e3, bd_some, lit (by decide), e2, bd_some, e4, bd_some]
      dsimp only
      rw [be_t (by omega) (by omega) (by omega), lit (by decide), upO_s, show ix 15 = 15 from by decide, upA_1, upA_1, hW.ar.a1, e5.ar.a1]
      exact ih (i + 1) _ (upO Td 5 A') u' (B + 1) hR.up (by rw [upO_n (by decide), upO_s]; exact e5) (by rw [e6.1 23 (by omega)]; exact h23) (by omega) (by omega) (by omega)
theorem op_wear (h : Inv n T J M) (hx : R32 x) : Ef T M (fX7_wear T x) (fX8_wear M x) := by
  have hn := h.n
  unfold fX7_wear fX8_wear
  obtain ⟨q, e1, e2, e3⟩ := asks_eq h hx
  rw [e1, e2, bd_some, bd_some]
  rcases e3 with ⟨rfl, j, rfl, ho⟩ | e3
  · obtain ⟨Tb, b1, b2, b3, b4⟩ := begin_ok h
    have hR : rowIn T M j Tb := ⟨ho, h.row j ho.1, b4⟩
    obtain ⟨l1, l2, l3, l4⟩ := hR.len
    obtain ⟨r, T', u', f1, f2, f3⟩ := wear_loop (kx := fun lx3_11 M_12 => bd (fX8_wakes M_12) (fun rr_13 => some (lx3_11, rr_13))) FU 0 0 Tb (M 1) (400 * n) hR (wr_begin h b2 b3) h.still (by omega) (by show _ < ((5000 : Nat) : Int); omega) (by omega)
    obtain ⟨M', g1, g2⟩ := wake_fr0 (T := T) (M := M) (u := u')
    rw [bq_t rfl, be_t (by decide) (by decide) (by decide), b1, bd_some, thinksMk, bd_some]
    rw [Mk_self] at f2
    exact ⟨r, T', M', f1, f2.trans (by rw [g1, bd_some]), g2 T' (fun i h4 h5 _ => f3 i h4 h5)⟩
  · rw [bq_f (by omega) (by omega) (by omega) (by omega) (by omega), be_f (by omega) (by omega) (by omega)]
    exact Ef.s _
theorem idle_loop {kx : Int → Ob → Option (Int × Ob)} : ∀ (m i : Nat) (acc : Int) (Td : Nat → Ob) (u : Nat → Int) (B : Int), rowIn T M j Td → WR (Td 4) (Td 5) u B → u 23 = 0 → (i : Int) ≤ M 25 j → M 25 j - i < m → B + (M 25 j - i) ≤ 300000 →
    ∃ r T' u', lX7_idle_21 (j : Int) m acc (i : Int) Td = some (r, T') ∧ lX8_idle_21 (j : Int) kx m acc (i : Int) (upA (Mk M) 1 u) = kx r (upA (Mk M) 1 u') ∧ ∀ i, i ≠ 4 → i ≠ 5 → T' i = T i := by
  intro m
  induction m with
  | zero => intro i acc Td u B _ _ _ h1 h2; omega
  | succ m ih =>
    intro i acc Td u B hR hW h23 h1 h2 h3
    obtain ⟨l1, l2, l3, l4⟩ := hR.len
    rw [lX7_idle_21, lX8_idle_21]
    simp only [nm_e']
    rw [gi (z := (j : Int)) (n := 4) (by omega) (by omega) (by omega), gi (z := (j : Int)) (n := 4) (by omega) (by omega) (by omega), gi (z := (j : Int)) (n := 4) (by omega) (by omega) (by omega), ix_nat (n := j) (by omega), l1, upA_n (show 25 ≠ 1 by decide), show Mk M 25 = M 25 from rfl]
    by_cases c : M 25 j ≤ i
    · rw [be_t c (by omega) (by omega), be_t c (by omega) (by omega)]
      exact ⟨acc, Td, u, rfl, rfl, hR.2.2⟩
    · obtain ⟨v, r, A', u', e1, e2, e3, e4, e5, e6⟩ := walk_step (i := i) hR hW (by omega) h23 (by omega)
      have hs := e6.2.2.1; have hs2 := e6.2.2.2.1
      have ht := e5.ab.thrown; have hbe := e5.ab.beats; have hca := e5.ab.caught; have hlo := hW.ab.lost; have hce := hW.ab.cells
      rw [be_f (by omega) (by omega) (by omega), be_f (by omega) (by omega) (by omega), e1, bd_some, e3, bd_some, e2, bd_some, e4, bd_some]
      dsimp only
      rw [bl_f (by omega) (by omega) (by omega), lit (by decide), upO_s, show ix 15 = 15 from by decide, upA_1, e5.ar.a1]
      by_cases c2 : i32 (u' 15) = i32 0
      · rw [bq_p c2, bq_p c2]
        exact ih (i + 1) _ (upO Td 5 A') u' (B + 1) hR.up (by rw [upO_n (by decide), upO_s]; exact e5) (by rw [e6.1 23 (by omega)]; exact h23) (by omega) (by omega) (by omega)
      · rw [bq_n c2, bq_n c2, Int.add_zero]
        exact ih (i + 1) _ (upO Td 5 A') u' (B + 1) hR.up (by rw [upO_n (by decide), upO_s]; exact e5) (by rw [e6.1 23 (by omega)]; exact h23) (by omega) (by omega) (by omega)
theorem op_idle (h : Inv n T J M) (hx : R32 x) : Ef T M (fX7_idle T x) (fX8_idle M x) := by
  have hn := h.n
  unfold fX7_idle fX8_idle
  obtain ⟨q, e1, e2, e3⟩ := asks_eq h hx
  rw [e1, e2, bd_some, bd_some]
  rcases e3 with ⟨rfl, j, rfl, ho⟩ | e3
  · obtain ⟨Tb, b1, b2, b3, b4⟩ := begin_ok h
    have hR : rowIn T M j Tb := ⟨ho, h.row j ho.1, b4⟩
    obtain ⟨l1, l2, l3, l4⟩ := hR.len
    obtain ⟨r, T', u', f1, f2, f3⟩ := idle_loop (kx := fun lx3_11 M_12 => bd (fX8_wakes M_12) (fun rr_13 => some (lx3_11, rr_13))) FU 0 0 Tb (M 1) (400 * n) hR (wr_begin h b2 b3) h.still (by omega) (by show _ < ((5000 : Nat) : Int); omega) (by omega)
    obtain ⟨M', g1, g2⟩ := wake_fr0 (T := T) (M := M) (u := u')
    rw [bq_t rfl, be_t (by decide) (by decide) (by decide), b1, bd_some, thinksMk, bd_some]
    rw [Mk_self] at f2
    exact ⟨r, T', M', f1, f2.trans (by rw [g1, bd_some]), g2 T' (fun i h4 h5 _ => f3 i h4 h5)⟩
  · rw [bq_f (by omega) (by omega) (by omega) (by omega) (by omega), be_f (by omega) (by omega) (by omega)]
    exact Ef.s _
end
