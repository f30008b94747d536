/-! LAYER 2: dreams: the end of a day -/
theorem be_bl {β : Type} {a b : Int} {T F : β} : be a b T F = bl b a F T := by
  by_cases h : i32 a ≤ i32 b
  · rw [be_p h, bl_n (by rw [Int32.lt_iff_toInt_lt]; rw [Int32.le_iff_toInt_le] at h; omega)]
  · rw [be_n h, bl_p (by rw [Int32.lt_iff_toInt_lt]; rw [Int32.le_iff_toInt_le] at h; omega)]
/-- plans alike, where it counts -/
def Pm (u w : Nat → Int) : Prop := ∀ k, k < 13 ∨ k = 22 ∨ (25 ≤ k ∧ k < 71) → u k = w k
theorem Pm.pb {u w : Nat → Int} (h : Pm u w) (hb : PB w) : PB u := by
  have e0 := h 0 (by omega); have e1 := h 1 (by omega); have e2 := h 2 (by omega); have e3 := h 3 (by omega); have e4 := h 4 (by omega)
  have e5 := h 5 (by omega); have e6 := h 6 (by omega); have e7 := h 7 (by omega); have e8 := h 8 (by omega); have e9 := h 9 (by omega)
  have e10 := h 10 (by omega); have e11 := h 11 (by omega); have e12 := h 12 (by omega); have e22 := h 22 (by omega)
  have b10 := hb.b10; have b11 := hb.b11; have b12 := hb.b12
  unfold PB
  rw [e0, e1, e2, e3, e4, e5, e6, e7, e8, e9, e10, e11, e12, e22]
  refine ⟨hb.b0, hb.b1, hb.b2, hb.b3, hb.b4, hb.b5, hb.b6, hb.b7, hb.b8, hb.b9, hb.b10, hb.b11, hb.b12, hb.b22, hb.sq, hb.none, hb.some, hb.road, ?_, ?_, ?_⟩
  · intro s hs
    rw [h (25 + 2 * s) (by omega), h (26 + 2 * s) (by omega)]
    exact hb.size s hs
  · intro k hk
    rw [h (35 + 3 * k) (by omega), h (36 + 3 * k) (by omega), h (37 + 3 * k) (by omega)]
    exact hb.tab k hk
  · intro k hk
    rw [h (59 + 2 * k) (by omega), h (60 + 2 * k) (by omega)]
    exact hb.rule k hk
theorem Pm.lr {u w : Nat → Int} (h : Pm u w) {st : Int} : ∀ k : Nat, k ≤ 6 → letsR u st k = letsR w st k
  | 0, _ => rfl
  | k + 1, hk => by rw [letsR, letsR, h (59 + 2 * k) (by omega), h (60 + 2 * k) (by omega), Pm.lr h k (by omega)]
theorem Pm.pr {P : Ob} {u w : Nat → Int} (h : Pm u w) (hb : PB w) (hp : PR P w) : PR P u := by
  have e0 := h 0 (by omega); have e1 := h 1 (by omega); have e2 := h 2 (by omega); have e3 := h 3 (by omega); have e4 := h 4 (by omega)
  have e5 := h 5 (by omega); have e6 := h 6 (by omega); have e7 := h 7 (by omega); have e8 := h 8 (by omega); have e9 := h 9 (by omega)
  have e10 := h 10 (by omega); have e11 := h 11 (by omega); have e12 := h 12 (by omega); have e22 := h 22 (by omega)
  have b10 := hb.b10; have b11 := hb.b11; have b12 := hb.b12
  unfold PR
  rw [e0, e1, e2, e3, e4, e5, e6, e7, e8, e9, e10, e11, e12, e22]
  refine ⟨hp.p0, hp.p1, hp.p2, hp.p3, hp.p4, hp.p5, hp.p6, hp.p7, hp.p8, hp.p9, hp.p10, hp.p11, hp.p14, hp.p18, ?_, ?_, ?_⟩
  · intro s hs
    rw [h (25 + 2 * s) (by omega), h (26 + 2 * s) (by omega)]
    exact hp.size s hs
  · intro k hk
    rw [h (35 + 3 * k) (by omega), h (36 + 3 * k) (by omega), h (37 + 3 * k) (by omega)]
    exact hp.tab k hk
  · intro s hs
    rw [h.lr _ (by omega)]
    exact hp.lets s hs
theorem efl_c {u w : Nat → Int} {b k : Nat} (h : ∀ i, i ≠ 23 → u i = w i) : efl u b k = efl w b k := by
  have hl := lm_b b
  unfold efl upb
  rw [h 14 (by decide), h (lm b) (by omega), h 10 (by decide)]
  by_cases c : 1 ≤ b ∧ w 14 < w (lm b)
  · rw [if_pos c, if_pos c]
    refine sm_congr (fun s hs => ?_)
    have hp : lpl u (lm b) s 0 = lpl w (lm b) s 0 := by
      unfold lpl plc inB
      rw [h 1 (by decide), h 2 (by decide), h 3 (by decide), h 4 (by decide), h 5 (by decide), h (lm b + 1) (by omega), h (lm b + 2) (by omega), h (lm b + 3 + 2 * s) (by omega), h (lm b + 4 + 2 * s) (by omega), h (25 + 2 * s) (by omega)]
    show hit (lpl u (lm b) s 0) (u (26 + 2 * s)) k = hit (lpl w (lm b) s 0) (w (26 + 2 * s)) k
    rw [hp, h (26 + 2 * s) (by omega)]
  · rw [if_neg c, if_neg c]
theorem bok_c {u w : Nat → Int} {N : Nat} (hw : bok w N) (h : ∀ i, i ≠ 23 → u i = w i) (h23 : u 23 = 1) : bok u N := by
  obtain ⟨⟨hb, hn, hl⟩, h14, hwd, h15, -⟩ := hw
  have hi : ∀ b, inW u b ↔ inW w b := inW_c (h 14 (by decide))
  refine ⟨⟨Pm.pb (fun k hk => h k (by omega)) hb, by rw [h 14 (by decide)]; exact hn, fun b hb1 => ?_⟩, by rw [h 14 (by decide)]; exact h14, fun b hb1 => ?_, by rw [h 15 (by decide)]; exact h15, Or.inr h23⟩
  · have hlb := lm_b b
    have x := hl b ((hi b).mp hb1)
    rw [h (lm b) (by omega), h 14 (by decide)]
    refine ⟨x.1, fun hq => ?_⟩
    have lk := x.2 hq
    unfold lok
    rw [h 10 (by decide), h (lm b + 1) (by omega), h (lm b + 2) (by omega)]
    refine ⟨lk.1, lk.2.1, fun s hs => ?_⟩
    rw [h (lm b + 3 + 2 * s) (by omega), h (lm b + 4 + 2 * s) (by omega)]
    exact lk.2.2 s hs
  · rw [h (71 + b % 32) (by omega)]
    exact hwd b ((hi b).mp hb1)
/-- k rows, one behind the other -/
def RP (P R : Ob) : Nat → Ob → Ob → Prop
  | 0, A, A' => A' = A
  | k + 1, A, A' => ∃ r A1, fX3_playRow P A R = some (r, A1) ∧ RP P R k A1 A'
theorem RP.snoc {P R : Ob} (k : Nat) : ∀ (A A' : Ob), RP P R (k + 1) A A' → ∃ r A1, RP P R k A A1 ∧ fX3_playRow P A1 R = some (r, A') := by
  induction k with
  | zero =>
    intro A A' h
    have h' : ∃ r A1, fX3_playRow P A R = some (r, A1) ∧ A' = A1 := h
    obtain ⟨r, A1, e, h2⟩ := h'
    exact ⟨r, A, (rfl : A = A), by rw [h2]; exact e⟩
  | succ k ih =>
    intro A A' h
    have h' : ∃ r A1, fX3_playRow P A R = some (r, A1) ∧ RP P R (k + 1) A1 A' := h
    obtain ⟨r, A1, e, h2⟩ := h'
    obtain ⟨r2, A2, h3, h4⟩ := ih A1 A' h2
    exact ⟨r2, A2, (show ∃ r A1, fX3_playRow P A R = some (r, A1) ∧ RP P R k A1 A2 from ⟨r, A1, e, h3⟩), h4⟩
theorem rep_lock {P R M : Ob} {j : Nat} {a b c d e : Int} {kx : Int → Ob → Option Ob} (hj : j < 4) (hr : RR R M j) (hh : M 25 j ≠ -1) (hw : rowW M j) {K : Nat} (hK : K ≤ 10) : ∀ (m i : Nat) (acc : Int) (A : Ob) (u : Nat → Int) (B : Int), WR P A u B → u 23 = 0 → u 24 = (K : Int) → i ≤ K → K - i < m → B + 60 * ((K - i : Nat) : Int) ≤ 300000 →
    ∃ r A' u', RP P R (K - i) A A' ∧ lX8_goesDown_46 (j : Int) a b c d e kx m acc (i : Int) (upA M 1 u) = kx (acc + r) (upA M 1 u') ∧ WR P A' u' (B + 60 * ((K - i : Nat) : Int)) ∧ SP A u A' u' r ∧ u' 23 = 0 := by
  intro m
  induction m with
  | zero => intro i acc A u B _ _ _ _ h; omega
  | succ m ih =>
    intro i acc A u B hW h23 h24 hi hm hB
    rw [lX8_goesDown_46, lit (by decide), show ix 24 = 24 from by decide, upA_1, h24]
    by_cases ci : i = K
    · subst ci
      refine ⟨0, A, u, ?_, ?_, hW.le (by omega), SP.refl A u, h23⟩
      · rw [Nat.sub_self]; exact (rfl : A = A)
      · rw [be_t (by omega) (by omega) (by omega), Int.add_zero]
    · obtain ⟨r, A1, u1, e1, e2, e3, e4⟩ := row_ok hj hr hh hw hW h23 (by omega)
      obtain ⟨r2, A2, u2, f1, f2, f3, f4, f5⟩ := ih (i + 1) (acc + r) A1 u1 (B + 60) e3 (by rw [e4.1 23 (by omega)]; exact h23) (by rw [e4.1 24 (by omega)]; exact h24) (by omega) (by omega) (by omega)
      refine ⟨r + r2, A2, u2, ?_, ?_, f3.le (by omega), e4.trans f4, f5⟩
      · rw [show K - i = (K - (i + 1)) + 1 from by omega]
        exact (show ∃ r A1, fX3_playRow P A R = some (r, A1) ∧ RP P R (K - (i + 1)) A1 A2 from ⟨r, A1, e1, f1⟩)
      · rw [be_f (by omega) (by omega) (by omega), e2, bd_some, nm_e', nm_e', ← Int.add_assoc]
        exact f2
theorem cAll_all {A : Ob} {u : Nat → Int} (n : Nat) : cAll A u n 18 + cAll A u n 19 + cAll A u n 20 = sm (fun i => if 0 < A 9 i then (1 : Int) else 0) n * shS u := by
  induction n with
  | zero => show (0 : Int) + 0 + 0 = 0 * shS u; omega
  | succ n ih =>
    have h18 : cAll A u (n + 1) 18 = cAll A u n 18 + (if 0 < A 9 n then csm A u n (u 10).toNat 18 else 0) := rfl
    have h19 : cAll A u (n + 1) 19 = cAll A u n 19 + (if 0 < A 9 n then csm A u n (u 10).toNat 19 else 0) := rfl
    have h20 : cAll A u (n + 1) 20 = cAll A u n 20 + (if 0 < A 9 n then csm A u n (u 10).toNat 20 else 0) := rfl
    have hs : sm (fun i => if 0 < A 9 i then (1 : Int) else 0) (n + 1) = sm (fun i => if 0 < A 9 i then (1 : Int) else 0) n + (if 0 < A 9 n then 1 else 0) := rfl
    rw [h18, h19, h20, hs, Int.add_mul, ← ih]
    by_cases c : 0 < A 9 n
    · simp only [if_pos c, Int.one_mul]
      have h := csm_all (A := A) (w := u) (i := n) (n := (u 10).toNat)
      have hsh : shS u = sm (fun s => u (26 + 2 * s)) (u 10).toNat := rfl
      omega
    · simp only [if_neg c, Int.zero_mul]; omega
theorem cAll_nn {A : Ob} {u : Nat → Int} (hb : PB u) {n k : Nat} : 0 ≤ cAll A u n k := by
  have b10 := hb.b10
  refine sm_nn (fun i _ => ?_)
  show 0 ≤ (if 0 < A 9 i then csm A u i (u 10).toNat k else 0)
  split
  · refine sm_nn (fun s hs => ?_)
    have := hb.size s (by omega)
    exact (hit_nn (by omega)).1
  · omega
theorem cAll_le {A : Ob} {u : Nat → Int} (hb : PB u) {n i : Nat} : cAll A u n (519 + i) ≤ cAll A u n 20 := by
  have b10 := hb.b10
  refine sm_le (fun r _ => ?_)
  show (if 0 < A 9 r then csm A u r (u 10).toNat (519 + i) else 0) ≤ if 0 < A 9 r then csm A u r (u 10).toNat 20 else 0
  split
  · refine sm_le (fun s hs => ?_)
    have := hb.size s (by omega)
    exact hit_le (by omega) (by omega)
  · omega
theorem end_ok {M P A : Ob} {u : Nat → Int} {B : Int} {a b c d e lx : Int} {kx : Int → Ob → Option Ob} (hW : WR P A u B) (hB : B ≤ 300000) (h23 : u 23 = 0) :
    ∃ A' u', fX0_dropAll A P = some A' ∧ lX8_goesDown_82 a b c d e kx FU lx (upA M 1 (up1 u 23 1)) = kx (lx + (u' 19 + u' 20 - u 19 - u 20)) (upA M 1 u') ∧
      (PB u' ∧ PR P u') ∧ (A' 2 0 = u' 16 ∧ A' 4 0 = u' 18 ∧ A' 5 0 = u' 19 ∧ A' 6 0 = u' 20) ∧ (∀ i : Nat, i < 900 → A' 16 i = u' (519 + i)) ∧ u' 16 = u 16 ∧ (∀ k, k < 13 ∨ (25 ≤ k ∧ k < 71) → u' k = u k) ∧ (u 18 ≤ u' 18 ∧ u 19 ≤ u' 19 ∧ u 20 ≤ u' 20 ∧ u' 18 + u' 19 + u' 20 = u 21) ∧ ∀ i : Nat, i < 900 → u (519 + i) ≤ u' (519 + i) ∧ u' (519 + i) ≤ u' 20 := by
  have hb := hW.pb; have hp := hW.pr; have hab := hW.ab; have har := hW.ar
  have hn := hab.beats
  obtain ⟨N, hN⟩ : ∃ N : Nat, u 14 = (N : Int) := ⟨(u 14).toNat, by omega⟩
  have hbk := wr_bok hW hB hN (Or.inl h23)
  have hne : ∀ i, i ≠ 23 → up1 u 23 1 i = u i := fun i hi => up1_n hi
  have h9 : ∀ i, i < 32 → 0 ≤ A 9 i ∧ A 9 i ≤ 11 := fun i hi => by
    by_cases c : i < N
    · obtain ⟨b, hb1, rfl⟩ := ring_b hN hi c
      exact har.pace b hb1
    · rw [har.free i hi (by omega)]; omega
  have hc : ∀ i, i < 32 → 0 < A 9 i → cok A u i := fun i hi hpos => by
    by_cases c : i < N
    · obtain ⟨b, hb1, rfl⟩ := ring_b hN hi c
      have hu := har.up b hb1 hpos
      have hpc := har.pace b hb1
      unfold cok
      rw [hu.2.2.1, hu.2.2.2.1]
      refine ⟨by omega, by omega, fun s hs => ?_⟩
      have hd := har.drift b hb1 hpos s hs
      have hdb := har.driftB b hb1 hpos s hs
      omega
    · rw [har.free i hi (by omega)] at hpos
      exact absurd hpos (by decide)
  obtain ⟨z, hz⟩ := dropAll7 hb hp h9 hc
  have hSB : SB (up1 u 23 1) N ((N : Int) + 22) := ⟨bok_c hbk hne up1_s, up1_s, fun b hi hup => by
    have hl := lm_b b
    have hi' : inW u b := (inW_c (hne 14 (by decide)) b).mp hi
    rw [hne 14 (by decide), hne (lm b) (by omega)] at hup
    rw [hne (lm b) (by omega)]
    have hu := (ar_up hab har hi').mp ⟨hi'.1, hup⟩
    have h1 := har.up b hi' hu
    have h2 := har.pace b hi'
    have h3 := hi'.2.1
    omega⟩
  obtain ⟨u', s1, s2, s3, s4⟩ := still_loop (M := M) (a := a) (b := b) (c := c) (d := d) (e := e) (kx := kx) (D := (N : Int) + 22) FU N (up1 u 23 1) lx hSB (by show _ ≤ (N : Int) + ((5000 : Nat) : Int); omega) (by show 1 ≤ 5000; decide) (by omega)
  rw [hne 19 (by decide), hne 20 (by decide)] at s1
  rw [hne 16 (by decide)] at s3
  have hF : ∀ k, k = 18 ∨ k = 19 ∨ k = 20 ∨ 519 ≤ k → u' k = u k + cAll A u 32 k := fun k hk => by
    rw [s2 k hk]
    unfold Fk
    rw [hne k (by omega), sm_congr (g := fun j => efl u (N - j) k) (fun j _ => efl_c hne), drop_eq hW hN]
  have hpm : Pm u' u := fun k hk => (s4 k (by omega)).trans (hne k (by omega))
  have hca := cAll_all (A := A) (u := u) 32
  have hco : u 21 - u 18 - u 19 - u 20 = sm (fun i => if 0 < A 9 i then (1 : Int) else 0) 32 * shS u := har.cons
  have n18 := cAll_nn (A := A) hb (n := 32) (k := 18)
  have n19 := cAll_nn (A := A) hb (n := 32) (k := 19)
  have n20 := cAll_nn (A := A) hb (n := 32) (k := 20)
  have f18 := hF 18 (by omega); have f19 := hF 19 (by omega); have f20 := hF 20 (by omega)
  refine ⟨_, u', hz, s1, ⟨hpm.pb hb, hpm.pr hb hp⟩, ⟨?_, ?_, ?_, ?_⟩, ?_, s3, fun k hk => hpm k (by omega), ⟨by omega, by omega, by omega, by omega⟩, ?_⟩
  · rw [upA_n (by decide), cadd_n (by decide) (by decide) (by decide) (by decide), har.a2, s3]
  · rw [upA_n (by decide), cadd_4, har.a4, f18]
  · rw [upA_n (by decide), cadd_5, har.a5, f19]
  · rw [upA_n (by decide), cadd_6, har.a6, f20]
  · intro i hi
    rw [upA_n (by decide), cadd_16, har.wet i hi, hF (519 + i) (by omega)]
  · intro i hi
    have h1 := cAll_nn (A := A) hb (n := 32) (k := 519 + i)
    have h2 := cAll_le (A := A) hb (n := 32) (i := i)
    have h3 := hab.wet i hi
    rw [hF (519 + i) (by omega)]; omega
/-- how wet the tables are, together -/
def twt (u : Nat → Int) : Int := sm (fun k => u (519 + (30 * u (36 + 3 * k) + u (35 + 3 * k)).toNat)) (u 11).toNat
theorem allWet7 {P A : Ob} {u : Nat → Int} (hb : PB u) (hp : PR P u) (ha : ∀ c : Nat, c < 900 → A 16 c = u (519 + c)) : fX3_allTablesWet P A = some (twt u) := by
  have h11 := hb.b11
  have h : ∀ (m k : Nat), (k : Int) ≤ u 11 → u 11 - k < m → lX3_allTablesWet_4 P A m (sm (fun k => u (519 + (30 * u (36 + 3 * k) + u (35 + 3 * k)).toNat)) k) (k : Int) = some (twt u) := by
    intro m
    induction m with
    | zero => intro k h1 h2; omega
    | succ m ih =>
      intro k h1 h2
      rw [lX3_allTablesWet_4, hp.p14]
      by_cases c : u 11 ≤ k
      · rw [be_t c (by omega) (by omega)]
        unfold twt
        rw [show (u 11).toNat = k from by omega]
      · rw [be_f (by omega) (by omega) (by omega), tableWet7 hb hp ha (by omega), bd_some, nm_e', nm_e']
        exact ih (k + 1) (by omega) (by omega)
  exact h FU 0 (by omega) (by show _ < ((5000 : Nat) : Int); omega)
theorem allWet8 {M : Ob} (hb : PB (M 1)) : fX8_wetOfTables M = some (twt (M 1)) := by
  have h11 := hb.b11
  have h : ∀ (m k : Nat), (k : Int) ≤ M 1 11 → M 1 11 - k < m → lX8_wetOfTables_4 M m (sm (fun k => M 1 (519 + (30 * M 1 (36 + 3 * k) + M 1 (35 + 3 * k)).toNat)) k) (k : Int) = some (twt (M 1)) := by
    intro m
    induction m with
    | zero => intro k h1 h2; omega
    | succ m ih =>
      intro k h1 h2
      rw [lX8_wetOfTables_4, lit (by decide), show ix 11 = 11 from by decide]
      by_cases c : M 1 11 ≤ k
      · rw [be_t c (by omega) (by omega)]
        unfold twt
        rw [show (M 1 11).toNat = k from by omega]
      · rw [be_f (by omega) (by omega) (by omega), wetAt8 hb (by omega), bd_some, nm_e', nm_e']
        exact ih (k + 1) (by omega) (by omega)
  exact h FU 0 (by omega) (by show _ < ((5000 : Nat) : Int); omega)
/-- the end of goesDown -/
def dnK (a b c d e : Int) : Int → Ob → Option Ob := (fun lx7_15 M_16 => gd (inb 16 1419) (gd (inb 0 6) (nm (up2 M_16 16 (ix 0) ((M_16 1 (ix 16)) - a)) (fun M_17 => gd (inb 19 1419) (gd (inb 1 6) (nm (up2 M_17 16 (ix 1) ((M_17 1 (ix 19)) - b)) (fun M_18 => gd (inb 20 1419) (gd (inb 2 6) (nm (up2 M_18 16 (ix 2) ((M_18 1 (ix 20)) - c)) (fun M_19 => bd (fX8_overSet M_19) (fun rr_20 => gd (inb 3 6) (nm (up2 M_19 16 (ix 3) rr_20) (fun M_21 => bd (fX8_wetOfTables M_21) (fun rr_22 => gd (inb 4 6) (nm (up2 M_21 16 (ix 4) (rr_22 - d)) (fun M_23 => gd (inb 18 1419) (gd (inb 5 6) (nm (up2 M_23 16 (ix 5) ((M_23 1 (ix 18)) - e)) (fun M_24 => be 0 lx7_15 (some M_24) (gd (inb 0 6) (nm (up2 M_24 16 (ix 0) (-1000000)) (fun M_25 => some M_25))))))))))))))))))))))
theorem dn_fin {P A2 X : Ob} {a b c d e lx ov : Int} (hb : PB (X 1)) (hp : PR P (X 1)) (ha : ∀ c : Nat, c < 900 → A2 16 c = X 1 (519 + c)) (h0 : 0 ≤ lx) (h1 : lx ≤ 2147483647) (hov : fX3_tablesOver P A2 = some ov) :
    ∃ Mf, dnK a b c d e lx X = some Mf ∧ (∀ i, i ≠ 16 → Mf i = X i) ∧ Mf 16 0 = X 1 16 - a ∧ Mf 16 1 = X 1 19 - b ∧ Mf 16 2 = X 1 20 - c ∧ Mf 16 3 = ov ∧ Mf 16 4 = twt (X 1) - d ∧ Mf 16 5 = X 1 18 - e := by
  have hov8 : ∀ Y : Ob, Y 1 = X 1 → fX8_overSet Y = some ov := fun Y hY => by
    obtain ⟨r, e1, e2⟩ := over_eq (P := P) (A := A2) (M := Y) (by rw [hY]; exact hb) (by rw [hY]; exact hp) (by rw [hY]; exact ha)
    rw [e2, ← e1, hov]
  have hwt8 : ∀ Y : Ob, Y 1 = X 1 → fX8_wetOfTables Y = some (twt (X 1)) := fun Y hY => by
    rw [allWet8 (by rw [hY]; exact hb), hY]
  unfold dnK
  rw [show ix 0 = 0 from by decide, show ix 1 = 1 from by decide, show ix 2 = 2 from by decide, show ix 3 = 3 from by decide, show ix 4 = 4 from by decide, show ix 5 = 5 from by decide, show ix 16 = 16 from by decide, show ix 18 = 18 from by decide, show ix 19 = 19 from by decide, show ix 20 = 20 from by decide]
  rw [lit (by decide), lit (by decide), nm_e', lit (by decide), lit (by decide), nm_e', lit (by decide), lit (by decide), nm_e', hov8 _ (by rfl), bd_some, lit (by decide), nm_e', hwt8 _ (by rfl), bd_some, lit (by decide), nm_e', lit (by decide), lit (by decide), nm_e', be_t h0 (by omega) (by omega)]
  refine ⟨_, rfl, ?_, rfl, rfl, rfl, rfl, rfl, rfl⟩
  intro i hi
  rw [up2_n hi, up2_n hi, up2_n hi, up2_n hi, up2_n hi, up2_n hi]
theorem down_ok {M P A R : Ob} {u : Nat → Int} {B : Int} {j K : Nat} (hj : j < 4) (hr : RR R M j) (hh : M 25 j ≠ -1) (hw : rowW M j) (hK : K ≤ 10) (hW : WR P A u B) (h23 : u 23 = 0) (h24 : u 24 = (K : Int)) (hB : B + 600 ≤ 300000) :
    ∃ A1 A2 Mf ov, RP P R K A A1 ∧ fX0_dropAll A1 P = some A2 ∧ fX8_goesDown (upA M 1 u) (j : Int) = some Mf ∧ (∀ i, i ≠ 1 → i ≠ 16 → Mf i = M i) ∧
      (Mf 16 0 = Mf 1 16 - u 16 ∧ Mf 16 1 = Mf 1 19 - u 19 ∧ Mf 16 2 = Mf 1 20 - u 20 ∧ Mf 16 3 = ov ∧ Mf 16 4 = twt (Mf 1) - twt u ∧ Mf 16 5 = Mf 1 18 - u 18) ∧ fX3_tablesOver P A2 = some ov ∧
      (A2 2 0 = Mf 1 16 ∧ A2 4 0 = Mf 1 18 ∧ A2 5 0 = Mf 1 19 ∧ A2 6 0 = Mf 1 20) ∧ (∀ c : Nat, c < 900 → A2 16 c = Mf 1 (519 + c)) ∧ (PB (Mf 1) ∧ PR P (Mf 1)) ∧ (∀ k, k < 13 ∨ (25 ≤ k ∧ k < 71) → Mf 1 k = u k) ∧ (u 16 ≤ Mf 1 16 ∧ Mf 1 16 ≤ 18000000) ∧ ∀ c : Nat, c < 900 → u (519 + c) ≤ Mf 1 (519 + c) ∧ Mf 1 (519 + c) ≤ 13500000 := by
  have hb := hW.pb
  obtain ⟨r, A1, u1, f1, f2, f3, f4, f5⟩ := rep_lock (P := P) (R := R) (M := M) (a := u 16) (b := u 19) (c := u 20) (d := twt u) (e := u 18) (kx := fun lx7_9 M_10 => gd (inb 23 1419) (nm (up2 M_10 1 (ix 23) 1) (fun M_11 => lX8_goesDown_82 (u 16) (u 19) (u 20) (twt u) (u 18) (dnK (u 16) (u 19) (u 20) (twt u) (u 18)) FU lx7_9 M_11))) hj hr hh hw hK FU 0 0 A u B hW h23 h24 (by omega) (by show _ < 5000; omega) (by omega)
  rw [Nat.sub_zero] at f1 f3
  have hB1 : B + 60 * (K : Int) ≤ 300000 := by omega
  obtain ⟨A2, u2, g1, g2, g3, g4, g5, g6, g7, g8, g9⟩ := end_ok (M := M) (a := u 16) (b := u 19) (c := u 20) (d := twt u) (e := u 18) (lx := 0 + r) (kx := dnK (u 16) (u 19) (u 20) (twt u) (u 18)) f3 hB1 f5
  obtain ⟨ov, o1, -⟩ := over_eq (P := P) (A := A2) (M := upA M 1 u2) g3.1 g3.2 g5
  have hs := f4.2.2.1; have hs2 := f4.2.2.2.1; have hs3 := f4.2.2.2.2.1; have hs4 := f4.2.2.2.2.2.1
  have ht := f3.ab.thrown; have hbe := f3.ab.beats; have hsh := f3.ab.show
  have hab := hW.ab
  have c1 := hab.lost; have c2 := hab.cells; have c3 := f3.ab.caught; have c4 := f3.ab.lost; have c5 := f3.ab.cells
  obtain ⟨Mf, m1, m2, m3⟩ := dn_fin (P := P) (A2 := A2) (X := upA M 1 u2) (a := u 16) (b := u 19) (c := u 20) (d := twt u) (e := u 18) (lx := 0 + r + (u2 19 + u2 20 - u1 19 - u1 20)) g3.1 g3.2 g5 (by omega) (by omega) o1
  have hM1 : Mf 1 = u2 := m2 1 (by decide)
  refine ⟨A1, A2, Mf, ov, f1, g1, ?_, fun i h1 h16 => by rw [m2 i h16, upA_n h1], ?_⟩
  · unfold fX8_goesDown
    rw [lit (by decide), nm_e', lit (by decide), nm_e', lit (by decide), nm_e', allWet8 (M := upA M 1 u) hb, bd_some, lit (by decide), nm_e', upA_1]
    show lX8_goesDown_46 (j : Int) (u (ix 16)) (u (ix 19)) (u (ix 20)) (twt u) (u (ix 18)) (fun lx7_9 M_10 => gd (inb 23 1419) (nm (up2 M_10 1 (ix 23) 1) (fun M_11 => lX8_goesDown_82 (u (ix 16)) (u (ix 19)) (u (ix 20)) (twt u) (u (ix 18)) (dnK (u (ix 16)) (u (ix 19)) (u (ix 20)) (twt u) (u (ix 18))) FU lx7_9 M_11))) FU 0 0 (upA M 1 u) = some Mf
    rw [show ix 16 = 16 from by decide, show ix 19 = 19 from by decide, show ix 20 = 20 from by decide, show ix 18 = 18 from by decide]
    refine Eq.trans f2 ?_
    rw [lit (by decide), nm_e', show ix 23 = 23 from by decide, up2_upA, g2, m1]
  · rw [hM1]
    refine ⟨m3, o1, g4, g5, g3, fun k hk => (g7 k hk).trans (f4.1 k (by omega)), ⟨by omega, by omega⟩, fun c hc => ?_⟩
    have x1 := hs4 c hc; have x2 := g9 c hc
    omega
