/-! LAYER 2: dreams: frames, what is asked, one dream -/
def Inv2 (n : Nat) (T : Nat → Ob) (J : Nat → Bool) (M : Ob) : Prop := Inv n T J M ∧ WS (M 1) ∧ ∀ k : Nat, k < 3 → J k = true → WS (fun i => M 2 (1419 * k + i))
/-- what calls that only think leave alone -/
def Fr (T : Nat → Ob) (M : Ob) (T' : Nat → Ob) (M' : Ob) : Prop := (∀ i, i ≠ 4 → i ≠ 5 → i ≠ 10 → T' i = T i) ∧ (∀ k, k < 1419 → M' 1 k = M 1 k) ∧ ∀ j, (2 ≤ j ∧ j ≤ 5) ∨ j = 12 ∨ j = 13 ∨ (25 ≤ j ∧ j ≤ 27) → M' j = M j
theorem Fr.refl (T : Nat → Ob) (M : Ob) : Fr T M T M := ⟨fun _ _ _ _ => rfl, fun _ _ => rfl, fun _ _ => rfl⟩
theorem Fr.trans {T T1 T2 : Nat → Ob} {M M1 M2 : Ob} (h1 : Fr T M T1 M1) (h2 : Fr T1 M1 T2 M2) : Fr T M T2 M2 := ⟨fun i a b c => (h2.1 i a b c).trans (h1.1 i a b c), fun k hk => (h2.2.1 k hk).trans (h1.2.1 k hk), fun j hj => (h2.2.2 j hj).trans (h1.2.2 j hj)⟩
theorem WS_c {u w : Nat → Int} (h : ∀ k, k < 1419 → u k = w k) (hw : WS w) : WS u := by
  unfold WS at hw ⊢
  rw [h 20 (by decide), ← hw]
  exact sm_congr (fun c hc => h (519 + c) (by omega))
theorem Inv.fr {n : Nat} {T T' : Nat → Ob} {J : Nat → Bool} {M M' : Ob} (h : Inv n T J M) (f : Fr T M T' M') : Inv n T' J M' := by
  obtain ⟨hT, h1, hM⟩ := f
  unfold Inv
  rw [hT 0 (by decide) (by decide) (by decide), hT 1 (by decide) (by decide) (by decide), hT 2 (by decide) (by decide) (by decide), hT 3 (by decide) (by decide) (by decide), hM 12 (by omega), hM 13 (by omega), h1 17 (by decide), h1 22 (by decide), h1 23 (by decide), h1 24 (by decide), hM 3 (by omega), hM 2 (by omega)]
  refine ⟨h.n, ?_, h.fault, wc_wr h1 h.now, h.seen, h.l2, h.still, h.rep, ?_, h.has, ?_⟩
  · unfold TR
    rw [hM 5 (by omega), hM 4 (by omega)]
    exact h.tape
  · intro j hj
    rw [hT (6 + j) (by omega) (by omega) (by omega)]
    unfold RR
    rw [hM 25 (by omega), hM 26 (by omega), hM 27 (by omega)]
    exact h.row j hj
  · intro k hk hJ
    rw [hT (15 + 3 * k) (by omega) (by omega) (by omega), hT (16 + 3 * k) (by omega) (by omega) (by omega)]
    exact h.img k hk hJ
theorem Inv2.fr {n : Nat} {T T' : Nat → Ob} {J : Nat → Bool} {M M' : Ob} (h : Inv2 n T J M) (f : Fr T M T' M') : Inv2 n T' J M' := ⟨h.1.fr f, WS_c f.2.1 h.2.1, fun k hk hJ => by rw [f.2.2 2 (by omega)]; exact h.2.2 k hk hJ⟩
theorem Inv2.next {n : Nat} {T : Nat → Ob} {J : Nat → Bool} {M : Ob} (h : Inv2 n T J M) (hn : n + 1 ≤ 512) : Inv2 (n + 1) T J M := ⟨h.1.keep hn (fun _ _ _ _ => rfl) (fun _ _ => rfl) (fun _ _ => rfl), h.2⟩
/-- both sides answer alike, and only think -/
def Ef (T : Nat → Ob) (M : Ob) (a : Option (Int × (Nat → Ob))) (b : Option (Int × Ob)) : Prop := ∃ r T' M', a = some (r, T') ∧ b = some (r, M') ∧ Fr T M T' M'
theorem Ef.s {T : Nat → Ob} {M : Ob} (r : Int) : Ef T M (some (r, T)) (some (r, M)) := ⟨r, T, M, rfl, rfl, Fr.refl T M⟩
theorem Ef.f {T T' : Nat → Ob} {M M' : Ob} {r s : Int} (h : r = s) (f : Fr T M T' M') : Ef T M (some (r, T')) (some (s, M')) := ⟨r, T', M', rfl, by rw [h], f⟩
theorem Ef.pre {T T' : Nat → Ob} {M M' : Ob} {a : Option (Int × (Nat → Ob))} {b : Option (Int × Ob)} (f : Fr T M T' M') (h : Ef T' M' a b) : Ef T M a b := by
  obtain ⟨r, T2, M2, e1, e2, e3⟩ := h
  exact ⟨r, T2, M2, e1, e2, f.trans e3⟩
theorem Ef.ite {c : Prop} [Decidable c] {T : Nat → Ob} {M : Ob} {a a2 : Option (Int × (Nat → Ob))} {b b2 : Option (Int × Ob)} (h1 : c → Ef T M a b) (h2 : ¬ c → Ef T M a2 b2) : Ef T M (if c then a else a2) (if c then b else b2) := by
  by_cases h : c
  · rw [if_pos h, if_pos h]; exact h1 h
  · rw [if_neg h, if_neg h]; exact h2 h
/-- the slot's row can be played -/
def rowOk (M : Ob) (j : Nat) : Prop := j < 4 ∧ M 1 1 ≠ 0 ∧ M 25 j ≠ -1 ∧ rowW M j
theorem rowOk.fr {T T' : Nat → Ob} {M M' : Ob} {j : Nat} (h : rowOk M j) (f : Fr T M T' M') : rowOk M' j := by
  unfold rowOk rowW
  rw [f.2.1 1 (by decide), f.2.2 25 (by omega), f.2.2 27 (by omega)]
  exact h
theorem winds_lock {R M : Ob} {j : Nat} (hj : j < 4) (hr : RR R M j) (hh : M 25 j ≠ -1) : ∀ (m i : Nat), (i : Int) ≤ M 25 j → M 25 j - i < m → (∀ i' : Nat, i' < i → 0 ≤ M 27 (60 * j + i') ∧ M 27 (60 * j + i') ≤ 39) →
    (lX2_isOfWinds_2 R m (i : Int) = some 1 ∧ lX8_asks_32 M (j : Int) m (i : Int) = some 0 ∧ rowW M j) ∨ (lX2_isOfWinds_2 R m (i : Int) = some 0 ∧ lX8_asks_32 M (j : Int) m (i : Int) = some (-2)) := by
  have hl := hr.lenB hh
  intro m
  induction m with
  | zero => intro i h1 h2; omega
  | succ m ih =>
    intro i h1 h2 h3
    rw [lX2_isOfWinds_2, lX8_asks_32, (hr.len hh).1, gi (z := (j : Int)) (n := 4) (by omega) (by omega) (by omega), ix_nat (n := j) (by omega)]
    by_cases c : M 25 j ≤ i
    · left
      rw [be_t c (by omega) (by omega), be_t c (by omega) (by omega)]
      exact ⟨rfl, rfl, fun i' hi' => h3 i' (by omega)⟩
    · have hi : i < 60 := by omega
      obtain ⟨z1, z2, z3⟩ := hr.num hh i hi
      rw [be_f (by omega) (by omega) (by omega), be_f (by omega) (by omega) (by omega), gi (z := (i : Int)) (n := 60) (by omega) (by omega) (by omega), gi (z := (i : Int)) (n := 60) (by omega) (by omega) (by omega), gi (z := 60 * (j : Int) + (i : Int)) (n := 240) (by omega) (by omega) (by omega), ix_nat (n := i) (by omega), ix_e (z := 60 * (j : Int) + (i : Int)) (by omega) (by omega), show (60 * (j : Int) + (i : Int)).toNat = 60 * j + i from by omega]
      rw [z1] at z2 z3 ⊢
      rw [isWind8 z2 z3, bd_some, bq_ite, jlc_lt z2 z3 (by decide) (by decide), jlc_lt z2 z3 (by decide) (by decide)]
      by_cases c1 : M 27 (60 * j + i) < 0
      · right
        rw [if_neg (show ¬ (0 : Int) < M 27 (60 * j + i) by omega), if_neg (show ¬ M 27 (60 * j + i) = 0 by omega), bl_t (by decide) (by decide) (by decide), if_neg (by omega)]
        exact ⟨rfl, rfl⟩
      · have e0 : (if (0 : Int) < M 27 (60 * j + i) then (1 : Int) else if M 27 (60 * j + i) = 0 then 0 else -1) = 1 ∨ (if (0 : Int) < M 27 (60 * j + i) then (1 : Int) else if M 27 (60 * j + i) = 0 then 0 else -1) = 0 := by
          split
          · exact Or.inl rfl
          · rw [if_pos (by omega)]; exact Or.inr rfl
        rw [bl_f (by omega) (by decide) (by omega)]
        by_cases c2 : M 27 (60 * j + i) ≤ 39
        · rw [if_neg (show ¬ (40 : Int) < M 27 (60 * j + i) by omega), if_neg (show ¬ M 27 (60 * j + i) = 40 by omega), bl_t (by decide) (by decide) (by decide), if_pos ⟨by omega, c2⟩, nm_e', nm_e']
          exact ih (i + 1) (by omega) (by omega) (fun i' hi' => by
            by_cases ce : i' = i
            · subst ce; exact ⟨by omega, c2⟩
            · exact h3 i' (by omega))
        · right
          have e1 : (if (40 : Int) < M 27 (60 * j + i) then (1 : Int) else if M 27 (60 * j + i) = 40 then 0 else -1) = 1 ∨ (if (40 : Int) < M 27 (60 * j + i) then (1 : Int) else if M 27 (60 * j + i) = 40 then 0 else -1) = 0 := by
            split
            · exact Or.inl rfl
            · rw [if_pos (by omega)]; exact Or.inr rfl
          rw [bl_f (by omega) (by decide) (by omega), if_neg (by omega)]
          exact ⟨rfl, rfl⟩
theorem asks_eq {n : Nat} {T : Nat → Ob} {J : Nat → Bool} {M : Ob} {x : Int} (h : Inv n T J M) (hx : R32 x) : ∃ q, fX7_refusalOf T x = some q ∧ fX8_asks M x = some q ∧ ((q = 0 ∧ ∃ j : Nat, x = (j : Int) ∧ rowOk M j) ∨ q = -2 ∨ q = -6) := by
  have hb := h.now.pb
  unfold fX7_refusalOf fX8_asks
  rw [isSlot7 hx, isSlot8 hx, bd_some, bd_some, bq_ite, bq_ite]
  by_cases c : 0 ≤ x ∧ x ≤ 3
  · rw [if_pos c, if_pos c, hasSq7 h.now.pr hb, isSq8 hb, bd_some, bd_some, bq_ite, bq_ite]
    by_cases c2 : M 1 1 ≠ 0
    · obtain ⟨j, rfl⟩ := Int.eq_ofNat_of_zero_le c.1
      have hj : j < 4 := by omega
      have hr := h.row j hj
      rw [if_pos c2, if_pos c2, gi (by omega) (by omega) (by omega), gi (by omega) (by omega) (by omega), gi (by omega) (by omega) (by omega), ix_nat (by omega)]
      rcases hr.has with ⟨a, b⟩ | ⟨a, b1, b2⟩
      · rw [bq_t a, bq_t b]
        exact ⟨_, rfl, rfl, Or.inr (Or.inr rfl)⟩
      · rw [bq_f (by omega) (by omega) (by omega) (by omega) (by omega), bq_f (by omega) (by omega) (by omega) (by omega) (by omega)]
        rcases winds_lock hj hr (by omega) FU 0 (by omega) (by show _ < ((5000 : Nat) : Int); omega) (fun i' hi' => absurd hi' (by omega)) with ⟨e1, e2, e3⟩ | ⟨e1, e2⟩
        · refine ⟨0, ?_, e2, Or.inl ⟨rfl, j, rfl, hj, c2, by omega, e3⟩⟩
          unfold fX2_isOfWinds
          rw [show lX2_isOfWinds_2 (T (6 + j)) FU 0 = some 1 from e1, bd_some, bq_f (by decide) (by decide) (by decide) (by decide) (by decide)]
        · refine ⟨-2, ?_, e2, Or.inr (Or.inl rfl)⟩
          unfold fX2_isOfWinds
          rw [show lX2_isOfWinds_2 (T (6 + j)) FU 0 = some 0 from e1, bd_some, bq_t rfl]
    · rw [if_neg c2, if_neg c2]
      exact ⟨_, rfl, rfl, Or.inr (Or.inl rfl)⟩
  · rw [if_neg c, if_neg c]
    exact ⟨_, rfl, rfl, Or.inr (Or.inl rfl)⟩
theorem isThought_eq {n : Nat} {T : Nat → Ob} {J : Nat → Bool} {M : Ob} {x z : Int} (h : Inv n T J M) (hx : R32 x) (hz : R32 z) : (fX7_isThought T x z = some 0 ∧ fX8_isThought M x z = some 0) ∨ (fX7_isThought T x z = some 1 ∧ fX8_isThought M x z = some 1 ∧ (0 ≤ z ∧ z ≤ 5) ∧ ∃ j : Nat, x = (j : Int) ∧ rowOk M j) := by
  obtain ⟨q, e1, e2, e3⟩ := asks_eq h hx
  unfold fX7_isThought fX8_isThought
  rw [within7r hz ⟨by decide, by decide⟩ ⟨by decide, by decide⟩, in8i hz ⟨by decide, by decide⟩ ⟨by decide, by decide⟩, e1, e2, bd_some, bd_some, bd_some, bd_some, bq_ite, bq_ite]
  rcases e3 with ⟨rfl, hj⟩ | e3
  · rw [bq_t rfl, bq_t rfl]
    by_cases c : 0 ≤ z ∧ z ≤ 5
    · rw [if_pos c]
      exact Or.inr ⟨rfl, rfl, c, hj⟩
    · rw [if_neg c]
      exact Or.inl ⟨rfl, rfl⟩
  · rw [bq_f (by omega) (by omega) (by omega) (by omega) (by omega), bq_f (by omega) (by omega) (by omega) (by omega) (by omega)]
    by_cases c : 0 ≤ z ∧ z ≤ 5
    · rw [if_pos c]
      exact Or.inl ⟨rfl, rfl⟩
    · rw [if_neg c]
      exact Or.inl ⟨rfl, rfl⟩
/-- the model's world as it is kept while it thinks -/
def Mk (M : Ob) : Ob := upA M 15 (fun k => if k < 1419 then M 1 k else M 15 k)
theorem thinksMk (M : Ob) : fX8_thinks M = some (Mk M) := thinks8 M
theorem up2_A1 {X : Ob} {k : Nat} {v : Int} : up2 X 1 k v = upA X 1 (up1 (X 1) k v) := by
  funext a
  by_cases h : a = 1
  · subst h; rfl
  · rw [up2_n h, upA_n h]
theorem upO_upO {T : Nat → Ob} {k : Nat} {P Q : Ob} : upO (upO T k P) k Q = upO T k Q := by
  funext a
  by_cases h : a = k
  · subst h; rw [upO_s, upO_s]
  · rw [upO_n h, upO_n h, upO_n h]
theorem upO_self {T : Nat → Ob} {k : Nat} : upO T k (T k) = T := by
  funext a
  by_cases h : a = k
  · subst h; rw [upO_s]
  · rw [upO_n h]
theorem AB_m {u w : Nat → Int} {B : Int} (h : ∀ k, (14 ≤ k ∧ k ≤ 21) ∨ (71 ≤ k ∧ k < 1419) → u k = w k) (hb : AB w B) : AB u B := by
  have e14 := h 14 (by omega); have e15 := h 15 (by omega); have e16 := h 16 (by omega); have e18 := h 18 (by omega); have e19 := h 19 (by omega); have e20 := h 20 (by omega); have e21 := h 21 (by omega)
  unfold AB
  rw [e14, e15, e16, e18, e19, e20, e21]
  refine ⟨hb.beats, hb.high, hb.show, hb.caught, hb.lost, hb.cells, hb.thrown, ?_, ?_⟩
  · intro c hc; rw [h (519 + c) (by omega)]; exact hb.wet c hc
  · intro b hi; rw [h (71 + b % 32) (by omega)]; exact hb.wind b ((inW_c e14 b).mp hi)
theorem AR_m {A : Ob} {u w : Nat → Int} (h : ∀ k, k = 10 ∨ (14 ≤ k ∧ k ≤ 21) ∨ (25 ≤ k ∧ k < 35) ∨ (71 ≤ k ∧ k < 1419) → u k = w k) (hb : PB w) (ha : AR A w) : AR A u := by
  have b10 := hb.b10
  have e14 := h 14 (by omega); have e15 := h 15 (by omega); have e16 := h 16 (by omega); have e18 := h 18 (by omega); have e19 := h 19 (by omega); have e20 := h 20 (by omega); have e21 := h 21 (by omega)
  have e10 := h 10 (by omega)
  have hs : shS u = shS w := by
    unfold shS
    rw [e10]
    exact sm_congr (fun i hi => h (26 + 2 * i) (by omega))
  have hi := inW_c e14
  unfold AR
  rw [e14, e15, e16, e18, e19, e20, e21, e10, hs]
  refine ⟨ha.a0, ha.a1, ha.a2, ha.a4, ha.a5, ha.a6, ha.a7, ?_, ?_, ?_, ?_, ?_, ?_, ?_, ha.cons, ha.free, ha.sumB⟩
  · intro c hc; rw [h (519 + c) (by omega)]; exact ha.wet c hc
  · intro b hb1; rw [h (71 + b % 32) (by omega)]; exact ha.wind b ((hi b).mp hb1)
  · intro b hb1; exact ha.pace b ((hi b).mp hb1)
  · intro b hb1; have := lm_b b; rw [h (lm b) (by omega)]; exact ha.down b ((hi b).mp hb1)
  · intro b hb1; have := lm_b b; rw [h (lm b) (by omega), h (lm b + 1) (by omega), h (lm b + 2) (by omega)]; exact ha.up b ((hi b).mp hb1)
  · intro b hb1 hpos s hs1; have := lm_b b; rw [h (lm b + 3 + 2 * s) (by omega), h (lm b + 4 + 2 * s) (by omega)]; exact ha.drift b ((hi b).mp hb1) hpos s hs1
  · intro b hb1 hpos s hs1; have := lm_b b; rw [h (lm b + 3 + 2 * s) (by omega), h (lm b + 4 + 2 * s) (by omega)]; exact ha.driftB b ((hi b).mp hb1) hpos s hs1
theorem twt_c {u w : Nat → Int} (hb : PB w) (h : ∀ k, k = 11 ∨ (35 ≤ k ∧ k < 59) ∨ (519 ≤ k ∧ k < 1419) → u k = w k) : twt u = twt w := by
  have b1 := hb.b1; have b2 := hb.b2; have b11 := hb.b11
  unfold twt
  rw [h 11 (by omega)]
  refine sm_congr (fun k hk => ?_)
  have ht := hb.tab k (by omega)
  show u (519 + (30 * u (36 + 3 * k) + u (35 + 3 * k)).toNat) = w (519 + (30 * w (36 + 3 * k) + w (35 + 3 * k)).toNat)
  rw [h (36 + 3 * k) (by omega), h (35 + 3 * k) (by omega), h _ (by omega)]
/-- one dream, from the plan that is dreamt -/
theorem dream_go {n : Nat} {T Td : Nat → Ob} {J : Nat → Bool} {M : Ob} {j K : Nat} {u : Nat → Int} (h : Inv n T J M) (ho : rowOk M j) (hp : PR (Td 4) u) (hb : PB u) (h5 : AEq (Td 5) (T 3))
    (hu : ∀ k, k = 10 ∨ k = 11 ∨ (14 ≤ k ∧ k ≤ 21) ∨ (25 ≤ k ∧ k < 59) ∨ (71 ≤ k ∧ k < 1419) → u k = M 1 k) (h23 : u 23 = 0) (h24 : u 24 = (K : Int)) (hK : K ≤ 10) :
    ∃ A1 A2 Mf M', RP (Td 4) (T (6 + j)) K (Td 5) A1 ∧ fX0_dropAll A1 (Td 4) = some A2 ∧ fX8_goesDown (upA (Mk M) 1 u) (j : Int) = some Mf ∧ fX8_wakes Mf = some M' ∧
      (∀ T', (∀ i, i ≠ 4 → i ≠ 5 → i ≠ 10 → T' i = T i) → Fr T M T' M') ∧ (∀ Tf : Nat → Ob, Tf 2 = T 2 → Tf 3 = T 3 → Tf 4 = Td 4 → Tf 5 = A2 → ∀ q : Nat, q < 6 → fX7_gainOf Tf (q : Int) = some (M' 16 q)) ∧
      (0 ≤ M' 16 0 ∧ M' 16 0 ≤ 18000000) ∧ (PB (Mf 1) ∧ PR (Td 4) (Mf 1)) ∧ (∀ c : Nat, c < 900 → A2 16 c = Mf 1 (519 + c)) ∧ (∀ c : Nat, c < 900 → M 1 (519 + c) ≤ Mf 1 (519 + c) ∧ Mf 1 (519 + c) ≤ 13500000) ∧ (∀ k, k < 13 ∨ (25 ≤ k ∧ k < 71) → Mf 1 k = u k) ∧ Mf 15 = Mk M 15 := by
  have hn := h.n
  obtain ⟨hj, hsq, hh, hw⟩ := ho
  have hwr : WR (Td 4) (Td 5) u (400 * n) := ⟨hb, hp, AB_m (fun k hk => hu k (by omega)) h.now.ab, AR_m (fun k hk => hu k (by omega)) h.now.pb (h5.ar h.now.pb h.now.ar)⟩
  obtain ⟨A1, A2, Mf, ov, f1, f2, f3, f4, f5, f6, f7, f8, f9, f10, f11, f12⟩ := down_ok (M := Mk M) (R := T (6 + j)) hj (show RR (T (6 + j)) (Mk M) j from h.row j hj) hh hw hK hwr h23 h24 (by omega)
  have hMk15 : ∀ k, k < 1419 → Mk M 15 k = M 1 k := fun k hk => if_pos hk
  have hf15 : Mf 15 = Mk M 15 := f4 15 (by decide) (by decide)
  refine ⟨A1, A2, Mf, _, f1, f2, f3, wakes8 Mf, fun T' hT' => ⟨hT', fun k hk => ?_, fun i hi => ?_⟩, ?_, ?_, f9, f8, fun c hc => ?_, f10, hf15⟩
  · rw [upA_1, if_pos hk, hf15, hMk15 k hk]
  · rw [upA_n (by omega), f4 i (by omega) (by omega)]
    exact upA_n (by omega)
  · intro Tf t2 t3 t4 t5 q hq
    have har := h.now.ar
    rw [upA_n (by decide)]
    unfold fX7_gainOf
    rw [t2, t3, t4, t5]
    have u16 := hu 16 (by omega); have u18 := hu 18 (by omega); have u19 := hu 19 (by omega); have u20 := hu 20 (by omega)
    rcases (show q = 0 ∨ q = 1 ∨ q = 2 ∨ q = 3 ∨ q = 4 ∨ q = 5 by omega) with e | e | e | e | e | e <;> subst e
    · rw [bq_t (a := ((0 : Nat) : Int)) (b := 0) rfl, f7.1, har.a2, f5.1, u16]
    · rw [bq_f (by decide) (by decide) (by decide) (by decide) (by decide), bq_t (a := ((1 : Nat) : Int)) (b := 1) rfl, f7.2.2.1, har.a5, f5.2.1, u19]
    · rw [bq_f (by decide) (by decide) (by decide) (by decide) (by decide), bq_f (by decide) (by decide) (by decide) (by decide) (by decide), bq_t (a := ((2 : Nat) : Int)) (b := 2) rfl, f7.2.2.2, har.a6, f5.2.2.1, u20]
    · rw [bq_f (by decide) (by decide) (by decide) (by decide) (by decide), bq_f (by decide) (by decide) (by decide) (by decide) (by decide), bq_f (by decide) (by decide) (by decide) (by decide) (by decide), bq_t (a := ((3 : Nat) : Int)) (b := 3) rfl, f6, f5.2.2.2.1]; rfl
    · rw [bq_f (by decide) (by decide) (by decide) (by decide) (by decide), bq_f (by decide) (by decide) (by decide) (by decide) (by decide), bq_f (by decide) (by decide) (by decide) (by decide) (by decide), bq_f (by decide) (by decide) (by decide) (by decide) (by decide), bq_t (a := ((4 : Nat) : Int)) (b := 4) rfl, allWet7 f9.1 f9.2 f8, bd_some, allWet7 h.now.pb h.now.pr har.wet, bd_some, f5.2.2.2.2.1, twt_c (u := u) h.now.pb (fun k hk => hu k (by omega))]
    · rw [bq_f (by decide) (by decide) (by decide) (by decide) (by decide), bq_f (by decide) (by decide) (by decide) (by decide) (by decide), bq_f (by decide) (by decide) (by decide) (by decide) (by decide), bq_f (by decide) (by decide) (by decide) (by decide) (by decide), bq_f (by decide) (by decide) (by decide) (by decide) (by decide), f7.2.1, har.a4, f5.2.2.2.2.2, u18]
  · rw [upA_n (by decide), f5.1]
    have hs := hwr.ab.show
    omega
  · rw [← hu (519 + c) (by omega)]
    exact f12 c hc
theorem dreamDay_ok {Td : Nat → Ob} {j : Nat} {A1 A2 : Ob} {r : Int} (hj : j < 4) (h1 : fX3_playRow (Td 4) (Td 5) (Td (6 + j)) = some (r, A1)) (h2 : fX0_dropAll A1 (Td 4) = some A2) : fX7_dreamDay Td (j : Int) = some (upO Td 5 A2) := by
  unfold fX7_dreamDay
  rw [gi (by omega) (by omega) (by omega), ix_nat (by omega)]
  have h := dreamRow (T := Td) (kx := fun T_6 => bd (fX0_dropAll (T_6 5) (T_6 4)) (fun rr_7 => nm (upO T_6 5 rr_7) (fun T_8 => some T_8))) hj FU 0 0 (Td 5) h1
  rw [upO_self] at h
  rw [h, upO_s, upO_n (by decide), h2, bd_some, nm_e', upO_upO]
