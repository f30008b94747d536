/-! LAYER 2: dreams: copies -/
theorem inW_c {u w : Nat → Int} (h : u 14 = w 14) (b : Nat) : inW u b ↔ inW w b := by unfold inW; rw [h]
/-- plans alike, airs alike, as far as they count -/
def PEq (Q P : Ob) : Prop := (∀ j, j ≤ 18 → Q j 0 = P j 0) ∧ (∀ s, s < 5 → Q 12 s = P 12 s ∧ Q 13 s = P 13 s) ∧ (∀ k, k < 8 → Q 15 k = P 15 k ∧ Q 16 k = P 16 k ∧ Q 17 k = P 17 k) ∧ ∀ s, s < 10 → Q 19 s = P 19 s
def AEq (C A : Ob) : Prop := (∀ j, j ≤ 7 → C j 0 = A j 0) ∧ (∀ i, i < 32 → C 8 i = A 8 i ∧ C 9 i = A 9 i ∧ C 10 i = A 10 i ∧ C 11 i = A 11 i) ∧ (∀ s, s < 5 → C 12 s = A 12 s ∧ C 13 s = A 13 s) ∧ (∀ i, i < 160 → C 14 i = A 14 i ∧ C 15 i = A 15 i) ∧ ∀ c, c < 900 → C 16 c = A 16 c
theorem PEq.pr {Q P : Ob} {w : Nat → Int} (h : PEq Q P) (hb : PB w) (hp : PR P w) : PR Q w := by
  have b10 := hb.b10; have b11 := hb.b11
  obtain ⟨h0, h1, h2, h3⟩ := h
  unfold PR
  rw [h0 0 (by decide), h0 1 (by decide), h0 2 (by decide), h0 3 (by decide), h0 4 (by decide), h0 5 (by decide), h0 6 (by decide), h0 7 (by decide), h0 8 (by decide), h0 9 (by decide), h0 10 (by decide), h0 11 (by decide), h0 14 (by decide), h0 18 (by decide)]
  refine ⟨hp.p0, hp.p1, hp.p2, hp.p3, hp.p4, hp.p5, hp.p6, hp.p7, hp.p8, hp.p9, hp.p10, hp.p11, hp.p14, hp.p18, ?_, ?_, ?_⟩
  · intro s hs
    rw [(h1 s (by omega)).1, (h1 s (by omega)).2]
    exact hp.size s hs
  · intro k hk
    rw [(h2 k (by omega)).1, (h2 k (by omega)).2.1, (h2 k (by omega)).2.2]
    exact hp.tab k hk
  · intro s hs
    rw [h3 s hs]
    exact hp.lets s hs
theorem AEq.ar {C A : Ob} {w : Nat → Int} (h : AEq C A) (hb : PB w) (ha : AR A w) : AR C w := by
  have b10 := hb.b10
  obtain ⟨h0, h1, h2, h3, h4⟩ := h
  have hr : ∀ b, rg b < 32 := fun b => by unfold rg; omega
  have hup : upN C = upN A := sm_congr (fun i hi => by
    show (if 0 < C 9 i then (1 : Int) else 0) = if 0 < A 9 i then 1 else 0
    rw [(h1 i hi).2.1])
  unfold AR
  rw [h0 0 (by decide), h0 1 (by decide), h0 2 (by decide), h0 4 (by decide), h0 5 (by decide), h0 6 (by decide), h0 7 (by decide), hup]
  refine ⟨ha.a0, ha.a1, ha.a2, ha.a4, ha.a5, ha.a6, ha.a7, ?_, ?_, ?_, ?_, ?_, ?_, ?_, ha.cons, ?_, ?_⟩
  · intro c hc; rw [h4 c hc]; exact ha.wet c hc
  · intro b hi; rw [(h1 _ (hr b)).1]; exact ha.wind b hi
  · intro b hi; rw [(h1 _ (hr b)).2.1]; exact ha.pace b hi
  · intro b hi; rw [(h1 _ (hr b)).2.1]; exact ha.down b hi
  · intro b hi; rw [(h1 _ (hr b)).2.1, (h1 _ (hr b)).2.2.1, (h1 _ (hr b)).2.2.2]; exact ha.up b hi
  · intro b hi; rw [(h1 _ (hr b)).2.1]
    intro hpos s hs
    have hrb := hr b
    rw [(h2 s (by omega)).1, (h2 s (by omega)).2, (h3 (5 * rg b + s) (by omega)).1, (h3 (5 * rg b + s) (by omega)).2]
    exact ha.drift b hi hpos s hs
  · intro b hi; rw [(h1 _ (hr b)).2.1]; exact ha.driftB b hi
  · intro i hi; rw [(h1 i hi).2.1]; exact ha.free i hi
  · intro s hs
    rw [(h2 s (by omega)).1, (h2 s (by omega)).2]
    exact ha.sumB s hs
theorem wc_pb {u w : Nat → Int} (h : ∀ k, k < 1419 → u k = w k) (hb : PB w) : PB u := Pl.pb (fun k hk => h k (by omega)) hb
theorem wc_ab {u w : Nat → Int} {B : Int} (h : ∀ k, k < 1419 → u k = w k) (hb : AB w B) : AB u B := by
  have e14 := h 14 (by decide); have e15 := h 15 (by decide); have e16 := h 16 (by decide); have e18 := h 18 (by decide); have e19 := h 19 (by decide); have e20 := h 20 (by decide); have e21 := h 21 (by decide)
  unfold AB
  rw [e14, e15, e16, e18, e19, e20, e21]
  refine ⟨hb.beats, hb.high, hb.show, hb.caught, hb.lost, hb.cells, hb.thrown, ?_, ?_⟩
  · intro c hc; rw [h (519 + c) (by omega)]; exact hb.wet c hc
  · intro b hi; rw [h (71 + b % 32) (by omega)]; exact hb.wind b ((inW_c e14 b).mp hi)
theorem wc_ar {A : Ob} {u w : Nat → Int} (h : ∀ k, k < 1419 → u k = w k) (hb : PB w) (ha : AR A w) : AR A u := by
  have b10 := hb.b10
  have e14 := h 14 (by decide); have e15 := h 15 (by decide); have e16 := h 16 (by decide); have e18 := h 18 (by decide); have e19 := h 19 (by decide); have e20 := h 20 (by decide); have e21 := h 21 (by decide)
  have e10 := h 10 (by decide)
  have hs : shS u = shS w := Pl.sh (fun k hk => h k (by omega)) hb
  have hi := inW_c e14
  unfold AR
  rw [e14, e15, e16, e18, e19, e20, e21, e10, hs]
  refine ⟨ha.a0, ha.a1, ha.a2, ha.a4, ha.a5, ha.a6, ha.a7, ?_, ?_, ?_, ?_, ?_, ?_, ?_, ha.cons, ha.free, ha.sumB⟩
  · intro c hc; rw [h (519 + c) (by omega)]; exact ha.wet c hc
  · intro b hb1; rw [h (71 + b % 32) (by omega)]; exact ha.wind b ((hi b).mp hb1)
  · intro b hb1; exact ha.pace b ((hi b).mp hb1)
  · intro b hb1; have := lm_b b; rw [h (lm b) (by omega)]; exact ha.down b ((hi b).mp hb1)
  · intro b hb1; have := lm_b b; rw [h (lm b) (by omega), h (lm b + 1) (by omega), h (lm b + 2) (by omega)]; exact ha.up b ((hi b).mp hb1)
  · intro b hb1 hpos s hs1; have := lm_b b; rw [h (lm b + 3 + 2 * s) (by omega), h (lm b + 4 + 2 * s) (by omega)]; exact ha.drift b ((hi b).mp hb1) hpos s hs1
  · intro b hb1 hpos s hs1; have := lm_b b; rw [h (lm b + 3 + 2 * s) (by omega), h (lm b + 4 + 2 * s) (by omega)]; exact ha.driftB b ((hi b).mp hb1) hpos s hs1
theorem wc_wr {P A : Ob} {u w : Nat → Int} {B : Int} (h : ∀ k, k < 1419 → u k = w k) (hw : WR P A w B) : WR P A u B := ⟨wc_pb h hw.pb, Pl.pr (fun k hk => h k (by omega)) hw.pb hw.pr, wc_ab h hw.ab, wc_ar h hw.pb hw.ar⟩
theorem AB.le {w : Nat → Int} {B C : Int} (h : AB w B) (hl : B ≤ C) : AB w C := ⟨⟨h.beats.1, by have := h.beats.2; omega⟩, h.2⟩
theorem WR.le {P A : Ob} {w : Nat → Int} {B C : Int} (h : WR P A w B) (hl : B ≤ C) : WR P A w C := ⟨h.pb, h.pr, h.ab.le hl, h.ar⟩
theorem cpf_lt {f g : Nat → Int} {n j : Nat} (hn : n < 1000) (h : j < n) : cpf f g 0 0 (n : Int) j = f j := by
  unfold cpf va_cpy
  rw [ix_nat (by omega), show ix 0 = 0 from by decide, if_pos (by omega), show 0 + (j - 0) = j from by omega]
theorem copyP7 (P P2 : Ob) : ∃ Q, fX1_copyFrom P P2 = some Q ∧ PEq Q P2 := by
  unfold fX1_copyFrom
  simp only [nm_e']
  rw [gd_t (by decide), gd_t (by decide), gd_t (by decide), gd_t (by decide), gd_t (by decide), gd_t (by decide)]
  refine ⟨_, rfl, ?_, ?_, ?_, ?_⟩
  · intro j hj
    have hc : j = 0 ∨ j = 1 ∨ j = 2 ∨ j = 3 ∨ j = 4 ∨ j = 5 ∨ j = 6 ∨ j = 7 ∨ j = 8 ∨ j = 9 ∨ j = 10 ∨ j = 11 ∨ j = 12 ∨ j = 13 ∨ j = 14 ∨ j = 15 ∨ j = 16 ∨ j = 17 ∨ j = 18 := by omega
    rcases hc with e | e | e | e | e | e | e | e | e | e | e | e | e | e | e | e | e | e | e <;> subst e <;> first | rfl | exact cpf_lt (n := 5) (by decide) (by decide) | exact cpf_lt (n := 8) (by decide) (by decide)
  · intro s hs
    exact ⟨cpf_lt (n := 5) (by decide) hs, cpf_lt (n := 5) (by decide) hs⟩
  · intro k hk
    exact ⟨cpf_lt (n := 8) (by decide) hk, cpf_lt (n := 8) (by decide) hk, cpf_lt (n := 8) (by decide) hk⟩
  · intro s hs
    exact cpf_lt (n := 10) (by decide) hs
theorem copyA7 (A A2 : Ob) : ∃ C, fX0_copyFrom A A2 = some C ∧ AEq C A2 := by
  unfold fX0_copyFrom
  simp only [nm_e']
  rw [gd_t (by decide), gd_t (by decide), gd_t (by decide), gd_t (by decide), gd_t (by decide), gd_t (by decide), gd_t (by decide), gd_t (by decide), gd_t (by decide)]
  refine ⟨_, rfl, ?_, ?_, ?_, ?_, ?_⟩
  · intro j hj
    have hc : j = 0 ∨ j = 1 ∨ j = 2 ∨ j = 3 ∨ j = 4 ∨ j = 5 ∨ j = 6 ∨ j = 7 := by omega
    rcases hc with e | e | e | e | e | e | e | e <;> subst e <;> rfl
  · intro i hi
    exact ⟨cpf_lt (n := 32) (by decide) hi, cpf_lt (n := 32) (by decide) hi, cpf_lt (n := 32) (by decide) hi, cpf_lt (n := 32) (by decide) hi⟩
  · intro s hs
    exact ⟨cpf_lt (n := 5) (by decide) hs, cpf_lt (n := 5) (by decide) hs⟩
  · intro i hi
    exact ⟨cpf_lt (n := 160) (by decide) hi, cpf_lt (n := 160) (by decide) hi⟩
  · intro c hc
    exact cpf_lt (n := 900) (by decide) hc
theorem beginDream7 (T : Nat → Ob) : ∃ Q C, fX7_beginDream T = some (upO (upO T 4 Q) 5 C) ∧ PEq Q (T 2) ∧ AEq C (T 3) := by
  obtain ⟨Q, q1, q2⟩ := copyP7 (T 4) (T 2)
  obtain ⟨C, c1, c2⟩ := copyA7 (T 5) (T 3)
  refine ⟨Q, C, ?_, q2, c2⟩
  unfold fX7_beginDream fX3_copyFrom
  rw [q1, bd_some, c1, bd_some, bd_some, nm_e']
theorem thinks_loop {M : Ob} : ∀ (m j : Nat), j ≤ 1419 → 1419 - j < m → lX8_thinks_2 m (j : Int) (upA M 15 (fun k => if k < j then M 1 k else M 15 k)) = some (upA M 15 (fun k => if k < 1419 then M 1 k else M 15 k)) := by
  intro m
  induction m with
  | zero => intro j _ h; omega
  | succ m ih =>
    intro j h1 h2
    rw [lX8_thinks_2]
    by_cases c : j = 1419
    · subst c
      rw [be_t (by omega) (by omega) (by omega)]
    · rw [be_f (by omega) (by omega) (by omega), gi (by omega) (by omega) (by omega), gi (by omega) (by omega) (by omega), nm_e', nm_e', ix_nat (by omega), up2_upAk, upA_n (show 1 ≠ 15 by decide)]
      rw [show up1 (fun k => if k < j then M 1 k else M 15 k) j (M 1 j) = (fun k => if k < j + 1 then M 1 k else M 15 k) from by
        funext k
        by_cases hk : k = j
        · subst hk; rw [up1_s, if_pos (by omega)]
        · rw [up1_n hk]
          by_cases hk2 : k < j
          · rw [if_pos hk2, if_pos (by omega)]
          · rw [if_neg hk2, if_neg (by omega)]]
      exact ih (j + 1) (by omega) (by omega)
theorem thinks8 (M : Ob) : fX8_thinks M = some (upA M 15 (fun k => if k < 1419 then M 1 k else M 15 k)) := by
  have h := thinks_loop (M := M) FU 0 (by omega) (by show _ < 5000; omega)
  rw [show upA M 15 (fun k => if k < 0 then M 1 k else M 15 k) = M from by
    rw [show (fun k => if k < 0 then M 1 k else M 15 k) = M 15 from by funext k; rw [if_neg (by omega)], upA_self]] at h
  exact h
theorem wakes_loop {M : Ob} : ∀ (m j : Nat), j ≤ 1419 → 1419 - j < m → lX8_wakes_2 m (j : Int) (upA M 1 (fun k => if k < j then M 15 k else M 1 k)) = some (upA M 1 (fun k => if k < 1419 then M 15 k else M 1 k)) := by
  intro m
  induction m with
  | zero => intro j _ h; omega
  | succ m ih =>
    intro j h1 h2
    rw [lX8_wakes_2]
    by_cases c : j = 1419
    · subst c
      rw [be_t (by omega) (by omega) (by omega)]
    · rw [be_f (by omega) (by omega) (by omega), gi (by omega) (by omega) (by omega), gi (by omega) (by omega) (by omega), nm_e', nm_e', ix_nat (by omega), up2_upAk, upA_n (show 15 ≠ 1 by decide)]
      rw [show up1 (fun k => if k < j then M 15 k else M 1 k) j (M 15 j) = (fun k => if k < j + 1 then M 15 k else M 1 k) from by
        funext k
        by_cases hk : k = j
        · subst hk; rw [up1_s, if_pos (by omega)]
        · rw [up1_n hk]
          by_cases hk2 : k < j
          · rw [if_pos hk2, if_pos (by omega)]
          · rw [if_neg hk2, if_neg (by omega)]]
      exact ih (j + 1) (by omega) (by omega)
theorem wakes8 (M : Ob) : fX8_wakes M = some (upA M 1 (fun k => if k < 1419 then M 15 k else M 1 k)) := by
  have h := wakes_loop (M := M) FU 0 (by omega) (by show _ < 5000; omega)
  rw [show upA M 1 (fun k => if k < 0 then M 15 k else M 1 k) = M from by
    rw [show (fun k => if k < 0 then M 15 k else M 1 k) = M 1 from by funext k; rw [if_neg (by omega)], upA_self]] at h
  exact h
/-- what calls may change besides what the invariant holds -/
theorem Inv.keep {n : Nat} {T T' : Nat → Ob} {J : Nat → Bool} {M M' : Ob} (h : Inv n T J M) (hn : n + 1 ≤ 512)
    (hT : ∀ i, i ≠ 4 → i ≠ 5 → i ≠ 10 → T' i = T i) (h1 : ∀ k, k < 1419 → M' 1 k = M 1 k) (hM : ∀ j, (2 ≤ j ∧ j ≤ 5) ∨ j = 12 ∨ j = 13 ∨ (25 ≤ j ∧ j ≤ 27) → M' j = M j) : Inv (n + 1) T' J M' := by
  have hle : (400 * n : Int) ≤ 400 * ((n + 1 : Nat) : Int) := by omega
  unfold Inv
  rw [hT 0 (by decide) (by decide) (by decide), hT 1 (by decide) (by decide) (by decide), hT 2 (by decide) (by decide) (by decide), hT 3 (by decide) (by decide) (by decide), hM 12 (by omega), hM 13 (by omega), h1 17 (by decide), h1 22 (by decide), h1 23 (by decide), h1 24 (by decide), hM 3 (by omega), hM 2 (by omega)]
  refine ⟨hn, ?_, h.fault, wc_wr h1 (h.now.le hle), h.seen, h.l2, h.still, h.rep, ?_, h.has, ?_⟩
  · unfold TR
    rw [hM 5 (by omega), hM 4 (by omega)]
    exact h.tape
  · intro j hj
    rw [hT (6 + j) (by omega) (by omega) (by omega)]
    unfold RR
    rw [hM 25 (by omega), hM 26 (by omega), hM 27 (by omega)]
    exact h.row j hj
  · intro k hk hJ
    rw [hT (15 + 3 * k) (by omega) (by omega) (by omega), hT (16 + 3 * k) (by omega) (by omega) (by omega)]
    have hi := h.img k hk hJ
    exact ⟨hi.1.le hle, hi.2⟩
