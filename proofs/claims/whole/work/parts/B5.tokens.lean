/-! LAYER 2: what is told: tokens of the tape, on both sides -/
def kd (x : Int) : Int := if 97 ≤ x ∧ x ≤ 122 then 1 else if 48 ≤ x ∧ x ≤ 57 then 2 else if x = 59 then 3 else 4
/-- the tape as both sides hold it while it is read -/
def BS (S : Nat) (B : Nat → Int) (Y M : Ob) : Prop := Y 1 0 = (S : Int) ∧ M 7 0 = (S : Int) ∧ S ≤ 1600 ∧ ∀ k : Nat, k < S → Y 0 k = B k ∧ M 4 k = B k ∧ -128 ≤ B k ∧ B k ≤ 127
/-- a number of n digits from a, cut at c -/
def dv (c : Int) (B : Nat → Int) (a : Nat) : Nat → Int
  | 0 => 0
  | n + 1 => min c (10 * dv c B a n + B (a + n) - 48)
/-- the token at hand lies from a to b -/
def TK (S : Nat) (B : Nat → Int) (Y M : Ob) (a b : Nat) : Prop := BS S B Y M ∧ Y 2 0 = M 10 0 ∧ (Y 3 0 = (a : Int) ∧ M 9 0 = (a : Int)) ∧ (Y 4 0 = (b : Int) ∧ M 8 0 = (b : Int)) ∧ a ≤ b ∧ b ≤ S ∧ (0 ≤ M 10 0 ∧ M 10 0 ≤ 4) ∧ (M 10 0 = 0 → a = S) ∧ (M 10 0 ≠ 0 → a < b) ∧ (M 10 0 = 2 → M 11 0 = dv 99999 B a (b - a) ∧ ∀ k : Nat, a ≤ k → k < b → 48 ≤ B k ∧ B k ≤ 57)
section
variable {S : Nat} {B : Nat → Int} {Y M : Ob} {a b : Nat}
theorem BS.c {Y' M' : Ob} (h : BS S B Y M) (h0 : Y' 0 = Y 0) (h1 : Y' 1 = Y 1) (h4 : M' 4 = M 4) (h7 : M' 7 = M 7) : BS S B Y' M' := by
  unfold BS
  rw [h0, h1, h4, h7]
  exact h
theorem see_in (h : BS S B Y M) {p : Nat} (hp : p < S) : fX8_see M (p : Int) = some (B p % 256) := by
  have hS := h.2.2.1
  obtain ⟨_, e2, _, _⟩ := h.2.2.2 p hp
  unfold fX8_see
  rw [h.2.1, be_f (by omega) (by omega) (by omega), gi (by omega) (by omega) (by omega), ix_nat (by omega), e2, jan_255]
theorem see_out (h : BS S B Y M) : fX8_see M (S : Int) = some (-1) := by
  have hS := h.2.2.1
  unfold fX8_see
  rw [h.2.1, be_t (by omega) (by omega) (by omega)]
theorem kind_in (h : BS S B Y M) {p : Nat} (hp : p < S) : fX4_kindAt Y (p : Int) = some (kd (B p)) := by
  have hS := h.2.2.1
  obtain ⟨e1, _, e3, e4⟩ := h.2.2.2 p hp
  unfold fX4_kindAt jX4_kindAt_31 jX4_kindAt_45 kd
  rw [h.1, bl_t (by omega) (by omega) (by omega), gi (by omega) (by omega) (by omega), nm_e', ix_nat (by omega), e1]
  rw [bl_if (by omega) (by omega) (by omega) (by omega), bl_if (by omega) (by omega) (by omega) (by omega), bl_if (by omega) (by omega) (by omega) (by omega), bl_if (by omega) (by omega) (by omega) (by omega), bq_if (by omega) (by omega) (by omega) (by omega)]
  repeat' split
  all_goals first
    | rfl
    | omega
theorem kind_out (h : BS S B Y M) : fX4_kindAt Y (S : Int) = some 0 := by
  have hS := h.2.2.1
  unfold fX4_kindAt
  rw [h.1, bl_f (by omega) (by omega) (by omega)]
theorem kd_b (x : Int) : 1 ≤ kd x ∧ kd x ≤ 4 := by
  unfold kd
  repeat' split
  all_goals omega
theorem kd1 {x : Int} : kd x = 1 ↔ 97 ≤ x ∧ x ≤ 122 := by
  unfold kd
  repeat' split
  all_goals omega
theorem kd2 {x : Int} : kd x = 2 ↔ 48 ≤ x ∧ x ≤ 57 := by
  unfold kd
  repeat' split
  all_goals omega
theorem kd3 {x : Int} : kd x = 3 ↔ x = 59 := by
  unfold kd
  repeat' split
  all_goals omega
/-- blanks -/
theorem skip_ok {kx : Int → Option Ob} {kx8 : Ob → Option Ob} : ∀ (m p : Nat) (M : Ob), BS S B Y M → M 8 0 = (p : Int) → p ≤ S → S - p < m → ∃ (p' : Nat) (M' : Ob), lX4_step_5 Y kx m (p : Int) = kx (p' : Int) ∧ lX8_advance_0 kx8 m M = kx8 M' ∧ p ≤ p' ∧ p' ≤ S ∧ M' 8 0 = (p' : Int) ∧ ∀ j, j ≠ 8 → M' j = M j := by
  intro m
  induction m with
  | zero => intro p M _ _ _ h; omega
  | succ m ih =>
    intro p M h h8 h1 h2
    have hS := h.2.2.1
    rw [lX4_step_5, lX8_advance_0, h8]
    by_cases c : p = S
    · subst c
      rw [h.1, be_t (by omega) (by omega) (by omega), see_out h, bd_some, bd_some, bq_f (by decide) (by decide) (by decide) (by decide) (by decide), bq_f (by decide) (by decide) (by decide) (by decide) (by decide)]
      exact ⟨p, M, rfl, rfl, by omega, by omega, h8, fun _ _ => rfl⟩
    · obtain ⟨e1, _, e3, e4⟩ := h.2.2.2 p (by omega)
      have hb : ∀ j : Nat, j ≠ 8 → up2 M 8 0 ((p : Int) + 1) j = M j := fun j hj => up2_n hj
      have go : ∃ (p' : Nat) (M' : Ob), lX4_step_5 Y kx m ((p : Int) + 1) = kx (p' : Int) ∧ lX8_advance_0 kx8 m (up2 M 8 0 ((p : Int) + 1)) = kx8 M' ∧ p ≤ p' ∧ p' ≤ S ∧ M' 8 0 = (p' : Int) ∧ ∀ j, j ≠ 8 → M' j = M j := by
        obtain ⟨p', M', q1, q2, q3, q4, q5, q6⟩ := ih (p + 1) (up2 M 8 0 ((p : Int) + 1)) (h.c rfl rfl (hb 4 (by decide)) (hb 7 (by decide))) (by rw [up2_s, up1_s]; rfl) (by omega) (by omega)
        exact ⟨p', M', q1, q2, by omega, q4, q5, fun j hj => by rw [q6 j hj, hb j hj]⟩
      rw [h.1, be_f (by omega) (by omega) (by omega), gi (by omega) (by omega) (by omega), ix_nat (by omega), e1, see_in h (by omega), bd_some, bd_some]
      by_cases c1 : B p = 32
      · rw [bq_t c1, bq_t (show B p % 256 = 32 by omega), nm_e']
        unfold jX8_advance_26
        rw [nm_e', h8]
        exact go
      · rw [bq_f c1 (by omega) (by omega) (by omega) (by omega), bq_f (show B p % 256 ≠ 32 by omega) (by omega) (by omega) (by omega) (by omega), gi (by omega) (by omega) (by omega)]
        by_cases c2 : B p = 10
        · rw [bq_t c2, bq_t (show B p % 256 = 10 by omega), nm_e']
          unfold jX8_advance_26
          rw [nm_e', h8]
          exact go
        · rw [bq_f c2 (by omega) (by omega) (by omega) (by omega), bq_f (show B p % 256 ≠ 10 by omega) (by omega) (by omega) (by omega) (by omega)]
          exact ⟨p, M, rfl, rfl, by omega, by omega, h8, fun _ _ => rfl⟩
/-- letters -/
theorem word_ok {kx : Int → Option Ob} {kx8 : Ob → Option Ob} (hy : Y 2 0 = 1) : ∀ (m p : Nat) (M : Ob), BS S B Y M → M 8 0 = (p : Int) → p ≤ S → S - p < m → ∃ (p' : Nat) (M' : Ob), lX4_step_71 Y kx m (p : Int) = kx (p' : Int) ∧ lX8_advance_83 kx8 m M = kx8 M' ∧ p ≤ p' ∧ p' ≤ S ∧ M' 8 0 = (p' : Int) ∧ (∀ j, j ≠ 8 → M' j = M j) ∧ (p < S → kd (B p) = 1 → p < p') := by
  intro m
  induction m with
  | zero => intro p M _ _ _ h; omega
  | succ m ih =>
    intro p M h h8 h1 h2
    have hS := h.2.2.1
    rw [lX4_step_71, lX8_advance_83, h8, hy]
    by_cases c : p = S
    · subst c
      rw [h.1, be_t (by omega) (by omega) (by omega), see_out h, bd_some, in8i ⟨by omega, by omega⟩ ⟨by omega, by omega⟩ ⟨by omega, by omega⟩, bd_some, if_neg (by omega), bq_t rfl]
      exact ⟨p, M, rfl, rfl, by omega, by omega, h8, fun _ _ => rfl, by omega⟩
    · obtain ⟨e1, _, e3, e4⟩ := h.2.2.2 p (by omega)
      have hb : ∀ j : Nat, j ≠ 8 → up2 M 8 0 ((p : Int) + 1) j = M j := fun j hj => up2_n hj
      rw [h.1, be_f (by omega) (by omega) (by omega), kind_in h (by omega), bd_some, see_in h (by omega), bd_some, in8i ⟨by omega, by omega⟩ ⟨by omega, by omega⟩ ⟨by omega, by omega⟩, bd_some, bq_ite]
      have k1 := @kd1 (B p)
      have k2 := kd_b (B p)
      by_cases c1 : 97 ≤ B p ∧ B p ≤ 122
      · rw [bq_t (k1.mpr c1), if_pos (by omega), nm_e', nm_e']
        obtain ⟨p', M', q1, q2, q3, q4, q5, q6, _⟩ := ih (p + 1) (up2 M 8 0 ((p : Int) + 1)) (h.c rfl rfl (hb 4 (by decide)) (hb 7 (by decide))) (by rw [up2_s, up1_s]; rfl) (by omega) (by omega)
        exact ⟨p', M', q1, q2, by omega, q4, q5, fun j hj => by rw [q6 j hj, hb j hj], by omega⟩
      · have k3 : kd (B p) ≠ 1 := fun q => c1 (k1.mp q)
        rw [bq_f k3 (by omega) (by omega) (by omega) (by omega), if_neg (by omega)]
        exact ⟨p, M, rfl, rfl, by omega, by omega, h8, fun _ _ => rfl, fun _ q => absurd q k3⟩
theorem dv_b {B : Nat → Int} {a : Nat} {c : Int} (hc : 0 ≤ c) : ∀ n : Nat, (∀ k : Nat, a ≤ k → k < a + n → 48 ≤ B k ∧ B k ≤ 57) → 0 ≤ dv c B a n ∧ dv c B a n ≤ c := by
  intro n
  induction n with
  | zero => intro _; unfold dv; omega
  | succ n ih =>
    intro h
    have := ih (fun k h1 h2 => h k h1 (by omega))
    have := h (a + n) (by omega) (by omega)
    rw [dv]
    omega
theorem dv_dv {B : Nat → Int} {a : Nat} : ∀ n : Nat, (∀ k : Nat, a ≤ k → k < a + n → 48 ≤ B k ∧ B k ≤ 57) → dv 99999 B a n = min 99999 (dv 1000000 B a n) := by
  intro n
  induction n with
  | zero => intro _; unfold dv; omega
  | succ n ih =>
    intro h
    have h1 := ih (fun k h1 h2 => h k h1 (by omega))
    have h2 := h (a + n) (by omega) (by omega)
    have h3 := dv_b (c := 1000000) (by decide) n (fun k h1 h2 => h k h1 (by omega))
    rw [dv, dv, h1]
    omega
/-- digits -/
theorem num_ok {kx : Int → Option Ob} {kx8 : Ob → Option Ob} (hy : Y 2 0 = 2) : ∀ (m p : Nat) (M : Ob), BS S B Y M → M 8 0 = (p : Int) → a ≤ p → p ≤ S → M 11 0 = dv 99999 B a (p - a) → (∀ k : Nat, a ≤ k → k < p → 48 ≤ B k ∧ B k ≤ 57) → S - p < m → ∃ (p' : Nat) (M' : Ob), lX4_step_71 Y kx m (p : Int) = kx (p' : Int) ∧ lX8_advance_144 kx8 m M = kx8 M' ∧ p ≤ p' ∧ p' ≤ S ∧ M' 8 0 = (p' : Int) ∧ (∀ j, j ≠ 8 → j ≠ 11 → M' j = M j) ∧ (p < S → kd (B p) = 2 → p < p') ∧ M' 11 0 = dv 99999 B a (p' - a) ∧ ∀ k : Nat, a ≤ k → k < p' → 48 ≤ B k ∧ B k ≤ 57 := by
  intro m
  induction m with
  | zero => intro p M _ _ _ _ _ _ h; omega
  | succ m ih =>
    intro p M h h8 h0 h1 h11 hd h2
    have hS := h.2.2.1
    rw [lX4_step_71, lX8_advance_144, h8, hy]
    by_cases c : p = S
    · subst c
      rw [h.1, be_t (by omega) (by omega) (by omega), see_out h, bd_some, in8i ⟨by omega, by omega⟩ ⟨by omega, by omega⟩ ⟨by omega, by omega⟩, bd_some, if_neg (by omega), bq_t rfl]
      exact ⟨p, M, rfl, rfl, by omega, by omega, h8, fun _ _ _ => rfl, by omega, h11, hd⟩
    · obtain ⟨e1, _, e3, e4⟩ := h.2.2.2 p (by omega)
      have k1 := @kd2 (B p)
      have k2 := kd_b (B p)
      rw [h.1, be_f (by omega) (by omega) (by omega), kind_in h (by omega), bd_some, see_in h (by omega), bd_some, in8i ⟨by omega, by omega⟩ ⟨by omega, by omega⟩ ⟨by omega, by omega⟩, bd_some, bq_ite]
      by_cases c1 : 48 ≤ B p ∧ B p ≤ 57
      · have hdb := dv_b (B := B) (a := a) (c := 99999) (by decide) (p - a) (fun k q1 q2 => hd k q1 (by omega))
        rw [bq_t (k1.mpr c1), if_pos (by omega), bd_some, nm_e', nm_e', nm_e', h11, jmi_e (by omega) (by omega) (by omega) (by omega), up2_n (show 8 ≠ 11 by decide), h8]
        have hb : ∀ j : Nat, j ≠ 8 → j ≠ 11 → up2 (up2 M 11 0 (min 99999 (10 * dv 99999 B a (p - a) + B p % 256 - 48))) 8 0 ((p : Int) + 1) j = M j := fun j hj hj2 => by rw [up2_n hj, up2_n hj2]
        obtain ⟨p', M', q1, q2, q3, q4, q5, q6, _, q8, q9⟩ := ih (p + 1) _ (h.c rfl rfl (hb 4 (by decide) (by decide)) (hb 7 (by decide) (by decide))) (by rw [up2_s, up1_s]; rfl) (by omega) (by omega) (by rw [up2_n (show 11 ≠ 8 by decide), up2_s, up1_s, show p + 1 - a = (p - a) + 1 from by omega, dv, show a + (p - a) = p from by omega, show B p % 256 = B p from by omega]) (fun k q1 q2 => by
          by_cases ck : k = p
          · rw [ck]; exact c1
          · exact hd k q1 (by omega)) (by omega)
        exact ⟨p', M', q1, q2, by omega, q4, q5, fun j hj hj2 => by rw [q6 j hj hj2, hb j hj hj2], by omega, q8, q9⟩
      · have k3 : kd (B p) ≠ 2 := fun q => c1 (k1.mp q)
        rw [bq_f k3 (by omega) (by omega) (by omega) (by omega), if_neg (by omega)]
        exact ⟨p, M, rfl, rfl, by omega, by omega, h8, fun _ _ _ => rfl, fun _ q => absurd q k3, h11, hd⟩
end
