/-! LAYER 2: marks and spans -/
theorem tb_c {p q : Prop} (h : p ↔ q) : tb p = tb q := by
  by_cases c : p
  · rw [tb_t c, tb_t (h.mp c)]
  · rw [tb_f c, tb_f (fun x => c (h.mpr x))]
theorem tb_i {p : Prop} : tb p = true ↔ p := by
  by_cases c : p
  · rw [tb_t c]; exact ⟨fun _ => c, fun _ => rfl⟩
  · rw [tb_f c]; exact ⟨fun x => absurd x (by decide), fun x => absurd x c⟩
theorem hB_0 {p : Nat → Bool} : ∀ {n : Nat}, (∀ s, s < n → p s = false) → hB p n = 0 ∧ cB p n = 0 ∧ anB p n = false
  | 0, _ => ⟨rfl, rfl, rfl⟩
  | n + 1, h => by
    obtain ⟨h1, h2, h3⟩ := hB_0 (n := n) (fun s hs => h s (by omega))
    rw [hB, cB, anB, h1, h2, h3, h n (by omega)]
    exact ⟨rfl, rfl, rfl⟩
theorem cB_b {p : Nat → Bool} : ∀ n : Nat, 0 ≤ cB p n ∧ cB p n ≤ n ∧ (anB p n = true → 1 ≤ cB p n)
  | 0 => ⟨(by decide : (0 : Int) ≤ 0), (by decide : (0 : Int) ≤ 0), fun h => absurd (show false = true from h) (by decide)⟩
  | n + 1 => by
    obtain ⟨h1, h2, h3⟩ := cB_b (p := p) n
    rw [cB, anB]
    cases hp : p n
    · refine ⟨by show 0 ≤ cB p n + 0; omega, by show cB p n + 0 ≤ _; omega, fun h => ?_⟩
      rw [Bool.or_false] at h
      have := h3 h
      show 1 ≤ cB p n + 0
      omega
    · refine ⟨by show 0 ≤ cB p n + 1; omega, by show cB p n + 1 ≤ _; omega, fun _ => ?_⟩
      show 1 ≤ cB p n + 1
      omega
/-- bits of what holds -/
noncomputable def hP (Q : Nat → Prop) (n : Nat) : Int := hB (fun s => tb (Q s)) n
theorem hP_s {Q : Nat → Prop} {n : Nat} : hP Q (n + 1) = cond (tb (Q n)) (jor (hP Q n) (jsl 1 (n : Int))) (hP Q n) := rfl
theorem hP_c {Q R : Nat → Prop} {n : Nat} (h : ∀ s, s < n → (Q s ↔ R s)) : hP Q n = hP R n := (hB_c (fun s hs => tb_c (h s hs))).1
theorem hP_or {Q R : Nat → Prop} : ∀ n : Nat, jor (hP Q n) (hP R n) = hP (fun s => Q s ∨ R s) n
  | 0 => by show jor 0 0 = 0; decide
  | n + 1 => by
    rw [hP_s, hP_s, hP_s, ← hP_or n]
    generalize hP Q n = A
    generalize hP R n = B
    generalize jsl 1 (n : Int) = b
    by_cases c1 : Q n
    · by_cases c2 : R n
      · rw [tb_t c1, tb_t c2, tb_t (Or.inl c1)]
        show jor (jor A b) (jor B b) = jor (jor A B) b
        rw [jor_as, ← jor_as b B b, jor_co b B, jor_ii, ← jor_as]
      · rw [tb_t c1, tb_f c2, tb_t (Or.inl c1)]
        show jor (jor A b) B = jor (jor A B) b
        rw [jor_as, jor_co b B, ← jor_as]
    · by_cases c2 : R n
      · rw [tb_f c1, tb_t c2, tb_t (Or.inr c2)]
        show jor A (jor B b) = jor (jor A B) b
        rw [jor_as]
      · rw [tb_f c1, tb_f c2, tb_f (fun q => q.elim c1 c2)]
        rfl
theorem hP_e {s : Nat} : ∀ n : Nat, hP (fun t => t = s) n = if s < n then jsl 1 (s : Int) else 0
  | 0 => by rw [if_neg (by omega)]; rfl
  | n + 1 => by
    rw [hP_s, hP_e n]
    by_cases c : n = s
    · subst c
      rw [tb_t rfl, if_neg (by omega), if_pos (by omega)]
      exact jor_0l (jsl_r _ _)
    · rw [tb_f c]
      show (if s < n then _ else _) = _
      by_cases c2 : s < n
      · rw [if_pos c2, if_pos (by omega)]
      · rw [if_neg c2, if_neg (by omega)]
theorem hP_1 {Q : Nat → Prop} {s n : Nat} (h : s < n) : jor (hP Q n) (jsl 1 (s : Int)) = hP (fun t => Q t ∨ t = s) n := by
  have e := hP_e (s := s) n
  rw [if_pos h] at e
  rw [← e, hP_or]
theorem hP_z {Q : Nat → Prop} {n : Nat} (h : ∀ s, s < n → ¬ Q s) : hP Q n = 0 := (hB_0 (fun s hs => tb_f (h s hs))).1
theorem hP_r {Q : Nat → Prop} {n : Nat} : R32 (hP Q n) := hB_r n
/-- a size comes on the cell by wind v, as a bit -/
noncomputable def pv (w : Nat → Int) (h x z : Int) (v s : Nat) : Bool := tb (onS w h (v : Int) x z s)
noncomputable def gC (w : Nat → Int) (h x z : Int) : Nat → Int
  | 0 => 0
  | v + 1 => gC w h x z v + cB (pv w h x z v) (w 10).toNat
noncomputable def gLo (w : Nat → Int) (h x z : Int) : Nat → Int
  | 0 => 10
  | v + 1 => cond (anB (pv w h x z v) (w 10).toNat) (min (gLo w h x z v) ((v % 10 : Nat) : Int)) (gLo w h x z v)
noncomputable def gHi (w : Nat → Int) (h x z : Int) : Nat → Int
  | 0 => 0
  | v + 1 => cond (anB (pv w h x z v) (w 10).toNat) (max (gHi w h x z v) ((v % 10 : Nat) : Int)) (gHi w h x z v)
noncomputable def gWy (w : Nat → Int) (h x z : Int) : Nat → Int
  | 0 => 0
  | v + 1 => cond (anB (pv w h x z v) (w 10).toNat) (jor (gWy w h x z v) (jsl 1 ((v / 10 : Nat) : Int))) (gWy w h x z v)
noncomputable def gSz (w : Nat → Int) (h x z : Int) : Nat → Int
  | 0 => 0
  | v + 1 => jor (gSz w h x z v) (hB (pv w h x z v) (w 10).toNat)
/-- what the model has marked -/
def SM (M0 : Ob) (c lo hi wy sz : Int) (X : Ob) : Prop := (∀ j, j < 18 ∨ 22 < j → X j = M0 j) ∧ X 18 0 = c ∧ X 19 0 = lo ∧ X 20 0 = hi ∧ X 21 0 = wy ∧ X 22 0 = sz
section
variable {M0 : Ob} {x z h : Int} {v : Nat}
theorem mark_in {c lo hi wy sz : Int} {kx : Ob → Option Ob} (hb : PB (M0 1)) (hh : 0 ≤ h) (hh2 : h ≤ 60) (hv : v < 40) (hst : 1 ≤ v % 10) (hx : R32 x) (hz : R32 z) (hlo : 0 ≤ lo ∧ lo ≤ 10) (hhi : 0 ≤ hi ∧ hi ≤ 9) :
    ∀ (m s : Nat) (X : Ob), SM M0 (c + cB (pv (M0 1) h x z v) s) (cond (anB (pv (M0 1) h x z v) s) (min lo ((v % 10 : Nat) : Int)) lo) (cond (anB (pv (M0 1) h x z v) s) (max hi ((v % 10 : Nat) : Int)) hi) (cond (anB (pv (M0 1) h x z v) s) (jor wy (jsl 1 ((v / 10 : Nat) : Int))) wy) (jor sz (hB (pv (M0 1) h x z v) s)) X → (s : Int) ≤ M0 1 10 → M0 1 10 - s < m →
    ∃ X', lX8_fillMarks_39 x z h (v : Int) kx m (s : Int) X = kx X' ∧ SM M0 (c + cB (pv (M0 1) h x z v) (M0 1 10).toNat) (cond (anB (pv (M0 1) h x z v) (M0 1 10).toNat) (min lo ((v % 10 : Nat) : Int)) lo) (cond (anB (pv (M0 1) h x z v) (M0 1 10).toNat) (max hi ((v % 10 : Nat) : Int)) hi) (cond (anB (pv (M0 1) h x z v) (M0 1 10).toNat) (jor wy (jsl 1 ((v / 10 : Nat) : Int))) wy) (jor sz (hB (pv (M0 1) h x z v) (M0 1 10).toNat)) X' := by
  have b10 := hb.b10
  intro m
  induction m with
  | zero => intro s X _ h1 h2; omega
  | succ m ih =>
    intro s X hX h1 h2
    obtain ⟨x0, x18, x19, x20, x21, x22⟩ := hX
    have x1 : X 1 = M0 1 := x0 1 (by omega)
    rw [lX8_fillMarks_39, lit (by decide), show ix 10 = 10 from by decide, x1]
    simp only [nm_e']
    by_cases cc : M0 1 10 ≤ s
    · rw [be_t cc (by omega) (by omega), show (M0 1 10).toNat = s from by omega]
      exact ⟨X, rfl, x0, x18, x19, x20, x21, x22⟩
    · rw [be_f (by omega) (by omega) (by omega), jrm_n (a := (v : Int)) (b := 10) (by omega) (by omega) (by decide) (by decide), jdv_n (a := (v : Int)) (b := 10) (by omega) (by omega) (by decide) (by decide), be_f (by omega) (by omega) (by omega)]
      rcases steadyOn8 (M := X) (s := s) (h := h) (v := (v : Int)) (x := x) (z := z) (by rw [x1]; exact hb) (by rw [x1]; omega) hh hh2 (by omega) (by omega) hx hz with ⟨e, ho⟩ | ⟨e, ho⟩
      · rw [x1] at ho
        have hp : pv (M0 1) h x z v s = true := tb_t ho
        rw [e, bd_some, bq_f (by decide) (by decide) (by decide) (by decide) (by decide)]
        refine ih (s + 1) _ ⟨fun i hi => ?_, ?_, ?_, ?_, ?_, ?_⟩ (by omega) (by omega)
        · rw [up2_n (by omega), up2_n (by omega), up2_n (by omega), up2_n (by omega), up2_n (by omega)]
          exact x0 i hi
        · show X 18 0 + 1 = _
          rw [x18, cB, hp]
          show _ = c + (cB (pv (M0 1) h x z v) s + 1)
          omega
        · show jmi (X 19 0) ((v : Int) % 10) = _
          rw [x19, anB, hp, Bool.or_true]
          cases hq : anB (pv (M0 1) h x z v) s
          · show jmi lo ((v : Int) % 10) = min lo ((v % 10 : Nat) : Int)
            rw [jmi_e (by omega) (by omega) (by omega) (by omega)]; omega
          · show jmi (min lo ((v % 10 : Nat) : Int)) ((v : Int) % 10) = min lo ((v % 10 : Nat) : Int)
            rw [jmi_e (by omega) (by omega) (by omega) (by omega)]; omega
        · show jmx (X 20 0) ((v : Int) % 10) = _
          rw [x20, anB, hp, Bool.or_true]
          cases hq : anB (pv (M0 1) h x z v) s
          · show jmx hi ((v : Int) % 10) = max hi ((v % 10 : Nat) : Int)
            rw [jmx_e (by omega) (by omega) (by omega) (by omega)]; omega
          · show jmx (max hi ((v % 10 : Nat) : Int)) ((v : Int) % 10) = max hi ((v % 10 : Nat) : Int)
            rw [jmx_e (by omega) (by omega) (by omega) (by omega)]; omega
        · show jor (X 21 0) (jsl 1 ((v : Int) / 10)) = _
          rw [x21, anB, hp, Bool.or_true, show (v : Int) / 10 = ((v / 10 : Nat) : Int) from by omega]
          cases hq : anB (pv (M0 1) h x z v) s
          · rfl
          · exact jor_ii _ _
        · show jor (X 22 0) (jsl 1 (s : Int)) = _
          rw [x22, hB, hp, jor_as]
          rfl
      · rw [x1] at ho
        have hp : pv (M0 1) h x z v s = false := tb_f ho
        rw [e, bd_some, bq_t rfl]
        refine ih (s + 1) X ⟨x0, ?_, ?_, ?_, ?_, ?_⟩ (by omega) (by omega)
        · rw [x18, cB, hp]; show _ = c + (cB (pv (M0 1) h x z v) s + 0); omega
        · rw [x19, anB, hp, Bool.or_false]
        · rw [x20, anB, hp, Bool.or_false]
        · rw [x21, anB, hp, Bool.or_false]
        · rw [x22, hB, hp]; rfl
theorem on_calm {w : Nat → Int} {s : Nat} (hb : PB w) (hst : v % 10 = 0) : ¬ onS w h (v : Int) x z s := by
  have b5 := hb.b5
  intro q
  apply q.1
  have h0 : stD (w (25 + 2 * s)) h (v : Int) = 0 := by
    unfold stD
    rw [show (v : Int) % 10 = 0 from by omega, Int.mul_zero, Int.zero_mul]
  unfold inB stX stZ
  rw [h0, show (0 : Int) / 100 = 0 from rfl, Int.zero_mul, Int.zero_mul]
  omega
theorem g_b {w : Nat → Int} : ∀ v : Nat, (0 ≤ gLo w h x z v ∧ gLo w h x z v ≤ 10) ∧ (0 ≤ gHi w h x z v ∧ gHi w h x z v ≤ 9)
  | 0 => ⟨⟨(by decide : (0 : Int) ≤ 10), (by decide : (10 : Int) ≤ 10)⟩, (by decide : (0 : Int) ≤ 0), (by decide : (0 : Int) ≤ 9)⟩
  | v + 1 => by
    have ih := g_b (w := w) v
    rw [gLo, gHi]
    cases anB (pv w h x z v) (w 10).toNat
    · exact ih
    · refine ⟨⟨?_, ?_⟩, ?_, ?_⟩
      · show 0 ≤ min (gLo w h x z v) ((v % 10 : Nat) : Int); omega
      · show min (gLo w h x z v) ((v % 10 : Nat) : Int) ≤ 10; omega
      · show 0 ≤ max (gHi w h x z v) ((v % 10 : Nat) : Int); omega
      · show max (gHi w h x z v) ((v % 10 : Nat) : Int) ≤ 9; omega
theorem gSz_r {w : Nat → Int} : ∀ v : Nat, R32 (gSz w h x z v)
  | 0 => ⟨(by decide : (-2147483648 : Int) ≤ 0), (by decide : (0 : Int) ≤ 2147483647)⟩
  | v + 1 => jor_r _ _
theorem mark_out (hb : PB (M0 1)) (hh : 0 ≤ h) (hh2 : h ≤ 60) (hx : R32 x) (hz : R32 z) : ∀ (m v : Nat) (X : Ob), SM M0 (gC (M0 1) h x z v) (gLo (M0 1) h x z v) (gHi (M0 1) h x z v) (gWy (M0 1) h x z v) (gSz (M0 1) h x z v) X → v ≤ 40 → 40 - v < m → ∃ X', lX8_fillMarks_29 x z h m (v : Int) X = some X' ∧ SM M0 (gC (M0 1) h x z 40) (gLo (M0 1) h x z 40) (gHi (M0 1) h x z 40) (gWy (M0 1) h x z 40) (gSz (M0 1) h x z 40) X' := by
  have b10 := hb.b10
  intro m
  induction m with
  | zero => intro v X _ _ h2; omega
  | succ m ih =>
    intro v X hX h1 h2
    rw [lX8_fillMarks_29]
    by_cases c : v = 40
    · subst c
      rw [be_t (by decide) (by decide) (by decide)]
      exact ⟨X, rfl, hX⟩
    · rw [be_f (by omega) (by omega) (by omega)]
      have hg := g_b (w := M0 1) (h := h) (x := x) (z := z) v
      by_cases c2 : v % 10 = 0
      · obtain ⟨z1, z2, z3⟩ := hB_0 (p := pv (M0 1) h x z v) (n := (M0 1 10).toNat) (fun s _ => tb_f (on_calm hb c2))
        have hX' : SM M0 (gC (M0 1) h x z (v + 1)) (gLo (M0 1) h x z (v + 1)) (gHi (M0 1) h x z (v + 1)) (gWy (M0 1) h x z (v + 1)) (gSz (M0 1) h x z (v + 1)) X := by
          rw [gC, gLo, gHi, gWy, gSz, z1, z2, z3, Int.add_zero, jor_0 (gSz_r v)]
          exact hX
        obtain ⟨X', e1, e2⟩ := ih (v + 1) X hX' (by omega) (by omega)
        refine ⟨X', ?_, e2⟩
        rw [show FU = 4999 + 1 from rfl, lX8_fillMarks_39, lit (by decide), show ix 10 = 10 from by decide, hX.1 1 (by omega), jrm_n (a := (v : Int)) (b := 10) (by omega) (by omega) (by decide) (by decide), be_t (a := (v : Int) % 10) (b := 0) (by omega) (by omega) (by omega)]
        have e : ∀ {β : Type} (a b : Int) (Y : β), be a b Y Y = Y := fun a b Y => by unfold be; split <;> rfl
        rw [e, nm_e']
        exact e1
      · obtain ⟨X1, f1, f2⟩ := mark_in (M0 := M0) (v := v) (c := gC (M0 1) h x z v) (lo := gLo (M0 1) h x z v) (hi := gHi (M0 1) h x z v) (wy := gWy (M0 1) h x z v) (sz := gSz (M0 1) h x z v) (kx := fun M_14 => nm ((v : Int) + 1) (fun lx4_15 => lX8_fillMarks_29 x z h m lx4_15 M_14)) hb hh hh2 (by omega) (by omega) hx hz hg.1 hg.2 FU 0 X (by
          obtain ⟨x0, x18, x19, x20, x21, x22⟩ := hX
          refine ⟨x0, ?_, x19, x20, x21, ?_⟩
          · rw [x18]; show _ = _ + (0 : Int); omega
          · rw [x22]; exact (jor_0 (gSz_r v)).symm) (by omega) (by show _ < ((5000 : Nat) : Int); omega)
        rw [nm_e'] at f1
        obtain ⟨X', e1, e2⟩ := ih (v + 1) X1 f2 (by omega) (by omega)
        exact ⟨X', f1.trans e1, e2⟩
theorem fill8 (hb : PB (M0 1)) (hh : 0 ≤ h) (hh2 : h ≤ 60) (hx : R32 x) (hz : R32 z) : ∃ X', fX8_fillMarks M0 x z h = some X' ∧ SM M0 (gC (M0 1) h x z 40) (gLo (M0 1) h x z 40) (gHi (M0 1) h x z 40) (gWy (M0 1) h x z 40) (gSz (M0 1) h x z 40) X' := by
  unfold fX8_fillMarks
  rw [nm_e', nm_e', nm_e', nm_e', nm_e']
  exact mark_out hb hh hh2 hx hz FU 0 _ ⟨fun j hj => by rw [up2_n (by omega), up2_n (by omega), up2_n (by omega), up2_n (by omega), up2_n (by omega)], rfl, rfl, rfl, rfl, rfl⟩ (by omega) (by show _ < 5000; omega)
end
/-- the class looks, the model notes -/
def El (T : Nat → Ob) (M : Ob) (a : Option Int) (b : Option (Int × Ob)) : Prop := ∃ r M', a = some r ∧ b = some (r, M') ∧ Fr T M T M'
theorem El.s {T : Nat → Ob} {M : Ob} (r : Int) : El T M (some r) (some (r, M)) := ⟨r, M, rfl, rfl, Fr.refl T M⟩
theorem El.ite {c : Prop} [Decidable c] {T : Nat → Ob} {M : Ob} {a a2 : Option Int} {b b2 : Option (Int × Ob)} (h1 : c → El T M a b) (h2 : ¬ c → El T M a2 b2) : El T M (if c then a else a2) (if c then b else b2) := by
  by_cases h : c
  · rw [if_pos h, if_pos h]; exact h1 h
  · rw [if_neg h, if_neg h]; exact h2 h
theorem SM.fr {T : Nat → Ob} {M X : Ob} {c lo hi wy sz : Int} (h : SM M c lo hi wy sz X) : Fr T M T X := ⟨fun _ _ _ _ => rfl, fun k _ => by rw [h.1 1 (by omega)], fun j hj => h.1 j (by omega)⟩
section
variable {n : Nat} {T : Nat → Ob} {J : Nat → Bool} {M : Ob} {x z y0 a b : Int}
theorem pOn_pv {w : Nat → Int} {h : Int} {v : Nat} (hb : PB w) (hx : 0 ≤ x ∧ x < w 1) (hz : 0 ≤ z ∧ z < w 2) (s : Nat) : pOn w h (v : Int) (x + 100 * z) s = pv w h x z v s := tb_c (plc_on hb hx hz)
theorem marks_loop {h : Int} (hb : PB (M 1)) (hp : PR (T 2) (M 1)) (hh : 0 ≤ h) (hh2 : h ≤ 60) (hx : 0 ≤ x ∧ x < M 1 1) (hz : 0 ≤ z ∧ z < M 1 2) : ∀ (m v : Nat), v ≤ 40 → 40 - v < m → lX7_marks_41 T h (x + 100 * z) m (gC (M 1) h x z v) (v : Int) = some (gC (M 1) h x z 40) := by
  have b10 := hb.b10; have b1 := hb.b1; have b2 := hb.b2
  intro m
  induction m with
  | zero => intro v _ h2; omega
  | succ m ih =>
    intro v h1 h2
    rw [lX7_marks_41]
    by_cases c : v = 40
    · subst c
      rw [be_t (by decide) (by decide) (by decide)]
    · have hf := hB_f (p := pOn (M 1) h (v : Int) (x + 100 * z)) (n := (M 1 10).toNat) (by omega)
      rw [be_f (by omega) (by omega) (by omega), flight7 hh hh2, bd_some, hits7 hb hp hh hh2 (by omega) (by omega) ⟨by omega, by omega⟩, bd_some, hf.2.1, bd_some, nm_e', nm_e', (hB_c (n := (M 1 10).toNat) (fun s _ => pOn_pv (v := v) (h := h) hb hx hz s)).2.1]
      exact ih (v + 1) (by omega) (by omega)
theorem op_marks (h : Inv n T J M) (hx : R32 x) (hz : R32 z) (hy : R32 y0) : El T M (fX7_marks T x z y0) (fX8_marks M x z y0) := by
  have hb := h.now.pb
  unfold fX7_marks fX8_marks
  rw [isCell7 h.now.pr hb hx hz, isCell8 hb hx hz, bd_some, bd_some, bq_ite, bq_ite]
  refine El.ite (fun c => ?_) (fun _ => El.s _)
  rw [within7r hy ⟨by decide, by decide⟩ ⟨by decide, by decide⟩, in8i hy ⟨by decide, by decide⟩ ⟨by decide, by decide⟩, bd_some, bd_some, bq_ite, bq_ite]
  refine El.ite (fun c2 => ?_) (fun _ => El.s _)
  obtain ⟨X, e1, e2⟩ := fill8 (M0 := M) (x := x) (z := z) (h := y0) hb (by omega) c2.2 hx hz
  unfold fX7_placeOf
  rw [e1, bd_some, bd_some, e2.2.1]
  exact ⟨_, X, marks_loop hb h.now.pr (by omega) c2.2 c.1 c.2 FU 0 (by omega) (by show _ < 5000; omega), rfl, e2.fr⟩
/-- something comes on the cell by wind v -/
def anyV (w : Nat → Int) (h x z : Int) (v : Nat) : Prop := ∃ t : Nat, t < (w 10).toNat ∧ onS w h (v : Int) x z t
theorem any_i {w : Nat → Int} {h : Int} {v : Nat} : anB (pv w h x z v) (w 10).toNat = true ↔ anyV w h x z v := by
  rw [anB_i]
  exact ⟨fun ⟨s, h1, h2⟩ => ⟨s, h1, tb_i.mp h2⟩, fun ⟨s, h1, h2⟩ => ⟨s, h1, tb_i.mpr h2⟩⟩
theorem any_n {w : Nat → Int} {h : Int} {v : Nat} (c : ¬ anyV w h x z v) : anB (pv w h x z v) (w 10).toNat = false := by
  cases hq : anB (pv w h x z v) (w 10).toNat
  · rfl
  · exact absurd (any_i.mp hq) c
theorem gSz_p {w : Nat → Int} {h : Int} : ∀ v : Nat, gSz w h x z v = hP (fun t => ∃ i, i < v ∧ onS w h (i : Int) x z t) (w 10).toNat
  | 0 => (hP_z (fun s _ q => by obtain ⟨i, h1, -⟩ := q; omega)).symm
  | v + 1 => by
    rw [gSz, gSz_p v]
    show jor (hP _ _) (hP (fun t => onS w h (v : Int) x z t) _) = _
    rw [hP_or]
    refine hP_c (fun s _ => ⟨?_, ?_⟩)
    · rintro (⟨i, h1, h2⟩ | h2)
      · exact ⟨i, by omega, h2⟩
      · exact ⟨v, by omega, h2⟩
    · rintro ⟨i, h1, h2⟩
      by_cases c : i = v
      · subst c; exact Or.inr h2
      · exact Or.inl ⟨i, by omega, h2⟩
theorem gWy_p {w : Nat → Int} {h : Int} : ∀ v : Nat, v ≤ 40 → gWy w h x z v = hP (fun y => ∃ i, i < v ∧ i / 10 = y ∧ anyV w h x z i) 4
  | 0, _ => (hP_z (fun s _ q => by obtain ⟨i, h1, -⟩ := q; omega)).symm
  | v + 1, hv => by
    rw [gWy, gWy_p v (by omega)]
    by_cases ca : anyV w h x z v
    · rw [any_i.mpr ca]
      show jor (hP _ _) (jsl 1 ((v / 10 : Nat) : Int)) = _
      rw [hP_1 (by omega)]
      refine hP_c (fun s _ => ⟨?_, ?_⟩)
      · rintro (⟨i, h1, h2⟩ | h2)
        · exact ⟨i, by omega, h2⟩
        · exact ⟨v, by omega, h2.symm, ca⟩
      · rintro ⟨i, h1, h2, h3⟩
        by_cases c : i = v
        · subst c; exact Or.inr h2.symm
        · exact Or.inl ⟨i, by omega, h2, h3⟩
    · rw [any_n ca]
      show hP _ _ = _
      refine hP_c (fun s _ => ⟨?_, ?_⟩)
      · rintro ⟨i, h1, h2⟩
        exact ⟨i, by omega, h2⟩
      · rintro ⟨i, h1, h2, h3⟩
        by_cases c : i = v
        · subst c; exact absurd h3 ca
        · exact ⟨i, by omega, h2, h3⟩
theorem gLH_p {w : Nat → Int} {h : Int} : ∀ v : Nat, ((∀ i, i < v → ¬ anyV w h x z i) ∧ gC w h x z v = 0) ∨ ((∃ i, i < v ∧ anyV w h x z i ∧ ((i % 10 : Nat) : Int) = gLo w h x z v) ∧ (∃ i, i < v ∧ anyV w h x z i ∧ ((i % 10 : Nat) : Int) = gHi w h x z v) ∧ (∀ i, i < v → anyV w h x z i → gLo w h x z v ≤ ((i % 10 : Nat) : Int) ∧ ((i % 10 : Nat) : Int) ≤ gHi w h x z v) ∧ 1 ≤ gC w h x z v ∧ gC w h x z v ≤ 5 * v ∨ 5 < (w 10).toNat)
  | 0 => Or.inl ⟨fun i hi => by omega, rfl⟩
  | v + 1 => by
    by_cases c5 : 5 < (w 10).toNat
    · exact Or.inr (Or.inr c5)
    have hc := cB_b (p := pv w h x z v) (w 10).toNat
    have hg := g_b (w := w) (h := h) (x := x) (z := z) v
    have e1 : gC w h x z (v + 1) = gC w h x z v + cB (pv w h x z v) (w 10).toNat := rfl
    by_cases ca : anyV w h x z v
    · have hc1 := hc.2.2 (any_i.mpr ca)
      have l1 : gLo w h x z (v + 1) = min (gLo w h x z v) ((v % 10 : Nat) : Int) := by rw [gLo, any_i.mpr ca]; rfl
      have l2 : gHi w h x z (v + 1) = max (gHi w h x z v) ((v % 10 : Nat) : Int) := by rw [gHi, any_i.mpr ca]; rfl
      rcases gLH_p (w := w) (h := h) v with ⟨n1, n2⟩ | ⟨⟨i1, a1, a2, a3⟩, ⟨i2, b1, b2, b3⟩, d1, d2, d3⟩ | q
      · -- the first of all
        have f0 : ∀ k : Nat, k ≤ v → gLo w h x z k = 10 ∧ gHi w h x z k = 0 := by
          intro k
          induction k with
          | zero => intro _; exact ⟨rfl, rfl⟩
          | succ k ih =>
            intro hk
            have := ih (by omega)
            rw [gLo, gHi, any_n (n1 k (by omega))]
            exact this
        have f1 := f0 v (by omega)
        refine Or.inr (Or.inl ⟨⟨v, by omega, ca, by omega⟩, ⟨v, by omega, ca, by omega⟩, fun i hi hai => ?_, by omega, by omega⟩)
        by_cases ci : i = v
        · subst ci; omega
        · exact absurd hai (n1 i (by omega))
      · refine Or.inr (Or.inl ⟨?_, ?_, fun i hi hai => ?_, by omega, by omega⟩)
        · by_cases cm : gLo w h x z v ≤ ((v % 10 : Nat) : Int)
          · exact ⟨i1, by omega, a2, by omega⟩
          · exact ⟨v, by omega, ca, by omega⟩
        · by_cases cm : ((v % 10 : Nat) : Int) ≤ gHi w h x z v
          · exact ⟨i2, by omega, b2, by omega⟩
          · exact ⟨v, by omega, ca, by omega⟩
        · by_cases ci : i = v
          · subst ci; omega
          · have := d1 i (by omega) hai
            omega
      · exact Or.inr (Or.inr q)
    · have hz := hB_0 (p := pv w h x z v) (n := (w 10).toNat) (fun s hs => tb_f (fun q => ca ⟨s, hs, q⟩))
      have l1 : gLo w h x z (v + 1) = gLo w h x z v := by rw [gLo, any_n ca]; rfl
      have l2 : gHi w h x z (v + 1) = gHi w h x z v := by rw [gHi, any_n ca]; rfl
      rw [e1, hz.2.1, l1, l2, Int.add_zero]
      rcases gLH_p (w := w) (h := h) v with ⟨n1, n2⟩ | ⟨⟨i1, a1, a2, a3⟩, ⟨i2, b1, b2, b3⟩, d1, d2, d3⟩ | q
      · refine Or.inl ⟨fun i hi hai => ?_, n2⟩
        by_cases ci : i = v
        · subst ci; exact ca hai
        · exact n1 i (by omega) hai
      · refine Or.inr (Or.inl ⟨⟨i1, by omega, a2, a3⟩, ⟨i2, by omega, b2, b3⟩, fun i hi hai => ?_, d2, by omega⟩)
        by_cases ci : i = v
        · subst ci; exact absurd hai ca
        · exact d1 i (by omega) hai
      · exact Or.inr (Or.inr q)
/-- what the class has spanned: the winds D are through -/
def CS (w : Nat → Int) (h x z : Int) (D : Nat → Prop) (l g wy sz : Int) : Prop :=
  sz = hP (fun t => ∃ i, D i ∧ onS w h (i : Int) x z t) (w 10).toNat ∧ wy = hP (fun y => ∃ i, D i ∧ i / 10 = y ∧ anyV w h x z i) 4 ∧
  ((l = -1 ∧ g = -1 ∧ ∀ i, D i → ¬ anyV w h x z i) ∨ (1 ≤ l ∧ l ≤ 9 ∧ 1 ≤ g ∧ g ≤ 9 ∧ (∃ i, D i ∧ anyV w h x z i ∧ ((i % 10 : Nat) : Int) = l) ∧ (∃ i, D i ∧ anyV w h x z i ∧ ((i % 10 : Nat) : Int) = g) ∧ ∀ i, D i → anyV w h x z i → l ≤ ((i % 10 : Nat) : Int) ∧ ((i % 10 : Nat) : Int) ≤ g))
theorem CS.c {w : Nat → Int} {h : Int} {D E : Nat → Prop} {l g wy sz : Int} (q : CS w h x z D l g wy sz) (e : ∀ i, D i ↔ E i) : CS w h x z E l g wy sz := by
  have : D = E := funext (fun i => propext (e i))
  rw [← this]
  exact q
def Dn (st wy i : Nat) : Prop := i < 40 ∧ 1 ≤ i % 10 ∧ (i % 10 < st ∨ (i % 10 = st ∧ i / 10 < wy))
theorem span_in {h what : Int} {st : Nat} {kx : Int → Int → Int → Int → Option Int} (hb : PB (M 1)) (hp : PR (T 2) (M 1)) (hh : 0 ≤ h) (hh2 : h ≤ 60) (hx : 0 ≤ x ∧ x < M 1 1) (hz : 0 ≤ z ∧ z < M 1 2) (hs : 1 ≤ st) (hs2 : st ≤ 9) : ∀ (m wy : Nat) (l g wa sz : Int), CS (M 1) h x z (Dn st wy) l g wa sz → wy ≤ 4 → 4 - wy < m → ∃ l' g' wa' sz', lX7_span_70 T h what (x + 100 * z) (st : Int) kx m l g wa sz (wy : Int) = kx l' g' wa' sz' ∧ CS (M 1) h x z (Dn (st + 1) 0) l' g' wa' sz' := by
  have b10 := hb.b10; have b1 := hb.b1; have b2 := hb.b2
  intro m
  induction m with
  | zero => intro wy l g wa sz _ _ h2; omega
  | succ m ih =>
    intro wy l g wa sz hC h1 h2
    rw [lX7_span_70]
    by_cases c : wy = 4
    · subst c
      rw [be_t (by decide) (by decide) (by decide)]
      exact ⟨l, g, wa, sz, rfl, hC.c (fun i => by unfold Dn; omega)⟩
    · have hD : ∀ i, Dn st (wy + 1) i ↔ Dn st wy i ∨ i = 10 * wy + st := fun i => by unfold Dn; omega
      have hnew : Dn st (wy + 1) (10 * wy + st) := (hD _).mpr (Or.inr rfl)
      have hf := hB_f (p := pOn (M 1) h (10 * (wy : Int) + (st : Int)) (x + 100 * z)) (n := (M 1 10).toNat) (by omega)
      have hcc := hB_c (n := (M 1 10).toNat) (fun s _ => pOn_pv (v := 10 * wy + st) (h := h) hb hx hz s)
      rw [show ((10 * wy + st : Nat) : Int) = 10 * (wy : Int) + (st : Int) from by omega] at hcc
      rw [be_f (by omega) (by omega) (by omega), flight7 hh hh2, bd_some, hits7 hb hp hh hh2 (by omega) (by omega) ⟨by omega, by omega⟩, bd_some]
      by_cases ca : anyV (M 1) h x z (10 * wy + st)
      · rw [hcc.2.2, any_i.mpr ca] at hf
        have hne : 1 ≤ hB (pOn (M 1) h (10 * (wy : Int) + (st : Int)) (x + 100 * z)) (M 1 10).toNat := by
          rcases hf.1 with ⟨q1, q2⟩ | ⟨q1, q2⟩
          · exact absurd q2 (by decide)
          · exact q1
        have hle := hf.2.2.2
        rw [bq_f (by omega) (by omega) (by omega) (by omega) (by omega)]
        have hl : -1 ≤ l ∧ l ≤ 9 := by
          rcases hC.2.2 with ⟨d1, -, -⟩ | ⟨d1, d2, -⟩
          · exact ⟨by rw [d1]; decide, by rw [d1]; decide⟩
          · exact ⟨Int.le_trans (by decide) d1, d2⟩
        obtain ⟨c1, c2, c3⟩ := hC
        have mk : ∀ l' : Int, (l' = if l = -1 then (st : Int) else l) → CS (M 1) h x z (Dn st (wy + 1)) l' (st : Int) (jor wa (jsl 1 (wy : Int))) (jor sz (hB (pOn (M 1) h (10 * (wy : Int) + (st : Int)) (x + 100 * z)) (M 1 10).toNat)) := fun l' hl' => by
          refine ⟨?_, ?_, ?_⟩
          · rw [c1, hcc.1]
            show jor (hP _ _) (hP (fun t => onS (M 1) h ((10 * wy + st : Nat) : Int) x z t) _) = _
            rw [hP_or]
            refine hP_c (fun s _ => ⟨?_, ?_⟩)
            · rintro (⟨i, q1, q2⟩ | q2)
              · exact ⟨i, (hD i).mpr (Or.inl q1), q2⟩
              · exact ⟨_, hnew, q2⟩
            · rintro ⟨i, q1, q2⟩
              rcases (hD i).mp q1 with q | q
              · exact Or.inl ⟨i, q, q2⟩
              · subst q; exact Or.inr q2
          · rw [c2, hP_1 (by omega)]
            refine hP_c (fun s _ => ⟨?_, ?_⟩)
            · rintro (⟨i, q1, q2⟩ | q2)
              · exact ⟨i, (hD i).mpr (Or.inl q1), q2⟩
              · exact ⟨_, hnew, by omega, ca⟩
            · rintro ⟨i, q1, q2, q3⟩
              rcases (hD i).mp q1 with q | q
              · exact Or.inl ⟨i, q, q2, q3⟩
              · subst q; exact Or.inr (by omega)
          · right
            rcases c3 with ⟨d1, d2, d3⟩ | ⟨d1, d2, d3, d4, ⟨i1, p1, p2, p3⟩, -, d5⟩
            · rw [if_pos d1] at hl'
              refine ⟨by omega, by omega, by omega, by omega, ⟨_, hnew, ca, by omega⟩, ⟨_, hnew, ca, by omega⟩, fun i q1 q2 => ?_⟩
              rcases (hD i).mp q1 with q | q
              · exact absurd q2 (d3 i q)
              · subst q; omega
            · rw [if_neg (by omega)] at hl'
              refine ⟨by omega, by omega, by omega, by omega, ⟨i1, (hD i1).mpr (Or.inl p1), p2, by omega⟩, ⟨_, hnew, ca, by omega⟩, fun i q1 q2 => ?_⟩
              rcases (hD i).mp q1 with q | q
              · have := d5 i q q2
                unfold Dn at q
                omega
              · subst q
                unfold Dn at p1
                omega
        clear c3
        unfold jX7_span_120
        simp only [nm_e']
        by_cases cl : l = -1
        · rw [bq_t cl]
          exact ih (wy + 1) _ _ _ _ (mk _ (by rw [if_pos cl])) (by omega) (by omega)
        · rw [bq_f cl (by omega) (by omega) (by omega) (by omega)]
          exact ih (wy + 1) _ _ _ _ (mk _ (by rw [if_neg cl])) (by omega) (by omega)
      · have hz0 := hB_0 (p := pv (M 1) h x z (10 * wy + st)) (n := (M 1 10).toNat) (fun s hs => tb_f (fun q => ca ⟨s, hs, q⟩))
        rw [hcc.1, hz0.1, bq_t rfl, nm_e']
        refine ih (wy + 1) l g wa sz ⟨?_, ?_, ?_⟩ (by omega) (by omega)
        · rw [hC.1]
          refine hP_c (fun s hs => ⟨?_, ?_⟩)
          · rintro ⟨i, q1, q2⟩
            exact ⟨i, (hD i).mpr (Or.inl q1), q2⟩
          · rintro ⟨i, q1, q2⟩
            rcases (hD i).mp q1 with q | q
            · exact ⟨i, q, q2⟩
            · subst q; exact absurd ⟨s, hs, q2⟩ ca
        · rw [hC.2.1]
          refine hP_c (fun s _ => ⟨?_, ?_⟩)
          · rintro ⟨i, q1, q2⟩
            exact ⟨i, (hD i).mpr (Or.inl q1), q2⟩
          · rintro ⟨i, q1, q2, q3⟩
            rcases (hD i).mp q1 with q | q
            · exact ⟨i, q, q2, q3⟩
            · subst q; exact absurd q3 ca
        · rcases hC.2.2 with ⟨d1, d2, d3⟩ | ⟨d1, d2, d3, d4, ⟨i1, p1, p2, p3⟩, ⟨i2, r1, r2, r3⟩, d5⟩
          · refine Or.inl ⟨d1, d2, fun i q1 q2 => ?_⟩
            rcases (hD i).mp q1 with q | q
            · exact d3 i q q2
            · subst q; exact ca q2
          · refine Or.inr ⟨d1, d2, d3, d4, ⟨i1, (hD i1).mpr (Or.inl p1), p2, p3⟩, ⟨i2, (hD i2).mpr (Or.inl r1), r2, r3⟩, fun i q1 q2 => ?_⟩
            rcases (hD i).mp q1 with q | q
            · exact d5 i q q2
            · subst q; exact absurd q2 ca
theorem span_out {h what : Int} {kx : Int → Int → Int → Int → Option Int} (hb : PB (M 1)) (hp : PR (T 2) (M 1)) (hh : 0 ≤ h) (hh2 : h ≤ 60) (hx : 0 ≤ x ∧ x < M 1 1) (hz : 0 ≤ z ∧ z < M 1 2) : ∀ (m st : Nat) (l g wa sz : Int), CS (M 1) h x z (Dn st 0) l g wa sz → 1 ≤ st → st ≤ 10 → 10 - st < m → ∃ l' g' wa' sz', lX7_span_60 T h what (x + 100 * z) kx m l g wa sz (st : Int) = kx l' g' wa' sz' ∧ CS (M 1) h x z (Dn 10 0) l' g' wa' sz' := by
  intro m
  induction m with
  | zero => intro st l g wa sz _ _ _ h2; omega
  | succ m ih =>
    intro st l g wa sz hC h0 h1 h2
    rw [lX7_span_60]
    by_cases c : st = 10
    · subst c
      rw [bl_t (by decide) (by decide) (by decide)]
      exact ⟨l, g, wa, sz, rfl, hC⟩
    · rw [bl_f (by omega) (by omega) (by omega)]
      obtain ⟨l1, g1, w1, s1, e1, e2⟩ := span_in (T := T) (what := what) (st := st) (kx := fun lx6_11 lx7_12 lx8_13 lx9_14 => nm ((st : Int) + 1) (fun lx10_15 => lX7_span_60 T h what (x + 100 * z) kx m lx6_11 lx7_12 lx8_13 lx9_14 lx10_15)) hb hp hh hh2 hx hz h0 (by omega) FU 0 l g wa sz hC (by omega) (by show _ < 5000; omega)
      rw [nm_e'] at e1
      obtain ⟨l2, g2, w2, s2, f1, f2⟩ := ih (st + 1) l1 g1 w1 s1 e2 (by omega) (by omega) (by omega)
      exact ⟨l2, g2, w2, s2, e1.trans f1, f2⟩
theorem op_span (h : Inv n T J M) (hx : R32 x) (hz : R32 z) (hy : R32 y0) (ha : R32 a) : El T M (fX7_span T x z y0 a) (fX8_span M x z y0 a) := by
  have hb := h.now.pb
  have b10 := hb.b10
  unfold fX7_span fX8_span
  rw [isCell7 h.now.pr hb hx hz, isCell8 hb hx hz, bd_some, bd_some, bq_ite, bq_ite]
  refine El.ite (fun c => ?_) (fun _ => El.s _)
  rw [within7r hy ⟨by decide, by decide⟩ ⟨by decide, by decide⟩, in8i hy ⟨by decide, by decide⟩ ⟨by decide, by decide⟩, bd_some, bd_some, bq_ite, bq_ite]
  refine El.ite (fun c2 => ?_) (fun _ => El.s _)
  rw [within7r ha ⟨by decide, by decide⟩ ⟨by decide, by decide⟩, in8i ha ⟨by decide, by decide⟩ ⟨by decide, by decide⟩, bd_some, bd_some, bq_ite, bq_ite]
  refine El.ite (fun c3 => ?_) (fun _ => El.s _)
  obtain ⟨X, e1, e2⟩ := fill8 (M0 := M) (x := x) (z := z) (h := y0) hb (by omega) c2.2 hx hz
  obtain ⟨l, g, wa, sz, f1, f2⟩ := span_out (T := T) (what := a) (kx := fun lx6_16 lx7_17 lx8_18 lx9_19 => bq lx9_19 0 (some (-1)) (bq a 0 (some lx6_16) (bq a 1 (some lx7_17) (bq a 2 (some lx8_18) (some lx9_19))))) hb h.now.pr (show 0 ≤ y0 by omega) c2.2 c.1 c.2 FU 1 (-1) (-1) 0 0 ⟨(hP_z (fun s _ q => by obtain ⟨i, q1, -⟩ := q; unfold Dn at q1; omega)).symm, (hP_z (fun s _ q => by obtain ⟨i, q1, -⟩ := q; unfold Dn at q1; omega)).symm, Or.inl ⟨rfl, rfl, fun i q1 => by unfold Dn at q1; omega⟩⟩ (by decide) (by decide) (by show _ < 5000; decide)
  have hd : ∀ i, i < 40 → anyV (M 1) y0 x z i → Dn 10 0 i := fun i hi hai => by
    unfold Dn
    have : i % 10 ≠ 0 := fun q => by
      obtain ⟨t, -, t2⟩ := hai
      exact on_calm hb q t2
    omega
  have hd2 : ∀ i, Dn 10 0 i → i < 40 := fun i q => q.1
  have s1 : sz = gSz (M 1) y0 x z 40 := by
    rw [gSz_p, f2.1]
    refine hP_c (fun s hs => ⟨?_, ?_⟩)
    · rintro ⟨i, q1, q2⟩
      exact ⟨i, hd2 i q1, q2⟩
    · rintro ⟨i, q1, q2⟩
      exact ⟨i, hd i q1 ⟨s, hs, q2⟩, q2⟩
  have s2 : wa = gWy (M 1) y0 x z 40 := by
    rw [gWy_p 40 (by decide), f2.2.1]
    refine hP_c (fun s hs => ⟨?_, ?_⟩)
    · rintro ⟨i, q1, q2⟩
      exact ⟨i, hd2 i q1, q2⟩
    · rintro ⟨i, q1, q2, q3⟩
      exact ⟨i, hd i q1 q3, q2, q3⟩
  obtain ⟨x0, x18, x19, x20, x21, x22⟩ := e2
  have hfr : Fr T M T X := SM.fr ⟨x0, x18, x19, x20, x21, x22⟩
  unfold fX7_placeOf
  rw [bd_some, e1, bd_some, show lX7_span_60 T y0 a (x + 100 * z) _ FU (-1) (-1) 0 0 1 = _ from f1, x18, x19, x20, x21, x22]
  rcases gLH_p (w := M 1) (h := y0) (x := x) (z := z) 40 with ⟨n1, n2⟩ | ⟨⟨i1, a1, a2, a3⟩, ⟨i2, b1, b2, b3⟩, d1, d2, d3⟩ | q
  · have z0 : sz = 0 := by
      rw [f2.1]
      exact hP_z (fun s hs q => by obtain ⟨i, q1, q2⟩ := q; exact n1 i (hd2 i q1) ⟨s, hs, q2⟩)
    rw [bq_t z0, bq_t n2]
    exact ⟨_, X, rfl, rfl, hfr⟩
  · have hne : sz ≠ 0 ∧ 0 ≤ sz ∧ sz ≤ 31 := by
      rw [f2.1]
      have hf := hB_f (p := fun t => tb (∃ i, Dn 10 0 i ∧ onS (M 1) y0 (i : Int) x z t)) (n := (M 1 10).toNat) (by omega)
      refine ⟨?_, hf.2.2⟩
      obtain ⟨t, t1, t2⟩ := a2
      have hany : anB (fun t => tb (∃ i, Dn 10 0 i ∧ onS (M 1) y0 (i : Int) x z t)) (M 1 10).toNat = true := anB_i.mpr ⟨t, t1, tb_t ⟨i1, hd i1 a1 ⟨t, t1, t2⟩, t2⟩⟩
      rcases hf.1 with ⟨q1, q2⟩ | ⟨q1, q2⟩
      · rw [hany] at q2; exact absurd q2 (by decide)
      · exact fun q => by
          have : hB (fun t => tb (∃ i, Dn 10 0 i ∧ onS (M 1) y0 (i : Int) x z t)) (M 1 10).toNat = 0 := q
          omega
    have hlg : l = gLo (M 1) y0 x z 40 ∧ g = gHi (M 1) y0 x z 40 := by
      rcases f2.2.2 with ⟨q1, q2, q3⟩ | ⟨q1, q2, q3, q4, ⟨k1, p1, p2, p3⟩, ⟨k2, r1, r2, r3⟩, q5⟩
      · exact absurd a2 (q3 i1 (hd i1 a1 a2))
      · have u1 := q5 i1 (hd i1 a1 a2) a2
        have u2 := q5 i2 (hd i2 b1 b2) b2
        have u3 := d1 k1 (hd2 k1 p1) p2
        have u4 := d1 k2 (hd2 k2 r1) r2
        omega
    rw [bq_f hne.1 (by omega) (by omega) (by omega) (by omega), bq_f (show gC (M 1) y0 x z 40 ≠ 0 by omega) (by omega) (by omega) (by omega) (by omega), hlg.1, hlg.2, s2, s1]
    rcases (show a = 0 ∨ a = 1 ∨ a = 2 ∨ a = 3 by omega) with e | e | e | e <;> subst e
    · rw [bq_t (a := 0) (b := 0) rfl, bq_t (a := 0) (b := 0) rfl]; exact ⟨_, X, rfl, rfl, hfr⟩
    · rw [bq_f (a := 1) (b := 0) (by decide) (by decide) (by decide) (by decide) (by decide), bq_f (a := 1) (b := 0) (by decide) (by decide) (by decide) (by decide) (by decide), bq_t (a := 1) (b := 1) rfl, bq_t (a := 1) (b := 1) rfl]; exact ⟨_, X, rfl, rfl, hfr⟩
    · rw [bq_f (a := 2) (b := 0) (by decide) (by decide) (by decide) (by decide) (by decide), bq_f (a := 2) (b := 0) (by decide) (by decide) (by decide) (by decide) (by decide), bq_f (a := 2) (b := 1) (by decide) (by decide) (by decide) (by decide) (by decide), bq_f (a := 2) (b := 1) (by decide) (by decide) (by decide) (by decide) (by decide), bq_t (a := 2) (b := 2) rfl, bq_t (a := 2) (b := 2) rfl]; exact ⟨_, X, rfl, rfl, hfr⟩
    · rw [bq_f (a := 3) (b := 0) (by decide) (by decide) (by decide) (by decide) (by decide), bq_f (a := 3) (b := 0) (by decide) (by decide) (by decide) (by decide) (by decide), bq_f (a := 3) (b := 1) (by decide) (by decide) (by decide) (by decide) (by decide), bq_f (a := 3) (b := 1) (by decide) (by decide) (by decide) (by decide) (by decide), bq_f (a := 3) (b := 2) (by decide) (by decide) (by decide) (by decide) (by decide), bq_f (a := 3) (b := 2) (by decide) (by decide) (by decide) (by decide) (by decide)]; exact ⟨_, X, rfl, rfl, hfr⟩
  · omega
end
