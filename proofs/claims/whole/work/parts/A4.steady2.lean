/-! LAYER 2: steady winds, second part -/
noncomputable def tb (q : Prop) : Bool := @decide q (Classical.propDecidable q)
theorem tb_t {q : Prop} (h : q) : tb q = true := @decide_eq_true q (Classical.propDecidable q) h
theorem tb_f {q : Prop} (h : ¬ q) : tb q = false := @decide_eq_false q (Classical.propDecidable q) h
theorem i32_jor (a b : Int) : i32 (jor a b) = i32 a ||| i32 b := i32_toInt _
theorem jor_as (a b c : Int) : jor (jor a b) c = jor a (jor b c) := by
  show (i32 (jor a b) ||| i32 c).toInt = (i32 a ||| i32 (jor b c)).toInt
  rw [i32_jor, i32_jor, Int32.or_assoc]
theorem jor_co (a b : Int) : jor a b = jor b a := by
  unfold jor
  rw [Int32.or_comm]
theorem jor_ii (a b : Int) : jor (jor a b) b = jor a b := by
  show (i32 (jor a b) ||| i32 b).toInt = (i32 a ||| i32 b).toInt
  rw [i32_jor, Int32.or_assoc, Int32.or_self]
theorem jor_0l {a : Int} (h : R32 a) : jor 0 a = a := by rw [jor_co, jor_0 h]
theorem jsl_r (a b : Int) : R32 (jsl a b) := toInt_r _
/-- bits of what holds, how many hold, whether some does -/
def hB (p : Nat → Bool) : Nat → Int
  | 0 => 0
  | s + 1 => cond (p s) (jor (hB p s) (jsl 1 (s : Int))) (hB p s)
def cB (p : Nat → Bool) : Nat → Int
  | 0 => 0
  | s + 1 => cB p s + cond (p s) 1 0
def anB (p : Nat → Bool) : Nat → Bool
  | 0 => false
  | s + 1 => anB p s || p s
def pL (a b c d e : Bool) : Nat → Bool
  | 0 => a
  | 1 => b
  | 2 => c
  | 3 => d
  | _ => e
theorem hB_all : ∀ (a b c d e : Bool) (n : Nat), n < 6 → ((hB (pL a b c d e) n = 0 ∧ anB (pL a b c d e) n = false) ∨ (1 ≤ hB (pL a b c d e) n ∧ anB (pL a b c d e) n = true)) ∧ fJ6_bitCount_0f7a4 (hB (pL a b c d e) n) = some (cB (pL a b c d e) n) ∧ 0 ≤ hB (pL a b c d e) n ∧ hB (pL a b c d e) n ≤ 31 := by decide +kernel
theorem hB_c {p q : Nat → Bool} : ∀ {n : Nat}, (∀ s, s < n → p s = q s) → hB p n = hB q n ∧ cB p n = cB q n ∧ anB p n = anB q n
  | 0, _ => ⟨rfl, rfl, rfl⟩
  | n + 1, h => by
    obtain ⟨h1, h2, h3⟩ := hB_c (n := n) (fun s hs => h s (by omega))
    rw [hB, hB, cB, cB, anB, anB, h1, h2, h3, h n (by omega)]
    exact ⟨rfl, rfl, rfl⟩
theorem hB_f {p : Nat → Bool} {n : Nat} (hn : n ≤ 5) : ((hB p n = 0 ∧ anB p n = false) ∨ (1 ≤ hB p n ∧ anB p n = true)) ∧ fJ6_bitCount_0f7a4 (hB p n) = some (cB p n) ∧ 0 ≤ hB p n ∧ hB p n ≤ 31 := by
  obtain ⟨h1, h2, h3⟩ := hB_c (p := p) (q := pL (p 0) (p 1) (p 2) (p 3) (p 4)) (n := n) (fun s hs => by
    rcases (show s = 0 ∨ s = 1 ∨ s = 2 ∨ s = 3 ∨ s = 4 by omega) with e | e | e | e | e <;> subst e <;> rfl)
  rw [h1, h2, h3]
  exact hB_all _ _ _ _ _ n (by omega)
theorem hB_r {p : Nat → Bool} : ∀ n : Nat, R32 (hB p n)
  | 0 => ⟨(by decide : (-2147483648 : Int) ≤ 0), (by decide : (0 : Int) ≤ 2147483647)⟩
  | n + 1 => by
    rw [hB]
    cases p n
    · exact hB_r n
    · exact jor_r _ _
theorem anB_i {p : Nat → Bool} : ∀ {n : Nat}, anB p n = true ↔ ∃ s, s < n ∧ p s = true
  | 0 => by
    constructor
    · intro h; exact absurd (show false = true from h) (by decide)
    · rintro ⟨s, h, -⟩; omega
  | n + 1 => by
    rw [anB, Bool.or_eq_true, anB_i (n := n)]
    constructor
    · rintro (⟨s, h1, h2⟩ | h)
      · exact ⟨s, by omega, h2⟩
      · exact ⟨n, by omega, h⟩
    · rintro ⟨s, h1, h2⟩
      by_cases c : s = n
      · subst c; exact Or.inr h2
      · exact Or.inl ⟨s, by omega, h2⟩
/-- the s-th size comes on this cell -/
def onS (w : Nat → Int) (h v x z : Int) (s : Nat) : Prop := ¬ inB w (stX w (w (25 + 2 * s)) h v) (stZ w (w (25 + 2 * s)) h v) ∧ stX w (w (25 + 2 * s)) h v = x ∧ stZ w (w (25 + 2 * s)) h v = z
theorem plc_on {w : Nat → Int} {X Z x z : Int} (hb : PB w) (hx : 0 ≤ x ∧ x < w 1) (hz : 0 ≤ z ∧ z < w 2) : plc w X Z = x + 100 * z ↔ ¬ inB w X Z ∧ X = x ∧ Z = z := by
  have b1 := hb.b1
  by_cases c : inB w X Z
  · rw [plc_b c]
    exact ⟨fun h => by omega, fun h => absurd c h.1⟩
  · rw [plc_n c]
    by_cases c2 : (0 ≤ X ∧ X < w 1) ∧ 0 ≤ Z ∧ Z < w 2
    · rw [if_pos c2]
      exact ⟨fun h => ⟨c, by omega, by omega⟩, fun h => by omega⟩
    · rw [if_neg c2]
      exact ⟨fun h => by omega, fun h => by omega⟩
section
variable {P M : Ob} {w : Nat → Int} {x z h v : Int}
theorem steadyOn8 {s : Nat} (hb : PB (M 1)) (hs : (s : Int) < M 1 10) (hh : 0 ≤ h) (hh2 : h ≤ 60) (hv : 0 ≤ v) (hv2 : v ≤ 39) (hx : R32 x) (hz : R32 z) : (fX8_isSteadyOn M (s : Int) h v x z = some 1 ∧ onS (M 1) h v x z s) ∨ (fX8_isSteadyOn M (s : Int) h v x z = some 0 ∧ ¬ onS (M 1) h v x z s) := by
  have b10 := hb.b10
  have := hx.1; have := hx.2; have := hz.1; have := hz.2
  obtain ⟨t1, t2, -, -⟩ := hb.size s hs
  have hst := st_b hb t1 t2 hh hh2 hv hv2
  unfold fX8_isSteadyOn
  rw [drag8 (by omega), bd_some, east8 hh hh2 hv hv2, bd_some, bd_some, south8 hh hh2 hv hv2, bd_some]
  unfold fX8_isOn
  rw [caught8 hb t1 t2 hh hh2 hv hv2, bd_some, cellX8 hb t1 t2 hh hh2 hv hv2, bd_some, cellZ8 hb t1 t2 hh hh2 hv hv2, bd_some]
  by_cases c : inB (M 1) (stX (M 1) (M 1 (25 + 2 * s)) h v) (stZ (M 1) (M 1 (25 + 2 * s)) h v)
  · rw [if_pos c, bq_f (by decide) (by decide) (by decide) (by decide) (by decide)]
    exact Or.inr ⟨rfl, fun q => q.1 c⟩
  · rw [if_neg c, bq_t rfl]
    by_cases c1 : stX (M 1) (M 1 (25 + 2 * s)) h v = x
    · rw [bq_t c1]
      by_cases c2 : stZ (M 1) (M 1 (25 + 2 * s)) h v = z
      · rw [bq_t c2]
        exact Or.inl ⟨rfl, c, c1, c2⟩
      · rw [bq_f c2 (by omega) (by omega) (by omega) (by omega)]
        exact Or.inr ⟨rfl, fun q => c2 q.2.2⟩
    · rw [bq_f c1 (by omega) (by omega) (by omega) (by omega)]
      exact Or.inr ⟨rfl, fun q => c1 q.2.1⟩
/-- sizes that come on a place, as bits -/
noncomputable def pOn (w : Nat → Int) (h v p : Int) (s : Nat) : Bool := tb (plc w (stX w (w (25 + 2 * s)) h v) (stZ w (w (25 + 2 * s)) h v) = p)
theorem hits7 {p : Int} (hb : PB w) (hp : PR P w) (hh : 0 ≤ h) (hh2 : h ≤ 60) (hv : 0 ≤ v) (hv2 : v ≤ 39) (hpl : R32 p) : fX1_sizesHitting P p (2 * pcN h) v = some (hB (pOn w h v p) (w 10).toNat) := by
  have b10 := hb.b10
  have := hpl.1; have := hpl.2
  have hl : ∀ (m s : Nat), (s : Int) ≤ w 10 → w 10 - s < m → lX1_sizesHitting_6 P p (2 * pcN h) v m (hB (pOn w h v p) s) (s : Int) = some (hB (pOn w h v p) (w 10).toNat) := by
    intro m
    induction m with
    | zero => intro s h1 h2; omega
    | succ m ih =>
      intro s h1 h2
      rw [lX1_sizesHitting_6, hp.p11]
      by_cases c : w 10 ≤ s
      · rw [be_t c (by omega) (by omega), show (w 10).toNat = s from by omega]
      · have hs : (s : Int) < w 10 := by omega
        have hpo := plc_ok (x := stX w (w (25 + 2 * s)) h v) (z := stZ w (w (25 + 2 * s)) h v) hb
        have hi := ih (s + 1) (by omega) (by omega)
        rw [be_f (by omega) (by omega) (by omega), sPlace7 hb hp hs hh hh2 hv hv2, bd_some, nm_e', nm_e', nm_e']
        by_cases c2 : plc w (stX w (w (25 + 2 * s)) h v) (stZ w (w (25 + 2 * s)) h v) = p
        · rw [hB, show pOn w h v p s = true from tb_t c2] at hi
          rw [bq_t c2]
          exact hi
        · rw [hB, show pOn w h v p s = false from tb_f c2] at hi
          rw [bq_f c2 (by omega) (by omega) (by omega) (by omega)]
          exact hi
  exact hl FU 0 (by omega) (by show _ < ((5000 : Nat) : Int); omega)
theorem any1 (hb : PB (M 1)) : ∀ (m s : Nat), (s : Int) ≤ M 1 10 → M 1 10 - s < m → lX8_isAnyOn_6 M h v x z m 1 (s : Int) = some 1 := by
  have b10 := hb.b10
  intro m
  induction m with
  | zero => intro s h1 h2; omega
  | succ m ih =>
    intro s h1 h2
    rw [lX8_isAnyOn_6, lit (by decide), show ix 10 = 10 from by decide]
    by_cases c : M 1 10 ≤ s
    · rw [be_t c (by omega) (by omega)]; rfl
    · rw [be_f (by omega) (by omega) (by omega), bq_f (by decide) (by decide) (by decide) (by decide) (by decide), nm_e']
      exact ih (s + 1) (by omega) (by omega)
theorem any0 (hb : PB (M 1)) (hh : 0 ≤ h) (hh2 : h ≤ 60) (hv : 0 ≤ v) (hv2 : v ≤ 39) (hx : R32 x) (hz : R32 z) : ∀ (m s : Nat), (s : Int) ≤ M 1 10 → M 1 10 - s < m → (lX8_isAnyOn_6 M h v x z m 0 (s : Int) = some 1 ∧ ∃ t : Nat, (t : Int) < M 1 10 ∧ onS (M 1) h v x z t) ∨ (lX8_isAnyOn_6 M h v x z m 0 (s : Int) = some 0 ∧ ∀ t : Nat, s ≤ t → (t : Int) < M 1 10 → ¬ onS (M 1) h v x z t) := by
  have b10 := hb.b10
  intro m
  induction m with
  | zero => intro s h1 h2; omega
  | succ m ih =>
    intro s h1 h2
    rw [lX8_isAnyOn_6, lit (by decide), show ix 10 = 10 from by decide]
    by_cases c : M 1 10 ≤ s
    · rw [be_t c (by omega) (by omega)]
      exact Or.inr ⟨rfl, fun t h1 h2 => by omega⟩
    · rw [be_f (by omega) (by omega) (by omega), bq_t rfl]
      rcases steadyOn8 (s := s) hb (by omega) hh hh2 hv hv2 hx hz with ⟨e, ho⟩ | ⟨e, ho⟩
      · rw [e, bd_some, bq_f (by decide) (by decide) (by decide) (by decide) (by decide), nm_e']
        exact Or.inl ⟨any1 hb m (s + 1) (by omega) (by omega), s, by omega, ho⟩
      · rw [e, bd_some, bq_t rfl, nm_e']
        rcases ih (s + 1) (by omega) (by omega) with ⟨e1, e2⟩ | ⟨e1, e2⟩
        · exact Or.inl ⟨e1, e2⟩
        · refine Or.inr ⟨e1, fun t h1 h2 => ?_⟩
          by_cases ct : t = s
          · subst ct; exact ho
          · exact e2 t (by omega) h2
/-- something comes on the cell, on both sides -/
theorem hit_any (hb : PB (M 1)) (hp : PR P (M 1)) (hh : 0 ≤ h) (hh2 : h ≤ 60) (hv : 0 ≤ v) (hv2 : v ≤ 39) (hx : 0 ≤ x ∧ x < M 1 1) (hz : 0 ≤ z ∧ z < M 1 2) : ∃ r, fX1_sizesHitting P (x + 100 * z) (2 * pcN h) v = some r ∧ ((1 ≤ r ∧ r ≤ 31 ∧ fX8_isAnyOn M h v x z = some 1) ∨ (r = 0 ∧ fX8_isAnyOn M h v x z = some 0)) := by
  have b10 := hb.b10; have b1 := hb.b1; have b2 := hb.b2
  have hf := hB_f (p := pOn (M 1) h v (x + 100 * z)) (n := (M 1 10).toNat) (by omega)
  refine ⟨_, hits7 hb hp hh hh2 hv hv2 ⟨by omega, by omega⟩, ?_⟩
  rcases any0 hb hh hh2 hv hv2 (x := x) (z := z) ⟨by omega, by omega⟩ ⟨by omega, by omega⟩ FU 0 (by omega) (by show _ < ((5000 : Nat) : Int); omega) with ⟨e, t, t1, t2⟩ | ⟨e, t2⟩
  · have ha : anB (pOn (M 1) h v (x + 100 * z)) (M 1 10).toNat = true := anB_i.mpr ⟨t, by omega, tb_t ((plc_on hb hx hz).mpr t2)⟩
    rcases hf.1 with ⟨q1, q2⟩ | ⟨q1, q2⟩
    · rw [ha] at q2; exact absurd q2 (by decide)
    · exact Or.inl ⟨q1, hf.2.2.2, e⟩
  · rcases hf.1 with ⟨q1, q2⟩ | ⟨q1, q2⟩
    · exact Or.inr ⟨q1, e⟩
    · obtain ⟨s, s1, s2⟩ := anB_i.mp q2
      exfalso
      by_cases cq : plc (M 1) (stX (M 1) (M 1 (25 + 2 * s)) h v) (stZ (M 1) (M 1 (25 + 2 * s)) h v) = x + 100 * z
      · exact t2 s (by omega) (by omega) ((plc_on hb hx hz).mp cq)
      · rw [show pOn (M 1) h v (x + 100 * z) s = false from tb_f cq] at s2
        exact absurd s2 (by decide)
end
section
variable {n : Nat} {T : Nat → Ob} {J : Nat → Bool} {M : Ob} {x z y0 : Int}
theorem op_land (h : Inv n T J M) (hx : R32 x) (hz : R32 z) (hy : R32 y0) : Eqv (fX7_land T x z y0) (fX8_land M x z y0) := by
  have hb := h.now.pb
  have h10 := hb.b10
  unfold fX7_land fX8_land
  rw [throw7 h hx hz hy, bd_some, bq_ite, isSize8 hb hx, bd_some, bq_ite]
  by_cases c1 : 0 ≤ x ∧ x ≤ M 1 10 - 1
  · rw [if_pos c1, in8i hz ⟨by decide, by decide⟩ ⟨by decide, by decide⟩, bd_some, bq_ite]
    by_cases c2 : 1 ≤ z ∧ z ≤ 60
    · rw [if_pos c2, jwl_e hy.1 hy.2, isWind8 (by have := hy.1; omega) (by have := hy.2; omega), bd_some, bq_ite]
      by_cases c3 : 0 ≤ y0 ∧ y0 ≤ 39
      · obtain ⟨s, rfl⟩ := Int.eq_ofNat_of_zero_le c1.1
        have hs : (s : Int) < M 1 10 := by omega
        obtain ⟨t1, t2, -, -⟩ := hb.size s hs
        have hD := stD_b (d := M 1 (25 + 2 * s)) (h := z) (v := y0) t1 t2 (by omega) c2.2
        have hst := st_b hb t1 t2 (show 0 ≤ z by omega) c2.2 c3.1 c3.2
        rw [if_pos c3, if_pos ⟨c1, c2, c3⟩, flight7 (by omega) c2.2, bd_some, sDrift7 hb h.now.pr hs c3.1 c3.2, bd_some, nm_e', jdv_n c3.1 (by omega) (by decide) (by decide), gi (by omega) (by omega) (by decide), nm_e', gi (by omega) (by omega) (by decide), nm_e', jdv_n hD.1 (by omega) (by decide) (by decide), h.now.pr.p3, h.now.pr.p4, ix_e (by omega) (by omega), drag8 (by omega), bd_some, east8 (by omega) c2.2 c3.1 c3.2, bd_some, cellX8 hb t1 t2 (by omega) c2.2 c3.1 c3.2, bd_some, bd_some, south8 (by omega) c2.2 c3.1 c3.2, bd_some, cellZ8 hb t1 t2 (by omega) c2.2 c3.1 c3.2, bd_some]
        show Eqv (bd (fX1_isCell (T 2) (stX (M 1) (M 1 (25 + 2 * s)) z y0) (stZ (M 1) (M 1 (25 + 2 * s)) z y0)) _) _
        rw [isCell7 h.now.pr hb ⟨by omega, by omega⟩ ⟨by omega, by omega⟩, isCell8 hb ⟨by omega, by omega⟩ ⟨by omega, by omega⟩, bd_some, bd_some, bq_ite, bq_ite]
        exact Eqv.ite (fun _ => Eqv.s _) (fun _ => Eqv.s _)
      · rw [if_neg c3, if_neg (fun q => c3 q.2.2)]; exact Eqv.s _
    · rw [if_neg c2, if_neg (fun q => c2 q.2.1)]; exact Eqv.s _
  · rw [if_neg c1, if_neg (fun q => c1 q.1)]; exact Eqv.s _
theorem low_loop {v N : Int} (hb : PB (M 1)) (hp : PR (T 2) (M 1)) (hv : 0 ≤ v) (hv2 : v ≤ 39) : ∀ (m h : Nat), h ≤ 60 → 60 - h < m → Eqv (lX7_low_29 T v N m ((h : Int) + 1)) (lX8_low_32 M v N m (h : Int)) := by
  intro m
  induction m with
  | zero => intro h _ h2; omega
  | succ m ih =>
    intro h h1 h2
    rw [lX7_low_29, lX8_low_32]
    by_cases c : h = 60
    · subst c
      rw [bl_t (by decide) (by decide) (by decide), be_t (by decide) (by decide) (by decide)]
      exact Eqv.s _
    · obtain ⟨r, e1, e2, -⟩ := stray_eq (h := (h : Int) + 1) hb hp (by omega) (by omega) hv hv2
      rw [bl_f (by omega) (by omega) (by omega), be_f (by omega) (by omega) (by omega), e1, e2, bd_some, bd_some, be_bl]
      by_cases c2 : i32 N < i32 r
      · rw [bl_p c2, bl_p c2]
        exact Eqv.e (by omega)
      · rw [bl_n c2, bl_n c2, nm_e', nm_e']
        exact ih (h + 1) (by omega) (by omega)
theorem op_low (h : Inv n T J M) (hx : R32 x) (hz : R32 z) : Eqv (fX7_low T x z) (fX8_low M x z) := by
  have hb := h.now.pb
  unfold fX7_low fX8_low
  rw [hasSq7 h.now.pr hb, isSq8 hb, bd_some, bd_some, bq_ite, bq_ite]
  refine Eqv.ite (fun c => ?_) (fun _ => Eqv.s _)
  rw [isWind7 hx, jwl_e hx.1 hx.2, isWind8 (by have := hx.1; omega) (by have := hx.2; omega), bd_some, bd_some, bq_ite, bq_ite]
  refine Eqv.ite (fun c => ?_) (fun _ => Eqv.s _)
  rw [within7r hz ⟨by decide, by decide⟩ ⟨by decide, by decide⟩, in8i hz ⟨by decide, by decide⟩ ⟨by decide, by decide⟩, bd_some, bd_some, bq_ite, bq_ite]
  refine Eqv.ite (fun c2 => ?_) (fun _ => Eqv.s _)
  exact low_loop hb h.now.pr c.1 c.2 FU 0 (by omega) (by show _ < 5000; omega)
theorem op_small (h : Inv n T J M) (hx : R32 x) (hz : R32 z) (hy : R32 y0) : Eqv (fX7_small T x z y0) (fX8_small M x z y0) := by
  have hb := h.now.pb
  unfold fX7_small fX8_small
  rw [hasSq7 h.now.pr hb, isSq8 hb, bd_some, bd_some, bq_ite, bq_ite]
  refine Eqv.ite (fun c => ?_) (fun _ => Eqv.s _)
  rw [within7r hx ⟨by decide, by decide⟩ ⟨by decide, by decide⟩, in8i hx ⟨by decide, by decide⟩ ⟨by decide, by decide⟩, bd_some, bd_some, bq_ite, bq_ite]
  refine Eqv.ite (fun c1 => ?_) (fun _ => Eqv.s _)
  rw [within7r hz ⟨by decide, by decide⟩ ⟨by decide, by decide⟩, isHigh8 hz, bd_some, bd_some, bq_ite, bq_ite]
  refine Eqv.ite (fun c2 => ?_) (fun _ => Eqv.s _)
  rw [isWind7 hy, jwl_e hy.1 hy.2, isWind8 (by have := hy.1; omega) (by have := hy.2; omega), bd_some, bd_some, bq_ite, bq_ite]
  refine Eqv.ite (fun c3 => ?_) (fun _ => Eqv.s _)
  have hd : 0 ≤ z / x ∧ z / x ≤ 60 := by
    have a1 := Int.ediv_nonneg c2.1 (show 0 ≤ x by omega)
    have a2 := Int.ediv_le_self x c2.1
    omega
  obtain ⟨r, e1, e2, -⟩ := stray_eq (h := z / x) hb h.now.pr hd.1 hd.2 c3.1 c3.2
  have hnz : nz x = true := by
    unfold nz
    rw [decide_eq_false (fun q => by have := (eqI (a := x) (b := 0) (by omega) (by omega) (by decide) (by decide)).mp q; omega)]
    rfl
  rw [gd_t hnz, gd_t hnz, jdv_n c2.1 (by omega) (by omega) (by omega), e1, e2, bd_some]
  exact Eqv.s _
/-- the lowest height that hits a cell -/
def lowH (M : Ob) (v x z : Int) (q : Nat) : Prop := 1 ≤ q ∧ q ≤ 61 ∧ (∀ h' : Nat, 1 ≤ h' → h' < q → fX8_isAnyOn M (h' : Int) v x z = some 0) ∧ (q ≤ 60 → fX8_isAnyOn M (q : Int) v x z = some 1)
theorem lowH_loop {v a b : Int} (hb : PB (M 1)) (hp : PR (T 2) (M 1)) (hv : 0 ≤ v) (hv2 : v ≤ 39) (ha : 0 ≤ a ∧ a < M 1 1) (hc : 0 ≤ b ∧ b < M 1 2) : ∀ (m h : Nat), 1 ≤ h → h ≤ 61 → 61 - h < m → (∀ h' : Nat, 1 ≤ h' → h' < h → fX8_isAnyOn M (h' : Int) v a b = some 0) → ∃ q : Nat, lX7_lowestHit_15 T v (a + 100 * b) m (h : Int) = some (q : Int) ∧ lowH M v a b q := by
  intro m
  induction m with
  | zero => intro h _ _ h2; omega
  | succ m ih =>
    intro h h1 h2 h3 h4
    rw [lX7_lowestHit_15]
    by_cases c : h = 61
    · subst c
      rw [bl_t (by decide) (by decide) (by decide)]
      exact ⟨61, rfl, by decide, by decide, h4, fun q => by omega⟩
    · obtain ⟨r, e1, e2⟩ := hit_any (h := (h : Int)) (v := v) hb hp (by omega) (by omega) hv hv2 ha hc
      rw [bl_f (by omega) (by omega) (by omega), flight7 (by omega) (by omega), bd_some, e1, bd_some]
      rcases e2 with ⟨r1, r2, e3⟩ | ⟨r1, e3⟩
      · rw [bq_f (by omega) (by omega) (by omega) (by omega) (by omega)]
        exact ⟨h, rfl, h1, h2, h4, fun _ => e3⟩
      · rw [bq_t r1, nm_e']
        exact ih (h + 1) (by omega) (by omega) (by omega) (fun h' q1 q2 => by
          by_cases ce : h' = h
          · subst ce; exact e3
          · exact h4 h' q1 (by omega))
theorem tabPlace7 {P : Ob} {w : Nat → Int} {k : Nat} (hb : PB w) (hp : PR P w) (hk : (k : Int) < w 11) : fX1_tablePlace P (k : Int) = some (w (35 + 3 * k) + 100 * w (36 + 3 * k)) := by
  have b11 := hb.b11
  unfold fX1_tablePlace fX7_placeOf
  rw [gi (by omega) (by omega) (by omega), gi (by omega) (by omega) (by omega), ix_nat (by omega), (hp.tab k hk).1, (hp.tab k hk).2.1, bd_some]
theorem lowest7 {k : Nat} {v : Int} (h : Inv n T J M) (hk : (k : Int) < M 1 11) (hv : 0 ≤ v) (hv2 : v ≤ 39) : ∃ q : Nat, fX7_lowestHit T (k : Int) v = some (q : Int) ∧ lowH M v (M 1 (35 + 3 * k)) (M 1 (36 + 3 * k)) q := by
  have hb := h.now.pb
  have ht := hb.tab k hk
  unfold fX7_lowestHit
  rw [tabPlace7 hb h.now.pr hk, bd_some]
  exact lowH_loop hb h.now.pr hv hv2 ⟨ht.1, ht.2.1⟩ ⟨ht.2.2.1, ht.2.2.2.1⟩ FU 1 (by decide) (by decide) (by show _ < 5000; decide) (fun h' q1 q2 => by omega)
theorem bound8 {k q : Nat} {v : Int} (hb : PB (M 1)) (hk : (k : Int) < M 1 11) (hq : lowH M v (M 1 (35 + 3 * k)) (M 1 (36 + 3 * k)) q) : ∀ (m h : Nat), h + 1 ≤ q → q - h < m + 1 → 1 ≤ m → lX8_bound_21 M (k : Int) v m (h : Int) = some ((q : Int) - 1) := by
  have b11 := hb.b11
  obtain ⟨q1, q2, q3, q4⟩ := hq
  intro m
  induction m with
  | zero => intro h _ _ h2; omega
  | succ m ih =>
    intro h h1 h2 _
    rw [lX8_bound_21]
    by_cases c : h = 60
    · subst c
      rw [be_t (by decide) (by decide) (by decide)]
      exact congrArg some (by omega)
    · rw [be_f (by omega) (by omega) (by omega), ofTable8 (c := 0) (d := 0) rfl (by decide) (by omega), bd_some, ofTable8 (c := 1) (d := 1) rfl (by decide) (by omega), bd_some, show 35 + 3 * k + 0 = 35 + 3 * k from rfl, show 35 + 3 * k + 1 = 36 + 3 * k from by omega]
      by_cases c2 : h + 1 = q
      · rw [show fX8_isAnyOn M ((h : Int) + 1) v (M 1 (35 + 3 * k)) (M 1 (36 + 3 * k)) = some 1 from by rw [show (h : Int) + 1 = (q : Int) from by omega]; exact q4 (by omega), bd_some, bq_f (by decide) (by decide) (by decide) (by decide) (by decide)]
        exact congrArg some (by omega)
      · rw [show fX8_isAnyOn M ((h : Int) + 1) v (M 1 (35 + 3 * k)) (M 1 (36 + 3 * k)) = some 0 from q3 (h + 1) (by omega) (by omega), bd_some, bq_t rfl, nm_e']
        exact ih (h + 1) (by omega) (by omega) (by omega)
theorem op_bound (h : Inv n T J M) (hx : R32 x) (hz : R32 z) : Eqv (fX7_bound T x z) (fX8_bound M x z) := by
  have hb := h.now.pb
  have b11 := hb.b11
  unfold fX7_bound fX8_bound
  rw [isTable7 h.now.pr hb hx, isTable8 hb hx, bd_some, bd_some, bq_ite, bq_ite]
  refine Eqv.ite (fun c => ?_) (fun _ => Eqv.s _)
  rw [isWind7 hz, jwl_e hz.1 hz.2, isWind8 (by have := hz.1; omega) (by have := hz.2; omega), bd_some, bd_some, bq_ite, bq_ite]
  refine Eqv.ite (fun c2 => ?_) (fun _ => Eqv.s _)
  obtain ⟨k, rfl⟩ := Int.eq_ofNat_of_zero_le c.1
  obtain ⟨q, e1, e2⟩ := lowest7 (k := k) h (by omega) c2.1 c2.2
  have hq1 := e2.1; have hq2 := e2.2.1
  have e3 := bound8 (k := k) hb (by omega) e2 FU 0 (by omega) (by show _ < 5000 + 1; omega) (by show 1 ≤ 5000; decide)
  rw [e1, bd_some]
  exact ⟨(q : Int) - 1, rfl, e3⟩
theorem reach_in1 {k : Nat} {wy st : Int} {kx : Int → Option Int} (hb : PB (M 1)) (hk : (k : Int) < M 1 11) (hv : 0 ≤ 10 * wy + st) (hv2 : 10 * wy + st ≤ 39) : ∀ (m h : Nat) (acc : Int), R32 acc → jor acc (jsl 1 st) = acc → 1 ≤ h → h ≤ 61 → 61 - h < m → lX8_reach_38 M (k : Int) wy st kx m acc (h : Int) = kx acc := by
  have b11 := hb.b11; have b10 := hb.b10; have b1 := hb.b1; have b2 := hb.b2
  have ht := hb.tab k hk
  intro m
  induction m with
  | zero => intro h acc _ _ _ _ h2; omega
  | succ m ih =>
    intro h acc hr ha h1 h2 h3
    rw [lX8_reach_38]
    by_cases c : h = 61
    · subst c
      rw [bl_t (by decide) (by decide) (by decide)]
    · rw [bl_f (by omega) (by omega) (by omega), ofTable8 (c := 0) (d := 0) rfl (by decide) (by omega), bd_some, ofTable8 (c := 1) (d := 1) rfl (by decide) (by omega), bd_some, show 35 + 3 * k + 0 = 35 + 3 * k from rfl, show 35 + 3 * k + 1 = 36 + 3 * k from by omega]
      simp only [nm_e']
      rcases any0 (h := (h : Int)) (v := 10 * wy + st) (x := M 1 (35 + 3 * k)) (z := M 1 (36 + 3 * k)) hb (by omega) (by omega) hv hv2 ⟨by omega, by omega⟩ ⟨by omega, by omega⟩ FU 0 (by omega) (by show _ < ((5000 : Nat) : Int); omega) with ⟨e, -⟩ | ⟨e, -⟩
      · rw [show fX8_isAnyOn M (h : Int) (10 * wy + st) (M 1 (35 + 3 * k)) (M 1 (36 + 3 * k)) = some 1 from e, bd_some, bq_f (by decide) (by decide) (by decide) (by decide) (by decide), ha]
        exact ih (h + 1) acc hr ha (by omega) (by omega) (by omega)
      · rw [show fX8_isAnyOn M (h : Int) (10 * wy + st) (M 1 (35 + 3 * k)) (M 1 (36 + 3 * k)) = some 0 from e, bd_some, bq_t rfl, jor_0 hr]
        exact ih (h + 1) acc hr ha (by omega) (by omega) (by omega)
theorem reach_in {k q : Nat} {wy st : Int} {kx : Int → Option Int} (hb : PB (M 1)) (hk : (k : Int) < M 1 11) (hv : 0 ≤ 10 * wy + st) (hv2 : 10 * wy + st ≤ 39) (hq : lowH M (10 * wy + st) (M 1 (35 + 3 * k)) (M 1 (36 + 3 * k)) q) : ∀ (m h : Nat) (acc : Int), R32 acc → 1 ≤ h → h ≤ q → 61 - h < m → lX8_reach_38 M (k : Int) wy st kx m acc (h : Int) = kx (if q ≤ 60 then jor acc (jsl 1 st) else acc) := by
  have b11 := hb.b11
  obtain ⟨q1, q2, q3, q4⟩ := hq
  intro m
  induction m with
  | zero => intro h acc _ _ _ h2; omega
  | succ m ih =>
    intro h acc hr h1 h2 h3
    rw [lX8_reach_38]
    by_cases c : h = 61
    · subst c
      rw [bl_t (by decide) (by decide) (by decide), if_neg (by omega)]
    · rw [bl_f (by omega) (by omega) (by omega), ofTable8 (c := 0) (d := 0) rfl (by decide) (by omega), bd_some, ofTable8 (c := 1) (d := 1) rfl (by decide) (by omega), bd_some, show 35 + 3 * k + 0 = 35 + 3 * k from rfl, show 35 + 3 * k + 1 = 36 + 3 * k from by omega]
      simp only [nm_e']
      by_cases c2 : h = q
      · subst c2
        rw [q4 (by omega), bd_some, bq_f (by decide) (by decide) (by decide) (by decide) (by decide), if_pos (by omega)]
        exact reach_in1 hb hk hv hv2 m (h + 1) _ (jor_r _ _) (jor_ii _ _) (by omega) (by omega) (by omega)
      · rw [q3 h h1 (by omega), bd_some, bq_t rfl, jor_0 hr]
        exact ih (h + 1) acc hr (by omega) (by omega) (by omega)
theorem reach_out {k : Nat} {wy : Int} (h : Inv n T J M) (hk : (k : Int) < M 1 11) (hw : 0 ≤ wy) (hw2 : wy ≤ 3) : ∀ (m s : Nat) (acc : Int), R32 acc → s ≤ 10 → 10 - s < m → Eqv (lX7_reach_23 T (k : Int) wy m acc (s : Int)) (lX8_reach_28 M (k : Int) wy m acc (s : Int)) := by
  have hb := h.now.pb
  intro m
  induction m with
  | zero => intro s acc _ _ h2; omega
  | succ m ih =>
    intro s acc hr h1 h2
    rw [lX7_reach_23, lX8_reach_28]
    by_cases c : s = 10
    · subst c
      rw [bl_t (by decide) (by decide) (by decide), be_t (by decide) (by decide) (by decide)]
      exact Eqv.s _
    · obtain ⟨q, e1, e2⟩ := lowest7 (k := k) (v := 10 * wy + (s : Int)) h hk (by omega) (by omega)
      have hq1 := e2.1; have hq2 := e2.2.1
      have e3 := reach_in (k := k) (kx := fun lx3_10 => nm ((s : Int) + 1) (fun lx4_11 => lX8_reach_28 M (k : Int) wy m lx3_10 lx4_11)) hb hk (by omega) (by omega) e2 FU 1 acc hr (by decide) hq1 (by show _ < 5000; omega)
      rw [bl_f (by omega) (by omega) (by omega), be_f (by omega) (by omega) (by omega), e1, bd_some, show lX8_reach_38 M (k : Int) wy (s : Int) (fun lx3_10 => nm ((s : Int) + 1) (fun lx4_11 => lX8_reach_28 M (k : Int) wy m lx3_10 lx4_11)) FU acc 1 = _ from e3, nm_e', nm_e', nm_e', nm_e']
      by_cases c2 : q ≤ 60
      · rw [bl_f (by omega) (by omega) (by omega), if_pos c2]
        exact ih (s + 1) _ (jor_r _ _) (by omega) (by omega)
      · rw [bl_t (by omega) (by omega) (by omega), if_neg c2]
        exact ih (s + 1) _ hr (by omega) (by omega)
theorem op_reach (h : Inv n T J M) (hx : R32 x) (hz : R32 z) : Eqv (fX7_reach T x z) (fX8_reach M x z) := by
  have hb := h.now.pb
  have b11 := hb.b11
  unfold fX7_reach fX8_reach
  rw [isTable7 h.now.pr hb hx, isTable8 hb hx, bd_some, bd_some, bq_ite, bq_ite]
  refine Eqv.ite (fun c => ?_) (fun _ => Eqv.s _)
  rw [isWay7 hz, in8i hz ⟨by decide, by decide⟩ ⟨by decide, by decide⟩, bd_some, bd_some, bq_ite, bq_ite]
  refine Eqv.ite (fun c2 => ?_) (fun _ => Eqv.s _)
  obtain ⟨k, rfl⟩ := Int.eq_ofNat_of_zero_le c.1
  exact reach_out (k := k) h (by omega) c2.1 c2.2 FU 0 0 ⟨by decide, by decide⟩ (by omega) (by show _ < 5000; omega)
/-- drops of this drag are caught -/
theorem caught_iff {w : Nat → Int} {d h v : Int} (hb : PB w) (hd : 0 ≤ d) (hd2 : d ≤ 99) (hh : 0 ≤ h) (hh2 : h ≤ 60) (hv : 0 ≤ v) (hv2 : v ≤ 39) : inB w (stX w d h v) (stZ w d h v) ↔ stD d h v / 100 ≤ w 5 := by
  have hD := stD_b (v := v) hd hd2 hh hh2
  have b5 := hb.b5
  unfold inB stX stZ
  rcases (show v / 10 = 0 ∨ v / 10 = 1 ∨ v / 10 = 2 ∨ v / 10 = 3 by omega) with e | e | e | e <;> rw [e]
  · rw [show wayX (0 : Int).toNat = 0 from rfl, show wayY (0 : Int).toNat = -1 from rfl]; omega
  · rw [show wayX (1 : Int).toNat = 1 from rfl, show wayY (1 : Int).toNat = 0 from rfl]; omega
  · rw [show wayX (2 : Int).toNat = 0 from rfl, show wayY (2 : Int).toNat = 1 from rfl]; omega
  · rw [show wayX (3 : Int).toNat = -1 from rfl, show wayY (3 : Int).toNat = 0 from rfl]; omega
theorem fine_loop {h v : Int} (hb : PB (M 1)) (hp : PR (T 2) (M 1)) (hh : 0 ≤ h) (hh2 : h ≤ 60) (hv : 0 ≤ v) (hv2 : v ≤ 39) : ∀ (m d : Nat), d ≤ 100 → d < m → Eqv (lX7_fine_28 T (v % 10 * (2 * pcN h)) m ((d : Int) - 1)) (lX8_fine_35 M h v m ((d : Int) - 1)) := by
  have b5 := hb.b5
  intro m
  induction m with
  | zero => intro d _ h2; omega
  | succ m ih =>
    intro d h1 h2
    rw [lX7_fine_28, lX8_fine_35]
    by_cases c : d = 0
    · subst c
      rw [bl_t (by decide) (by decide) (by decide), bl_t (by decide) (by decide) (by decide)]
      exact Eqv.s _
    · have hD := stD_b (d := (d : Int) - 1) (h := h) (v := v) (by omega) (by omega) hh hh2
      have ci := caught_iff (d := (d : Int) - 1) (h := h) (v := v) hb (by omega) (by omega) hh hh2 hv hv2
      rw [bl_f (a := (d : Int) - 1) (b := 0) (by omega) (by omega) (by omega), bl_f (a := (d : Int) - 1) (b := 0) (by omega) (by omega) (by omega), sCaught8 hb (by omega) (by omega) hh hh2 hv hv2, bd_some, ← Int.mul_assoc, show ((d : Int) - 1) * (v % 10) * (2 * pcN h) = stD ((d : Int) - 1) h v from rfl, jdv_n hD.1 (by omega) (by decide) (by decide), hp.p5]
      by_cases c2 : stD ((d : Int) - 1) h v / 100 ≤ M 1 5
      · rw [bl_f (by omega) (by omega) (by omega), if_pos (ci.mpr c2), bq_f (by decide) (by decide) (by decide) (by decide) (by decide)]
        exact Eqv.s _
      · rw [bl_t (by omega) (by omega) (by omega), if_neg (fun q => c2 (ci.mp q)), bq_t rfl, nm_e', nm_e', show (d : Int) - 1 + -1 = ((d - 1 : Nat) : Int) - 1 from by omega]
        exact ih (d - 1) (by omega) (by omega)
theorem op_fine (h : Inv n T J M) (hx : R32 x) (hz : R32 z) (hy : R32 y0) : Eqv (fX7_fine T x z y0) (fX8_fine M x z y0) := by
  have hb := h.now.pb
  have h10 := hb.b10
  unfold fX7_fine fX8_fine
  rw [throw7 h hx hz hy, bd_some, bq_ite, isSize8 hb hx, bd_some, bq_ite]
  by_cases c1 : 0 ≤ x ∧ x ≤ M 1 10 - 1
  · rw [if_pos c1, in8i hz ⟨by decide, by decide⟩ ⟨by decide, by decide⟩, bd_some, bq_ite]
    by_cases c2 : 1 ≤ z ∧ z ≤ 60
    · rw [if_pos c2, jwl_e hy.1 hy.2, isWind8 (by have := hy.1; omega) (by have := hy.2; omega), bd_some, bq_ite]
      by_cases c3 : 0 ≤ y0 ∧ y0 ≤ 39
      · rw [if_pos c3, if_pos ⟨c1, c2, c3⟩, flight7 (by omega) c2.2, bd_some, nm_e', jrm_n c3.1 (by omega) (by decide) (by decide)]
        exact fine_loop hb h.now.pr (by omega) c2.2 c3.1 c3.2 FU 100 (by decide) (by show 100 < 5000; decide)
      · rw [if_neg c3, if_neg (fun q => c3 q.2.2)]; exact Eqv.s _
    · rw [if_neg c2, if_neg (fun q => c2 q.2.1)]; exact Eqv.s _
  · rw [if_neg c1, if_neg (fun q => c1 q.1)]; exact Eqv.s _
end
