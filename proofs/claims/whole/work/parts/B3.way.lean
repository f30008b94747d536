/-! LAYER 2: ways, on both sides -/
theorem sweep_ch {w dl f' : Nat → Int} (h : wetP w) (h3 : ∀ c b, vld w c → nb w c b → dl c ≤ dl b + w (519 + c)) (hd : ∀ c, dl c ≤ 1000000000) (l : List Nat) : ∀ (f : Nat → Int) (ch : Bool), (∀ c, c ∈ l → vld w c) → Gd w dl f → Sw w l f f' ch → ch = true → ∃ c, c < 900 ∧ f' c < f c := by
  induction l with
  | nil =>
    intro f ch _ g s q
    obtain ⟨s1, s2⟩ : f' = f ∧ ch = false := s
    rw [s2] at q
    exact absurd q (by decide)
  | cons a l ih =>
    intro f ch hl g s q
    obtain ⟨f1, d1, d2, e1, e2, e3⟩ : ∃ f1 c1 c2, EaS w f a f1 c1 ∧ Sw w l f1 f' c2 ∧ ch = (c1 || c2) := s
    obtain ⟨a1, a2, a3⟩ := ease_ok h h3 hd (hl a List.mem_cons_self) g e1
    obtain ⟨b1, b2, b3⟩ := sweep_ok h h3 hd l f1 d2 (fun c hc => hl c (List.mem_cons_of_mem _ hc)) a1 e2
    cases hd1 : d1
    · have hd2 : d2 = true := by rw [q, hd1] at e3; exact e3.symm
      obtain ⟨c, c1, c2⟩ := ih f1 d2 (fun c hc => hl c (List.mem_cons_of_mem _ hc)) a1 e2 hd2
      exact ⟨c, c1, by have := a2 c; omega⟩
    · obtain ⟨m, -, p⟩ := e1
      rcases p with ⟨p1, p2, p3⟩ | ⟨p1, p2, p3⟩
      · refine ⟨a, (hl a List.mem_cons_self).1, ?_⟩
        have := b2 a
        rw [p2, up1_s] at this
        omega
      · rw [hd1] at p3; exact absurd p3 (by decide)
theorem Un_mono {w dl f f' : Nat → Int} (g : Gd w dl f') (hl : ∀ i, f' i ≤ f i) : Un dl f' ≤ Un dl f := sm_le (fun i _ => by
  show (if f' i = dl i then (0 : Int) else 1) ≤ if f i = dl i then 0 else 1
  by_cases qi : f i = dl i
  · have a1 := hl i
    have a2 := g.2.2.2 i
    rw [if_pos qi, if_pos (by omega)]; omega
  · rw [if_neg qi]; split <;> omega)
/-- a sweep over the cells C -/
def SwS (w f0 : Nat → Int) (C : Nat → Prop) (f : Nat → Int) (ch : Bool) : Prop := ∃ l, Sw w l f0 f ch ∧ (∀ c, c ∈ l → vld w c) ∧ ∀ c, C c → vld w c → c ∈ l
theorem SwS.nil {w f0 : Nat → Int} {C : Nat → Prop} (h : ∀ c, ¬ C c) : SwS w f0 C f0 false := ⟨[], (show f0 = f0 ∧ false = false from ⟨rfl, rfl⟩), fun c hc => absurd hc (List.not_mem_nil), fun c hc _ => absurd hc (h c)⟩
theorem SwS.step {w f0 f f' : Nat → Int} {C D : Nat → Prop} {ch c2 : Bool} {c : Nat} (s : SwS w f0 C f ch) (hv : vld w c) (e : EaS w f c f' c2) (hD : ∀ i, D i → C i ∨ i = c) : SwS w f0 D f' (ch || c2) := by
  obtain ⟨l, s1, s2, s3⟩ := s
  refine ⟨l ++ [c], Sw.snoc l _ _ _ s1 e, fun i hi => ?_, fun i hi hvi => ?_⟩
  · rcases List.mem_append.mp hi with q | q
    · exact s2 i q
    · rw [List.mem_singleton.mp q]; exact hv
  · rcases hD i hi with q | q
    · exact List.mem_append.mpr (Or.inl (s3 i q hvi))
    · exact List.mem_append.mpr (Or.inr (List.mem_singleton.mpr q))
theorem SwS.sub {w f0 f : Nat → Int} {C D : Nat → Prop} {ch : Bool} (s : SwS w f0 C f ch) (hD : ∀ i, D i → vld w i → C i) : SwS w f0 D f ch := by
  obtain ⟨l, s1, s2, s3⟩ := s
  exact ⟨l, s1, s2, fun i hi hv => s3 i (hD i hi hv) hv⟩
noncomputable def thI (w f : Nat → Int) (x z : Int) : Int := @ite _ (((0 ≤ x ∧ x < w 1) ∧ 0 ≤ z ∧ z < w 2) ∧ ¬ inB w x z) (Classical.propDecidable _) (f (30 * z + x).toNat) 1000000000
theorem thI_p {w f : Nat → Int} {x z : Int} (h : ((0 ≤ x ∧ x < w 1) ∧ 0 ≤ z ∧ z < w 2) ∧ ¬ inB w x z) : thI w f x z = f (30 * z + x).toNat := by unfold thI; rw [if_pos h]
theorem thI_n {w f : Nat → Int} {x z : Int} (h : ¬ (((0 ≤ x ∧ x < w 1) ∧ 0 ≤ z ∧ z < w 2) ∧ ¬ inB w x z)) : thI w f x z = 1000000000 := by unfold thI; rw [if_neg h]
/-- a cell's number -/
theorem vld_xz {w : Nat → Int} {x z : Nat} (hb : PB w) (hx : x < 30) (hz : z < 30) : vld w (30 * z + x) ↔ ((((x : Int) < w 1) ∧ (z : Int) < w 2) ∧ ¬ inB w (x : Int) (z : Int)) := by
  unfold vld
  rw [show (30 * z + x) % 30 = x from by omega, show (30 * z + x) / 30 = z from by omega]
  exact ⟨fun q => ⟨⟨q.2.1, q.2.2.1⟩, q.2.2.2⟩, fun q => ⟨by omega, q.1.1, q.1.2, q.2⟩⟩
theorem thI_thr {w f : Nat → Int} {x z : Int} {q : Prop} {b : Nat} (hb : PB w) (h1 : -1 ≤ x) (h2 : x ≤ 30) (h3 : -1 ≤ z) (h4 : z ≤ 30) (hq : q ↔ 0 ≤ x ∧ x < 30 ∧ 0 ≤ z) (hbe : 0 ≤ x → x < 30 → 0 ≤ z → (b : Int) = 30 * z + x) : thI w f x z = thr w f q b := by
  have b1 := hb.b1; have b2 := hb.b2
  by_cases c : ((0 ≤ x ∧ x < w 1) ∧ 0 ≤ z ∧ z < w 2) ∧ ¬ inB w x z
  · have e := hbe (by omega) (by omega) (by omega)
    obtain ⟨X, rfl⟩ := Int.eq_ofNat_of_zero_le c.1.1.1
    obtain ⟨Z, rfl⟩ := Int.eq_ofNat_of_zero_le c.1.2.1
    have hbb : b = 30 * Z + X := by omega
    rw [thI_p c, thr_p ⟨hq.mpr ⟨by omega, by omega, by omega⟩, by rw [hbb, vld_xz hb (by omega) (by omega)]; exact ⟨⟨c.1.1.2, c.1.2.2⟩, c.2⟩⟩, hbb, show (30 * (Z : Int) + (X : Int)).toNat = 30 * Z + X from by omega]
  · rw [thI_n c, thr_n (fun p => by
      have hxz := hq.mp p.1
      have e := hbe (by omega) (by omega) (by omega)
      obtain ⟨X, rfl⟩ := Int.eq_ofNat_of_zero_le hxz.1
      obtain ⟨Z, rfl⟩ := Int.eq_ofNat_of_zero_le hxz.2.2
      have hbb : b = 30 * Z + X := by omega
      have hv := p.2
      have h9 := hv.1
      rw [hbb] at hv h9
      have hv2 := (vld_xz hb (by omega) (by omega)).mp hv
      exact c ⟨⟨⟨by omega, hv2.1.1⟩, by omega, hv2.1.2⟩, hv2.2⟩)]
theorem mn4 {w f : Nat → Int} {x z : Nat} (hb : PB w) (hx : x < 30) (hz : z < 30) : min (min (thI w f ((x : Int) - 1) (z : Int)) (thI w f ((x : Int) + 1) (z : Int))) (min (thI w f (x : Int) ((z : Int) - 1)) (thI w f (x : Int) ((z : Int) + 1))) = mnf w f (30 * z + x) := by
  unfold mnf
  rw [thI_thr (q := 0 < (30 * z + x) % 30) (b := 30 * z + x - 1) hb (by omega) (by omega) (by omega) (by omega) (by omega) (by omega), thI_thr (q := (30 * z + x) % 30 < 29) (b := 30 * z + x + 1) hb (by omega) (by omega) (by omega) (by omega) (by omega) (by omega), thI_thr (z := (z : Int) - 1) (q := 30 ≤ 30 * z + x) (b := 30 * z + x - 30) hb (by omega) (by omega) (by omega) (by omega) (by omega) (by omega), thI_thr (z := (z : Int) + 1) (q := True) (b := 30 * z + x + 30) hb (by omega) (by omega) (by omega) (by omega) ⟨fun _ => by omega, fun _ => trivial⟩ (by omega)]
section
variable {P A M : Ob} {w dl : Nat → Int}
/-! the model's side -/
theorem thru8 {X : Ob} {x z : Int} (hb : PB (X 1)) (h1 : -1 ≤ x) (h2 : x ≤ 30) (h3 : -1 ≤ z) (h4 : z ≤ 30) : fX8_throughOf X x z = some (thI (X 1) (X 17) x z) := by
  have b1 := hb.b1; have b2 := hb.b2
  unfold fX8_throughOf
  rw [isCell8 hb ⟨by omega, by omega⟩ ⟨by omega, by omega⟩, bd_some, bq_ite]
  by_cases c : (0 ≤ x ∧ x < X 1 1) ∧ 0 ≤ z ∧ z < X 1 2
  · rw [if_pos c, basin8 hb (by omega) (by omega) (by omega) (by omega), bd_some]
    by_cases ci : inB (X 1) x z
    · rw [if_pos ci, bq_f (by decide) (by decide) (by decide) (by decide) (by decide), thI_n (fun q => q.2 ci)]
    · rw [if_neg ci, bq_t rfl, gi (by omega) (by omega) (by omega), ix_e (by omega) (by omega), thI_p ⟨c, ci⟩]
  · rw [if_neg c, thI_n (fun q => c q.1)]
def bi (b : Bool) : Int := cond b 1 0
theorem bi_or (a b : Bool) : jor (bi a) (bi b) = bi (a || b) := by cases a <;> cases b <;> decide
theorem isz_bi (a : Bool) : isz (bi a) = true := by cases a <;> rfl
/-- what the model holds while it seeks -/
def XR (M X : Ob) (f : Nat → Int) : Prop := (∀ j, j ≠ 17 → X j = M j) ∧ ∀ c, c < 900 → X 17 c = f c
theorem thI_c {f g : Nat → Int} {x z : Int} (hb : PB w) (h : ∀ c, c < 900 → f c = g c) : thI w f x z = thI w g x z := by
  have b1 := hb.b1; have b2 := hb.b2
  by_cases c : ((0 ≤ x ∧ x < w 1) ∧ 0 ≤ z ∧ z < w 2) ∧ ¬ inB w x z
  · rw [thI_p c, thI_p c, h _ (by omega)]
  · rw [thI_n c, thI_n c]
theorem spread_in {y : Nat} {f0 : Nat → Int} {C : Nat → Prop} {kx : Int → Ob → Option (Int × Ob)} (hb : PB (M 1)) (hw : wetP (M 1)) (h3 : ∀ c b, vld (M 1) c → nb (M 1) c b → dl c ≤ dl b + M 1 (519 + c)) (hd : ∀ c, dl c ≤ 1000000000) (hy : (y : Int) < M 1 2) :
    ∀ (m x : Nat) (ch : Bool) (X : Ob) (f : Nat → Int), XR M X f → Gd (M 1) dl f → SwS (M 1) f0 (fun c => C c ∨ (c / 30 = y ∧ c % 30 < x)) f ch → (x : Int) ≤ M 1 1 → M 1 1 - x < m → ∃ ch' X' f', lX8_spreads_16 (y : Int) kx m (bi ch) (x : Int) X = kx (bi ch') X' ∧ XR M X' f' ∧ Gd (M 1) dl f' ∧ SwS (M 1) f0 (fun c => C c ∨ (c / 30 = y ∧ ((c % 30 : Nat) : Int) < M 1 1)) f' ch' := by
  have b1 := hb.b1; have b2 := hb.b2
  intro m
  induction m with
  | zero => intro x ch X f _ _ _ h1 h2; omega
  | succ m ih =>
    intro x ch X f hX g s h1 h2
    have x1 : X 1 = M 1 := hX.1 1 (by decide)
    have hbX : PB (X 1) := by rw [x1]; exact hb
    rw [lX8_spreads_16, lit (by decide), show ix 1 = 1 from by decide, x1]
    simp only [nm_e']
    by_cases c : M 1 1 ≤ (x : Int)
    · rw [be_t c (by omega) (by omega)]
      exact ⟨ch, X, f, rfl, hX, g, s.sub (fun i hi _ => by
        rcases hi with q | q
        · exact Or.inl q
        · exact Or.inr (by omega))⟩
    · rw [be_f (by omega) (by omega) (by omega), basin8 hbX (by omega) (by omega) (by omega) (by omega), bd_some, x1]
      have hvx := vld_xz (w := M 1) (x := x) (z := y) hb (by omega) (by omega)
      by_cases ci : inB (M 1) (x : Int) (y : Int)
      · rw [if_pos ci, bq_f (by decide) (by decide) (by decide) (by decide) (by decide)]
        exact ih (x + 1) ch X f hX g (s.sub (fun i hi hv => by
          rcases hi with q | ⟨q1, q2⟩
          · exact Or.inl q
          · by_cases ce : i % 30 = x
            · exfalso
              have : i = 30 * y + x := by omega
              rw [this] at hv
              exact (hvx.mp hv).2 ci
            · exact Or.inr ⟨q1, by omega⟩)) (by omega) (by omega)
      · have hv : vld (M 1) (30 * y + x) := hvx.mpr ⟨⟨by omega, hy⟩, ci⟩
        have hwc := wet_le hw hv.1
        have hm := mnf_is (w := M 1) (f := f) (c := 30 * y + x) (fun b => (g.1 b).2)
        have hmb : 0 ≤ mnf (M 1) f (30 * y + x) ∧ mnf (M 1) f (30 * y + x) ≤ 1000000000 := by
          rcases hm.2 with e | ⟨b, -, e⟩
          · omega
          · have := g.1 b; omega
        have hfc := g.1 (30 * y + x)
        have e4 := mn4 (w := M 1) (f := f) (x := x) (z := y) hb (by omega) (by omega)
        have hr : ∀ a b : Int, -1 ≤ a → a ≤ 30 → -1 ≤ b → b ≤ 30 → fX8_throughOf X a b = some (thI (M 1) f a b) ∧ 0 ≤ thI (M 1) f a b ∧ thI (M 1) f a b ≤ 1000000000 := fun a b q1 q2 q3 q4 => by
          refine ⟨by rw [thru8 hbX q1 q2 q3 q4, x1, thI_c hb hX.2], ?_⟩
          unfold thI
          split
          · exact g.1 _
          · omega
        have r1 := hr ((x : Int) - 1) (y : Int) (by omega) (by omega) (by omega) (by omega)
        have r2 := hr ((x : Int) + 1) (y : Int) (by omega) (by omega) (by omega) (by omega)
        have r3 := hr (x : Int) ((y : Int) - 1) (by omega) (by omega) (by omega) (by omega)
        have r4 := hr (x : Int) ((y : Int) + 1) (by omega) (by omega) (by omega) (by omega)
        rw [if_neg ci, bq_t rfl, r1.1, bd_some, r2.1, bd_some, r3.1, bd_some, r4.1, bd_some, wetOf8 (by omega) (by omega) (by omega) (by omega), bd_some, x1, jmi_e (a := thI (M 1) f ((x : Int) - 1) (y : Int)) (by omega) (by omega) (by omega) (by omega), jmi_e (a := thI (M 1) f (x : Int) ((y : Int) - 1)) (by omega) (by omega) (by omega) (by omega), jmi_e (by omega) (by omega) (by omega) (by omega), e4, gi (by omega) (by omega) (by omega), gi (by omega) (by omega) (by omega), ix_e (by omega) (by omega), show (30 * (y : Int) + (x : Int)).toNat = 30 * y + x from by omega, hX.2 (30 * y + x) (by omega)]
        have hDD : ∀ i, (C i ∨ (i / 30 = y ∧ i % 30 < x + 1)) → (C i ∨ (i / 30 = y ∧ i % 30 < x)) ∨ i = 30 * y + x := fun i hi => by
          rcases hi with q | ⟨q1, q2⟩
          · exact Or.inl (Or.inl q)
          · by_cases ce : i % 30 = x
            · exact Or.inr (by omega)
            · exact Or.inl (Or.inr ⟨q1, by omega⟩)
        by_cases cl : mnf (M 1) f (30 * y + x) + M 1 (519 + (30 * y + x)) < f (30 * y + x)
        · rw [bl_t cl (by omega) (by omega)]
          have he : EaS (M 1) f (30 * y + x) (up1 f (30 * y + x) (mnf (M 1) f (30 * y + x) + M 1 (519 + (30 * y + x)))) true := ⟨_, hm, Or.inl ⟨cl, rfl, rfl⟩⟩
          have hs := s.step hv he hDD
          rw [Bool.or_true] at hs
          exact ih (x + 1) true _ _ ⟨fun j hj => by rw [up2_n hj]; exact hX.1 j hj, fun c hc => by
            rw [up2_s]
            by_cases cc : c = 30 * y + x
            · subst cc; rw [up1_s, up1_s]
            · rw [up1_n cc, up1_n cc]; exact hX.2 c hc⟩ (ease_ok hw h3 hd hv g he).1 hs (by omega) (by omega)
        · rw [bl_f (by omega) (by omega) (by omega)]
          have he : EaS (M 1) f (30 * y + x) f false := ⟨_, hm, Or.inr ⟨cl, rfl, rfl⟩⟩
          have hs := s.step hv he hDD
          rw [Bool.or_false] at hs
          exact ih (x + 1) ch X f hX g hs (by omega) (by omega)
theorem spread_out {f0 : Nat → Int} (hb : PB (M 1)) (hw : wetP (M 1)) (h3 : ∀ c b, vld (M 1) c → nb (M 1) c b → dl c ≤ dl b + M 1 (519 + c)) (hd : ∀ c, dl c ≤ 1000000000) :
    ∀ (m y : Nat) (ch : Bool) (X : Ob) (f : Nat → Int), XR M X f → Gd (M 1) dl f → SwS (M 1) f0 (fun c => c / 30 < y) f ch → (y : Int) ≤ M 1 2 → M 1 2 - y < m → ∃ ch' X' f', lX8_spreads_4 m (bi ch) (y : Int) X = some (bi ch', X') ∧ XR M X' f' ∧ Gd (M 1) dl f' ∧ SwS (M 1) f0 (fun _ => True) f' ch' := by
  have b1 := hb.b1; have b2 := hb.b2
  intro m
  induction m with
  | zero => intro y ch X f _ _ _ h1 h2; omega
  | succ m ih =>
    intro y ch X f hX g s h1 h2
    have x1 : X 1 = M 1 := hX.1 1 (by decide)
    rw [lX8_spreads_4, lit (by decide), show ix 2 = 2 from by decide, x1]
    by_cases c : M 1 2 ≤ (y : Int)
    · rw [be_t c (by omega) (by omega), gd_t (isz_bi ch)]
      exact ⟨ch, X, f, rfl, hX, g, s.sub (fun i _ hv => by have := hv.2.2.1; omega)⟩
    · rw [be_f (by omega) (by omega) (by omega)]
      obtain ⟨ch1, X1, f1, e1, e2, e3, e4⟩ := spread_in (M := M) (dl := dl) (y := y) (f0 := f0) (C := fun c => c / 30 < y) (kx := fun lx1_12 M_13 => nm ((y : Int) + 1) (fun lx2_14 => lX8_spreads_4 m lx1_12 lx2_14 M_13)) hb hw h3 hd (by omega) FU 0 ch X f hX g (s.sub (fun i hi _ => by omega)) (by omega) (by show _ < ((5000 : Nat) : Int); omega)
      rw [nm_e'] at e1
      obtain ⟨ch2, X2, f2, k1, k2, k3, k4⟩ := ih (y + 1) ch1 X1 f1 e2 e3 (e4.sub (fun i hi hv => by have := hv.2.1; omega)) (by omega) (by omega)
      exact ⟨ch2, X2, f2, e1.trans k1, k2, k3, k4⟩
/-! the class's side -/
def Ro (a b : Int) : Prop := (a = 2147483647 ∧ b = 1000000000) ∨ (a = b ∧ 0 ≤ b ∧ b < 1000000000)
theorem Ro.min {a b a' b' : Int} (h : Ro a b) (h' : Ro a' b') : Ro (min a a') (min b b') := by
  unfold Ro at h h' ⊢
  omega
def KR (K : Ob) (f : Nat → Int) : Prop := ∀ c, c < 900 → Ro (K 0 c) (f c)
def kI (w : Nat → Int) (K : Ob) (x z : Int) : Int := if (0 ≤ x ∧ x < w 1) ∧ 0 ≤ z ∧ z < w 2 then K 0 (30 * z + x).toNat else 2147483647
theorem kI_ro {K : Ob} {f : Nat → Int} {x z : Int} (hb : PB w) (hK : KR K f) (g : Gd w dl f) : Ro (kI w K x z) (thI w f x z) := by
  have b1 := hb.b1; have b2 := hb.b2
  unfold kI
  by_cases c : (0 ≤ x ∧ x < w 1) ∧ 0 ≤ z ∧ z < w 2
  · rw [if_pos c]
    by_cases ci : inB w x z
    · rw [thI_n (fun q => q.2 ci)]
      have hk := hK (30 * z + x).toNat (by omega)
      have hf : f (30 * z + x).toNat = 1000000000 := g.2.2.1 _ (fun hv => by
        obtain ⟨X, rfl⟩ := Int.eq_ofNat_of_zero_le c.1.1
        obtain ⟨Z, rfl⟩ := Int.eq_ofNat_of_zero_le c.2.1
        rw [show (30 * (Z : Int) + (X : Int)).toNat = 30 * Z + X from by omega] at hv
        exact ((vld_xz hb (by omega) (by omega)).mp hv).2 ci)
      rw [hf] at hk
      exact hk
    · rw [thI_p ⟨c, ci⟩]
      exact hK _ (by omega)
  · rw [if_neg c, thI_n (fun q => c q.1)]
    exact Or.inl ⟨rfl, rfl⟩
theorem ease_step {K : Ob} {f : Nat → Int} {x z acc b0 : Int} {m k : Nat} {kx : Int → Option (Int × Ob)} (hb : PB w) (hp : PR P w) (hK : KR K f) (hx : 0 ≤ x ∧ x < 30) (hz : 0 ≤ z ∧ z < 30) (hk : k < 4) (ha : Ro acc b0) : lX6_ease_7 K P A x z kx (m + 1) acc (k : Int) = lX6_ease_7 K P A x z kx m (min acc (kI w K (x + wayX k) (z + wayY k))) ((k : Int) + 1) := by
  have b1 := hb.b1; have b2 := hb.b2
  have hw := way_all k hk
  rw [lX6_ease_7, be_f (by omega) (by omega) (by omega), gi (by omega) (by omega) (by omega), nm_e', gi (by omega) (by omega) (by omega), nm_e', ix_nat (by omega), isCell7 hp hb ⟨by omega, by omega⟩ ⟨by omega, by omega⟩, bd_some, bq_ite, nm_e']
  unfold kI fX7_cellOf
  by_cases c : (0 ≤ x + wayX k ∧ x + wayX k < w 1) ∧ 0 ≤ z + wayY k ∧ z + wayY k < w 2
  · have hr := hK (30 * (z + wayY k) + (x + wayX k)).toNat (by omega)
    unfold Ro at hr ha
    rw [if_pos c, if_pos c, bd_some, gi (by omega) (by omega) (by omega), nm_e', nm_e', ix_e (by omega) (by omega), jmi_e (by omega) (by omega) (by omega) (by omega)]
  · unfold Ro at ha
    rw [if_neg c, if_neg c, show min acc 2147483647 = acc from by omega]
theorem ease7 {K : Ob} {f : Nat → Int} {x z : Nat} (hb : PB w) (hp : PR P w) (hwt : wetP w) (hA : ∀ c : Nat, c < 900 → A 16 c = w (519 + c)) (hK : KR K f) (g : Gd w dl f) (hv : vld w (30 * z + x)) (hx : x < 30) (hz : z < 30) : ∃ ch K' f', fX6_ease K P A (x : Int) (z : Int) = some (bi ch, K') ∧ KR K' f' ∧ EaS w f (30 * z + x) f' ch := by
  have hwc := wet_le hwt hv.1
  have hm := mnf_is (w := w) (f := f) (c := 30 * z + x) (fun b => (g.1 b).2)
  have e4 := mn4 (w := w) (f := f) (x := x) (z := z) hb hx hz
  unfold fX6_ease
  generalize hkx : (fun lx4_8 => bd (fX7_cellOf (x : Int) (z : Int)) (fun rr_9 => bq lx4_8 2147483647 (some ((0 : Int), K)) (gd (inb rr_9 900) (gd (inb rr_9 900) (bl (lx4_8 + (A 16 (ix rr_9))) (K 0 (ix rr_9)) (gd (inb rr_9 900) (gd (inb rr_9 900) (nm (up2 K 0 (ix rr_9) (lx4_8 + (A 16 (ix rr_9)))) (fun K_10 => some (1, K_10))))) (some (0, K))))))) = kx
  rw [show FU = 4996 + 1 + 1 + 1 + 1 from rfl]
  have R0 : Ro 2147483647 1000000000 := Or.inl ⟨rfl, rfl⟩
  have R1 := R0.min (kI_ro (x := (x : Int) + wayX 0) (z := (z : Int) + wayY 0) hb hK g)
  have R2 := R1.min (kI_ro (x := (x : Int) + wayX 1) (z := (z : Int) + wayY 1) hb hK g)
  have R3 := R2.min (kI_ro (x := (x : Int) + wayX 2) (z := (z : Int) + wayY 2) hb hK g)
  have R4 := R3.min (kI_ro (x := (x : Int) + wayX 3) (z := (z : Int) + wayY 3) hb hK g)
  have s1 := ease_step (A := A) (m := 4996 + 1 + 1 + 1) (k := 0) (kx := kx) hb hp hK (x := (x : Int)) (z := (z : Int)) (by omega) (by omega) (by decide) R0
  have s2 := ease_step (A := A) (m := 4996 + 1 + 1) (k := 1) (kx := kx) hb hp hK (x := (x : Int)) (z := (z : Int)) (by omega) (by omega) (by decide) R1
  have s3 := ease_step (A := A) (m := 4996 + 1) (k := 2) (kx := kx) hb hp hK (x := (x : Int)) (z := (z : Int)) (by omega) (by omega) (by decide) R2
  have s4 := ease_step (A := A) (m := 4996) (k := 3) (kx := kx) hb hp hK (x := (x : Int)) (z := (z : Int)) (by omega) (by omega) (by decide) R3
  rw [show ((0 : Nat) : Int) + 1 = ((1 : Nat) : Int) from rfl] at s1
  rw [show ((1 : Nat) : Int) + 1 = ((2 : Nat) : Int) from rfl] at s2
  rw [show ((2 : Nat) : Int) + 1 = ((3 : Nat) : Int) from rfl] at s3
  rw [show ((3 : Nat) : Int) + 1 = 4 from rfl] at s4
  rw [show (0 : Int) = ((0 : Nat) : Int) from rfl, s1, s2, s3, s4]
  rw [show (4996 : Nat) = 4995 + 1 from rfl, lX6_ease_7, be_t (by decide) (by decide) (by decide)]
  have hRo : Ro (min (min (min (min 2147483647 (kI w K ((x : Int) + wayX 0) ((z : Int) + wayY 0))) (kI w K ((x : Int) + wayX 1) ((z : Int) + wayY 1))) (kI w K ((x : Int) + wayX 2) ((z : Int) + wayY 2))) (kI w K ((x : Int) + wayX 3) ((z : Int) + wayY 3))) (mnf w f (30 * z + x)) := by
    have e : mnf w f (30 * z + x) = min (min (min (min 1000000000 (thI w f ((x : Int) + wayX 0) ((z : Int) + wayY 0))) (thI w f ((x : Int) + wayX 1) ((z : Int) + wayY 1))) (thI w f ((x : Int) + wayX 2) ((z : Int) + wayY 2))) (thI w f ((x : Int) + wayX 3) ((z : Int) + wayY 3)) := by
      rw [← e4, show (x : Int) + wayX 0 = (x : Int) from by show (x : Int) + 0 = _; omega, show (z : Int) + wayY 0 = (z : Int) - 1 from rfl, show (x : Int) + wayX 1 = (x : Int) + 1 from rfl, show (z : Int) + wayY 1 = (z : Int) from by show (z : Int) + 0 = _; omega, show (x : Int) + wayX 2 = (x : Int) from by show (x : Int) + 0 = _; omega, show (z : Int) + wayY 2 = (z : Int) + 1 from rfl, show (x : Int) + wayX 3 = (x : Int) - 1 from rfl, show (z : Int) + wayY 3 = (z : Int) from by show (z : Int) + 0 = _; omega]
      have hle : thI w f (x : Int) ((z : Int) - 1) ≤ 1000000000 := by
        unfold thI
        split
        · exact (g.1 _).2
        · omega
      omega
    rw [e]
    exact R4
  generalize min (min (min (min 2147483647 (kI w K ((x : Int) + wayX 0) ((z : Int) + wayY 0))) (kI w K ((x : Int) + wayX 1) ((z : Int) + wayY 1))) (kI w K ((x : Int) + wayX 2) ((z : Int) + wayY 2))) (kI w K ((x : Int) + wayX 3) ((z : Int) + wayY 3)) = N at *
  rw [← hkx]
  unfold fX7_cellOf
  dsimp only
  rw [bd_some, nm_e', gi (by omega) (by omega) (by omega), gi (by omega) (by omega) (by omega), gi (by omega) (by omega) (by omega), gi (by omega) (by omega) (by omega), ix_e (by omega) (by omega), show (30 * (z : Int) + (x : Int)).toNat = 30 * z + x from by omega, hA _ (by omega)]
  have hKc := hK (30 * z + x) (by omega)
  have hfc := g.1 (30 * z + x)
  have hgs := g.2.1 (30 * z + x) (by omega)
  have hSb := Sf_b (f := f) hwt
  by_cases cN : N = 2147483647
  · have hmi : mnf w f (30 * z + x) = 1000000000 := by
      unfold Ro at hRo; omega
    rw [bq_t cN]
    exact ⟨false, K, f, rfl, hK, _, hm, Or.inr ⟨by omega, rfl, rfl⟩⟩
  · have hNm : N = mnf w f (30 * z + x) ∧ 0 ≤ N ∧ N < 1000000000 := by
      unfold Ro at hRo; omega
    have hNs : N ≤ 20000000 := by
      rcases hm.2 with e | ⟨b, hn, e⟩
      · omega
      · have := g.2.1 b hn.1.1 (by omega)
        omega
    rw [bq_f cN (by omega) (by omega) (by omega) (by omega)]
    unfold Ro at hKc
    by_cases cl : mnf w f (30 * z + x) + w (519 + (30 * z + x)) < f (30 * z + x)
    · rw [bl_t (by omega) (by omega) (by omega)]
      refine ⟨true, _, _, rfl, fun c hc => ?_, _, hm, Or.inl ⟨cl, rfl, rfl⟩⟩
      rw [up2_s]
      by_cases cc : c = 30 * z + x
      · subst cc
        rw [up1_s, up1_s, hNm.1]
        exact Or.inr ⟨rfl, by omega, by omega⟩
      · rw [up1_n cc, up1_n cc]; exact hK c hc
    · rw [bl_f (by omega) (by omega) (by omega)]
      exact ⟨false, K, f, rfl, hK, _, hm, Or.inr ⟨cl, rfl, rfl⟩⟩
end
