/-! LAYER 2: ways, the class's sweeps and both loops -/
section
variable {P A M : Ob} {w dl : Nat → Int}
/-- the x of the j-th step of a sweep -/
def xo (dir W : Int) (j : Nat) : Int := if dir = 0 then W - 1 - j else j
theorem sweep_72 {K : Ob} {f f0 : Nat → Int} {C D : Nat → Prop} {ch : Bool} {dir W L i x z : Int} {j : Nat} {kc : Int → Int → Ob → Option (Int × Ob)} (hb : PB w) (hp : PR P w) (hwt : wetP w) (h3 : ∀ c b, vld w c → nb w c b → dl c ≤ dl b + w (519 + c)) (hd : ∀ c, dl c ≤ 1000000000) (hA : ∀ c : Nat, c < 900 → A 16 c = w (519 + c)) (hK : KR K f) (g : Gd w dl f) (s : SwS w f0 C f ch) (hx : 0 ≤ x ∧ x < w 1) (hz : 0 ≤ z ∧ z < w 2) (hD : ∀ c, D c → C c ∨ (c : Int) = 30 * z + x) :
    ∃ ch' K' f', jX6_sweep_72 kc K P A dir W L (bi ch) i z (j : Int) x = kc (bi ch') ((j : Int) + 1) K' ∧ KR K' f' ∧ Gd w dl f' ∧ SwS w f0 D f' ch' := by
  have b1 := hb.b1; have b2 := hb.b2
  obtain ⟨X, rfl⟩ := Int.eq_ofNat_of_zero_le hx.1
  obtain ⟨Z, rfl⟩ := Int.eq_ofNat_of_zero_le hz.1
  have hvx := vld_xz (w := w) (x := X) (z := Z) hb (by omega) (by omega)
  unfold jX6_sweep_72
  rw [inBasin7 hb hp (by omega) (by omega) (by omega) (by omega), bd_some]
  by_cases ci : inB w (X : Int) (Z : Int)
  · rw [if_pos ci, bq_f (by decide) (by decide) (by decide) (by decide) (by decide), nm_e']
    refine ⟨ch, K, f, rfl, hK, g, s.sub (fun c hc hv => ?_)⟩
    rcases hD c hc with q | q
    · exact q
    · exfalso
      rw [show c = 30 * Z + X from by omega] at hv
      exact (hvx.mp hv).2 ci
  · have hv : vld w (30 * Z + X) := hvx.mpr ⟨⟨by omega, by omega⟩, ci⟩
    obtain ⟨c2, K', f', e1, e2, e3⟩ := ease7 (A := A) (x := X) (z := Z) hb hp hwt hA hK g hv (by omega) (by omega)
    rw [if_neg ci, bq_t rfl, e1, bd_some, nm_e', nm_e']
    dsimp only
    rw [bi_or]
    exact ⟨ch || c2, K', f', rfl, e2, (ease_ok hwt h3 hd hv g e3).1, s.step hv e3 (fun c hc => by
      rcases hD c hc with q | q
      · exact Or.inl q
      · exact Or.inr (by omega))⟩
theorem sweep_in {f0 : Nat → Int} {C : Nat → Prop} {dir i z : Int} {kx : Int → Ob → Option (Int × Ob)} (hb : PB w) (hp : PR P w) (hwt : wetP w) (h3 : ∀ c b, vld w c → nb w c b → dl c ≤ dl b + w (519 + c)) (hd : ∀ c, dl c ≤ 1000000000) (hA : ∀ c : Nat, c < 900 → A 16 c = w (519 + c)) (hdir : dir = 0 ∨ dir = 1) (hz : 0 ≤ z ∧ z < w 2) :
    ∀ (m j : Nat) (ch : Bool) (K : Ob) (f : Nat → Int), KR K f → Gd w dl f → SwS w f0 (fun c => C c ∨ (((c / 30 : Nat) : Int) = z ∧ ∃ j' : Nat, j' < j ∧ ((c % 30 : Nat) : Int) = xo dir (w 1) j')) f ch → (j : Int) ≤ w 1 → w 1 - j < m → ∃ ch' K' f', lX6_sweep_51 P A dir (w 1) (w 2) i z kx m (bi ch) (j : Int) K = kx (bi ch') K' ∧ KR K' f' ∧ Gd w dl f' ∧ SwS w f0 (fun c => C c ∨ (((c / 30 : Nat) : Int) = z ∧ ((c % 30 : Nat) : Int) < w 1)) f' ch' := by
  have b1 := hb.b1; have b2 := hb.b2
  intro m
  induction m with
  | zero => intro j ch K f _ _ _ h1 h2; omega
  | succ m ih =>
    intro j ch K f hK g s h1 h2
    rw [lX6_sweep_51]
    by_cases c : w 1 ≤ (j : Int)
    · rw [be_t c (by omega) (by omega)]
      refine ⟨ch, K, f, rfl, hK, g, s.sub (fun c hc _ => ?_)⟩
      rcases hc with q | ⟨q1, q2⟩
      · exact Or.inl q
      · refine Or.inr ⟨q1, ?_⟩
        unfold xo
        rcases hdir with e | e
        · exact ⟨(w 1 - 1 - ((c % 30 : Nat) : Int)).toNat, by omega, by rw [if_pos e]; omega⟩
        · exact ⟨c % 30, by omega, by rw [if_neg (by omega)]⟩
    · rw [be_f (by omega) (by omega) (by omega)]
      have hxo : 0 ≤ xo dir (w 1) j ∧ xo dir (w 1) j < w 1 := by
        unfold xo
        split <;> omega
      obtain ⟨ch1, K1, f1, e1, e2, e3, e4⟩ := sweep_72 (K := K) (f := f) (f0 := f0) (D := fun c => C c ∨ (((c / 30 : Nat) : Int) = z ∧ ∃ j' : Nat, j' < j + 1 ∧ ((c % 30 : Nat) : Int) = xo dir (w 1) j')) (dir := dir) (W := w 1) (L := w 2) (i := i) (x := xo dir (w 1) j) (z := z) (j := j) (kc := lX6_sweep_51 P A dir (w 1) (w 2) i z kx m) hb hp hwt h3 hd hA hK g s hxo hz (fun c hc => by
        rcases hc with q | ⟨q1, j', q2, q3⟩
        · exact Or.inl (Or.inl q)
        · by_cases cj : j' = j
          · subst cj
            exact Or.inr (by omega)
          · exact Or.inl (Or.inr ⟨q1, j', by omega, q3⟩))
      have hgo : bq dir 0 (jX6_sweep_72 (lX6_sweep_51 P A dir (w 1) (w 2) i z kx m) K P A dir (w 1) (w 2) (bi ch) i z (j : Int) (w 1 - 1 - (j : Int))) (jX6_sweep_72 (lX6_sweep_51 P A dir (w 1) (w 2) i z kx m) K P A dir (w 1) (w 2) (bi ch) i z (j : Int) (j : Int)) = jX6_sweep_72 (lX6_sweep_51 P A dir (w 1) (w 2) i z kx m) K P A dir (w 1) (w 2) (bi ch) i z (j : Int) (xo dir (w 1) j) := by
        unfold xo
        rcases hdir with e | e
        · rw [bq_t e, if_pos e]
        · rw [bq_f (by omega) (by omega) (by omega) (by omega) (by omega), if_neg (by omega)]
      rw [hgo, e1]
      exact ih (j + 1) ch1 K1 f1 e2 e3 e4 (by omega) (by omega)
theorem sweep_out {f0 : Nat → Int} {dir : Int} (hb : PB w) (hp : PR P w) (hwt : wetP w) (h3 : ∀ c b, vld w c → nb w c b → dl c ≤ dl b + w (519 + c)) (hd : ∀ c, dl c ≤ 1000000000) (hA : ∀ c : Nat, c < 900 → A 16 c = w (519 + c)) (hdir : dir = 0 ∨ dir = 1) :
    ∀ (m i : Nat) (ch : Bool) (K : Ob) (f : Nat → Int), KR K f → Gd w dl f → SwS w f0 (fun c => ∃ i' : Nat, i' < i ∧ ((c / 30 : Nat) : Int) = xo dir (w 2) i') f ch → (i : Int) ≤ w 2 → w 2 - i < m → ∃ ch' K' f', lX6_sweep_23 P A dir (w 1) (w 2) m (bi ch) (i : Int) K = some (bi ch', K') ∧ KR K' f' ∧ Gd w dl f' ∧ SwS w f0 (fun _ => True) f' ch' := by
  have b1 := hb.b1; have b2 := hb.b2
  intro m
  induction m with
  | zero => intro i ch K f _ _ _ h1 h2; omega
  | succ m ih =>
    intro i ch K f hK g s h1 h2
    rw [lX6_sweep_23]
    by_cases c : w 2 ≤ (i : Int)
    · rw [be_t c (by omega) (by omega), gd_t (isz_bi ch)]
      refine ⟨ch, K, f, rfl, hK, g, s.sub (fun c _ hv => ?_)⟩
      have := hv.2.2.1
      unfold xo
      rcases hdir with e | e
      · exact ⟨(w 2 - 1 - ((c / 30 : Nat) : Int)).toNat, by omega, by rw [if_pos e]; omega⟩
      · exact ⟨c / 30, by omega, by rw [if_neg (by omega)]⟩
    · rw [be_f (by omega) (by omega) (by omega)]
      have hxo : 0 ≤ xo dir (w 2) i ∧ xo dir (w 2) i < w 2 := by
        unfold xo
        split <;> omega
      obtain ⟨ch1, K1, f1, e1, e2, e3, e4⟩ := sweep_in (P := P) (A := A) (f0 := f0) (C := fun c => ∃ i' : Nat, i' < i ∧ ((c / 30 : Nat) : Int) = xo dir (w 2) i') (dir := dir) (i := (i : Int)) (z := xo dir (w 2) i) (kx := fun lx5_9 K_10 => nm ((i : Int) + 1) (fun lx6_11 => lX6_sweep_23 P A dir (w 1) (w 2) m lx5_9 lx6_11 K_10)) hb hp hwt h3 hd hA hdir hxo FU 0 ch K f hK g (s.sub (fun c hc _ => by
        rcases hc with q | ⟨-, j', q, -⟩
        · exact q
        · omega)) (by omega) (by show _ < ((5000 : Nat) : Int); omega)
      rw [nm_e'] at e1
      obtain ⟨ch2, K2, f2, k1, k2, k3, k4⟩ := ih (i + 1) ch1 K1 f1 e2 e3 (e4.sub (fun c hc hv => by
        obtain ⟨i', q1, q2⟩ := hc
        by_cases ce : i' = i
        · subst ce; exact Or.inr ⟨q2, hv.2.1⟩
        · exact Or.inl ⟨i', by omega, q2⟩)) (by omega) (by omega)
      refine ⟨ch2, K2, f2, ?_, k2, k3, k4⟩
      rw [nm_e']
      have hgo : bq dir 0 (lX6_sweep_51 P A dir (w 1) (w 2) (i : Int) (w 2 - 1 - (i : Int)) (fun lx5_9 K_10 => nm ((i : Int) + 1) (fun lx6_11 => lX6_sweep_23 P A dir (w 1) (w 2) m lx5_9 lx6_11 K_10)) FU (bi ch) 0 K) (lX6_sweep_51 P A dir (w 1) (w 2) (i : Int) (i : Int) (fun lx5_9 K_10 => nm ((i : Int) + 1) (fun lx6_11 => lX6_sweep_23 P A dir (w 1) (w 2) m lx5_9 lx6_11 K_10)) FU (bi ch) 0 K) = lX6_sweep_51 P A dir (w 1) (w 2) (i : Int) (xo dir (w 2) i) (fun lx5_9 K_10 => nm ((i : Int) + 1) (fun lx6_11 => lX6_sweep_23 P A dir (w 1) (w 2) m lx5_9 lx6_11 K_10)) FU (bi ch) 0 K := by
        unfold xo
        rcases hdir with e | e
        · rw [bq_t e, if_pos e]
        · rw [bq_f (by omega) (by omega) (by omega) (by omega) (by omega), if_neg (by omega)]
      refine Eq.trans hgo (Eq.trans e1 k1)
theorem sweep7 {f : Nat → Int} {K : Ob} {dir : Int} (hb : PB w) (hp : PR P w) (hwt : wetP w) (h3 : ∀ c b, vld w c → nb w c b → dl c ≤ dl b + w (519 + c)) (hd : ∀ c, dl c ≤ 1000000000) (hA : ∀ c : Nat, c < 900 → A 16 c = w (519 + c)) (hdir : dir = 0 ∨ dir = 1) (hK : KR K f) (g : Gd w dl f) : ∃ ch K' f', fX6_sweep K P A dir = some (bi ch, K') ∧ KR K' f' ∧ Gd w dl f' ∧ SwS w f (fun _ => True) f' ch := by
  have b1 := hb.b1; have b2 := hb.b2
  unfold fX6_sweep
  rw [nm_e', nm_e', hp.p1, hp.p2]
  exact sweep_out (f0 := f) hb hp hwt h3 hd hA hdir FU 0 false K f hK g (SwS.nil (fun c q => by obtain ⟨i', q1, -⟩ := q; omega)) (by omega) (by show _ < ((5000 : Nat) : Int); omega)
/-- what a whole sweep does -/
theorem whole_un {f f' : Nat → Int} {ch : Bool} {hpn : Nat → Nat} {src : Nat} (hwt : wetP w) (h3 : ∀ c b, vld w c → nb w c b → dl c ≤ dl b + w (519 + c)) (hd : ∀ c, dl c ≤ 1000000000) (hnv : ∀ c, ¬ vld w c → dl c = 1000000000) (h0 : ∀ c, hpn c = 0 → c = src ∨ dl c = 1000000000) (h1 : ∀ c, hpn c ≠ 0 → ∃ b, nb w c b ∧ dl c = dl b + w (519 + c) ∧ hpn b < hpn c) (g : Gd w dl f) (hs : f src = dl src) (s : SwS w f (fun _ => True) f' ch) : f' src = dl src ∧ Un dl f' ≤ Un dl f ∧ (Un dl f = 0 ∨ Un dl f' < Un dl f) ∧ (ch = false → Un dl f = 0 ∧ f' = f) ∧ (Un dl f = 0 → ch = false) := by
  obtain ⟨l, s1, s2, s3⟩ := s
  obtain ⟨g1, g2, g3⟩ := sweep_ok hwt h3 hd l f ch s2 g s1
  have hun := sweep_un hwt h3 hd hnv h0 h1 s2 (fun c hc => s3 c trivial hc) g hs s1
  refine ⟨by have := g2 src; have := g1.2.2.2 src; omega, Un_mono g1 g2, hun, fun q => ?_, fun q => ?_⟩
  · have e := g3 q
    refine ⟨?_, e⟩
    rcases hun with u | u
    · exact u
    · rw [e] at u; omega
  · cases hch : ch
    · rfl
    · obtain ⟨c, c1, c2⟩ := sweep_ch hwt h3 hd l f ch s2 g s1 hch
      have e := Un_0 q c1
      have := g1.2.2.2 c
      omega
theorem way_90 {f0 : Nat → Int} {hpn : Nat → Nat} {src : Nat} {a b : Int} {kx : Ob → Option (Int × Ob)} (hb : PB (M 1)) (hwt : wetP (M 1)) (h3 : ∀ c b, vld (M 1) c → nb (M 1) c b → dl c ≤ dl b + M 1 (519 + c)) (hd : ∀ c, dl c ≤ 1000000000) (hnv : ∀ c, ¬ vld (M 1) c → dl c = 1000000000) (h0 : ∀ c, hpn c = 0 → c = src ∨ dl c = 1000000000) (h1 : ∀ c, hpn c ≠ 0 → ∃ b, nb (M 1) c b ∧ dl c = dl b + M 1 (519 + c) ∧ hpn b < hpn c) :
    ∀ (m : Nat) (ch : Bool) (X : Ob) (f : Nat → Int), XR M X f → Gd (M 1) dl f → f src = dl src → (ch = false → Un dl f = 0) → Un dl f + 2 ≤ (m : Int) ∨ (ch = false ∧ 1 ≤ m) → ∃ X' f', lX8_way_90 a b kx m (bi ch) X = kx X' ∧ XR M X' f' ∧ Un dl f' = 0 := by
  have b2 := hb.b2
  intro m
  induction m with
  | zero => intro ch X f _ _ _ _ hm; have := (Un_b (dl := dl) (f := f)).1; omega
  | succ m ih =>
    intro ch X f hX g hs hc hm
    rw [lX8_way_90]
    cases hch : ch
    · rw [show bi false = 0 from rfl, bq_t rfl]
      exact ⟨X, f, rfl, hX, hc hch⟩
    · rw [show bi true = 1 from rfl, bq_f (by decide) (by decide) (by decide) (by decide) (by decide)]
      obtain ⟨ch1, X1, f1, e1, e2, e3, e4⟩ := spread_out (M := M) (dl := dl) (f0 := f) hb hwt h3 hd FU 0 false X f hX g (SwS.nil (fun c q => by omega)) (by omega) (by show _ < ((5000 : Nat) : Int); omega)
      obtain ⟨u1, u2, u3, u4, u5⟩ := whole_un hwt h3 hd hnv h0 h1 g hs e4
      have hub := (Un_b (dl := dl) (f := f)).1
      have hub1 := (Un_b (dl := dl) (f := f1)).1
      rw [show fX8_spreads X = some (bi ch1, X1) from e1, bd_some, nm_e']
      refine ih ch1 X1 f1 e2 e3 u1 (fun q => by have := u4 q; omega) ?_
      rcases hm with q | ⟨q, -⟩
      · rcases u3 with v | v
        · exact Or.inr ⟨u5 v, by omega⟩
        · exact Or.inl (by omega)
      · rw [hch] at q; exact absurd q (by decide)
theorem driest_30 {hpn : Nat → Nat} {src : Nat} {to : Int} {kx : Ob → Option (Int × Ob)} (hb : PB w) (hp : PR P w) (hwt : wetP w) (h3 : ∀ c b, vld w c → nb w c b → dl c ≤ dl b + w (519 + c)) (hd : ∀ c, dl c ≤ 1000000000) (hnv : ∀ c, ¬ vld w c → dl c = 1000000000) (h0 : ∀ c, hpn c = 0 → c = src ∨ dl c = 1000000000) (h1 : ∀ c, hpn c ≠ 0 → ∃ b, nb w c b ∧ dl c = dl b + w (519 + c) ∧ hpn b < hpn c) (hA : ∀ c : Nat, c < 900 → A 16 c = w (519 + c)) :
    ∀ (m r : Nat) (ch : Bool) (K : Ob) (f : Nat → Int), KR K f → Gd w dl f → f src = dl src → (ch = false → Un dl f = 0) → (Un dl f = 0 ∨ Un dl f + r ≤ 900) → r ≤ 900 → 900 - r < m → ∃ K' f', lX6_driest_30 P A to kx m (bi ch) (r : Int) K = kx K' ∧ KR K' f' ∧ Un dl f' = 0 := by
  intro m
  induction m with
  | zero => intro r ch K f _ _ _ _ _ _ hm; omega
  | succ m ih =>
    intro r ch K f hK g hs hc hu h1' h2'
    have hub := (Un_b (dl := dl) (f := f)).1
    rw [lX6_driest_30]
    by_cases c : r = 900
    · subst c
      rw [be_t (by decide) (by decide) (by decide)]
      exact ⟨K, f, rfl, hK, by omega⟩
    · rw [be_f (by omega) (by omega) (by omega)]
      cases hch : ch
      · rw [show bi false = 0 from rfl, bq_t rfl]
        exact ⟨K, f, rfl, hK, hc hch⟩
      · rw [show bi true = 1 from rfl, bq_f (by decide) (by decide) (by decide) (by decide) (by decide)]
        obtain ⟨ch1, K1, f1, e1, e2, e3, e4⟩ := sweep7 (dir := 1) hb hp hwt h3 hd hA (Or.inr rfl) hK g
        obtain ⟨u1, u2, u3, u4, u5⟩ := whole_un hwt h3 hd hnv h0 h1 g hs e4
        obtain ⟨ch2, K2, f2, k1, k2, k3, k4⟩ := sweep7 (dir := 0) hb hp hwt h3 hd hA (Or.inl rfl) e2 e3
        obtain ⟨v1, v2, v3, v4, v5⟩ := whole_un hwt h3 hd hnv h0 h1 e3 u1 k4
        have hub2 := (Un_b (dl := dl) (f := f2)).1
        have hub1 := (Un_b (dl := dl) (f := f1)).1
        rw [e1, bd_some, nm_e', k1, bd_some, nm_e', nm_e']
        dsimp only
        rw [bi_or]
        refine ih (r + 1) (ch1 || ch2) K2 f2 k2 k3 v1 (fun q => ?_) (by omega) (by omega) (by omega)
        have q1 : ch1 = false := by cases hq : ch1 with
          | false => rfl
          | true => rw [hq] at q; exact absurd q (by cases ch2 <;> decide)
        have := u4 q1
        omega
end
section
variable {n : Nat} {T : Nat → Ob} {J : Nat → Bool} {M : Ob} {x z a b : Int}
theorem way_46 {x z a b : Int} {kx : Ob → Option (Int × Ob)} : ∀ (m k : Nat) (X : Ob), (∀ j, j ≠ 17 → X j = M j) → (∀ c : Nat, c < k → X 17 c = 1000000000) → k ≤ 900 → 900 - k < m → ∃ X', lX8_way_46 x z a b kx m (k : Int) X = kx X' ∧ (∀ j, j ≠ 17 → X' j = M j) ∧ ∀ c : Nat, c < 900 → X' 17 c = 1000000000 := by
  intro m
  induction m with
  | zero => intro k X _ _ _ h2; omega
  | succ m ih =>
    intro k X hX h0 h1 h2
    rw [lX8_way_46]
    by_cases c : k = 900
    · subst c
      rw [be_t (by decide) (by decide) (by decide)]
      exact ⟨X, rfl, hX, h0⟩
    · rw [be_f (by omega) (by omega) (by omega), gi (by omega) (by omega) (by omega), nm_e', nm_e', ix_nat (by omega)]
      exact ih (k + 1) _ (fun j hj => by rw [up2_n hj]; exact hX j hj) (fun c hc => by
        rw [up2_s]
        by_cases cc : c = k
        · subst cc; rw [up1_s]
        · rw [up1_n cc]; exact h0 c (by omega)) (by omega) (by omega)
theorem op_way (h : Inv2 n T J M) (hx : R32 x) (hz : R32 z) (ha : R32 a) (hbb : R32 b) : Ef T M (fX7_way T x z a b) (fX8_way M x z a b) := by
  have hb := h.1.now.pb
  have hp := h.1.now.pr
  have b1 := hb.b1; have b2 := hb.b2
  have hn := h.1.n
  unfold fX7_way fX8_way
  rw [isCell7 hp hb hx hz, isCell8 hb hx hz, bd_some, bd_some, bq_ite, bq_ite]
  refine Ef.ite (fun c1 => ?_) (fun _ => Ef.s _)
  rw [isCell7 hp hb ha hbb, isCell8 hb ha hbb, bd_some, bd_some, bq_ite, bq_ite]
  refine Ef.ite (fun c2 => ?_) (fun _ => Ef.s _)
  rw [inBasin7 hb hp (by omega) (by omega) (by omega) (by omega), basin8 hb (by omega) (by omega) (by omega) (by omega), bd_some, bd_some]
  by_cases i1 : inB (M 1) x z
  · rw [if_pos i1, bq_f (a := 1) (b := 0) (by decide) (by decide) (by decide) (by decide) (by decide), bq_f (a := 1) (b := 0) (by decide) (by decide) (by decide) (by decide) (by decide)]
    exact Ef.s _
  · rw [if_neg i1, bq_t (a := 0) (b := 0) rfl, bq_t (a := 0) (b := 0) rfl, inBasin7 hb hp (by omega) (by omega) (by omega) (by omega), basin8 hb (by omega) (by omega) (by omega) (by omega), bd_some, bd_some]
    by_cases i2 : inB (M 1) a b
    · rw [if_pos i2, bq_f (a := 1) (b := 0) (by decide) (by decide) (by decide) (by decide) (by decide), bq_f (a := 1) (b := 0) (by decide) (by decide) (by decide) (by decide) (by decide)]
      exact Ef.s _
    · rw [if_neg i2, bq_t (a := 0) (b := 0) rfl, bq_t (a := 0) (b := 0) rfl]
      obtain ⟨X, rfl⟩ := Int.eq_ofNat_of_zero_le c1.1.1
      obtain ⟨Z, rfl⟩ := Int.eq_ofNat_of_zero_le c1.2.1
      obtain ⟨X2, rfl⟩ := Int.eq_ofNat_of_zero_le c2.1.1
      obtain ⟨Z2, rfl⟩ := Int.eq_ofNat_of_zero_le c2.2.1
      have hab := h.1.now.ab
      have hth := hab.thrown; have hbe := hab.beats; have hca := hab.caught; have hlo := hab.lost
      have hwt : wetP (M 1) := ⟨fun c hc => (hab.wet c hc).1, by have := h.2.1; unfold WS at this; rw [this]; omega⟩
      have hv : vld (M 1) (30 * Z + X) := (vld_xz hb (by omega) (by omega)).mpr ⟨⟨c1.1.2, c1.2.2⟩, i1⟩
      obtain ⟨dl, hpn, d1, d2, d3, d4, d5, d6⟩ := dist_ex (w := M 1) (src := 30 * Z + X) hwt (by omega) hv
      have hwc := wet_le hwt hv.1
      -- the costs at the start
      generalize hf0 : (fun c => if c = 30 * Z + X then M 1 (519 + (30 * Z + X)) else (1000000000 : Int)) = f0
      have f0s : f0 (30 * Z + X) = M 1 (519 + (30 * Z + X)) := by rw [← hf0]; exact if_pos rfl
      have f0n : ∀ c, c ≠ 30 * Z + X → f0 c = 1000000000 := fun c hc => by rw [← hf0]; exact if_neg hc
      have g0 : Gd (M 1) dl f0 := by
        refine ⟨fun c => ?_, fun c hc hlt => ?_, fun c hc => ?_, fun c => ?_⟩
        · by_cases ce : c = 30 * Z + X
          · rw [ce, f0s]; omega
          · rw [f0n c ce]; omega
        · by_cases ce : c = 30 * Z + X
          · rw [ce, f0s]
            have hSe : Sf (M 1) f0 = M 1 (519 + (30 * Z + X)) := by
              unfold Sf
              rw [sm_one (j := 30 * Z + X) (by omega) (fun i _ hi => by show (if f0 i = 1000000000 then (0 : Int) else _) = 0; rw [if_pos (f0n i hi)])]
              show (if f0 (30 * Z + X) = 1000000000 then (0 : Int) else M 1 (519 + (30 * Z + X))) = _
              rw [f0s, if_neg (by omega)]
            rw [hSe]; exact Int.le_refl _
          · rw [f0n c ce] at hlt; omega
        · exact f0n c (fun e => hc (by rw [e]; exact hv))
        · by_cases ce : c = 30 * Z + X
          · rw [ce, f0s, d2]; exact Int.le_refl _
          · rw [f0n c ce]; exact (d1 c).2
      have hs0 : f0 (30 * Z + X) = dl (30 * Z + X) := by rw [f0s, d2]
      have hub := Un_b (dl := dl) (f := f0)
      -- the class
      unfold fX7_cellOf fX6_driest
      rw [bd_some, bd_some, nm_e', gi (z := 30 * (Z : Int) + (X : Int)) (by omega) (by omega) (by omega), gi (z := 30 * (Z : Int) + (X : Int)) (by omega) (by omega) (by omega), nm_e', ix_e (z := 30 * (Z : Int) + (X : Int)) (by omega) (by omega), show (30 * (Z : Int) + (X : Int)).toNat = 30 * Z + X from by omega, h.1.now.ar.wet _ (by omega)]
      have hK0 : KR (up2 (upA (T 10) 0 (filA 900 2147483647 (T 10 0))) 0 (30 * Z + X) (M 1 (519 + (30 * Z + X)))) f0 := fun c hc => by
        rw [up2_s, upA_s]
        by_cases ce : c = 30 * Z + X
        · rw [ce, up1_s, f0s]; exact Or.inr ⟨rfl, by omega, by omega⟩
        · rw [up1_n ce, f0n c ce]
          refine Or.inl ⟨?_, rfl⟩
          unfold filA
          rw [show Nat.blt c 900 = true from by rw [Nat.blt_eq]; exact hc]
          rfl
      obtain ⟨K', f1, e1, e2, e3⟩ := driest_30 (P := T 2) (A := T 3) (w := M 1) (dl := dl) (hpn := hpn) (src := 30 * Z + X) (to := 30 * (Z2 : Int) + (X2 : Int)) (kx := fun K_8 => jX6_driest_68 K_8 (T 2) (T 3) (30 * (Z2 : Int) + (X2 : Int))) hb hp hwt d4 (fun c => (d1 c).2) d3 d5 d6 h.1.now.ar.wet FU 0 true _ f0 hK0 g0 hs0 (fun q => absurd q (by decide)) (by omega) (by omega) (by show _ < 5000; omega)
      -- the model
      obtain ⟨Y, y1, y2, y3⟩ := way_46 (M := M) (x := (X : Int)) (z := (Z : Int)) (a := (X2 : Int)) (b := (Z2 : Int)) (kx := fun M_7 => bd (fX8_wetOf M_7 (X : Int) (Z : Int)) (fun rr_8 => gd (inb ((30 * (Z : Int)) + (X : Int)) 900) (nm (up2 M_7 17 (30 * Z + X) rr_8) (fun M_9 => lX8_way_90 (X2 : Int) (Z2 : Int) (fun M_12 => gd (inb ((30 * (Z2 : Int)) + (X2 : Int)) 900) (bl (M_12 17 (ix ((30 * (Z2 : Int)) + (X2 : Int)))) 1000000000 (gd (inb ((30 * (Z2 : Int)) + (X2 : Int)) 900) (some ((M_12 17 (ix ((30 * (Z2 : Int)) + (X2 : Int)))), M_12))) (some ((-1), M_12)))) FU 1 M_9)))) FU 0 M (fun _ _ => rfl) (fun c hc => by omega) (by omega) (by show _ < 5000; omega)
      have hY0 : XR M (up2 Y 17 (30 * Z + X) (M 1 (519 + (30 * Z + X)))) f0 := ⟨fun j hj => by rw [up2_n hj]; exact y2 j hj, fun c hc => by
        rw [up2_s]
        by_cases ce : c = 30 * Z + X
        · rw [ce, up1_s, f0s]
        · rw [up1_n ce, f0n c ce]; exact y3 c hc⟩
      obtain ⟨Y', f2, z1, z2, z3⟩ := way_90 (M := M) (dl := dl) (hpn := hpn) (src := 30 * Z + X) (a := (X2 : Int)) (b := (Z2 : Int)) (f0 := f0) (kx := fun M_12 => gd (inb ((30 * (Z2 : Int)) + (X2 : Int)) 900) (bl (M_12 17 (ix ((30 * (Z2 : Int)) + (X2 : Int)))) 1000000000 (gd (inb ((30 * (Z2 : Int)) + (X2 : Int)) 900) (some ((M_12 17 (ix ((30 * (Z2 : Int)) + (X2 : Int)))), M_12))) (some ((-1), M_12)))) hb hwt d4 (fun c => (d1 c).2) d3 d5 d6 FU true _ f0 hY0 g0 hs0 (fun q => absurd q (by decide)) (Or.inl (by show _ ≤ ((5000 : Nat) : Int); omega))
      have q1 := Un_0 e3 (c := 30 * Z2 + X2) (by omega)
      have q2 := Un_0 z3 (c := 30 * Z2 + X2) (by omega)
      have hk := e2 (30 * Z2 + X2) (by omega)
      have hy := z2.2 (30 * Z2 + X2) (by omega)
      have hdl := d1 (30 * Z2 + X2)
      have hfr : Fr T M (upO T 10 K') Y' := ⟨fun i _ _ h10 => upO_n h10, fun k _ => by rw [z2.1 1 (by decide)], fun j hj => z2.1 j (by omega)⟩
      refine ⟨if dl (30 * Z2 + X2) = 1000000000 then -1 else dl (30 * Z2 + X2), upO T 10 K', Y', ?_, ?_, hfr⟩
      · rw [show lX6_driest_30 (T 2) (T 3) (30 * (Z2 : Int) + (X2 : Int)) (fun K_8 => jX6_driest_68 K_8 (T 2) (T 3) (30 * (Z2 : Int) + (X2 : Int))) FU 1 0 _ = _ from e1]
        unfold jX6_driest_68
        rw [gi (by omega) (by omega) (by omega), gi (by omega) (by omega) (by omega), ix_e (by omega) (by omega), show (30 * (Z2 : Int) + (X2 : Int)).toNat = 30 * Z2 + X2 from by omega]
        rcases hk with ⟨k1, k2⟩ | ⟨k1, k2, k3⟩
        · rw [bq_t k1, bd_some, nm_e', if_pos (by omega)]
        · rw [bq_f (by omega) (by omega) (by omega) (by omega) (by omega), bd_some, nm_e', if_neg (by omega), k1, q1]
      · rw [show lX8_way_46 (X : Int) (Z : Int) (X2 : Int) (Z2 : Int) _ FU 0 M = _ from y1]
        rw [wetOf8 (by omega) (by omega) (by omega) (by omega), bd_some, gi (z := 30 * (Z : Int) + (X : Int)) (by omega) (by omega) (by omega), nm_e', show (30 * (Z : Int) + (X : Int)).toNat = 30 * Z + X from by omega, y2 1 (by decide)]
        rw [show lX8_way_90 (X2 : Int) (Z2 : Int) _ FU 1 _ = _ from z1]
        rw [gi (by omega) (by omega) (by omega), gi (by omega) (by omega) (by omega), ix_e (by omega) (by omega), show (30 * (Z2 : Int) + (X2 : Int)).toNat = 30 * Z2 + X2 from by omega, hy, q2]
        by_cases ce : dl (30 * Z2 + X2) = 1000000000
        · rw [bl_f (by omega) (by omega) (by omega), if_pos ce]
        · rw [bl_t (by omega) (by omega) (by omega), if_neg ce]
end
