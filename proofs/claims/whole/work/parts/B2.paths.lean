/-! LAYER 2: ways: the least costs, as numbers alone -/
/-- a cell that may be on a way -/
def vld (w : Nat → Int) (c : Nat) : Prop := c < 900 ∧ ((c % 30 : Nat) : Int) < w 1 ∧ ((c / 30 : Nat) : Int) < w 2 ∧ ¬ inB w ((c % 30 : Nat) : Int) ((c / 30 : Nat) : Int)
/-- side by side -/
def nb (w : Nat → Int) (c b : Nat) : Prop := vld w b ∧ ((b % 30 = c % 30 ∧ (b / 30 = c / 30 + 1 ∨ b / 30 + 1 = c / 30)) ∨ (b / 30 = c / 30 ∧ (b % 30 = c % 30 + 1 ∨ b % 30 + 1 = c % 30)))
/-- the least of what is beside -/
def isMn (w f : Nat → Int) (c : Nat) (m : Int) : Prop := (∀ b, nb w c b → m ≤ f b) ∧ (m = 1000000000 ∨ ∃ b, nb w c b ∧ m = f b)
noncomputable def thr (w f : Nat → Int) (q : Prop) (b : Nat) : Int := @ite _ (q ∧ vld w b) (Classical.propDecidable _) (f b) 1000000000
noncomputable def mnf (w f : Nat → Int) (c : Nat) : Int := min (min (thr w f (0 < c % 30) (c - 1)) (thr w f (c % 30 < 29) (c + 1))) (min (thr w f (30 ≤ c) (c - 30)) (thr w f True (c + 30)))
theorem thr_p {w f : Nat → Int} {q : Prop} {b : Nat} (h : q ∧ vld w b) : thr w f q b = f b := by unfold thr; rw [if_pos h]
theorem thr_n {w f : Nat → Int} {q : Prop} {b : Nat} (h : ¬ (q ∧ vld w b)) : thr w f q b = 1000000000 := by unfold thr; rw [if_neg h]
theorem nb_cases {w : Nat → Int} {c b : Nat} (h : nb w c b) : vld w b ∧ ((0 < c % 30 ∧ b = c - 1) ∨ (c % 30 < 29 ∧ b = c + 1) ∨ (30 ≤ c ∧ b = c - 30) ∨ b = c + 30) := by
  obtain ⟨h1, h2⟩ := h
  have := h1.1
  exact ⟨h1, by omega⟩
theorem nb_of {w : Nat → Int} {c b : Nat} (h1 : vld w b) (h2 : (0 < c % 30 ∧ b = c - 1) ∨ (c % 30 < 29 ∧ b = c + 1) ∨ (30 ≤ c ∧ b = c - 30) ∨ b = c + 30) : nb w c b := ⟨h1, by omega⟩
theorem mnf_is {w f : Nat → Int} {c : Nat} (hf : ∀ b, f b ≤ 1000000000) : isMn w f c (mnf w f c) := by
  have hle : ∀ (q : Prop) (b : Nat), thr w f q b ≤ 1000000000 := fun q b => by
    by_cases h : q ∧ vld w b
    · rw [thr_p h]; exact hf b
    · rw [thr_n h]; exact Int.le_refl _
  have hat : ∀ (q : Prop) (b : Nat), (vld w b → q → nb w c b) → thr w f q b = 1000000000 ∨ ∃ b', nb w c b' ∧ thr w f q b = f b' := fun q b hn => by
    by_cases h : q ∧ vld w b
    · exact Or.inr ⟨b, hn h.2 h.1, thr_p h⟩
    · exact Or.inl (thr_n h)
  refine ⟨fun b hb => ?_, ?_⟩
  · obtain ⟨h1, h2⟩ := nb_cases hb
    unfold mnf
    rcases h2 with ⟨q, e⟩ | ⟨q, e⟩ | ⟨q, e⟩ | e
    · have := thr_p (f := f) (w := w) (q := 0 < c % 30) (b := c - 1) ⟨q, e ▸ h1⟩
      rw [e]; omega
    · have := thr_p (f := f) (w := w) (q := c % 30 < 29) (b := c + 1) ⟨q, e ▸ h1⟩
      rw [e]; omega
    · have := thr_p (f := f) (w := w) (q := 30 ≤ c) (b := c - 30) ⟨q, e ▸ h1⟩
      rw [e]; omega
    · have := thr_p (f := f) (w := w) (q := True) (b := c + 30) ⟨trivial, e ▸ h1⟩
      rw [e]; omega
  · have a1 := hat (0 < c % 30) (c - 1) (fun h q => nb_of h (Or.inl ⟨q, rfl⟩))
    have a2 := hat (c % 30 < 29) (c + 1) (fun h q => nb_of h (Or.inr (Or.inl ⟨q, rfl⟩)))
    have a3 := hat (30 ≤ c) (c - 30) (fun h q => nb_of h (Or.inr (Or.inr (Or.inl ⟨q, rfl⟩))))
    have a4 := hat True (c + 30) (fun h _ => nb_of h (Or.inr (Or.inr (Or.inr rfl))))
    have pick : mnf w f c = thr w f (0 < c % 30) (c - 1) ∨ mnf w f c = thr w f (c % 30 < 29) (c + 1) ∨ mnf w f c = thr w f (30 ≤ c) (c - 30) ∨ mnf w f c = thr w f True (c + 30) := by unfold mnf; omega
    rcases pick with e | e | e | e <;> rw [e]
    · exact a1
    · exact a2
    · exact a3
    · exact a4
/-- costs by ways of at most k steps -/
noncomputable def Dk (w : Nat → Int) (src : Nat) : Nat → Nat → Int
  | 0 => fun c => if c = src then w (519 + src) else 1000000000
  | k + 1 => fun c => @ite _ (vld w c) (Classical.propDecidable _) (min (Dk w src k c) (mnf w (Dk w src k) c + w (519 + c))) (Dk w src k c)
def wetP (w : Nat → Int) : Prop := (∀ c : Nat, c < 900 → 0 ≤ w (519 + c)) ∧ sm (fun c => w (519 + c)) 900 ≤ 20000000
section
variable {w : Nat → Int} {src : Nat}
theorem wet_le (h : wetP w) {c : Nat} (hc : c < 900) : 0 ≤ w (519 + c) ∧ w (519 + c) ≤ 20000000 := by
  refine ⟨h.1 c hc, ?_⟩
  have h1 : sm (fun i => if i = c then w (519 + c) else 0) 900 = w (519 + c) := by
    rw [sm_one hc (fun i _ hi => if_neg hi)]
    exact if_pos rfl
  have h2 : sm (fun i => if i = c then w (519 + c) else 0) 900 ≤ sm (fun i => w (519 + i)) 900 := sm_le (fun i hi => by
    show (if i = c then w (519 + c) else 0) ≤ w (519 + i)
    by_cases ci : i = c
    · subst ci; rw [if_pos rfl]; exact Int.le_refl _
    · rw [if_neg ci]; exact h.1 i hi)
  have := h.2
  omega
theorem Dk_b (h : wetP w) (hs : src < 900) : ∀ (k c : Nat), 0 ≤ Dk w src k c ∧ Dk w src k c ≤ 1000000000 := by
  intro k
  induction k with
  | zero =>
    intro c
    have := wet_le h hs
    show 0 ≤ (if c = src then w (519 + src) else 1000000000) ∧ (if c = src then w (519 + src) else 1000000000) ≤ 1000000000
    split <;> omega
  | succ k ih =>
    intro c
    show 0 ≤ @ite _ (vld w c) (Classical.propDecidable _) (min (Dk w src k c) (mnf w (Dk w src k) c + w (519 + c))) (Dk w src k c) ∧ @ite _ (vld w c) (Classical.propDecidable _) (min (Dk w src k c) (mnf w (Dk w src k) c + w (519 + c))) (Dk w src k c) ≤ 1000000000
    have hc := ih c
    by_cases cv : vld w c
    · rw [if_pos cv]
      have hm := mnf_is (w := w) (f := Dk w src k) (c := c) (fun b => (ih b).2)
      have hw := wet_le h cv.1
      have hnn : 0 ≤ mnf w (Dk w src k) c := by
        rcases hm.2 with e | ⟨b, -, e⟩
        · omega
        · have := (ih b).1; omega
      omega
    · rw [if_neg cv]; exact hc
theorem Dk_s {k c : Nat} (hv : vld w c) : Dk w src (k + 1) c = min (Dk w src k c) (mnf w (Dk w src k) c + w (519 + c)) := by
  show @ite _ (vld w c) (Classical.propDecidable _) _ _ = _
  rw [if_pos hv]
theorem Dk_n {k c : Nat} (hv : ¬ vld w c) : Dk w src (k + 1) c = Dk w src k c := by
  show @ite _ (vld w c) (Classical.propDecidable _) _ _ = _
  rw [if_neg hv]
theorem Dk_le {k c : Nat} : Dk w src (k + 1) c ≤ Dk w src k c := by
  by_cases hv : vld w c
  · rw [Dk_s hv]; omega
  · rw [Dk_n hv]; exact Int.le_refl _
theorem least_nat {p : Nat → Prop} (h : ∃ n, p n) : ∃ n, p n ∧ ∀ m, p m → n ≤ m := by
  obtain ⟨n, hn⟩ := h
  induction n using Nat.strongRecOn with
  | _ n ih =>
    by_cases c : ∃ m, m < n ∧ p m
    · obtain ⟨m, h1, h2⟩ := c
      exact ih m h1 h2
    · exact ⟨n, hn, fun m hm => by
        by_cases q : n ≤ m
        · exact q
        · exact absurd ⟨m, by omega, hm⟩ c⟩
/-- the least costs and how many steps they take -/
theorem dist_ex (h : wetP w) (hs : src < 900) (hv : vld w src) : ∃ (dl : Nat → Int) (hp : Nat → Nat), (∀ c, 0 ≤ dl c ∧ dl c ≤ 1000000000) ∧ dl src = w (519 + src) ∧ (∀ c, ¬ vld w c → dl c = 1000000000) ∧ (∀ c b, vld w c → nb w c b → dl c ≤ dl b + w (519 + c)) ∧ (∀ c, hp c = 0 → c = src ∨ dl c = 1000000000) ∧ (∀ c, hp c ≠ 0 → ∃ b, nb w c b ∧ dl c = dl b + w (519 + c) ∧ hp b < hp c) := by
  have hex : ∀ c, ∃ k, ∀ m, Dk w src k c ≤ Dk w src m c := fun c => by
    obtain ⟨n, ⟨k, hk⟩, hn⟩ := least_nat (p := fun n => ∃ k, (Dk w src k c).toNat = n) ⟨_, 0, rfl⟩
    refine ⟨k, fun m => ?_⟩
    have h1 := hn _ ⟨m, rfl⟩
    have h2 := (Dk_b h hs k c).1
    have h3 := (Dk_b h hs m c).1
    omega
  have hex2 : ∀ c, ∃ k, (∀ m, Dk w src k c ≤ Dk w src m c) ∧ ∀ j, (∀ m, Dk w src j c ≤ Dk w src m c) → k ≤ j := fun c => least_nat (hex c)
  let hp : Nat → Nat := fun c => Classical.choose (hex2 c)
  have hpp : ∀ c, (∀ m, Dk w src (hp c) c ≤ Dk w src m c) ∧ ∀ j, (∀ m, Dk w src j c ≤ Dk w src m c) → hp c ≤ j := fun c => Classical.choose_spec (hex2 c)
  have hnv : ∀ k c, ¬ vld w c → Dk w src k c = 1000000000 := by
    intro k
    induction k with
    | zero => intro c hc; exact if_neg (show ¬ c = src from fun e => hc (by rw [e]; exact hv))
    | succ k ih => intro c hc; rw [Dk_n hc]; exact ih c hc
  have hc3 : ∀ c b, vld w c → nb w c b → Dk w src (hp c) c ≤ Dk w src (hp b) b + w (519 + c) := fun c b hvc hn => by
    have h1 := (hpp c).1 (hp b + 1)
    rw [Dk_s hvc] at h1
    have h2 := (mnf_is (w := w) (f := Dk w src (hp b)) (c := c) (fun b' => (Dk_b h hs _ b').2)).1 b hn
    omega
  refine ⟨fun c => Dk w src (hp c) c, hp, fun c => Dk_b h hs _ c, ?_, fun c hc => hnv _ c hc, hc3, fun c hc => ?_, fun c hc => ?_⟩
  · -- the source
    have up : Dk w src (hp src) src ≤ w (519 + src) := by
      have := (hpp src).1 0
      rw [show Dk w src 0 src = w (519 + src) from if_pos rfl] at this
      exact this
    have lo : ∀ k, w (519 + src) ≤ Dk w src k src := by
      intro k
      induction k with
      | zero => exact Int.le_of_eq (if_pos rfl).symm
      | succ k ih =>
        rw [Dk_s hv]
        have hm := mnf_is (w := w) (f := Dk w src k) (c := src) (fun b' => (Dk_b h hs _ b').2)
        have hnn : 0 ≤ mnf w (Dk w src k) src := by
          rcases hm.2 with e | ⟨b, -, e⟩
          · omega
          · have := (Dk_b h hs k b).1; omega
        omega
    have := lo (hp src)
    show Dk w src (hp src) src = _
    omega
  · show c = src ∨ Dk w src (hp c) c = 1000000000
    rw [hc]
    by_cases e : c = src
    · exact Or.inl e
    · exact Or.inr (if_neg e)
  · obtain ⟨k, hk⟩ : ∃ k, hp c = k + 1 := ⟨hp c - 1, by omega⟩
    have hlt : Dk w src (k + 1) c < Dk w src k c := by
      by_cases q : Dk w src (k + 1) c < Dk w src k c
      · exact q
      · exfalso
        have := (hpp c).2 k (fun m => by
          have h1 := (hpp c).1 m
          rw [hk] at h1
          have h2 := Dk_le (w := w) (src := src) (k := k) (c := c)
          omega)
        omega
    have hvc : vld w c := by
      by_cases q : vld w c
      · exact q
      · rw [Dk_n q] at hlt; omega
    have e1 : Dk w src (k + 1) c = mnf w (Dk w src k) c + w (519 + c) := by
      rw [Dk_s hvc] at hlt ⊢
      omega
    have hm := mnf_is (w := w) (f := Dk w src k) (c := c) (fun b' => (Dk_b h hs _ b').2)
    have hwc := wet_le h hvc.1
    have hkb := (Dk_b h hs k c).2
    rcases hm.2 with e | ⟨b, hn, e⟩
    · omega
    · have h3 := hc3 c b hvc hn
      have h4 := (hpp b).1 k
      rw [hk] at h3
      have e5 : Dk w src (hp b) b = Dk w src k b := by omega
      refine ⟨b, hn, ?_, ?_⟩
      · show Dk w src (hp c) c = Dk w src (hp b) b + w (519 + c)
        rw [hk]; omega
      · have := (hpp b).2 k (fun m => by rw [← e5]; exact (hpp b).1 m)
        omega
end
/-- one cell is eased -/
def EaS (w f : Nat → Int) (c : Nat) (f' : Nat → Int) (ch : Bool) : Prop := ∃ m, isMn w f c m ∧ ((m + w (519 + c) < f c ∧ f' = up1 f c (m + w (519 + c)) ∧ ch = true) ∨ (¬ m + w (519 + c) < f c ∧ f' = f ∧ ch = false))
def Sw (w : Nat → Int) : List Nat → (Nat → Int) → (Nat → Int) → Bool → Prop
  | [], f, f', ch => f' = f ∧ ch = false
  | c :: l, f, f', ch => ∃ f1 c1 c2, EaS w f c f1 c1 ∧ Sw w l f1 f' c2 ∧ ch = (c1 || c2)
theorem Sw.snoc {w : Nat → Int} {c : Nat} {g : Nat → Int} {c2 : Bool} (l : List Nat) : ∀ (f f' : Nat → Int) (ch : Bool), Sw w l f f' ch → EaS w f' c g c2 → Sw w (l ++ [c]) f g (ch || c2) := by
  induction l with
  | nil =>
    intro f f' ch h he
    obtain ⟨h1, h2⟩ : f' = f ∧ ch = false := h
    subst h1; subst h2
    exact (show ∃ f1 c1 c2', EaS w f' c f1 c1 ∧ (g = f1 ∧ c2' = false) ∧ (false || c2) = (c1 || c2') from ⟨g, c2, false, he, ⟨rfl, rfl⟩, by cases c2 <;> rfl⟩)
  | cons a l ih =>
    intro f f' ch h he
    obtain ⟨f1, d1, d2, e1, e2, e3⟩ : ∃ f1 c1 c2, EaS w f a f1 c1 ∧ Sw w l f1 f' c2 ∧ ch = (c1 || c2) := h
    exact (show ∃ f1 c1 c2', EaS w f a f1 c1 ∧ Sw w (l ++ [c]) f1 g c2' ∧ (ch || c2) = (c1 || c2') from ⟨f1, d1, d2 || c2, e1, ih f1 f' d2 e2 he, by rw [e3, Bool.or_assoc]⟩)
/-- costs that may stand while the least are sought -/
def Sf (w f : Nat → Int) : Int := sm (fun i => if f i = 1000000000 then 0 else w (519 + i)) 900
def Gd (w dl f : Nat → Int) : Prop := (∀ c, 0 ≤ f c ∧ f c ≤ 1000000000) ∧ (∀ c, c < 900 → f c < 1000000000 → f c ≤ Sf w f) ∧ (∀ c, ¬ vld w c → f c = 1000000000) ∧ ∀ c, dl c ≤ f c
section
variable {w dl f f' : Nat → Int} {c : Nat} {ch : Bool}
theorem Sf_b (h : wetP w) : 0 ≤ Sf w f ∧ Sf w f ≤ 20000000 := by
  refine ⟨sm_nn (fun i hi => ?_), Int.le_trans (sm_le (fun i hi => ?_)) h.2⟩
  · show 0 ≤ (if f i = 1000000000 then 0 else w (519 + i))
    have := h.1 i hi
    split <;> omega
  · show (if f i = 1000000000 then 0 else w (519 + i)) ≤ w (519 + i)
    have := h.1 i hi
    split <;> omega
theorem ease_ok (h : wetP w) (h3 : ∀ c b, vld w c → nb w c b → dl c ≤ dl b + w (519 + c)) (hd : ∀ c, dl c ≤ 1000000000) (hv : vld w c) (g : Gd w dl f) (e : EaS w f c f' ch) : Gd w dl f' ∧ (∀ i, f' i ≤ f i) ∧ (ch = false → f' = f) := by
  obtain ⟨m, ⟨m1, m2⟩, q⟩ := e
  have hwc := wet_le h hv.1
  rcases q with ⟨q1, q2, q3⟩ | ⟨q1, q2, q3⟩
  · obtain ⟨g1, g2, g3, g4⟩ := g
    have hfc := g1 c
    rcases m2 with e | ⟨b, hn, e⟩
    · omega
    · have hb := g1 b
      have hbv := hn.1
      have hbS : m ≤ Sf w f := by rw [e]; exact g2 b hbv.1 (by omega)
      have hSb := Sf_b (f := f) h
      have hS : Sf w f' = Sf w f + (if f c = 1000000000 then w (519 + c) else 0) := by
        unfold Sf
        have e1 : sm (fun i => if f' i = 1000000000 then 0 else w (519 + i)) 900 = sm (fun i => (if f i = 1000000000 then 0 else w (519 + i)) + (if i = c then (if f c = 1000000000 then w (519 + c) else 0) else 0)) 900 := sm_congr (fun i hi => by
          show (if f' i = 1000000000 then 0 else w (519 + i)) = (if f i = 1000000000 then 0 else w (519 + i)) + (if i = c then (if f c = 1000000000 then w (519 + c) else 0) else 0)
          rw [q2]
          by_cases ci : i = c
          · subst ci
            rw [up1_s, if_neg (by omega), if_pos rfl]
            split <;> omega
          · rw [up1_n ci, if_neg ci]; omega)
        rw [e1, sm_add, sm_one (f := fun i => if i = c then (if f c = 1000000000 then w (519 + c) else 0) else 0) hv.1 (fun i _ hi => if_neg hi)]
        rw [if_pos rfl]
      refine ⟨⟨fun i => ?_, fun i hi hlt => ?_, fun i hi => ?_, fun i => ?_⟩, fun i => ?_, fun q => by rw [q] at q3; exact absurd q3 (by decide)⟩
      · rw [q2]
        by_cases ci : i = c
        · subst ci; rw [up1_s]; omega
        · rw [up1_n ci]; exact g1 i
      · rw [hS]
        rw [q2] at hlt ⊢
        by_cases ci : i = c
        · subst ci
          rw [up1_s]
          by_cases cf : f i = 1000000000
          · rw [if_pos cf]; omega
          · rw [if_neg cf]
            have := g2 i hi (by omega)
            omega
        · rw [up1_n ci] at hlt ⊢
          have := g2 i hi hlt
          split <;> omega
      · have hic : i ≠ c := fun e => hi (by rw [e]; exact hv)
        rw [q2, up1_n hic]
        exact g3 i hi
      · rw [q2]
        by_cases ci : i = c
        · subst ci
          rw [up1_s]
          have a1 := h3 i b hv hn
          have a2 := g4 b
          omega
        · rw [up1_n ci]; exact g4 i
      · rw [q2]
        by_cases ci : i = c
        · subst ci; rw [up1_s]; omega
        · rw [up1_n ci]; exact Int.le_refl _
  · rw [q2]
    exact ⟨g, fun i => Int.le_refl _, fun _ => rfl⟩
theorem sweep_ok (h : wetP w) (h3 : ∀ c b, vld w c → nb w c b → dl c ≤ dl b + w (519 + c)) (hd : ∀ c, dl c ≤ 1000000000) (l : List Nat) : ∀ (f : Nat → Int) (ch : Bool), (∀ c, c ∈ l → vld w c) → Gd w dl f → Sw w l f f' ch → Gd w dl f' ∧ (∀ i, f' i ≤ f i) ∧ (ch = false → f' = f) := by
  induction l with
  | nil =>
    intro f ch _ g s
    obtain ⟨s1, s2⟩ : f' = f ∧ ch = false := s
    subst s1
    exact ⟨g, fun i => Int.le_refl _, fun _ => rfl⟩
  | cons a l ih =>
    intro f ch hl g s
    obtain ⟨f1, d1, d2, e1, e2, e3⟩ : ∃ f1 c1 c2, EaS w f a f1 c1 ∧ Sw w l f1 f' c2 ∧ ch = (c1 || c2) := s
    obtain ⟨a1, a2, a3⟩ := ease_ok h h3 hd (hl a List.mem_cons_self) g e1
    obtain ⟨b1, b2, b3⟩ := ih f1 d2 (fun c hc => hl c (List.mem_cons_of_mem _ hc)) a1 e2
    refine ⟨b1, fun i => Int.le_trans (b2 i) (a2 i), fun q => ?_⟩
    rw [q] at e3
    cases hd1 : d1
    · cases hd2 : d2
      · rw [b3 hd2, a3 hd1]
      · rw [hd1, hd2] at e3; exact absurd e3 (by decide)
    · rw [hd1] at e3; exact absurd e3 (by cases d2 <;> decide)
/-- a cell whose way comes over a settled one is settled -/
theorem sweep_set (h : wetP w) (h3 : ∀ c b, vld w c → nb w c b → dl c ≤ dl b + w (519 + c)) (hd : ∀ c, dl c ≤ 1000000000) {b : Nat} (hn : nb w c b) (he : dl c = dl b + w (519 + c)) (l : List Nat) : ∀ (f : Nat → Int) (ch : Bool), (∀ c, c ∈ l → vld w c) → Gd w dl f → f b = dl b → c ∈ l → Sw w l f f' ch → f' c = dl c := by
  induction l with
  | nil => intro f ch _ _ _ hc; exact absurd hc (List.not_mem_nil)
  | cons a l ih =>
    intro f ch hl g hb hc s
    obtain ⟨f1, d1, d2, e1, e2, e3⟩ : ∃ f1 c1 c2, EaS w f a f1 c1 ∧ Sw w l f1 f' c2 ∧ ch = (c1 || c2) := s
    obtain ⟨a1, a2, a3⟩ := ease_ok h h3 hd (hl a List.mem_cons_self) g e1
    by_cases ca : a = c
    · subst ca
      have hs : f1 a = dl a := by
        obtain ⟨m, ⟨m1, m2⟩, q⟩ := e1
        have hm := m1 b hn
        have g1 := a1.2.2.2 a
        have g0 := g.2.2.2 a
        rcases q with ⟨q1, q2, q3⟩ | ⟨q1, q2, q3⟩
        · rw [q2, up1_s] at g1 ⊢; omega
        · rw [q2]; omega
      obtain ⟨b1, b2, b3⟩ := sweep_ok h h3 hd l f1 d2 (fun c hc => hl c (List.mem_cons_of_mem _ hc)) a1 e2
      have := b1.2.2.2 a
      have := b2 a
      omega
    · have hb1 : f1 b = dl b := by
        have := a2 b
        have := a1.2.2.2 b
        omega
      rcases List.mem_cons.mp hc with q | q
      · exact absurd q.symm ca
      · exact ih f1 d2 (fun c hc => hl c (List.mem_cons_of_mem _ hc)) a1 hb1 q e2
/-- how many are not settled yet -/
noncomputable def Un (dl f : Nat → Int) : Int := sm (fun c => if f c = dl c then 0 else 1) 900
theorem Un_b : 0 ≤ Un dl f ∧ Un dl f ≤ 900 := by
  have h := ind_b (p := fun c => f c ≠ dl c) 900
  have e : Un dl f = sm (fun i => if f i ≠ dl i then (1 : Int) else 0) 900 := sm_congr (fun i _ => by
    show (if f i = dl i then (0 : Int) else 1) = if f i ≠ dl i then 1 else 0
    by_cases q : f i = dl i
    · rw [if_pos q, if_neg (fun x => x q)]
    · rw [if_neg q, if_pos q])
  rw [e]
  exact h
theorem sm_lt {a b : Nat → Int} {j : Nat} : ∀ {n : Nat}, j < n → (∀ i, i < n → a i ≤ b i) → a j < b j → sm a n < sm b n
  | 0, h, _, _ => absurd h (by omega)
  | n + 1, h, hl, hj => by
    rw [sm, sm]
    by_cases cj : j = n
    · subst cj
      have := sm_le (f := a) (g := b) (n := j) (fun i hi => hl i (by omega))
      omega
    · have := sm_lt (n := n) (by omega) (fun i hi => hl i (by omega)) hj
      have := hl n (by omega)
      omega
theorem sweep_un {hp : Nat → Nat} {src : Nat} (h : wetP w) (h3 : ∀ c b, vld w c → nb w c b → dl c ≤ dl b + w (519 + c)) (hd : ∀ c, dl c ≤ 1000000000) (hnv : ∀ c, ¬ vld w c → dl c = 1000000000) (h0 : ∀ c, hp c = 0 → c = src ∨ dl c = 1000000000) (h1 : ∀ c, hp c ≠ 0 → ∃ b, nb w c b ∧ dl c = dl b + w (519 + c) ∧ hp b < hp c) {l : List Nat} (hl : ∀ c, c ∈ l → vld w c) (hl2 : ∀ c, vld w c → c ∈ l) (g : Gd w dl f) (hsrc : f src = dl src) (s : Sw w l f f' ch) : Un dl f = 0 ∨ Un dl f' < Un dl f := by
  obtain ⟨b1, b2, b3⟩ := sweep_ok h h3 hd l f ch hl g s
  by_cases q : ∃ k c, c < 900 ∧ f c ≠ dl c ∧ hp c = k
  · right
    obtain ⟨k, ⟨c, hc, hne, hk⟩, hmin⟩ := least_nat q
    have hfc := g.2.2.2 c
    have hfb := (g.1 c).2
    have hpc : hp c ≠ 0 := fun q0 => by
      rcases h0 c q0 with e | e
      · rw [e] at hne; exact hne hsrc
      · omega
    have hv : vld w c := by
      by_cases qv : vld w c
      · exact qv
      · exact absurd ((g.2.2.1 c qv).trans (hnv c qv).symm) hne
    obtain ⟨b, hn, e1, e2⟩ := h1 c hpc
    have hb : f b = dl b := by
      by_cases qb : f b = dl b
      · exact qb
      · have := hmin (hp b) ⟨b, hn.1.1, qb, rfl⟩
        omega
    have hset := sweep_set h h3 hd hn e1 l f ch hl g hb (hl2 c hv) s
    refine sm_lt hc (fun i hi => ?_) ?_
    · show (if f' i = dl i then (0 : Int) else 1) ≤ if f i = dl i then 0 else 1
      by_cases qi : f i = dl i
      · have a1 := b2 i
        have a2 := b1.2.2.2 i
        rw [if_pos qi, if_pos (by omega)]; omega
      · rw [if_neg qi]; split <;> omega
    · show (if f' c = dl c then (0 : Int) else 1) < if f c = dl c then 0 else 1
      rw [if_pos hset, if_neg hne]; omega
  · left
    exact sm_zero (fun c hc => if_pos (by
      by_cases q2 : f c = dl c
      · exact q2
      · exact absurd ⟨hp c, c, hc, q2, rfl⟩ q))
theorem Un_0 (h : Un dl f = 0) {c : Nat} (hc : c < 900) : f c = dl c := by
  by_cases q : f c = dl c
  · exact q
  · exfalso
    have : sm (fun i => if f i = dl i then (0 : Int) else 0) 900 < Un dl f := sm_lt hc (fun i hi => by
      show (if f i = dl i then (0 : Int) else 0) ≤ if f i = dl i then 0 else 1
      split <;> omega) (by
      show (if f c = dl c then (0 : Int) else 0) < if f c = dl c then 0 else 1
      rw [if_neg q, if_neg q]; decide)
    rw [h, sm_zero (fun i _ => by show (if f i = dl i then (0 : Int) else 0) = 0; split <;> rfl)] at this
    exact absurd this (by decide)
end
