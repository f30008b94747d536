/-! LAYER 2: dreams: the calls that try many -/
section
variable {n : Nat} {T : Nat → Ob} {J : Nat → Bool} {M : Ob} {x z y0 : Int} {j : Nat}
theorem high_ok {v : Int} (h : Inv n T J M) (ho : rowOk M j) (hv : 0 ≤ v) (hv2 : v ≤ 60) : ∃ Tf M', fX7_dreamByHigh T (j : Int) v = some Tf ∧ fX8_thinksBy M (j : Int) 6 v = some M' ∧ Fr T M Tf M' ∧ (∀ q : Nat, q < 6 → fX7_gainOf Tf (q : Int) = some (M' 16 q)) ∧ (0 ≤ M' 16 0 ∧ M' 16 0 ≤ 18000000) := by
  obtain ⟨Tb, Tf, M', f1, f2, f3, f4, f5, f6⟩ := by_ok (i := 6) (a := 6) (v := v) (z := 6) h ho (by decide) (by decide) (by omega)
  refine ⟨Tf, M', ?_, f3, f4, f5, f6⟩
  unfold fX7_dreamByHigh
  rw [f1, bd_some, nm_e', f2, bd_some]
theorem strays_ok {Tf : Nat → Ob} {M' : Ob} (h : ∀ q : Nat, q < 6 → fX7_gainOf Tf (q : Int) = some (M' 16 q)) : fX7_dreamStrays Tf = some (M' 16 1 + M' 16 2) := by
  unfold fX7_dreamStrays
  rw [show fX7_gainOf Tf 1 = some (M' 16 1) from h 1 (by decide), bd_some, show fX7_gainOf Tf 2 = some (M' 16 2) from h 2 (by decide), bd_some]
theorem half_loop : ∀ (m d : Nat) (T : Nat → Ob) (M : Ob), Inv n T J M → rowOk M j → d ≤ 10 → 10 - d < m → Ef T M (lX7_half_29 (j : Int) z m (d : Int) T) (lX8_half_30 (j : Int) z m (d : Int) M) := by
  intro m
  induction m with
  | zero => intro d T M _ _ _ h; omega
  | succ m ih =>
    intro d T M h ho h1 h2
    rw [lX7_half_29, lX8_half_30]
    by_cases c : d = 10
    · subst c
      rw [bl_t (by decide) (by decide) (by decide), be_t (by decide) (by decide) (by decide)]
      exact Ef.s _
    · obtain ⟨Tb, Tf, M', f1, f2, f3, f4, f5, f6⟩ := by_ok (i := 5) (a := 5) (v := (d : Int)) (z := 5) h ho (by decide) (by decide) (by omega)
      rw [bl_f (by omega) (by omega) (by omega), be_f (by omega) (by omega) (by omega), f1, bd_some, nm_e', f2, bd_some, strays_ok f5, bd_some, f3, bd_some, lit (by decide), lit (by decide), show ix 1 = 1 from by decide, show ix 2 = 2 from by decide]
      refine Ef.pre f4 ?_
      by_cases c2 : i32 z < i32 (M' 16 1 + M' 16 2)
      · rw [bl_p c2, bl_p c2, nm_e', nm_e']
        exact ih (d + 1) _ _ (h.fr f4) (ho.fr f4) (by omega) (by omega)
      · rw [bl_n c2, bl_n c2]
        exact Ef.s _
theorem op_half (h : Inv n T J M) (hx : R32 x) (hz : R32 z) : Ef T M (fX7_half T x z) (fX8_half M x z) := by
  unfold fX7_half fX8_half
  rw [within7r hz ⟨by decide, by decide⟩ ⟨by decide, by decide⟩, in8i hz ⟨by decide, by decide⟩ ⟨by decide, by decide⟩, bd_some, bd_some, bq_ite, bq_ite]
  refine Ef.ite (fun c2 => ?_) (fun _ => Ef.s _)
  obtain ⟨q, e1, e2, e3⟩ := asks_eq h hx
  rw [e1, e2, bd_some, bd_some]
  rcases e3 with ⟨rfl, j, rfl, ho⟩ | e3
  · rw [bq_t rfl, be_t (by decide) (by decide) (by decide)]
    exact half_loop FU 0 T M h ho (by omega) (by show _ < 5000; omega)
  · rw [bq_f (by omega) (by omega) (by omega) (by omega) (by omega), be_f (by omega) (by omega) (by omega)]
    exact Ef.s _
/-- the best so far, on both sides -/
def Rl (b gc gm : Int) : Prop := (b = -1 ∧ gc = -1) ∨ (0 ≤ b ∧ b ≤ 1000 ∧ gc = gm)
theorem tall_loop : ∀ (m d : Nat) (b gc gm : Int) (T : Nat → Ob) (M : Ob), Inv n T J M → rowOk M j → Rl b gc gm → d ≤ 61 → 61 - d < m → Ef T M (lX7_tall_35 (j : Int) z m b gc (d : Int) T) (lX8_tall_36 (j : Int) z m b gm (d : Int) M) := by
  intro m
  induction m with
  | zero => intro d b gc gm T M _ _ _ _ h; omega
  | succ m ih =>
    intro d b gc gm T M h ho hl h1 h2
    rw [lX7_tall_35, lX8_tall_36]
    by_cases c : d = 61
    · subst c
      rw [bl_t (by decide) (by decide) (by decide), bl_t (by decide) (by decide) (by decide)]
      exact Ef.s _
    · obtain ⟨Tf, M', f2, f3, f4, f5, f6⟩ := high_ok (v := (d : Int)) h ho (by omega) (by omega)
      have g0 : fX7_gainOf Tf 0 = some (M' 16 0) := f5 0 (by decide)
      rw [bl_f (by omega) (by omega) (by omega), bl_f (by omega) (by omega) (by omega), f2, bd_some, strays_ok f5, bd_some, f3, bd_some, lit (by decide), lit (by decide), show ix 1 = 1 from by decide, show ix 2 = 2 from by decide]
      refine Ef.pre f4 ?_
      by_cases c2 : i32 z < i32 (M' 16 1 + M' 16 2)
      · rw [bl_p c2, bl_p c2, nm_e', nm_e']
        exact ih (d + 1) _ _ _ _ _ (h.fr f4) (ho.fr f4) hl (by omega) (by omega)
      · rw [bl_n c2, bl_n c2, g0, bd_some, bd_some]
        have take : Ef Tf M' (nm ((d : Int) + 1) (fun lx6_9 => lX7_tall_35 (j : Int) z m (d : Int) (M' 16 0) lx6_9 Tf)) (jX8_tall_89 (lX8_tall_36 (j : Int) z m) M' (j : Int) z (d : Int)) := by
          unfold jX8_tall_89
          rw [lit (by decide), nm_e', nm_e', nm_e', show ix 0 = 0 from by decide]
          exact ih (d + 1) _ _ _ _ _ (h.fr f4) (ho.fr f4) (Or.inr ⟨by omega, by omega, rfl⟩) (by omega) (by omega)
        rcases hl with ⟨l1, l2⟩ | ⟨l1, l2, l3⟩
        · rw [be_f (by omega) (by omega) (by omega), bq_t l1]
          exact take
        · rw [bq_f (by omega) (by omega) (by omega) (by omega) (by omega), lit (by decide), be_bl, l3, show ix 0 = 0 from by decide]
          by_cases c3 : i32 gm < i32 (M' 16 0)
          · rw [bl_p c3, bl_p c3]
            exact take
          · rw [bl_n c3, bl_n c3, nm_e', nm_e']
            exact ih (d + 1) _ _ _ _ _ (h.fr f4) (ho.fr f4) (Or.inr ⟨l1, l2, rfl⟩) (by omega) (by omega)
theorem op_tall (h : Inv n T J M) (hx : R32 x) (hz : R32 z) : Ef T M (fX7_tall T x z) (fX8_tall M x z) := by
  unfold fX7_tall fX8_tall
  rw [within7r hz ⟨by decide, by decide⟩ ⟨by decide, by decide⟩, in8i hz ⟨by decide, by decide⟩ ⟨by decide, by decide⟩, bd_some, bd_some, bq_ite, bq_ite]
  refine Ef.ite (fun c2 => ?_) (fun _ => Ef.s _)
  obtain ⟨q, e1, e2, e3⟩ := asks_eq h hx
  rw [e1, e2, bd_some, bd_some]
  rcases e3 with ⟨rfl, j, rfl, ho⟩ | e3
  · rw [bq_t rfl, be_t (by decide) (by decide) (by decide)]
    exact tall_loop FU 0 _ _ _ T M h ho (Or.inl ⟨rfl, rfl⟩) (by omega) (by show _ < 5000; omega)
  · rw [bq_f (by omega) (by omega) (by omega) (by omega) (by omega), be_f (by omega) (by omega) (by omega)]
    exact Ef.s _
theorem pays_loop : ∀ (m d : Nat) (b g : Int) (T : Nat → Ob) (M : Ob), Inv n T J M → rowOk M j → d ≤ 61 → 61 - d < m → Ef T M (lX7_pays_34 (j : Int) z m b g (d : Int) T) (lX8_pays_36 (j : Int) z m b g (d : Int) M) := by
  intro m
  induction m with
  | zero => intro d b g T M _ _ _ h; omega
  | succ m ih =>
    intro d b g T M h ho h1 h2
    rw [lX7_pays_34, lX8_pays_36]
    by_cases c : d = 61
    · subst c
      rw [bl_t (by decide) (by decide) (by decide), bl_t (by decide) (by decide) (by decide)]
      exact Ef.s _
    · obtain ⟨Tf, M', f2, f3, f4, f5, f6⟩ := high_ok (v := (d : Int)) h ho (by omega) (by omega)
      simp only [nm_e']
      rw [bl_f (by omega) (by omega) (by omega), bl_f (by omega) (by omega) (by omega), f2, bd_some, show fX7_gainOf Tf 0 = some (M' 16 0) from f5 0 (by decide), bd_some, show fX7_gainOf Tf 1 = some (M' 16 1) from f5 1 (by decide), bd_some, f3, bd_some, lit (by decide), lit (by decide), show ix 0 = 0 from by decide, show ix 1 = 1 from by decide]
      refine Ef.pre f4 ?_
      by_cases c2 : i32 b = i32 (-1)
      · rw [bq_p c2, bq_p c2]
        exact ih (d + 1) _ _ _ _ (h.fr f4) (ho.fr f4) (by omega) (by omega)
      · rw [bq_n c2, bq_n c2, be_bl]
        by_cases c3 : i32 g < i32 (M' 16 0 - z * M' 16 1)
        · rw [bl_p c3, bl_p c3]
          exact ih (d + 1) _ _ _ _ (h.fr f4) (ho.fr f4) (by omega) (by omega)
        · rw [bl_n c3, bl_n c3]
          exact ih (d + 1) _ _ _ _ (h.fr f4) (ho.fr f4) (by omega) (by omega)
theorem op_pays (h : Inv n T J M) (hx : R32 x) (hz : R32 z) : Ef T M (fX7_pays T x z) (fX8_pays M x z) := by
  unfold fX7_pays fX8_pays
  rw [within7r hz ⟨by decide, by decide⟩ ⟨by decide, by decide⟩, in8i hz ⟨by decide, by decide⟩ ⟨by decide, by decide⟩, bd_some, bd_some, bq_ite, bq_ite]
  refine Ef.ite (fun c2 => ?_) (fun _ => Ef.s _)
  obtain ⟨q, e1, e2, e3⟩ := asks_eq h hx
  rw [e1, e2, bd_some, bd_some]
  rcases e3 with ⟨rfl, j, rfl, ho⟩ | e3
  · rw [bq_t rfl, be_t (by decide) (by decide) (by decide)]
    exact pays_loop FU 0 _ _ T M h ho (by omega) (by show _ < 5000; omega)
  · rw [bq_f (by omega) (by omega) (by omega) (by omega) (by omega), be_f (by omega) (by omega) (by omega)]
    exact Ef.s _
/-- one rule -/
theorem addRule_loop {P : Ob} {v : Int} {w : Nat} : ∀ (m s : Nat), w ≤ s → s ≤ 10 → 10 - s < m → lX1_addRule_12 v m (s : Int) (upA P 19 (fun k => if w ≤ k ∧ k < s then v else P 19 k)) = some (upA P 19 (fun k => if w ≤ k ∧ k < 10 then v else P 19 k)) := by
  intro m
  induction m with
  | zero => intro s _ _ h; omega
  | succ m ih =>
    intro s h1 h2 h3
    rw [lX1_addRule_12]
    by_cases c : s = 10
    · subst c
      rw [be_t (by decide) (by decide) (by decide)]
    · rw [be_f (by omega) (by omega) (by omega), gi (by omega) (by omega) (by omega), nm_e', nm_e', ix_nat (by omega), up2_upAk]
      rw [show up1 (fun k => if w ≤ k ∧ k < s then v else P 19 k) s v = (fun k => if w ≤ k ∧ k < s + 1 then v else P 19 k) from by
        funext k
        by_cases hk : k = s
        · subst hk; rw [up1_s, if_pos ⟨h1, by omega⟩]
        · rw [up1_n hk]
          by_cases hk2 : w ≤ k ∧ k < s
          · rw [if_pos hk2, if_pos ⟨hk2.1, by omega⟩]
          · rw [if_neg hk2, if_neg (by omega)]]
      exact ih (s + 1) (by omega) (by omega) (by omega)
theorem addRule7 {P : Ob} {v : Int} {w : Nat} (hw : w ≤ 10) : fX1_addRule P (w : Int) v = some (upA (up2 P 18 0 (P 18 0 + 1)) 19 (fun k => if w ≤ k ∧ k < 10 then v else P 19 k)) := by
  unfold fX1_addRule
  rw [nm_e']
  have h := addRule_loop (P := up2 P 18 0 (P 18 0 + 1)) (v := v) (w := w) FU w (by omega) hw (by show _ < 5000; omega)
  rw [show (upA (up2 P 18 0 (P 18 0 + 1)) 19 (fun k => if w ≤ k ∧ k < w then v else up2 P 18 0 (P 18 0 + 1) 19 k)) = up2 P 18 0 (P 18 0 + 1) from by
    rw [show (fun k => if w ≤ k ∧ k < w then v else up2 P 18 0 (P 18 0 + 1) 19 k) = up2 P 18 0 (P 18 0 + 1) 19 from by funext k; rw [if_neg (by omega)], upA_self]] at h
  exact h
theorem rule_pr {Q : Ob} {w : Nat → Int} {v : Int} {s : Nat} (hb : PB w) (h : PR Q w) (hs : s ≤ 9) (hv : 0 ≤ v) (hv2 : v ≤ 60) : ∃ Q1 Q2, fX1_dropRules Q = some Q1 ∧ fX1_addRule Q1 (s : Int) v = some Q2 ∧ PR Q2 (up1 (up1 (up1 w 12 1) 59 (s : Int)) 60 v) ∧ PB (up1 (up1 (up1 w 12 1) 59 (s : Int)) 60 v) := by
  have b10 := hb.b10; have b11 := hb.b11
  refine ⟨_, _, rfl, addRule7 (by omega), ?_, ?_⟩
  · have t1 : ∀ i : Nat, i ≠ 12 → i ≠ 59 → i ≠ 60 → up1 (up1 (up1 w 12 1) 59 (s : Int)) 60 v i = w i := fun i a b c => by rw [up1_n c, up1_n b, up1_n a]
    refine ⟨h.p0, h.p1, h.p2, h.p3, h.p4, h.p5, h.p6, h.p7, h.p8, h.p9, h.p10, h.p11, h.p14, rfl, ?_, ?_, ?_⟩
    · intro i hi
      rw [t1 10 (by decide) (by decide) (by decide)] at hi
      rw [t1 (25 + 2 * i) (by omega) (by omega) (by omega), t1 (26 + 2 * i) (by omega) (by omega) (by omega)]
      exact h.size i hi
    · intro k hk
      rw [t1 11 (by decide) (by decide) (by decide)] at hk
      rw [t1 (35 + 3 * k) (by omega) (by omega) (by omega), t1 (36 + 3 * k) (by omega) (by omega) (by omega), t1 (37 + 3 * k) (by omega) (by omega) (by omega)]
      exact h.tab k hk
    · intro k hk
      rw [upA_s]
      show (if s ≤ k ∧ k < 10 then v else filA 10 60 (up2 Q 18 0 0 19) k) = if (s : Int) ≤ (k : Int) then v else 60
      by_cases c : s ≤ k
      · rw [if_pos ⟨c, hk⟩, if_pos (by omega)]
      · rw [if_neg (by omega), if_neg (by omega)]
        unfold filA
        rw [show Nat.blt k 10 = true from by rw [Nat.blt_eq]; exact hk]
        rfl
  · have t1 : ∀ i : Nat, i ≠ 12 → i ≠ 59 → i ≠ 60 → up1 (up1 (up1 w 12 1) 59 (s : Int)) 60 v i = w i := fun i a b c => by rw [up1_n c, up1_n b, up1_n a]
    refine ⟨hb.b0, hb.b1, hb.b2, hb.b3, hb.b4, hb.b5, hb.b6, hb.b7, hb.b8, hb.b9, hb.b10, hb.b11, ⟨(by decide : (0 : Int) ≤ 1), (by decide : (1 : Int) ≤ 6)⟩, hb.b22, hb.sq, hb.none, hb.some, hb.road, ?_, ?_, ?_⟩
    · intro i hi
      rw [t1 10 (by decide) (by decide) (by decide)] at hi
      rw [t1 (25 + 2 * i) (by omega) (by omega) (by omega), t1 (26 + 2 * i) (by omega) (by omega) (by omega)]
      exact hb.size i hi
    · intro k hk
      rw [t1 11 (by decide) (by decide) (by decide)] at hk
      rw [t1 (35 + 3 * k) (by omega) (by omega) (by omega), t1 (36 + 3 * k) (by omega) (by omega) (by omega), t1 (37 + 3 * k) (by omega) (by omega) (by omega), t1 1 (by decide) (by decide) (by decide), t1 2 (by decide) (by decide) (by decide)]
      exact hb.tab k hk
    · intro k hk
      have hk2 : (k : Int) < 1 := hk
      have : k = 0 := by omega
      subst this
      exact ⟨(by omega : (0 : Int) ≤ (s : Int)), (by omega : (s : Int) ≤ 9), hv, hv2⟩
theorem rule_in {w : Nat} {kx : Int → Int → (Nat → Ob) → Option (Int × (Nat → Ob))} {kx8 : Int → Int → Ob → Option (Int × Ob)} (hw : w ≤ 9) (hk : ∀ (b gc gm : Int) (T : Nat → Ob) (M : Ob), Inv n T J M → rowOk M j → Rl b gc gm → Ef T M (kx b gc T) (kx8 b gm M)) :
    ∀ (m e : Nat) (b gc gm : Int) (T : Nat → Ob) (M : Ob), Inv n T J M → rowOk M j → Rl b gc gm → e ≤ 7 → 7 - e < m → Ef T M (lX7_rule_30 (j : Int) (w : Int) kx m b gc (10 * (e : Int)) T) (lX8_rule_30 (j : Int) (w : Int) kx8 m b gm (10 * (e : Int)) M) := by
  intro m
  induction m with
  | zero => intro e b gc gm T M _ _ _ _ h; omega
  | succ m ih =>
    intro e b gc gm T M h ho hl h1 h2
    rw [lX7_rule_30, lX8_rule_30]
    by_cases c : e = 7
    · subst c
      rw [bl_t (by decide) (by decide) (by decide), bl_t (by decide) (by decide) (by decide)]
      exact hk b gc gm T M h ho hl
    · obtain ⟨Tb, b1, b2, b3, b4⟩ := begin_ok h
      obtain ⟨Q1, Q2, r1, r2, r3, r4⟩ := rule_pr (s := w) (v := 10 * (e : Int)) h.now.pb b2 hw (by omega) (by omega)
      obtain ⟨Tf, Mf, M', f1, f2, f3, f4, f5, f6, -⟩ := day_go (Td := upO (upO Tb 4 Q1) 4 Q2) (u := up1 (up1 (up1 (M 1) 12 1) 59 (w : Int)) 60 (10 * (e : Int))) h ho (fun i' h4 h5 _ => by rw [upO_n h4, upO_n h4, b4 i' h4 h5]) (by rw [upO_s]; exact r3) r4 (by rw [upO_n (by decide), upO_n (by decide)]; exact b3) (fun k hk => by rw [up1_n (by omega), up1_n (by omega), up1_n (by omega)]) h.still h.rep
      have g0 : fX7_gainOf Tf 0 = some (M' 16 0) := f5 0 (by decide)
      have g3 : fX7_gainOf Tf 3 = some (M' 16 3) := f5 3 (by decide)
      simp only [nm_e']
      rw [bl_f (by omega) (by omega) (by omega), bl_f (by omega) (by omega) (by omega), b1, bd_some, r1, bd_some, upO_s, r2, bd_some, f1, bd_some, g0, bd_some, g3, bd_some, bd_some, thinksMk, bd_some, lit (by decide), lit (by decide), lit (by decide), show ix 12 = 12 from by decide, show ix 59 = 59 from by decide, show ix 60 = 60 from by decide, up2_A1 (X := Mk M), up2_upA, up2_upA]
      rw [show fX8_goesDown (upA (Mk M) 1 (up1 (up1 (up1 (Mk M 1) 12 1) 59 (w : Int)) 60 (10 * (e : Int)))) (j : Int) = some Mf from f2, bd_some, f3, bd_some, lit (by decide), show ix 3 = 3 from by decide]
      refine Ef.pre f4 ?_
      have e10 : (10 * (e : Int)) + 10 = 10 * ((e + 1 : Nat) : Int) := by omega
      have take : Ef Tf M' (lX7_rule_30 (j : Int) (w : Int) kx m ((100 * (w : Int)) + 10 * (e : Int)) (M' 16 0) (10 * (e : Int) + 10) Tf) (jX8_rule_104 (lX8_rule_30 (j : Int) (w : Int) kx8 m) M' (j : Int) (w : Int) (10 * (e : Int))) := by
        unfold jX8_rule_104
        rw [nm_e', lit (by decide), nm_e', nm_e', show ix 0 = 0 from by decide, e10]
        exact ih (e + 1) _ _ _ _ _ (h.fr f4) (ho.fr f4) (Or.inr ⟨by omega, by omega, rfl⟩) (by omega) (by omega)
      have skip : Ef Tf M' (lX7_rule_30 (j : Int) (w : Int) kx m b gc (10 * (e : Int) + 10) Tf) (lX8_rule_30 (j : Int) (w : Int) kx8 m b gm (10 * (e : Int) + 10) M') := by
        rw [e10]
        exact ih (e + 1) _ _ _ _ _ (h.fr f4) (ho.fr f4) hl (by omega) (by omega)
      by_cases c3 : i32 (M' 16 3) = i32 0
      · rw [bq_p c3, bq_p c3]
        rcases hl with ⟨l1, l2⟩ | ⟨l1, l2, l3⟩
        · rw [be_f (by omega) (by omega) (by omega), bq_t l1]
          exact take
        · rw [bq_f (by omega) (by omega) (by omega) (by omega) (by omega), lit (by decide), show ix 0 = 0 from by decide]
          rw [be_bl]
          subst l3
          by_cases c4 : i32 gc < i32 (M' 16 0)
          · rw [bl_p c4, bl_p c4]
            exact take
          · rw [bl_n c4, bl_n c4]
            exact skip
      · rw [bq_n c3, bq_n c3]
        by_cases c4 : i32 (M' 16 0) ≤ i32 gc
        · rw [be_p c4]
          exact skip
        · rw [be_n c4]
          exact skip
theorem rule_out : ∀ (m w : Nat) (b gc gm : Int) (T : Nat → Ob) (M : Ob), Inv n T J M → rowOk M j → Rl b gc gm → w ≤ 10 → 10 - w < m → Ef T M (lX7_rule_20 (j : Int) m b gc (w : Int) T) (lX8_rule_20 (j : Int) m b gm (w : Int) M) := by
  intro m
  induction m with
  | zero => intro w b gc gm T M _ _ _ _ h; omega
  | succ m ih =>
    intro w b gc gm T M h ho hl h1 h2
    rw [lX7_rule_20, lX8_rule_20]
    by_cases c : w = 10
    · subst c
      rw [bl_t (by decide) (by decide) (by decide), be_t (by decide) (by decide) (by decide)]
      exact Ef.s _
    · rw [bl_f (by omega) (by omega) (by omega), be_f (by omega) (by omega) (by omega)]
      exact rule_in (w := w) (by omega) (fun b gc gm T M h ho hl => by
        rw [nm_e', nm_e']
        exact ih (w + 1) _ _ _ _ _ h ho hl (by omega) (by omega)) FU 0 b gc gm T M h ho hl (by omega) (by show _ < 5000; omega)
theorem op_rule (h : Inv n T J M) (hx : R32 x) : Ef T M (fX7_rule T x) (fX8_rule M x) := by
  unfold fX7_rule fX8_rule
  obtain ⟨q, e1, e2, e3⟩ := asks_eq h hx
  rw [e1, e2, bd_some, bd_some]
  rcases e3 with ⟨rfl, j, rfl, ho⟩ | e3
  · rw [bq_t rfl, be_t (by decide) (by decide) (by decide)]
    exact rule_out FU 0 _ _ _ T M h ho (Or.inl ⟨rfl, rfl⟩) (by omega) (by show _ < 5000; omega)
  · rw [bq_f (by omega) (by omega) (by omega) (by omega) (by omega), be_f (by omega) (by omega) (by omega)]
    exact Ef.s _
end
