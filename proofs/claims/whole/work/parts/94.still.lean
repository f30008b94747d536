/-! LAYER 2: dreams: steps, rows, and the still end -/
/-- all that is wet, together, is what came on cells -/
def WS (u : Nat → Int) : Prop := sm (fun c => u (519 + c)) 900 = u 20
theorem sm_swap {f : Nat → Nat → Int} {m : Nat} : ∀ {n : Nat}, sm (fun i => sm (fun j => f i j) m) n = sm (fun j => sm (fun i => f i j) n) m
  | 0 => (sm_zero (f := fun j => sm (fun i => f i j) 0) (n := m) (fun _ _ => rfl)).symm
  | n + 1 => by
    rw [sm, sm_swap (n := n), ← sm_add]
    exact sm_congr (fun j _ => rfl)
theorem hit_sum {p sh : Int} (hp : p = -3 ∨ p = -1 ∨ (0 ≤ p ∧ p / 100 < 30 ∧ p % 100 < 30)) : sm (fun c => hit p sh (519 + c)) 900 = hit p sh 20 := by
  rcases hp with h | h | h
  · rw [sm_zero (fun c _ => by show hit p sh (519 + c) = 0; unfold hit; rw [if_pos h, if_neg (by omega)])]
    unfold hit
    rw [if_pos h, if_neg (by omega)]
  · rw [sm_zero (fun c _ => by show hit p sh (519 + c) = 0; unfold hit; rw [if_neg (by omega), if_pos h, if_neg (by omega)])]
    unfold hit
    rw [if_neg (by omega), if_pos h, if_neg (by omega)]
  · rw [sm_one (j := (30 * (p / 100) + p % 100).toNat) (by omega) (fun c hc hn => by show hit p sh (519 + c) = 0; unfold hit; rw [if_neg (by omega), if_neg (by omega), if_neg (by omega)])]
    unfold hit
    rw [if_neg (by omega), if_neg (by omega), if_pos (Or.inr rfl), if_neg (by omega), if_neg (by omega), if_pos (Or.inl rfl)]
theorem dlb_sum {w : Nat → Int} {v : Int} {b : Nat} (hb : PB w) : sm (fun c => dlb w v b (519 + c)) 900 = dlb w v b 20 := by
  have b10 := hb.b10
  have hl := lm_b b
  by_cases cu : upb w b
  · have e : ∀ k, dlb w v b k = dls w (lm b) v (w 10).toNat k := fun k => by unfold dlb; rw [if_pos cu]
    rw [e 20, sm_congr (g := fun c => sm (fun i => dlt w (lm b) v i (519 + c)) (w 10).toNat) (fun c _ => e (519 + c)), sm_swap]
    refine sm_congr (fun s hs => ?_)
    show sm (fun c => dlt w (lm b) v s (519 + c)) 900 = dlt w (lm b) v s 20
    by_cases c : w (lm b) = w 14 + 1
    · rw [dlt_c (k := 20) (by omega) (by omega), if_pos c, sm_congr (g := fun c => hit (lpl w (lm b) s v) (w (26 + 2 * s)) (519 + c)) (fun i _ => by show dlt w (lm b) v s (519 + i) = _; rw [dlt_c (by omega) (by omega), if_pos c])]
      exact hit_sum (plc_ok hb)
    · rw [dlt_c (k := 20) (by omega) (by omega), if_neg c]
      exact sm_zero (fun i _ => by show dlt w (lm b) v s (519 + i) = 0; rw [dlt_c (by omega) (by omega), if_neg c])
  · have e : ∀ k, dlb w v b k = 0 := fun k => by unfold dlb; rw [if_neg cu]
    rw [e 20]
    exact sm_zero (fun c _ => e (519 + c))
theorem dD_sum {w : Nat → Int} {v : Int} {N : Nat} (hb : PB w) : sm (fun c => dD w v N (519 + c)) 900 = dD w v N 20 := by
  show sm (fun c => sm (fun i => dlb w v (fB N + i) (519 + c)) (N + 1 - fB N)) 900 = sm (fun i => dlb w v (fB N + i) 20) (N + 1 - fB N)
  rw [sm_swap]
  exact sm_congr (fun i _ => dlb_sum hb)
theorem WS.beat {w : Nat → Int} {v : Int} {N : Nat} (hb : PB w) (h : WS w) : WS (bw w v N) := by
  unfold WS at h ⊢
  rw [bw_c (k := 20) (by omega), sm_congr (f := fun c => bw w v N (519 + c)) (g := fun c => w (519 + c) + dD w v N (519 + c)) (n := 900) (fun c _ => bw_c (by omega)), sm_add, h, dD_sum hb]
/-- what a stretch of beats does, on both sides -/
def SP (A : Ob) (u : Nat → Int) (A' : Ob) (u' : Nat → Int) (r : Int) : Prop := Pl u' u ∧ (u 22 = -1 → A 3 0 = u 17 → A' 3 0 = u' 17) ∧ 0 ≤ r ∧ u' 19 + u' 20 = u 19 + u 20 + r ∧ u 16 ≤ u' 16 ∧ (∀ c : Nat, c < 900 → u (519 + c) ≤ u' (519 + c)) ∧ (WS u → WS u')
theorem SP.refl (A : Ob) (u : Nat → Int) : SP A u A u 0 := ⟨Pl.refl u, fun _ h => h, by omega, by omega, by omega, fun _ _ => by omega, fun h => h⟩
theorem SP.trans {A A' A'' : Ob} {u u' u'' : Nat → Int} {r s : Int} (h1 : SP A u A' u' r) (h2 : SP A' u' A'' u'' s) : SP A u A'' u'' (r + s) := by
  obtain ⟨a1, a2, a3, a4, a5, a6, a7⟩ := h1
  obtain ⟨b1, b2, b3, b4, b5, b6, b7⟩ := h2
  refine ⟨b1.trans a1, fun h22 hs => b2 (by rw [a1 22 (by omega)]; exact h22) (a2 h22 hs), by omega, by omega, by omega, fun c hc => ?_, fun h => b7 (a7 h)⟩
  have := a6 c hc; have := b6 c hc
  omega
theorem step_ok {P A : Ob} {u : Nat → Int} {B v : Int} (M : Ob) (h : WR P A u B) (hB : B ≤ 300000) (h23 : u 23 = 0) (hv : 0 ≤ v) (hv2 : v ≤ 39) :
    ∃ r A' u', fX3_playWind P A v = some (r, A') ∧ fX8_beat (upA M 1 u) v = some (r, upA M 1 u') ∧ WR P A' u' (B + 1) ∧ SP A u A' u' r ∧ (u 22 = -1 → A' 3 0 = u' 17) := by
  have hn := h.ab.beats
  obtain ⟨N, hN⟩ : ∃ N : Nat, u 14 = (N : Int) := ⟨(u 14).toNat, by omega⟩
  obtain ⟨A', e1, e2, e3⟩ := wind_ok h hB hN h23 hv hv2
  have e4 := beat8 (M := upA M 1 u) (w := u) upA_1 (wr_bok h hB hN (Or.inl h23)) hv hv2
  rw [upA_upA] at e4
  have hb := h.pb
  have hg := hG_b (v := v) (wr_bok h hB hN (Or.inl h23))
  refine ⟨_, A', _, e1, e4, e2, ⟨bw_pl hb, fun h22 _ => e3 h22, ?_, ?_, ?_, ?_, WS.beat hb⟩, e3⟩
  · have := (dD_c (v := v) (N := N) hb (k := 19) (by omega)).1
    have := (dD_c (v := v) (N := N) hb (k := 20) (by omega)).1
    omega
  · rw [bw_c (by omega), bw_c (by omega)]; omega
  · rw [bw_16]; omega
  · intro c hc
    rw [bw_c (by omega)]
    have := (dD_c (v := v) (N := N) hb (k := 519 + c) (by omega)).1
    omega
/-- the row holds winds alone -/
def rowW (M : Ob) (j : Nat) : Prop := ∀ i : Nat, (i : Int) < M 25 j → 0 ≤ M 27 (60 * j + i) ∧ M 27 (60 * j + i) ≤ 39
theorem windAt7 {R M : Ob} {j i : Nat} (hr : RR R M j) (hh : M 25 j ≠ -1) (hi : i < 60) : fX2_windAt R (i : Int) = some (M 27 (60 * j + i)) := by
  unfold fX2_windAt
  rw [gi (by omega) (by omega) (by omega), ix_nat (by omega), (hr.num hh i hi).1]
theorem windOf8 {M : Ob} {j i : Nat} (hj : j < 4) (hi : i < 60) : fX8_windOf M (j : Int) (i : Int) = some (M 27 (60 * j + i)) := by
  unfold fX8_windOf
  rw [gi (by omega) (by omega) (by omega), ix_e (by omega) (by omega), show (60 * (j : Int) + (i : Int)).toNat = 60 * j + i from by omega]
theorem RR.lenB {R M : Ob} {j : Nat} (hr : RR R M j) (hh : M 25 j ≠ -1) : 0 ≤ M 25 j ∧ M 25 j ≤ 60 := by
  rcases hr.has with h | h
  · exact absurd h.2 hh
  · exact h.2
theorem row_lock {P R M : Ob} {j : Nat} (hj : j < 4) (hr : RR R M j) (hh : M 25 j ≠ -1) (hw : rowW M j) : ∀ (m i : Nat) (acc : Int) (A : Ob) (u : Nat → Int) (B : Int), WR P A u B → u 23 = 0 → (i : Int) ≤ M 25 j → M 25 j - i < m → B + (M 25 j - i) ≤ 300000 →
    ∃ r A' u', lX3_playRow_4 P R m acc (i : Int) A = some (acc + r, A') ∧ lX8_days_4 (j : Int) m acc (i : Int) (upA M 1 u) = some (acc + r, upA M 1 u') ∧ WR P A' u' (B + (M 25 j - i)) ∧ SP A u A' u' r := by
  have hl := hr.lenB hh
  intro m
  induction m with
  | zero => intro i acc A u B _ _ h1 h2; omega
  | succ m ih =>
    intro i acc A u B hW h23 h1 h2 h3
    rw [lX3_playRow_4, lX8_days_4, (hr.len hh).1, gi (by omega) (by omega) (by omega), ix_nat (by omega), upA_n (show 25 ≠ 1 by decide)]
    by_cases c : M 25 j ≤ i
    · refine ⟨0, A, u, ?_, ?_, hW.le (by omega), SP.refl A u⟩
      · rw [be_t c (by omega) (by omega), Int.add_zero]
      · rw [be_t c (by omega) (by omega), Int.add_zero]
    · have hv := hw i (by omega)
      obtain ⟨r, A', u', e1, e2, e3, e4, -⟩ := step_ok M hW (by omega) h23 hv.1 hv.2
      obtain ⟨r2, A2, u2, f1, f2, f3, f4⟩ := ih (i + 1) (acc + r) A' u' (B + 1) e3 (by rw [e4.1 23 (by omega)]; exact h23) (by omega) (by omega) (by omega)
      refine ⟨r + r2, A2, u2, ?_, ?_, f3.le (by omega), e4.trans f4⟩
      · rw [be_f (by omega) (by omega) (by omega), windAt7 hr hh (by omega), bd_some, e1, bd_some, nm_e', nm_e', ← Int.add_assoc]
        exact f1
      · rw [be_f (by omega) (by omega) (by omega), windOf8 hj (by omega), bd_some, upA_n (show 27 ≠ 1 by decide), e2, bd_some, nm_e', nm_e', ← Int.add_assoc]
        exact f2
theorem row_ok {P A R M : Ob} {u : Nat → Int} {B : Int} {j : Nat} (hj : j < 4) (hr : RR R M j) (hh : M 25 j ≠ -1) (hw : rowW M j) (hW : WR P A u B) (h23 : u 23 = 0) (hB : B + 60 ≤ 300000) :
    ∃ r A' u', fX3_playRow P A R = some (r, A') ∧ fX8_days (upA M 1 u) (j : Int) = some (r, upA M 1 u') ∧ WR P A' u' (B + 60) ∧ SP A u A' u' r := by
  have hl := hr.lenB hh
  obtain ⟨r, A', u', e1, e2, e3, e4⟩ := row_lock hj hr hh hw FU 0 0 A u B hW h23 (by omega) (by show _ < ((5000 : Nat) : Int); omega) (by omega)
  rw [Int.zero_add] at e1 e2
  exact ⟨r, A', u', e1, e2, e3.le (by omega), e4⟩
theorem dreamRow {T : Nat → Ob} {j : Nat} {kx : (Nat → Ob) → Option (Nat → Ob)} (hj : j < 4) : ∀ (m : Nat) (i acc : Int) (A : Ob) {x : Int} {A' : Ob}, lX3_playRow_4 (T 4) (T (6 + j)) m acc i A = some (x, A') → lX7_dreamDay_9 j kx m i (upO T 5 A) = kx (upO T 5 A') := by
  intro m
  induction m with
  | zero => intro i acc A x A' h; exact absurd h (by rw [lX3_playRow_4]; exact fun q => nomatch q)
  | succ m ih =>
    intro i acc A x A' h
    rw [lX3_playRow_4] at h
    rw [lX7_dreamDay_9, upO_n (show 6 + j ≠ 5 by omega), upO_n (show 4 ≠ 5 by decide), upO_s]
    by_cases c : i32 (T (6 + j) 2 0) ≤ i32 i
    · rw [be_p c] at h ⊢
      rw [show A = A' from congrArg Prod.snd (Option.some.inj h)]
    · rw [be_n c] at h ⊢
      cases hw : fX2_windAt (T (6 + j)) i with
      | none => rw [hw] at h; exact nomatch h
      | some v =>
        rw [hw, bd_some] at h
        rw [bd_some]
        cases hp : fX3_playWind (T 4) A v with
        | none => rw [hp] at h; exact nomatch h
        | some q =>
          rw [hp, bd_some, nm_e', nm_e'] at h
          rw [bd_some, nm_e', nm_e']
          have hu : upO (upO T 5 A) 5 q.2 = upO T 5 q.2 := by
            funext a
            by_cases ha : a = 5
            · subst ha; rw [upO_s, upO_s]
            · rw [upO_n ha, upO_n ha, upO_n ha]
          rw [hu]
          exact ih _ _ _ h
/-- what the lump of beat b adds if it falls as it is -/
noncomputable def efl (u : Nat → Int) (b k : Nat) : Int := if upb u b then sm (fun s => hit (lpl u (lm b) s 0) (u (26 + 2 * s)) k) (u 10).toNat else 0
noncomputable def Fk (u : Nat → Int) (N k : Nat) : Int := u k + sm (fun j => efl u (N - j) k) 32
def SB (u : Nat → Int) (N : Nat) (D : Int) : Prop := bok u N ∧ u 23 = 1 ∧ ∀ b : Nat, inW u b → u 14 < u (lm b) → u (lm b) ≤ (b : Int) + 22 ∧ u (lm b) ≤ D
theorem vE_0 : vE 0 = 0 := rfl
theorem vS_0 : vS 0 = 0 := rfl
theorem dlb_0 {u : Nat → Int} {b k : Nat} (hk : 103 ≤ k) (hk2 : k < 519) : dlb u 0 b k = 0 := by
  unfold dlb
  split
  · refine sm_zero (fun i _ => ?_)
    unfold dlt
    rw [vE_0, vS_0, Int.mul_zero, hit_z (by omega) (by omega) (by omega) hk2]
    repeat' split
    all_goals rfl
  · rfl
theorem sum_rev {e : Nat → Int} {N : Nat} (h0 : e 0 = 0) : sm (fun i => e (fB N + i)) (N + 1 - fB N) = sm (fun j => e (N - j)) 31 := by
  have hf := fB_b N
  rw [sm_rev, sm_congr (g := fun j => e (N - j)) (fun i hi => by show e (fB N + (N + 1 - fB N - 1 - i)) = e (N - i); rw [show fB N + (N + 1 - fB N - 1 - i) = N - i from by omega])]
  by_cases c : N ≤ 31
  · rw [show N + 1 - fB N = N from by unfold fB; rw [if_pos c]; omega]
    refine (sm_ext (by omega) (fun j a b => ?_)).symm
    show e (N - j) = 0
    rw [show N - j = 0 from by omega, h0]
  · rw [show N + 1 - fB N = 31 from by unfold fB; rw [if_neg c]; omega]
theorem not_up0 {u : Nat → Int} : ¬ upb u 0 := fun x => absurd x.1 (by decide)
theorem still_step {u : Nat → Int} {N : Nat} {D : Int} (h : SB u N D) (hN : N < 399999) : SB (bw u 0 N) (N + 1) D ∧ (∀ k, k = 18 ∨ k = 19 ∨ k = 20 ∨ 519 ≤ k → Fk (bw u 0 N) (N + 1) k = Fk u N k) ∧ bw u 0 N 16 = u 16 ∧ Pl (bw u 0 N) u := by
  obtain ⟨hb, h23, hd⟩ := h
  have hpb := hb.1.1; have h14 := hb.2.1; have hdk := hb.1.2.2
  have b10 := hpb.b10
  have hpl : Pl (bw u 0 N) u := bw_pl hpb
  have hg : hG u 0 N = 0 := by unfold hG; rw [if_pos h23]
  have inold : ∀ b : Nat, inW (bw u 0 N) b → b ≠ N + 1 → inW u b ∧ fB N ≤ b ∧ b ≤ N ∧ N < b + 31 := fun b hi hne => by
    have h1 := hi.1; have h2 := hi.2.1; have h3 := hi.2.2
    rw [bw_14] at h2 h3
    exact ⟨⟨h1, by omega, by omega⟩, by unfold fB; split <;> omega, by omega, by omega⟩
  have hlo : ∀ b d : Nat, b ≤ N → N < b + 31 → d < 13 → bw u 0 N (lm b + d) = u (lm b + d) := fun b d h1 h2 h3 => by
    have hl := lm_b b
    rw [bw_lold h1 h2 h3, show dD u 0 N (lm b + d) = 0 from sm_zero (fun i _ => dlb_0 (by omega) (by omega))]; omega
  have hl0 : bw u 0 N (lm (N + 1)) = 0 := by rw [bw_l0, hg, if_pos (by omega)]
  refine ⟨⟨⟨⟨hpl.pb hpb, by rw [bw_14]; omega, ?_⟩, by rw [bw_14]; omega, ?_, by rw [bw_15, hg]; omega, ?_⟩, by rw [hpl 23 (by omega)]; exact h23, ?_⟩, ?_, by rw [bw_16, hg]; omega, hpl⟩
  · intro b hi
    rw [bw_14]
    by_cases c : b = N + 1
    · subst c
      rw [hl0]
      exact ⟨⟨by omega, by omega⟩, fun q => absurd q (by omega)⟩
    · obtain ⟨i1, i2, i3, i4⟩ := inold b hi c
      have x0 := hlo b 0 i3 i4 (by decide)
      rw [Nat.add_zero] at x0
      have x := hdk b i1
      rw [x0]
      refine ⟨x.1, fun hq => ?_⟩
      have lk := x.2 (by omega)
      unfold lok
      rw [hpl 10 (by omega), hlo b 1 i3 i4 (by decide), hlo b 2 i3 i4 (by decide)]
      refine ⟨lk.1, lk.2.1, fun s hs => ?_⟩
      rw [Nat.add_assoc, Nat.add_assoc, hlo b (3 + 2 * s) i3 i4 (by omega), hlo b (4 + 2 * s) i3 i4 (by omega), ← Nat.add_assoc, ← Nat.add_assoc]
      exact lk.2.2 s hs
  · intro b hi
    by_cases c : b = N + 1
    · subst c
      rw [bw_wnew]; omega
    · obtain ⟨i1, i2, i3, i4⟩ := inold b hi c
      rw [bw_wind hpb i3 i4]
      exact hb.2.2.1 b i1
  · rw [hpl 23 (by omega)]; exact Or.inr h23
  · intro b hi hup
    rw [bw_14] at hup
    by_cases c : b = N + 1
    · subst c
      rw [hl0] at hup
      exact absurd hup (by omega)
    · obtain ⟨i1, i2, i3, i4⟩ := inold b hi c
      have x0 := hlo b 0 i3 i4 (by decide)
      rw [Nat.add_zero] at x0
      rw [x0] at hup ⊢
      exact hd b i1 (by omega)
  · intro k hk
    unfold Fk
    rw [bw_c hk, sm_front]
    have e0 : efl (bw u 0 N) (N + 1 - 0) k = 0 := by
      unfold efl
      rw [if_neg]
      intro q
      have := q.2
      rw [bw_14, show N + 1 - 0 = N + 1 from rfl, hl0] at this
      omega
    have e31 : efl u (N - 31) k = 0 := by
      unfold efl
      rw [if_neg]
      intro q
      have q1 := q.1; have q2 := q.2
      have := hd (N - 31) ⟨q1, by omega, by omega⟩ q2
      omega
    rw [e0, show sm (fun j => efl u (N - j) k) 32 = sm (fun j => efl u (N - j) k) 31 + efl u (N - 31) k from rfl, e31]
    have hdD : dD u 0 N k = sm (fun j => dlb u 0 (N - j) k) 31 := by
      unfold dD dla
      exact sum_rev (e := fun b => dlb u 0 b k) (by show dlb u 0 0 k = 0; unfold dlb; rw [if_neg not_up0])
    have hsum : sm (fun j => dlb u 0 (N - j) k) 31 + sm (fun i => efl (bw u 0 N) (N + 1 - (i + 1)) k) 31 = sm (fun j => efl u (N - j) k) 31 := by
      rw [← sm_add]
      refine sm_congr (fun i hi => ?_)
      rw [show N + 1 - (i + 1) = N - i from by omega]
      by_cases cz : N - i = 0
      · rw [cz]
        unfold dlb efl
        rw [if_neg not_up0, if_neg not_up0, if_neg not_up0]; omega
      · have x0 := hlo (N - i) 0 (by omega) (by omega) (by decide)
        rw [Nat.add_zero] at x0
        have hl := lm_b (N - i)
        unfold dlb efl
        by_cases cu : upb u (N - i)
        · have hdl : dls u (lm (N - i)) 0 (u 10).toNat k = if u (lm (N - i)) = u 14 + 1 then sm (fun s => hit (lpl u (lm (N - i)) s 0) (u (26 + 2 * s)) k) (u 10).toNat else 0 := by
            by_cases ce : u (lm (N - i)) = u 14 + 1
            · rw [if_pos ce]
              exact sm_congr (fun s hs => by rw [dlt_c (by omega) (by omega), if_pos ce])
            · rw [if_neg ce]
              exact sm_zero (fun s hs => by rw [dlt_c (by omega) (by omega), if_neg ce])
          rw [if_pos cu, if_pos cu, hdl]
          by_cases ce : u (lm (N - i)) = u 14 + 1
          · rw [if_pos ce, if_neg (by intro q; have := q.2; rw [bw_14, x0] at this; omega)]; omega
          · have cu2 := cu.2
            rw [if_neg ce, if_pos (show upb (bw u 0 N) (N - i) from ⟨by omega, by rw [bw_14, x0]; omega⟩), hpl 10 (by omega), Int.zero_add]
            refine sm_congr (fun s hs => ?_)
            rw [hpl (26 + 2 * s) (by omega)]
            refine congrArg (fun p => hit p (u (26 + 2 * s)) k) ?_
            unfold lpl
            rw [hpl.pc, vE_0, vS_0, Int.mul_zero, Int.mul_zero, hlo (N - i) 1 (by omega) (by omega) (by decide), hlo (N - i) 2 (by omega) (by omega) (by decide), Nat.add_assoc, Nat.add_assoc, hlo (N - i) (3 + 2 * s) (by omega) (by omega) (by omega), hlo (N - i) (4 + 2 * s) (by omega) (by omega) (by omega)]
        · rw [if_neg cu, if_neg cu, if_neg (by intro q; have := q.2; rw [bw_14, x0] at this; exact cu ⟨q.1, by omega⟩)]; omega
    rw [hdD]
    omega
theorem lumps_loop {M : Ob} {u : Nat → Int} {f N : Nat} (hw : dok u) (hN : u 14 = (N : Int)) (hf : 1 ≤ f) (hf2 : N < f + 31) {acc : Int} : ∀ (m j : Nat), f + j ≤ N + 1 → N + 1 - (f + j) < m → lX8_lumpsUp_7 (upA M 1 u) m (acc + sm (fun i => if upb u (f + i) then 1 else 0) j) ((f + j : Nat) : Int) = some (acc + sm (fun i => if upb u (f + i) then 1 else 0) (N + 1 - f)) := by
  have hn := hw.2.1
  intro m
  induction m with
  | zero => intro j _ h; omega
  | succ m ih =>
    intro j h1 h2
    rw [lX8_lumpsUp_7, lit (by decide), show ix 14 = 14 from by decide, upA_1]
    by_cases c : N < f + j
    · rw [bl_t (by omega) (by omega) (by omega), show N + 1 - f = j from by omega]
    · have hr := (hw.2.2 (f + j) ⟨by omega, by omega, by omega⟩).1
      have hs : sm (fun i => if upb u (f + i) then (1 : Int) else 0) (j + 1) = sm (fun i => if upb u (f + i) then 1 else 0) j + (if upb u (f + j) then 1 else 0) := rfl
      have h := ih (j + 1) (by omega) (by omega)
      rw [hs] at h
      rw [bl_f (by omega) (by omega) (by omega), isUp8 (by omega) ⟨by omega, by omega⟩ hr, bd_some, bq_ite]
      by_cases cu : upb u (f + j)
      · rw [if_pos cu, nm_e', nm_e']
        rw [if_pos cu, ← Int.add_assoc] at h
        exact h
      · rw [if_neg cu, nm_e', nm_e']
        rw [if_neg cu, ← Int.add_assoc] at h
        exact h
noncomputable def lumpsN (u : Nat → Int) (N : Nat) : Int := sm (fun i => if upb u (fB N + i) then 1 else 0) (N + 1 - fB N)
theorem lumpsUp8 {M : Ob} {u : Nat → Int} {N : Nat} (hw : dok u) (hN : u 14 = (N : Int)) : fX8_lumpsUp (upA M 1 u) = some (lumpsN u N) := by
  have hn := hw.2.1
  have hf := fB_b N
  unfold fX8_lumpsUp
  rw [firstBeat8 hN (by omega), bd_some]
  have h := lumps_loop (M := M) hw hN hf.1 hf.2.1 (acc := 0) FU 0 (by omega) (by show _ < 5000; omega)
  rw [Int.zero_add, Nat.add_zero, Int.zero_add] at h
  exact h
theorem ind_b {p : Nat → Prop} [DecidablePred p] : ∀ n : Nat, 0 ≤ sm (fun i => if p i then (1 : Int) else 0) n ∧ sm (fun i => if p i then (1 : Int) else 0) n ≤ n
  | 0 => ⟨(by decide : (0 : Int) ≤ 0), (by decide : (0 : Int) ≤ 0)⟩
  | n + 1 => by
    have := ind_b (p := p) n
    rw [sm]
    split <;> omega
theorem ind_0 {p : Nat → Prop} [DecidablePred p] : ∀ n : Nat, sm (fun i => if p i then (1 : Int) else 0) n ≤ 0 → ∀ i, i < n → ¬ p i
  | 0, _, i, hi => absurd hi (by omega)
  | n + 1, h, i, hi => by
    have hb := ind_b (p := p) n
    rw [sm] at h
    by_cases c : p n
    · rw [if_pos c] at h; omega
    · rw [if_neg c] at h
      by_cases ci : i = n
      · subst ci; exact c
      · exact ind_0 n (by omega) i (by omega)
theorem ind_1 {p : Nat → Prop} [DecidablePred p] : ∀ n : Nat, 0 < sm (fun i => if p i then (1 : Int) else 0) n → ∃ i, i < n ∧ p i
  | 0, h => absurd h (by rw [sm]; decide)
  | n + 1, h => by
    rw [sm] at h
    by_cases c : p n
    · exact ⟨n, by omega, c⟩
    · rw [if_neg c] at h
      obtain ⟨i, h1, h2⟩ := ind_1 (p := p) n (by omega)
      exact ⟨i, by omega, h2⟩
theorem still_loop {M : Ob} {a b c d e : Int} {kx : Int → Ob → Option Ob} {D : Int} : ∀ (m N : Nat) (u : Nat → Int) (lx : Int), SB u N D → D + 1 ≤ (N : Int) + m → 1 ≤ m → D ≤ 399990 →
    ∃ u', lX8_goesDown_82 a b c d e kx m lx (upA M 1 u) = kx (lx + (u' 19 + u' 20 - u 19 - u 20)) (upA M 1 u') ∧ (∀ k, k = 18 ∨ k = 19 ∨ k = 20 ∨ 519 ≤ k → u' k = Fk u N k) ∧ u' 16 = u 16 ∧ Pl u' u := by
  intro m
  induction m with
  | zero => intro N u lx _ _ h; omega
  | succ m ih =>
    intro N u lx h h1 h2 h3
    have hb := h.1; have hpb := hb.1.1; have h14 := hb.2.1
    have hf := fB_b N
    have hlb : 0 ≤ lumpsN u N ∧ lumpsN u N ≤ _ := ind_b _
    rw [lX8_goesDown_82, lumpsUp8 hb.1 h14, bd_some]
    by_cases cz : lumpsN u N ≤ 0
    · refine ⟨u, ?_, ?_, rfl, Pl.refl u⟩
      · rw [be_t cz (by omega) (by omega), show lx + (u 19 + u 20 - u 19 - u 20) = lx from by omega]
      · intro k _
        unfold Fk
        rw [sm_zero (fun j hj => ?_), Int.add_zero]
        show efl u (N - j) k = 0
        unfold efl
        rw [if_neg]
        intro q
        have q1 := q.1
        by_cases cj : j = 31
        · have := h.2.2 (N - j) ⟨q1, by omega, by omega⟩ q.2
          omega
        · have hh := ind_0 (p := fun i => upb u (fB N + i)) _ cz (N - j - fB N) (by unfold fB; split <;> omega)
          apply hh
          show upb u (fB N + (N - j - fB N))
          rw [show fB N + (N - j - fB N) = N - j from by unfold fB; split <;> omega]
          exact q
    · obtain ⟨i, hi1, hi2⟩ := ind_1 (p := fun i => upb u (fB N + i)) _ (show 0 < sm (fun i => if upb u (fB N + i) then (1 : Int) else 0) (N + 1 - fB N) from by unfold lumpsN at cz; omega)
      have hi2' : upb u (fB N + i) := hi2
      have hdu := (h.2.2 (fB N + i) ⟨hi2'.1, by omega, by omega⟩ hi2'.2).2
      have hi22 := hi2'.2
      have hst := still_step h (by omega)
      have hbt := beat8 (M := upA M 1 u) (w := u) (v := 0) upA_1 hb (by decide) (by decide)
      rw [upA_upA] at hbt
      obtain ⟨u', e1, e2, e3, e4⟩ := ih (N + 1) (bw u 0 N) (lx + (dD u 0 N 19 + dD u 0 N 20)) hst.1 (by omega) (by omega) h3
      refine ⟨u', ?_, fun k hk => by rw [e2 k hk, hst.2.1 k hk], by rw [e3, hst.2.2.1], e4.trans hst.2.2.2⟩
      rw [be_f (by omega) (by omega) (by omega), hbt, bd_some, nm_e']
      rw [show lx + (u' 19 + u' 20 - u 19 - u 20) = lx + (dD u 0 N 19 + dD u 0 N 20) + (u' 19 + u' 20 - bw u 0 N 19 - bw u 0 N 20) from by rw [bw_c (by omega), bw_c (by omega)]; omega]
      exact e1
/-- the class drops all -/
noncomputable def cAll (A : Ob) (u : Nat → Int) (i k : Nat) : Int := sm (fun r => if 0 < A 9 r then csm A u r (u 10).toNat k else 0) i
theorem dropAll_loop {P A : Ob} {u : Nat → Int} (hb : PB u) (hp : PR P u) (h9 : ∀ i, i < 32 → 0 ≤ A 9 i ∧ A 9 i ≤ 11) (hc : ∀ i, i < 32 → 0 < A 9 i → cok A u i) : ∀ (m i : Nat), i ≤ 32 → 32 - i < m → lX0_dropAll_2 P m (i : Int) (upA (cadd A (fun k => cAll A u i k)) 9 (fun r => if r < i ∧ 0 < A 9 r then 0 else A 9 r)) = some (upA (cadd A (fun k => cAll A u 32 k)) 9 (fun r => if r < 32 ∧ 0 < A 9 r then 0 else A 9 r)) := by
  intro m
  induction m with
  | zero => intro i _ h; omega
  | succ m ih =>
    intro i h1 h2
    rw [lX0_dropAll_2]
    by_cases c : i = 32
    · subst c
      rw [be_t (by omega) (by omega) (by omega)]
    · have h99 := h9 i (by omega)
      rw [be_f (by omega) (by omega) (by omega), gi (by omega) (by omega) (by omega), ix_nat (by omega), upA_s, if_neg (by omega)]
      have hS : ∀ k, cAll A u (i + 1) k = cAll A u i k + (if 0 < A 9 i then csm A u i (u 10).toNat k else 0) := fun k => rfl
      have h := ih (i + 1) (by omega) (by omega)
      by_cases cp : 0 < A 9 i
      · have hcB : cok (upA (cadd A (fun k => cAll A u i k)) 9 (fun r => if r < i ∧ 0 < A 9 r then 0 else A 9 r)) u i := by
          have h := hc i (by omega) cp
          unfold cok
          rw [upA_n (show 10 ≠ 9 by decide), upA_n (show 11 ≠ 9 by decide), upA_n (show 12 ≠ 9 by decide), upA_n (show 13 ≠ 9 by decide), upA_n (show 14 ≠ 9 by decide), upA_n (show 15 ≠ 9 by decide), cadd_n (by decide) (by decide) (by decide) (by decide), cadd_n (by decide) (by decide) (by decide) (by decide), cadd_n (by decide) (by decide) (by decide) (by decide), cadd_n (by decide) (by decide) (by decide) (by decide), cadd_n (by decide) (by decide) (by decide) (by decide), cadd_n (by decide) (by decide) (by decide) (by decide)]
          exact h
        rw [be_f (by omega) (by omega) (by omega), dropLump7 hb hp (by omega) hcB, bd_some, nm_e', cadd_upA, up2_upAk, cadd_cadd]
        rw [show (fun k => cAll A u (i + 1) k) = (fun k => cAll A u i k + csm (upA (cadd A (fun k => cAll A u i k)) 9 (fun r => if r < i ∧ 0 < A 9 r then 0 else A 9 r)) u i (u 10).toNat k) from by
          funext k
          rw [hS k, if_pos cp]
          refine congrArg (cAll A u i k + ·) ?_
          unfold csm cpp
          rw [upA_n (show 10 ≠ 9 by decide), upA_n (show 11 ≠ 9 by decide), upA_n (show 12 ≠ 9 by decide), upA_n (show 13 ≠ 9 by decide), upA_n (show 14 ≠ 9 by decide), upA_n (show 15 ≠ 9 by decide), cadd_n (by decide) (by decide) (by decide) (by decide), cadd_n (by decide) (by decide) (by decide) (by decide), cadd_n (by decide) (by decide) (by decide) (by decide), cadd_n (by decide) (by decide) (by decide) (by decide), cadd_n (by decide) (by decide) (by decide) (by decide), cadd_n (by decide) (by decide) (by decide) (by decide)],
          show (fun r => if r < i + 1 ∧ 0 < A 9 r then 0 else A 9 r) = up1 (fun r => if r < i ∧ 0 < A 9 r then 0 else A 9 r) i 0 from by
          funext r
          by_cases cr : r = i
          · subst cr; rw [up1_s, if_pos ⟨by omega, cp⟩]
          · rw [up1_n cr]
            by_cases cr2 : r < i ∧ 0 < A 9 r
            · rw [if_pos cr2, if_pos ⟨by omega, cr2.2⟩]
            · rw [if_neg cr2, if_neg (fun q => cr2 ⟨by omega, q.2⟩)]] at h
        exact h
      · rw [be_t (by omega) (by omega) (by omega), nm_e']
        rw [show (fun k => cAll A u (i + 1) k) = (fun k => cAll A u i k) from by
          funext k
          rw [hS k, if_neg cp, Int.add_zero],
          show (fun r => if r < i + 1 ∧ 0 < A 9 r then 0 else A 9 r) = (fun r => if r < i ∧ 0 < A 9 r then 0 else A 9 r) from by
          funext r
          by_cases cr : r = i
          · subst cr; rw [if_neg (fun q => cp q.2), if_neg (fun q => cp q.2)]
          · by_cases cr2 : r < i ∧ 0 < A 9 r
            · rw [if_pos cr2, if_pos ⟨by omega, cr2.2⟩]
            · rw [if_neg cr2, if_neg (fun q => cr2 ⟨by omega, q.2⟩)]] at h
        exact h
theorem dropAll7 {P A : Ob} {u : Nat → Int} (hb : PB u) (hp : PR P u) (h9 : ∀ i, i < 32 → 0 ≤ A 9 i ∧ A 9 i ≤ 11) (hc : ∀ i, i < 32 → 0 < A 9 i → cok A u i) : ∃ z, fX0_dropAll A P = some (upA (cadd A (fun k => cAll A u 32 k)) 9 z) := by
  have h := dropAll_loop hb hp h9 hc FU 0 (by decide) (by show _ < 5000; decide)
  rw [show (upA (cadd A (fun k => cAll A u 0 k)) 9 (fun r => if r < 0 ∧ 0 < A 9 r then 0 else A 9 r)) = A from by
    rw [show cadd A (fun k => cAll A u 0 k) = A from cadd_0 (fun k => rfl), show (fun r => if r < 0 ∧ 0 < A 9 r then 0 else A 9 r) = A 9 from by funext r; rw [if_neg (by omega)], upA_self]] at h
  exact ⟨_, h⟩
theorem rot1 {G : Nat → Int} : ∀ c : Nat, sm (fun j => G ((c + 31 - j) % 32)) 32 = sm G 32
  | 0 => by
    rw [sm_rev]
    exact sm_congr (fun i hi => by show G ((0 + 31 - (32 - 1 - i)) % 32) = G i; rw [show (0 + 31 - (32 - 1 - i)) % 32 = i from by omega])
  | c + 1 => by
    have h := rot1 (G := G) c
    rw [show sm (fun j => G ((c + 31 - j) % 32)) 32 = sm (fun j => G ((c + 31 - j) % 32)) 31 + G ((c + 31 - 31) % 32) from rfl] at h
    rw [← h, sm_front]
    rw [sm_congr (f := fun i => G ((c + 1 + 31 - (i + 1)) % 32)) (g := fun j => G ((c + 31 - j) % 32)) (fun i hi => by show G ((c + 1 + 31 - (i + 1)) % 32) = G ((c + 31 - i) % 32); rw [show (c + 1 + 31 - (i + 1)) % 32 = (c + 31 - i) % 32 from by omega])]
    rw [show (c + 1 + 31 - 0) % 32 = (c + 31 - 31) % 32 from by omega]
    omega
theorem drop_eq {P A : Ob} {u : Nat → Int} {B : Int} {N k : Nat} (h : WR P A u B) (hN : u 14 = (N : Int)) : sm (fun j => efl u (N - j) k) 32 = cAll A u 32 k := by
  have hb := h.pb; have har := h.ar
  have b10 := hb.b10
  unfold cAll
  rw [← rot1 (G := fun r => if 0 < A 9 r then csm A u r (u 10).toNat k else 0) N]
  refine sm_congr (fun j hj => ?_)
  show efl u (N - j) k = if 0 < A 9 ((N + 31 - j) % 32) then csm A u ((N + 31 - j) % 32) (u 10).toNat k else 0
  unfold efl
  by_cases c : j < N
  · have hi : inW u (N - j) := ⟨by omega, by omega, by omega⟩
    have hr : (N + 31 - j) % 32 = rg (N - j) := by unfold rg; omega
    rw [hr]
    have hu := ar_up h.ab har hi
    by_cases cu : 0 < A 9 (rg (N - j))
    · rw [if_pos (hu.mpr cu), if_pos cu]
      refine sm_congr (fun s hs => ?_)
      have hup := har.up (N - j) hi cu
      have hd := har.drift (N - j) hi cu s (by omega)
      refine congrArg (fun p => hit p (u (26 + 2 * s)) k) ?_
      unfold lpl cpp
      rw [vE_0, vS_0, Int.mul_zero, hup.2.2.1, hup.2.2.2.1, hd.1, hd.2]
    · rw [if_neg (fun q => cu (hu.mp q)), if_neg cu]
  · rw [show N - j = 0 from by omega, if_neg not_up0, har.free ((N + 31 - j) % 32) (by omega) (by omega), if_neg (by omega)]
