/-! LAYER 2: a beat of the model -/
def vE (v : Int) : Int := v % 10 * wayX (v / 10).toNat
def vS (v : Int) : Int := v % 10 * wayY (v / 10).toNat
/-- what a share of drops at a place adds to the number at k -/
def hit (p sh : Int) (k : Nat) : Int := if p = -3 then (if k = 18 then sh else 0) else if p = -1 then (if k = 19 then sh else 0) else if k = 20 ∨ k = 519 + (30 * (p / 100) + p % 100).toNat then sh else 0
theorem hit_z {p sh : Int} {k : Nat} (h1 : k ≠ 18) (h2 : k ≠ 19) (h3 : k ≠ 20) (h4 : k < 519) : hit p sh k = 0 := by
  unfold hit
  rw [if_neg h1, if_neg h2, if_neg (show ¬ (k = 20 ∨ k = 519 + (30 * (p / 100) + p % 100).toNat) by omega)]
  split
  · rfl
  · split <;> rfl
theorem hit_all {p sh : Int} : hit p sh 18 + hit p sh 19 + hit p sh 20 = sh := by
  unfold hit
  by_cases h : p = -3
  · simp only [if_pos h]; simp
  · simp only [if_neg h]
    by_cases h2 : p = -1
    · simp only [if_pos h2]; simp
    · simp only [if_neg h2]
      rw [if_neg (by omega), if_neg (by omega), if_pos (Or.inl trivial)]
      omega
theorem hit_nn {p sh : Int} {k : Nat} (h : 0 ≤ sh) : 0 ≤ hit p sh k ∧ hit p sh k ≤ sh := by
  unfold hit
  repeat' split
  all_goals omega
theorem hit_le {p sh : Int} {k : Nat} (h : 0 ≤ sh) (hk : 519 ≤ k) : hit p sh k ≤ hit p sh 20 := by
  unfold hit
  by_cases c : p = -3
  · rw [if_pos c, if_pos c, if_neg (by omega), if_neg (by omega)]; omega
  · rw [if_neg c, if_neg c]
    by_cases c2 : p = -1
    · rw [if_pos c2, if_pos c2, if_neg (by omega), if_neg (by omega)]; omega
    · rw [if_neg c2, if_neg c2, if_pos (show (20 : Nat) = 20 ∨ _ from Or.inl rfl)]
      split <;> omega
theorem sm_zero {f : Nat → Int} : ∀ {n : Nat}, (∀ i, i < n → f i = 0) → sm f n = 0
  | 0, _ => rfl
  | n + 1, h => by rw [sm, sm_zero (fun i hi => h i (by omega)), h n (by omega)]; rfl
theorem sm_congr {f g : Nat → Int} : ∀ {n : Nat}, (∀ i, i < n → f i = g i) → sm f n = sm g n
  | 0, _ => rfl
  | n + 1, h => by rw [sm, sm, sm_congr (fun i hi => h i (by omega)), h n (by omega)]
theorem sm_add {f g : Nat → Int} : ∀ {n : Nat}, sm (fun i => f i + g i) n = sm f n + sm g n
  | 0 => rfl
  | n + 1 => by rw [sm, sm, sm, sm_add]; omega
theorem sm_one {f : Nat → Int} {j : Nat} : ∀ {n : Nat}, j < n → (∀ i, i < n → i ≠ j → f i = 0) → sm f n = f j
  | 0, h, _ => absurd h (by omega)
  | n + 1, h, hz => by
    rw [sm]
    by_cases c : j = n
    · subst c
      rw [sm_zero (fun i hi => hz i (by omega) (by omega))]; omega
    · rw [sm_one (by omega) (fun i hi hn => hz i (by omega) hn), hz n (by omega) (by omega)]; omega
theorem sm_nn {f : Nat → Int} : ∀ {n : Nat}, (∀ i, i < n → 0 ≤ f i) → 0 ≤ sm f n
  | 0, _ => by rw [sm]; omega
  | n + 1, h => by
    have h1 := sm_nn (n := n) (fun i hi => h i (by omega))
    have h2 := h n (by omega)
    rw [sm]; omega
theorem sm_le {f g : Nat → Int} : ∀ {n : Nat}, (∀ i, i < n → f i ≤ g i) → sm f n ≤ sm g n
  | 0, _ => by rw [sm, sm]; omega
  | n + 1, h => by
    have h1 := sm_le (n := n) (fun i hi => h i (by omega))
    have h2 := h n (by omega)
    rw [sm, sm]; omega
theorem sm_front {f : Nat → Int} : ∀ {n : Nat}, sm f (n + 1) = f 0 + sm (fun i => f (i + 1)) n
  | 0 => by rw [sm, sm, sm]; omega
  | n + 1 => by rw [sm, sm_front (n := n), sm]; omega
theorem sm_rev {f : Nat → Int} : ∀ {n : Nat}, sm f n = sm (fun i => f (n - 1 - i)) n
  | 0 => rfl
  | n + 1 => by
    rw [sm, sm_front, sm_rev (n := n)]
    rw [show f (n + 1 - 1 - 0) = f n from by rw [show n + 1 - 1 - 0 = n from by omega]]
    rw [sm_congr (f := fun i => f (n - 1 - i)) (g := fun i => f (n + 1 - 1 - (i + 1))) (fun i hi => by rw [show n - 1 - i = n + 1 - 1 - (i + 1) from by omega])]
    omega
/-- plans alike -/
def Pl (u w : Nat → Int) : Prop := ∀ k, k < 13 ∨ (22 ≤ k ∧ k < 71) → u k = w k
theorem Pl.pb {u w : Nat → Int} (h : Pl u w) (hb : PB w) : PB u := by
  have e0 := h 0 (by omega); have e1 := h 1 (by omega); have e2 := h 2 (by omega); have e3 := h 3 (by omega); have e4 := h 4 (by omega)
  have e5 := h 5 (by omega); have e6 := h 6 (by omega); have e7 := h 7 (by omega); have e8 := h 8 (by omega); have e9 := h 9 (by omega)
  have e10 := h 10 (by omega); have e11 := h 11 (by omega); have e12 := h 12 (by omega); have e22 := h 22 (by omega)
  have b10 := hb.b10; have b11 := hb.b11; have b12 := hb.b12
  unfold PB
  rw [e0, e1, e2, e3, e4, e5, e6, e7, e8, e9, e10, e11, e12, e22]
  refine ⟨hb.b0, hb.b1, hb.b2, hb.b3, hb.b4, hb.b5, hb.b6, hb.b7, hb.b8, hb.b9, hb.b10, hb.b11, hb.b12, hb.b22, hb.sq, hb.none, hb.some, hb.road, ?_, ?_, ?_⟩
  · intro s hs
    rw [h (25 + 2 * s) (by omega), h (26 + 2 * s) (by omega)]
    exact hb.size s hs
  · intro k hk
    rw [h (35 + 3 * k) (by omega), h (36 + 3 * k) (by omega), h (37 + 3 * k) (by omega)]
    exact hb.tab k hk
  · intro k hk
    rw [h (59 + 2 * k) (by omega), h (60 + 2 * k) (by omega)]
    exact hb.rule k hk
theorem Pl.lr {u w : Nat → Int} (h : Pl u w) {st : Int} : ∀ k : Nat, k ≤ 6 → letsR u st k = letsR w st k
  | 0, _ => rfl
  | k + 1, hk => by rw [letsR, letsR, h (59 + 2 * k) (by omega), h (60 + 2 * k) (by omega), Pl.lr h k (by omega)]
theorem Pl.pr {P : Ob} {u w : Nat → Int} (h : Pl u w) (hb : PB w) (hp : PR P w) : PR P u := by
  have e0 := h 0 (by omega); have e1 := h 1 (by omega); have e2 := h 2 (by omega); have e3 := h 3 (by omega); have e4 := h 4 (by omega)
  have e5 := h 5 (by omega); have e6 := h 6 (by omega); have e7 := h 7 (by omega); have e8 := h 8 (by omega); have e9 := h 9 (by omega)
  have e10 := h 10 (by omega); have e11 := h 11 (by omega); have e12 := h 12 (by omega); have e22 := h 22 (by omega)
  have b10 := hb.b10; have b11 := hb.b11; have b12 := hb.b12
  unfold PR
  rw [e0, e1, e2, e3, e4, e5, e6, e7, e8, e9, e10, e11, e12, e22]
  refine ⟨hp.p0, hp.p1, hp.p2, hp.p3, hp.p4, hp.p5, hp.p6, hp.p7, hp.p8, hp.p9, hp.p10, hp.p11, hp.p14, hp.p18, ?_, ?_, ?_⟩
  · intro s hs
    rw [h (25 + 2 * s) (by omega), h (26 + 2 * s) (by omega)]
    exact hp.size s hs
  · intro k hk
    rw [h (35 + 3 * k) (by omega), h (36 + 3 * k) (by omega), h (37 + 3 * k) (by omega)]
    exact hp.tab k hk
  · intro s hs
    rw [h.lr _ (by omega)]
    exact hp.lets s hs
theorem Pl.pc {u w : Nat → Int} (h : Pl u w) {x z : Int} : plc u x z = plc w x z := by
  unfold plc inB
  rw [h 1 (by omega), h 2 (by omega), h 3 (by omega), h 4 (by omega), h 5 (by omega)]
theorem Pl.sh {u w : Nat → Int} (h : Pl u w) (hb : PB w) : shS u = shS w := by
  have b10 := hb.b10
  unfold shS
  rw [h 10 (by omega)]
  exact sm_congr (fun i hi => h (26 + 2 * i) (by omega))
theorem Pl.refl (w : Nat → Int) : Pl w w := fun _ _ => rfl
theorem Pl.trans {u v w : Nat → Int} (h1 : Pl u v) (h2 : Pl v w) : Pl u w := fun k hk => (h1 k hk).trans (h2 k hk)
theorem upA_1 {M : Ob} {u : Nat → Int} : upA M 1 u 1 = u := rfl
theorem up2_upA {M : Ob} {u : Nat → Int} {k : Nat} {x : Int} : up2 (upA M 1 u) 1 k x = upA M 1 (up1 u k x) := by
  funext a
  by_cases h : a = 1
  · subst h; rfl
  · rw [up2_n h, upA_n h, upA_n h]
theorem upA_upA {M : Ob} {u u2 : Nat → Int} {k : Nat} : upA (upA M k u) k u2 = upA M k u2 := by
  funext a
  by_cases h : a = k
  · subst h; rw [upA_s, upA_s]
  · rw [upA_n h, upA_n h, upA_n h]
theorem upA_self {M : Ob} {k : Nat} : upA M k (M k) = M := by
  funext a
  by_cases h : a = k
  · subst h; rw [upA_s]
  · rw [upA_n h]
theorem tdiv_b {d : Int} (h1 : -60000 ≤ d) (h2 : d ≤ 60000) : -600 ≤ d.tdiv 100 ∧ d.tdiv 100 ≤ 600 := by
  rcases Int.le_total 0 d with h | h
  · rw [Int.tdiv_eq_ediv_of_nonneg h]; omega
  · obtain ⟨c, rfl⟩ : ∃ c, d = -c := ⟨-d, by omega⟩
    rw [Int.neg_tdiv, Int.tdiv_eq_ediv_of_nonneg (by omega)]; omega
theorem vE_b {v : Int} (h0 : 0 ≤ v) (h1 : v ≤ 39) : -9 ≤ vE v ∧ vE v ≤ 9 := by
  unfold vE
  rcases (way_all (v / 10).toNat (by omega)).1 with e | e | e <;> rw [e] <;> omega
theorem vS_b {v : Int} (h0 : 0 ≤ v) (h1 : v ≤ 39) : -9 ≤ vS v ∧ vS v ≤ 9 := by
  unfold vS
  rcases (way_all (v / 10).toNat (by omega)).2 with e | e | e <;> rw [e] <;> omega
theorem mul_b {d e : Int} (hd : 0 ≤ d) (hd2 : d ≤ 99) (he : -9 ≤ e) (he2 : e ≤ 9) : -891 ≤ d * e ∧ d * e ≤ 891 := by
  have h1 : d * e ≤ d * 9 := Int.mul_le_mul_of_nonneg_left he2 hd
  have h2 : d * (-9) ≤ d * e := Int.mul_le_mul_of_nonneg_left he hd
  omega
theorem eastBy8 {v : Int} (hv : 0 ≤ v) (hv2 : v ≤ 39) : fX8_eastBy v = some (vE v) := by
  unfold fX8_eastBy vE
  rw [jdv_n hv (by omega) (by decide) (by decide), jrm_n hv (by omega) (by decide) (by decide)]
  rcases (show v / 10 = 0 ∨ v / 10 = 1 ∨ v / 10 = 2 ∨ v / 10 = 3 by omega) with e | e | e | e <;> rw [e]
  · rw [bq_f (by decide) (by decide) (by decide) (by decide) (by decide), bq_f (by decide) (by decide) (by decide) (by decide) (by decide), show wayX (0 : Int).toNat = 0 from rfl, Int.mul_zero]
  · rw [bq_t rfl, show wayX (1 : Int).toNat = 1 from rfl, Int.mul_one]
  · rw [bq_f (by decide) (by decide) (by decide) (by decide) (by decide), bq_f (by decide) (by decide) (by decide) (by decide) (by decide), show wayX (2 : Int).toNat = 0 from rfl, Int.mul_zero]
  · rw [bq_f (by decide) (by decide) (by decide) (by decide) (by decide), bq_t rfl, show wayX (3 : Int).toNat = -1 from rfl, show v % 10 * (-1) = -(v % 10) from by omega]
theorem southBy8 {v : Int} (hv : 0 ≤ v) (hv2 : v ≤ 39) : fX8_southBy v = some (vS v) := by
  unfold fX8_southBy vS
  rw [jdv_n hv (by omega) (by decide) (by decide), jrm_n hv (by omega) (by decide) (by decide)]
  rcases (show v / 10 = 0 ∨ v / 10 = 1 ∨ v / 10 = 2 ∨ v / 10 = 3 by omega) with e | e | e | e <;> rw [e]
  · rw [bq_f (by decide) (by decide) (by decide) (by decide) (by decide), bq_t rfl, show wayY (0 : Int).toNat = -1 from rfl, show v % 10 * (-1) = -(v % 10) from by omega]
  · rw [bq_f (by decide) (by decide) (by decide) (by decide) (by decide), bq_f (by decide) (by decide) (by decide) (by decide) (by decide), show wayY (1 : Int).toNat = 0 from rfl, Int.mul_zero]
  · rw [bq_t rfl, show wayY (2 : Int).toNat = 1 from rfl, Int.mul_one]
  · rw [bq_f (by decide) (by decide) (by decide) (by decide) (by decide), bq_f (by decide) (by decide) (by decide) (by decide) (by decide), show wayY (3 : Int).toNat = 0 from rfl, Int.mul_zero]
/-- a lump's share lands -/
theorem lands8 {M : Ob} {u : Nat → Int} {l s : Nat} (hb : PB u) (hl : 103 ≤ l) (hl2 : l + 13 ≤ 519) (hs : (s : Int) < u 10)
    (hx : 0 ≤ u (l + 1) ∧ u (l + 1) ≤ 29) (hz : 0 ≤ u (l + 2) ∧ u (l + 2) ≤ 29) (hdx : -30000 ≤ u (l + 3 + 2 * s) ∧ u (l + 3 + 2 * s) ≤ 30000) (hdz : -30000 ≤ u (l + 4 + 2 * s) ∧ u (l + 4 + 2 * s) ≤ 30000)
    {p : Int} (hp : p = plc u (u (l + 1) + (u (l + 3 + 2 * s)).tdiv 100) (u (l + 2) + (u (l + 4 + 2 * s)).tdiv 100)) :
    fX8_lands (upA M 1 u) (l : Int) (s : Int) = some (hit p (u (26 + 2 * s)) 19 + hit p (u (26 + 2 * s)) 20, upA M 1 (fun k => u k + hit p (u (26 + 2 * s)) k)) := by
  have b10 := hb.b10; have b1 := hb.b1; have b2 := hb.b2
  have d1 := tdiv_b (d := u (l + 3 + 2 * s)) (by omega) (by omega)
  have d2 := tdiv_b (d := u (l + 4 + 2 * s)) (by omega) (by omega)
  have hbM : PB ((upA M 1 u) 1) := hb
  unfold fX8_lands
  rw [gi (by omega) (by omega) (by omega), gi (by omega) (by omega) (by omega), ix_e (by omega) (by omega), ix_e (by omega) (by omega), upA_1, show ((l : Int) + 1).toNat = l + 1 from by omega, show ((l : Int) + 3 + 2 * (s : Int)).toNat = l + 3 + 2 * s from by omega, jdv_e (by omega) (by omega) (by decide) (by decide), nm_e', gi (by omega) (by omega) (by omega), gi (by omega) (by omega) (by omega), ix_e (by omega) (by omega), ix_e (by omega) (by omega), show ((l : Int) + 2).toNat = l + 2 from by omega, show ((l : Int) + 4 + 2 * (s : Int)).toNat = l + 4 + 2 * s from by omega, jdv_e (by omega) (by omega) (by decide) (by decide), nm_e', share8 (by omega), bd_some, upA_1]
  generalize hX : u (l + 1) + (u (l + 3 + 2 * s)).tdiv 100 = X at *
  generalize hZ : u (l + 2) + (u (l + 4 + 2 * s)).tdiv 100 = Z at *
  rw [basin8 hbM (by omega) (by omega) (by omega) (by omega), bd_some, upA_1]
  by_cases c : inB u X Z
  · rw [plc_b c] at hp
    subst hp
    rw [if_pos c, bq_f (by decide) (by decide) (by decide) (by decide) (by decide), lit (by decide), lit (by decide), nm_e', show ix 18 = 18 from by decide, up2_upA]
    refine congrArg some (Prod.ext ?_ (congrArg (upA M 1) ?_))
    · rfl
    · funext k
      by_cases hk : k = 18
      · subst hk; rw [up1_s]; rfl
      · rw [up1_n hk]
        show u k = u k + (if k = 18 then _ else 0)
        rw [if_neg hk]; omega
  · rw [plc_n c] at hp
    rw [if_neg c, bq_t rfl, isCell8 hbM ⟨by omega, by omega⟩ ⟨by omega, by omega⟩, bd_some, bq_ite, upA_1]
    by_cases c2 : (0 ≤ X ∧ X < u 1) ∧ 0 ≤ Z ∧ Z < u 2
    · rw [if_pos c2] at hp
      have hi : (519 + 30 * Z + X).toNat = 519 + (30 * (p / 100) + p % 100).toNat := by subst hp; omega
      rw [if_pos c2, gi (by omega) (by omega) (by omega), gi (by omega) (by omega) (by omega), nm_e', lit (by decide), lit (by decide), nm_e', show ix 20 = 20 from by decide, ix_e (by omega) (by omega), up2_upA, up2_upA, upA_1, hi]
      have h20 : hit p (u (26 + 2 * s)) 20 = u (26 + 2 * s) := by
        unfold hit
        rw [if_neg (by omega), if_neg (by omega), if_pos (Or.inl rfl)]
      have h19 : hit p (u (26 + 2 * s)) 19 = 0 := by
        unfold hit
        rw [if_neg (by omega), if_neg (by omega), if_neg (by omega)]
      refine congrArg some (Prod.ext ?_ (congrArg (upA M 1) ?_))
      · show u (26 + 2 * s) = _
        rw [h19, h20]; omega
      · funext k
        generalize hC : 519 + (30 * (p / 100) + p % 100).toNat = C at *
        by_cases hk : k = 20
        · subst hk; rw [up1_s, up1_n (by omega), h20]
        · rw [up1_n hk]
          by_cases hk2 : k = C
          · subst hk2
            rw [up1_s]
            unfold hit
            rw [hC, if_neg (by omega), if_neg (by omega), if_pos (Or.inr rfl)]
          · rw [up1_n hk2]
            unfold hit
            rw [hC, if_neg (by omega), if_neg (by omega), if_neg (by omega)]; omega
    · rw [if_neg c2] at hp
      subst hp
      rw [if_neg c2, lit (by decide), lit (by decide), nm_e', show ix 19 = 19 from by decide, up2_upA]
      refine congrArg some (Prod.ext ?_ (congrArg (upA M 1) ?_))
      · show _ = u (26 + 2 * s) + 0
        omega
      · funext k
        by_cases hk : k = 19
        · subst hk; rw [up1_s]; rfl
        · rw [up1_n hk]
          show u k = u k + (if k = 19 then _ else 0)
          rw [if_neg hk]; omega
