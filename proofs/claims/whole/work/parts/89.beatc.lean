/-! LAYER 2: a beat of the class -/
def cadd (A : Ob) (d : Nat → Int) : Ob := fun j i => if j = 4 ∧ i = 0 then A 4 0 + d 18 else if j = 5 ∧ i = 0 then A 5 0 + d 19 else if j = 6 ∧ i = 0 then A 6 0 + d 20 else if j = 16 then A 16 i + d (519 + i) else A j i
theorem cadd_4 {A : Ob} {d : Nat → Int} : cadd A d 4 0 = A 4 0 + d 18 := rfl
theorem cadd_5 {A : Ob} {d : Nat → Int} : cadd A d 5 0 = A 5 0 + d 19 := rfl
theorem cadd_6 {A : Ob} {d : Nat → Int} : cadd A d 6 0 = A 6 0 + d 20 := rfl
theorem cadd_16 {A : Ob} {d : Nat → Int} {i : Nat} : cadd A d 16 i = A 16 i + d (519 + i) := rfl
theorem cadd_n {A : Ob} {d : Nat → Int} {j : Nat} (h4 : j ≠ 4) (h5 : j ≠ 5) (h6 : j ≠ 6) (h16 : j ≠ 16) : cadd A d j = A j := by
  funext i
  unfold cadd
  rw [if_neg (fun c => h4 c.1), if_neg (fun c => h5 c.1), if_neg (fun c => h6 c.1), if_neg h16]
theorem cadd_0 {A : Ob} {d : Nat → Int} (h : ∀ k, d k = 0) : cadd A d = A := by
  funext j i
  unfold cadd
  rw [h, h, h, h]
  by_cases c4 : j = 4 ∧ i = 0
  · rw [if_pos c4, c4.1, c4.2]; omega
  rw [if_neg c4]
  by_cases c5 : j = 5 ∧ i = 0
  · rw [if_pos c5, c5.1, c5.2]; omega
  rw [if_neg c5]
  by_cases c6 : j = 6 ∧ i = 0
  · rw [if_pos c6, c6.1, c6.2]; omega
  rw [if_neg c6]
  by_cases c16 : j = 16
  · rw [if_pos c16, c16]; omega
  rw [if_neg c16]
theorem cadd_cadd {A : Ob} {d e : Nat → Int} : cadd (cadd A d) e = cadd A (fun k => d k + e k) := by
  funext j i
  by_cases c4 : j = 4 ∧ i = 0
  · obtain ⟨rfl, rfl⟩ := c4
    rw [cadd_4, cadd_4, cadd_4]; omega
  by_cases c5 : j = 5 ∧ i = 0
  · obtain ⟨rfl, rfl⟩ := c5
    rw [cadd_5, cadd_5, cadd_5]; omega
  by_cases c6 : j = 6 ∧ i = 0
  · obtain ⟨rfl, rfl⟩ := c6
    rw [cadd_6, cadd_6, cadd_6]; omega
  by_cases c16 : j = 16
  · subst c16
    rw [cadd_16, cadd_16, cadd_16]; omega
  unfold cadd
  rw [if_neg c4, if_neg c5, if_neg c6, if_neg c16, if_neg c4, if_neg c5, if_neg c6, if_neg c16, if_neg c4, if_neg c5, if_neg c6, if_neg c16]
theorem cadd_upA {A : Ob} {d z : Nat → Int} : cadd (upA A 9 z) d = upA (cadd A d) 9 z := by
  funext j i
  by_cases c9 : j = 9
  · subst c9
    rw [cadd_n (by decide) (by decide) (by decide) (by decide), upA_s, upA_s]
  · rw [upA_n c9]
    unfold cadd
    rw [upA_n (show 4 ≠ 9 by decide), upA_n (show 5 ≠ 9 by decide), upA_n (show 6 ≠ 9 by decide), upA_n (show 16 ≠ 9 by decide), upA_n c9]
theorem up2_upAk {M : Ob} {u : Nat → Int} {k i : Nat} {x : Int} : up2 (upA M k u) k i x = upA M k (up1 u i x) := by
  funext a
  by_cases h : a = k
  · subst h; rw [up2_s, upA_s, upA_s]
  · rw [up2_n h, upA_n h, upA_n h]
/-- where the class's lump at i lets its s-th drops fall -/
noncomputable def cpp (A : Ob) (w : Nat → Int) (i s : Nat) (ex ez : Int) : Int := plc w (A 10 i + (A 12 s - A 14 (5 * i + s) + w (25 + 2 * s) * ex).tdiv 100) (A 11 i + (A 13 s - A 15 (5 * i + s) + w (25 + 2 * s) * ez).tdiv 100)
def cok (A : Ob) (w : Nat → Int) (i : Nat) : Prop := (0 ≤ A 10 i ∧ A 10 i ≤ 29) ∧ (0 ≤ A 11 i ∧ A 11 i ≤ 29) ∧ ∀ s : Nat, (s : Int) < w 10 → (-29000 ≤ A 12 s - A 14 (5 * i + s) ∧ A 12 s - A 14 (5 * i + s) ≤ 29000) ∧ -29000 ≤ A 13 s - A 15 (5 * i + s) ∧ A 13 s - A 15 (5 * i + s) ≤ 29000
theorem placeIn7 {P A : Ob} {w : Nat → Int} {i s : Nat} {ex ez : Int} (hb : PB w) (hp : PR P w) (hi : i < 32) (hs : (s : Int) < w 10) (hc : cok A w i) (he : -30000 ≤ w (25 + 2 * s) * ex ∧ w (25 + 2 * s) * ex ≤ 30000) (hz : -30000 ≤ w (25 + 2 * s) * ez ∧ w (25 + 2 * s) * ez ≤ 30000) : fX0_placeIn A P (i : Int) (s : Int) ex ez = some (cpp A w i s ex ez) := by
  have b10 := hb.b10
  have e := (hp.size s hs).1
  have c1 := hc.1; have c2 := hc.2.1; have c3 := (hc.2.2 s hs).1; have c4 := (hc.2.2 s hs).2
  have i5 : ix ((i : Int) * 5 + (s : Int)) = 5 * i + s := by rw [ix_e (by omega) (by omega)]; omega
  unfold fX0_placeIn
  rw [nm_e', gi (by omega) (by omega) (by omega), gi (by omega) (by omega) (by omega), gi (by omega) (by omega) (by omega), nm_e', gi (by omega) (by omega) (by omega), gi (by omega) (by omega) (by omega), gi (by omega) (by omega) (by omega), nm_e', gi (by omega) (by omega) (by omega), gi (by omega) (by omega) (by omega), i5, ix_nat (by omega), ix_nat (by omega), e, jdv_e (by omega) (by omega) (by decide) (by decide), jdv_e (by omega) (by omega) (by decide) (by decide)]
  have d1 := tdiv_b (d := A 12 s - A 14 (5 * i + s) + w (25 + 2 * s) * ex) (by omega) (by omega)
  have d2 := tdiv_b (d := A 13 s - A 15 (5 * i + s) + w (25 + 2 * s) * ez) (by omega) (by omega)
  rw [basin7 hp hb (by omega) (by omega) (by omega) (by omega)]
  rfl
theorem plc_ok {w : Nat → Int} {x z : Int} (hb : PB w) : plc w x z = -3 ∨ plc w x z = -1 ∨ (0 ≤ plc w x z ∧ plc w x z / 100 < 30 ∧ plc w x z % 100 < 30) := by
  have b1 := hb.b1; have b2 := hb.b2
  by_cases c : inB w x z
  · exact Or.inl (plc_b c)
  · rw [plc_n c]
    split
    · right; right; omega
    · right; left; rfl
theorem drop_body {P A : Ob} {w : Nat → Int} {i s m : Nat} {p : Int} {kx : Ob → Option Ob} (hb : PB w) (hp : PR P w) (hs : (s : Int) < w 10) (hpl : fX0_placeIn A P (i : Int) (s : Int) 0 0 = some p) (hpo : p = -3 ∨ p = -1 ∨ (0 ≤ p ∧ p / 100 < 30 ∧ p % 100 < 30)) :
    lX0_dropLump_2 P (i : Int) kx (m + 1) (s : Int) A = lX0_dropLump_2 P (i : Int) kx m ((s : Int) + 1) (cadd A (hit p (w (26 + 2 * s)))) := by
  have b10 := hb.b10
  have e := (hp.size s hs).2
  rw [lX0_dropLump_2, hp.p11, be_f (by omega) (by omega) (by omega), hpl, bd_some]
  rcases hpo with c | c | c
  · subst c
    rw [bq_t rfl, gi (by omega) (by omega) (by omega), ix_nat (by omega), e, nm_e', nm_e']
    refine congrArg (lX0_dropLump_2 P (i : Int) kx m _) ?_
    funext j a
    by_cases c4 : j = 4 ∧ a = 0
    · obtain ⟨rfl, rfl⟩ := c4
      rw [up2_s, up1_s]; rfl
    · have h5 : hit (-3) (w (26 + 2 * s)) 19 = 0 := rfl
      have h6 : hit (-3) (w (26 + 2 * s)) 20 = 0 := rfl
      have h16 : ∀ q, hit (-3) (w (26 + 2 * s)) (519 + q) = 0 := fun q => by
        show (if 519 + q = 18 then _ else 0) = 0
        rw [if_neg (by omega)]
      have hl : up2 A 4 0 (A 4 0 + w (26 + 2 * s)) j a = A j a := by
        by_cases c : j = 4
        · subst c
          rw [up2_s, up1_n (fun q => c4 ⟨rfl, q⟩)]
        · rw [up2_n c]
      rw [hl]
      unfold cadd
      rw [if_neg c4, h5, h6, h16]
      by_cases c5 : j = 5 ∧ a = 0
      · rw [if_pos c5, c5.1, c5.2]; omega
      rw [if_neg c5]
      by_cases c6 : j = 6 ∧ a = 0
      · rw [if_pos c6, c6.1, c6.2]; omega
      rw [if_neg c6]
      by_cases c16 : j = 16
      · rw [if_pos c16, c16]; omega
      rw [if_neg c16]
  · subst c
    rw [bq_f (by decide) (by decide) (by decide) (by decide) (by decide), bq_t rfl, gi (by omega) (by omega) (by omega), ix_nat (by omega), e, nm_e', nm_e']
    refine congrArg (lX0_dropLump_2 P (i : Int) kx m _) ?_
    funext j a
    by_cases c5 : j = 5 ∧ a = 0
    · obtain ⟨rfl, rfl⟩ := c5
      rw [up2_s, up1_s]; rfl
    · have h4 : hit (-1) (w (26 + 2 * s)) 18 = 0 := rfl
      have h6 : hit (-1) (w (26 + 2 * s)) 20 = 0 := rfl
      have h16 : ∀ q, hit (-1) (w (26 + 2 * s)) (519 + q) = 0 := fun q => by
        show (if 519 + q = 19 then _ else 0) = 0
        rw [if_neg (by omega)]
      have hl : up2 A 5 0 (A 5 0 + w (26 + 2 * s)) j a = A j a := by
        by_cases c : j = 5
        · subst c
          rw [up2_s, up1_n (fun q => c5 ⟨rfl, q⟩)]
        · rw [up2_n c]
      rw [hl]
      unfold cadd
      rw [if_neg c5, h4, h6, h16]
      by_cases c4 : j = 4 ∧ a = 0
      · rw [if_pos c4, c4.1, c4.2]; omega
      rw [if_neg c4]
      by_cases c6 : j = 6 ∧ a = 0
      · rw [if_pos c6, c6.1, c6.2]; omega
      rw [if_neg c6]
      by_cases c16 : j = 16
      · rw [if_pos c16, c16]; omega
      rw [if_neg c16]
  · unfold fX7_cellOf
    rw [bq_f (by omega) (by omega) (by omega) (by decide) (by decide), bq_f (by omega) (by omega) (by omega) (by decide) (by decide), gi (by omega) (by omega) (by omega), ix_nat (by omega), e, nm_e', jrm_n (by omega) (by omega) (by decide) (by decide), jdv_n (by omega) (by omega) (by decide) (by decide), bd_some, gi (by omega) (by omega) (by omega), gi (by omega) (by omega) (by omega), gi (by omega) (by omega) (by omega), nm_e', nm_e', ix_e (by omega) (by omega)]
    refine congrArg (lX0_dropLump_2 P (i : Int) kx m _) ?_
    generalize hC : (30 * (p / 100) + p % 100).toNat = C
    have hh : ∀ k, hit p (w (26 + 2 * s)) k = if k = 20 ∨ k = 519 + C then w (26 + 2 * s) else 0 := fun k => by
      unfold hit
      rw [if_neg (by omega), if_neg (by omega), hC]
    rw [up2_n (show 16 ≠ 6 by decide)]
    funext j a
    unfold cadd
    rw [hh 18, hh 19, hh 20, hh (519 + a), if_neg (show ¬ ((18 : Nat) = 20 ∨ 18 = 519 + C) by omega), if_neg (show ¬ ((19 : Nat) = 20 ∨ 19 = 519 + C) by omega), if_pos (show (20 : Nat) = 20 ∨ _ from Or.inl rfl)]
    by_cases c16 : j = 16
    · subst c16
      rw [up2_s, if_neg (by omega), if_neg (by omega), if_neg (by omega), if_pos rfl]
      by_cases ca : a = C
      · subst ca
        rw [up1_s, if_pos (Or.inr rfl)]
      · rw [up1_n ca, up2_n (by decide), if_neg (by omega)]; omega
    · rw [up2_n c16, if_neg c16]
      by_cases c6 : j = 6 ∧ a = 0
      · obtain ⟨rfl, rfl⟩ := c6
        rw [up2_s, up1_s, if_neg (by omega), if_neg (by omega), if_pos ⟨rfl, rfl⟩]
      · have hl : up2 A 6 0 (A 6 0 + w (26 + 2 * s)) j a = A j a := by
          by_cases c : j = 6
          · subst c
            rw [up2_s, up1_n (fun q => c6 ⟨rfl, q⟩)]
          · rw [up2_n c]
        rw [hl, if_neg c6]
        by_cases c4 : j = 4 ∧ a = 0
        · rw [if_pos c4, c4.1, c4.2]; omega
        rw [if_neg c4]
        by_cases c5 : j = 5 ∧ a = 0
        · rw [if_pos c5, c5.1, c5.2]; omega
        rw [if_neg c5]
/-- all that a lump of the class adds as it falls -/
noncomputable def csm (A : Ob) (w : Nat → Int) (i n k : Nat) : Int := sm (fun s => hit (cpp A w i s 0 0) (w (26 + 2 * s)) k) n
theorem placeIn_c {A B P : Ob} {i s ex ez : Int} (h10 : B 10 = A 10) (h11 : B 11 = A 11) (h12 : B 12 = A 12) (h13 : B 13 = A 13) (h14 : B 14 = A 14) (h15 : B 15 = A 15) : fX0_placeIn B P i s ex ez = fX0_placeIn A P i s ex ez := by
  unfold fX0_placeIn
  rw [h10, h11, h12, h13, h14, h15]
theorem drop_loop {P A : Ob} {w : Nat → Int} {i : Nat} {kx : Ob → Option Ob} (hb : PB w) (hp : PR P w) (hi : i < 32) (hc : cok A w i) : ∀ (m s : Nat), (s : Int) ≤ w 10 → w 10 - s < m → lX0_dropLump_2 P (i : Int) kx m (s : Int) (cadd A (fun k => csm A w i s k)) = kx (cadd A (fun k => csm A w i (w 10).toNat k)) := by
  have b10 := hb.b10
  intro m
  induction m with
  | zero => intro s q1 q2; omega
  | succ m ih =>
    intro s q1 q2
    by_cases c : w 10 ≤ s
    · rw [lX0_dropLump_2, hp.p11, be_t c (by omega) (by omega), show (w 10).toNat = s from by omega]
    · have hs : (s : Int) < w 10 := by omega
      rw [drop_body (w := w) (p := cpp A w i s 0 0) hb hp hs (by
        rw [placeIn_c (A := A) (cadd_n (by decide) (by decide) (by decide) (by decide)) (cadd_n (by decide) (by decide) (by decide) (by decide)) (cadd_n (by decide) (by decide) (by decide) (by decide)) (cadd_n (by decide) (by decide) (by decide) (by decide)) (cadd_n (by decide) (by decide) (by decide) (by decide)) (cadd_n (by decide) (by decide) (by decide) (by decide))]
        exact placeIn7 hb hp hi hs hc (by rw [Int.mul_zero]; omega) (by rw [Int.mul_zero]; omega)) (plc_ok hb), cadd_cadd]
      exact ih (s + 1) (by omega) (by omega)
theorem dropLump7 {P A : Ob} {w : Nat → Int} {i : Nat} (hb : PB w) (hp : PR P w) (hi : i < 32) (hc : cok A w i) : fX0_dropLump A P (i : Int) = some (up2 (cadd A (fun k => csm A w i (w 10).toNat k)) 9 i 0) := by
  have b10 := hb.b10
  have h := drop_loop (kx := fun A_10 => gd (inb (i : Int) 32) (nm (up2 A_10 9 (ix (i : Int)) 0) (fun A_11 => some A_11))) hb hp hi hc FU 0 (by omega) (by show _ < ((5000 : Nat) : Int); omega)
  rw [show cadd A (fun k => csm A w i 0 k) = A from cadd_0 (fun k => rfl)] at h
  unfold fX0_dropLump
  rw [show ((0 : Nat) : Int) = 0 from rfl] at h
  rw [h, gi (by omega) (by omega) (by omega), ix_nat (by omega), nm_e']
/-- the ring's place of the lump that lands at pace q behind N beats -/
def rq (N q : Nat) : Nat := (N + 32 - 2 * q) % 32
def zz (A : Ob) (N : Nat) : Nat → Nat → Int
  | 0 => A 9
  | j + 1 => if A 9 (rq N (j + 1)) = ((j + 1 : Nat) : Int) then up1 (zz A N j) (rq N (j + 1)) 0 else zz A N j
theorem zz_n {A : Ob} {N i : Nat} : ∀ j, (∀ q, 1 ≤ q → q ≤ j → A 9 (rq N q) = (q : Int) → i ≠ rq N q) → zz A N j i = A 9 i
  | 0, _ => rfl
  | j + 1, h => by
    have h1 := zz_n (A := A) (N := N) (i := i) j (fun q a b => h q a (by omega))
    rw [zz]
    by_cases c : A 9 (rq N (j + 1)) = ((j + 1 : Nat) : Int)
    · rw [if_pos c, up1_n (h (j + 1) (by omega) (by omega) c), h1]
    · rw [if_neg c, h1]
theorem zz_0 {A : Ob} {N i q : Nat} (hq : 1 ≤ q) (hi : i = rq N q) (ha : A 9 i = (q : Int)) : ∀ j, q ≤ j → j ≤ 11 → zz A N j i = 0
  | 0, h, _ => absurd h (by omega)
  | j + 1, h, h2 => by
    rw [zz]
    by_cases c : q = j + 1
    · subst c
      rw [← hi, if_pos ha, up1_s]
    · have h1 := zz_0 hq hi ha j (by omega) (by omega)
      by_cases c2 : A 9 (rq N (j + 1)) = ((j + 1 : Nat) : Int)
      · rw [if_pos c2, up1_n (by rw [hi]; unfold rq; omega), h1]
      · rw [if_neg c2, h1]
noncomputable def cE (A : Ob) (w : Nat → Int) (N q k : Nat) : Int := if A 9 (rq N q) = (q : Int) then csm A w (rq N q) (w 10).toNat k else 0
noncomputable def cS (A : Ob) (w : Nat → Int) (N j k : Nat) : Int := sm (fun i => cE A w N (i + 1) k) j
theorem land_loop {P A : Ob} {w : Nat → Int} {N : Nat} {a b : Int} {kx : Ob → Option (Int × Ob)} (hb : PB w) (hp : PR P w) (h0 : A 0 0 = (N : Int)) (hN : N ≤ 400000) (h9 : ∀ i, i < 32 → 0 ≤ A 9 i ∧ A 9 i ≤ 11) (hc : ∀ i, i < 32 → 0 < A 9 i → cok A w i) :
    ∀ (m j : Nat), j ≤ 11 → 11 - j < m → lX3_playWind_30 P a b kx m ((j : Int) + 1) (upA (cadd A (fun k => cS A w N j k)) 9 (zz A N j)) = kx (upA (cadd A (fun k => cS A w N 11 k)) 9 (zz A N 11)) := by
  intro m
  induction m with
  | zero => intro j q1 q2; omega
  | succ m ih =>
    intro j q1 q2
    rw [lX3_playWind_30]
    by_cases c : j = 11
    · subst c
      rw [bl_t (by omega) (by omega) (by omega)]
    · have hr : rq N (j + 1) < 32 := by unfold rq; omega
      have hi : ix (jan ((N : Int) - 2 * ((j : Int) + 1)) 31) = rq N (j + 1) := by
        rw [jan_31, ix_e (by omega) (by omega)]; unfold rq; omega
      have hii : jan ((N : Int) - 2 * ((j : Int) + 1)) 31 = ((rq N (j + 1) : Nat) : Int) := by
        rw [jan_31]; unfold rq; omega
      have hz : zz A N j (rq N (j + 1)) = A 9 (rq N (j + 1)) := zz_n j (fun q a b _ => by unfold rq; omega)
      have h99 := h9 (rq N (j + 1)) hr
      rw [bl_f (by omega) (by omega) (by omega), upA_n (show 0 ≠ 9 by decide), cadd_n (by decide) (by decide) (by decide) (by decide), h0, hii, nm_e', gi (by omega) (by omega) (by omega), ix_nat (by omega), upA_s, hz]
      have hS : ∀ k, cS A w N (j + 1) k = cS A w N j k + cE A w N (j + 1) k := fun k => rfl
      have h := ih (j + 1) (by omega) (by omega)
      by_cases c2 : A 9 (rq N (j + 1)) = ((j + 1 : Nat) : Int)
      · have hcB : cok (upA (cadd A (fun k => cS A w N j k)) 9 (zz A N j)) w (rq N (j + 1)) := by
          have h := hc (rq N (j + 1)) hr (by omega)
          unfold cok
          rw [upA_n (show 10 ≠ 9 by decide), upA_n (show 11 ≠ 9 by decide), upA_n (show 12 ≠ 9 by decide), upA_n (show 13 ≠ 9 by decide), upA_n (show 14 ≠ 9 by decide), upA_n (show 15 ≠ 9 by decide), cadd_n (by decide) (by decide) (by decide) (by decide), cadd_n (by decide) (by decide) (by decide) (by decide), cadd_n (by decide) (by decide) (by decide) (by decide), cadd_n (by decide) (by decide) (by decide) (by decide), cadd_n (by decide) (by decide) (by decide) (by decide), cadd_n (by decide) (by decide) (by decide) (by decide)]
          exact h
        rw [bq_t (by omega), dropLump7 hb hp hr hcB, bd_some, nm_e', cadd_upA, up2_upAk, cadd_cadd]
        rw [show (fun k => cS A w N (j + 1) k) = (fun k => cS A w N j k + csm (upA (cadd A (fun k => cS A w N j k)) 9 (zz A N j)) w (rq N (j + 1)) (w 10).toNat k) from by
          funext k
          rw [hS k]
          unfold cE
          rw [if_pos c2]
          refine congrArg (cS A w N j k + ·) ?_
          unfold csm cpp
          rw [upA_n (show 10 ≠ 9 by decide), upA_n (show 11 ≠ 9 by decide), upA_n (show 12 ≠ 9 by decide), upA_n (show 13 ≠ 9 by decide), upA_n (show 14 ≠ 9 by decide), upA_n (show 15 ≠ 9 by decide), cadd_n (by decide) (by decide) (by decide) (by decide), cadd_n (by decide) (by decide) (by decide) (by decide), cadd_n (by decide) (by decide) (by decide) (by decide), cadd_n (by decide) (by decide) (by decide) (by decide), cadd_n (by decide) (by decide) (by decide) (by decide), cadd_n (by decide) (by decide) (by decide) (by decide)], show zz A N (j + 1) = up1 (zz A N j) (rq N (j + 1)) 0 from by rw [zz, if_pos c2]] at h
        exact h
      · rw [bq_f (by omega) (by omega) (by omega) (by omega) (by omega), nm_e']
        rw [show (fun k => cS A w N (j + 1) k) = (fun k => cS A w N j k) from by
          funext k
          rw [hS k]
          unfold cE
          rw [if_neg c2, Int.add_zero], show zz A N (j + 1) = zz A N j from by rw [zz, if_neg c2]] at h
        exact h
