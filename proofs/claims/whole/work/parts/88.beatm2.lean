/-! LAYER 2: a beat of the model: the throw -/
/-- the wind that a vane late by g sees at beat N + 1 -/
def sA (w : Nat → Int) (v : Int) (N : Nat) (g : Int) : Int := if (N : Int) + 1 - g ≤ 0 then 0 else if g = 0 then v else w (71 + (N + 1 - g.toNat) % 32)
def stG (w : Nat → Int) (v : Int) (N : Nat) : Int := if w 22 = -1 then sA w v N (w 8) % 10 else max (sA w v N (w 8) % 10) (sA w v N (w 22) % 10)
def hG (w : Nat → Int) (v : Int) (N : Nat) : Int := if w 23 = 1 then 0 else min (min (w 6) (letsR w (stG w v N) (w 12).toNat)) (w 15 + w 9)
def snG (w : Nat → Int) (v : Int) (N : Nat) : Int := if w 22 = -1 ∨ sA w v N (w 22) % 10 ≤ sA w v N (w 8) % 10 then sA w v N (w 8) else sA w v N (w 22)
/-- all that a beat's drifts add -/
noncomputable def dD (w : Nat → Int) (v : Int) (N k : Nat) : Int := dla w v (fB N) (N + 1 - fB N) k
/-- the world behind a beat -/
noncomputable def bw (w : Nat → Int) (v : Int) (N : Nat) : Nat → Int := fun k =>
  if k = 14 then (N : Int) + 1 else if k = 15 then hG w v N else if k = 16 then w 16 + hG w v N else if k = 17 then snG w v N
  else if k = 21 then w 21 + (if hG w v N ≤ 0 then 0 else shS w) else if k = 71 + (N + 1) % 32 then v
  else if k = lm (N + 1) then (if hG w v N ≤ 0 then 0 else (N : Int) + 1 + 2 * pcN (hG w v N))
  else if k = lm (N + 1) + 1 then w 3 else if k = lm (N + 1) + 2 then w 4
  else if lm (N + 1) ≤ k ∧ k < lm (N + 1) + 13 then 0 else w k + dD w v N k
theorem fB_b (N : Nat) : 1 ≤ fB N ∧ N < fB N + 31 ∧ fB N ≤ N + 1 ∧ N + 1 - fB N < 40 := by unfold fB; split <;> omega
theorem dD_z {w : Nat → Int} {v : Int} {N k : Nat} (hb : PB w) (h1 : k ≠ 18) (h2 : k ≠ 19) (h3 : k ≠ 20) (h4 : k < 106) : dD w v N k = 0 := sm_zero (fun i _ => dlb_z hb h1 h2 h3 (by omega) (by have := lm_b (fB N + i); omega))
theorem seenBy8 {M : Ob} {w u : Nat → Int} {v g : Int} {N : Nat} (hN : N ≤ 400000) (hg : 0 ≤ g) (hg2 : g ≤ 20) (hz : ∀ b, b ≤ N → N < b + 31 → u (71 + b % 32) = w (71 + b % 32)) (hv : u (71 + (N + 1) % 32) = v) : fX8_seenBy (upA M 1 u) ((N : Int) + 1) g = some (sA w v N g) := by
  unfold fX8_seenBy sA
  by_cases c : (N : Int) + 1 - g ≤ 0
  · rw [be_t c (by omega) (by omega), if_pos c]
  · rw [be_f (by omega) (by omega) (by omega), if_neg c, jrm_n (by omega) (by omega) (by decide) (by decide), gi (by omega) (by omega) (by omega), ix_e (by omega) (by omega), upA_1]
    have e : (71 + ((N : Int) + 1 - g) % 32).toNat = 71 + (N + 1 - g.toNat) % 32 := by omega
    rw [e]
    by_cases c2 : g = 0
    · subst c2
      rw [if_pos rfl, show N + 1 - (0 : Int).toNat = N + 1 from rfl, hv]
    · rw [if_neg c2, hz _ (by omega) (by omega)]
theorem zero_loop {M : Ob} {u : Nat → Int} {l : Nat} {a b : Int} {kx : Ob → Option (Int × Ob)} (hl : 103 ≤ l) (hl2 : l + 13 ≤ 519) : ∀ (m j : Nat), 3 ≤ j → j ≤ 13 → 13 - j < m → lX8_beat_216 a b (l : Int) kx m (j : Int) (upA M 1 (fun k => if l + 3 ≤ k ∧ k < l + j then 0 else u k)) = kx (upA M 1 (fun k => if l + 3 ≤ k ∧ k < l + 13 then 0 else u k)) := by
  intro m
  induction m with
  | zero => intro j _ _ h; omega
  | succ m ih =>
    intro j h1 h2 h3
    rw [lX8_beat_216]
    by_cases c : j = 13
    · subst c
      rw [be_t (by omega) (by omega) (by omega)]
    · rw [be_f (by omega) (by omega) (by omega), gi (by omega) (by omega) (by omega), ix_e (by omega) (by omega), show ((l : Int) + (j : Int)).toNat = l + j from by omega, up2_upA, nm_e', nm_e']
      rw [show up1 (fun k => if l + 3 ≤ k ∧ k < l + j then 0 else u k) (l + j) 0 = (fun k => if l + 3 ≤ k ∧ k < l + (j + 1) then 0 else u k) from by
        funext k
        by_cases hk : k = l + j
        · subst hk
          rw [up1_s, if_pos (by omega)]
        · rw [up1_n hk]
          by_cases hk2 : l + 3 ≤ k ∧ k < l + j
          · rw [if_pos hk2, if_pos (by omega)]
          · rw [if_neg hk2, if_neg (by omega)]]
      exact ih (j + 1) (by omega) (by omega) (by omega)
theorem share_loop {M : Ob} {u : Nat → Int} {a h : Int} (h10 : 0 ≤ u 10 ∧ u 10 ≤ 5) (hh : 0 < h) (hh2 : h ≤ 60) : ∀ (m s : Nat), (s : Int) ≤ u 10 → u 10 - s < m → lX8_beat_273 a h m (s : Int) (upA M 1 (up1 u 21 (u 21 + sm (fun i => u (26 + 2 * i)) s))) = some (a, upA M 1 (up1 u 21 (u 21 + sm (fun i => u (26 + 2 * i)) (u 10).toNat))) := by
  intro m
  induction m with
  | zero => intro s q1 q2; omega
  | succ m ih =>
    intro s q1 q2
    rw [lX8_beat_273, lit (by decide), show ix 10 = 10 from by decide, upA_1, up1_n (show 10 ≠ 21 by decide)]
    by_cases c : u 10 ≤ s
    · rw [be_t c (by omega) (by omega), show (u 10).toNat = s from by omega]
    · rw [be_f (by omega) (by omega) (by omega), be_f (by omega) (by omega) (by omega), lit (by decide), share8 (by omega), bd_some, lit (by decide), show ix 21 = 21 from by decide, up2_upA, nm_e', nm_e', upA_1, up1_s, up1_n (by omega)]
      rw [show up1 (up1 u 21 (u 21 + sm (fun i => u (26 + 2 * i)) s)) 21 (u 21 + sm (fun i => u (26 + 2 * i)) s + u (26 + 2 * s)) = up1 u 21 (u 21 + sm (fun i => u (26 + 2 * i)) (s + 1)) from by
        funext k
        by_cases hk : k = 21
        · subst hk
          rw [up1_s, up1_s, sm]; omega
        · rw [up1_n hk, up1_n hk, up1_n hk]]
      exact ih (s + 1) (by omega) (by omega)
/-- what a beat asks of the world -/
def bok (w : Nat → Int) (N : Nat) : Prop := dok w ∧ w 14 = (N : Int) ∧ (∀ b : Nat, inW w b → 0 ≤ w (71 + b % 32) ∧ w (71 + b % 32) ≤ 39) ∧ (0 ≤ w 15 ∧ w 15 ≤ 60) ∧ (w 23 = 0 ∨ w 23 = 1)
theorem sA_b {w : Nat → Int} {v : Int} {N : Nat} {g : Int} (hw : bok w N) (hv : 0 ≤ v) (hv2 : v ≤ 39) (hg : 0 ≤ g) (hg2 : g ≤ 20) : 0 ≤ sA w v N g ∧ sA w v N g ≤ 39 := by
  unfold sA
  split
  · omega
  · split
    · omega
    · have h14 := hw.2.1
      exact hw.2.2.1 (N + 1 - g.toNat) ⟨by omega, by omega, by omega⟩
theorem stG_b {w : Nat → Int} {v : Int} {N : Nat} (hw : bok w N) (hv : 0 ≤ v) (hv2 : v ≤ 39) : 0 ≤ stG w v N ∧ stG w v N ≤ 9 := by
  have hb := hw.1.1
  have b8 := hb.b8; have b22 := hb.b22
  have s1 := sA_b (g := w 8) hw hv hv2 (by omega) (by omega)
  unfold stG
  by_cases c : w 22 = -1
  · rw [if_pos c]; omega
  · have s2 := sA_b (g := w 22) hw hv hv2 (by omega) (by omega)
    rw [if_neg c]; omega
theorem hG_b {w : Nat → Int} {v : Int} {N : Nat} (hw : bok w N) : 0 ≤ hG w v N ∧ hG w v N ≤ 60 := by
  have hb := hw.1.1
  have b6 := hb.b6; have b9 := hb.b9; have b12 := hb.b12; have h15 := hw.2.2.2.1
  have hl := letsR_b (M := fun _ => w) hb (st := stG w v N) (w 12).toNat (by show _ ≤ w 12; omega)
  unfold hG
  split
  · omega
  · show 0 ≤ min (min (w 6) (letsR w (stG w v N) (w 12).toNat)) (w 15 + w 9) ∧ _
    have hl1 : 0 ≤ letsR w (stG w v N) (w 12).toNat := hl.1
    omega
/-- the tail of a beat -/
theorem beat_141 {M : Ob} {w u : Nat → Int} {v a sn h : Int} {N : Nat} (hb : PB w) (hN : N ≤ 400000) (hu : u = fun k => if k = 71 + (N + 1) % 32 then v else w k + dD w v N k) (hh : h = hG w v N) (hh1 : 0 ≤ h) (hh2 : h ≤ 60) (hs : sn = snG w v N) :
    jX8_beat_141 (upA M 1 u) a ((N : Int) + 1) sn h = some (a, upA M 1 (bw w v N)) := by
  have hl := lm_b (N + 1)
  have b10 := hb.b10
  generalize hL : lm (N + 1) = L at *
  have ulo : ∀ k, k ≠ 18 → k ≠ 19 → k ≠ 20 → k < 71 → u k = w k := fun k c1 c2 c3 c4 => by
    rw [hu]
    show (if k = 71 + (N + 1) % 32 then v else w k + dD w v N k) = w k
    rw [if_neg (by omega), dD_z hb c1 c2 c3 (by omega)]; omega
  unfold jX8_beat_141
  rw [lit (by decide), show ix 14 = 14 from by decide, up2_upA, nm_e', lit (by decide), show ix 17 = 17 from by decide, up2_upA, nm_e', lit (by decide), show ix 15 = 15 from by decide, up2_upA, nm_e', lit (by decide), lit (by decide), show ix 16 = 16 from by decide, up2_upA, nm_e', upA_1, show ((N : Int) + 1) = ((N + 1 : Nat) : Int) from by omega, lump8 (by omega), bd_some, hL]
  generalize hu1 : up1 (up1 (up1 (up1 u 14 ((N + 1 : Nat) : Int)) 17 sn) 15 h) 16 (up1 (up1 (up1 u 14 ((N + 1 : Nat) : Int)) 17 sn) 15 h 16 + h) = u1
  have r14 : u1 14 = (N : Int) + 1 := by rw [← hu1, up1_n (by decide), up1_n (by decide), up1_n (by decide), up1_s]; omega
  have r17 : u1 17 = sn := by rw [← hu1, up1_n (by decide), up1_n (by decide), up1_s]
  have r15 : u1 15 = h := by rw [← hu1, up1_n (by decide), up1_s]
  have r16 : u1 16 = w 16 + h := by rw [← hu1, up1_s, up1_n (by decide), up1_n (by decide), up1_n (by decide), ulo 16 (by decide) (by decide) (by decide) (by decide)]
  have rn : ∀ k, k ≠ 14 → k ≠ 15 → k ≠ 16 → k ≠ 17 → u1 k = u k := fun k c1 c2 c3 c4 => by rw [← hu1, up1_n c3, up1_n c2, up1_n c4, up1_n c1]
  have fin : ∀ (du : Int), du = (if hG w v N ≤ 0 then 0 else (N : Int) + 1 + 2 * pcN (hG w v N)) → jX8_beat_212 (upA M 1 u1) a h (L : Int) du (L : Int) = some (a, upA M 1 (bw w v N)) := by
    intro du hdu
    unfold jX8_beat_212
    rw [gi (by omega) (by omega) (by omega), ix_nat (by omega), up2_upA, nm_e']
    have hz := zero_loop (M := M) (u := up1 u1 L du) (l := L) (a := a) (b := h) (kx := fun M_17 => gd (inb 3 1419) (gd (inb ((L : Int) + 1) 1419) (nm (up2 M_17 1 (ix ((L : Int) + 1)) (M_17 1 (ix 3))) (fun M_18 => gd (inb 4 1419) (gd (inb ((L : Int) + 2) 1419) (nm (up2 M_18 1 (ix ((L : Int) + 2)) (M_18 1 (ix 4))) (fun M_19 => lX8_beat_273 a h FU 0 M_19))))))) hl.1 hl.2 FU 3 (by omega) (by omega) (by show _ < 5000; omega)
    rw [show (fun k => if L + 3 ≤ k ∧ k < L + 3 then 0 else up1 u1 L du k) = up1 u1 L du from by funext k; rw [if_neg (by omega)], show ((3 : Nat) : Int) = 3 from rfl] at hz
    rw [hz]
    generalize hu0 : (fun k => if L + 3 ≤ k ∧ k < L + 13 then 0 else up1 u1 L du k) = u0
    rw [lit (by decide), gi (by omega) (by omega) (by omega), ix_e (by omega) (by omega), show ((L : Int) + 1).toNat = L + 1 from by omega, show ix 3 = 3 from by decide, up2_upA, nm_e', lit (by decide), gi (by omega) (by omega) (by omega), ix_e (by omega) (by omega), show ((L : Int) + 2).toNat = L + 2 from by omega, show ix 4 = 4 from by decide, up2_upA, nm_e']
    simp only [upA_1]
    have q : ∀ k, k < L → u0 k = u1 k := fun k hk => by
      rw [← hu0]
      show (if L + 3 ≤ k ∧ k < L + 13 then 0 else up1 u1 L du k) = u1 k
      rw [if_neg (by omega), up1_n (by omega)]
    have q3 : u0 3 = w 3 := by rw [q 3 (by omega), rn 3 (by decide) (by decide) (by decide) (by decide), ulo 3 (by decide) (by decide) (by decide) (by decide)]
    have q4 : u0 4 = w 4 := by rw [q 4 (by omega), rn 4 (by decide) (by decide) (by decide) (by decide), ulo 4 (by decide) (by decide) (by decide) (by decide)]
    rw [up1_n (show 4 ≠ L + 1 by omega), q3, q4]
    generalize hu3 : up1 (up1 u0 (L + 1) (w 3)) (L + 2) (w 4) = u3
    have p1 : ∀ k, k < L → u3 k = u1 k := fun k hk => by rw [← hu3, up1_n (by omega), up1_n (by omega), q k hk]
    have p2 : ∀ k, k ≠ 14 → k ≠ 15 → k ≠ 16 → k ≠ 17 → k ≠ 18 → k ≠ 19 → k ≠ 20 → k < 71 → u3 k = w k := fun k c1 c2 c3 c4 c5 c6 c7 c8 => by rw [p1 k (by omega), rn k c1 c2 c3 c4, ulo k c5 c6 c7 c8]
    have e10 := p2 10 (by decide) (by decide) (by decide) (by decide) (by decide) (by decide) (by decide) (by decide)
    have e21 := p2 21 (by decide) (by decide) (by decide) (by decide) (by decide) (by decide) (by decide) (by decide)
    have esh : sm (fun i => u3 (26 + 2 * i)) (u3 10).toNat = shS w := by
      unfold shS
      rw [e10]
      exact sm_congr (fun i hi => p2 (26 + 2 * i) (by omega) (by omega) (by omega) (by omega) (by omega) (by omega) (by omega) (by omega))
    have key : ∀ x, x = (if hG w v N ≤ 0 then 0 else shS w) → up1 u3 21 (u3 21 + x) = bw w v N := by
      intro x hx
      funext k
      unfold bw
      rw [hL, ← hh]
      rw [← hh] at hx hdu
      by_cases k21 : k = 21
      · subst k21
        rw [up1_s, e21, if_neg (by decide), if_neg (by decide), if_neg (by decide), if_neg (by decide), if_pos rfl, hx]
      rw [up1_n k21]
      by_cases k14 : k = 14
      · subst k14
        rw [if_pos rfl, p1 14 (by omega), r14]
      rw [if_neg k14]
      by_cases k15 : k = 15
      · subst k15
        rw [if_pos rfl, p1 15 (by omega), r15]
      rw [if_neg k15]
      by_cases k16 : k = 16
      · subst k16
        rw [if_pos rfl, p1 16 (by omega), r16]
      rw [if_neg k16]
      by_cases k17 : k = 17
      · subst k17
        rw [if_pos rfl, p1 17 (by omega), r17, hs]
      rw [if_neg k17, if_neg k21]
      by_cases k71 : k = 71 + (N + 1) % 32
      · rw [if_pos k71, p1 k (by omega), rn k k14 k15 k16 k17, hu]
        show (if k = 71 + (N + 1) % 32 then v else w k + dD w v N k) = v
        rw [if_pos k71]
      rw [if_neg k71]
      by_cases kL : k = L
      · rw [if_pos kL, kL, ← hu3, up1_n (by omega), up1_n (by omega), ← hu0]
        show (if L + 3 ≤ L ∧ L < L + 13 then 0 else up1 u1 L du L) = _
        rw [if_neg (by omega), up1_s, hdu]
      rw [if_neg kL]
      by_cases kL1 : k = L + 1
      · rw [if_pos kL1, kL1, ← hu3, up1_n (by omega), up1_s]
      rw [if_neg kL1]
      by_cases kL2 : k = L + 2
      · rw [if_pos kL2, kL2, ← hu3, up1_s]
      rw [if_neg kL2, ← hu3, up1_n kL2, up1_n kL1, ← hu0]
      show (if L + 3 ≤ k ∧ k < L + 13 then 0 else up1 u1 L du k) = _
      by_cases kL3 : L + 3 ≤ k ∧ k < L + 13
      · rw [if_pos kL3, if_pos (by omega)]
      · rw [if_neg kL3, if_neg (by omega), up1_n kL, rn k k14 k15 k16 k17, hu]
        show (if k = 71 + (N + 1) % 32 then v else w k + dD w v N k) = _
        rw [if_neg k71]
    by_cases c : h ≤ 0
    · have hx := key 0 (by rw [← hh, if_pos c])
      rw [Int.add_zero, show up1 u3 21 (u3 21) = u3 from by
        funext k
        by_cases hk : k = 21
        · subst hk; rw [up1_s]
        · rw [up1_n hk]] at hx
      rw [show FU = 4999 + 1 from rfl, lX8_beat_273, lit (by decide), show ix 10 = 10 from by decide, upA_1, be_t c (by omega) (by omega)]
      by_cases c2 : u3 10 ≤ 0
      · rw [be_t c2 (by omega) (by omega), hx]
      · rw [be_f (by omega) (by omega) (by omega), hx]
    · have hx := key _ (by rw [← hh, if_neg c])
      have hsl := share_loop (M := M) (u := u3) (a := a) (h := h) (by omega) (by omega) hh2 FU 0 (by omega) (by show _ < ((5000 : Nat) : Int); omega)
      rw [esh, hx, show sm (fun i => u3 (26 + 2 * i)) 0 = 0 from rfl, Int.add_zero, show up1 u3 21 (u3 21) = u3 from by
        funext k
        by_cases hk : k = 21
        · subst hk; rw [up1_s]
        · rw [up1_n hk]] at hsl
      exact hsl
  by_cases c : h ≤ 0
  · rw [be_t c (by omega) (by omega)]
    exact fin 0 (by rw [← hh, if_pos c])
  · rw [be_f (by omega) (by omega) (by omega), pc8 hh1 hh2, bd_some]
    exact fin _ (by rw [← hh, if_neg c]; omega)
theorem beat8 {M : Ob} {w : Nat → Int} {v : Int} {N : Nat} (hM : M 1 = w) (hw : bok w N) (hv : 0 ≤ v) (hv2 : v ≤ 39) : fX8_beat M v = some (dD w v N 19 + dD w v N 20, upA M 1 (bw w v N)) := by
  have hb := hw.1.1
  have b8 := hb.b8; have b22 := hb.b22; have b6 := hb.b6; have b9 := hb.b9; have b12 := hb.b12
  have hN := hw.2.1; have hn := hw.1.2.1; have h15 := hw.2.2.2.1
  unfold fX8_beat
  rw [drifts8 hM hw.1 hv hv2 hN, bd_some, nm_e', lit (by decide), show ix 14 = 14 from by decide]
  show nm ((w 14 + dD w v N 14) + 1) _ = _
  rw [dD_z hb (by decide) (by decide) (by decide) (by decide), Int.add_zero, nm_e', hN, jrm_n (by omega) (by omega) (by decide) (by decide), gi (by omega) (by omega) (by omega), ix_e (by omega) (by omega), show (71 + ((N : Int) + 1) % 32).toNat = 71 + (N + 1) % 32 from by omega, up2_upA, nm_e', lit (by decide), show ix 8 = 8 from by decide]
  generalize hu : up1 (fun k => w k + dla w v (fB N) (N + 1 - fB N) k) (71 + (N + 1) % 32) v = u
  have hu' : u = fun k => if k = 71 + (N + 1) % 32 then v else w k + dD w v N k := by
    rw [← hu]
    funext k
    by_cases hk : k = 71 + (N + 1) % 32
    · rw [if_pos hk, hk, up1_s]
    · rw [if_neg hk, up1_n hk]; rfl
  have ulo : ∀ k, k ≠ 18 → k ≠ 19 → k ≠ 20 → k < 71 → u k = w k := fun k c1 c2 c3 c4 => by
    rw [hu']
    show (if k = 71 + (N + 1) % 32 then v else w k + dD w v N k) = w k
    rw [if_neg (by omega), dD_z hb c1 c2 c3 (by omega)]; omega
  have hpl : Pl u w := fun k hk => ulo k (by omega) (by omega) (by omega) (by omega)
  have uwd : ∀ b, b ≤ N → N < b + 31 → u (71 + b % 32) = w (71 + b % 32) := fun b h1 h2 => by
    rw [hu']
    show (if 71 + b % 32 = 71 + (N + 1) % 32 then v else w (71 + b % 32) + dD w v N (71 + b % 32)) = _
    rw [if_neg (by omega), dD_z hb (by omega) (by omega) (by omega) (by omega)]; omega
  have uv : u (71 + (N + 1) % 32) = v := by rw [← hu, up1_s]
  have s8 := seenBy8 (M := M) (w := w) (u := u) (v := v) (g := w 8) (N := N) (by omega) (by omega) (by omega) uwd uv
  have hst := stG_b hw hv hv2
  have hgb := hG_b (v := v) hw
  have j93 : ∀ x y : Int, 0 ≤ x → x ≤ 39 → x % 10 = stG w v N → y = x → x = snG w v N → jX8_beat_93 (upA M 1 u) (dla w v (fB N) (N + 1 - fB N) 19 + dla w v (fB N) (N + 1 - fB N) 20) ((N : Int) + 1) x = some (dD w v N 19 + dD w v N 20, upA M 1 (bw w v N)) := by
    intro x y h1 h2 h3 _ h4
    unfold jX8_beat_93
    have hl := letsR_b (M := fun _ => w) hb (st := stG w v N) (w 12).toNat (by show _ ≤ w 12; omega)
    have hl1 : 0 ≤ letsR w (stG w v N) (w 12).toNat := hl.1
    have hl2 : letsR w (stG w v N) (w 12).toNat ≤ 60 := hl.2
    rw [jrm_n h1 (by omega) (by decide) (by decide), h3, lets8 (M := upA M 1 u) (hpl.pb hb) hst.1 hst.2, bd_some, lit (by decide), lit (by decide), show ix 15 = 15 from by decide, show ix 9 = 9 from by decide, upA_1, hpl.lr _ (by rw [ulo 12 (by decide) (by decide) (by decide) (by decide)]; omega), ulo 6 (by decide) (by decide) (by decide) (by decide), ulo 12 (by decide) (by decide) (by decide) (by decide), ulo 15 (by decide) (by decide) (by decide) (by decide), ulo 9 (by decide) (by decide) (by decide) (by decide), jmi_e (by omega) (by omega) (by omega) (by omega), nm_e', lit (by decide), show ix 23 = 23 from by decide, ulo 23 (by decide) (by decide) (by decide) (by decide)]
    by_cases c : w 23 = 1
    · rw [bq_t c]
      exact beat_141 hb (by omega) hu' (by unfold hG; rw [if_pos c]) (by omega) (by omega) h4
    · rw [bq_f c (by have := hw.2.2.2.2; omega) (by have := hw.2.2.2.2; omega) (by decide) (by decide)]
      exact beat_141 hb (by omega) hu' (by unfold hG; rw [if_neg c]) (by omega) (by omega) h4
  rw [upA_1, ulo 8 (by decide) (by decide) (by decide) (by decide), s8, bd_some, lit (by decide), show ix 22 = 22 from by decide, ulo 22 (by decide) (by decide) (by decide) (by decide)]
  have sb8 := sA_b (g := w 8) hw hv hv2 (by omega) (by omega)
  by_cases c : w 22 = -1
  · rw [bq_t c]
    unfold jX8_beat_71
    rw [be_p (Int32.le_refl _)]
    exact j93 _ _ sb8.1 sb8.2 (by unfold stG; rw [if_pos c]) rfl (by unfold snG; rw [if_pos (Or.inl c)])
  · have sb22 := sA_b (g := w 22) hw hv hv2 (by omega) (by omega)
    have s22 := seenBy8 (M := M) (w := w) (u := u) (v := v) (g := w 22) (N := N) (by omega) (by omega) (by omega) uwd uv
    rw [bq_f c (by omega) (by omega) (by omega) (by omega), lit (by decide), s22, bd_some]
    unfold jX8_beat_71
    rw [jrm_n sb22.1 (by omega) (by decide) (by decide), jrm_n sb8.1 (by omega) (by decide) (by decide)]
    by_cases c2 : sA w v N (w 22) % 10 ≤ sA w v N (w 8) % 10
    · rw [be_t c2 (by omega) (by omega)]
      exact j93 _ _ sb8.1 sb8.2 (by unfold stG; rw [if_neg c]; omega) rfl (by unfold snG; rw [if_pos (Or.inr c2)])
    · rw [be_f (by omega) (by omega) (by omega)]
      exact j93 _ _ sb22.1 sb22.2 (by unfold stG; rw [if_neg c]; omega) rfl (by unfold snG; rw [if_neg (by omega)])
