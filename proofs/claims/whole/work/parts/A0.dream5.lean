/-! LAYER 2: dreams: stand, most, dry, week -/
theorem PB.set3 {w : Nat → Int} {v : Int} (hb : PB w) (v1 : 0 ≤ v) (v2 : v < w 1) : PB (up1 w 3 v) := by
  have b10 := hb.b10; have b11 := hb.b11; have b12 := hb.b12; have b1 := hb.b1
  refine ⟨hb.b0, hb.b1, hb.b2, ⟨v1, (show v ≤ 29 by omega)⟩, hb.b4, hb.b5, hb.b6, hb.b7, hb.b8, hb.b9, hb.b10, hb.b11, hb.b12, hb.b22, hb.sq, hb.none, fun q => ⟨v2, (hb.some q).2⟩, hb.road, fun s hs => ?_, fun k hk => ?_, fun k hk => ?_⟩
  · rw [up1_n (by omega)] at hs
    rw [up1_n (by omega), up1_n (by omega)]
    exact hb.size s hs
  · rw [up1_n (by omega)] at hk
    rw [up1_n (show 35 + 3 * k ≠ 3 by omega), up1_n (show 36 + 3 * k ≠ 3 by omega), up1_n (show 37 + 3 * k ≠ 3 by omega), up1_n (show 1 ≠ 3 by omega), up1_n (show 2 ≠ 3 by omega)]
    exact hb.tab k hk
  · rw [up1_n (by omega)] at hk
    rw [up1_n (by omega), up1_n (by omega)]
    exact hb.rule k hk
theorem PB.set4 {w : Nat → Int} {v : Int} (hb : PB w) (v1 : 0 ≤ v) (v2 : v < w 2) : PB (up1 w 4 v) := by
  have b10 := hb.b10; have b11 := hb.b11; have b12 := hb.b12; have b2 := hb.b2
  refine ⟨hb.b0, hb.b1, hb.b2, hb.b3, ⟨v1, (show v ≤ 29 by omega)⟩, hb.b5, hb.b6, hb.b7, hb.b8, hb.b9, hb.b10, hb.b11, hb.b12, hb.b22, hb.sq, hb.none, fun q => ⟨(hb.some q).1, v2, (hb.some q).2.2⟩, hb.road, fun s hs => ?_, fun k hk => ?_, fun k hk => ?_⟩
  · rw [up1_n (by omega)] at hs
    rw [up1_n (by omega), up1_n (by omega)]
    exact hb.size s hs
  · rw [up1_n (by omega)] at hk
    rw [up1_n (show 35 + 3 * k ≠ 4 by omega), up1_n (show 36 + 3 * k ≠ 4 by omega), up1_n (show 37 + 3 * k ≠ 4 by omega), up1_n (show 1 ≠ 4 by omega), up1_n (show 2 ≠ 4 by omega)]
    exact hb.tab k hk
  · rw [up1_n (by omega)] at hk
    rw [up1_n (by omega), up1_n (by omega)]
    exact hb.rule k hk
section
variable {n : Nat} {T : Nat → Ob} {J : Nat → Bool} {M : Ob} {x z y0 : Int} {j : Nat}
theorem stand_in {d v jx jy : Int} {kx : Int → Int → (Nat → Ob) → Option (Int × (Nat → Ob))} {kx8 : Int → Int → Ob → Option (Int × Ob)} (hd : 0 ≤ d) (hd2 : d ≤ 3) (hv : -10 ≤ v) (hv2 : v ≤ 100) (hk : ∀ (b l : Int) (T : Nat → Ob) (M : Ob), Inv n T J M → rowOk M j → M 1 3 = jx → M 1 4 = jy → Ef T M (kx b l T) (kx8 b l M)) :
    ∀ (m e : Nat) (b l : Int) (T : Nat → Ob) (M : Ob), Inv n T J M → rowOk M j → M 1 3 = jx → M 1 4 = jy → (e : Int) ≤ 2 * d + 1 → 2 * d + 1 - e < m → Ef T M (lX7_stand_75 (j : Int) d v kx m b l (jx - d + (e : Int)) T) (lX8_stand_70 (j : Int) d jx jy v kx8 m b l (jx - d + (e : Int)) M) := by
  intro m
  induction m with
  | zero => intro e b l T M _ _ _ _ h1 h2; omega
  | succ m ih =>
    intro e b l T M h ho m3 m4 h1 h2
    have hb := h.now.pb
    have b3 := hb.b3; have b1 := hb.b1; have b2 := hb.b2
    have e1 : jx - d + (e : Int) + 1 = jx - d + ((e + 1 : Nat) : Int) := by omega
    rw [lX7_stand_75, lX8_stand_70, h.now.pr.p3, m3]
    simp only [nm_e']
    by_cases c : (e : Int) = 2 * d + 1
    · rw [bl_t (by omega) (by omega) (by omega), bl_t (by omega) (by omega) (by omega)]
      exact hk b l T M h ho m3 m4
    · rw [bl_f (by omega) (by omega) (by omega), bl_f (by omega) (by omega) (by omega), isCell7 h.now.pr hb ⟨by omega, by omega⟩ ⟨by omega, by omega⟩, isCell8 hb ⟨by omega, by omega⟩ ⟨by omega, by omega⟩, bd_some, bd_some, bq_ite, bq_ite]
      refine Ef.ite (fun cc => ?_) (fun _ => ?_)
      · obtain ⟨Tb, b1', b2', b3', b4'⟩ := begin_ok h
        have hb3 := hb.set3 cc.1.1 cc.1.2
        have hb4 : PB (up1 (up1 (M 1) 3 (jx - d + (e : Int))) 4 v) := hb3.set4 cc.2.1 cc.2.2
        obtain ⟨Tf, Mf, M', f1, f2, f3, f4, f5, f6, -⟩ := day_go (Td := upO (upO Tb 4 (up2 (Tb 4) 3 0 (jx - d + (e : Int)))) 4 (up2 (upO Tb 4 (up2 (Tb 4) 3 0 (jx - d + (e : Int))) 4) 4 0 v)) (u := up1 (up1 (M 1) 3 (jx - d + (e : Int))) 4 v) h ho (fun i' h4 h5 _ => by rw [upO_n h4, upO_n h4, b4' i' h4 h5]) (by rw [upO_s, upO_s]; exact (b2'.set (by omega) hb).set (by omega) hb3) hb4 (by rw [upO_n (by decide), upO_n (by decide)]; exact b3') (fun k hk => by rw [up1_n (by omega), up1_n (by omega)]) h.still h.rep
        have hds : fX7_dreamByStand T (j : Int) (jx - d + (e : Int)) v = some (M' 16 4, Tf) := by
          unfold fX7_dreamByStand
          rw [b1', bd_some, nm_e', nm_e', f1, bd_some, show fX7_gainOf Tf 4 = some (M' 16 4) from f5 4 (by decide), bd_some]
        rw [hds, bd_some, thinksMk, bd_some, lit (by decide), lit (by decide), show ix 3 = 3 from by decide, show ix 4 = 4 from by decide, up2_A1 (X := Mk M), up2_upA]
        rw [show fX8_goesDown (upA (Mk M) 1 (up1 (up1 (Mk M 1) 3 (jx - d + (e : Int))) 4 v)) (j : Int) = some Mf from f2, bd_some, f3, bd_some]
        dsimp only
        refine Ef.pre f4 ?_
        have m3' : M' 1 3 = jx := by rw [f4.2.1 3 (by decide)]; exact m3
        have m4' : M' 1 4 = jy := by rw [f4.2.1 4 (by decide)]; exact m4
        have take : Ef Tf M' (jX7_stand_133 (lX7_stand_75 (j : Int) d v kx m) Tf (j : Int) d v (jx - d + (e : Int)) (M' 16 4)) (jX8_stand_142 (lX8_stand_70 (j : Int) d jx jy v kx8 m) M' (j : Int) d jx jy v (jx - d + (e : Int))) := by
          unfold jX7_stand_133 jX8_stand_142 fX7_placeOf
          rw [bd_some, nm_e', nm_e', lit (by decide), nm_e', nm_e', show ix 4 = 4 from by decide, e1]
          exact ih (e + 1) _ _ _ _ (h.fr f4) (ho.fr f4) m3' m4' (by omega) (by omega)
        by_cases c2 : i32 b = i32 (-1)
        · rw [bq_p c2, bq_p c2]
          exact take
        · rw [bq_n c2, bq_n c2, be_bl, lit (by decide)]
          by_cases c3 : i32 (M' 16 4) < i32 l
          · rw [bl_p c3, bl_p c3]
            exact take
          · rw [bl_n c3, bl_n c3, e1]
            exact ih (e + 1) _ _ _ _ (h.fr f4) (ho.fr f4) m3' m4' (by omega) (by omega)
      · rw [e1]
        exact ih (e + 1) _ _ _ _ h ho m3 m4 (by omega) (by omega)
theorem stand_out {d jx jy : Int} (hd : 0 ≤ d) (hd2 : d ≤ 3) : ∀ (m e : Nat) (b l : Int) (T : Nat → Ob) (M : Ob), Inv n T J M → rowOk M j → M 1 3 = jx → M 1 4 = jy → (e : Int) ≤ 2 * d + 1 → 2 * d + 1 - e < m → Ef T M (lX7_stand_44 (j : Int) d m b l (jy - d + (e : Int)) T) (lX8_stand_55 (j : Int) d jx jy m b l (jy - d + (e : Int)) M) := by
  intro m
  induction m with
  | zero => intro e b l T M _ _ _ _ h1 h2; omega
  | succ m ih =>
    intro e b l T M h ho m3 m4 h1 h2
    have b4 := h.now.pb.b4
    have e1 : jy - d + (e : Int) + 1 = jy - d + ((e + 1 : Nat) : Int) := by omega
    rw [lX7_stand_44, lX8_stand_55, h.now.pr.p3, h.now.pr.p4, m3, m4]
    by_cases c : (e : Int) = 2 * d + 1
    · rw [bl_t (by omega) (by omega) (by omega), bl_t (by omega) (by omega) (by omega)]
      exact Ef.s _
    · rw [bl_f (by omega) (by omega) (by omega), bl_f (by omega) (by omega) (by omega), nm_e', nm_e', show jx - d = jx - d + ((0 : Nat) : Int) from by omega]
      exact stand_in (n := n) (J := J) (j := j) (d := d) (v := jy - d + (e : Int)) (jx := jx) (jy := jy) hd hd2 (by omega) (by omega) (fun b l T M h ho m3 m4 => by
        rw [nm_e', nm_e', e1]
        exact ih (e + 1) b l T M h ho m3 m4 (by omega) (by omega)) FU 0 b l T M h ho m3 m4 (by omega) (by show _ < ((5000 : Nat) : Int); omega)
theorem op_stand (h : Inv n T J M) (hx : R32 x) (hz : R32 z) : Ef T M (fX7_stand T x z) (fX8_stand M x z) := by
  unfold fX7_stand fX8_stand
  rw [within7r hz ⟨by decide, by decide⟩ ⟨by decide, by decide⟩, in8i hz ⟨by decide, by decide⟩ ⟨by decide, by decide⟩, bd_some, bd_some, bq_ite, bq_ite]
  refine Ef.ite (fun c2 => ?_) (fun _ => Ef.s _)
  obtain ⟨q, e1, e2, e3⟩ := asks_eq h hx
  rw [e1, e2, bd_some, bd_some]
  rcases e3 with ⟨rfl, j, rfl, ho⟩ | e3
  · rw [bq_t rfl, be_t (by decide) (by decide) (by decide), lit (by decide), nm_e', nm_e', lit (by decide), nm_e', nm_e', h.now.pr.p4, show ix 3 = 3 from by decide, show ix 4 = 4 from by decide]
    have hout := stand_out (n := n) (J := J) (j := j) (d := z) (jx := M 1 3) (jy := M 1 4) c2.1 c2.2 FU 0 (-1) 0 T M h ho rfl rfl (by omega) (by show _ < ((5000 : Nat) : Int); omega)
    rw [show M 1 4 - z + ((0 : Nat) : Int) = M 1 4 - z from by omega] at hout
    exact hout
  · rw [bq_f (by omega) (by omega) (by omega) (by omega) (by omega), be_f (by omega) (by omega) (by omega)]
    exact Ef.s _
theorem most_loop {k : Nat} {W mo : Int} : ∀ (m dd : Nat) (T : Nat → Ob) (M : Ob), Inv n T J M → rowOk M j → (k : Int) < M 1 11 → M 1 (37 + 3 * k) = mo → M 1 (519 + (30 * M 1 (36 + 3 * k) + M 1 (35 + 3 * k)).toNat) = W → dd ≤ 61 → dd < m → Ef T M (lX7_most_52 (j : Int) (k : Int) (max mo W) m ((dd : Int) - 1) T) (lX8_most_34 (j : Int) (k : Int) W m ((dd : Int) - 1) M) := by
  intro m
  induction m with
  | zero => intro dd T M _ _ _ _ _ _ h; omega
  | succ m ih =>
    intro dd T M h ho hk hmo hW h1 h2
    have hb := h.now.pb
    have b1 := hb.b1; have b2 := hb.b2; have b11 := hb.b11
    have ht := hb.tab k hk
    rw [lX7_most_52, lX8_most_34]
    simp only [nm_e']
    by_cases c : dd = 0
    · subst c
      rw [bl_t (by decide) (by decide) (by decide), bl_t (by decide) (by decide) (by decide)]
      exact Ef.s _
    · obtain ⟨Tb, b1', b2', b3', b4'⟩ := begin_ok h
      obtain ⟨Tf, Mf, M', f1, f2, f3, f4, f5, f6, f7, f8, f9, f10, -⟩ := day_go (Td := upO Tb 4 (up2 (Tb 4) 6 0 ((dd : Int) - 1))) (u := up1 (M 1) 6 ((dd : Int) - 1)) h ho (fun i' h4 h5 _ => by rw [upO_n h4, b4' i' h4 h5]) (by rw [upO_s]; exact b2'.set (by omega) hb) (hb.set (by omega)) (by rw [upO_n (by decide)]; exact b3') (fun k hk => up1_n (by omega)) h.still h.rep
      have hdh : fX7_dreamByHigh T (j : Int) ((dd : Int) - 1) = some Tf := by
        unfold fX7_dreamByHigh
        rw [b1', bd_some, nm_e', f1, bd_some]
      have u11 : Mf 1 11 = M 1 11 := f10 11 (by omega)
      have u35 : Mf 1 (35 + 3 * k) = M 1 (35 + 3 * k) := (f10 (35 + 3 * k) (by omega)).trans (up1_n (by omega))
      have u36 : Mf 1 (36 + 3 * k) = M 1 (36 + 3 * k) := (f10 (36 + 3 * k) (by omega)).trans (up1_n (by omega))
      have hwet := f9 (30 * M 1 (36 + 3 * k) + M 1 (35 + 3 * k)).toNat (by omega)
      have hw0 := h.now.ab.wet (30 * M 1 (36 + 3 * k) + M 1 (35 + 3 * k)).toNat (by omega)
      have hM37 : M' 1 (35 + 3 * k + 2) = mo := by rw [f4.2.1 _ (by omega), show 35 + 3 * k + 2 = 37 + 3 * k from by omega]; exact hmo
      rw [bl_f (by omega) (by omega) (by omega), bl_f (by omega) (by omega) (by omega), hdh, bd_some, tableWet7 f7.1 f7.2 f8 (by rw [u11]; exact hk), bd_some, thinksMk, bd_some, lit (by decide), show ix 6 = 6 from by decide, up2_A1]
      rw [show fX8_goesDown (upA (Mk M) 1 (up1 (Mk M 1) 6 ((dd : Int) - 1))) (j : Int) = some Mf from f2, bd_some, wetAt8 f7.1 (by rw [u11]; exact hk), bd_some, f3, bd_some, ofTable8 (c := 2) (d := 2) rfl (by decide) (by omega), bd_some, hM37, u35, u36]
      rw [hW] at hwet hw0
      generalize Mf 1 (519 + (30 * M 1 (36 + 3 * k) + M 1 (35 + 3 * k)).toNat) = D at *
      refine Ef.pre f4 ?_
      by_cases c1 : D ≤ mo
      · rw [bl_f (by omega) (by omega) (by omega), be_t c1 (by omega) (by omega)]
        exact Ef.s _
      · by_cases c2 : D = W
        · rw [bl_f (by omega) (by omega) (by omega), be_f (by omega) (by omega) (by omega), bq_t c2]
          exact Ef.s _
        · rw [bl_t (by omega) (by omega) (by omega), be_f (by omega) (by omega) (by omega), bq_f c2 (by omega) (by omega) (by omega) (by omega)]
          rw [show (dd : Int) - 1 + -1 = ((dd - 1 : Nat) : Int) - 1 from by omega]
          exact ih (dd - 1) _ _ (h.fr f4) (ho.fr f4) (by rw [f4.2.1 11 (by decide)]; exact hk) (by rw [f4.2.1 _ (by omega)]; exact hmo) (by rw [f4.2.1 (36 + 3 * k) (by omega), f4.2.1 (35 + 3 * k) (by omega), f4.2.1 _ (by omega)]; exact hW) (by omega) (by omega)
theorem op_most (h : Inv n T J M) (hx : R32 x) (hz : R32 z) : Ef T M (fX7_most T x z) (fX8_most M x z) := by
  have hb := h.now.pb
  have b1 := hb.b1; have b2 := hb.b2; have b11 := hb.b11
  unfold fX7_most fX8_most
  rw [isTable7 h.now.pr hb hz, isTable8 hb hz, bd_some, bd_some, bq_ite, bq_ite]
  refine Ef.ite (fun c2 => ?_) (fun _ => Ef.s _)
  obtain ⟨q, e1, e2, e3⟩ := asks_eq h hx
  rw [e1, e2, bd_some, bd_some]
  rcases e3 with ⟨rfl, j, rfl, ho⟩ | e3
  · obtain ⟨k, rfl⟩ := Int.eq_ofNat_of_zero_le c2.1
    have hk : (k : Int) < M 1 11 := by omega
    have ht := hb.tab k hk
    have hw0 := h.now.ab.wet (30 * M 1 (36 + 3 * k) + M 1 (35 + 3 * k)).toNat (by omega)
    have hce := h.now.ab.cells; have hth := h.now.ab.thrown; have hca := h.now.ab.caught; have hlo := h.now.ab.lost; have hbe := h.now.ab.beats
    have hn := h.n
    rw [bq_t rfl, be_t (by decide) (by decide) (by decide), gi (by omega) (by omega) (by omega), tableWet7 hb h.now.pr h.now.ar.wet hk, bd_some, nm_e', wetAt8 hb hk, bd_some, ix_nat (by omega), (h.now.pr.tab k hk).2.2, jmx_e (by omega) (by omega) (by omega) (by omega)]
    exact most_loop FU 61 T M h ho hk rfl rfl (by decide) (by show 61 < 5000; decide)
  · rw [bq_f (by omega) (by omega) (by omega) (by omega) (by omega), be_f (by omega) (by omega) (by omega)]
    exact Ef.s _
theorem dry_loop {Tf : Nat → Ob} {Mf : Ob} {w : Nat → Int} {kx : Int → Option (Int × Ob)} (hb : PB w) (h2 : PR (Tf 2) w) (h3 : ∀ c : Nat, c < 900 → Tf 3 16 c = w (519 + c)) (hbf : PB (Mf 1)) (h4 : PR (Tf 4) (Mf 1)) (h5 : ∀ c : Nat, c < 900 → Tf 5 16 c = Mf 1 (519 + c)) (h11 : ∀ k, k = 11 ∨ (35 ≤ k ∧ k < 59) → Mf 1 k = w k) (h15 : ∀ k, k < 1419 → Mf 15 k = w k) :
    ∀ (m k : Nat) (acc : Int), R32 acc → (k : Int) ≤ w 11 → w 11 - k < m → ∃ r, lX7_dry_26 Tf m acc (k : Int) = some (r, Tf) ∧ lX8_dry_26 Mf kx m acc (k : Int) = kx r := by
  have b11 := hb.b11; have b1 := hb.b1; have b2 := hb.b2
  intro m
  induction m with
  | zero => intro k acc _ h1 h2; omega
  | succ m ih =>
    intro k acc hr q1 q2
    rw [lX7_dry_26, lX8_dry_26, lit (by decide), show ix 11 = 11 from by decide, h2.p14, h11 11 (by omega)]
    by_cases c : w 11 ≤ k
    · rw [be_t c (by omega) (by omega), be_t c (by omega) (by omega)]
      exact ⟨acc, rfl, rfl⟩
    · have hk : (k : Int) < w 11 := by omega
      have ht := hb.tab k hk
      have hkf : (k : Int) < Mf 1 11 := by rw [h11 11 (by omega)]; exact hk
      rw [be_f (by omega) (by omega) (by omega), be_f (by omega) (by omega) (by omega), tableWet7 hbf h4 h5 hkf, bd_some, tableWet7 hb h2 h3 hk, bd_some, wetAt8 hbf hkf, bd_some, ofTable8 (c := 1) (d := 1) rfl (by decide) (by omega), bd_some, ofTable8 (c := 0) (d := 0) rfl (by decide) (by omega), bd_some, show 35 + 3 * k + 1 = 36 + 3 * k from by omega, show 35 + 3 * k + 0 = 35 + 3 * k from rfl, h11 (36 + 3 * k) (by omega), h11 (35 + 3 * k) (by omega), gi (by omega) (by omega) (by omega), ix_e (by omega) (by omega), show (519 + 30 * w (36 + 3 * k) + w (35 + 3 * k)).toNat = 519 + (30 * w (36 + 3 * k) + w (35 + 3 * k)).toNat from by omega, h15 _ (by omega)]
      simp only [nm_e']
      by_cases c2 : i32 (w (519 + (30 * w (36 + 3 * k) + w (35 + 3 * k)).toNat)) < i32 (Mf 1 (519 + (30 * w (36 + 3 * k) + w (35 + 3 * k)).toNat))
      · rw [bl_p c2, bl_p c2, jor_0 hr]
        exact ih (k + 1) acc hr (by omega) (by omega)
      · rw [bl_n c2, bl_n c2]
        exact ih (k + 1) _ (jor_r _ _) (by omega) (by omega)
theorem op_dry (h : Inv n T J M) (hx : R32 x) : Ef T M (fX7_dry T x) (fX8_dry M x) := by
  have hb := h.now.pb
  have b11 := hb.b11
  unfold fX7_dry fX8_dry
  obtain ⟨q, e1, e2, e3⟩ := asks_eq h hx
  rw [e1, e2, bd_some, bd_some]
  rcases e3 with ⟨rfl, j, rfl, ho⟩ | e3
  · obtain ⟨Tb, b1, b2, b3, b4⟩ := begin_ok h
    obtain ⟨Tf, Mf, M', f1, f2, f3, f4, f5, f6, f7, f8, f9, f10, f11⟩ := day_go (Td := Tb) (u := M 1) h ho (fun i' h4 h5 _ => b4 i' h4 h5) b2 hb b3 (fun k hk => rfl) h.still h.rep
    rw [show upA (Mk M) 1 (M 1) = Mk M from upA_self (M := Mk M) (k := 1)] at f2
    rw [bq_t rfl, be_t (by decide) (by decide) (by decide), b1, bd_some, f1, bd_some, thinksMk, bd_some, f2, bd_some]
    obtain ⟨r, g1, g2⟩ := dry_loop (Tf := Tf) (Mf := Mf) (w := M 1) (kx := fun lx3_11 => bd (fX8_wakes Mf) (fun rr_12 => some (lx3_11, rr_12))) hb (by rw [f4.1 2 (by decide) (by decide) (by decide)]; exact h.now.pr) (by rw [f4.1 3 (by decide) (by decide) (by decide)]; exact h.now.ar.wet) f7.1 f7.2 f8 (fun k hk => f10 k (by omega)) (fun k hk => by rw [f11]; exact if_pos hk) FU 0 0 ⟨by decide, by decide⟩ (by omega) (by show _ < ((5000 : Nat) : Int); omega)
    exact ⟨r, Tf, M', g1, g2.trans (by rw [f3, bd_some]), f4⟩
  · rw [bq_f (by omega) (by omega) (by omega) (by omega) (by omega), be_f (by omega) (by omega) (by omega)]
    exact Ef.s _
theorem week_loop {K : Nat} {kx : (Nat → Ob) → Option (Int × (Nat → Ob))} (hj : j < 4) (hK : K ≤ 10) : ∀ (d m i : Nat) (T : Nat → Ob) (A0 : Ob), RP (T 4) (T (6 + j)) d (T 5) A0 → i + d = K → d < m → lX7_week_30 (j : Int) (K : Int) z kx m (i : Int) T = kx (upO T 5 A0) := by
  intro d
  induction d with
  | zero =>
    intro m i T A0 h h1 h2
    obtain ⟨m, rfl⟩ : ∃ k, m = k + 1 := ⟨m - 1, by omega⟩
    have hA : A0 = T 5 := h
    rw [lX7_week_30, be_t (by omega) (by omega) (by omega), hA, upO_self]
  | succ d ih =>
    intro m i T A0 h h1 h2
    obtain ⟨m, rfl⟩ : ∃ k, m = k + 1 := ⟨m - 1, by omega⟩
    obtain ⟨r, A1, e1, e2⟩ : ∃ r A1, fX3_playRow (T 4) (T 5) (T (6 + j)) = some (r, A1) ∧ RP (T 4) (T (6 + j)) d A1 A0 := h
    rw [lX7_week_30, be_f (by omega) (by omega) (by omega), gi (by omega) (by omega) (by omega), ix_nat (by omega), e1, bd_some, nm_e', nm_e']
    have h' := ih m (i + 1) (upO T 5 A1) A0 (by rw [upO_n (show 4 ≠ 5 by decide), upO_n (show 6 + j ≠ 5 by omega), upO_s]; exact e2) (by omega) (by omega)
    rw [upO_upO] at h'
    exact h'
theorem op_week (h : Inv n T J M) (hx : R32 x) (hy : R32 y0) (hz : R32 z) : Ef T M (fX7_week T x y0 z) (fX8_week M x y0 z) := by
  unfold fX7_week fX8_week
  rcases isThought_eq h hx hz with ⟨e1, e2⟩ | ⟨e1, e2, c, j, rfl, ho⟩
  · rw [e1, e2, bd_some, bd_some, bq_t rfl, bq_t rfl]
    exact Ef.s _
  · rw [e1, e2, bd_some, bd_some, bq_f (by decide) (by decide) (by decide) (by decide) (by decide), bq_f (by decide) (by decide) (by decide) (by decide) (by decide), within7r hy ⟨by decide, by decide⟩ ⟨by decide, by decide⟩, in8i hy ⟨by decide, by decide⟩ ⟨by decide, by decide⟩, bd_some, bd_some, bq_ite, bq_ite]
    refine Ef.ite (fun c2 => ?_) (fun _ => Ef.s _)
    obtain ⟨q, rfl⟩ := Int.eq_ofNat_of_zero_le c.1
    obtain ⟨K, rfl⟩ := Int.eq_ofNat_of_zero_le (show 0 ≤ y0 by omega)
    have hj := ho.1
    obtain ⟨Tb, b1, b2, b3, b4⟩ := begin_ok h
    obtain ⟨A1, A2, Mf, M', f1, f2, f3, f4, f5, f6, -⟩ := dream_go (Td := Tb) (u := up1 (M 1) 24 (K : Int)) (K := K) h ho (Pm.pr (fun k hk => up1_n (by omega)) h.now.pb b2) (h.now.pb.set (by omega)) b3 (fun k hk => up1_n (by omega)) (by rw [up1_n (by decide)]; exact h.still) up1_s (by omega)
    obtain ⟨k, rfl⟩ : ∃ k, K = k + 1 := ⟨K - 1, by omega⟩
    rw [← b4 (6 + j) (by omega) (by omega)] at f1
    obtain ⟨r, A0, g1, g2⟩ := RP.snoc k _ _ f1
    have hw := week_loop (j := j) (K := k + 1) (z := (q : Int)) (kx := fun T_8 => bd (fX7_dreamDay T_8 (j : Int)) (fun rr_9 => bd (fX7_gainOf rr_9 (q : Int)) (fun rr_10 => some (rr_10, rr_9)))) hj (by omega) k FU 1 Tb A0 g1 (by omega) (by show k < 5000; omega)
    have hd := dreamDay_ok (Td := upO Tb 5 A0) (j := j) (r := r) (A1 := A1) (A2 := A2) hj (by rw [upO_n (by decide), upO_s, upO_n (by omega)]; exact g2) (by rw [upO_n (by decide)]; exact f2)
    rw [upO_upO] at hd
    have hg := f6 (upO Tb 5 A2) (by rw [upO_n (by decide)]; exact b4 2 (by decide) (by decide)) (by rw [upO_n (by decide)]; exact b4 3 (by decide) (by decide)) (by rw [upO_n (by decide)]) (by rw [upO_s]) q (by omega)
    rw [hd, bd_some, hg, bd_some] at hw
    rw [b1, bd_some, thinksBy8 (a := 24) (by decide) (by decide) f3 f4, bd_some, gi (by omega) (by omega) (by omega), ix_nat (by omega)]
    exact ⟨M' 16 q, _, M', hw, rfl, f5 _ (fun i h4 h5 _ => by rw [upO_n h5, b4 i h4 h5])⟩
end
