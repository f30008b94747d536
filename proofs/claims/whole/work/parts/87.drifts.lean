/-! LAYER 2: a beat of the model: drifts -/
/-- where the s-th drops of the lump at l come by one more beat of wind v -/
noncomputable def lpl (w : Nat → Int) (l s : Nat) (v : Int) : Int := plc w (w (l + 1) + (w (l + 3 + 2 * s) + w (25 + 2 * s) * vE v).tdiv 100) (w (l + 2) + (w (l + 4 + 2 * s) + w (25 + 2 * s) * vS v).tdiv 100)
/-- what the beat adds for the s-th drops of the lump at l -/
noncomputable def dlt (w : Nat → Int) (l : Nat) (v : Int) (s k : Nat) : Int := (if k = l + 3 + 2 * s then w (25 + 2 * s) * vE v else 0) + (if k = l + 4 + 2 * s then w (25 + 2 * s) * vS v else 0) + (if w l = w 14 + 1 then hit (lpl w l s v) (w (26 + 2 * s)) k else 0)
theorem dlt_z {w : Nat → Int} {l : Nat} {v : Int} {s k : Nat} (h1 : k ≠ 18) (h2 : k ≠ 19) (h3 : k ≠ 20) (h4 : k < 519) (h5 : k ≠ l + 3 + 2 * s) (h6 : k ≠ l + 4 + 2 * s) : dlt w l v s k = 0 := by
  unfold dlt
  rw [if_neg h5, if_neg h6, hit_z h1 h2 h3 h4]
  split <;> rfl
theorem dlt_c {w : Nat → Int} {l : Nat} {v : Int} {s k : Nat} (h5 : k ≠ l + 3 + 2 * s) (h6 : k ≠ l + 4 + 2 * s) : dlt w l v s k = if w l = w 14 + 1 then hit (lpl w l s v) (w (26 + 2 * s)) k else 0 := by
  unfold dlt
  rw [if_neg h5, if_neg h6]; omega
theorem drag8u {M : Ob} {u : Nat → Int} {s : Nat} (hs : s < 5) : fX8_dragOf (upA M 1 u) (s : Int) = some (u (25 + 2 * s)) := drag8 hs
/-- one turn of the inner loop -/
theorem drift_body {M : Ob} {u : Nat → Int} {l s t m : Nat} {v : Int} {kx : Int → Ob → Option (Int × Ob)} {acc : Int} (hb : PB u) (hl : 103 ≤ l) (hl2 : l + 13 ≤ 519) (hs : (s : Int) < u 10) (hv : 0 ≤ v) (hv2 : v ≤ 39)
    (hd : R32 (u l)) (hn : 0 ≤ u 14 ∧ u 14 ≤ 1000000000)
    (hx : 0 ≤ u (l + 1) ∧ u (l + 1) ≤ 29) (hz : 0 ≤ u (l + 2) ∧ u (l + 2) ≤ 29) (hdx : -29000 ≤ u (l + 3 + 2 * s) ∧ u (l + 3 + 2 * s) ≤ 29000) (hdz : -29000 ≤ u (l + 4 + 2 * s) ∧ u (l + 4 + 2 * s) ≤ 29000) :
    lX8_drifts_39 v (t : Int) (l : Int) kx (m + 1) acc (s : Int) (upA M 1 u) = lX8_drifts_39 v (t : Int) (l : Int) kx m (acc + (dlt u l v s 19 + dlt u l v s 20)) ((s : Int) + 1) (upA M 1 (fun k => u k + dlt u l v s k)) := by
  have b10 := hb.b10
  obtain ⟨t1, t2, t3, t4⟩ := hb.size s hs
  have e1 := mul_b t1 t2 (vE_b hv hv2).1 (vE_b hv hv2).2
  have e2 := mul_b t1 t2 (vS_b hv hv2).1 (vS_b hv hv2).2
  have hd1 := hd.1; have hd2 := hd.2
  have i3 : ix ((l : Int) + 3 + 2 * (s : Int)) = l + 3 + 2 * s := by rw [ix_e (by omega) (by omega)]; omega
  have i4 : ix ((l : Int) + 4 + 2 * (s : Int)) = l + 4 + 2 * s := by rw [ix_e (by omega) (by omega)]; omega
  generalize hu2 : up1 (up1 u (l + 3 + 2 * s) (u (l + 3 + 2 * s) + u (25 + 2 * s) * vE v)) (l + 4 + 2 * s) (u (l + 4 + 2 * s) + u (25 + 2 * s) * vS v) = u2
  have r3 : u2 (l + 3 + 2 * s) = u (l + 3 + 2 * s) + u (25 + 2 * s) * vE v := by rw [← hu2, up1_n (by omega), up1_s]
  have r4 : u2 (l + 4 + 2 * s) = u (l + 4 + 2 * s) + u (25 + 2 * s) * vS v := by rw [← hu2, up1_s]
  have rn : ∀ k, k ≠ l + 3 + 2 * s → k ≠ l + 4 + 2 * s → u2 k = u k := fun k c1 c2 => by rw [← hu2, up1_n c2, up1_n c1]
  have hpl : Pl u2 u := fun k hk => rn k (by omega) (by omega)
  rw [lX8_drifts_39, lit (by decide), show ix 10 = 10 from by decide, upA_1, be_f (by omega) (by omega) (by omega), gi (by omega) (by omega) (by omega), drag8u (by omega), bd_some, eastBy8 hv hv2, bd_some, gi (by omega) (by omega) (by omega), i3, up2_upA, nm_e', gi (by omega) (by omega) (by omega), drag8u (by omega), bd_some, southBy8 hv hv2, bd_some, gi (by omega) (by omega) (by omega), i4, up2_upA, nm_e']
  simp only [upA_1]
  rw [up1_n (show 25 + 2 * s ≠ l + 3 + 2 * s by omega), up1_n (show l + 4 + 2 * s ≠ l + 3 + 2 * s by omega), hu2, gi (by omega) (by omega) (by omega), lit (by decide), ix_nat (by omega), show ix 14 = 14 from by decide, rn l (by omega) (by omega), rn 14 (by omega) (by omega)]
  by_cases c : u l = u 14 + 1
  · have hp : plc u2 (u2 (l + 1) + (u2 (l + 3 + 2 * s)).tdiv 100) (u2 (l + 2) + (u2 (l + 4 + 2 * s)).tdiv 100) = lpl u l s v := by
      rw [hpl.pc, r3, r4, rn (l + 1) (by omega) (by omega), rn (l + 2) (by omega) (by omega)]; rfl
    rw [bq_t c, lands8 (hpl.pb hb) hl hl2 (by rw [rn 10 (by omega) (by omega)]; exact hs) (by rw [rn _ (by omega) (by omega)]; exact hx) (by rw [rn _ (by omega) (by omega)]; exact hz) (by rw [r3]; omega) (by rw [r4]; omega) hp.symm, bd_some, nm_e', nm_e', rn (26 + 2 * s) (by omega) (by omega)]
    rw [dlt_c (k := 19) (by omega) (by omega), dlt_c (k := 20) (by omega) (by omega), if_pos c, if_pos c]
    refine congrArg (lX8_drifts_39 v (t : Int) (l : Int) kx m _ _) (congrArg (upA M 1) ?_)
    funext k
    show u2 k + hit (lpl u l s v) (u (26 + 2 * s)) k = u k + dlt u l v s k
    unfold dlt
    rw [if_pos c]
    by_cases k3 : k = l + 3 + 2 * s
    · subst k3
      rw [r3, if_pos rfl, if_neg (by omega)]; omega
    · by_cases k4 : k = l + 4 + 2 * s
      · subst k4
        rw [r4, if_pos rfl, if_neg (by omega)]; omega
      · rw [rn k k3 k4, if_neg k3, if_neg k4]; omega
  · rw [bq_f c hd1 hd2 (by omega) (by omega), nm_e', nm_e', dlt_c (k := 19) (by omega) (by omega), dlt_c (k := 20) (by omega) (by omega), if_neg c, if_neg c]
    refine congrArg (lX8_drifts_39 v (t : Int) (l : Int) kx m _ _) (congrArg (upA M 1) ?_)
    funext k
    show u2 k = u k + dlt u l v s k
    unfold dlt
    rw [if_neg c]
    by_cases k3 : k = l + 3 + 2 * s
    · subst k3
      rw [r3, if_pos rfl, if_neg (by omega)]; omega
    · by_cases k4 : k = l + 4 + 2 * s
      · subst k4
        rw [r4, if_pos rfl, if_neg (by omega)]; omega
      · rw [rn k k3 k4, if_neg k3, if_neg k4]; omega
/-- a lump of the model is in order, as far as a beat asks -/
def lok (w : Nat → Int) (l : Nat) : Prop := (0 ≤ w (l + 1) ∧ w (l + 1) ≤ 29) ∧ (0 ≤ w (l + 2) ∧ w (l + 2) ≤ 29) ∧ ∀ s : Nat, (s : Int) < w 10 → (-29000 ≤ w (l + 3 + 2 * s) ∧ w (l + 3 + 2 * s) ≤ 29000) ∧ -29000 ≤ w (l + 4 + 2 * s) ∧ w (l + 4 + 2 * s) ≤ 29000
noncomputable def dls (w : Nat → Int) (l : Nat) (v : Int) (s k : Nat) : Int := sm (fun i => dlt w l v i k) s
theorem dls_z {w : Nat → Int} {l : Nat} {v : Int} {s k : Nat} (h1 : k ≠ 18) (h2 : k ≠ 19) (h3 : k ≠ 20) (h4 : k < 519) (h5 : k < l + 3 ∨ l + 3 + 2 * s ≤ k) : dls w l v s k = 0 := sm_zero (fun i hi => dlt_z h1 h2 h3 h4 (by omega) (by omega))
theorem dlt_w {u w : Nat → Int} {l : Nat} {v : Int} {s : Nat} (hp : Pl u w) (hs : s < 5) (h14 : u 14 = w 14) (h0 : u l = w l) (h1 : u (l + 1) = w (l + 1)) (h2 : u (l + 2) = w (l + 2)) (h3 : u (l + 3 + 2 * s) = w (l + 3 + 2 * s)) (h4 : u (l + 4 + 2 * s) = w (l + 4 + 2 * s)) (k : Nat) : dlt u l v s k = dlt w l v s k := by
  unfold dlt lpl
  rw [hp.pc, h14, h0, h1, h2, h3, h4, hp (25 + 2 * s) (by omega), hp (26 + 2 * s) (by omega)]
theorem drift_loop {M : Ob} {w : Nat → Int} {l t : Nat} {v : Int} {kx : Int → Ob → Option (Int × Ob)} {acc : Int} (hb : PB w) (hl : 103 ≤ l) (hl2 : l + 13 ≤ 519) (hv : 0 ≤ v) (hv2 : v ≤ 39)
    (hd : R32 (w l)) (hn : 0 ≤ w 14 ∧ w 14 ≤ 1000000000) (hk : lok w l) :
    ∀ (m s : Nat), (s : Int) ≤ w 10 → w 10 - s < m → lX8_drifts_39 v (t : Int) (l : Int) kx m (acc + (dls w l v s 19 + dls w l v s 20)) (s : Int) (upA M 1 (fun k => w k + dls w l v s k)) = kx (acc + (dls w l v (w 10).toNat 19 + dls w l v (w 10).toNat 20)) (upA M 1 (fun k => w k + dls w l v (w 10).toNat k)) := by
  have b10 := hb.b10
  intro m
  induction m with
  | zero => intro s q1 q2; omega
  | succ m ih =>
    intro s q1 q2
    generalize hu : (fun k => w k + dls w l v s k) = u
    have rz : ∀ k, k ≠ 18 → k ≠ 19 → k ≠ 20 → k < 519 → (k < l + 3 ∨ l + 3 + 2 * s ≤ k) → u k = w k := fun k c1 c2 c3 c4 c5 => by
      rw [← hu]
      show w k + dls w l v s k = w k
      rw [dls_z c1 c2 c3 c4 c5]; omega
    have hpl : Pl u w := fun k hk => rz k (by omega) (by omega) (by omega) (by omega) (by omega)
    by_cases c : w 10 ≤ s
    · rw [lX8_drifts_39, lit (by decide), show ix 10 = 10 from by decide, upA_1, rz 10 (by omega) (by omega) (by omega) (by omega) (by omega), be_t c (by omega) (by omega), ← hu, show (w 10).toNat = s from by omega]
    · have hs : (s : Int) < w 10 := by omega
      have k1 := hk.1; have k2 := hk.2.1; have k3 := (hk.2.2 s hs).1; have k4 := (hk.2.2 s hs).2
      have z0 := rz l (by omega) (by omega) (by omega) (by omega) (by omega)
      have z1 := rz (l + 1) (by omega) (by omega) (by omega) (by omega) (by omega)
      have z2 := rz (l + 2) (by omega) (by omega) (by omega) (by omega) (by omega)
      have z3 := rz (l + 3 + 2 * s) (by omega) (by omega) (by omega) (by omega) (by omega)
      have z4 := rz (l + 4 + 2 * s) (by omega) (by omega) (by omega) (by omega) (by omega)
      have z10 := rz 10 (by omega) (by omega) (by omega) (by omega) (by omega)
      have z14 := rz 14 (by omega) (by omega) (by omega) (by omega) (by omega)
      rw [drift_body (hpl.pb hb) hl hl2 (by rw [z10]; exact hs) hv hv2 (by rw [z0]; exact hd) (by rw [z14]; exact hn) (by rw [z1]; exact k1) (by rw [z2]; exact k2) (by rw [z3]; exact k3) (by rw [z4]; exact k4)]
      have e : ∀ k, dlt u l v s k = dlt w l v s k := dlt_w hpl (by omega) z14 z0 z1 z2 z3 z4
      have h := ih (s + 1) (by omega) (by omega)
      rw [e 19, e 20, show (fun k => u k + dlt u l v s k) = (fun k => w k + dls w l v (s + 1) k) from by
        funext k
        rw [e k, ← hu]
        show w k + dls w l v s k + dlt w l v s k = w k + (dls w l v s k + dlt w l v s k)
        omega]
      rw [show acc + (dls w l v s 19 + dls w l v s 20) + (dlt w l v s 19 + dlt w l v s 20) = acc + (dls w l v (s + 1) 19 + dls w l v (s + 1) 20) from by
        show acc + (dls w l v s 19 + dls w l v s 20) + (dlt w l v s 19 + dlt w l v s 20) = acc + ((dls w l v s 19 + dlt w l v s 19) + (dls w l v s 20 + dlt w l v s 20))
        omega]
      exact h
/-- beat b's lump is up -/
abbrev upb (w : Nat → Int) (b : Nat) : Prop := 1 ≤ b ∧ w 14 < w (lm b)
theorem lump8 {M : Ob} {b : Nat} (hb : b ≤ 1000000000) : fX8_lump M (b : Int) = some ((lm b : Nat) : Int) := by
  unfold fX8_lump lm
  rw [jrm_n (by omega) (by omega) (by decide) (by decide)]
  refine congrArg some ?_
  omega
theorem lm_b (b : Nat) : 103 ≤ lm b ∧ lm b + 13 ≤ 519 := by unfold lm; omega
theorem isUp8 {M : Ob} {u : Nat → Int} {b : Nat} (hb : b ≤ 1000000000) (hn : R32 (u 14)) (hd : R32 (u (lm b))) : fX8_isUp (upA M 1 u) (b : Int) = some (if upb u b then 1 else 0) := by
  have hl := lm_b b
  have := hn.1; have := hn.2; have := hd.1; have := hd.2
  unfold fX8_isUp
  by_cases c : 1 ≤ b
  · rw [be_f (by omega) (by omega) (by omega), lump8 hb, bd_some, gi (by omega) (by omega) (by omega), lit (by decide), ix_nat (by omega), show ix 14 = 14 from by decide, upA_1]
    by_cases c2 : u 14 < u (lm b)
    · rw [be_f (by omega) (by omega) (by omega), if_pos (show upb u b from ⟨c, c2⟩)]
    · rw [be_t (by omega) (by omega) (by omega), if_neg (show ¬ upb u b from fun q => c2 q.2)]
  · rw [be_t (by omega) (by omega) (by omega), if_neg (show ¬ upb u b from fun q => c q.1)]
/-- what the beat adds for the lump of beat b -/
noncomputable def dlb (w : Nat → Int) (v : Int) (b k : Nat) : Int := if upb w b then dls w (lm b) v (w 10).toNat k else 0
theorem dlb_z {w : Nat → Int} {v : Int} {b k : Nat} (hb : PB w) (h1 : k ≠ 18) (h2 : k ≠ 19) (h3 : k ≠ 20) (h4 : k < 519) (h5 : k < lm b + 3 ∨ lm b + 13 ≤ k) : dlb w v b k = 0 := by
  have b10 := hb.b10
  unfold dlb
  split
  · exact dls_z h1 h2 h3 h4 (by omega)
  · rfl
/-- all lumps of the window -/
noncomputable def dla (w : Nat → Int) (v : Int) (f j k : Nat) : Int := sm (fun i => dlb w v (f + i) k) j
/-- what the drifts of a beat ask of the world -/
def dok (w : Nat → Int) : Prop := PB w ∧ (0 ≤ w 14 ∧ w 14 ≤ 400000) ∧ ∀ b : Nat, inW w b → R32 (w (lm b)) ∧ (w 14 < w (lm b) → lok w (lm b))
theorem lm_ne {b c d : Nat} (h : b < c) (h2 : c < b + 32) (hd : d < 13) : lm c + d < lm b + 3 ∨ lm b + 13 ≤ lm c + d := by unfold lm; omega
theorem drifts_loop {M : Ob} {w : Nat → Int} {v : Int} {f N : Nat} (hw : dok w) (hv : 0 ≤ v) (hv2 : v ≤ 39) (hN : w 14 = (N : Int)) (hf : 1 ≤ f) (hf2 : N < f + 31) {acc : Int} :
    ∀ (m j : Nat), f + j ≤ N + 1 → N + 1 - (f + j) < m → lX8_drifts_7 v m (acc + (dla w v f j 19 + dla w v f j 20)) ((f + j : Nat) : Int) (upA M 1 (fun k => w k + dla w v f j k)) = some (acc + (dla w v f (N + 1 - f) 19 + dla w v f (N + 1 - f) 20), upA M 1 (fun k => w k + dla w v f (N + 1 - f) k)) := by
  obtain ⟨hb, hn, hu⟩ := hw
  have b10 := hb.b10
  intro m
  induction m with
  | zero => intro j q1 q2; omega
  | succ m ih =>
    intro j q1 q2
    generalize hu2 : (fun k => w k + dla w v f j k) = u
    have rz : ∀ k, k ≠ 18 → k ≠ 19 → k ≠ 20 → k < 519 → (∀ i, i < j → k < lm (f + i) + 3 ∨ lm (f + i) + 13 ≤ k) → u k = w k := fun k c1 c2 c3 c4 c5 => by
      rw [← hu2]
      show w k + dla w v f j k = w k
      rw [show dla w v f j k = 0 from sm_zero (fun i hi => dlb_z hb c1 c2 c3 c4 (c5 i hi))]; omega
    have hlo : ∀ k, k ≠ 18 → k ≠ 19 → k ≠ 20 → k < 106 → u k = w k := fun k c1 c2 c3 c4 => rz k c1 c2 c3 (by omega) (fun i _ => by have := lm_b (f + i); omega)
    have hpl : Pl u w := fun k hk => hlo k (by omega) (by omega) (by omega) (by omega)
    have z14 := hlo 14 (by omega) (by omega) (by omega) (by omega)
    rw [lX8_drifts_7, lit (by decide), show ix 14 = 14 from by decide, upA_1, z14]
    by_cases c : N < f + j
    · rw [bl_t (by omega) (by omega) (by omega), ← hu2, show N + 1 - f = j from by omega]
    · have hl := lm_b (f + j)
      have hin : inW w (f + j) := ⟨by omega, by omega, by omega⟩
      have hr := (hu (f + j) hin).1
      have zl : ∀ d, d < 13 → u (lm (f + j) + d) = w (lm (f + j) + d) := fun d hd => rz _ (by omega) (by omega) (by omega) (by omega) (fun i hi => lm_ne (by omega) (by omega) hd)
      have z0 := zl 0 (by omega)
      rw [Nat.add_zero] at z0
      have z3 : ∀ s, s < 5 → u (lm (f + j) + 3 + 2 * s) = w (lm (f + j) + 3 + 2 * s) := fun s hs => by
        have h := zl (3 + 2 * s) (by omega)
        rw [← Nat.add_assoc] at h
        exact h
      have z4 : ∀ s, s < 5 → u (lm (f + j) + 4 + 2 * s) = w (lm (f + j) + 4 + 2 * s) := fun s hs => by
        have h := zl (4 + 2 * s) (by omega)
        rw [← Nat.add_assoc] at h
        exact h
      have hupe : upb u (f + j) ↔ upb w (f + j) := by unfold upb; rw [z14, z0]
      rw [bl_f (by omega) (by omega) (by omega), isUp8 (by omega) (by rw [z14]; exact ⟨by omega, by omega⟩) (by rw [z0]; exact hr), bd_some, bq_ite]
      have hs1 : ∀ k, dla w v f (j + 1) k = dla w v f j k + dlb w v (f + j) k := fun k => rfl
      by_cases cu : upb w (f + j)
      · have hlk := (hu (f + j) hin).2 cu.2
        have hlk2 : lok u (lm (f + j)) := by
          unfold lok
          rw [hpl 10 (by omega), zl 1 (by omega), zl 2 (by omega)]
          refine ⟨hlk.1, hlk.2.1, fun s hs => ?_⟩
          rw [z3 s (by omega), z4 s (by omega)]
          exact hlk.2.2 s hs
        have ed : ∀ k, dls u (lm (f + j)) v (u 10).toNat k = dlb w v (f + j) k := fun k => by
          unfold dlb
          rw [if_pos cu, hpl 10 (by omega)]
          refine sm_congr (fun i hi => dlt_w hpl (by omega) z14 z0 (zl 1 (by omega)) (zl 2 (by omega)) ?_ ?_ k)
          · exact z3 i (by omega)
          · exact z4 i (by omega)
        rw [if_pos (hupe.mpr cu), lump8 (by omega), bd_some]
        have h := drift_loop (M := M) (w := u) (l := lm (f + j)) (t := f + j) (v := v) (kx := fun lx2_15 M_16 => nm (((f + j : Nat) : Int) + 1) (fun lx3_17 => lX8_drifts_7 v m lx2_15 lx3_17 M_16)) (acc := acc + (dla w v f j 19 + dla w v f j 20)) (hpl.pb hb) hl.1 hl.2 hv hv2 (by rw [z0]; exact hr) (by rw [z14]; omega) hlk2 FU 0 (by rw [hpl 10 (by omega)]; omega) (by rw [hpl 10 (by omega)]; show _ < ((5000 : Nat) : Int); omega)
        rw [show (fun k => u k + dls u (lm (f + j)) v 0 k) = u from by funext k; show u k + 0 = u k; omega, show acc + (dla w v f j 19 + dla w v f j 20) + (dls u (lm (f + j)) v 0 19 + dls u (lm (f + j)) v 0 20) = acc + (dla w v f j 19 + dla w v f j 20) from by show _ + ((0 : Int) + 0) = _; omega, show ((0 : Nat) : Int) = 0 from rfl] at h
        rw [h, nm_e', ed 19, ed 20]
        have h2 := ih (j + 1) (by omega) (by omega)
        rw [hs1 19, hs1 20, show (fun k => w k + dla w v f (j + 1) k) = (fun k => u k + dls u (lm (f + j)) v (u 10).toNat k) from by
          funext k
          rw [hs1 k, ed k, ← hu2]
          show w k + (dla w v f j k + dlb w v (f + j) k) = w k + dla w v f j k + dlb w v (f + j) k
          omega] at h2
        rw [show acc + (dla w v f j 19 + dla w v f j 20) + (dlb w v (f + j) 19 + dlb w v (f + j) 20) = acc + (dla w v f j 19 + dlb w v (f + j) 19 + (dla w v f j 20 + dlb w v (f + j) 20)) from by omega]
        exact h2
      · have hz : ∀ k, dlb w v (f + j) k = 0 := fun k => by unfold dlb; rw [if_neg cu]
        rw [if_neg (fun q => cu (hupe.mp q)), nm_e']
        have h2 := ih (j + 1) (by omega) (by omega)
        rw [hs1 19, hs1 20, hz 19, hz 20, Int.add_zero, Int.add_zero, show (fun k => w k + dla w v f (j + 1) k) = u from by
          funext k
          rw [hs1 k, hz k, ← hu2]
          show w k + (dla w v f j k + 0) = w k + dla w v f j k
          omega] at h2
        exact h2
/-- the first beat that can be up -/
def fB (N : Nat) : Nat := if N ≤ 31 then 1 else N - 30
theorem firstBeat8 {M : Ob} {u : Nat → Int} {N : Nat} (hN : u 14 = (N : Int)) (hb : N ≤ 400000) : fX8_firstBeat (upA M 1 u) = some ((fB N : Nat) : Int) := by
  unfold fX8_firstBeat fB
  rw [lit (by decide), show ix 14 = 14 from by decide, upA_1, hN, jmx_e (by omega) (by omega) (by omega) (by omega)]
  refine congrArg some ?_
  split <;> omega
theorem drifts8 {M : Ob} {w : Nat → Int} {v : Int} {N : Nat} (hM : M 1 = w) (hw : dok w) (hv : 0 ≤ v) (hv2 : v ≤ 39) (hN : w 14 = (N : Int)) :
    fX8_drifts M v = some (dla w v (fB N) (N + 1 - fB N) 19 + dla w v (fB N) (N + 1 - fB N) 20, upA M 1 (fun k => w k + dla w v (fB N) (N + 1 - fB N) k)) := by
  have hn := hw.2.1
  have hf : 1 ≤ fB N ∧ N < fB N + 31 ∧ fB N ≤ N + 1 ∧ N + 1 - fB N < 40 := by unfold fB; split <;> omega
  have h := drifts_loop (M := M) (f := fB N) (acc := 0) hw hv hv2 hN hf.1 hf.2.1 FU 0 (by omega) (by show _ < 5000; omega)
  rw [show (fun k => w k + dla w v (fB N) 0 k) = w from by funext k; show w k + 0 = w k; omega] at h
  unfold fX8_drifts
  have hM2 : M = upA M 1 w := by rw [← hM, upA_self]
  rw [show fX8_firstBeat M = some ((fB N : Nat) : Int) from by rw [hM2]; exact firstBeat8 hN (by omega), bd_some]
  rw [Int.zero_add, show dla w v (fB N) 0 19 + dla w v (fB N) 0 20 = 0 from rfl, Nat.add_zero, ← hM2, Int.zero_add] at h
  exact h
