/-! LAYER 2: what is in the air: water, already, coming, worst, last -/
theorem ring_eq {P A : Ob} {u : Nat → Int} {B : Int} {N : Nat} {F G : Nat → Int} (h : WR P A u B) (hN : u 14 = (N : Int)) (hF : ∀ b, ¬ upb u b → F b = 0) (hG : ∀ r, r < 32 → ¬ 0 < A 9 r → G r = 0) (hFG : ∀ b, inW u b → 0 < A 9 (rg b) → F b = G (rg b)) : sm (fun i => F (fB N + i)) (N + 1 - fB N) = sm G 32 := by
  have har := h.ar
  rw [sum_rev (hF 0 not_up0), ← rot1 (G := G) N]
  have h31 : F (N - 31) = 0 := hF _ (fun q => by
    have q1 := q.1
    have hi : inW u (N - 31) := ⟨q1, by omega, by omega⟩
    have hu := (ar_up h.ab har hi).mp q
    have h1 := har.up _ hi hu
    have h2 := har.pace _ hi
    have h3 := q.2
    omega)
  have e : sm (fun j => F (N - j)) 31 = sm (fun j => F (N - j)) 32 := by
    show _ = sm (fun j => F (N - j)) 31 + F (N - 31)
    rw [h31]; omega
  rw [e]
  refine sm_congr (fun j hj => ?_)
  show F (N - j) = G ((N + 31 - j) % 32)
  by_cases c : j < N
  · have hi : inW u (N - j) := ⟨by omega, by omega, by omega⟩
    have hr : (N + 31 - j) % 32 = rg (N - j) := by unfold rg; omega
    rw [hr]
    by_cases cu : 0 < A 9 (rg (N - j))
    · exact hFG _ hi cu
    · rw [hF _ (fun q => cu ((ar_up h.ab har hi).mp q)), hG _ (by unfold rg; omega) cu]
  · rw [show N - j = 0 from by omega, hF 0 not_up0, hG _ (by omega) (by rw [har.free ((N + 31 - j) % 32) (by omega) (by omega)]; decide)]
theorem pace_r {P A : Ob} {u : Nat → Int} {B : Int} (h : WR P A u B) {i : Nat} (hi : i < 32) : 0 ≤ A 9 i ∧ A 9 i ≤ 11 := by
  have hn := h.ab.beats
  obtain ⟨N, hN⟩ : ∃ N : Nat, u 14 = (N : Int) := ⟨(u 14).toNat, by omega⟩
  by_cases c : i < N
  · obtain ⟨b, hb1, rfl⟩ := ring_b hN hi c
    exact h.ar.pace b hb1
  · rw [h.ar.free i hi (by omega)]; omega
theorem cok_r {P A : Ob} {u : Nat → Int} {B : Int} (h : WR P A u B) {i : Nat} (hi : i < 32) (hpos : 0 < A 9 i) : cok A u i := by
  have hn := h.ab.beats
  have har := h.ar
  obtain ⟨N, hN⟩ : ∃ N : Nat, u 14 = (N : Int) := ⟨(u 14).toNat, by omega⟩
  by_cases c : i < N
  · obtain ⟨b, hb1, rfl⟩ := ring_b hN hi c
    have hu := har.up b hb1 hpos
    have hpc := har.pace b hb1
    unfold cok
    rw [hu.2.2.1, hu.2.2.2.1]
    refine ⟨by omega, by omega, fun s hs => ?_⟩
    have hd := har.drift b hb1 hpos s hs
    have hdb := har.driftB b hb1 hpos s hs
    omega
  · rw [har.free i hi (by omega)] at hpos
    exact absurd hpos (by decide)
theorem lumpsN_e {P A : Ob} {u : Nat → Int} {B : Int} {N : Nat} (h : WR P A u B) (hN : u 14 = (N : Int)) : lumpsN u N = upN A := ring_eq (F := fun b => if upb u b then 1 else 0) (G := fun r => if 0 < A 9 r then 1 else 0) h hN (fun b hb => if_neg hb) (fun r _ hr => if_neg hr) (fun b hi hpos => by
  show (if upb u b then (1 : Int) else 0) = if 0 < A 9 (rg b) then 1 else 0
  rw [if_pos ((ar_up h.ab h.ar hi).mpr hpos), if_pos hpos])
theorem lumpsUp7 {P A : Ob} {u : Nat → Int} {B : Int} (h : WR P A u B) : fX0_lumpsUp A = some (upN A) := by
  have hl : ∀ (m i : Nat), i ≤ 32 → 32 - i < m → lX0_lumpsUp_4 A m (sm (fun i => if 0 < A 9 i then 1 else 0) i) (i : Int) = some (upN A) := by
    intro m
    induction m with
    | zero => intro i _ h2; omega
    | succ m ih =>
      intro i h1 h2
      rw [lX0_lumpsUp_4]
      by_cases c : i = 32
      · subst c
        rw [be_t (by decide) (by decide) (by decide)]
        rfl
      · have hp := pace_r h (i := i) (by omega)
        have hi := ih (i + 1) (by omega) (by omega)
        rw [be_f (by omega) (by omega) (by omega), gi (by omega) (by omega) (by omega), ix_nat (by omega), nm_e', nm_e', nm_e']
        rw [sm] at hi
        by_cases cp : 0 < A 9 i
        · rw [if_pos cp] at hi
          rw [be_f (by omega) (by omega) (by omega)]
          exact hi
        · rw [if_neg cp, Int.add_zero] at hi
          rw [be_t (by omega) (by omega) (by omega)]
          exact hi
  exact hl FU 0 (by omega) (by show _ < 5000; omega)
theorem lumpDrops8 {M : Ob} (hb : PB (M 1)) : fX8_lumpDrops M = some (shS (M 1)) := by
  have b10 := hb.b10
  have hl : ∀ (m s : Nat), (s : Int) ≤ M 1 10 → M 1 10 - s < m → lX8_lumpDrops_4 M m (sm (fun s => M 1 (26 + 2 * s)) s) (s : Int) = some (shS (M 1)) := by
    intro m
    induction m with
    | zero => intro s h1 h2; omega
    | succ m ih =>
      intro s h1 h2
      rw [lX8_lumpDrops_4, lit (by decide), show ix 10 = 10 from by decide]
      by_cases c : M 1 10 ≤ s
      · rw [be_t c (by omega) (by omega)]
        unfold shS
        rw [show (M 1 10).toNat = s from by omega]
      · rw [be_f (by omega) (by omega) (by omega), share8 (by omega), bd_some, nm_e', nm_e']
        exact ih (s + 1) (by omega) (by omega)
  exact hl FU 0 (by omega) (by show _ < ((5000 : Nat) : Int); omega)
/-- steps of what is up: by the beats that are left and the wind -/
noncomputable def duP (w : Nat → Int) (v : Int) (b s : Nat) : Int := plc w (w (lm b + 1) + (w (lm b + 3 + 2 * s) + w (25 + 2 * s) * vE v * (w (lm b) - w 14)).tdiv 100) (w (lm b + 2) + (w (lm b + 4 + 2 * s) + w (25 + 2 * s) * vS v * (w (lm b) - w 14)).tdiv 100)
/-- the same, on the class's side -/
noncomputable def clP (A : Ob) (w : Nat → Int) (v : Int) (N r s : Nat) : Int := cpp A w r s ((2 * A 9 r - ((N : Int) - 1 - (r : Int)) % 32) * (v % 10) * wayX (v / 10).toNat) ((2 * A 9 r - ((N : Int) - 1 - (r : Int)) % 32) * (v % 10) * wayY (v / 10).toNat)
section
variable {P A M : Ob} {w : Nat → Int} {B v : Int} {N : Nat}
theorem left_e (h : WR P A w B) (hN : w 14 = (N : Int)) {b : Nat} (hi : inW w b) (hpos : 0 < A 9 (rg b)) : 2 * A 9 (rg b) - ((N : Int) - 1 - ((rg b : Nat) : Int)) % 32 = w (lm b) - w 14 := by
  have hu := h.ar.up b hi hpos
  have h1 := hi.1; have h2 := hi.2.1; have h3 := hi.2.2
  have hr : ((N : Int) - 1 - ((rg b : Nat) : Int)) % 32 = (N : Int) - b := by unfold rg; omega
  rw [hr, hu.1, hN]; omega
theorem du_cl (h : WR P A w B) (hN : w 14 = (N : Int)) {b s : Nat} (hi : inW w b) (hpos : 0 < A 9 (rg b)) (hs : (s : Int) < w 10) : duP w v b s = clP A w v N (rg b) s := by
  have hu := h.ar.up b hi hpos
  have hd := h.ar.drift b hi hpos s hs
  unfold duP clP cpp
  rw [left_e h hN hi hpos, hu.2.2.1, hu.2.2.2.1, hd.1, hd.2]
  unfold vE vS
  have e1 : ∀ a l c d : Int, a * (c * d) * l = a * (l * c * d) := fun a l c d => by
    rw [Int.mul_assoc a (c * d) l, Int.mul_comm (c * d) l, Int.mul_assoc l c d]
  rw [e1, e1]
theorem left_b (h : WR P A w B) (hN : w 14 = (N : Int)) {r : Nat} (hr : r < 32) : -31 ≤ 2 * A 9 r - ((N : Int) - 1 - (r : Int)) % 32 ∧ 2 * A 9 r - ((N : Int) - 1 - (r : Int)) % 32 ≤ 22 := by
  have hp := pace_r h hr
  omega
theorem left7 (h : WR P A w B) (hN : w 14 = (N : Int)) {r : Nat} (hr : r < 32) : fX0_beatsLeft A (r : Int) = some (2 * A 9 r - ((N : Int) - 1 - (r : Int)) % 32) := by
  unfold fX0_beatsLeft
  rw [gi (by omega) (by omega) (by omega), ix_nat (by omega), jan_31, h.ar.a0, hN]
theorem placeBy7 (h : WR P A w B) (hN : w 14 = (N : Int)) {r s : Nat} (hr : r < 32) (hpos : 0 < A 9 r) (hs : (s : Int) < w 10) (hv : 0 ≤ v) (hv2 : v ≤ 39) : fX3_placeBy P A (r : Int) (s : Int) v = some (clP A w v N r s) := by
  obtain ⟨t1, t2, -, -⟩ := h.pb.size s hs
  have hl := left_b h hN hr
  have hw := way_all (v / 10).toNat (by omega)
  unfold fX3_placeBy
  rw [left7 h hN hr, bd_some]
  unfold clP
  generalize 2 * A 9 r - ((N : Int) - 1 - (r : Int)) % 32 = L at *
  have hm : -279 ≤ L * (v % 10) ∧ L * (v % 10) ≤ 279 := by
    have q : 0 ≤ v % 10 ∧ v % 10 ≤ 9 := by omega
    rcases (show v % 10 = 0 ∨ v % 10 = 1 ∨ v % 10 = 2 ∨ v % 10 = 3 ∨ v % 10 = 4 ∨ v % 10 = 5 ∨ v % 10 = 6 ∨ v % 10 = 7 ∨ v % 10 = 8 ∨ v % 10 = 9 by omega) with e | e | e | e | e | e | e | e | e | e <;> rw [e] <;> omega
  have hb : ∀ k : Int, (k = 0 ∨ k = 1 ∨ k = -1) → -30000 ≤ w (25 + 2 * s) * (L * (v % 10) * k) ∧ w (25 + 2 * s) * (L * (v % 10) * k) ≤ 30000 := fun k hk => by
    generalize L * (v % 10) = Q at *
    have hQ : -279 ≤ Q * k ∧ Q * k ≤ 279 := by rcases hk with e | e | e <;> rw [e] <;> omega
    generalize Q * k = R at *
    have a1 : w (25 + 2 * s) * R ≤ w (25 + 2 * s) * 279 := Int.mul_le_mul_of_nonneg_left hQ.2 t1
    have a2 : w (25 + 2 * s) * (-279) ≤ w (25 + 2 * s) * R := Int.mul_le_mul_of_nonneg_left hQ.1 t1
    omega
  rw [nm_e', nm_e', jrm_n hv (by omega) (by decide) (by decide), jdv_n hv (by omega) (by decide) (by decide), gi (by omega) (by omega) (by decide), gi (by omega) (by omega) (by decide), ix_e (by omega) (by omega), placeIn7 h.pb h.pr hr hs (cok_r h hr hpos) (hb _ hw.1) (hb _ hw.2), bd_some]
theorem dueX8 {b s : Nat} (hb : PB (M 1)) (hbb : b ≤ 1000000000) (hs : (s : Int) < M 1 10) (hv : 0 ≤ v) (hv2 : v ≤ 39) (hl : lok (M 1) (lm b)) (hd : 0 ≤ M 1 (lm b) - M 1 14 ∧ M 1 (lm b) - M 1 14 ≤ 22) : fX8_dueX M (b : Int) (s : Int) v = some (M 1 (lm b + 1) + (M 1 (lm b + 3 + 2 * s) + M 1 (25 + 2 * s) * vE v * (M 1 (lm b) - M 1 14)).tdiv 100) ∧ fX8_dueY M (b : Int) (s : Int) v = some (M 1 (lm b + 2) + (M 1 (lm b + 4 + 2 * s) + M 1 (25 + 2 * s) * vS v * (M 1 (lm b) - M 1 14)).tdiv 100) ∧ (-1000 ≤ M 1 (lm b + 1) + (M 1 (lm b + 3 + 2 * s) + M 1 (25 + 2 * s) * vE v * (M 1 (lm b) - M 1 14)).tdiv 100 ∧ M 1 (lm b + 1) + (M 1 (lm b + 3 + 2 * s) + M 1 (25 + 2 * s) * vE v * (M 1 (lm b) - M 1 14)).tdiv 100 ≤ 1000) ∧ (-1000 ≤ M 1 (lm b + 2) + (M 1 (lm b + 4 + 2 * s) + M 1 (25 + 2 * s) * vS v * (M 1 (lm b) - M 1 14)).tdiv 100 ∧ M 1 (lm b + 2) + (M 1 (lm b + 4 + 2 * s) + M 1 (25 + 2 * s) * vS v * (M 1 (lm b) - M 1 14)).tdiv 100 ≤ 1000) := by
  have b10 := hb.b10
  have hlb := lm_b b
  obtain ⟨t1, t2, -, -⟩ := hb.size s hs
  obtain ⟨k1, k2, k3⟩ := hl
  have k4 := k3 s hs
  have m1 := mul_b t1 t2 (vE_b hv hv2).1 (vE_b hv hv2).2
  have m2 := mul_b t1 t2 (vS_b hv hv2).1 (vS_b hv hv2).2
  have hm : ∀ a : Int, -891 ≤ a → a ≤ 891 → -19602 ≤ a * (M 1 (lm b) - M 1 14) ∧ a * (M 1 (lm b) - M 1 14) ≤ 19602 := fun a a1 a2 => by
    generalize M 1 (lm b) - M 1 14 = L at *
    have q1 : a * L ≤ 891 * L := Int.mul_le_mul_of_nonneg_right a2 hd.1
    have q2 : -891 * L ≤ a * L := Int.mul_le_mul_of_nonneg_right a1 hd.1
    omega
  have h1 := hm _ m1.1 m1.2
  have h2 := hm _ m2.1 m2.2
  have d1 := tdiv_b (d := M 1 (lm b + 3 + 2 * s) + M 1 (25 + 2 * s) * vE v * (M 1 (lm b) - M 1 14)) (by omega) (by omega)
  have d2 := tdiv_b (d := M 1 (lm b + 4 + 2 * s) + M 1 (25 + 2 * s) * vS v * (M 1 (lm b) - M 1 14)) (by omega) (by omega)
  refine ⟨?_, ?_, by omega, by omega⟩
  · unfold fX8_dueX
    rw [lump8 hbb, bd_some, gi (by omega) (by omega) (by omega), gi (by omega) (by omega) (by omega), drag8 (by omega), bd_some, eastBy8 hv hv2, bd_some, gi (by omega) (by omega) (by omega), lit (by decide), show ix 14 = 14 from by decide, ix_nat (by omega), ix_e (z := ((lm b : Nat) : Int) + 1) (by omega) (by omega), ix_e (z := ((lm b : Nat) : Int) + 3 + 2 * (s : Int)) (by omega) (by omega), show (((lm b : Nat) : Int) + 1).toNat = lm b + 1 from by omega, show (((lm b : Nat) : Int) + 3 + 2 * (s : Int)).toNat = lm b + 3 + 2 * s from by omega, jdv_e (by omega) (by omega) (by decide) (by decide)]
  · unfold fX8_dueY
    rw [lump8 hbb, bd_some, gi (by omega) (by omega) (by omega), gi (by omega) (by omega) (by omega), drag8 (by omega), bd_some, southBy8 hv hv2, bd_some, gi (by omega) (by omega) (by omega), lit (by decide), show ix 14 = 14 from by decide, ix_nat (by omega), ix_e (z := ((lm b : Nat) : Int) + 2) (by omega) (by omega), ix_e (z := ((lm b : Nat) : Int) + 4 + 2 * (s : Int)) (by omega) (by omega), show (((lm b : Nat) : Int) + 2).toNat = lm b + 2 from by omega, show (((lm b : Nat) : Int) + 4 + 2 * (s : Int)).toNat = lm b + 4 + 2 * s from by omega, jdv_e (by omega) (by omega) (by decide) (by decide)]
/-- what a call asks of a lump that is up -/
theorem up_ok (h : WR P A w B) (hB : B ≤ 300000) {b : Nat} (hi : inW w b) (hu : upb w b) : b ≤ 1000000000 ∧ lok w (lm b) ∧ (0 ≤ w (lm b) - w 14 ∧ w (lm b) - w 14 ≤ 22) ∧ 0 < A 9 (rg b) := by
  have hp := (ar_up h.ab h.ar hi).mp hu
  have h1 := h.ar.up b hi hp
  have h2 := h.ar.pace b hi
  have h3 := hi.2.1
  have hbe := h.ab.beats
  exact ⟨by omega, ((wr_dok h hB).2.2 b hi).2 hu.2, ⟨by have := hu.2; omega, by omega⟩, hp⟩
theorem dueOn8 {b s : Nat} {x z : Int} (h : WR P A (M 1) B) (hB : B ≤ 300000) (hi : inW (M 1) b) (hu : upb (M 1) b) (hs : (s : Int) < M 1 10) (hv : 0 ≤ v) (hv2 : v ≤ 39) (hx : 0 ≤ x ∧ x < M 1 1) (hz : 0 ≤ z ∧ z < M 1 2) : fX8_isDueOn M (b : Int) (s : Int) v x z = some (if duP (M 1) v b s = x + 100 * z then 1 else 0) := by
  have b1 := h.pb.b1; have b2 := h.pb.b2
  obtain ⟨u1, u2, u3, -⟩ := up_ok h hB hi hu
  obtain ⟨e1, e2, e3, e4⟩ := dueX8 (s := s) (v := v) h.pb u1 hs hv hv2 u2 u3
  have hon := plc_on (X := M 1 (lm b + 1) + (M 1 (lm b + 3 + 2 * s) + M 1 (25 + 2 * s) * vE v * (M 1 (lm b) - M 1 14)).tdiv 100) (Z := M 1 (lm b + 2) + (M 1 (lm b + 4 + 2 * s) + M 1 (25 + 2 * s) * vS v * (M 1 (lm b) - M 1 14)).tdiv 100) h.pb hx hz
  unfold fX8_isDueOn duP
  rw [e1, bd_some, e2, bd_some, basin8 h.pb (by omega) (by omega) (by omega) (by omega), bd_some]
  generalize M 1 (lm b + 1) + (M 1 (lm b + 3 + 2 * s) + M 1 (25 + 2 * s) * vE v * (M 1 (lm b) - M 1 14)).tdiv 100 = X at *
  generalize M 1 (lm b + 2) + (M 1 (lm b + 4 + 2 * s) + M 1 (25 + 2 * s) * vS v * (M 1 (lm b) - M 1 14)).tdiv 100 = Z at *
  by_cases c1 : X = x
  · rw [bq_t c1]
    by_cases c2 : Z = z
    · rw [bq_t c2]
      by_cases c3 : inB (M 1) x z
      · rw [if_pos c3, bq_f (by decide) (by decide) (by decide) (by decide) (by decide), if_neg (fun q => (hon.mp q).1 (by rw [c1, c2]; exact c3))]
      · rw [if_neg c3, bq_t rfl, if_pos (hon.mpr ⟨by rw [c1, c2]; exact c3, c1, c2⟩)]
    · rw [bq_f c2 (by omega) (by omega) (by omega) (by omega), if_neg (fun q => c2 (hon.mp q).2.2)]
  · rw [bq_f c1 (by omega) (by omega) (by omega) (by omega), if_neg (fun q => c1 (hon.mp q).2.1)]
/-- drops of a lump that come on a place -/
noncomputable def lumpOn (w : Nat → Int) (pl : Nat → Int) (p : Int) (n : Nat) : Int := sm (fun s => if pl s = p then w (26 + 2 * s) else 0) n
theorem cpp_ok {s r : Nat} (hb : PB w) : clP A w v N r s = -3 ∨ clP A w v N r s = -1 ∨ (0 ≤ clP A w v N r s ∧ clP A w v N r s / 100 < 30 ∧ clP A w v N r s % 100 < 30) := plc_ok hb
theorem coming_in7 {r : Nat} {p : Int} {kx : Int → Option Int} (h : WR P A w B) (hN : w 14 = (N : Int)) (hr : r < 32) (hv : 0 ≤ v) (hv2 : v ≤ 39) (hp : R32 p) (hpos : 0 < A 9 r) {acc : Int} : ∀ (m s : Nat), (s : Int) ≤ w 10 → w 10 - s < m → lX3_dropsComing_25 P A v p (r : Int) kx m (acc + lumpOn w (clP A w v N r) p s) (s : Int) = kx (acc + lumpOn w (clP A w v N r) p (w 10).toNat) := by
  have b10 := h.pb.b10
  have hpr := pace_r h hr
  have := hp.1; have := hp.2
  intro m
  induction m with
  | zero => intro s h1 h2; omega
  | succ m ih =>
    intro s h1 h2
    rw [lX3_dropsComing_25, h.pr.p11]
    simp only [nm_e']
    by_cases c : w 10 ≤ s
    · rw [be_t c (by omega) (by omega), show (w 10).toNat = s from by omega]
    · have hs : (s : Int) < w 10 := by omega
      have hi := ih (s + 1) (by omega) (by omega)
      have hcp := cpp_ok (A := A) (v := v) (N := N) (s := s) (r := r) h.pb
      have e : lumpOn w (clP A w v N r) p (s + 1) = lumpOn w (clP A w v N r) p s + (if clP A w v N r s = p then w (26 + 2 * s) else 0) := rfl
      rw [be_f (by omega) (by omega) (by omega), gi (z := (r : Int)) (by omega) (by omega) (by omega), ix_nat (n := r) (by omega), be_f (a := A 9 r) (by omega) (by omega) (by omega), placeBy7 h hN hr hpos hs hv hv2, bd_some, gi (by omega) (by omega) (by omega), ix_nat (n := s) (by omega), (h.pr.size s hs).2]
      by_cases c2 : clP A w v N r s = p
      · rw [e, if_pos c2, ← Int.add_assoc] at hi
        rw [bq_t c2]
        exact hi
      · rw [e, if_neg c2, Int.add_zero] at hi
        rw [bq_f c2 (by omega) (by omega) (by omega) (by omega)]
        exact hi
theorem coming_skip7 {r : Nat} {p acc : Int} {kx : Int → Option Int} (hb : PB w) (hp : PR P w) (hr : r < 32) (h0 : A 9 r = 0) : ∀ (m s : Nat), (s : Int) ≤ w 10 → w 10 - s < m → lX3_dropsComing_25 P A v p (r : Int) kx m acc (s : Int) = kx acc := by
  have b10 := hb.b10
  intro m
  induction m with
  | zero => intro s h1 h2; omega
  | succ m ih =>
    intro s h1 h2
    rw [lX3_dropsComing_25, hp.p11]
    by_cases c : w 10 ≤ s
    · rw [be_t c (by omega) (by omega)]
    · rw [be_f (by omega) (by omega) (by omega), gi (z := (r : Int)) (by omega) (by omega) (by omega), ix_nat (n := r) (by omega), h0, be_t (by decide) (by decide) (by decide), nm_e']
      exact ih (s + 1) (by omega) (by omega)
noncomputable def ringOn (A : Ob) (w : Nat → Int) (v : Int) (N : Nat) (p : Int) (r : Nat) : Int := if 0 < A 9 r then lumpOn w (clP A w v N r) p (w 10).toNat else 0
theorem coming_out7 {p : Int} (h : WR P A w B) (hN : w 14 = (N : Int)) (hv : 0 ≤ v) (hv2 : v ≤ 39) (hp : R32 p) : ∀ (m r : Nat), r ≤ 32 → 32 - r < m → lX3_dropsComing_15 P A v p m (sm (ringOn A w v N p) r) (r : Int) = some (sm (ringOn A w v N p) 32) := by
  have b10 := h.pb.b10
  intro m
  induction m with
  | zero => intro r _ h2; omega
  | succ m ih =>
    intro r h1 h2
    rw [lX3_dropsComing_15]
    by_cases c : r = 32
    · subst c
      rw [be_t (by decide) (by decide) (by decide)]
    · have hpr := pace_r h (i := r) (by omega)
      have hi := ih (r + 1) (by omega) (by omega)
      have e : sm (ringOn A w v N p) (r + 1) = sm (ringOn A w v N p) r + ringOn A w v N p r := rfl
      rw [be_f (by omega) (by omega) (by omega)]
      by_cases cp : 0 < A 9 r
      · have hin := coming_in7 (r := r) (p := p) (kx := fun lx4_7 => nm ((r : Int) + 1) (fun lx5_8 => lX3_dropsComing_15 P A v p m lx4_7 lx5_8)) (acc := sm (ringOn A w v N p) r) h hN (by omega) hv hv2 hp cp FU 0 (by omega) (by show _ < ((5000 : Nat) : Int); omega)
        rw [show lumpOn w (clP A w v N r) p 0 = 0 from rfl, Int.add_zero] at hin
        refine Eq.trans hin ?_
        rw [nm_e']
        rw [e, show ringOn A w v N p r = lumpOn w (clP A w v N r) p (w 10).toNat from if_pos cp] at hi
        exact hi
      · refine Eq.trans (coming_skip7 h.pb h.pr (by omega) (by omega) FU 0 (by omega) (by show _ < ((5000 : Nat) : Int); omega)) ?_
        rw [nm_e']
        rw [e, show ringOn A w v N p r = 0 from if_neg cp, Int.add_zero] at hi
        exact hi
/-- the same on the model's side -/
noncomputable def beatOn (w : Nat → Int) (v p : Int) (b : Nat) : Int := if upb w b then lumpOn w (duP w v b) p (w 10).toNat else 0
theorem already_in8 {b : Nat} {x z acc : Int} {kx : Int → Option Int} (h : WR P A (M 1) B) (hB : B ≤ 300000) (hi : inW (M 1) b) (hu : upb (M 1) b) (hv : 0 ≤ v) (hv2 : v ≤ 39) (hx : 0 ≤ x ∧ x < M 1 1) (hz : 0 ≤ z ∧ z < M 1 2) : ∀ (m s : Nat), (s : Int) ≤ M 1 10 → M 1 10 - s < m → lX8_alreadyOn_24 M x z v (b : Int) kx m (acc + lumpOn (M 1) (duP (M 1) v b) (x + 100 * z) s) (s : Int) = kx (acc + lumpOn (M 1) (duP (M 1) v b) (x + 100 * z) (M 1 10).toNat) := by
  have b10 := h.pb.b10
  have hd := wr_dok h hB
  have hbe := h.ab.beats
  obtain ⟨u1, u2, u3, -⟩ := up_ok h hB hi hu
  have hup : fX8_isUp M (b : Int) = some 1 := by
    have q := isUp8 (M := M) (u := M 1) u1 ⟨by omega, by omega⟩ (hd.2.2 b hi).1
    rw [upA_self, if_pos hu] at q
    exact q
  intro m
  induction m with
  | zero => intro s h1 h2; omega
  | succ m ih =>
    intro s h1 h2
    rw [lX8_alreadyOn_24, lit (by decide), show ix 10 = 10 from by decide]
    simp only [nm_e', Int.add_zero]
    by_cases c : M 1 10 ≤ s
    · rw [be_t c (by omega) (by omega), show (M 1 10).toNat = s from by omega]
    · have hs : (s : Int) < M 1 10 := by omega
      have hih := ih (s + 1) (by omega) (by omega)
      have e : lumpOn (M 1) (duP (M 1) v b) (x + 100 * z) (s + 1) = lumpOn (M 1) (duP (M 1) v b) (x + 100 * z) s + (if duP (M 1) v b s = x + 100 * z then M 1 (26 + 2 * s) else 0) := rfl
      rw [be_f (by omega) (by omega) (by omega), hup, bd_some, bq_f (by decide) (by decide) (by decide) (by decide) (by decide), dueOn8 h hB hi hu hs hv hv2 hx hz, bd_some, share8 (by omega), bd_some, bq_ite]
      by_cases c2 : duP (M 1) v b s = x + 100 * z
      · rw [e, if_pos c2, ← Int.add_assoc] at hih
        rw [if_pos c2]
        exact hih
      · rw [e, if_neg c2, Int.add_zero] at hih
        rw [if_neg c2]
        exact hih
theorem be_same {β : Type} (a b : Int) (X : β) : be a b X X = X := by unfold be; split <;> rfl
theorem already_out8 {x z : Int} {f : Nat} (h : WR P A (M 1) B) (hB : B ≤ 300000) (hN : M 1 14 = (N : Int)) (hf : 1 ≤ f) (hf2 : N < f + 31) (hv : 0 ≤ v) (hv2 : v ≤ 39) (hx : 0 ≤ x ∧ x < M 1 1) (hz : 0 ≤ z ∧ z < M 1 2) : ∀ (m j : Nat), f + j ≤ N + 1 → N + 1 - (f + j) < m → lX8_alreadyOn_9 M x z v m (sm (fun i => beatOn (M 1) v (x + 100 * z) (f + i)) j) ((f + j : Nat) : Int) = some (sm (fun i => beatOn (M 1) v (x + 100 * z) (f + i)) (N + 1 - f)) := by
  have b10 := h.pb.b10
  have hd := wr_dok h hB
  have hbe := h.ab.beats
  intro m
  induction m with
  | zero => intro j _ h2; omega
  | succ m ih =>
    intro j h1 h2
    rw [lX8_alreadyOn_9, lit (by decide), show ix 14 = 14 from by decide]
    by_cases c : N < f + j
    · rw [bl_t (by omega) (by omega) (by omega), show N + 1 - f = j from by omega]
    · have hi : inW (M 1) (f + j) := ⟨by omega, by omega, by omega⟩
      have hih := ih (j + 1) (by omega) (by omega)
      have e : sm (fun i => beatOn (M 1) v (x + 100 * z) (f + i)) (j + 1) = sm (fun i => beatOn (M 1) v (x + 100 * z) (f + i)) j + beatOn (M 1) v (x + 100 * z) (f + j) := rfl
      rw [bl_f (by omega) (by omega) (by omega)]
      by_cases cu : upb (M 1) (f + j)
      · have hin := already_in8 (b := f + j) (x := x) (z := z) (kx := fun lx4_9 => nm (((f + j : Nat) : Int) + 1) (fun lx5_10 => lX8_alreadyOn_9 M x z v m lx4_9 lx5_10)) (acc := sm (fun i => beatOn (M 1) v (x + 100 * z) (f + i)) j) h hB hi cu hv hv2 hx hz FU 0 (by omega) (by show _ < ((5000 : Nat) : Int); omega)
        rw [show lumpOn (M 1) (duP (M 1) v (f + j)) (x + 100 * z) 0 = 0 from rfl, Int.add_zero] at hin
        refine Eq.trans hin ?_
        rw [nm_e']
        rw [e, show beatOn (M 1) v (x + 100 * z) (f + j) = lumpOn (M 1) (duP (M 1) v (f + j)) (x + 100 * z) (M 1 10).toNat from if_pos cu] at hih
        exact hih
      · have hup : fX8_isUp M ((f + j : Nat) : Int) = some 0 := by
          have q := isUp8 (M := M) (u := M 1) (b := f + j) (by omega) ⟨by omega, by omega⟩ (hd.2.2 (f + j) hi).1
          rw [upA_self, if_neg cu] at q
          exact q
        rw [show FU = 4999 + 1 from rfl, lX8_alreadyOn_24, lit (by decide), hup, bd_some, bq_t rfl, be_same, nm_e']
        rw [e, show beatOn (M 1) v (x + 100 * z) (f + j) = 0 from if_neg cu, Int.add_zero] at hih
        exact hih
theorem lumpOn_c {n : Nat} {p : Int} {f g : Nat → Int} (h : ∀ s, s < n → f s = g s) : lumpOn w f p n = lumpOn w g p n := sm_congr (fun s hs => by
  show (if f s = p then w (26 + 2 * s) else 0) = if g s = p then w (26 + 2 * s) else 0
  rw [h s hs])
theorem on_eq {p : Int} (h : WR P A w B) (hN : w 14 = (N : Int)) : sm (fun i => beatOn w v p (fB N + i)) (N + 1 - fB N) = sm (ringOn A w v N p) 32 := by
  have b10 := h.pb.b10
  exact ring_eq (F := beatOn w v p) (G := ringOn A w v N p) h hN (fun b hb => if_neg hb) (fun r _ hr => if_neg hr) (fun b hi hpos => by
    unfold beatOn ringOn
    rw [if_pos ((ar_up h.ab h.ar hi).mpr hpos), if_pos hpos]
    exact lumpOn_c (fun s hs => du_cl h hN hi hpos (by omega)))
/-- drops in the air that come on a table's cell, on both sides -/
theorem already_eq {k : Nat} (h : WR P A (M 1) B) (hB : B ≤ 300000) (hk : (k : Int) < M 1 11) (hv : 0 ≤ v) (hv2 : v ≤ 39) : ∃ r, fX3_dropsComing P A (k : Int) v = some r ∧ fX8_alreadyOn M (M 1 (35 + 3 * k)) (M 1 (36 + 3 * k)) v = some r := by
  have hbe := h.ab.beats
  have b1 := h.pb.b1; have b2 := h.pb.b2
  obtain ⟨N, hN⟩ : ∃ N : Nat, M 1 14 = (N : Int) := ⟨(M 1 14).toNat, by omega⟩
  have ht := h.pb.tab k hk
  have hf := fB_b N
  refine ⟨sm (ringOn A (M 1) v N (M 1 (35 + 3 * k) + 100 * M 1 (36 + 3 * k))) 32, ?_, ?_⟩
  rotate_left
  · unfold fX8_alreadyOn
    have hfb := firstBeat8 (M := M) (u := M 1) hN (by omega)
    rw [upA_self] at hfb
    rw [hfb, bd_some, ← on_eq h hN]
    exact already_out8 (f := fB N) h hB hN hf.1 hf.2.1 hv hv2 ⟨ht.1, ht.2.1⟩ ⟨ht.2.2.1, ht.2.2.2.1⟩ FU 0 (by omega) (by show _ < 5000; omega)
  · unfold fX3_dropsComing
    rw [tabPlace7 h.pb h.pr hk, bd_some]
    exact coming_out7 h hN hv hv2 ⟨by omega, by omega⟩ FU 0 (by omega) (by show _ < 5000; omega)
end
section
variable {n : Nat} {T : Nat → Ob} {J : Nat → Bool} {M : Ob} {x z : Int}
theorem op_already (h : Inv n T J M) (hx : R32 x) (hz : R32 z) : Eqv (fX7_already T x z) (fX8_already M x z) := by
  have hb := h.now.pb
  have b11 := hb.b11
  have hn := h.n
  unfold fX7_already fX8_already
  rw [isTable7 h.now.pr hb hx, isTable8 hb hx, bd_some, bd_some, bq_ite, bq_ite]
  refine Eqv.ite (fun c => ?_) (fun _ => Eqv.s _)
  rw [isWind7 hz, jwl_e hz.1 hz.2, isWind8 (by have := hz.1; omega) (by have := hz.2; omega), bd_some, bd_some, bq_ite, bq_ite]
  refine Eqv.ite (fun c2 => ?_) (fun _ => Eqv.s _)
  obtain ⟨k, rfl⟩ := Int.eq_ofNat_of_zero_le c.1
  obtain ⟨r, e1, e2⟩ := already_eq (k := k) h.now (by omega) (by omega) c2.1 c2.2
  rw [e1, bd_some, ofTable8 (c := 0) (d := 0) rfl (by decide) (by omega), bd_some, ofTable8 (c := 1) (d := 1) rfl (by decide) (by omega), bd_some, show 35 + 3 * k + 0 = 35 + 3 * k from rfl, show 35 + 3 * k + 1 = 36 + 3 * k from by omega, e2, bd_some]
  exact Eqv.s _
theorem worst_loop {k : Nat} (h : Inv n T J M) (hk : (k : Int) < M 1 11) : ∀ (m v : Nat) (a b : Int), v ≤ 40 → 40 - v < m → Eqv (lX7_worst_18 T (k : Int) m a b (v : Int)) (lX8_worst_18 M (k : Int) m b a (v : Int)) := by
  have hn := h.n
  have b11 := h.now.pb.b11
  intro m
  induction m with
  | zero => intro v a b _ h2; omega
  | succ m ih =>
    intro v a b h1 h2
    rw [lX7_worst_18, lX8_worst_18]
    simp only [nm_e']
    by_cases c : v = 40
    · subst c
      rw [be_t (by decide) (by decide) (by decide), be_t (by decide) (by decide) (by decide)]
      exact Eqv.s _
    · obtain ⟨r, e1, e2⟩ := already_eq (k := k) (v := (v : Int)) h.now (by omega) hk (by omega) (by omega)
      rw [be_f (by omega) (by omega) (by omega), be_f (by omega) (by omega) (by omega), e1, bd_some, ofTable8 (c := 0) (d := 0) rfl (by decide) (by omega), bd_some, ofTable8 (c := 1) (d := 1) rfl (by decide) (by omega), bd_some, show 35 + 3 * k + 0 = 35 + 3 * k from rfl, show 35 + 3 * k + 1 = 36 + 3 * k from by omega, e2, bd_some, be_bl]
      by_cases c2 : i32 a < i32 r
      · rw [bl_p c2, bl_p c2]
        exact ih (v + 1) _ _ (by omega) (by omega)
      · rw [bl_n c2, bl_n c2]
        exact ih (v + 1) _ _ (by omega) (by omega)
theorem op_worst (h : Inv n T J M) (hx : R32 x) : Eqv (fX7_worst T x) (fX8_worst M x) := by
  have hb := h.now.pb
  unfold fX7_worst fX8_worst
  rw [isTable7 h.now.pr hb hx, isTable8 hb hx, bd_some, bd_some, bq_ite, bq_ite]
  refine Eqv.ite (fun c => ?_) (fun _ => Eqv.s _)
  obtain ⟨k, rfl⟩ := Int.eq_ofNat_of_zero_le c.1
  exact worst_loop (k := k) h (by omega) FU 0 _ _ (by omega) (by show _ < 5000; omega)
theorem op_water (h : Inv n T J M) : Eqv (fX7_water T x) (fX8_water M x) := by
  have hb := h.now.pb
  have b10 := hb.b10
  have ha := h.now.ar
  have hn := h.n
  have hbe := h.now.ab.beats
  obtain ⟨N, hN⟩ : ∃ N : Nat, M 1 14 = (N : Int) := ⟨(M 1 14).toNat, by omega⟩
  have hlu : fX8_lumpsUp M = some (upN (T 3)) := by
    have q := lumpsUp8 (M := M) (u := M 1) (wr_dok h.now (by omega)) hN
    rw [upA_self, lumpsN_e h.now hN] at q
    exact q
  have hdu : fX0_dropsUp (T 3) = some (upN (T 3) * shS (M 1)) := by
    unfold fX0_dropsUp
    rw [ha.a7, ha.a4, ha.a5, ha.a6, ha.cons]
  unfold fX7_water fX8_water
  rw [hdu, hlu, lumpDrops8 hb, lumpsUp7 h.now, ha.a4, ha.a5, ha.a6, ha.a7]
  simp only [bd_some]
  refine Eqv.bq (Eqv.s _) (Eqv.bq ?_ (Eqv.bq (Eqv.s _) (Eqv.bq (Eqv.s _) (Eqv.bq (Eqv.s _) (Eqv.bq (Eqv.s _) (Eqv.s _))))))
  rw [lit (by decide), show ix 10 = 10 from by decide]
  have hu : 0 ≤ upN (T 3) ∧ upN (T 3) ≤ 32 := un_b (z := T 3 9)
  by_cases c : M 1 10 = 0
  · have hs : shS (M 1) = 0 := by
      unfold shS
      rw [c]
      rfl
    rw [bq_t c, hs, Int.mul_zero, be_t (by decide) (by decide) (by decide)]
    exact Eqv.s _
  · have hs : 1 ≤ shS (M 1) ∧ shS (M 1) ≤ 45 := by
      refine ⟨?_, (shS_b hb).2⟩
      have h0 := hb.size 0 (by omega)
      have h1 : sm (fun s => if s = 0 then M 1 26 else 0) (M 1 10).toNat = M 1 26 := by
        rw [sm_one (j := 0) (by omega) (fun i _ hi => if_neg hi)]
        rfl
      have h2 : sm (fun s => if s = 0 then M 1 26 else 0) (M 1 10).toNat ≤ shS (M 1) := sm_le (fun i hi => by
        show (if i = 0 then M 1 26 else 0) ≤ M 1 (26 + 2 * i)
        have hq := hb.size i (by omega)
        by_cases ci : i = 0
        · subst ci; rw [if_pos rfl]; exact Int.le_refl _
        · rw [if_neg ci]; omega)
      have h3 : 1 ≤ M 1 26 := h0.2.2.1
      omega
    rw [bq_f c (by omega) (by omega) (by omega) (by omega)]
    generalize upN (T 3) = U at *
    generalize shS (M 1) = S at *
    by_cases c2 : U = 0
    · rw [c2, Int.zero_mul, be_t (by decide) (by decide) (by decide)]
      exact Eqv.s _
    · have h1 : 1 * 1 ≤ U * S := Int.mul_le_mul (by omega) hs.1 (by decide) (by omega)
      have h2 : U * S ≤ 32 * 45 := Int.mul_le_mul hu.2 hs.2 (by omega) (by decide)
      rw [be_f (by omega) (by decide) (by omega)]
      exact Eqv.s _
end
