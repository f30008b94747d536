/-! LAYER 2: coming, last; nozzles and moves -/
noncomputable def lumpNo (w : Nat → Int) (pl : Nat → Int) (n : Nat) : Int := sm (fun s => if pl s = -3 then 0 else w (26 + 2 * s)) n
noncomputable def ringNo (A : Ob) (w : Nat → Int) (v : Int) (N r : Nat) : Int := if 0 < A 9 r then lumpNo w (clP A w v N r) (w 10).toNat else 0
noncomputable def beatNo (w : Nat → Int) (v : Int) (b : Nat) : Int := if upb w b then lumpNo w (duP w v b) (w 10).toNat else 0
section
variable {P A M : Ob} {w : Nat → Int} {B v : Int} {N : Nat}
theorem stray_in7 {r : Nat} {kx : Int → Option Int} (h : WR P A w B) (hN : w 14 = (N : Int)) (hr : r < 32) (hv : 0 ≤ v) (hv2 : v ≤ 39) (hpos : 0 < A 9 r) {acc : Int} : ∀ (m s : Nat), (s : Int) ≤ w 10 → w 10 - s < m → lX3_dropsStraying_13 P A v (r : Int) kx m (acc + lumpNo w (clP A w v N r) s) (s : Int) = kx (acc + lumpNo w (clP A w v N r) (w 10).toNat) := by
  have b10 := h.pb.b10
  have hpr := pace_r h hr
  intro m
  induction m with
  | zero => intro s h1 h2; omega
  | succ m ih =>
    intro s h1 h2
    rw [lX3_dropsStraying_13, h.pr.p11]
    simp only [nm_e']
    by_cases c : w 10 ≤ s
    · rw [be_t c (by omega) (by omega), show (w 10).toNat = s from by omega]
    · have hs : (s : Int) < w 10 := by omega
      have hi := ih (s + 1) (by omega) (by omega)
      have hcp := cpp_ok (A := A) (v := v) (N := N) (s := s) (r := r) h.pb
      have e : lumpNo w (clP A w v N r) (s + 1) = lumpNo w (clP A w v N r) s + (if clP A w v N r s = -3 then 0 else w (26 + 2 * s)) := rfl
      rw [be_f (by omega) (by omega) (by omega), gi (z := (r : Int)) (by omega) (by omega) (by omega), ix_nat (n := r) (by omega), be_f (a := A 9 r) (by omega) (by omega) (by omega), placeBy7 h hN hr hpos hs hv hv2, bd_some, gi (by omega) (by omega) (by omega), ix_nat (n := s) (by omega), (h.pr.size s hs).2]
      by_cases c2 : clP A w v N r s = -3
      · rw [e, if_pos c2, Int.add_zero] at hi
        rw [bq_t c2]
        exact hi
      · rw [e, if_neg c2, ← Int.add_assoc] at hi
        rw [bq_f c2 (by omega) (by omega) (by omega) (by omega)]
        exact hi
theorem stray_skip7 {r : Nat} {acc : Int} {kx : Int → Option Int} (hb : PB w) (hp : PR P w) (hr : r < 32) (h0 : A 9 r = 0) : ∀ (m s : Nat), (s : Int) ≤ w 10 → w 10 - s < m → lX3_dropsStraying_13 P A v (r : Int) kx m acc (s : Int) = kx acc := by
  have b10 := hb.b10
  intro m
  induction m with
  | zero => intro s h1 h2; omega
  | succ m ih =>
    intro s h1 h2
    rw [lX3_dropsStraying_13, hp.p11]
    by_cases c : w 10 ≤ s
    · rw [be_t c (by omega) (by omega)]
    · rw [be_f (by omega) (by omega) (by omega), gi (z := (r : Int)) (by omega) (by omega) (by omega), ix_nat (n := r) (by omega), h0, be_t (by decide) (by decide) (by decide), nm_e']
      exact ih (s + 1) (by omega) (by omega)
theorem stray_out7 (h : WR P A w B) (hN : w 14 = (N : Int)) (hv : 0 ≤ v) (hv2 : v ≤ 39) : ∀ (m r : Nat), r ≤ 32 → 32 - r < m → lX3_dropsStraying_4 P A v m (sm (ringNo A w v N) r) (r : Int) = some (sm (ringNo A w v N) 32) := by
  have b10 := h.pb.b10
  intro m
  induction m with
  | zero => intro r _ h2; omega
  | succ m ih =>
    intro r h1 h2
    rw [lX3_dropsStraying_4]
    by_cases c : r = 32
    · subst c
      rw [be_t (by decide) (by decide) (by decide)]
    · have hpr := pace_r h (i := r) (by omega)
      have hi := ih (r + 1) (by omega) (by omega)
      have e : sm (ringNo A w v N) (r + 1) = sm (ringNo A w v N) r + ringNo A w v N r := rfl
      rw [be_f (by omega) (by omega) (by omega)]
      by_cases cp : 0 < A 9 r
      · have hin := stray_in7 (r := r) (kx := fun lx2_6 => nm ((r : Int) + 1) (fun lx3_7 => lX3_dropsStraying_4 P A v m lx2_6 lx3_7)) (acc := sm (ringNo A w v N) r) h hN (by omega) hv hv2 cp FU 0 (by omega) (by show _ < ((5000 : Nat) : Int); omega)
        rw [show lumpNo w (clP A w v N r) 0 = 0 from rfl, Int.add_zero] at hin
        refine Eq.trans hin ?_
        rw [nm_e']
        rw [e, show ringNo A w v N r = lumpNo w (clP A w v N r) (w 10).toNat from if_pos cp] at hi
        exact hi
      · refine Eq.trans (stray_skip7 h.pb h.pr (by omega) (by omega) FU 0 (by omega) (by show _ < ((5000 : Nat) : Int); omega)) ?_
        rw [nm_e']
        rw [e, show ringNo A w v N r = 0 from if_neg cp, Int.add_zero] at hi
        exact hi
theorem plc_3 {X Z : Int} : plc w X Z = -3 ↔ inB w X Z := by
  by_cases c : inB w X Z
  · rw [plc_b c]; exact ⟨fun _ => c, fun _ => rfl⟩
  · rw [plc_n c]
    refine ⟨fun q => ?_, fun q => absurd q c⟩
    by_cases ce : (0 ≤ X ∧ X < w 1) ∧ 0 ≤ Z ∧ Z < w 2
    · rw [if_pos ce] at q; omega
    · rw [if_neg ce] at q; omega
theorem coming_in8 {b : Nat} {acc : Int} {kx : Int → Option Int} (h : WR P A (M 1) B) (hB : B ≤ 300000) (hi : inW (M 1) b) (hu : upb (M 1) b) (hv : 0 ≤ v) (hv2 : v ≤ 39) : ∀ (m s : Nat), (s : Int) ≤ M 1 10 → M 1 10 - s < m → lX8_coming_39 M v (b : Int) kx m (acc + lumpNo (M 1) (duP (M 1) v b) s) (s : Int) = kx (acc + lumpNo (M 1) (duP (M 1) v b) (M 1 10).toNat) := by
  have b10 := h.pb.b10
  have hd := wr_dok h hB
  have hbe := h.ab.beats
  obtain ⟨u1, u2, u3, -⟩ := up_ok h hB hi hu
  have hup : fX8_isUp M (b : Int) = some 1 := by
    have q := isUp8 (M := M) (u := M 1) u1 ⟨by omega, by omega⟩ (hd.2.2 b hi).1
    rw [upA_self, if_pos hu] at q
    exact q
  intro m
  induction m with
  | zero => intro s h1 h2; omega
  | succ m ih =>
    intro s h1 h2
    rw [lX8_coming_39, lit (by decide), show ix 10 = 10 from by decide]
    simp only [nm_e', Int.add_zero]
    by_cases c : M 1 10 ≤ s
    · rw [be_t c (by omega) (by omega), show (M 1 10).toNat = s from by omega]
    · have hs : (s : Int) < M 1 10 := by omega
      have hih := ih (s + 1) (by omega) (by omega)
      have e : lumpNo (M 1) (duP (M 1) v b) (s + 1) = lumpNo (M 1) (duP (M 1) v b) s + (if duP (M 1) v b s = -3 then 0 else M 1 (26 + 2 * s)) := rfl
      obtain ⟨e1, e2, e3, e4⟩ := dueX8 (s := s) (v := v) h.pb u1 hs hv hv2 u2 u3
      rw [be_f (by omega) (by omega) (by omega), hup, bd_some, bq_f (by decide) (by decide) (by decide) (by decide) (by decide), e1, bd_some, e2, bd_some, basin8 h.pb e3.1 e3.2 e4.1 e4.2, bd_some, share8 (by omega), bd_some]
      by_cases c2 : duP (M 1) v b s = -3
      · rw [e, if_pos c2, Int.add_zero] at hih
        rw [if_pos (plc_3.mp c2), bq_f (by decide) (by decide) (by decide) (by decide) (by decide)]
        exact hih
      · rw [e, if_neg c2, ← Int.add_assoc] at hih
        rw [if_neg (fun q => c2 (plc_3.mpr q)), bq_t rfl]
        exact hih
theorem coming_out8 {f : Nat} (h : WR P A (M 1) B) (hB : B ≤ 300000) (hN : M 1 14 = (N : Int)) (hf : 1 ≤ f) (hf2 : N < f + 31) (hv : 0 ≤ v) (hv2 : v ≤ 39) : ∀ (m j : Nat), f + j ≤ N + 1 → N + 1 - (f + j) < m → lX8_coming_25 M v m (sm (fun i => beatNo (M 1) v (f + i)) j) ((f + j : Nat) : Int) = some (sm (fun i => beatNo (M 1) v (f + i)) (N + 1 - f)) := by
  have b10 := h.pb.b10
  have hd := wr_dok h hB
  have hbe := h.ab.beats
  intro m
  induction m with
  | zero => intro j _ h2; omega
  | succ m ih =>
    intro j h1 h2
    rw [lX8_coming_25, lit (by decide), show ix 14 = 14 from by decide]
    by_cases c : N < f + j
    · rw [bl_t (by omega) (by omega) (by omega), show N + 1 - f = j from by omega]
    · have hi : inW (M 1) (f + j) := ⟨by omega, by omega, by omega⟩
      have hih := ih (j + 1) (by omega) (by omega)
      have e : sm (fun i => beatNo (M 1) v (f + i)) (j + 1) = sm (fun i => beatNo (M 1) v (f + i)) j + beatNo (M 1) v (f + j) := rfl
      rw [bl_f (by omega) (by omega) (by omega)]
      by_cases cu : upb (M 1) (f + j)
      · have hin := coming_in8 (b := f + j) (kx := fun lx2_13 => nm (((f + j : Nat) : Int) + 1) (fun lx3_14 => lX8_coming_25 M v m lx2_13 lx3_14)) (acc := sm (fun i => beatNo (M 1) v (f + i)) j) h hB hi cu hv hv2 FU 0 (by omega) (by show _ < ((5000 : Nat) : Int); omega)
        rw [show lumpNo (M 1) (duP (M 1) v (f + j)) 0 = 0 from rfl, Int.add_zero] at hin
        refine Eq.trans hin ?_
        rw [nm_e']
        rw [e, show beatNo (M 1) v (f + j) = lumpNo (M 1) (duP (M 1) v (f + j)) (M 1 10).toNat from if_pos cu] at hih
        exact hih
      · have hup : fX8_isUp M ((f + j : Nat) : Int) = some 0 := by
          have q := isUp8 (M := M) (u := M 1) (b := f + j) (by omega) ⟨by omega, by omega⟩ (hd.2.2 (f + j) hi).1
          rw [upA_self, if_neg cu] at q
          exact q
        rw [show FU = 4999 + 1 from rfl, lX8_coming_39, lit (by decide), hup, bd_some, bq_t rfl, be_same, nm_e']
        rw [e, show beatNo (M 1) v (f + j) = 0 from if_neg cu, Int.add_zero] at hih
        exact hih
theorem no_eq (h : WR P A w B) (hN : w 14 = (N : Int)) : sm (fun i => beatNo w v (fB N + i)) (N + 1 - fB N) = sm (ringNo A w v N) 32 := by
  have b10 := h.pb.b10
  exact ring_eq (F := beatNo w v) (G := ringNo A w v N) h hN (fun b hb => if_neg hb) (fun r _ hr => if_neg hr) (fun b hi hpos => by
    unfold beatNo ringNo
    rw [if_pos ((ar_up h.ab h.ar hi).mpr hpos), if_pos hpos]
    exact sm_congr (fun s hs => by
      show (if duP w v b s = -3 then 0 else w (26 + 2 * s)) = if clP A w v N (rg b) s = -3 then 0 else w (26 + 2 * s)
      rw [du_cl h hN hi hpos (by omega)]))
/-! the greatest of a row, 0 at the least -/
def mx (f : Nat → Int) : Nat → Int
  | 0 => 0
  | n + 1 => max (mx f n) (f n)
theorem mx_nn {f : Nat → Int} : ∀ n : Nat, 0 ≤ mx f n
  | 0 => (by decide : (0 : Int) ≤ 0)
  | n + 1 => by
    have := mx_nn (f := f) n
    rw [mx]; omega
theorem mx_ge {f : Nat → Int} {i : Nat} : ∀ {n : Nat}, i < n → f i ≤ mx f n
  | 0, h => absurd h (by omega)
  | n + 1, h => by
    rw [mx]
    by_cases c : i = n
    · subst c; omega
    · have := mx_ge (f := f) (i := i) (n := n) (by omega)
      omega
theorem mx_le {f : Nat → Int} {K : Int} : ∀ {n : Nat}, 0 ≤ K → (∀ i, i < n → f i ≤ K) → mx f n ≤ K
  | 0, h, _ => h
  | n + 1, h, hf => by
    have h1 := mx_le (n := n) h (fun i hi => hf i (by omega))
    have h2 := hf n (by omega)
    rw [mx]; omega
theorem mx_c {f g : Nat → Int} : ∀ {n : Nat}, (∀ i, i < n → f i = g i) → mx f n = mx g n
  | 0, _ => rfl
  | n + 1, h => by rw [mx, mx, mx_c (fun i hi => h i (by omega)), h n (by omega)]
noncomputable def lumpLa (pl : Nat → Int) (p L : Int) (n : Nat) : Int := mx (fun s => if pl s = p then L else 0) n
noncomputable def ringLa (A : Ob) (w : Nat → Int) (v : Int) (N : Nat) (p : Int) (r : Nat) : Int := if 0 < A 9 r then lumpLa (clP A w v N r) p (2 * A 9 r - ((N : Int) - 1 - (r : Int)) % 32) (w 10).toNat else 0
noncomputable def beatLa (w : Nat → Int) (v p : Int) (b : Nat) : Int := if upb w b then lumpLa (duP w v b) p (w (lm b) - w 14) (w 10).toNat else 0
theorem lumpLa_b {pl : Nat → Int} {p L : Int} {n : Nat} (hL : L ≤ 22) : 0 ≤ lumpLa pl p L n ∧ lumpLa pl p L n ≤ 22 := ⟨mx_nn _, mx_le (by decide) (fun i _ => by show (if pl i = p then L else 0) ≤ 22; split <;> omega)⟩
theorem last_in7 {r : Nat} {p : Int} {kx : Int → Option Int} (h : WR P A w B) (hN : w 14 = (N : Int)) (hr : r < 32) (hv : 0 ≤ v) (hv2 : v ≤ 39) (hp : R32 p) (hpos : 0 < A 9 r) {acc : Int} (ha : 0 ≤ acc ∧ acc ≤ 22) : ∀ (m s : Nat), (s : Int) ≤ w 10 → w 10 - s < m → lX3_lastComing_25 P A v p (r : Int) kx m (max acc (lumpLa (clP A w v N r) p (2 * A 9 r - ((N : Int) - 1 - (r : Int)) % 32) s)) (s : Int) = kx (max acc (lumpLa (clP A w v N r) p (2 * A 9 r - ((N : Int) - 1 - (r : Int)) % 32) (w 10).toNat)) := by
  have b10 := h.pb.b10
  have hpr := pace_r h hr
  have hlb := left_b h hN hr
  have := hp.1; have := hp.2
  intro m
  induction m with
  | zero => intro s h1 h2; omega
  | succ m ih =>
    intro s h1 h2
    rw [lX3_lastComing_25, h.pr.p11]
    simp only [nm_e']
    by_cases c : w 10 ≤ s
    · rw [be_t c (by omega) (by omega), show (w 10).toNat = s from by omega]
    · have hs : (s : Int) < w 10 := by omega
      have hi := ih (s + 1) (by omega) (by omega)
      have hcp := cpp_ok (A := A) (v := v) (N := N) (s := s) (r := r) h.pb
      have hLb := lumpLa_b (pl := clP A w v N r) (p := p) (n := s) hlb.2
      have e : lumpLa (clP A w v N r) p (2 * A 9 r - ((N : Int) - 1 - (r : Int)) % 32) (s + 1) = max (lumpLa (clP A w v N r) p (2 * A 9 r - ((N : Int) - 1 - (r : Int)) % 32) s) (if clP A w v N r s = p then 2 * A 9 r - ((N : Int) - 1 - (r : Int)) % 32 else 0) := rfl
      rw [be_f (by omega) (by omega) (by omega), gi (z := (r : Int)) (by omega) (by omega) (by omega), ix_nat (n := r) (by omega), be_f (a := A 9 r) (by omega) (by omega) (by omega), placeBy7 h hN hr hpos hs hv hv2, bd_some, left7 h hN hr, bd_some]
      by_cases c2 : clP A w v N r s = p
      · rw [e, if_pos c2] at hi
        rw [bq_t c2, jmx_e (by omega) (by omega) (by omega) (by omega), show max (max acc (lumpLa (clP A w v N r) p (2 * A 9 r - ((N : Int) - 1 - (r : Int)) % 32) s)) (2 * A 9 r - ((N : Int) - 1 - (r : Int)) % 32) = max acc (max (lumpLa (clP A w v N r) p (2 * A 9 r - ((N : Int) - 1 - (r : Int)) % 32) s) (2 * A 9 r - ((N : Int) - 1 - (r : Int)) % 32)) from by omega]
        exact hi
      · rw [e, if_neg c2, show max (lumpLa (clP A w v N r) p (2 * A 9 r - ((N : Int) - 1 - (r : Int)) % 32) s) 0 = lumpLa (clP A w v N r) p (2 * A 9 r - ((N : Int) - 1 - (r : Int)) % 32) s from by omega] at hi
        rw [bq_f c2 (by omega) (by omega) (by omega) (by omega)]
        exact hi
theorem last_skip7 {r : Nat} {p acc : Int} {kx : Int → Option Int} (hb : PB w) (hp : PR P w) (hr : r < 32) (h0 : A 9 r = 0) : ∀ (m s : Nat), (s : Int) ≤ w 10 → w 10 - s < m → lX3_lastComing_25 P A v p (r : Int) kx m acc (s : Int) = kx acc := by
  have b10 := hb.b10
  intro m
  induction m with
  | zero => intro s h1 h2; omega
  | succ m ih =>
    intro s h1 h2
    rw [lX3_lastComing_25, hp.p11]
    by_cases c : w 10 ≤ s
    · rw [be_t c (by omega) (by omega)]
    · rw [be_f (by omega) (by omega) (by omega), gi (z := (r : Int)) (by omega) (by omega) (by omega), ix_nat (n := r) (by omega), h0, be_t (by decide) (by decide) (by decide), nm_e']
      exact ih (s + 1) (by omega) (by omega)
theorem ringLa_b {p : Int} (h : WR P A w B) (hN : w 14 = (N : Int)) {r : Nat} (hr : r < 32) : 0 ≤ ringLa A w v N p r ∧ ringLa A w v N p r ≤ 22 := by
  unfold ringLa
  split
  · exact lumpLa_b (left_b h hN hr).2
  · omega
theorem last_out7 {p : Int} (h : WR P A w B) (hN : w 14 = (N : Int)) (hv : 0 ≤ v) (hv2 : v ≤ 39) (hp : R32 p) : ∀ (m r : Nat), r ≤ 32 → 32 - r < m → lX3_lastComing_15 P A v p m (mx (ringLa A w v N p) r) (r : Int) = some (mx (ringLa A w v N p) 32) := by
  have b10 := h.pb.b10
  intro m
  induction m with
  | zero => intro r _ h2; omega
  | succ m ih =>
    intro r h1 h2
    rw [lX3_lastComing_15]
    by_cases c : r = 32
    · subst c
      rw [be_t (by decide) (by decide) (by decide)]
    · have hpr := pace_r h (i := r) (by omega)
      have hi := ih (r + 1) (by omega) (by omega)
      have hnn := mx_nn (f := ringLa A w v N p) r
      have hle : mx (ringLa A w v N p) r ≤ 22 := mx_le (by decide) (fun i hi => (ringLa_b h hN (by omega)).2)
      have e : mx (ringLa A w v N p) (r + 1) = max (mx (ringLa A w v N p) r) (ringLa A w v N p r) := rfl
      rw [be_f (by omega) (by omega) (by omega)]
      by_cases cp : 0 < A 9 r
      · have hin := last_in7 (r := r) (p := p) (kx := fun lx4_8 => nm ((r : Int) + 1) (fun lx5_9 => lX3_lastComing_15 P A v p m lx4_8 lx5_9)) (acc := mx (ringLa A w v N p) r) h hN (by omega) hv hv2 hp cp ⟨hnn, hle⟩ FU 0 (by omega) (by show _ < ((5000 : Nat) : Int); omega)
        rw [show lumpLa (clP A w v N r) p (2 * A 9 r - ((N : Int) - 1 - (r : Int)) % 32) 0 = 0 from rfl, show max (mx (ringLa A w v N p) r) 0 = mx (ringLa A w v N p) r from by omega] at hin
        refine Eq.trans hin ?_
        rw [nm_e']
        rw [e, show ringLa A w v N p r = lumpLa (clP A w v N r) p (2 * A 9 r - ((N : Int) - 1 - (r : Int)) % 32) (w 10).toNat from if_pos cp] at hi
        exact hi
      · refine Eq.trans (last_skip7 h.pb h.pr (by omega) (by omega) FU 0 (by omega) (by show _ < ((5000 : Nat) : Int); omega)) ?_
        rw [nm_e']
        rw [e, show ringLa A w v N p r = 0 from if_neg cp, show max (mx (ringLa A w v N p) r) 0 = mx (ringLa A w v N p) r from by omega] at hi
        exact hi
theorem last_in8 {b k : Nat} {acc : Int} {kx : Int → Option Int} (h : WR P A (M 1) B) (hB : B ≤ 300000) (hk : (k : Int) < M 1 11) (hi : inW (M 1) b) (hu : upb (M 1) b) (hv : 0 ≤ v) (hv2 : v ≤ 39) (ha : 0 ≤ acc ∧ acc ≤ 22) : ∀ (m s : Nat), (s : Int) ≤ M 1 10 → M 1 10 - s < m → lX8_last_42 M (k : Int) v (b : Int) kx m (max acc (lumpLa (duP (M 1) v b) (M 1 (35 + 3 * k) + 100 * M 1 (36 + 3 * k)) (M 1 (lm b) - M 1 14) s)) (s : Int) = kx (max acc (lumpLa (duP (M 1) v b) (M 1 (35 + 3 * k) + 100 * M 1 (36 + 3 * k)) (M 1 (lm b) - M 1 14) (M 1 10).toNat)) := by
  have b10 := h.pb.b10; have b11 := h.pb.b11
  have ht := h.pb.tab k hk
  have hd := wr_dok h hB
  have hbe := h.ab.beats
  have hlm := lm_b b
  obtain ⟨u1, u2, u3, -⟩ := up_ok h hB hi hu
  have hup : fX8_isUp M (b : Int) = some 1 := by
    have q := isUp8 (M := M) (u := M 1) u1 ⟨by omega, by omega⟩ (hd.2.2 b hi).1
    rw [upA_self, if_pos hu] at q
    exact q
  intro m
  induction m with
  | zero => intro s h1 h2; omega
  | succ m ih =>
    intro s h1 h2
    rw [lX8_last_42, lit (by decide), show ix 10 = 10 from by decide]
    simp only [nm_e']
    by_cases c : M 1 10 ≤ s
    · rw [be_t c (by omega) (by omega), show (M 1 10).toNat = s from by omega]
    · have hs : (s : Int) < M 1 10 := by omega
      have hih := ih (s + 1) (by omega) (by omega)
      have hLb := lumpLa_b (pl := duP (M 1) v b) (p := M 1 (35 + 3 * k) + 100 * M 1 (36 + 3 * k)) (n := s) u3.2
      have e : lumpLa (duP (M 1) v b) (M 1 (35 + 3 * k) + 100 * M 1 (36 + 3 * k)) (M 1 (lm b) - M 1 14) (s + 1) = max (lumpLa (duP (M 1) v b) (M 1 (35 + 3 * k) + 100 * M 1 (36 + 3 * k)) (M 1 (lm b) - M 1 14) s) (if duP (M 1) v b s = M 1 (35 + 3 * k) + 100 * M 1 (36 + 3 * k) then M 1 (lm b) - M 1 14 else 0) := rfl
      rw [be_f (by omega) (by omega) (by omega), hup, bd_some, bq_f (by decide) (by decide) (by decide) (by decide) (by decide), ofTable8 (c := 0) (d := 0) rfl (by decide) (by omega), bd_some, ofTable8 (c := 1) (d := 1) rfl (by decide) (by omega), bd_some, show 35 + 3 * k + 0 = 35 + 3 * k from rfl, show 35 + 3 * k + 1 = 36 + 3 * k from by omega, dueOn8 h hB hi hu hs hv hv2 ⟨ht.1, ht.2.1⟩ ⟨ht.2.2.1, ht.2.2.2.1⟩, bd_some, lump8 u1, bd_some, gi (by omega) (by omega) (by omega), lit (by decide), ix_nat (n := lm b) (by omega), show ix 14 = 14 from by decide, bq_ite]
      by_cases c2 : duP (M 1) v b s = M 1 (35 + 3 * k) + 100 * M 1 (36 + 3 * k)
      · rw [e, if_pos c2] at hih
        rw [if_pos c2, jmx_e (by omega) (by omega) (by omega) (by omega), show max (max acc (lumpLa (duP (M 1) v b) (M 1 (35 + 3 * k) + 100 * M 1 (36 + 3 * k)) (M 1 (lm b) - M 1 14) s)) (M 1 (lm b) - M 1 14) = max acc (max (lumpLa (duP (M 1) v b) (M 1 (35 + 3 * k) + 100 * M 1 (36 + 3 * k)) (M 1 (lm b) - M 1 14) s) (M 1 (lm b) - M 1 14)) from by omega]
        exact hih
      · rw [e, if_neg c2, show max (lumpLa (duP (M 1) v b) (M 1 (35 + 3 * k) + 100 * M 1 (36 + 3 * k)) (M 1 (lm b) - M 1 14) s) 0 = lumpLa (duP (M 1) v b) (M 1 (35 + 3 * k) + 100 * M 1 (36 + 3 * k)) (M 1 (lm b) - M 1 14) s from by omega] at hih
        rw [if_neg c2]
        exact hih
theorem beatLa_b {p : Int} {b : Nat} (h : WR P A w B) (hB : B ≤ 300000) (hi : inW w b) : 0 ≤ beatLa w v p b ∧ beatLa w v p b ≤ 22 := by
  unfold beatLa
  by_cases c : upb w b
  · rw [if_pos c]
    exact lumpLa_b (up_ok h hB hi c).2.2.1.2
  · rw [if_neg c]; omega
theorem last_out8 {f k : Nat} (h : WR P A (M 1) B) (hB : B ≤ 300000) (hk : (k : Int) < M 1 11) (hN : M 1 14 = (N : Int)) (hf : 1 ≤ f) (hf2 : N < f + 31) (hv : 0 ≤ v) (hv2 : v ≤ 39) : ∀ (m j : Nat), f + j ≤ N + 1 → N + 1 - (f + j) < m → lX8_last_27 M (k : Int) v m (mx (fun i => beatLa (M 1) v (M 1 (35 + 3 * k) + 100 * M 1 (36 + 3 * k)) (f + i)) j) ((f + j : Nat) : Int) = some (mx (fun i => beatLa (M 1) v (M 1 (35 + 3 * k) + 100 * M 1 (36 + 3 * k)) (f + i)) (N + 1 - f)) := by
  have b10 := h.pb.b10
  have hd := wr_dok h hB
  have hbe := h.ab.beats
  intro m
  induction m with
  | zero => intro j _ h2; omega
  | succ m ih =>
    intro j h1 h2
    rw [lX8_last_27, lit (by decide), show ix 14 = 14 from by decide]
    by_cases c : N < f + j
    · rw [bl_t (by omega) (by omega) (by omega), show N + 1 - f = j from by omega]
    · have hi : inW (M 1) (f + j) := ⟨by omega, by omega, by omega⟩
      have hih := ih (j + 1) (by omega) (by omega)
      generalize hpp : M 1 (35 + 3 * k) + 100 * M 1 (36 + 3 * k) = p at *
      have e : mx (fun i => beatLa (M 1) v p (f + i)) (j + 1) = max (mx (fun i => beatLa (M 1) v p (f + i)) j) (beatLa (M 1) v p (f + j)) := rfl
      have hnn := mx_nn (f := fun i => beatLa (M 1) v p (f + i)) j
      have hle : mx (fun i => beatLa (M 1) v p (f + i)) j ≤ 22 := mx_le (by decide) (fun i hi => (beatLa_b h hB (show inW (M 1) (f + i) from ⟨by omega, by omega, by omega⟩)).2)
      rw [bl_f (by omega) (by omega) (by omega)]
      by_cases cu : upb (M 1) (f + j)
      · have hin := last_in8 (b := f + j) (k := k) (kx := fun lx3_12 => nm (((f + j : Nat) : Int) + 1) (fun lx4_13 => lX8_last_27 M (k : Int) v m lx3_12 lx4_13)) (acc := mx (fun i => beatLa (M 1) v p (f + i)) j) h hB hk hi cu hv hv2 ⟨hnn, hle⟩ FU 0 (by omega) (by show _ < ((5000 : Nat) : Int); omega)
        rw [hpp, show lumpLa (duP (M 1) v (f + j)) p (M 1 (lm (f + j)) - M 1 14) 0 = 0 from rfl, show max (mx (fun i => beatLa (M 1) v p (f + i)) j) 0 = mx (fun i => beatLa (M 1) v p (f + i)) j from by omega] at hin
        refine Eq.trans hin ?_
        rw [nm_e']
        rw [e, show beatLa (M 1) v p (f + j) = lumpLa (duP (M 1) v (f + j)) p (M 1 (lm (f + j)) - M 1 14) (M 1 10).toNat from if_pos cu] at hih
        exact hih
      · have hup : fX8_isUp M ((f + j : Nat) : Int) = some 0 := by
          have q := isUp8 (M := M) (u := M 1) (b := f + j) (by omega) ⟨by omega, by omega⟩ (hd.2.2 (f + j) hi).1
          rw [upA_self, if_neg cu] at q
          exact q
        rw [show FU = 4999 + 1 from rfl, lX8_last_42, lit (by decide), hup, bd_some, bq_t rfl, be_same, nm_e']
        rw [e, show beatLa (M 1) v p (f + j) = 0 from if_neg cu, show max (mx (fun i => beatLa (M 1) v p (f + i)) j) 0 = mx (fun i => beatLa (M 1) v p (f + i)) j from by omega] at hih
        exact hih
theorem la_eq {p : Int} (h : WR P A w B) (hB : B ≤ 300000) (hN : w 14 = (N : Int)) : mx (fun i => beatLa w v p (fB N + i)) (N + 1 - fB N) = mx (ringLa A w v N p) 32 := by
  have b10 := h.pb.b10
  have hbe := h.ab.beats
  have hf := fB_b N
  have fg : ∀ b, inW w b → 0 < A 9 (rg b) → beatLa w v p b = ringLa A w v N p (rg b) := fun b hi hpos => by
    unfold beatLa ringLa lumpLa
    rw [if_pos ((ar_up h.ab h.ar hi).mpr hpos), if_pos hpos, left_e h hN hi hpos]
    exact mx_c (fun s hs => by
      show (if duP w v b s = p then _ else _) = if clP A w v N (rg b) s = p then _ else _
      rw [du_cl h hN hi hpos (by omega)])
  apply Int.le_antisymm
  · refine mx_le (mx_nn 32) (fun i hi => ?_)
    show beatLa w v p (fB N + i) ≤ _
    by_cases c : upb w (fB N + i)
    · have hi' : inW w (fB N + i) := ⟨by omega, by omega, by omega⟩
      rw [fg _ hi' ((ar_up h.ab h.ar hi').mp c)]
      exact mx_ge (by unfold rg; omega)
    · rw [show beatLa w v p (fB N + i) = 0 from if_neg c]
      exact mx_nn 32
  · refine mx_le (mx_nn _) (fun r hr => ?_)
    by_cases c : 0 < A 9 r
    · by_cases cN : r < N
      · obtain ⟨b, hi, rfl⟩ := ring_b hN hr cN
        have h1 := h.ar.up b hi c
        have h2 := h.ar.pace b hi
        have h3 := hi.1; have h4 := hi.2.1
        have hb1 : fB N ≤ b := by unfold fB; split <;> omega
        rw [← fg b hi c, show b = fB N + (b - fB N) from by omega]
        exact mx_ge (f := fun i => beatLa w v p (fB N + i)) (by omega)
      · rw [h.ar.free r hr (by omega)] at c
        exact absurd c (by decide)
    · rw [show ringLa A w v N p r = 0 from if_neg c]
      exact mx_nn _
end
section
variable {n : Nat} {T : Nat → Ob} {J : Nat → Bool} {M : Ob} {x z y0 : Int}
theorem op_coming (h : Inv n T J M) (hx : R32 x) : Eqv (fX7_coming T x) (fX8_coming M x) := by
  have hb := h.now.pb
  have hn := h.n
  have hbe := h.now.ab.beats
  obtain ⟨N, hN⟩ : ∃ N : Nat, M 1 14 = (N : Int) := ⟨(M 1 14).toNat, by omega⟩
  have hf := fB_b N
  unfold fX7_coming fX8_coming
  rw [hasSq7 h.now.pr hb, isSq8 hb, bd_some, bd_some, bq_ite, bq_ite]
  refine Eqv.ite (fun c => ?_) (fun _ => Eqv.s _)
  rw [isWind7 hx, jwl_e hx.1 hx.2, isWind8 (by have := hx.1; omega) (by have := hx.2; omega), bd_some, bd_some, bq_ite, bq_ite]
  refine Eqv.ite (fun c2 => ?_) (fun _ => Eqv.s _)
  have hfb := firstBeat8 (M := M) (u := M 1) hN (by omega)
  rw [upA_self] at hfb
  have e1 := stray_out7 (v := x) h.now hN c2.1 c2.2 FU 0 (by omega) (by show _ < 5000; omega)
  have e2 := coming_out8 (f := fB N) (v := x) h.now (by omega) hN hf.1 hf.2.1 c2.1 c2.2 FU 0 (by omega) (by show _ < 5000; omega)
  rw [no_eq h.now hN] at e2
  rw [hfb, bd_some]
  exact ⟨_, by unfold fX3_dropsStraying; rw [show lX3_dropsStraying_4 (T 2) (T 3) x FU 0 0 = _ from e1, bd_some], e2⟩
theorem op_last (h : Inv n T J M) (hx : R32 x) (hz : R32 z) : Eqv (fX7_last T x z) (fX8_last M x z) := by
  have hb := h.now.pb
  have b11 := hb.b11; have b1 := hb.b1; have b2 := hb.b2
  have hn := h.n
  have hbe := h.now.ab.beats
  obtain ⟨N, hN⟩ : ∃ N : Nat, M 1 14 = (N : Int) := ⟨(M 1 14).toNat, by omega⟩
  have hf := fB_b N
  unfold fX7_last fX8_last
  rw [isTable7 h.now.pr hb hx, isTable8 hb hx, bd_some, bd_some, bq_ite, bq_ite]
  refine Eqv.ite (fun c => ?_) (fun _ => Eqv.s _)
  rw [isWind7 hz, jwl_e hz.1 hz.2, isWind8 (by have := hz.1; omega) (by have := hz.2; omega), bd_some, bd_some, bq_ite, bq_ite]
  refine Eqv.ite (fun c2 => ?_) (fun _ => Eqv.s _)
  obtain ⟨k, rfl⟩ := Int.eq_ofNat_of_zero_le c.1
  have hk : (k : Int) < M 1 11 := by omega
  have ht := hb.tab k hk
  have hfb := firstBeat8 (M := M) (u := M 1) hN (by omega)
  rw [upA_self] at hfb
  have e1 := last_out7 (v := z) (p := M 1 (35 + 3 * k) + 100 * M 1 (36 + 3 * k)) h.now hN c2.1 c2.2 ⟨by omega, by omega⟩ FU 0 (by omega) (by show _ < 5000; omega)
  have e2 := last_out8 (f := fB N) (k := k) (v := z) h.now (by omega) hk hN hf.1 hf.2.1 c2.1 c2.2 FU 0 (by omega) (by show _ < 5000; omega)
  rw [la_eq h.now (by omega) hN] at e2
  rw [hfb, bd_some]
  refine ⟨_, ?_, e2⟩
  unfold fX3_lastComing
  rw [tabPlace7 hb h.now.pr hk, bd_some, show lX3_lastComing_15 (T 2) (T 3) z (M 1 (35 + 3 * k) + 100 * M 1 (36 + 3 * k)) FU 0 0 = _ from e1, bd_some]
/-! calls that change the plan -/
theorem AR_g {A : Ob} {u w : Nat → Int} (h : ∀ k, k = 10 ∨ (14 ≤ k ∧ k ≤ 21) ∨ (71 ≤ k ∧ k < 1419) → u k = w k) (hs : shS u = shS w) (hb : PB w) (ha : AR A w) : AR A u := by
  have b10 := hb.b10
  have e14 := h 14 (by omega); have e15 := h 15 (by omega); have e16 := h 16 (by omega); have e18 := h 18 (by omega); have e19 := h 19 (by omega); have e20 := h 20 (by omega); have e21 := h 21 (by omega)
  have e10 := h 10 (by omega)
  have hi := inW_c e14
  unfold AR
  rw [e14, e15, e16, e18, e19, e20, e21, e10, hs]
  refine ⟨ha.a0, ha.a1, ha.a2, ha.a4, ha.a5, ha.a6, ha.a7, ?_, ?_, ?_, ?_, ?_, ?_, ?_, ha.cons, ha.free, ha.sumB⟩
  · intro c hc; rw [h (519 + c) (by omega)]; exact ha.wet c hc
  · intro b hb1; rw [h (71 + b % 32) (by omega)]; exact ha.wind b ((hi b).mp hb1)
  · intro b hb1; exact ha.pace b ((hi b).mp hb1)
  · intro b hb1; have := lm_b b; rw [h (lm b) (by omega)]; exact ha.down b ((hi b).mp hb1)
  · intro b hb1; have := lm_b b; rw [h (lm b) (by omega), h (lm b + 1) (by omega), h (lm b + 2) (by omega)]; exact ha.up b ((hi b).mp hb1)
  · intro b hb1 hpos s hs1; have := lm_b b; rw [h (lm b + 3 + 2 * s) (by omega), h (lm b + 4 + 2 * s) (by omega)]; exact ha.drift b ((hi b).mp hb1) hpos s hs1
  · intro b hb1 hpos s hs1; have := lm_b b; rw [h (lm b + 3 + 2 * s) (by omega), h (lm b + 4 + 2 * s) (by omega)]; exact ha.driftB b ((hi b).mp hb1) hpos s hs1
theorem Inv2.plan {P' : Ob} {u : Nat → Int} (h : Inv2 n T J M) (hn : n + 1 ≤ 512) (hb : PB u) (hp : PR P' u) (hu : ∀ k, k = 10 ∨ (14 ≤ k ∧ k ≤ 24) ∨ (71 ≤ k ∧ k < 1419) → u k = M 1 k) (hs : shS u = shS (M 1)) : Inv2 (n + 1) (upO T 2 P') J (upA M 1 u) := by
  obtain ⟨hi, hws, himg⟩ := h
  have hle : (400 * n : Int) ≤ 400 * ((n + 1 : Nat) : Int) := by omega
  have hM : ∀ j, j ≠ 1 → upA M 1 u j = M j := fun j hj => upA_n hj
  refine ⟨?_, ?_, fun k hk hJ => by rw [hM 2 (by decide)]; exact himg k hk hJ⟩
  · unfold Inv
    rw [upO_n (show 0 ≠ 2 by decide), upO_n (show 1 ≠ 2 by decide), upO_n (show 3 ≠ 2 by decide), upO_s, upA_1, hM 12 (by decide), hM 13 (by decide), hM 3 (by decide), hM 2 (by decide), hu 17 (by omega), hu 22 (by omega), hu 23 (by omega), hu 24 (by omega)]
    refine ⟨hn, ?_, hi.fault, ⟨hb, hp, (AB_m (fun k hk => hu k (by omega)) hi.now.ab).le hle, AR_g (fun k hk => hu k (by omega)) hs hi.now.pb hi.now.ar⟩, hi.seen, hi.l2, hi.still, hi.rep, ?_, hi.has, ?_⟩
    · unfold TR
      rw [hM 5 (by decide), hM 4 (by decide)]
      exact hi.tape
    · intro j hj
      rw [upO_n (by omega)]
      unfold RR
      rw [hM 25 (by decide), hM 26 (by decide), hM 27 (by decide)]
      exact hi.row j hj
    · intro k hk hJ
      rw [upO_n (by omega), upO_n (by omega)]
      have hg := hi.img k hk hJ
      exact ⟨hg.1.le hle, hg.2⟩
  · unfold WS at hws ⊢
    rw [upA_1, hu 20 (by omega), ← hws]
    exact sm_congr (fun c hc => hu (519 + c) (by omega))
theorem op_nozzle (h : Inv2 n T J M) (hn : n + 1 ≤ 512) (hx : R32 x) (hz : R32 z) : Nx n T J (fX7_nozzle T x z) (fX8_nozzle M x z) := by
  have hb := h.1.now.pb
  have hp := h.1.now.pr
  have b10 := hb.b10; have b11 := hb.b11; have b12 := hb.b12
  unfold fX7_nozzle fX8_nozzle
  rw [isSize7 hp hb hx, isSize8 hb hx, bd_some, bd_some, bq_ite, bq_ite]
  refine Nx.ite (fun c => ?_) (fun _ => Nx.s _ h hn)
  rw [within7r hz ⟨by decide, by decide⟩ ⟨by decide, by decide⟩, in8i hz ⟨by decide, by decide⟩ ⟨by decide, by decide⟩, bd_some, bd_some, bq_ite, bq_ite]
  refine Nx.ite (fun c2 => ?_) (fun _ => Nx.s _ h hn)
  obtain ⟨s, rfl⟩ := Int.eq_ofNat_of_zero_le c.1
  have hs : (s : Int) < M 1 10 := by omega
  rw [gi (by omega) (by omega) (by omega), nm_e', gi (by omega) (by omega) (by omega), nm_e', ix_nat (by omega), (hp.size s hs).1, drag8 (by omega), bd_some, gi (by omega) (by omega) (by omega), nm_e', ix_e (by omega) (by omega), show (25 + 2 * (s : Int)).toNat = 25 + 2 * s from by omega, up2_A1]
  have e : ∀ k, k ≠ 25 + 2 * s → up1 (M 1) (25 + 2 * s) z k = M 1 k := fun k hk => up1_n hk
  refine ⟨_, _, _, rfl, rfl, h.plan hn ?_ ?_ (fun k hk => e k (by omega)) ?_, fun k hk => upO_n (by omega)⟩
  · refine ⟨by rw [e 0 (by omega)]; exact hb.b0, by rw [e 1 (by omega)]; exact hb.b1, by rw [e 2 (by omega)]; exact hb.b2, by rw [e 3 (by omega)]; exact hb.b3, by rw [e 4 (by omega)]; exact hb.b4, by rw [e 5 (by omega)]; exact hb.b5, by rw [e 6 (by omega)]; exact hb.b6, by rw [e 7 (by omega)]; exact hb.b7, by rw [e 8 (by omega)]; exact hb.b8, by rw [e 9 (by omega)]; exact hb.b9, by rw [e 10 (by omega)]; exact hb.b10, by rw [e 11 (by omega)]; exact hb.b11, by rw [e 12 (by omega)]; exact hb.b12, by rw [e 22 (by omega)]; exact hb.b22, by rw [e 0 (by omega), e 1 (by omega)]; exact hb.sq, by rw [e 1 (by omega), e 2 (by omega), e 10 (by omega), e 11 (by omega), e 7 (by omega)]; exact hb.none, by rw [e 1 (by omega), e 2 (by omega), e 3 (by omega), e 4 (by omega)]; exact hb.some, by rw [e 7 (by omega), e 2 (by omega)]; exact hb.road, fun i hi => ?_, fun k hk => ?_, fun k hk => ?_⟩
    · rw [e 10 (by omega)] at hi
      rw [e (26 + 2 * i) (by omega)]
      have hq := hb.size i hi
      by_cases ci : i = s
      · subst ci; rw [up1_s]; omega
      · rw [e (25 + 2 * i) (by omega)]; exact hq
    · rw [e 11 (by omega)] at hk
      rw [e (35 + 3 * k) (by omega), e (36 + 3 * k) (by omega), e (37 + 3 * k) (by omega), e 1 (by omega), e 2 (by omega)]
      exact hb.tab k hk
    · rw [e 12 (by omega)] at hk
      rw [e (59 + 2 * k) (by omega), e (60 + 2 * k) (by omega)]
      exact hb.rule k hk
  · refine ⟨by rw [e 0 (by omega)]; exact hp.p0, by rw [e 1 (by omega)]; exact hp.p1, by rw [e 2 (by omega)]; exact hp.p2, by rw [e 3 (by omega)]; exact hp.p3, by rw [e 4 (by omega)]; exact hp.p4, by rw [e 5 (by omega)]; exact hp.p5, by rw [e 6 (by omega)]; exact hp.p6, by rw [e 7 (by omega)]; exact hp.p7, by rw [e 8 (by omega)]; exact hp.p8, by rw [e 22 (by omega)]; exact hp.p9, by rw [e 9 (by omega)]; exact hp.p10, by rw [e 10 (by omega)]; exact hp.p11, by rw [e 11 (by omega)]; exact hp.p14, by rw [e 12 (by omega)]; exact hp.p18, fun i hi => ?_, fun k hk => ?_, fun k hk => ?_⟩
    · rw [e 10 (by omega)] at hi
      rw [e (26 + 2 * i) (by omega), up2_s, up2_n (by decide)]
      have hq := hp.size i hi
      by_cases ci : i = s
      · subst ci; rw [up1_s, up1_s]; exact ⟨rfl, hq.2⟩
      · rw [e (25 + 2 * i) (by omega), up1_n ci]; exact hq
    · rw [e 11 (by omega)] at hk
      rw [e (35 + 3 * k) (by omega), e (36 + 3 * k) (by omega), e (37 + 3 * k) (by omega), up2_n (by decide), up2_n (by decide), up2_n (by decide)]
      exact hp.tab k hk
    · rw [e 12 (by omega), up2_n (by decide), letsR_c (w := M 1) (fun i h1 h2 => e i (by omega)) _ (by omega)]
      exact hp.lets k hk
  · unfold shS
    rw [e 10 (by omega)]
    exact sm_congr (fun i hi => e (26 + 2 * i) (by omega))
theorem op_move (h : Inv2 n T J M) (hn : n + 1 ≤ 512) (hx : R32 x) (hz : R32 z) (hy : R32 y0) : Nx n T J (fX7_move T x z y0) (fX8_move M x z y0) := by
  have hb := h.1.now.pb
  have hp := h.1.now.pr
  have b10 := hb.b10; have b11 := hb.b11; have b12 := hb.b12; have b1 := hb.b1; have b2 := hb.b2
  unfold fX7_move fX8_move
  rw [isTable7 hp hb hx, isTable8 hb hx, bd_some, bd_some, bq_ite, bq_ite]
  refine Nx.ite (fun c => ?_) (fun _ => Nx.s _ h hn)
  rw [isCell7 hp hb hz hy, isCell8 hb hz hy, bd_some, bd_some, bq_ite, bq_ite]
  refine Nx.ite (fun c2 => ?_) (fun _ => Nx.s _ h hn)
  obtain ⟨t, rfl⟩ := Int.eq_ofNat_of_zero_le c.1
  have ht : (t : Int) < M 1 11 := by omega
  rcases room_eq (P := T 2) (t := t) (x := z) (z := y0) hb hp (by omega) (by omega) (by omega) with ⟨r1, r2⟩ | ⟨r1, r2⟩
  · rw [r1, r2, bd_some, bd_some, bq_t rfl, bq_f (by decide) (by decide) (by decide) (by decide) (by decide)]
    exact Nx.s _ h hn
  · rw [r1, r2, bd_some, bd_some, bq_f (a := 1) (b := 0) (by decide) (by decide) (by decide) (by decide) (by decide), bq_t (a := 0) (b := 0) rfl, tabPlace7 hb hp ht, bd_some, gi (by omega) (by omega) (by omega), nm_e', gi (by omega) (by omega) (by omega), nm_e', ix_nat (by omega), ofTable8 (c := 1) (d := 1) rfl (by decide) (by omega), bd_some, ofTable8 (c := 0) (d := 0) rfl (by decide) (by omega), bd_some, nm_e', gi (by omega) (by omega) (by omega), nm_e', gi (by omega) (by omega) (by omega), nm_e', ix_e (by omega) (by omega), ix_e (by omega) (by omega), show (35 + 3 * (t : Int)).toNat = 35 + 3 * t from by omega, show (35 + 3 * (t : Int) + 1).toNat = 36 + 3 * t from by omega, up2_A1 (X := M), up2_upA, upO_s, upO_upO, show 35 + 3 * t + 0 = 35 + 3 * t from rfl, show 35 + 3 * t + 1 = 36 + 3 * t from by omega, show 100 * M 1 (36 + 3 * t) + M 1 (35 + 3 * t) = M 1 (35 + 3 * t) + 100 * M 1 (36 + 3 * t) from by omega]
    have e : ∀ k, k ≠ 35 + 3 * t → k ≠ 36 + 3 * t → up1 (up1 (M 1) (35 + 3 * t) z) (36 + 3 * t) y0 k = M 1 k := fun k h1 h2 => by rw [up1_n h2, up1_n h1]
    have ex : up1 (up1 (M 1) (35 + 3 * t) z) (36 + 3 * t) y0 (35 + 3 * t) = z := by rw [up1_n (by omega), up1_s]
    have ey : up1 (up1 (M 1) (35 + 3 * t) z) (36 + 3 * t) y0 (36 + 3 * t) = y0 := up1_s
    refine ⟨_, _, _, rfl, rfl, h.plan hn ?_ ?_ (fun k hk => e k (by omega) (by omega)) ?_, fun k hk => upO_n (by omega)⟩
    · refine ⟨by rw [e 0 (by omega) (by omega)]; exact hb.b0, by rw [e 1 (by omega) (by omega)]; exact hb.b1, by rw [e 2 (by omega) (by omega)]; exact hb.b2, by rw [e 3 (by omega) (by omega)]; exact hb.b3, by rw [e 4 (by omega) (by omega)]; exact hb.b4, by rw [e 5 (by omega) (by omega)]; exact hb.b5, by rw [e 6 (by omega) (by omega)]; exact hb.b6, by rw [e 7 (by omega) (by omega)]; exact hb.b7, by rw [e 8 (by omega) (by omega)]; exact hb.b8, by rw [e 9 (by omega) (by omega)]; exact hb.b9, by rw [e 10 (by omega) (by omega)]; exact hb.b10, by rw [e 11 (by omega) (by omega)]; exact hb.b11, by rw [e 12 (by omega) (by omega)]; exact hb.b12, by rw [e 22 (by omega) (by omega)]; exact hb.b22, by rw [e 0 (by omega) (by omega), e 1 (by omega) (by omega)]; exact hb.sq, by rw [e 1 (by omega) (by omega), e 2 (by omega) (by omega), e 10 (by omega) (by omega), e 11 (by omega) (by omega), e 7 (by omega) (by omega)]; exact hb.none, by rw [e 1 (by omega) (by omega), e 2 (by omega) (by omega), e 3 (by omega) (by omega), e 4 (by omega) (by omega)]; exact hb.some, by rw [e 7 (by omega) (by omega), e 2 (by omega) (by omega)]; exact hb.road, fun i hi => ?_, fun k hk => ?_, fun k hk => ?_⟩
      · rw [e 10 (by omega) (by omega)] at hi
        rw [e (25 + 2 * i) (by omega) (by omega), e (26 + 2 * i) (by omega) (by omega)]
        exact hb.size i hi
      · rw [e 11 (by omega) (by omega)] at hk
        rw [e (37 + 3 * k) (by omega) (by omega), e 1 (by omega) (by omega), e 2 (by omega) (by omega)]
        have hq := hb.tab k hk
        by_cases ci : k = t
        · subst ci; rw [ex, ey]; omega
        · rw [e (35 + 3 * k) (by omega) (by omega), e (36 + 3 * k) (by omega) (by omega)]; exact hq
      · rw [e 12 (by omega) (by omega)] at hk
        rw [e (59 + 2 * k) (by omega) (by omega), e (60 + 2 * k) (by omega) (by omega)]
        exact hb.rule k hk
    · refine ⟨by rw [e 0 (by omega) (by omega)]; exact hp.p0, by rw [e 1 (by omega) (by omega)]; exact hp.p1, by rw [e 2 (by omega) (by omega)]; exact hp.p2, by rw [e 3 (by omega) (by omega)]; exact hp.p3, by rw [e 4 (by omega) (by omega)]; exact hp.p4, by rw [e 5 (by omega) (by omega)]; exact hp.p5, by rw [e 6 (by omega) (by omega)]; exact hp.p6, by rw [e 7 (by omega) (by omega)]; exact hp.p7, by rw [e 8 (by omega) (by omega)]; exact hp.p8, by rw [e 22 (by omega) (by omega)]; exact hp.p9, by rw [e 9 (by omega) (by omega)]; exact hp.p10, by rw [e 10 (by omega) (by omega)]; exact hp.p11, by rw [e 11 (by omega) (by omega)]; exact hp.p14, by rw [e 12 (by omega) (by omega)]; exact hp.p18, fun i hi => ?_, fun k hk => ?_, fun k hk => ?_⟩
      · rw [e 10 (by omega) (by omega)] at hi
        rw [e (25 + 2 * i) (by omega) (by omega), e (26 + 2 * i) (by omega) (by omega), up2_n (by decide), up2_n (by decide), up2_n (by decide), up2_n (by decide)]
        exact hp.size i hi
      · rw [e 11 (by omega) (by omega)] at hk
        rw [e (37 + 3 * k) (by omega) (by omega), up2_n (show 15 ≠ 16 by decide), up2_s, up2_s, up2_n (show 16 ≠ 15 by decide), up2_n (show 17 ≠ 16 by decide), up2_n (show 17 ≠ 15 by decide)]
        have hq := hp.tab k hk
        by_cases ci : k = t
        · subst ci; rw [ex, ey, up1_s, up1_s]; exact ⟨rfl, rfl, hq.2.2⟩
        · rw [e (35 + 3 * k) (by omega) (by omega), e (36 + 3 * k) (by omega) (by omega), up1_n ci, up1_n ci]; exact hq
      · rw [e 12 (by omega) (by omega), up2_n (by decide), up2_n (by decide), letsR_c (w := M 1) (fun i h1 h2 => e i (by omega) (by omega)) _ (by omega)]
        exact hp.lets k hk
    · unfold shS
      rw [e 10 (by omega) (by omega)]
      exact sm_congr (fun i hi => e (26 + 2 * i) (by omega) (by omega))
end
