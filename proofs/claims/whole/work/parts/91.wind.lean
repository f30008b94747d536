/-! LAYER 2: a beat keeps the class and the model together -/
theorem sm_ext {f : Nat → Int} {m : Nat} : ∀ {n : Nat}, m ≤ n → (∀ j, m ≤ j → j < n → f j = 0) → sm f n = sm f m
  | 0, h, _ => by rw [show m = 0 from by omega]
  | n + 1, h, hz => by
    by_cases c : m = n + 1
    · rw [c]
    · rw [sm, sm_ext (n := n) (by omega) (fun j a b => hz j a (by omega)), hz n (by omega) (by omega)]; omega
theorem sum31 {e : Nat → Int} {N : Nat} (h0 : e 0 = 0) (hz : ∀ b, fB N ≤ b → b ≤ N → e b ≠ 0 → ∃ q, 1 ≤ q ∧ q ≤ 11 ∧ b + 2 * q = N + 1) : sm (fun i => e (fB N + i)) (N + 1 - fB N) = sm (fun i => e (N + 1 - 2 * (i + 1))) 11 := by
  have hf := fB_b N
  have F : ∀ j, j < 31 → (j % 2 = 0 ∨ 21 < j) → e (N - j) = 0 := fun j hj h => by
    by_cases c : e (N - j) = 0
    · exact c
    · by_cases c1 : 1 ≤ N - j
      · obtain ⟨q, q1, q2, q3⟩ := hz (N - j) (by unfold fB; split <;> omega) (by omega) c
        omega
      · rw [show N - j = 0 from by omega] at c
        exact absurd h0 c
  rw [sm_rev, sm_congr (g := fun j => e (N - j)) (fun i hi => by show e (fB N + (N + 1 - fB N - 1 - i)) = e (N - i); rw [show fB N + (N + 1 - fB N - 1 - i) = N - i from by omega])]
  rw [show sm (fun j => e (N - j)) (N + 1 - fB N) = sm (fun j => e (N - j)) 31 from by
    by_cases c : N ≤ 31
    · rw [show N + 1 - fB N = N from by unfold fB; rw [if_pos c]; omega]
      refine (sm_ext (by omega) (fun j a b => ?_)).symm
      show e (N - j) = 0
      rw [show N - j = 0 from by omega, h0]
    · rw [show N + 1 - fB N = 31 from by unfold fB; rw [if_neg c]; omega]]
  rw [sm_congr (f := fun i => e (N + 1 - 2 * (i + 1))) (g := fun i => e (N - (2 * i + 1))) (fun i hi => by show e (N + 1 - 2 * (i + 1)) = e (N - (2 * i + 1)); rw [show N + 1 - 2 * (i + 1) = N - (2 * i + 1) from by omega])]
  generalize hg : (fun j => e (N - j)) = g
  have G : ∀ j, j < 31 → (j % 2 = 0 ∨ 21 < j) → g j = 0 := fun j hj h => by rw [← hg]; exact F j hj h
  rw [show (fun i => e (N - (2 * i + 1))) = (fun i => g (2 * i + 1)) from by rw [← hg]]
  have e0 := G 0 (by omega) (by omega); have e2 := G 2 (by omega) (by omega); have e4 := G 4 (by omega) (by omega); have e6 := G 6 (by omega) (by omega)
  have e8 := G 8 (by omega) (by omega); have e10 := G 10 (by omega) (by omega); have e12 := G 12 (by omega) (by omega); have e14 := G 14 (by omega) (by omega)
  have e16 := G 16 (by omega) (by omega); have e18 := G 18 (by omega) (by omega); have e20 := G 20 (by omega) (by omega); have e22 := G 22 (by omega) (by omega)
  have e23 := G 23 (by omega) (by omega); have e24 := G 24 (by omega) (by omega); have e25 := G 25 (by omega) (by omega); have e26 := G 26 (by omega) (by omega)
  have e27 := G 27 (by omega) (by omega); have e28 := G 28 (by omega) (by omega); have e29 := G 29 (by omega) (by omega); have e30 := G 30 (by omega) (by omega)
  simp only [sm]
  rw [e0, e2, e4, e6, e8, e10, e12, e14, e16, e18, e20, e22, e23, e24, e25, e26, e27, e28, e29, e30]
  show _ = 0 + g 1 + g 3 + g 5 + g 7 + g 9 + g 11 + g 13 + g 15 + g 17 + g 19 + g 21
  omega
section
variable {P A : Ob} {w : Nat → Int} {B v : Int} {N : Nat}
theorem ring_b {i : Nat} (hN : w 14 = (N : Int)) (hi : i < 32) (hi2 : i < N) : ∃ b, inW w b ∧ rg b = i := by
  refine ⟨N - (N - 1 - i) % 32, ⟨?_, ?_, ?_⟩, ?_⟩
  · omega
  · omega
  · omega
  · unfold rg; omega
theorem lm_ne2 {b c d : Nat} (h : b ≠ c) (h1 : b < c + 32) (h2 : c < b + 32) (hd : d < 13) : lm c + d < lm b + 3 ∨ lm b + 13 ≤ lm c + d := by unfold lm; omega
theorem ar_up (hab : AB w B) (har : AR A w) {b : Nat} (hi : inW w b) : upb w b ↔ 0 < A 9 (rg b) := by
  constructor
  · intro h
    by_cases c : 0 < A 9 (rg b)
    · exact c
    · have h1 := har.pace b hi
      have h2 := har.down b hi (by omega)
      have := h.2
      omega
  · intro h
    exact ⟨hi.1, (har.up b hi h).2.1⟩
theorem wr_dok (h : WR P A w B) (hB : B ≤ 300000) : dok w := by
  have ab := h.ab.beats
  refine ⟨h.pb, by omega, fun b hi => ?_⟩
  have hp := h.ar.pace b hi
  have h14 := hi.2.2; have h142 := hi.2.1
  by_cases c : 0 < A 9 (rg b)
  · have hu := h.ar.up b hi c
    refine ⟨⟨by omega, by omega⟩, fun _ => ⟨by omega, by omega, fun s hs => ?_⟩⟩
    have hd := h.ar.driftB b hi c s hs
    omega
  · have hd := h.ar.down b hi (by omega)
    exact ⟨⟨by omega, by omega⟩, fun q => absurd q (by omega)⟩
theorem wr_bok (h : WR P A w B) (hB : B ≤ 300000) (hN : w 14 = (N : Int)) (h23 : w 23 = 0 ∨ w 23 = 1) : bok w N := ⟨wr_dok h hB, hN, h.ab.wind, h.ab.high, h23⟩
/-- the lump that lands, on both sides -/
theorem land_eq (h : WR P A w B) (hB : B ≤ 300000) (hN : w 14 = (N : Int)) (hv : 0 ≤ v) (hv2 : v ≤ 39) {q k : Nat} (hq : 1 ≤ q) (hq2 : q ≤ 11) (hk : k < 103 ∨ 519 ≤ k) : cE (cdr A w v) w N q k = dlb w v (N + 1 - 2 * q) k := by
  have hb := h.pb; have har := h.ar
  have b10 := hb.b10
  unfold cE dlb
  rw [cdr_n (by decide) (by decide)]
  by_cases c : 2 * q ≤ N
  · have hin : inW w (N + 1 - 2 * q) := ⟨by omega, by omega, by omega⟩
    have hr : rg (N + 1 - 2 * q) = rq N q := by unfold rg rq; omega
    have hu := ar_up h.ab har hin
    generalize hbb : N + 1 - 2 * q = b at *
    rw [← hr]
    have hl := lm_b b
    by_cases cu : 0 < A 9 (rg b)
    · have hup := har.up b hin cu
      rw [if_pos (hu.mpr cu)]
      by_cases c9 : A 9 (rg b) = (q : Int)
      · rw [if_pos c9]
        refine sm_congr (fun s hs => ?_)
        have hs2 : (s : Int) < w 10 := by omega
        have hd := har.drift b hin cu s hs2
        rw [dlt_c (by omega) (by omega), if_pos (by omega)]
        refine congrArg (fun p => hit p (w (26 + 2 * s)) k) ?_
        unfold cpp lpl
        rw [cdr_12 hs2, cdr_13 hs2, cdr_n (by decide) (by decide), cdr_n (by decide) (by decide), cdr_n (by decide) (by decide), cdr_n (by decide) (by decide), hup.2.2.1, hup.2.2.2.1, Int.mul_zero]
        rw [show A 12 s + w (25 + 2 * s) * vE v - A 14 (5 * rg b + s) + 0 = w (lm b + 3 + 2 * s) + w (25 + 2 * s) * vE v from by omega, show A 13 s + w (25 + 2 * s) * vS v - A 15 (5 * rg b + s) + 0 = w (lm b + 4 + 2 * s) + w (25 + 2 * s) * vS v from by omega]
      · rw [if_neg c9]
        refine (sm_zero (fun s hs => ?_)).symm
        rw [dlt_c (by omega) (by omega), if_neg (by omega)]
    · rw [if_neg (fun x => cu (hu.mp x)), if_neg (by omega)]
  · rw [show N + 1 - 2 * q = 0 from by omega, if_neg (show ¬ upb w 0 from fun x => absurd x.1 (by decide)), har.free (rq N q) (by unfold rq; omega) (by unfold rq; omega), if_neg (by omega)]
theorem sums_eq (h : WR P A w B) (hB : B ≤ 300000) (hN : w 14 = (N : Int)) (hv : 0 ≤ v) (hv2 : v ≤ 39) {k : Nat} (hk : k < 103 ∨ 519 ≤ k) : dD w v N k = cS (cdr A w v) w N 11 k := by
  have hb := h.pb; have har := h.ar
  have b10 := hb.b10
  unfold dD dla
  rw [sum31 (e := fun b => dlb w v b k) (N := N)]
  · exact sm_congr (fun i hi => (land_eq h hB hN hv hv2 (by omega) (by omega) hk).symm)
  · show dlb w v 0 k = 0
    unfold dlb
    rw [if_neg (show ¬ upb w 0 from fun x => absurd x.1 (by decide))]
  · intro b h1 h2 hne
    have hne2 : dlb w v b k ≠ 0 := hne
    unfold dlb at hne2
    by_cases cu : upb w b
    · rw [if_pos cu] at hne2
      by_cases c : w (lm b) = w 14 + 1
      · have ci : inW w b := ⟨by have := (fB_b N).1; omega, by omega, by have := (fB_b N).2.1; omega⟩
        have c9 := (ar_up h.ab har ci).mp cu
        have hu := har.up b ci c9
        have hp := har.pace b ci
        exact ⟨(A 9 (rg b)).toNat, by omega, by omega, by omega⟩
      · exfalso
        refine hne2 (sm_zero (fun s hs => ?_))
        have hl := lm_b b
        rw [dlt_c (by omega) (by omega), if_neg c]
    · rw [if_neg cu] at hne2
      exact absurd rfl hne2
/-- lumps up, by a row of paces -/
def un (z : Nat → Int) : Int := sm (fun i => if 0 < z i then 1 else 0) 32
theorem sm_up1 {g : Int → Int} {z : Nat → Int} {i0 : Nat} {x : Int} : ∀ {n : Nat}, sm (fun i => g (up1 z i0 x i)) n = sm (fun i => g (z i)) n + (if i0 < n then g x - g (z i0) else 0)
  | 0 => by rw [sm, sm, if_neg (by omega)]; omega
  | n + 1 => by
    rw [sm, sm, sm_up1 (n := n)]
    by_cases c : n = i0
    · subst c
      rw [up1_s, if_neg (by omega), if_pos (by omega)]; omega
    · rw [up1_n c]
      by_cases c2 : i0 < n
      · rw [if_pos c2, if_pos (by omega)]; omega
      · rw [if_neg c2, if_neg (by omega)]; omega
theorem un_up1 {z : Nat → Int} {i0 : Nat} {x : Int} (h : i0 < 32) : un (up1 z i0 x) = un z + ((if 0 < x then 1 else 0) - (if 0 < z i0 then 1 else 0)) := by
  unfold un
  rw [sm_up1 (g := fun y => if 0 < y then 1 else 0), if_pos h]
theorem csm_all {A : Ob} {w : Nat → Int} {i n : Nat} : csm A w i n 18 + csm A w i n 19 + csm A w i n 20 = sm (fun s => w (26 + 2 * s)) n := by
  unfold csm
  rw [← sm_add, ← sm_add]
  exact sm_congr (fun s _ => hit_all)
theorem cons_zz {A : Ob} {w : Nat → Int} {N : Nat} : ∀ j, j ≤ 11 → un (zz A N j) * shS w + (cS A w N j 18 + cS A w N j 19 + cS A w N j 20) = un (A 9) * shS w
  | 0, _ => by show un (A 9) * shS w + (0 + 0 + 0) = _; omega
  | j + 1, hj => by
    have ih := cons_zz (A := A) (w := w) (N := N) j (by omega)
    have hS : ∀ k, cS A w N (j + 1) k = cS A w N j k + cE A w N (j + 1) k := fun k => rfl
    rw [hS 18, hS 19, hS 20, zz]
    unfold cE
    by_cases c : A 9 (rq N (j + 1)) = ((j + 1 : Nat) : Int)
    · have hz : zz A N j (rq N (j + 1)) = A 9 (rq N (j + 1)) := zz_n j (fun q a b _ => by unfold rq; omega)
      rw [if_pos c, if_pos c, if_pos c, if_pos c, un_up1 (by unfold rq; omega), if_neg (by omega), hz, if_pos (by omega)]
      have ha := csm_all (A := A) (w := w) (i := rq N (j + 1)) (n := (w 10).toNat)
      have ha2 : sm (fun s => w (26 + 2 * s)) (w 10).toNat = shS w := rfl
      rw [ha2] at ha
      rw [Int.add_mul, show ((0 : Int) - 1) * shS w = - shS w from by rw [show (0 : Int) - 1 = -1 from rfl, Int.neg_mul, Int.one_mul]]
      omega
    · rw [if_neg c, if_neg c, if_neg c, if_neg c]; omega
theorem shS_b (hb : PB w) : 0 ≤ shS w ∧ shS w ≤ 45 := by
  have b10 := hb.b10
  unfold shS
  have h : ∀ n : Nat, (n : Int) ≤ w 10 → 0 ≤ sm (fun s => w (26 + 2 * s)) n ∧ sm (fun s => w (26 + 2 * s)) n ≤ 9 * n := by
    intro n
    induction n with
    | zero => intro _; exact ⟨(by decide : (0 : Int) ≤ 0), (by decide : (0 : Int) ≤ 9 * 0)⟩
    | succ n ih =>
      intro hn
      have h1 := ih (by omega)
      have h2 := hb.size n (by omega)
      rw [sm]
      omega
  have := h (w 10).toNat (by omega)
  omega
theorem un_b {z : Nat → Int} : 0 ≤ un z ∧ un z ≤ 32 := by
  have h : ∀ n : Nat, 0 ≤ sm (fun i => if 0 < z i then (1 : Int) else 0) n ∧ sm (fun i => if 0 < z i then (1 : Int) else 0) n ≤ n := by
    intro n
    induction n with
    | zero => exact ⟨(by decide : (0 : Int) ≤ 0), (by decide : (0 : Int) ≤ 0)⟩
    | succ n ih =>
      rw [sm]
      split <;> omega
  exact h 32
theorem dlb_c {w : Nat → Int} {b k : Nat} {v : Int} (hb : PB w) (hk : k < 103 ∨ 519 ≤ k) : 0 ≤ dlb w v b k ∧ (519 ≤ k → dlb w v b k ≤ dlb w v b 20) := by
  have b10 := hb.b10
  have hl := lm_b b
  unfold dlb
  by_cases cu : upb w b
  · rw [if_pos cu, if_pos cu]
    constructor
    · refine sm_nn (fun s hs => ?_)
      have hs2 := hb.size s (by omega)
      rw [dlt_c (by omega) (by omega)]
      split
      · exact (hit_nn (by omega)).1
      · omega
    · intro hk5
      refine sm_le (fun s hs => ?_)
      have hs2 := hb.size s (by omega)
      rw [dlt_c (by omega) (by omega), dlt_c (by omega) (by omega)]
      split
      · exact hit_le (by omega) hk5
      · omega
  · rw [if_neg cu, if_neg cu]
    exact ⟨by omega, fun _ => by omega⟩
theorem dD_c (hb : PB w) {k : Nat} (hk : k < 103 ∨ 519 ≤ k) : 0 ≤ dD w v N k ∧ (519 ≤ k → dD w v N k ≤ dD w v N 20) := by
  unfold dD dla
  exact ⟨sm_nn (fun i _ => (dlb_c hb hk).1), fun h => sm_le (fun i _ => (dlb_c hb hk).2 h)⟩
theorem bw_pl (hb : PB w) : Pl (bw w v N) w := fun k hk => by
  have hl := lm_b (N + 1)
  unfold bw
  rw [if_neg (by omega), if_neg (by omega), if_neg (by omega), if_neg (by omega), if_neg (by omega), if_neg (by omega), if_neg (by omega), if_neg (by omega), if_neg (by omega), if_neg (by omega), dD_z hb (by omega) (by omega) (by omega) (by omega)]
  omega
theorem bw_14 : bw w v N 14 = (N : Int) + 1 := rfl
theorem bw_15 : bw w v N 15 = hG w v N := rfl
theorem bw_16 : bw w v N 16 = w 16 + hG w v N := rfl
theorem bw_17 : bw w v N 17 = snG w v N := rfl
theorem bw_21 : bw w v N 21 = w 21 + (if hG w v N ≤ 0 then 0 else shS w) := rfl
theorem bw_c {k : Nat} (hk : k = 18 ∨ k = 19 ∨ k = 20 ∨ 519 ≤ k) : bw w v N k = w k + dD w v N k := by
  have hl := lm_b (N + 1)
  unfold bw
  rw [if_neg (by omega), if_neg (by omega), if_neg (by omega), if_neg (by omega), if_neg (by omega), if_neg (by omega), if_neg (by omega), if_neg (by omega), if_neg (by omega), if_neg (by omega)]
theorem bw_wind (hb : PB w) {b : Nat} (h1 : b ≤ N) (h2 : N < b + 31) : bw w v N (71 + b % 32) = w (71 + b % 32) := by
  have hl := lm_b (N + 1)
  unfold bw
  rw [if_neg (by omega), if_neg (by omega), if_neg (by omega), if_neg (by omega), if_neg (by omega), if_neg (by omega), if_neg (by omega), if_neg (by omega), if_neg (by omega), if_neg (by omega), dD_z hb (by omega) (by omega) (by omega) (by omega)]
  omega
theorem bw_wnew : bw w v N (71 + (N + 1) % 32) = v := by
  unfold bw
  rw [if_neg (by omega), if_neg (by omega), if_neg (by omega), if_neg (by omega), if_neg (by omega), if_pos rfl]
theorem bw_lold {b d : Nat} (h1 : b ≤ N) (h2 : N < b + 31) (hd : d < 13) : bw w v N (lm b + d) = w (lm b + d) + dD w v N (lm b + d) := by
  have hl := lm_b (N + 1); have hl2 := lm_b b
  have hne := lm_ne2 (b := N + 1) (c := b) (d := d) (by omega) (by omega) (by omega) hd
  have hne3 : lm b + d < lm (N + 1) ∨ lm (N + 1) + 13 ≤ lm b + d := by unfold lm at *; omega
  unfold bw
  rw [if_neg (by omega), if_neg (by omega), if_neg (by omega), if_neg (by omega), if_neg (by omega), if_neg (by omega), if_neg (by omega), if_neg (by omega), if_neg (by omega), if_neg (by omega)]
theorem dD_l (hb : PB w) {b d : Nat} (h0 : fB N ≤ b) (h1 : b ≤ N) (hd : d < 13) : dD w v N (lm b + d) = dlb w v b (lm b + d) := by
  have hf := fB_b N
  have hl := lm_b b
  unfold dD dla
  rw [sm_one (j := b - fB N) (by omega) (fun i hi hn => by
    show dlb w v (fB N + i) (lm b + d) = 0
    exact dlb_z hb (by omega) (by omega) (by omega) (by omega) (lm_ne2 (by omega) (by omega) (by omega) hd)), show fB N + (b - fB N) = b from by omega]
theorem dlb_lo (hb : PB w) {b d : Nat} (hd : d < 3) : dlb w v b (lm b + d) = 0 := by
  have hl := lm_b b
  exact dlb_z hb (by omega) (by omega) (by omega) (by omega) (by omega)
theorem dlb_x (hb : PB w) {b s : Nat} (hu : upb w b) (hs : (s : Int) < w 10) : dlb w v b (lm b + 3 + 2 * s) = w (25 + 2 * s) * vE v := by
  have b10 := hb.b10
  have hl := lm_b b
  unfold dlb
  rw [if_pos hu]
  show sm (fun i => dlt w (lm b) v i (lm b + 3 + 2 * s)) (w 10).toNat = _
  rw [sm_one (j := s) (by omega) (fun i hi hn => dlt_z (by omega) (by omega) (by omega) (by omega) (by omega) (by omega))]
  unfold dlt
  rw [if_pos rfl, if_neg (by omega), hit_z (by omega) (by omega) (by omega) (by omega)]
  split <;> omega
theorem dlb_y (hb : PB w) {b s : Nat} (hu : upb w b) (hs : (s : Int) < w 10) : dlb w v b (lm b + 4 + 2 * s) = w (25 + 2 * s) * vS v := by
  have b10 := hb.b10
  have hl := lm_b b
  unfold dlb
  rw [if_pos hu]
  show sm (fun i => dlt w (lm b) v i (lm b + 4 + 2 * s)) (w 10).toNat = _
  rw [sm_one (j := s) (by omega) (fun i hi hn => dlt_z (by omega) (by omega) (by omega) (by omega) (by omega) (by omega))]
  unfold dlt
  rw [if_neg (by omega), if_pos rfl, hit_z (by omega) (by omega) (by omega) (by omega)]
  split <;> omega
theorem bw_l0 : bw w v N (lm (N + 1)) = (if hG w v N ≤ 0 then 0 else (N : Int) + 1 + 2 * pcN (hG w v N)) := by
  have hl := lm_b (N + 1)
  unfold bw
  rw [if_neg (by omega), if_neg (by omega), if_neg (by omega), if_neg (by omega), if_neg (by omega), if_neg (by omega), if_pos rfl]
theorem bw_l1 : bw w v N (lm (N + 1) + 1) = w 3 := by
  have hl := lm_b (N + 1)
  unfold bw
  rw [if_neg (by omega), if_neg (by omega), if_neg (by omega), if_neg (by omega), if_neg (by omega), if_neg (by omega), if_neg (by omega), if_pos rfl]
theorem bw_l2 : bw w v N (lm (N + 1) + 2) = w 4 := by
  have hl := lm_b (N + 1)
  unfold bw
  rw [if_neg (by omega), if_neg (by omega), if_neg (by omega), if_neg (by omega), if_neg (by omega), if_neg (by omega), if_neg (by omega), if_neg (by omega), if_pos rfl]
theorem bw_l3 {d : Nat} (h1 : 3 ≤ d) (h2 : d < 13) : bw w v N (lm (N + 1) + d) = 0 := by
  have hl := lm_b (N + 1)
  unfold bw
  rw [if_neg (by omega), if_neg (by omega), if_neg (by omega), if_neg (by omega), if_neg (by omega), if_neg (by omega), if_neg (by omega), if_neg (by omega), if_neg (by omega), if_pos (by omega)]
end
