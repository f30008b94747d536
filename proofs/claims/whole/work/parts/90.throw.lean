/-! LAYER 2: a beat of the class: drift and throw -/
theorem driftAll_loop {P A : Ob} {w : Nat → Int} {e z : Int} (hb : PB w) (hp : PR P w) : ∀ (m s : Nat), (s : Int) ≤ w 10 → w 10 - s < m → lX0_driftAll_32 P e z m (s : Int) (upA (upA A 12 (fun i => A 12 i + if i < s then w (25 + 2 * i) * e else 0)) 13 (fun i => A 13 i + if i < s then w (25 + 2 * i) * z else 0)) = some (upA (upA A 12 (fun i => A 12 i + if (i : Int) < w 10 then w (25 + 2 * i) * e else 0)) 13 (fun i => A 13 i + if (i : Int) < w 10 then w (25 + 2 * i) * z else 0)) := by
  have b10 := hb.b10
  intro m
  induction m with
  | zero => intro s q1 q2; omega
  | succ m ih =>
    intro s q1 q2
    rw [lX0_driftAll_32, hp.p11]
    by_cases c : w 10 ≤ s
    · rw [be_t c (by omega) (by omega)]
      have hs : ∀ i : Nat, ((i : Int) < w 10) = (i < s) := fun i => propext ⟨fun h => by omega, fun h => by omega⟩
      simp only [hs]
    · have e1 := (hp.size s (by omega)).1
      rw [be_f (by omega) (by omega) (by omega), gi (by omega) (by omega) (by omega), gi (by omega) (by omega) (by omega), gi (by omega) (by omega) (by omega), nm_e', gi (by omega) (by omega) (by omega), gi (by omega) (by omega) (by omega), gi (by omega) (by omega) (by omega), nm_e', nm_e', ix_nat (by omega), e1]
      have h := ih (s + 1) (by omega) (by omega)
      rw [show up2 (up2 (upA (upA A 12 (fun i => A 12 i + if i < s then w (25 + 2 * i) * e else 0)) 13 (fun i => A 13 i + if i < s then w (25 + 2 * i) * z else 0)) 12 s (upA (upA A 12 (fun i => A 12 i + if i < s then w (25 + 2 * i) * e else 0)) 13 (fun i => A 13 i + if i < s then w (25 + 2 * i) * z else 0) 12 s + w (25 + 2 * s) * e)) 13 s (up2 (upA (upA A 12 (fun i => A 12 i + if i < s then w (25 + 2 * i) * e else 0)) 13 (fun i => A 13 i + if i < s then w (25 + 2 * i) * z else 0)) 12 s (upA (upA A 12 (fun i => A 12 i + if i < s then w (25 + 2 * i) * e else 0)) 13 (fun i => A 13 i + if i < s then w (25 + 2 * i) * z else 0) 12 s + w (25 + 2 * s) * e) 13 s + w (25 + 2 * s) * z) = (upA (upA A 12 (fun i => A 12 i + if i < s + 1 then w (25 + 2 * i) * e else 0)) 13 (fun i => A 13 i + if i < s + 1 then w (25 + 2 * i) * z else 0)) from by
        funext j i
        by_cases c13 : j = 13
        · subst c13
          rw [up2_s, up2_n (by decide), upA_s, upA_s]
          by_cases ci : i = s
          · subst ci
            rw [up1_s, if_neg (by omega), if_pos (by omega)]; omega
          · rw [up1_n ci]
            by_cases ci2 : i < s
            · rw [if_pos ci2, if_pos (by omega)]
            · rw [if_neg ci2, if_neg (by omega)]
        · rw [up2_n c13, upA_n (k := 13) (j := 12) (by decide), upA_n c13]
          by_cases c12 : j = 12
          · subst c12
            rw [up2_s, upA_n (by decide), upA_s, upA_s]
            by_cases ci : i = s
            · subst ci
              rw [up1_s, if_neg (by omega), if_pos (by omega)]; omega
            · rw [up1_n ci]
              by_cases ci2 : i < s
              · rw [if_pos ci2, if_pos (by omega)]
              · rw [if_neg ci2, if_neg (by omega)]
          · rw [up2_n c12, upA_n c13, upA_n c12, upA_n c12]]
      exact h
/-- the sums of all drifts, behind a beat of wind v -/
def cdr (A : Ob) (w : Nat → Int) (v : Int) : Ob := upA (upA A 12 (fun i => A 12 i + if (i : Int) < w 10 then w (25 + 2 * i) * vE v else 0)) 13 (fun i => A 13 i + if (i : Int) < w 10 then w (25 + 2 * i) * vS v else 0)
theorem cdr_n {A : Ob} {w : Nat → Int} {v : Int} {j : Nat} (h12 : j ≠ 12) (h13 : j ≠ 13) : cdr A w v j = A j := by
  unfold cdr
  rw [upA_n h13, upA_n h12]
theorem cdr_12 {A : Ob} {w : Nat → Int} {v : Int} {s : Nat} (h : (s : Int) < w 10) : cdr A w v 12 s = A 12 s + w (25 + 2 * s) * vE v := by
  unfold cdr
  rw [upA_n (by decide), upA_s, if_pos h]
theorem cdr_13 {A : Ob} {w : Nat → Int} {v : Int} {s : Nat} (h : (s : Int) < w 10) : cdr A w v 13 s = A 13 s + w (25 + 2 * s) * vS v := by
  unfold cdr
  rw [upA_s, if_pos h]
theorem driftAll7 {P A : Ob} {w : Nat → Int} {v : Int} (hb : PB w) (hp : PR P w) (hv : 0 ≤ v) (hv2 : v ≤ 39) : fX0_driftAll A P v = some (cdr A w v) := by
  have b10 := hb.b10
  unfold fX0_driftAll
  rw [nm_e', jrm_n hv (by omega) (by decide) (by decide), jdv_n hv (by omega) (by decide) (by decide), gi (by omega) (by omega) (by omega), nm_e', gi (by omega) (by omega) (by omega), nm_e', ix_e (by omega) (by omega)]
  have h := driftAll_loop (A := A) (e := vE v) (z := vS v) hb hp FU 0 (by omega) (by show _ < ((5000 : Nat) : Int); omega)
  rw [show (upA (upA A 12 (fun i => A 12 i + if i < 0 then w (25 + 2 * i) * vE v else 0)) 13 (fun i => A 13 i + if i < 0 then w (25 + 2 * i) * vS v else 0)) = A from by
    simp only [Nat.not_lt_zero, if_false, Int.add_zero]
    rw [show (fun i => A 12 i) = A 12 from rfl, upA_self, show (fun i => A 13 i) = A 13 from rfl, upA_self]] at h
  exact h
theorem windAgo7 {B : Ob} {w : Nat → Int} {v g : Int} {N : Nat} (h0 : B 0 0 = (N : Int)) (hN : N ≤ 400000) (hg : 0 ≤ g) (hg2 : g ≤ 20) (hv : B 8 (N % 32) = v) (hw : ∀ b : Nat, 1 ≤ b → b ≤ N → N < b + 31 → B 8 (rg b) = w (71 + b % 32)) : fX0_windAgo B g = some (sA w v N g) := by
  unfold fX0_windAgo sA
  rw [h0]
  by_cases c : (N : Int) + 1 - g ≤ 0
  · rw [be_f (by omega) (by omega) (by omega), if_pos c]
  · rw [be_t (by omega) (by omega) (by omega), if_neg c, jan_31, gi (by omega) (by omega) (by omega), ix_e (by omega) (by omega)]
    by_cases c2 : g = 0
    · subst c2
      rw [if_pos rfl, show (((N : Int) - 0) % 32).toNat = N % 32 from by omega, hv]
    · rw [if_neg c2, ← hw (N + 1 - g.toNat) (by omega) (by omega) (by omega)]
      refine congrArg some (congrArg (B 8) ?_)
      unfold rg
      omega
/-- behind s sizes of a throw -/
def Th (C0 : Ob) (w : Nat → Int) (i0 s : Nat) (C : Ob) : Prop := (∀ j, j ≠ 7 → j ≠ 14 → j ≠ 15 → C j = C0 j) ∧ C 7 0 = C0 7 0 + sm (fun i => w (26 + 2 * i)) s ∧ (∀ i, i < s → C 14 (5 * i0 + i) = C0 12 i ∧ C 15 (5 * i0 + i) = C0 13 i) ∧ ∀ k, k < 5 * i0 ∨ 5 * i0 + 5 ≤ k → C 14 k = C0 14 k ∧ C 15 k = C0 15 k
theorem throw_loop {P C0 : Ob} {w : Nat → Int} {i0 : Nat} {kx : Ob → Option Ob} (hb : PB w) (hp : PR P w) (hi : i0 < 32) (h1 : 0 < C0 1 0 ∧ C0 1 0 ≤ 60) : ∀ (m s : Nat) (C : Ob), (s : Int) ≤ w 10 → w 10 - s < m → Th C0 w i0 s C → ∃ C', lX0_throwLump_133 P (i0 : Int) kx m (s : Int) C = kx C' ∧ Th C0 w i0 (w 10).toNat C' := by
  have b10 := hb.b10
  intro m
  induction m with
  | zero => intro s C q1 q2; omega
  | succ m ih =>
    intro s C q1 q2 ht
    obtain ⟨t1, t2, t3, t4⟩ := ht
    rw [lX0_throwLump_133, hp.p11]
    by_cases c : w 10 ≤ s
    · exact ⟨C, be_t c (by omega) (by omega), by rw [show (w 10).toNat = s from by omega]; exact ⟨t1, t2, t3, t4⟩⟩
    · have e := (hp.size s (by omega)).2
      have ii : ix ((i0 : Int) * 5 + (s : Int)) = 5 * i0 + s := by rw [ix_e (by omega) (by omega)]; omega
      rw [be_f (by omega) (by omega) (by omega), t1 1 (by decide) (by decide) (by decide), be_f (by omega) (by omega) (by omega), gi (by omega) (by omega) (by omega), gi (by omega) (by omega) (by omega), nm_e', gi (by omega) (by omega) (by omega), gi (by omega) (by omega) (by omega), nm_e', gi (by omega) (by omega) (by omega), nm_e', nm_e', ii, ix_nat (by omega), e, up2_n (show 13 ≠ 14 by decide), t1 12 (by decide) (by decide) (by decide), t1 13 (by decide) (by decide) (by decide)]
      refine ih (s + 1) _ (by omega) (by omega) ⟨?_, ?_, ?_, ?_⟩
      · intro j j7 j14 j15
        rw [up2_n j7, up2_n j15, up2_n j14, t1 j j7 j14 j15]
      · rw [up2_s, up1_s, up2_n (by decide), up2_n (by decide), t2, sm]; omega
      · intro i hi2
        rw [up2_n (by decide), up2_n (by decide), up2_s, up2_n (by decide), up2_s, up2_n (by decide)]
        by_cases ci : i = s
        · subst ci
          rw [up1_s, up1_s]; exact ⟨rfl, rfl⟩
        · rw [up1_n (by omega), up1_n (by omega)]
          exact t3 i (by omega)
      · intro k hk
        rw [up2_n (by decide), up2_n (by decide), up2_s, up2_n (by decide), up2_s, up2_n (by decide), up1_n (by omega), up1_n (by omega)]
        exact t4 k hk
/-- behind a throw of the class -/
def Tw (B : Ob) (w : Nat → Int) (v : Int) (N : Nat) (h : Int) (A' : Ob) : Prop :=
  (A' 0 0 = (N : Int) + 1 ∧ A' 1 0 = h ∧ A' 2 0 = B 2 0 + h ∧ A' 3 0 = sA w v N (w 8) ∧ A' 7 0 = B 7 0 + (if h ≤ 0 then 0 else shS w)) ∧
  (A' 8 = up1 (B 8) (N % 32) v ∧ A' 9 = up1 (B 9) (N % 32) (pcN h) ∧ A' 10 = up1 (B 10) (N % 32) (w 3) ∧ A' 11 = up1 (B 11) (N % 32) (w 4)) ∧
  (A' 4 = B 4 ∧ A' 5 = B 5 ∧ A' 6 = B 6 ∧ A' 12 = B 12 ∧ A' 13 = B 13 ∧ A' 16 = B 16) ∧
  (0 < h → ∀ s : Nat, (s : Int) < w 10 → A' 14 (5 * (N % 32) + s) = B 12 s ∧ A' 15 (5 * (N % 32) + s) = B 13 s) ∧
  ∀ k, k < 5 * (N % 32) ∨ 5 * (N % 32) + 5 ≤ k → A' 14 k = B 14 k ∧ A' 15 k = B 15 k
theorem throw_62 {P B C : Ob} {w : Nat → Int} {v : Int} {N : Nat} {st : Int} (hb : PB w) (hp : PR P w) (hN : N ≤ 400000) (hs0 : 0 ≤ st) (hs1 : st ≤ 9) (h15 : 0 ≤ w 15 ∧ w 15 ≤ 60)
    (c0 : C 0 0 = (N : Int)) (c1 : C 1 0 = w 15) (c3 : C 3 0 = sA w v N (w 8)) (c8 : C 8 = up1 (B 8) (N % 32) v) (cn : ∀ j, j ≠ 0 → j ≠ 1 → j ≠ 3 → j ≠ 8 → C j = B j) :
    ∃ A', jX0_throwLump_62 C P ((N % 32 : Nat) : Int) st = some A' ∧ Tw B w v N (min (min (w 6) (letsR w st (w 12).toNat)) (w 15 + w 9)) A' := by
  have b6 := hb.b6; have b9 := hb.b9; have b12 := hb.b12; have b10 := hb.b10
  have hl := letsR_b (M := fun _ => w) hb (st := st) (w 12).toNat (by show _ ≤ w 12; omega)
  have hl1 : 0 ≤ letsR w st (w 12).toNat := hl.1
  have hl2 : letsR w st (w 12).toNat ≤ 60 := hl.2
  have i0 : N % 32 < 32 := by omega
  unfold jX0_throwLump_62
  rw [show fX1_highLetBy P st = some (min (w 6) (letsR w st (w 12).toNat)) from lets7 (M := fun _ => w) hb hp hs0 hs1, bd_some, c1, hp.p10, jmi_e (by omega) (by omega) (by omega) (by omega), nm_e', nm_e']
  generalize hh : min (min (w 6) (letsR w st (w 12).toNat)) (w 15 + w 9) = h
  have hb0 : 0 ≤ h ∧ h ≤ 60 := by omega
  rw [up2_n (k := 1) (j := 2) (by decide), up2_n (k := 2) (j := 1) (by decide), up2_s, up1_s, pc7 hb0.1 hb0.2, bd_some, gi (by omega) (by omega) (by omega), nm_e', gi (by omega) (by omega) (by omega), nm_e', gi (by omega) (by omega) (by omega), nm_e', ix_nat (by omega), hp.p3, hp.p4]
  generalize hC0 : up2 (up2 (up2 (up2 (up2 C 1 0 h) 2 0 (C 2 0 + h)) 9 (N % 32) (pcN h)) 10 (N % 32) (w 3)) 11 (N % 32) (w 4) = C0
  have d1 : C0 1 0 = h := by rw [← hC0, up2_n (by decide), up2_n (by decide), up2_n (by decide), up2_n (by decide), up2_s, up1_s]
  have d2 : C0 2 0 = B 2 0 + h := by rw [← hC0, up2_n (by decide), up2_n (by decide), up2_n (by decide), up2_s, up1_s, cn 2 (by decide) (by decide) (by decide) (by decide)]
  have d9 : C0 9 = up1 (B 9) (N % 32) (pcN h) := by rw [← hC0, up2_n (by decide), up2_n (by decide), up2_s, up2_n (by decide), up2_n (by decide), cn 9 (by decide) (by decide) (by decide) (by decide)]
  have d10 : C0 10 = up1 (B 10) (N % 32) (w 3) := by rw [← hC0, up2_n (by decide), up2_s, up2_n (by decide), up2_n (by decide), up2_n (by decide), cn 10 (by decide) (by decide) (by decide) (by decide)]
  have d11 : C0 11 = up1 (B 11) (N % 32) (w 4) := by rw [← hC0, up2_s, up2_n (by decide), up2_n (by decide), up2_n (by decide), up2_n (by decide), cn 11 (by decide) (by decide) (by decide) (by decide)]
  have dn : ∀ j, j ≠ 1 → j ≠ 2 → j ≠ 9 → j ≠ 10 → j ≠ 11 → C0 j = C j := fun j a b c d e => by rw [← hC0, up2_n e, up2_n d, up2_n c, up2_n b, up2_n a]
  have fin : ∀ C' n, (∀ j, j ≠ 7 → j ≠ 14 → j ≠ 15 → C' j = C0 j) → C' 7 0 = B 7 0 + n → n = (if h ≤ 0 then 0 else shS w) → (0 < h → ∀ s : Nat, (s : Int) < w 10 → C' 14 (5 * (N % 32) + s) = B 12 s ∧ C' 15 (5 * (N % 32) + s) = B 13 s) → (∀ k, k < 5 * (N % 32) ∨ 5 * (N % 32) + 5 ≤ k → C' 14 k = B 14 k ∧ C' 15 k = B 15 k) → ∃ A', jX0_throwLump_207 C' P = some A' ∧ Tw B w v N h A' := by
    intro C' n f1 f2 fn f3 f4
    have z0 : C' 0 0 = (N : Int) := by rw [f1 0 (by decide) (by decide) (by decide), dn 0 (by decide) (by decide) (by decide) (by decide) (by decide), c0]
    refine ⟨_, rfl, ⟨?_, ?_, ?_, ?_, ?_⟩, ⟨?_, ?_, ?_, ?_⟩, ⟨?_, ?_, ?_, ?_, ?_, ?_⟩, ?_, ?_⟩
    · rw [up2_s, up1_s, z0]
    · rw [up2_n (by decide), f1 1 (by decide) (by decide) (by decide), d1]
    · rw [up2_n (by decide), f1 2 (by decide) (by decide) (by decide), d2]
    · rw [up2_n (by decide), f1 3 (by decide) (by decide) (by decide), dn 3 (by decide) (by decide) (by decide) (by decide) (by decide), c3]
    · rw [up2_n (by decide), f2, fn]
    · rw [up2_n (by decide), f1 8 (by decide) (by decide) (by decide), dn 8 (by decide) (by decide) (by decide) (by decide) (by decide), c8]
    · rw [up2_n (by decide), f1 9 (by decide) (by decide) (by decide), d9]
    · rw [up2_n (by decide), f1 10 (by decide) (by decide) (by decide), d10]
    · rw [up2_n (by decide), f1 11 (by decide) (by decide) (by decide), d11]
    · rw [up2_n (by decide), f1 4 (by decide) (by decide) (by decide), dn 4 (by decide) (by decide) (by decide) (by decide) (by decide), cn 4 (by decide) (by decide) (by decide) (by decide)]
    · rw [up2_n (by decide), f1 5 (by decide) (by decide) (by decide), dn 5 (by decide) (by decide) (by decide) (by decide) (by decide), cn 5 (by decide) (by decide) (by decide) (by decide)]
    · rw [up2_n (by decide), f1 6 (by decide) (by decide) (by decide), dn 6 (by decide) (by decide) (by decide) (by decide) (by decide), cn 6 (by decide) (by decide) (by decide) (by decide)]
    · rw [up2_n (by decide), f1 12 (by decide) (by decide) (by decide), dn 12 (by decide) (by decide) (by decide) (by decide) (by decide), cn 12 (by decide) (by decide) (by decide) (by decide)]
    · rw [up2_n (by decide), f1 13 (by decide) (by decide) (by decide), dn 13 (by decide) (by decide) (by decide) (by decide) (by decide), cn 13 (by decide) (by decide) (by decide) (by decide)]
    · rw [up2_n (by decide), f1 16 (by decide) (by decide) (by decide), dn 16 (by decide) (by decide) (by decide) (by decide) (by decide), cn 16 (by decide) (by decide) (by decide) (by decide)]
    · intro hp0 s hs
      rw [up2_n (by decide), up2_n (by decide)]
      exact f3 hp0 s hs
    · intro k hk
      rw [up2_n (by decide), up2_n (by decide)]
      exact f4 k hk
  have e7 : C0 7 = B 7 := by rw [dn 7 (by decide) (by decide) (by decide) (by decide) (by decide), cn 7 (by decide) (by decide) (by decide) (by decide)]
  have e12 : C0 12 = B 12 := by rw [dn 12 (by decide) (by decide) (by decide) (by decide) (by decide), cn 12 (by decide) (by decide) (by decide) (by decide)]
  have e13 : C0 13 = B 13 := by rw [dn 13 (by decide) (by decide) (by decide) (by decide) (by decide), cn 13 (by decide) (by decide) (by decide) (by decide)]
  have e14 : C0 14 = B 14 := by rw [dn 14 (by decide) (by decide) (by decide) (by decide) (by decide), cn 14 (by decide) (by decide) (by decide) (by decide)]
  have e15 : C0 15 = B 15 := by rw [dn 15 (by decide) (by decide) (by decide) (by decide) (by decide), cn 15 (by decide) (by decide) (by decide) (by decide)]
  by_cases c : h ≤ 0
  · have hf := fin C0 0 (fun _ _ _ _ => rfl) (by rw [e7]; omega) (by rw [if_pos c]) (fun q => absurd q (by omega)) (fun k _ => by rw [e14, e15]; exact ⟨rfl, rfl⟩)
    rw [show FU = 4999 + 1 from rfl, lX0_throwLump_133, hp.p11, d1, be_t c (by omega) (by omega)]
    by_cases c2 : w 10 ≤ 0
    · rw [be_t c2 (by omega) (by omega)]; exact hf
    · rw [be_f (by omega) (by omega) (by omega)]; exact hf
  · obtain ⟨C', g1, g2, g3, g4, g5⟩ := throw_loop (P := P) (C0 := C0) (w := w) (i0 := N % 32) (kx := fun A_17 => jX0_throwLump_207 A_17 P) hb hp i0 (by rw [d1]; omega) FU 0 C0 (by omega) (by show _ < ((5000 : Nat) : Int); omega) ⟨fun _ _ _ _ => rfl, by rw [sm]; omega, fun i hi => absurd hi (by omega), fun _ _ => ⟨rfl, rfl⟩⟩
    rw [show ((0 : Nat) : Int) = 0 from rfl] at g1
    rw [g1]
    refine fin C' _ g2 (by rw [g3, e7]) (by rw [if_neg c]; rfl) ?_ ?_
    · intro _ s hs
      have h1 := g4 s (by omega)
      rw [e12, e13] at h1
      exact h1
    · intro k hk
      have h1 := g5 k hk
      rw [e14, e15] at h1
      exact h1
theorem throwLump7 {P B : Ob} {w : Nat → Int} {v : Int} {N : Nat} (hb : PB w) (hp : PR P w) (hw : bok w N) (h23 : w 23 = 0) (hv : 0 ≤ v) (hv2 : v ≤ 39) (b0 : B 0 0 = (N : Int)) (b1 : B 1 0 = w 15) (hwd : ∀ b : Nat, 1 ≤ b → b ≤ N → N < b + 31 → B 8 (rg b) = w (71 + b % 32)) :
    ∃ A', fX0_throwLump B P v = some A' ∧ Tw B w v N (hG w v N) A' := by
  have b8 := hb.b8; have b22 := hb.b22
  have hn := hw.1.2.1; have h14 := hw.2.1; have h15 := hw.2.2.2.1
  have hst := stG_b hw hv hv2
  have hg : hG w v N = min (min (w 6) (letsR w (stG w v N) (w 12).toNat)) (w 15 + w 9) := by unfold hG; rw [if_neg (by omega)]
  have sb8 := sA_b (g := w 8) hw hv hv2 (by omega) (by omega)
  unfold fX0_throwLump
  rw [b0, jan_31, show (N : Int) % 32 = ((N % 32 : Nat) : Int) from by omega, nm_e', gi (by omega) (by omega) (by omega), nm_e', ix_nat (by omega)]
  have ev : up2 B 8 (N % 32) v 8 (N % 32) = v := by rw [up2_s, up1_s]
  have ew : ∀ b : Nat, 1 ≤ b → b ≤ N → N < b + 31 → up2 B 8 (N % 32) v 8 (rg b) = w (71 + b % 32) := fun b h1 h2 h3 => by rw [up2_s, up1_n (by unfold rg; omega)]; exact hwd b h1 h2 h3
  rw [hp.p8, windAgo7 (by rw [up2_n (by decide)]; exact b0) (by omega) (by omega) (by omega) ev ew, bd_some, nm_e', up2_s, up1_s, jrm_n sb8.1 (by omega) (by decide) (by decide), nm_e', hp.p9]
  generalize hC : up2 (up2 B 8 (N % 32) v) 3 0 (sA w v N (w 8)) = C
  have c0 : C 0 0 = (N : Int) := by rw [← hC, up2_n (by decide), up2_n (by decide), b0]
  have c1 : C 1 0 = w 15 := by rw [← hC, up2_n (by decide), up2_n (by decide), b1]
  have c3 : C 3 0 = sA w v N (w 8) := by rw [← hC, up2_s, up1_s]
  have c8 : C 8 = up1 (B 8) (N % 32) v := by rw [← hC, up2_n (by decide), up2_s]
  have cn : ∀ j, j ≠ 0 → j ≠ 1 → j ≠ 3 → j ≠ 8 → C j = B j := fun j _ _ h3 h8 => by rw [← hC, up2_n h3, up2_n h8]
  by_cases c : w 22 = -1
  · rw [bq_t c, hg, show stG w v N = sA w v N (w 8) % 10 from by unfold stG; rw [if_pos c]]
    exact throw_62 hb hp (by omega) (by omega) (by omega) h15 c0 c1 c3 c8 cn
  · have sb22 := sA_b (g := w 22) hw hv hv2 (by omega) (by omega)
    have e8 : C 8 (N % 32) = v := by rw [c8, up1_s]
    have e9 : ∀ b : Nat, 1 ≤ b → b ≤ N → N < b + 31 → C 8 (rg b) = w (71 + b % 32) := fun b h1 h2 h3 => by rw [c8, up1_n (by unfold rg; omega)]; exact hwd b h1 h2 h3
    rw [bq_f c (by omega) (by omega) (by omega) (by omega), windAgo7 c0 (by omega) (by omega) (by omega) e8 e9, bd_some, nm_e', jrm_n sb22.1 (by omega) (by decide) (by decide), jmx_e (by omega) (by omega) (by omega) (by omega), hg, show stG w v N = max (sA w v N (w 8) % 10) (sA w v N (w 22) % 10) from by unfold stG; rw [if_neg c]]
    exact throw_62 hb hp (by omega) (by omega) (by omega) h15 c0 c1 c3 c8 cn
