/-! LAYER 2: what is told: the next token, words, numbers -/
section
variable {S : Nat} {B : Nat → Int} {Y M : Ob} {a b : Nat}
theorem tok_ok (h : BS S B Y M) (h4 : Y 4 0 = (b : Int)) (h8 : M 8 0 = (b : Int)) (hbS : b ≤ S) : ∃ (Y' M' : Ob) (a' b' : Nat), fX4_step Y = some Y' ∧ fX8_advance M = some M' ∧ TK S B Y' M' a' b' ∧ b ≤ a' ∧ ∀ j : Nat, j < 8 ∨ 11 < j → M' j = M j := by
  have hS := h.2.2.1
  unfold fX4_step fX8_advance
  rw [nm_e', h4]
  obtain ⟨p, M1, q1, q2, q3, q4, q5, q6⟩ := skip_ok (Y := Y) (S := S) (B := B) (kx := fun lx1_4 => jX4_step_41 Y lx1_4) (kx8 := fun M_4 => nm (up2 M_4 9 0 (M_4 8 0)) (fun M_5 => bd (fX8_see M_5 (M_5 8 0)) (fun rr_6 => bq rr_6 (-1) (nm (up2 M_5 10 0 0) (fun M_24 => some M_24)) (bd (fX8_in (jwl rr_6) 97 122) (fun rr_7 => bq rr_7 0 (bd (fX8_in (jwl rr_6) 48 57) (fun rr_8 => bq rr_8 0 (bq rr_6 59 (jX8_advance_226 M_5 3) (jX8_advance_226 M_5 4)) (nm (up2 M_5 11 0 0) (fun M_11 => lX8_advance_144 (fun M_17 => nm (up2 M_17 10 0 2) (fun M_18 => some M_18)) FU M_11)))) (lX8_advance_83 (fun M_22 => nm (up2 M_22 10 0 1) (fun M_23 => some M_23)) FU M_5)))))) FU b M h h8 hbS (by show _ < 5000; omega)
  rw [q1, q2]
  clear q1 q2
  unfold jX4_step_41 jX4_step_107 jX8_advance_226
  rw [nm_e', nm_e', q5]
  have hB5 : BS S B (up2 Y 3 0 (p : Int)) (up2 M1 9 0 (p : Int)) := h.c (up2_n (by decide)) (up2_n (by decide)) (by rw [up2_n (by decide), q6 4 (by decide)]) (by rw [up2_n (by decide), q6 7 (by decide)])
  have m8 : up2 M1 9 0 (p : Int) 8 0 = (p : Int) := by rw [up2_n (by decide)]; exact q5
  rw [m8]
  by_cases c : p = S
  · subst c
    rw [kind_out hB5, bd_some, nm_e', see_out hB5, bd_some, up2_s, up1_s, bq_f (by decide) (by decide) (by decide) (by decide) (by decide), bq_f (by decide) (by decide) (by decide) (by decide) (by decide), bq_t rfl, bq_t rfl, nm_e', nm_e']
    refine ⟨_, _, p, p, rfl, rfl, ⟨hB5.c (by rw [up2_n (by decide), up2_n (by decide)]) (by rw [up2_n (by decide), up2_n (by decide)]) (up2_n (by decide)) (up2_n (by decide)), ?_, ⟨?_, ?_⟩, ⟨?_, ?_⟩, by omega, by omega, ?_, fun _ => rfl, ?_, ?_⟩, q3, ?_⟩
    · rw [up2_n (by decide), up2_s, up1_s, up2_s, up1_s]
    · rw [up2_n (by decide), up2_n (by decide), up2_s, up1_s]
    · rw [up2_n (by decide), up2_s, up1_s]
    · rw [up2_s, up1_s]
    · rw [up2_n (by decide)]; exact m8
    · rw [up2_s, up1_s]; omega
    · rw [up2_s, up1_s]; omega
    · rw [up2_s, up1_s]; omega
    · intro j hj
      rw [up2_n (by omega), up2_n (by omega), q6 j (by omega)]
  · have hpS : p < S := by omega
    obtain ⟨_, _, e3, e4⟩ := h.2.2.2 p hpS
    have k1 := @kd1 (B p); have k2 := @kd2 (B p); have k3 := @kd3 (B p); have kb := kd_b (B p)
    rw [kind_in hB5 hpS, bd_some, nm_e', see_in hB5 hpS, bd_some, up2_s, up1_s, bq_f (a := B p % 256) (b := -1) (by omega) (by omega) (by omega) (by omega) (by omega), in8i ⟨by omega, by omega⟩ ⟨by omega, by omega⟩ ⟨by omega, by omega⟩, bd_some, bq_ite, in8i ⟨by omega, by omega⟩ ⟨by omega, by omega⟩ ⟨by omega, by omega⟩, bd_some, bq_ite]
    have hB7 : BS S B (up2 (up2 Y 3 0 (p : Int)) 2 0 (kd (B p))) (up2 M1 9 0 (p : Int)) := hB5.c (up2_n (by decide)) (up2_n (by decide)) rfl rfl
    have y2 : up2 (up2 Y 3 0 (p : Int)) 2 0 (kd (B p)) 2 0 = kd (B p) := by rw [up2_s, up1_s]
    have y3 : up2 (up2 Y 3 0 (p : Int)) 2 0 (kd (B p)) 3 0 = (p : Int) := by rw [up2_n (by decide), up2_s, up1_s]
    by_cases c1 : 97 ≤ B p ∧ B p ≤ 122
    · have kk := k1.mpr c1
      obtain ⟨r, M2, r1, r2, r3, r4, r5, r6, r7⟩ := word_ok (S := S) (B := B) (kx := fun lx1_10 => nm (up2 (up2 (up2 Y 3 0 (p : Int)) 2 0 (kd (B p))) 4 0 lx1_10) (fun Y_11 => some Y_11)) (kx8 := fun M_22 => nm (up2 M_22 10 0 1) (fun M_23 => some M_23)) (by rw [y2, kk]) FU p (up2 M1 9 0 (p : Int)) hB7 m8 (by omega) (by show _ < 5000; omega)
      rw [bq_t kk, r1, if_pos (by omega), r2, nm_e', nm_e']
      have := r7 hpS kk
      refine ⟨_, _, p, r, rfl, rfl, ⟨hB7.c (up2_n (by decide)) (up2_n (by decide)) (by rw [up2_n (by decide), r6 4 (by decide)]) (by rw [up2_n (by decide), r6 7 (by decide)]), ?_, ⟨?_, ?_⟩, ⟨?_, ?_⟩, by omega, by omega, ?_, ?_, ?_, ?_⟩, q3, ?_⟩
      · rw [up2_n (by decide), y2, kk, up2_s, up1_s]
      · rw [up2_n (by decide), y3]
      · rw [up2_n (by decide), r6 9 (by decide), up2_s, up1_s]
      · rw [up2_s, up1_s]
      · rw [up2_n (by decide)]; exact r5
      · rw [up2_s, up1_s]; omega
      · rw [up2_s, up1_s]; omega
      · rw [up2_s, up1_s]; omega
      · rw [up2_s, up1_s]; omega
      · intro j hj
        rw [up2_n (by omega), r6 j (by omega), up2_n (by omega), q6 j (by omega)]
    · have n1 : kd (B p) ≠ 1 := fun q => c1 (k1.mp q)
      rw [bq_f n1 (by omega) (by omega) (by omega) (by omega), if_neg (by omega)]
      by_cases c2 : 48 ≤ B p ∧ B p ≤ 57
      · have kk := k2.mpr c2
        have hB8 : BS S B (up2 (up2 Y 3 0 (p : Int)) 2 0 (kd (B p))) (up2 (up2 M1 9 0 (p : Int)) 11 0 0) := hB7.c rfl rfl (up2_n (by decide)) (up2_n (by decide))
        obtain ⟨r, M2, r1, r2, r3, r4, r5, r6, r7, r8, r9⟩ := num_ok (S := S) (B := B) (a := p) (kx := fun lx1_10 => nm (up2 (up2 (up2 Y 3 0 (p : Int)) 2 0 (kd (B p))) 4 0 lx1_10) (fun Y_11 => some Y_11)) (kx8 := fun M_17 => nm (up2 M_17 10 0 2) (fun M_18 => some M_18)) (by rw [y2, kk]) FU p (up2 (up2 M1 9 0 (p : Int)) 11 0 0) hB8 (by rw [up2_n (by decide)]; exact m8) (by omega) (by omega) (by rw [up2_s, up1_s, show p - p = 0 from by omega, dv]) (fun k _ _ => by omega) (by show _ < 5000; omega)
        rw [bq_t kk, if_pos (by omega), nm_e', r1, r2, nm_e', nm_e']
        have := r7 hpS kk
        refine ⟨_, _, p, r, rfl, rfl, ⟨hB7.c (up2_n (by decide)) (up2_n (by decide)) (by rw [up2_n (by decide), r6 4 (by decide) (by decide), up2_n (by decide)]) (by rw [up2_n (by decide), r6 7 (by decide) (by decide), up2_n (by decide)]), ?_, ⟨?_, ?_⟩, ⟨?_, ?_⟩, by omega, by omega, ?_, ?_, ?_, ?_⟩, q3, ?_⟩
        · rw [up2_n (by decide), y2, kk, up2_s, up1_s]
        · rw [up2_n (by decide), y3]
        · rw [up2_n (by decide), r6 9 (by decide) (by decide), up2_n (by decide), up2_s, up1_s]
        · rw [up2_s, up1_s]
        · rw [up2_n (by decide)]; exact r5
        · rw [up2_s, up1_s]; omega
        · rw [up2_s, up1_s]; omega
        · rw [up2_s, up1_s]; omega
        · intro _
          rw [up2_n (by decide)]
          exact ⟨r8, r9⟩
        · intro j hj
          rw [up2_n (by omega), r6 j (by omega) (by omega), up2_n (by omega), up2_n (by omega), q6 j (by omega)]
      · have n2 : kd (B p) ≠ 2 := fun q => c2 (k2.mp q)
        rw [bq_f n2 (by omega) (by omega) (by omega) (by omega), if_neg (by omega), bq_f (a := kd (B p)) (b := 0) (by omega) (by omega) (by omega) (by omega) (by omega), nm_e', nm_e']
        have fin : ∀ t : Int, t = kd (B p) → ∃ (Y' M' : Ob) (a' b' : Nat), some (up2 (up2 (up2 Y 3 0 (p : Int)) 2 0 (kd (B p))) 4 0 ((p : Int) + 1)) = some Y' ∧ nm (up2 (up2 M1 9 0 (p : Int)) 10 0 t) (fun M_9 => nm (up2 M_9 8 0 ((M_9 8 0) + 1)) (fun M_10 => some M_10)) = some M' ∧ TK S B Y' M' a' b' ∧ b ≤ a' ∧ ∀ j : Nat, j < 8 ∨ 11 < j → M' j = M j := fun t ht => by
          rw [nm_e', nm_e', up2_n (show 8 ≠ 10 by decide), m8]
          refine ⟨_, _, p, p + 1, rfl, rfl, ⟨hB7.c (up2_n (by decide)) (up2_n (by decide)) (by rw [up2_n (by decide), up2_n (by decide)]) (by rw [up2_n (by decide), up2_n (by decide)]), ?_, ⟨?_, ?_⟩, ⟨?_, ?_⟩, by omega, by omega, ?_, ?_, ?_, ?_⟩, q3, ?_⟩
          · rw [up2_n (by decide), y2, up2_n (by decide), up2_s, up1_s, ht]
          · rw [up2_n (by decide), y3]
          · rw [up2_n (by decide), up2_n (by decide), up2_s, up1_s]
          · rw [up2_s, up1_s]; rfl
          · rw [up2_s, up1_s]; rfl
          · rw [up2_n (by decide), up2_s, up1_s]; omega
          · rw [up2_n (by decide), up2_s, up1_s]; omega
          · rw [up2_n (by decide), up2_s, up1_s]; omega
          · rw [up2_n (by decide), up2_s, up1_s]; omega
          · intro j hj
            rw [up2_n (by omega), up2_n (by omega), up2_n (by omega), q6 j (by omega)]
        by_cases c3 : B p = 59
        · rw [bq_t (show B p % 256 = 59 by omega)]
          exact fin 3 (k3.mpr c3).symm
        · rw [bq_f (a := B p % 256) (b := 59) (by omega) (by omega) (by omega) (by omega) (by omega)]
          have n3 : kd (B p) ≠ 3 := fun q => c3 (k3.mp q)
          exact fin 4 (by omega)
/-- the token at hand is word w -/
def isW (B : Nat → Int) (M : Ob) (a b : Nat) (w : Nat) : Prop := M 10 0 = 1 ∧ b - a = wlen w ∧ ∀ i : Nat, i < wlen w → B (a + i) = wch w i
theorem wlen_b : ∀ w, w < 18 → 2 ≤ wlen w ∧ wlen w ≤ 6 := by decide +kernel
theorem wch_b : ∀ w, w < 18 → ∀ j, j < wlen w → -2147483648 ≤ wch w j ∧ wch w j ≤ 2147483647 := by decide +kernel
theorem is_no {w : Nat} {k : Int} (hw : w < 18) (m : Nat) (h0 : 0 ≤ k) (h1 : k ≤ 100) : lX8_is_39 M w (m + 1) 0 k = some 0 := by
  have := wlen_b w hw
  rw [lX8_is_39, gd_t (decide_eq_true hw)]
  by_cases c : (wlen w : Int) ≤ k
  · rw [be_t c (by omega) (by omega), gd_t (by decide)]
  · rw [be_f (by omega) (by omega) (by omega), bq_t rfl, gd_t (by decide)]
theorem isw_loop {w : Nat} (hw : w < 18) (h : TK S B Y M a b) (hl : b - a = wlen w) : ∀ (m k : Nat), k ≤ wlen w → (∀ i : Nat, i < k → B (a + i) = wch w i) → wlen w - k + 1 < m → ∃ r : Int, lX4_isWord_28 Y w m (k : Int) = some r ∧ lX8_is_39 M w m 1 (k : Int) = some r ∧ ((r = 1 ∧ ∀ i : Nat, i < wlen w → B (a + i) = wch w i) ∨ (r = 0 ∧ ¬ ∀ i : Nat, i < wlen w → B (a + i) = wch w i)) := by
  have hwl := wlen_b w hw
  obtain ⟨hB, _, ⟨hy3, hm9⟩, _, hab, hbS, _⟩ := h
  have hS := hB.2.2.1
  intro m
  induction m with
  | zero => intro k _ _ h; omega
  | succ m ih =>
    intro k h1 h2 h3
    rw [lX4_isWord_28, lX8_is_39, gd_t (decide_eq_true hw), gd_t (decide_eq_true hw), hy3, hm9]
    by_cases c : k = wlen w
    · subst c
      rw [be_t (by omega) (by omega) (by omega), be_t (by omega) (by omega) (by omega), gd_t (by decide)]
      exact ⟨1, rfl, rfl, Or.inl ⟨rfl, h2⟩⟩
    · obtain ⟨e1, e2, e3, e4⟩ := hB.2.2.2 (a + k) (by omega)
      have hc := wch_b w hw k (by omega)
      have hg : (decide (w < 18) && inb (k : Int) (wlen w)) = true := by
        rw [decide_eq_true hw, inb_t (by omega) (by omega) (by omega)]; rfl
      rw [be_f (by omega) (by omega) (by omega), be_f (by omega) (by omega) (by omega), bq_f (a := 1) (b := 0) (by decide) (by decide) (by decide) (by decide) (by decide), gi (by omega) (by omega) (by omega), gi (by omega) (by omega) (by omega), gd_t hg, gd_t hg, show (a : Int) + (k : Int) = ((a + k : Nat) : Int) from by omega, ix_nat (by omega), ix_nat (by omega), e1, e2, nm_e', nm_e', nm_e']
      by_cases c1 : B (a + k) = wch w k
      · rw [bq_t c1, bq_t c1]
        exact ih (k + 1) (by omega) (fun i hi => by
          by_cases ci : i = k
          · rw [ci]; exact c1
          · exact h2 i (by omega)) (by omega)
      · rw [bq_f c1 (by omega) (by omega) (by omega) (by omega), bq_f c1 (by omega) (by omega) (by omega) (by omega), show m = (m - 1) + 1 from by omega, is_no hw (m - 1) (by omega) (by omega)]
        exact ⟨0, rfl, rfl, Or.inr ⟨rfl, fun q => c1 (q k (by omega))⟩⟩
theorem isw {w : Nat} (hw : w < 18) (h : TK S B Y M a b) (hg : M 12 0 = 0) : ∃ r : Int, fX4_isWord Y w = some r ∧ fX8_is M w = some r ∧ ((r = 1 ∧ isW B M a b w) ∨ (r = 0 ∧ ¬ isW B M a b w)) := by
  have hwl := wlen_b w hw
  have h' := h
  obtain ⟨hB, hy2, ⟨hy3, hm9⟩, ⟨hy4, hm8⟩, hab, hbS, hk, _⟩ := h'
  have hS := hB.2.2.1
  unfold fX4_isWord fX8_is fX8_good
  rw [hg, bq_t rfl, bd_some, bq_f (a := 1) (b := 0) (by decide) (by decide) (by decide) (by decide) (by decide), hy2, hy3, hy4, hm8, hm9, gd_t (decide_eq_true hw), gd_t (decide_eq_true hw)]
  by_cases c1 : M 10 0 = 1
  · rw [bq_t c1, bq_t c1]
    by_cases c2 : b - a = wlen w
    · rw [bq_t (show (b : Int) - (a : Int) = (wlen w : Int) by omega), bq_t (show (b : Int) - (a : Int) = (wlen w : Int) by omega)]
      obtain ⟨r, r1, r2, r3⟩ := isw_loop hw h c2 FU 0 (by omega) (fun i hi => by omega) (by show _ < 5000; omega)
      refine ⟨r, r1, r2, ?_⟩
      rcases r3 with ⟨x1, x2⟩ | ⟨x1, x2⟩
      · exact Or.inl ⟨x1, c1, c2, x2⟩
      · exact Or.inr ⟨x1, fun q => x2 q.2.2⟩
    · rw [bq_f (show (b : Int) - (a : Int) ≠ (wlen w : Int) by omega) (by omega) (by omega) (by omega) (by omega), bq_f (show (b : Int) - (a : Int) ≠ (wlen w : Int) by omega) (by omega) (by omega) (by omega) (by omega)]
      exact ⟨0, rfl, is_no hw 4999 (by decide) (by decide), Or.inr ⟨rfl, fun q => c2 q.2.1⟩⟩
  · rw [bq_f c1 (by omega) (by omega) (by omega) (by omega), bq_f c1 (by omega) (by omega) (by omega) (by omega)]
    exact ⟨0, rfl, is_no hw 4999 (by decide) (by decide), Or.inr ⟨rfl, fun q => c1 q.1⟩⟩
theorem isW_dis {w v : Nat} (hw : w < 18) (hv : v < 18) (h : isW B M a b w) (h' : isW B M a b v) : wlen w = wlen v ∧ wch w 0 = wch v 0 ∧ wch w 1 = wch v 1 := by
  have := wlen_b w hw
  have := wlen_b v hv
  refine ⟨by rw [← h.2.1, h'.2.1], ?_, ?_⟩
  · rw [← h.2.2 0 (by omega), h'.2.2 0 (by omega)]
  · rw [← h.2.2 1 (by omega), h'.2.2 1 (by omega)]
theorem value_loop (h : TK S B Y M a b) (hd : ∀ k : Nat, a ≤ k → k < b → 48 ≤ B k ∧ B k ≤ 57) : ∀ (m p : Nat), a ≤ p → p ≤ b → b - p < m → lX4_value_7 Y m (dv 1000000 B a (p - a)) (p : Int) = some (dv 1000000 B a (b - a)) := by
  obtain ⟨hB, hy2, ⟨hy3, hm9⟩, ⟨hy4, hm8⟩, hab, hbS, hk, _⟩ := h
  have hS := hB.2.2.1
  intro m
  induction m with
  | zero => intro p _ _ h; omega
  | succ m ih =>
    intro p h1 h2 h3
    rw [lX4_value_7, hy4]
    by_cases c : p = b
    · subst c
      rw [be_t (by omega) (by omega) (by omega)]
    · obtain ⟨e1, _, e3, e4⟩ := hB.2.2.2 p (by omega)
      have hdb := dv_b (B := B) (a := a) (c := 1000000) (by decide) (p - a) (fun k q1 q2 => hd k q1 (by omega))
      have h5 := ih (p + 1) (by omega) (by omega) (by omega)
      rw [show p + 1 - a = (p - a) + 1 from by omega, dv, show a + (p - a) = p from by omega] at h5
      rw [be_f (by omega) (by omega) (by omega), gi (by omega) (by omega) (by omega), nm_e', nm_e', ix_nat (by omega), e1, jmi_e (by omega) (by omega) (by omega) (by omega)]
      exact h5
theorem tval_ok (h : TK S B Y M a b) (h2 : M 10 0 = 2) : ∃ v : Int, fX4_value Y = some v ∧ M 11 0 = min 99999 v ∧ 0 ≤ v ∧ v ≤ 1000000 := by
  have h' := h
  obtain ⟨hB, hy2, ⟨hy3, hm9⟩, ⟨hy4, hm8⟩, hab, hbS, hk, _, _, hn⟩ := h'
  obtain ⟨n1, n2⟩ := hn h2
  have hS := hB.2.2.1
  have h5 := value_loop h n2 FU a (by omega) hab (by show _ < 5000; omega)
  rw [show a - a = 0 from by omega] at h5
  refine ⟨dv 1000000 B a (b - a), ?_, ?_, dv_b (by decide) (b - a) (fun k q1 q2 => n2 k q1 (by omega))⟩
  · unfold fX4_value
    rw [nm_e', hy3]
    exact h5
  · rw [n1]
    exact dv_dv (b - a) (fun k q1 q2 => n2 k q1 (by omega))
end
