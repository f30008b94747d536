/-! LAYER 2: rows: row, write, paste -/
theorem Inv2.rows' {n : Nat} {T T' : Nat → Ob} {J : Nat → Bool} {M M' : Ob} (h : Inv2 n T J M) (hn : n + 1 ≤ 512) (hT : ∀ i, i < 6 ∨ 9 < i → T' i = T i) (hM : ∀ j, j < 25 → M' j = M j) (hr : ∀ j : Nat, j < 4 → RR (T' (6 + j)) M' j) : Inv2 (n + 1) T' J M' := by
  obtain ⟨hi, hws, himg⟩ := h
  have hle : (400 * n : Int) ≤ 400 * ((n + 1 : Nat) : Int) := by omega
  refine ⟨?_, by rw [hM 1 (by decide)]; exact hws, fun k hk hJ => by rw [hM 2 (by decide)]; exact himg k hk hJ⟩
  unfold Inv
  rw [hT 0 (by omega), hT 1 (by omega), hT 2 (by omega), hT 3 (by omega), hM 1 (by decide), hM 12 (by decide), hM 13 (by decide), hM 3 (by decide), hM 2 (by decide)]
  refine ⟨hn, ?_, hi.fault, hi.now.le hle, hi.seen, hi.l2, hi.still, hi.rep, hr, hi.has, ?_⟩
  · unfold TR
    rw [hM 5 (by decide), hM 4 (by decide)]
    exact hi.tape
  · intro k hk hJ
    rw [hT (15 + 3 * k) (by omega), hT (16 + 3 * k) (by omega)]
    have hg := hi.img k hk hJ
    exact ⟨hg.1.le hle, hg.2⟩
section
variable {n : Nat} {T : Nat → Ob} {J : Nat → Bool} {M : Ob} {x z y0 a b c d e : Int}
theorem row_loop {j : Nat} (hj : j < 4) : ∀ (m i : Nat) (X : Ob), (∀ k, k ≠ 27 → X k = M k) → (∀ k, k < 60 * j ∨ 60 * j + 60 ≤ k → X 27 k = M 27 k) → (∀ q, q < i → X 27 (60 * j + q) = 0) → i ≤ 60 → 60 - i < m → ∃ X', lX8_row_52 (j : Int) m (i : Int) X = some (0, X') ∧ (∀ k, k ≠ 27 → X' k = M k) ∧ (∀ k, k < 60 * j ∨ 60 * j + 60 ≤ k → X' 27 k = M 27 k) ∧ ∀ q, q < 60 → X' 27 (60 * j + q) = 0 := by
  intro m
  induction m with
  | zero => intro i X _ _ _ _ h; omega
  | succ m ih =>
    intro i X x1 x2 x3 h1 h2
    rw [lX8_row_52]
    by_cases ck : i = 60
    · subst ck
      rw [be_t (by decide) (by decide) (by decide)]
      exact ⟨X, rfl, x1, x2, x3⟩
    · rw [be_f (by omega) (by omega) (by omega), gi (by omega) (by omega) (by omega), nm_e', nm_e', ix_e (by omega) (by omega), show (60 * (j : Int) + (i : Int)).toNat = 60 * j + i from by omega]
      refine ih (i + 1) _ (fun k hk => by rw [up2_n hk]; exact x1 k hk) (fun k hk => by rw [up2_s, up1_n (by omega)]; exact x2 k hk) (fun q hq => ?_) (by omega) (by omega)
      rw [up2_s]
      by_cases cq : q = i
      · subst cq; rw [up1_s]
      · rw [up1_n (by omega)]; exact x3 q (by omega)
theorem op_row (h : Inv2 n T J M) (hn : n + 1 ≤ 512) (hx : R32 x) (hz : R32 z) (hy : R32 y0) : Nx n T J (fX7_row T x z y0) (fX8_row M x z y0) := by
  have := hy.1; have := hy.2
  unfold fX7_row fX8_row
  rw [isSlot7 hx, isSlot8 hx, bd_some, bd_some, bq_ite, bq_ite]
  refine Nx.ite (fun c1 => ?_) (fun _ => Nx.s _ h hn)
  rw [within7r hz ⟨by decide, by decide⟩ ⟨by decide, by decide⟩, in8i hz ⟨by decide, by decide⟩ ⟨by decide, by decide⟩, bd_some, bd_some, bq_ite, bq_ite]
  refine Nx.ite (fun c2 => ?_) (fun _ => Nx.s _ h hn)
  by_cases c3 : y0 ≤ 60
  · rw [be_t c3 (by omega) (by omega), be_t c3 (by omega) (by omega)]
    by_cases c4 : 0 ≤ y0
    · obtain ⟨j, rfl⟩ := Int.eq_ofNat_of_zero_le c1.1
      have hj : j < 4 := by omega
      rw [be_t c4 (by omega) (by omega), be_t c4 (by omega) (by omega), gi (by omega) (by omega) (by omega), gi (by omega) (by omega) (by omega), nm_e', gi (by omega) (by omega) (by omega), nm_e', ix_nat (by omega)]
      unfold fX2_begin
      simp only [nm_e']
      rw [bd_some]
      obtain ⟨X, e1, e2, e3, e4⟩ := row_loop (M := up2 (up2 M 25 j y0) 26 j z) (j := j) hj FU 0 (up2 (up2 M 25 j y0) 26 j z) (fun _ _ => rfl) (fun _ _ => rfl) (fun q hq => by omega) (by omega) (by show _ < 5000; omega)
      refine ⟨0, _, X, rfl, e1, h.rows' hn (fun i hi => upO_n (by omega)) (fun k hk => by rw [e2 k (by omega), up2_n (by omega), up2_n (by omega)]) (fun i hi => ?_), fun k hk => upO_n (by omega)⟩
      have x25 : X 25 = up1 (M 25) j y0 := by rw [e2 25 (by decide), up2_n (by decide), up2_s]
      have x26 : X 26 = up1 (M 26) j z := by rw [e2 26 (by decide), up2_s, up2_n (by decide)]
      unfold RR
      rw [x25, x26]
      by_cases ci : i = j
      · subst ci
        rw [upO_s, up1_s, up1_s]
        refine ⟨Or.inr ⟨rfl, c4, c3⟩, fun _ => ⟨rfl, rfl, c2.1, c2.2⟩, fun _ q hq => ?_⟩
        rw [e4 q hq, upA_s]
        have hf : filA 60 0 (up2 (up2 (up2 (T (6 + i)) 0 0 1) 1 0 z) 2 0 y0 3) q = 0 := by
          unfold filA
          rw [show Nat.blt q 60 = true from by rw [Nat.blt_eq]; exact hq]
          rfl
        rw [hf]
        exact ⟨rfl, by decide, by decide⟩
      · have hr := h.1.row i hi
        rw [upO_n (by omega), up1_n ci, up1_n ci]
        refine ⟨hr.has, hr.len, fun hh q hq => ?_⟩
        rw [e3 (60 * i + q) (by omega), up2_n (by decide), up2_n (by decide)]
        exact hr.num hh q hq
    · rw [be_f (by omega) (by omega) (by omega), be_f (by omega) (by omega) (by omega)]
      exact Nx.s _ h hn
  · rw [be_f (by omega) (by omega) (by omega), be_f (by omega) (by omega) (by omega)]
    exact Nx.s _ h hn
/-! cutting a number -/
theorem i32_bm (v : Int) : (i32 v).toInt = v.bmod 4294967296 := Int32.toInt_ofInt
theorem jlss {v : Int} {k : Nat} {s : Int64} (hs : (i32 (k : Int)).toInt64 &&& 63 = s) (hn : (s.toBitVec.smod 64).toNat = k) : jlsr (jls v (k : Int)) (k : Int) = ((((v % ((2 ^ 64 : Nat) : Int)).toNat * 2 ^ k) % 2 ^ 64 : Nat) : Int).bmod (2 ^ 64) / ((2 ^ k : Nat) : Int) := by
  unfold jlsr jls
  rw [l64_toInt, hs, ← Int64.toInt_toBitVec, Int64.toBitVec_shiftRight, BitVec.toInt_sshiftRight', Int64.toBitVec_shiftLeft, BitVec.shiftLeft_eq', hn, BitVec.toInt_eq_toNat_bmod, BitVec.toNat_shiftLeft, Nat.shiftLeft_eq, Int.shiftRight_eq_div_pow, Int64.toBitVec_ofInt, BitVec.toNat_ofInt]
theorem cut_eq {R : Ob} {v w : Int} (hR : R 1 0 = w) (hw : 0 ≤ w) (hw2 : w ≤ 3) (hv : -9223372036854775808 ≤ v) (hv2 : v ≤ 9223372036854775807) : ∃ r, fX2_cut R v = some r ∧ fX8_cut v w = some r ∧ -9223372036854775808 ≤ r ∧ r ≤ 9223372036854775807 := by
  unfold fX2_cut fX8_cut
  rw [hR, nm_e']
  rcases (show w = 0 ∨ w = 1 ∨ w = 2 ∨ w = 3 by omega) with q | q | q | q <;> subst q
  · have e1 : jb8 v = v.bmod 256 := by
      unfold jb8
      rw [Int8.toInt_toInt32, Int32.toInt_toInt8, i32_bm]
      exact Int.bmod_bmod_of_dvd (by decide)
    have e2 : jlsr (jls v 56) 56 = v.bmod 256 := by
      rw [show (56 : Int) = ((56 : Nat) : Int) from rfl, jlss (k := 56) (s := 56) (by decide) (by decide), Int.bmod_def, Int.bmod_def]
      omega
    have e3 : -128 ≤ v.bmod 256 ∧ v.bmod 256 ≤ 127 := by rw [Int.bmod_def]; omega
    rw [bq_t rfl, e1, jwl_e (by omega) (by omega), show 64 - jsl 8 0 = 56 from by decide, e2]
    exact ⟨_, rfl, rfl, by omega, by omega⟩
  · have e1 : js16 v = v.bmod 65536 := by
      unfold js16
      rw [Int16.toInt_toInt32, Int32.toInt_toInt16, i32_bm]
      exact Int.bmod_bmod_of_dvd (by decide)
    have e2 : jlsr (jls v 48) 48 = v.bmod 65536 := by
      rw [show (48 : Int) = ((48 : Nat) : Int) from rfl, jlss (k := 48) (s := 48) (by decide) (by decide), Int.bmod_def, Int.bmod_def]
      omega
    have e3 : -32768 ≤ v.bmod 65536 ∧ v.bmod 65536 ≤ 32767 := by rw [Int.bmod_def]; omega
    rw [bq_f (a := 1) (b := 0) (by decide) (by decide) (by decide) (by decide) (by decide), bq_t rfl, e1, jwl_e (by omega) (by omega), show 64 - jsl 8 1 = 48 from by decide, e2]
    exact ⟨_, rfl, rfl, by omega, by omega⟩
  · have e1 : jwl v = v.bmod 4294967296 := by
      unfold jwl
      rw [Int32.toInt_toInt64, i32_bm]
    have e2 : jlsr (jls v 32) 32 = v.bmod 4294967296 := by
      rw [show (32 : Int) = ((32 : Nat) : Int) from rfl, jlss (k := 32) (s := 32) (by decide) (by decide), Int.bmod_def, Int.bmod_def]
      omega
    have e3 : -2147483648 ≤ v.bmod 4294967296 ∧ v.bmod 4294967296 ≤ 2147483647 := by rw [Int.bmod_def]; omega
    rw [bq_f (a := 2) (b := 0) (by decide) (by decide) (by decide) (by decide) (by decide), bq_f (a := 2) (b := 1) (by decide) (by decide) (by decide) (by decide) (by decide), bq_t rfl, e1, show 64 - jsl 8 2 = 32 from by decide, e2]
    exact ⟨_, rfl, rfl, by omega, by omega⟩
  · have e2 : jlsr (jls v 0) 0 = v := by
      rw [show (0 : Int) = ((0 : Nat) : Int) from rfl, jlss (k := 0) (s := 0) (by decide) (by decide), Int.bmod_def]
      omega
    rw [bq_f (a := 3) (b := 0) (by decide) (by decide) (by decide) (by decide) (by decide), bq_f (a := 3) (b := 1) (by decide) (by decide) (by decide) (by decide) (by decide), bq_f (a := 3) (b := 2) (by decide) (by decide) (by decide) (by decide) (by decide), show 64 - jsl 8 3 = 0 from by decide, e2]
    exact ⟨_, rfl, rfl, hv, hv2⟩
theorem op_write {v : Int} (h : Inv2 n T J M) (hn : n + 1 ≤ 512) (hx : R32 x) (hz : R32 z) (hv : -9223372036854775808 ≤ v) (hv2 : v ≤ 9223372036854775807) : Nx n T J (fX7_write T x z v) (fX8_write M x z v) := by
  have := hz.1; have := hz.2
  unfold fX7_write fX8_write
  rw [isSlot7 hx, isSlot8 hx, bd_some, bd_some, bq_ite, bq_ite]
  refine Nx.ite (fun c1 => ?_) (fun _ => Nx.s _ h hn)
  obtain ⟨j, rfl⟩ := Int.eq_ofNat_of_zero_le c1.1
  have hj : j < 4 := by omega
  have hr := h.1.row j hj
  rw [gi (by omega) (by omega) (by omega), gi (z := (j : Int)) (n := 4) (by omega) (by omega) (by omega), gi (z := (j : Int)) (n := 4) (by omega) (by omega) (by omega), gi (z := (j : Int)) (n := 4) (by omega) (by omega) (by omega), gi (z := (j : Int)) (n := 4) (by omega) (by omega) (by omega), gi (z := (j : Int)) (n := 4) (by omega) (by omega) (by omega), gi (z := (j : Int)) (n := 4) (by omega) (by omega) (by omega), ix_nat (by omega)]
  rcases hr.has with ⟨r1, r2⟩ | ⟨r1, r2, r3⟩
  · rw [bq_t r1, bq_t r2]
    exact Nx.s _ h hn
  · have hh : M 25 j ≠ -1 := by omega
    obtain ⟨l1, l2, l3, l4⟩ := hr.len hh
    rw [bq_f (by omega) (by omega) (by omega) (by omega) (by omega), bq_f (a := M 25 j) (by omega) (by omega) (by omega) (by omega) (by omega), in8w hz ⟨by decide, by decide⟩ ⟨by omega, by omega⟩, bd_some, bq_ite, l1]
    by_cases c2 : 0 ≤ z ∧ z ≤ M 25 j - 1
    · obtain ⟨i, rfl⟩ := Int.eq_ofNat_of_zero_le c2.1
      obtain ⟨r, e1, e2, e3, e4⟩ := cut_eq (R := T (6 + j)) (v := v) l2 l3 l4 hv hv2
      rw [bl_f (by omega) (by omega) (by omega), bl_t (by omega) (by omega) (by omega), if_pos c2, e1, bd_some, gi (by omega) (by omega) (by omega), nm_e', e2, bd_some, gi (by omega) (by omega) (by omega), nm_e', ix_nat (by omega), ix_e (by omega) (by omega), show (60 * (j : Int) + (i : Int)).toNat = 60 * j + i from by omega]
      refine ⟨0, _, _, rfl, rfl, h.rows' hn (fun q hq => upO_n (by omega)) (fun k hk => up2_n (by omega)) (fun q hq => ?_), fun k hk => upO_n (by omega)⟩
      unfold RR
      rw [up2_n (show 25 ≠ 27 by decide), up2_n (show 26 ≠ 27 by decide), up2_s]
      by_cases cq : q = j
      · subst cq
        rw [upO_s, up2_n (show 0 ≠ 3 by decide), up2_n (show 2 ≠ 3 by decide), up2_n (show 1 ≠ 3 by decide), up2_s]
        refine ⟨hr.has, hr.len, fun _ p hp => ?_⟩
        by_cases cp : p = i
        · subst cp; rw [up1_s, up1_s]; exact ⟨rfl, e3, e4⟩
        · rw [up1_n cp, up1_n (by omega)]; exact hr.num hh p hp
      · have hr2 := h.1.row q hq
        rw [upO_n (by omega)]
        refine ⟨hr2.has, hr2.len, fun hh2 p hp => ?_⟩
        rw [up1_n (by omega)]
        exact hr2.num hh2 p hp
    · rw [if_neg c2]
      by_cases c3 : z < 0
      · rw [bl_t c3 (by omega) (by omega)]
        exact Nx.s _ h hn
      · rw [bl_f (by omega) (by omega) (by omega), bl_f (by omega) (by omega) (by omega)]
        exact Nx.s _ h hn
theorem holds7 {R : Ob} {f m l : Int} (hl : R 2 0 = l) (h0 : 0 ≤ l) (h1 : l ≤ 60) (hf : R32 f) (hm : R32 m) : fX2_holds R f m = some (if 0 ≤ f ∧ 0 ≤ m ∧ f + m ≤ l then 1 else 0) := by
  have := hf.1; have := hf.2; have := hm.1; have := hm.2
  unfold fX2_holds
  rw [hl]
  by_cases c1 : f < 0
  · rw [bl_t c1 (by omega) (by omega), if_neg (by omega)]
  · rw [bl_f (by omega) (by omega) (by omega)]
    by_cases c2 : m < 0
    · rw [bl_t c2 (by omega) (by omega), if_neg (by omega)]
    · rw [bl_f (by omega) (by omega) (by omega)]
      by_cases c3 : l < m
      · rw [bl_t c3 (by omega) (by omega), if_neg (by omega)]
      · rw [bl_f (by omega) (by omega) (by omega)]
        by_cases c4 : l - m < f
        · rw [bl_t c4 (by omega) (by omega), if_neg (by omega)]
        · rw [bl_f (by omega) (by omega) (by omega), if_pos (by omega)]
theorem paste_a {s i t k N : Nat} {kx : Ob → Option (Int × Ob)} (hs : s < 4) (hi : i + N ≤ 60) : ∀ (m q : Nat) (X : Ob), (∀ j, j ≠ 28 → X j = M j) → (∀ p, p < q → X 28 p = M 27 (60 * s + i + p)) → q ≤ N → N - q < m → ∃ X', lX8_paste_113 (s : Int) (i : Int) (t : Int) (k : Int) (N : Int) kx m (q : Int) X = kx X' ∧ (∀ j, j ≠ 28 → X' j = M j) ∧ ∀ p, p < N → X' 28 p = M 27 (60 * s + i + p) := by
  intro m
  induction m with
  | zero => intro q X _ _ _ h; omega
  | succ m ih =>
    intro q X x1 x2 h1 h2
    rw [lX8_paste_113]
    by_cases cq : q = N
    · subst cq
      rw [be_t (by omega) (by omega) (by omega)]
      exact ⟨X, rfl, x1, x2⟩
    · rw [be_f (by omega) (by omega) (by omega), gi (by omega) (by omega) (by omega), gi (by omega) (by omega) (by omega), nm_e', nm_e', ix_nat (by omega), ix_e (by omega) (by omega), show (60 * (s : Int) + (i : Int) + (q : Int)).toNat = 60 * s + i + q from by omega, x1 27 (by decide)]
      refine ih (q + 1) _ (fun j hj => by rw [up2_n hj]; exact x1 j hj) (fun p hp => ?_) (by omega) (by omega)
      rw [up2_s]
      by_cases cp : p = q
      · subst cp; rw [up1_s]
      · rw [up1_n cp]; exact x2 p (by omega)
theorem paste_b {s i t k N : Nat} {X0 : Ob} (ht : t < 4) (hk : k + N ≤ 60) (h28 : ∀ p, p < N → X0 28 p = M 27 (60 * s + i + p)) (h27 : X0 27 = M 27) : ∀ (m q : Nat) (X : Ob), (∀ j, j ≠ 27 → X j = X0 j) → (∀ p, p < 60 * t + k ∨ 60 * t + k + q ≤ p → X 27 p = M 27 p) → (∀ p, p < q → X 27 (60 * t + k + p) = M 27 (60 * s + i + p)) → q ≤ N → N - q < m → ∃ X', lX8_paste_150 (t : Int) (k : Int) (N : Int) m (q : Int) X = some (0, X') ∧ (∀ j, j ≠ 27 → X' j = X0 j) ∧ (∀ p, p < 60 * t + k ∨ 60 * t + k + N ≤ p → X' 27 p = M 27 p) ∧ ∀ p, p < N → X' 27 (60 * t + k + p) = M 27 (60 * s + i + p) := by
  intro m
  induction m with
  | zero => intro q X _ _ _ _ h; omega
  | succ m ih =>
    intro q X x1 x2 x3 h1 h2
    rw [lX8_paste_150]
    by_cases cq : q = N
    · subst cq
      rw [be_t (by omega) (by omega) (by omega)]
      exact ⟨X, rfl, x1, x2, x3⟩
    · rw [be_f (by omega) (by omega) (by omega), gi (by omega) (by omega) (by omega), gi (by omega) (by omega) (by omega), nm_e', nm_e', ix_nat (by omega), ix_e (by omega) (by omega), show (60 * (t : Int) + (k : Int) + (q : Int)).toNat = 60 * t + k + q from by omega, x1 28 (by decide), h28 q (by omega)]
      refine ih (q + 1) _ (fun j hj => by rw [up2_n hj]; exact x1 j hj) (fun p hp => ?_) (fun p hp => ?_) (by omega) (by omega)
      · rw [up2_s, up1_n (by omega)]; exact x2 p (by omega)
      · rw [up2_s]
        by_cases cp : p = q
        · subst cp; rw [up1_s]
        · rw [up1_n (by omega)]; exact x3 p (by omega)
theorem cpf_e {f g : Nat → Int} {s d N j : Nat} (hs : s < 1000) (hd : d < 1000) (hN : N < 1000) : cpf f g (s : Int) (d : Int) (N : Int) j = if d ≤ j ∧ j < d + N then f (s + (j - d)) else g j := by
  unfold cpf va_cpy
  rw [ix_nat (by omega), ix_nat (by omega), ix_nat (by omega)]
theorem cpok_t {s d N : Nat} (hs : s + N ≤ 60) (hd : d + N ≤ 60) : cpok (s : Int) (d : Int) (N : Int) 60 60 = true := by
  unfold cpok
  rw [ix_nat (by omega), ix_nat (by omega), ix_nat (by omega)]
  have q : ∀ k : Nat, k ≤ 60 → (!decide (i32 (k : Int) < 0)) = true := fun k hk => by
    rw [decide_eq_false (fun q => by
      have := (ltI (a := (k : Int)) (b := 0) (by omega) (by omega) (by decide) (by decide)).mp q
      omega)]
    rfl
  rw [q s (by omega), q d (by omega), q N (by omega), Nat.ble_eq.mpr hs, Nat.ble_eq.mpr hd]
  rfl
theorem op_paste (h : Inv2 n T J M) (hn : n + 1 ≤ 512) (hx : R32 x) (hz : R32 z) (ha : R32 a) (hb : R32 b) (hc : R32 c) : Nx n T J (fX7_paste T x z a b c) (fX8_paste M x z a b c) := by
  have := hz.1; have := hz.2; have := hb.1; have := hb.2; have := hc.1; have := hc.2
  unfold fX7_paste fX8_paste
  rw [isSlot7 hx, isSlot8 hx, bd_some, bd_some, bq_ite, bq_ite]
  refine Nx.ite (fun c1 => ?_) (fun _ => Nx.s _ h hn)
  rw [isSlot7 ha, isSlot8 ha, bd_some, bd_some, bq_ite, bq_ite]
  refine Nx.ite (fun c2 => ?_) (fun _ => Nx.s _ h hn)
  obtain ⟨s, rfl⟩ := Int.eq_ofNat_of_zero_le c1.1
  obtain ⟨t, rfl⟩ := Int.eq_ofNat_of_zero_le c2.1
  have hs : s < 4 := by omega
  have ht : t < 4 := by omega
  have hrs := h.1.row s hs
  have hrt := h.1.row t ht
  have gs : ∀ {β : Type} (k : Option β), gd (inb (s : Int) 4) k = k := fun k => gi (by omega) (by omega) (by omega)
  have gt : ∀ {β : Type} (k : Option β), gd (inb (t : Int) 4) k = k := fun k => gi (by omega) (by omega) (by omega)
  simp only [gs, gt]
  rw [ix_nat (n := s) (by omega), ix_nat (n := t) (by omega)]
  rcases hrs.has with ⟨r1, r2⟩ | ⟨r1, r2, r3⟩
  · rw [bq_t r1, bq_t r2]
    exact Nx.s _ h hn
  · have hhs : M 25 s ≠ -1 := by omega
    rw [bq_f (a := T (6 + s) 0 0) (by omega) (by omega) (by omega) (by omega) (by omega), bq_f (a := M 25 s) (by omega) (by omega) (by omega) (by omega) (by omega)]
    rcases hrt.has with ⟨u1, u2⟩ | ⟨u1, u2, u3⟩
    · rw [bq_t u1, bq_t u2]
      exact Nx.s _ h hn
    · have hht : M 25 t ≠ -1 := by omega
      obtain ⟨l1, l2, l3, l4⟩ := hrs.len hhs
      obtain ⟨k1, k2, k3, k4⟩ := hrt.len hht
      rw [bq_f (a := T (6 + t) 0 0) (by omega) (by omega) (by omega) (by omega) (by omega), bq_f (a := M 25 t) (by omega) (by omega) (by omega) (by omega) (by omega), l2, k2, holds7 l1 (by omega) (by omega) hz hc, holds7 k1 (by omega) (by omega) hb hc, bd_some, bd_some, bq_ite, bq_ite]
      by_cases cw : M 26 s = M 26 t
      · rw [bq_t cw, bq_t cw, jwl_e hz.1 hz.2, jwl_e hc.1 hc.2, jwl_e hb.1 hb.2, jwl_e (a := M 25 s) (by omega) (by omega), jwl_e (a := M 25 t) (by omega) (by omega), jlc_lt (by omega) (by omega) (by omega) (by omega), jlc_lt (by omega) (by omega) (by omega) (by omega)]
        by_cases c3 : 0 ≤ z ∧ 0 ≤ c ∧ z + c ≤ M 25 s
        · by_cases c4 : 0 ≤ b ∧ 0 ≤ c ∧ b + c ≤ M 25 t
          · obtain ⟨i, rfl⟩ := Int.eq_ofNat_of_zero_le c3.1
            obtain ⟨k, rfl⟩ := Int.eq_ofNat_of_zero_le c4.1
            obtain ⟨N, rfl⟩ := Int.eq_ofNat_of_zero_le c3.2.1
            have q1 : (if M 25 s < (i : Int) + (N : Int) then (1 : Int) else if (i : Int) + (N : Int) = M 25 s then 0 else -1) ≤ 0 ∧ -1 ≤ (if M 25 s < (i : Int) + (N : Int) then (1 : Int) else if (i : Int) + (N : Int) = M 25 s then 0 else -1) := by
              rw [if_neg (by omega)]; split <;> omega
            have q2 : (if M 25 t < (k : Int) + (N : Int) then (1 : Int) else if (k : Int) + (N : Int) = M 25 t then 0 else -1) ≤ 0 ∧ -1 ≤ (if M 25 t < (k : Int) + (N : Int) then (1 : Int) else if (k : Int) + (N : Int) = M 25 t then 0 else -1) := by
              rw [if_neg (by omega)]; split <;> omega
            rw [if_pos c3, if_pos c4, gd_t (cpok_t (by omega) (by omega)), nm_e', bl_f (a := (i : Int)) (by omega) (by omega) (by omega), bl_f (a := (k : Int)) (by omega) (by omega) (by omega), bl_f (a := (N : Int)) (by omega) (by omega) (by omega), bl_f (a := 0) (by omega) (by omega) (by omega), be_t (by omega) (by omega) (by omega)]
            obtain ⟨X1, e1, e2, e3⟩ := paste_a (M := M) (s := s) (i := i) (t := t) (k := k) (N := N) (kx := fun M_5 => lX8_paste_150 (t : Int) (k : Int) (N : Int) FU 0 M_5) hs (by omega) FU 0 M (fun _ _ => rfl) (fun p hp => by omega) (by omega) (by show _ < 5000; omega)
            obtain ⟨X2, f1, f2, f3, f4⟩ := paste_b (M := M) (s := s) (i := i) (t := t) (k := k) (N := N) (X0 := X1) ht (by omega) e3 (e2 27 (by decide)) FU 0 X1 (fun _ _ => rfl) (fun p _ => by rw [e2 27 (by decide)]) (fun p hp => by omega) (by omega) (by show _ < 5000; omega)
            refine ⟨0, _, X2, rfl, e1.trans f1, h.rows' hn (fun q hq => upO_n (by omega)) (fun j hj => by rw [f2 j (by omega), e2 j (by omega)]) (fun q hq => ?_), fun k hk => upO_n (by omega)⟩
            have x25 : X2 25 = M 25 := by rw [f2 25 (by decide), e2 25 (by decide)]
            have x26 : X2 26 = M 26 := by rw [f2 26 (by decide), e2 26 (by decide)]
            unfold RR
            rw [x25, x26]
            by_cases cq : q = t
            · subst cq
              rw [upO_s, upA_n (show 0 ≠ 3 by decide), upA_n (show 2 ≠ 3 by decide), upA_n (show 1 ≠ 3 by decide), upA_s]
              refine ⟨hrt.has, hrt.len, fun _ p hp => ?_⟩
              rw [cpf_e (by omega) (by omega) (by omega)]
              by_cases cp : k ≤ p ∧ p < k + N
              · rw [if_pos cp, show 60 * q + p = 60 * q + k + (p - k) from by omega, f4 (p - k) (by omega), show 60 * s + i + (p - k) = 60 * s + (i + (p - k)) from by omega]
                exact hrs.num hhs (i + (p - k)) (by omega)
              · rw [if_neg cp, f3 (60 * q + p) (by omega)]
                exact hrt.num hht p hp
            · have hr2 := h.1.row q hq
              rw [upO_n (by omega)]
              refine ⟨hr2.has, hr2.len, fun hh2 p hp => ?_⟩
              rw [f3 (60 * q + p) (by omega)]
              exact hr2.num hh2 p hp
          · rw [if_pos c3, if_neg c4, bl_f (a := z) (by omega) (by omega) (by omega)]
            by_cases c5 : b < 0
            · rw [bl_t c5 (by omega) (by omega)]
              exact Nx.s _ h hn
            · rw [bl_f (a := b) (by omega) (by omega) (by omega), bl_f (a := c) (by omega) (by omega) (by omega), if_neg (show ¬ M 25 s < z + c by omega), if_pos (show M 25 t < b + c by omega), be_f (by decide) (by decide) (by decide)]
              have q1 : (if z + c = M 25 s then (0 : Int) else -1) ≤ 0 ∧ -1 ≤ (if z + c = M 25 s then (0 : Int) else -1) := by split <;> omega
              rw [bl_f (a := 0) (by omega) (by omega) (by omega)]
              exact Nx.s _ h hn
        · rw [if_neg c3]
          by_cases c5 : z < 0
          · rw [bl_t c5 (by omega) (by omega)]
            exact Nx.s _ h hn
          · rw [bl_f (a := z) (by omega) (by omega) (by omega)]
            by_cases c6 : b < 0
            · rw [bl_t c6 (by omega) (by omega)]
              exact Nx.s _ h hn
            · rw [bl_f (a := b) (by omega) (by omega) (by omega)]
              by_cases c7 : c < 0
              · rw [bl_t c7 (by omega) (by omega)]
                exact Nx.s _ h hn
              · rw [bl_f (a := c) (by omega) (by omega) (by omega), if_pos (show M 25 s < z + c by omega), bl_t (a := 0) (by decide) (by decide) (by decide)]
                exact Nx.s _ h hn
      · rw [bq_f cw (by omega) (by omega) (by omega) (by omega), bq_f cw (by omega) (by omega) (by omega) (by omega)]
        exact Nx.s _ h hn
end
