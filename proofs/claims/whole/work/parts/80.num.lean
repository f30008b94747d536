/-! LAYER 2: numbers -/
theorem toI {z : Int} (h1 : -2147483648 ≤ z) (h2 : z ≤ 2147483647) : (i32 z).toInt = z := Int32.toInt_ofInt_of_le (by omega) (by omega)
theorem toL {z : Int} (h1 : -9223372036854775808 ≤ z) (h2 : z ≤ 9223372036854775807) : (l64 z).toInt = z := Int64.toInt_ofInt_of_le (by omega) (by omega)
section
variable {β : Type} {a b : Int} {T F : β}
theorem ltI (h1 : -2147483648 ≤ a) (h2 : a ≤ 2147483647) (h3 : -2147483648 ≤ b) (h4 : b ≤ 2147483647) : i32 a < i32 b ↔ a < b := by rw [Int32.lt_iff_toInt_lt, toI h1 h2, toI h3 h4]
theorem leI (h1 : -2147483648 ≤ a) (h2 : a ≤ 2147483647) (h3 : -2147483648 ≤ b) (h4 : b ≤ 2147483647) : i32 a ≤ i32 b ↔ a ≤ b := by rw [Int32.le_iff_toInt_le, toI h1 h2, toI h3 h4]
theorem eqI (h1 : -2147483648 ≤ a) (h2 : a ≤ 2147483647) (h3 : -2147483648 ≤ b) (h4 : b ≤ 2147483647) : i32 a = i32 b ↔ a = b := by rw [← Int32.toInt_inj, toI h1 h2, toI h3 h4]
theorem bl_t (h : a < b) (h1 : -2147483648 ≤ a) (h2 : b ≤ 2147483647) : bl a b T F = T := if_pos ((ltI h1 (by omega) (by omega) h2).mpr h)
theorem bl_f (h : b ≤ a) (h1 : -2147483648 ≤ b) (h2 : a ≤ 2147483647) : bl a b T F = F := if_neg (fun c => by have := (ltI (a := a) (b := b) (by omega) h2 h1 (by omega)).mp c; omega)
theorem be_t (h : a ≤ b) (h1 : -2147483648 ≤ a) (h2 : b ≤ 2147483647) : be a b T F = T := if_pos ((leI h1 (by omega) (by omega) h2).mpr h)
theorem be_f (h : b < a) (h1 : -2147483648 ≤ b) (h2 : a ≤ 2147483647) : be a b T F = F := if_neg (fun c => by have := (leI (a := a) (b := b) (by omega) h2 h1 (by omega)).mp c; omega)
theorem bq_t (h : a = b) : bq a b T F = T := if_pos (by rw [h])
theorem bq_f (h : a ≠ b) (h1 : -2147483648 ≤ a) (h2 : a ≤ 2147483647) (h3 : -2147483648 ≤ b) (h4 : b ≤ 2147483647) : bq a b T F = F := if_neg (fun c => h ((eqI h1 h2 h3 h4).mp c))
theorem bl_if (h1 : -2147483648 ≤ a) (h2 : a ≤ 2147483647) (h3 : -2147483648 ≤ b) (h4 : b ≤ 2147483647) : bl a b T F = if a < b then T else F := by
  by_cases h : a < b
  · rw [if_pos h, bl_t h h1 h4]
  · rw [if_neg h, bl_f (by omega) h3 h2]
theorem be_if (h1 : -2147483648 ≤ a) (h2 : a ≤ 2147483647) (h3 : -2147483648 ≤ b) (h4 : b ≤ 2147483647) : be a b T F = if a ≤ b then T else F := by
  by_cases h : a ≤ b
  · rw [if_pos h, be_t h h1 h4]
  · rw [if_neg h, be_f (by omega) h3 h2]
theorem bq_if (h1 : -2147483648 ≤ a) (h2 : a ≤ 2147483647) (h3 : -2147483648 ≤ b) (h4 : b ≤ 2147483647) : bq a b T F = if a = b then T else F := by
  by_cases h : a = b
  · rw [if_pos h, bq_t h]
  · rw [if_neg h, bq_f h h1 h2 h3 h4]
end
theorem gd_t {β : Type} {c : Bool} {k : Option β} (h : c = true) : gd c k = k := by rw [h]; rfl
theorem nm_e' {α β : Type} {e : α} {k : α → β} : nm e k = k e := rfl
theorem bd_s {α β : Type} {e : Option α} {x : α} {k : α → Option β} (h : e = some x) : bd e k = k x := by rw [h]; rfl
theorem ix_e {z : Int} (h0 : 0 ≤ z) (h1 : z ≤ 2147483647) : ix z = z.toNat := by
  obtain ⟨n, rfl⟩ := Int.eq_ofNat_of_zero_le h0
  rw [ix_nat (by omega)]
  rfl
theorem inb_t {z : Int} {n : Nat} (h0 : 0 ≤ z) (h1 : z < n) (hn : (n : Int) ≤ 2147483647) : inb z n = true := by
  obtain ⟨k, rfl⟩ := Int.eq_ofNat_of_zero_le h0
  exact inb_nat (by omega) (by omega)
theorem gi {β : Type} {z : Int} {n : Nat} {k : Option β} (h0 : 0 ≤ z) (h1 : z < n) (hn : (n : Int) ≤ 2147483647) : gd (inb z n) k = k := gd_t (inb_t h0 h1 hn)
theorem tdiv_i {a b : Int} (ha : -2147483648 ≤ a) (ha2 : a ≤ 2147483647) (hb : 0 < b) (hb2 : b ≤ 2147483647) : i32 a / i32 b = i32 (a.tdiv b) ∧ -2147483648 ≤ a.tdiv b ∧ a.tdiv b ≤ 2147483647 := by
  have hr : -2147483648 ≤ a.tdiv b ∧ a.tdiv b ≤ 2147483647 := by
    rcases Int.le_total 0 a with h | h
    · rw [Int.tdiv_eq_ediv_of_nonneg h]
      have h1 := Int.ediv_nonneg h (Int.le_of_lt hb)
      have h2 := Int.ediv_le_self b h
      omega
    · obtain ⟨c, rfl⟩ : ∃ c, a = -c := ⟨-a, by omega⟩
      rw [Int.neg_tdiv, Int.tdiv_eq_ediv_of_nonneg (by omega)]
      have h1 := Int.ediv_nonneg (a := c) (by omega) (Int.le_of_lt hb)
      have h2 := Int.ediv_le_self (a := c) b (by omega)
      omega
  refine ⟨?_, hr⟩
  apply Int32.toInt_inj.mp
  rw [Int32.toInt_div, toI ha ha2, toI (by omega) hb2, toI hr.1 hr.2]
  exact Int.bmod_eq_of_le (by omega) (by omega)
theorem jdv_e {a b : Int} (ha : -2147483648 ≤ a) (ha2 : a ≤ 2147483647) (hb : 0 < b) (hb2 : b ≤ 2147483647) : jdv a b = a.tdiv b := by
  obtain ⟨h1, h2, h3⟩ := tdiv_i ha ha2 hb hb2
  unfold jdv
  rw [h1, toI h2 h3]
theorem jrm_e {a b : Int} (ha : -2147483648 ≤ a) (ha2 : a ≤ 2147483647) (hb : 0 < b) (hb2 : b ≤ 2147483647) : jrm a b = a.tmod b := by
  obtain ⟨h1, h2, h3⟩ := tdiv_i ha ha2 hb hb2
  unfold jrm
  have hm : a.tmod b = a - a.tdiv b * b := by
    have h9 := Int.tmod_def a b
    rw [Int.mul_comm] at h9
    exact h9
  have hr : -2147483648 ≤ a.tmod b ∧ a.tmod b ≤ 2147483647 := by
    have hl := Int.tmod_lt_of_pos a hb
    rcases Int.le_total 0 a with h | h
    · have := Int.tmod_nonneg b h
      omega
    · obtain ⟨c, rfl⟩ : ∃ c, a = -c := ⟨-a, by omega⟩
      rw [Int.neg_tmod]
      have h1 := Int.tmod_lt_of_pos c hb
      have h2 := Int.tmod_nonneg (a := c) b (by omega)
      omega
  rw [h1, i32_mul, i32_sub, ← hm, toI hr.1 hr.2]
theorem jdv_n {a b : Int} (ha : 0 ≤ a) (ha2 : a ≤ 2147483647) (hb : 0 < b) (hb2 : b ≤ 2147483647) : jdv a b = a / b := by
  rw [jdv_e (by omega) ha2 hb hb2, Int.tdiv_eq_ediv_of_nonneg ha]
theorem jrm_n {a b : Int} (ha : 0 ≤ a) (ha2 : a ≤ 2147483647) (hb : 0 < b) (hb2 : b ≤ 2147483647) : jrm a b = a % b := by
  rw [jrm_e (by omega) ha2 hb hb2, Int.tmod_eq_emod_of_nonneg ha]
theorem jan_m {a : Int} {k : Nat} (hk : k ≤ 30) {m : Int} (hm : m = 2 ^ k - 1) : jan a m = a % (2 ^ k : Int) := by
  unfold jan
  have hm2 : (i32 m).toBitVec.toNat = 2 ^ k - 1 := by
    subst hm
    have h2 : 2 ^ k ≤ 2 ^ 30 := Nat.pow_le_pow_right (by decide) hk
    have h3 : 0 < 2 ^ k := Nat.pos_of_ne_zero (by simp)
    rw [show ((2 : Int) ^ k - 1) = ((2 ^ k - 1 : Nat) : Int) from by rw [Int.natCast_sub h3]; simp, i32_nat, pk_tn (by omega)]
  rw [pk_and (i32 a) k hm2, nI_toInt]
  · rw [Int32.toBitVec_ofInt, BitVec.toNat_ofInt]
    have h0 : (0 : Int) ≤ a % (2 ^ 32 : Nat) := Int.emod_nonneg a (by decide)
    rw [Int.natCast_emod, Int.toNat_of_nonneg h0]
    have : ((2 ^ k : Nat) : Int) ∣ ((2 ^ 32 : Nat) : Int) := Int.natCast_dvd_natCast.mpr (Nat.pow_dvd_pow 2 (by omega))
    rw [Int.emod_emod_of_dvd a this]
    simp
  · exact Nat.lt_of_lt_of_le (Nat.mod_lt _ (Nat.pos_of_ne_zero (by simp))) (Nat.pow_le_pow_right (by decide) (by omega))
theorem jan_31 (a : Int) : jan a 31 = a % 32 := jan_m (k := 5) (by decide) (by decide)
theorem jan_127 (a : Int) : jan a 127 = a % 128 := jan_m (k := 7) (by decide) (by decide)
theorem jan_255 (a : Int) : jan a 255 = a % 256 := jan_m (k := 8) (by decide) (by decide)
theorem jmx_e {a b : Int} (h1 : -2147483648 ≤ a) (h2 : a ≤ 2147483647) (h3 : -2147483648 ≤ b) (h4 : b ≤ 2147483647) : jmx a b = max a b := by
  unfold jmx
  by_cases h : a < b
  · rw [if_pos ((ltI h1 h2 h3 h4).mpr h)]; omega
  · rw [if_neg (fun c => h ((ltI h1 h2 h3 h4).mp c))]; omega
theorem jmi_e {a b : Int} (h1 : -2147483648 ≤ a) (h2 : a ≤ 2147483647) (h3 : -2147483648 ≤ b) (h4 : b ≤ 2147483647) : jmi a b = min a b := by
  unfold jmi
  by_cases h : b < a
  · rw [if_pos ((ltI h3 h4 h1 h2).mpr h)]; omega
  · rw [if_neg (fun c => h ((ltI h3 h4 h1 h2).mp c))]; omega
theorem jab_e {a : Int} (h1 : -2147483648 ≤ a) (h2 : a ≤ 2147483647) : jab a = if 0 ≤ a then a else -a := by
  show (if i32 0 ≤ i32 a then a else 0 - a) = _
  by_cases h : 0 ≤ a
  · rw [if_pos ((leI (a := 0) (by omega) (by omega) h1 h2).mpr h), if_pos h]
  · rw [if_neg (fun c => h ((leI (a := 0) (by omega) (by omega) h1 h2).mp c)), if_neg h]; omega
theorem jwl_e {a : Int} (h1 : -2147483648 ≤ a) (h2 : a ≤ 2147483647) : jwl a = a := by
  unfold jwl
  rw [Int32.toInt_toInt64, toI h1 h2]
theorem jlc_lt {a b : Int} (h1 : -9223372036854775808 ≤ a) (h2 : a ≤ 9223372036854775807) (h3 : -9223372036854775808 ≤ b) (h4 : b ≤ 9223372036854775807) : jlc a b = if b < a then 1 else if a = b then 0 else -1 := by
  unfold jlc lg_cmp
  simp only [gt_iff_lt, Int64.lt_iff_toInt_lt, ← Int64.toInt_inj, toL h1 h2, toL h3 h4]
  split
  · rfl
  · split <;> rfl
theorem up1_s {f : Nat → Int} {i : Nat} {v : Int} : up1 f i v i = v := by
  unfold up1
  rw [Nat.beq_refl]
  rfl
theorem up1_n {f : Nat → Int} {i j : Nat} {v : Int} (h : j ≠ i) : up1 f i v j = f j := by
  unfold up1
  rw [beq_no h]
  rfl
theorem up2_s {M : Ob} {k i : Nat} {v : Int} : up2 M k i v k = up1 (M k) i v := by
  unfold up2
  rw [Nat.beq_refl]
  rfl
theorem up2_n {M : Ob} {k j i : Nat} {v : Int} (h : j ≠ k) : up2 M k i v j = M j := by
  unfold up2
  rw [beq_no h]
  rfl
theorem upA_s {M : Ob} {k : Nat} {f : Nat → Int} : upA M k f k = f := by
  unfold upA
  rw [Nat.beq_refl]
  rfl
theorem upA_n {M : Ob} {k j : Nat} {f : Nat → Int} (h : j ≠ k) : upA M k f j = M j := by
  unfold upA
  rw [beq_no h]
  rfl
theorem upO_s {T : Nat → Ob} {k : Nat} {P : Ob} : upO T k P k = P := by
  unfold upO
  rw [Nat.beq_refl]
  rfl
theorem upO_n {T : Nat → Ob} {k j : Nat} {P : Ob} (h : j ≠ k) : upO T k P j = T j := by
  unfold upO
  rw [beq_no h]
  rfl
