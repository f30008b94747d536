/-! LAYER 2: the small functions of both sides -/
theorem bd_some {α β : Type} {x : α} {k : α → Option β} : bd (some x) k = k x := rfl
theorem in8 {v lo hi : Int} (h1 : -9223372036854775808 ≤ v) (h2 : v ≤ 9223372036854775807) (h3 : -9223372036854775808 ≤ lo) (h4 : lo ≤ 9223372036854775807) (h5 : -9223372036854775808 ≤ hi) (h6 : hi ≤ 9223372036854775807) : fX8_in v lo hi = some (if lo ≤ v ∧ v ≤ hi then 1 else 0) := by
  unfold fX8_in
  rw [jlc_lt h1 h2 h3 h4, jlc_lt h1 h2 h5 h6]
  by_cases c1 : lo < v
  · rw [if_pos c1, bl_f (by omega) (by omega) (by omega)]
    by_cases c2 : hi < v
    · rw [if_pos c2, bl_t (by omega) (by omega) (by omega), if_neg (by omega)]
    · rw [if_neg c2]
      by_cases c3 : v = hi
      · rw [if_pos c3, bl_f (by omega) (by omega) (by omega), if_pos (show lo ≤ v ∧ v ≤ hi by omega)]
      · rw [if_neg c3, bl_f (by omega) (by omega) (by omega), if_pos (show lo ≤ v ∧ v ≤ hi by omega)]
  · rw [if_neg c1]
    by_cases c2 : v = lo
    · rw [if_pos c2, bl_f (by omega) (by omega) (by omega)]
      by_cases c3 : hi < v
      · rw [if_pos c3, bl_t (by omega) (by omega) (by omega), if_neg (by omega)]
      · rw [if_neg c3]
        by_cases c4 : v = hi
        · rw [if_pos c4, bl_f (by omega) (by omega) (by omega), if_pos (show lo ≤ v ∧ v ≤ hi by omega)]
        · rw [if_neg c4, bl_f (by omega) (by omega) (by omega), if_pos (show lo ≤ v ∧ v ≤ hi by omega)]
    · rw [if_neg c2, bl_t (by omega) (by omega) (by omega), if_neg (by omega)]
theorem within7 {x lo hi : Int} (h1 : -2147483648 ≤ x) (h2 : x ≤ 2147483647) (h3 : -2147483648 ≤ lo) (h4 : lo ≤ 2147483647) (h5 : -2147483648 ≤ hi) (h6 : hi ≤ 2147483647) : fX7_isWithin x lo hi = some (if lo ≤ x ∧ x ≤ hi then 1 else 0) := by
  unfold fX7_isWithin
  by_cases c1 : x < lo
  · rw [bl_t c1 h1 h4, if_neg (by omega)]
  · rw [bl_f (by omega) h3 h2]
    by_cases c2 : hi < x
    · rw [bl_t c2 h5 h2, if_neg (by omega)]
    · rw [bl_f (by omega) h1 h6, if_pos (by omega)]
/-- a number that an int can be -/
def R32 (x : Int) : Prop := -2147483648 ≤ x ∧ x ≤ 2147483647
theorem in8i {v lo hi : Int} (h1 : R32 v) (h3 : R32 lo) (h5 : R32 hi) : fX8_in (jwl v) lo hi = some (if lo ≤ v ∧ v ≤ hi then 1 else 0) := by
  have := h1.1; have := h1.2; have := h3.1; have := h3.2; have := h5.1; have := h5.2
  rw [jwl_e h1.1 h1.2]
  exact in8 (by omega) (by omega) (by omega) (by omega) (by omega) (by omega)
theorem in8w {v lo hi : Int} (h1 : R32 v) (h3 : R32 lo) (h5 : R32 hi) : fX8_in (jwl v) lo (jwl hi) = some (if lo ≤ v ∧ v ≤ hi then 1 else 0) := by
  rw [jwl_e h5.1 h5.2]
  exact in8i h1 h3 h5
theorem within7r {x lo hi : Int} (h1 : R32 x) (h3 : R32 lo) (h5 : R32 hi) : fX7_isWithin x lo hi = some (if lo ≤ x ∧ x ≤ hi then 1 else 0) := within7 h1.1 h1.2 h3.1 h3.2 h5.1 h5.2
theorem bq_ite {β : Type} {c : Prop} [Decidable c] {T F : β} : bq (if c then (1 : Int) else 0) 0 T F = if c then F else T := by
  by_cases h : c
  · rw [if_pos h, if_pos h]; exact bq_f (by decide) (by decide) (by decide) (by decide) (by decide)
  · rw [if_neg h, if_neg h]; exact bq_t rfl
theorem isz_ite {c : Prop} [Decidable c] : isz (if c then (1 : Int) else 0) = true := by
  by_cases h : c
  · rw [if_pos h]; rfl
  · rw [if_neg h]; rfl
theorem isWind7 {x : Int} (h : R32 x) : fX7_isWind x = some (if 0 ≤ x ∧ x ≤ 39 then 1 else 0) := by
  unfold fX7_isWind
  rw [within7r h ⟨by decide, by decide⟩ ⟨by decide, by decide⟩, bd_some, gd_t isz_ite]
theorem isWind8 {x : Int} (h1 : -9223372036854775808 ≤ x) (h2 : x ≤ 9223372036854775807) : fX8_isWind x = some (if 0 ≤ x ∧ x ≤ 39 then 1 else 0) := by
  unfold fX8_isWind
  rw [in8 h1 h2 (by decide) (by decide) (by decide) (by decide), bd_some, gd_t isz_ite]
theorem isSlot7 {x : Int} (h : R32 x) : fX7_isSlot x = some (if 0 ≤ x ∧ x ≤ 3 then 1 else 0) := by
  unfold fX7_isSlot
  rw [within7r h ⟨by decide, by decide⟩ ⟨by decide, by decide⟩, bd_some, gd_t isz_ite]
theorem isSlot8 {x : Int} (h : R32 x) : fX8_isSlot x = some (if 0 ≤ x ∧ x ≤ 3 then 1 else 0) := by
  unfold fX8_isSlot
  rw [in8i h ⟨by decide, by decide⟩ ⟨by decide, by decide⟩, bd_some, gd_t isz_ite]
theorem isWay7 {x : Int} (h : R32 x) : fX7_isWay x = some (if 0 ≤ x ∧ x ≤ 3 then 1 else 0) := by
  unfold fX7_isWay
  rw [within7r h ⟨by decide, by decide⟩ ⟨by decide, by decide⟩, bd_some, gd_t isz_ite]
theorem isHigh8 {x : Int} (h : R32 x) : fX8_isHigh x = some (if 0 ≤ x ∧ x ≤ 60 then 1 else 0) := by
  unfold fX8_isHigh
  rw [in8i h ⟨by decide, by decide⟩ ⟨by decide, by decide⟩, bd_some, gd_t isz_ite]
/-- the pace of a height -/
def pcT : List Int := [0, 1, 2, 2, 3, 3, 3, 4, 4, 4, 4, 5, 5, 5, 5, 5, 6, 6, 6, 6, 6, 6, 7, 7, 7, 7, 7, 7, 7, 8, 8, 8, 8, 8, 8, 8, 8, 9, 9, 9, 9, 9, 9, 9, 9, 9, 10, 10, 10, 10, 10, 10, 10, 10, 10, 10, 11, 11, 11, 11, 11]
def pcN (h : Int) : Int := pcT.getD h.toNat 0
theorem pace_all : ∀ h : Nat, h < 61 → fX7_paceOf (h : Int) = some (pcN h) ∧ fX8_paceOf (h : Int) = some (pcN h) ∧ 0 ≤ pcN h ∧ pcN h ≤ 11 ∧ (0 < h → 0 < pcN h) := by decide +kernel
theorem pc7 {h : Int} (h0 : 0 ≤ h) (h1 : h ≤ 60) : fX7_paceOf h = some (pcN h) := by
  obtain ⟨n, rfl⟩ := Int.eq_ofNat_of_zero_le h0
  exact (pace_all n (by omega)).1
theorem pc8 {h : Int} (h0 : 0 ≤ h) (h1 : h ≤ 60) : fX8_paceOf h = some (pcN h) := by
  obtain ⟨n, rfl⟩ := Int.eq_ofNat_of_zero_le h0
  exact (pace_all n (by omega)).2.1
theorem pcB {h : Int} (h0 : 0 ≤ h) (h1 : h ≤ 60) : 0 ≤ pcN h ∧ pcN h ≤ 11 ∧ (0 < h → 0 < pcN h) := by
  obtain ⟨n, rfl⟩ := Int.eq_ofNat_of_zero_le h0
  have h := (pace_all n (by omega)).2.2
  exact ⟨h.1, h.2.1, fun hp => h.2.2 (by omega)⟩
/-- op pace -/
theorem op_pace {T : Nat → Ob} {M : Ob} {x : Int} (h : R32 x) : ∃ r, fX7_pace T x = some r ∧ fX8_pace M x = some r := by
  unfold fX7_pace fX8_pace
  rw [within7r h ⟨by decide, by decide⟩ ⟨by decide, by decide⟩, isHigh8 h, bd_some, bd_some, bq_ite, bq_ite]
  by_cases c : 0 ≤ x ∧ x ≤ 60
  · rw [if_pos c, if_pos c, pc7 c.1 c.2, pc8 c.1 c.2]
    exact ⟨_, rfl, rfl⟩
  · rw [if_neg c, if_neg c]
    exact ⟨_, rfl, rfl⟩
