/-! LAYER 2: draws: gusts, often -/
theorem tdiv_l {a b : Int} (ha : 0 ≤ a) (ha2 : a ≤ 9223372036854775807) (hb : 0 < b) (hb2 : b ≤ 9223372036854775807) : l64 a / l64 b = l64 (a / b) ∧ 0 ≤ a / b ∧ a / b ≤ a := by
  have h1 := Int.ediv_nonneg ha (Int.le_of_lt hb)
  have h2 := Int.ediv_le_self b ha
  refine ⟨?_, h1, h2⟩
  apply Int64.toInt_inj.mp
  rw [Int64.toInt_div, toL (by omega) ha2, toL (by omega) hb2, toL (by omega) (by omega), Int.tdiv_eq_ediv_of_nonneg ha]
  exact Int.bmod_eq_of_le (by omega) (by omega)
theorem jld_n {a b : Int} (ha : 0 ≤ a) (ha2 : a ≤ 9223372036854775807) (hb : 0 < b) (hb2 : b ≤ 9223372036854775807) : jld a b = a / b := by
  obtain ⟨h1, h2, h3⟩ := tdiv_l ha ha2 hb hb2
  unfold jld
  rw [h1, toL (by omega) (by omega)]
theorem jlr_n {a b : Int} (ha : 0 ≤ a) (ha2 : a ≤ 9223372036854775807) (hb : 0 < b) (hb2 : b ≤ 9223372036854775807) : jlr a b = a % b := by
  obtain ⟨h1, h2, h3⟩ := tdiv_l ha ha2 hb hb2
  unfold jlr
  have hm : a - a / b * b = a % b := by
    have h9 := Int.emod_def a b
    rw [Int.mul_comm] at h9
    exact h9.symm
  have hl := Int.emod_lt_of_pos a hb
  have hn := Int.emod_nonneg a (show b ≠ 0 by omega)
  rw [h1, l64_mul, l64_sub, hm, toL (by omega) (by omega)]
theorem jla_31 {a : Int} (h0 : 0 ≤ a) (h1 : a ≤ 9223372036854775807) : jla a 2147483647 = a % 2147483648 := by
  unfold jla
  obtain ⟨n, rfl⟩ := Int.eq_ofNat_of_zero_le h0
  have hn : n < 2 ^ 63 := by omega
  have e1 : (l64 (n : Int) &&& l64 2147483647).toBitVec.toNat = n % 2147483648 := by
    rw [Int64.toBitVec_and, BitVec.toNat_and, Int64.toBitVec_ofInt, Int64.toBitVec_ofInt, BitVec.toNat_ofInt, BitVec.toNat_ofInt]
    rw [show ((n : Int) % ((2 ^ 64 : Nat) : Int)).toNat = n from by omega, show ((2147483647 : Int) % ((2 ^ 64 : Nat) : Int)).toNat = 2 ^ 31 - 1 from by decide, Nat.and_two_pow_sub_one_eq_mod]
  rw [← Int64.toInt_toBitVec, BitVec.toInt_eq_toNat_of_lt (by rw [e1]; omega), e1]
  omega
theorem be_jlc {β : Type} {a b : Int} {X Y : β} (h1 : -9223372036854775808 ≤ a) (h2 : a ≤ 2147483647) (h3 : -2147483648 ≤ b) (h4 : b ≤ 2147483647) (h5 : -2147483648 ≤ a) : be 0 (jlc a b) X Y = be b a X Y := by
  rw [jlc_lt (by omega) (by omega) (by omega) (by omega)]
  by_cases c : b < a
  · rw [if_pos c, be_t (by decide) (by decide) (by decide), be_t (by omega) (by omega) (by omega)]
  · rw [if_neg c]
    by_cases c2 : a = b
    · rw [if_pos c2, be_t (by decide) (by decide) (by decide), be_t (by omega) (by omega) (by omega)]
    · rw [if_neg c2, be_f (by decide) (by decide) (by decide), be_f (by omega) (by omega) (by omega)]
theorem up24 {M : Ob} {u : Nat → Int} {a b : Int} : up2 (upA (up2 M 24 0 a) 1 u) 24 0 b = upA (up2 M 24 0 b) 1 u := by
  funext k
  by_cases h : k = 24
  · subst h
    rw [up2_s, upA_n (by decide), upA_n (by decide), up2_s, up2_s]
    funext i
    by_cases hi : i = 0
    · subst hi; rw [up1_s, up1_s]
    · rw [up1_n hi, up1_n hi, up1_n hi]
  · rw [up2_n h]
    by_cases h1 : k = 1
    · subst h1; rfl
    · rw [upA_n h1, upA_n h1, up2_n h, up2_n h]
theorem gust_lock {P M : Ob} {v od : Int} {K : Nat} (hv : 0 ≤ v) (hv2 : v ≤ 39) (ho : 0 ≤ od) (ho2 : od ≤ 100) (hK : K ≤ 400) : ∀ (m i : Nat) (acc y : Int) (A : Ob) (u : Nat → Int) (B : Int), WR P A u B → u 23 = 0 → 0 ≤ y → y < 2147483648 → i ≤ K → K - i < m → B + ((K - i : Nat) : Int) ≤ 300000 →
    ∃ r A' u' y', lX3_playGusts_21 P v (K : Int) od (v - v % 10 + 9) m y acc (i : Int) A = some (acc + r, A') ∧ lX8_gustsBy_11 v (K : Int) od m acc (i : Int) (upA (up2 M 24 0 y) 1 u) = some (acc + r, upA (up2 M 24 0 y') 1 u') ∧ WR P A' u' (B + ((K - i : Nat) : Int)) ∧ SP A u A' u' r := by
  intro m
  induction m with
  | zero => intro i acc y A u B _ _ _ _ _ h; omega
  | succ m ih =>
    intro i acc y A u B hW h23 y1 y2 h1 h2 h3
    rw [lX3_playGusts_21, lX8_gustsBy_11]
    by_cases c : i = K
    · subst c
      refine ⟨0, A, u, y, ?_, ?_, hW.le (by omega), SP.refl A u⟩
      · rw [be_t (by omega) (by omega) (by omega), Int.add_zero]
      · rw [be_t (by omega) (by omega) (by omega), Int.add_zero]
    · have hz1 : 0 ≤ 1103515245 * y + 12345 := by omega
      have hz2 : 1103515245 * y + 12345 ≤ 9223372036854775807 := by omega
      have hx0 : 0 ≤ (1103515245 * y + 12345) % 2147483648 := Int.emod_nonneg _ (by decide)
      have hx1 : (1103515245 * y + 12345) % 2147483648 < 2147483648 := Int.emod_lt_of_pos _ (by decide)
      unfold fX8_draw
      rw [upA_n (show 24 ≠ 1 by decide), up2_s, up1_s]
      simp only [nm_e']
      rw [up24, jla_31 hz1 hz2, jlr_n hz1 hz2 (by decide) (by decide), upA_n (show 24 ≠ 1 by decide), up2_s, up1_s]
      generalize hY : (1103515245 * y + 12345) % 2147483648 = y' at *
      have hq : jld y' 65536 = y' / 65536 := jld_n hx0 (by omega) (by decide) (by decide)
      have hq2 : jlr (y' / 65536) 100 = y' / 65536 % 100 := jlr_n (by omega) (by omega) (by decide) (by decide)
      rw [hq, hq2, bd_some]
      dsimp only
      have hst : 0 ≤ v - v % 10 + 9 ∧ v - v % 10 + 9 ≤ 39 := by omega
      rw [jwl_e (by omega) (by omega), be_jlc (by omega) (by omega) (by omega) (by omega) (by omega), be_f (a := (K : Int)) (b := (i : Int)) (by omega) (by omega) (by omega), be_f (a := (K : Int)) (b := (i : Int)) (by omega) (by omega) (by omega), jdv_n hv (by omega) (by decide) (by decide), show 10 * (v / 10) + 9 = v - v % 10 + 9 from by omega]
      unfold jX3_playGusts_65 jX3_playGusts_81 jX8_gustsBy_44
      rw [bq_t rfl, bq_f (a := 1) (b := 0) (by decide) (by decide) (by decide) (by decide) (by decide)]
      by_cases c2 : i32 od ≤ i32 (y' / 65536 % 100)
      · obtain ⟨r, A', u', e1, e2, e3, e4, -⟩ := step_ok (up2 M 24 0 y') hW (by omega) h23 hv hv2
        obtain ⟨r2, A2, u2, y3, f1, f2, f3, f4⟩ := ih (i + 1) (acc + r) y' A' u' (B + 1) e3 (by rw [e4.1 23 (by omega)]; exact h23) hx0 hx1 (by omega) (by omega) (by omega)
        refine ⟨r + r2, A2, u2, y3, ?_, ?_, f3.le (by omega), e4.trans f4⟩
        · rw [be_p c2, e1, bd_some, nm_e', nm_e', ← Int.add_assoc]
          exact f1
        · rw [be_p c2, e2, bd_some, nm_e', nm_e', ← Int.add_assoc]
          exact f2
      · obtain ⟨r, A', u', e1, e2, e3, e4, -⟩ := step_ok (up2 M 24 0 y') hW (by omega) h23 hst.1 hst.2
        obtain ⟨r2, A2, u2, y3, f1, f2, f3, f4⟩ := ih (i + 1) (acc + r) y' A' u' (B + 1) e3 (by rw [e4.1 23 (by omega)]; exact h23) hx0 hx1 (by omega) (by omega) (by omega)
        refine ⟨r + r2, A2, u2, y3, ?_, ?_, f3.le (by omega), e4.trans f4⟩
        · rw [be_n c2, e1, bd_some, nm_e', nm_e', ← Int.add_assoc]
          exact f1
        · rw [be_n c2, e2, bd_some, nm_e', nm_e', ← Int.add_assoc]
          exact f2
theorem gust_ok {P A M : Ob} {u : Nat → Int} {B s v od : Int} {K : Nat} (hs : 0 ≤ s) (hs2 : s ≤ 2147483647) (hv : 0 ≤ v) (hv2 : v ≤ 39) (ho : 0 ≤ od) (ho2 : od ≤ 100) (hK : K ≤ 400) (hW : WR P A u B) (h23 : u 23 = 0) (hB : B + 400 ≤ 300000) :
    ∃ r A' u' y', fX3_playGusts P A s v (K : Int) od = some (r, A') ∧ fX8_gustsBy (upA M 1 u) s v (K : Int) od = some (r, upA (up2 M 24 0 y') 1 u') ∧ WR P A' u' (B + 400) ∧ SP A u A' u' r := by
  obtain ⟨r, A', u', y', e1, e2, e3, e4⟩ := gust_lock (P := P) (M := M) hv hv2 ho ho2 hK FU 0 0 s A u B hW h23 hs (by omega) (by omega) (by show _ < 5000; omega) (by omega)
  rw [Int.zero_add] at e1 e2
  refine ⟨r, A', u', y', ?_, ?_, e3.le (by omega), e4⟩
  · unfold fX3_playGusts
    rw [nm_e', nm_e', jrm_n hv (by omega) (by decide) (by decide), jwl_e (by omega) hs2]
    exact e1
  · unfold fX8_gustsBy
    rw [nm_e', show up2 (upA M 1 u) 24 0 s = upA (up2 M 24 0 s) 1 u from by
      funext k
      by_cases h : k = 24
      · subst h; rw [up2_s, upA_n (by decide), upA_n (by decide), up2_s]
      · rw [up2_n h]
        by_cases h1 : k = 1
        · subst h1; rfl
        · rw [upA_n h1, upA_n h1, up2_n h]]
    exact e2
section
variable {n : Nat} {T : Nat → Ob} {J : Nat → Bool} {M : Ob} {x z y0 : Int} {j : Nat}
theorem gusty_eq {a b c d : Int} (h : Inv n T J M) (ha : R32 a) (hb : R32 b) (hc : R32 c) (hd : R32 d) : fX7_areGusts T a b c d = some (if M 1 1 ≠ 0 ∧ (0 ≤ a ∧ a ≤ 2000000000) ∧ (0 ≤ b ∧ b ≤ 39) ∧ (0 ≤ c ∧ c ≤ 400) ∧ 0 ≤ d ∧ d ≤ 100 then 1 else 0) ∧ fX8_isGusty M a b c d = some (if M 1 1 ≠ 0 ∧ (0 ≤ a ∧ a ≤ 2000000000) ∧ (0 ≤ b ∧ b ≤ 39) ∧ (0 ≤ c ∧ c ≤ 400) ∧ 0 ≤ d ∧ d ≤ 100 then 1 else 0) := by
  have hpb := h.now.pb
  unfold fX7_areGusts fX8_isGusty
  rw [hasSq7 h.now.pr hpb, isSq8 hpb, within7r ha ⟨by decide, by decide⟩ ⟨by decide, by decide⟩, in8i ha ⟨by decide, by decide⟩ ⟨by decide, by decide⟩, isWind7 hb, jwl_e hb.1 hb.2, isWind8 (by have := hb.1; omega) (by have := hb.2; omega), within7r hc ⟨by decide, by decide⟩ ⟨by decide, by decide⟩, in8i hc ⟨by decide, by decide⟩ ⟨by decide, by decide⟩, within7r hd ⟨by decide, by decide⟩ ⟨by decide, by decide⟩, in8i hd ⟨by decide, by decide⟩ ⟨by decide, by decide⟩]
  simp only [bd_some, bq_ite]
  by_cases c1 : M 1 1 ≠ 0
  · by_cases c2 : 0 ≤ a ∧ a ≤ 2000000000
    · by_cases c3 : 0 ≤ b ∧ b ≤ 39
      · by_cases c4 : 0 ≤ c ∧ c ≤ 400
        · by_cases c5 : 0 ≤ d ∧ d ≤ 100
          · rw [if_pos c1, if_pos c2, if_pos c3, if_pos c4, if_pos c5, if_pos ⟨c1, c2, c3, c4, c5⟩]
            exact ⟨rfl, rfl⟩
          · rw [if_pos c1, if_pos c2, if_pos c3, if_pos c4, if_neg c5, if_neg (fun q => c5 q.2.2.2.2)]
            exact ⟨rfl, rfl⟩
        · rw [if_pos c1, if_pos c2, if_pos c3, if_neg c4, if_neg (fun q => c4 q.2.2.2.1)]
          exact ⟨rfl, rfl⟩
      · rw [if_pos c1, if_pos c2, if_neg c3, if_neg (fun q => c3 q.2.2.1)]
        exact ⟨rfl, rfl⟩
    · rw [if_pos c1, if_neg c2, if_neg (fun q => c2 q.2.1)]
      exact ⟨rfl, rfl⟩
  · rw [if_neg c1, if_neg (fun q => c1 q.1)]
    exact ⟨rfl, rfl⟩
theorem op_gusts {a b c d : Int} (h : Inv2 n T J M) (hn : n + 1 ≤ 512) (ha : R32 a) (hb : R32 b) (hc : R32 c) (hd : R32 d) : Nx n T J (fX7_gusts T a b c d) (fX8_gusts M a b c d) := by
  obtain ⟨g1, g2⟩ := gusty_eq h.1 ha hb hc hd
  unfold fX7_gusts fX8_gusts
  rw [g1, g2, bd_some, bd_some, bq_ite, bq_ite]
  refine Nx.ite (fun q => ?_) (fun _ => Nx.s _ h hn)
  obtain ⟨K, rfl⟩ := Int.eq_ofNat_of_zero_le q.2.2.2.1.1
  obtain ⟨r, A', u', y', e1, e2, e3, e4⟩ := gust_ok (M := M) (K := K) q.2.1.1 (by have := q.2.1.2; omega) q.2.2.1.1 q.2.2.1.2 q.2.2.2.2.1 q.2.2.2.2.2 (by have := q.2.2.2.1.2; omega) h.1.now h.1.still (by omega)
  rw [upA_self] at e2
  rw [e1, bd_some, nm_e', jwl_e ha.1 ha.2, e2, bd_some]
  exact ⟨r, _, _, rfl, rfl, h.beats hn (fun i hi => up2_n (by omega)) (e3.le (by omega)) e4, fun k hk => upO_n (by omega)⟩
theorem often_loop {k K : Nat} {s D v od : Int} (hs : 0 ≤ s) (hs2 : s ≤ 2000000000) (hD : D ≤ 20) (hv : 0 ≤ v) (hv2 : v ≤ 39) (ho : 0 ≤ od) (ho2 : od ≤ 100) (hK : K ≤ 400) : ∀ (m i : Nat) (acc : Int) (T : Nat → Ob) (M : Ob), Inv n T J M → (k : Int) < M 1 11 → (i : Int) ≤ D → D - i < m → Ef T M (lX7_often_41 (k : Int) s D v (K : Int) od m acc (i : Int) T) (lX8_often_43 (k : Int) s D v (K : Int) od m acc (i : Int) M) := by
  intro m
  induction m with
  | zero => intro i acc T M _ _ h1 h2; omega
  | succ m ih =>
    intro i acc T M h hk h1 h2
    have hn := h.n
    have hb := h.now.pb
    have b11 := hb.b11
    rw [lX7_often_41, lX8_often_43]
    simp only [nm_e']
    by_cases c : D ≤ (i : Int)
    · rw [be_t c (by omega) (by omega), be_t c (by omega) (by omega)]
      exact Ef.s _
    · obtain ⟨Tb, b1, b2, b3, b4⟩ := begin_ok h
      obtain ⟨r, A', u', y', e1, e2, e3, e4⟩ := gust_ok (M := Mk M) (K := K) (s := s + (i : Int)) (by omega) (by omega) hv hv2 ho ho2 hK (wr_begin h b2 b3) h.still (by omega)
      rw [Mk_self] at e2
      have hrr := e4.2.2.1; have hs2 := e4.2.2.2.1
      have ht := e3.ab.thrown; have hbe := e3.ab.beats; have hca := e3.ab.caught; have hlo := h.now.ab.lost; have hce := h.now.ab.cells
      have hk' : (k : Int) < u' 11 := by rw [e4.1 11 (by omega)]; exact hk
      have htm := (e3.pr.tab k hk').2.2
      have b11' := e3.pb.b11
      rw [be_f (by omega) (by omega) (by omega), be_f (by omega) (by omega) (by omega), b1, bd_some, e1, bd_some, thinksMk, bd_some, jwl_e (by omega) (by omega), jwl_e (by omega) (by omega), e2, bd_some]
      dsimp only
      unfold fX3_isOver
      rw [upO_n (show 4 ≠ 5 by decide), upO_s, tableWet7 e3.pb e3.pr e3.ar.wet hk', bd_some, gi (by omega) (by omega) (by omega), ix_nat (by omega), htm, bl_f (by omega) (by omega) (by omega), wetAt8 (M := upA (up2 (Mk M) 24 0 y') 1 u') e3.pb hk', bd_some, ofTable8 (c := 2) (d := 2) rfl (by decide) (by omega), bd_some, upA_1, show 35 + 3 * k + 2 = 37 + 3 * k from by omega]
      obtain ⟨M', g1, g2⟩ := wake_fr (T := T) (M := M) (X := upA (up2 (Mk M) 24 0 y') 1 u') (fun k hk => by rw [upA_n (by decide), up2_n (by decide)]; exact if_pos hk) (fun i hi => by rw [upA_n (by omega), up2_n (by omega)]; exact upA_n (by omega))
      have fr := g2 (upO Tb 5 A') (fun i h4 h5 _ => by rw [upO_n h5, b4 i h4 h5])
      unfold jX8_often_96 jX8_often_97
      rw [g1]
      simp only [bd_some, nm_e']
      refine Ef.pre fr ?_
      by_cases c2 : i32 (u' (519 + (30 * u' (36 + 3 * k) + u' (35 + 3 * k)).toNat)) ≤ i32 (u' (37 + 3 * k))
      · rw [be_p c2, be_p c2, bd_some, bq_t rfl, Int.add_zero]
        exact ih (i + 1) _ _ _ (h.fr fr) (by rw [fr.2.1 11 (by decide)]; exact hk) (by omega) (by omega)
      · rw [be_n c2, be_n c2, bd_some, bq_f (by decide) (by decide) (by decide) (by decide) (by decide)]
        exact ih (i + 1) _ _ _ (h.fr fr) (by rw [fr.2.1 11 (by decide)]; exact hk) (by omega) (by omega)
theorem op_often {a b c d e f : Int} (h : Inv n T J M) (ha : R32 a) (hb : R32 b) (hc : R32 c) (hd : R32 d) (he : R32 e) (hf : R32 f) : Ef T M (fX7_often T a b c d e f) (fX8_often M a b c d e f) := by
  have hpb := h.now.pb
  obtain ⟨g1, g2⟩ := gusty_eq h hb hd he hf
  unfold fX7_often fX8_often
  rw [isTable7 h.now.pr hpb ha, isTable8 hpb ha, bd_some, bd_some, bq_ite, bq_ite]
  refine Ef.ite (fun c1 => ?_) (fun _ => Ef.s _)
  rw [within7r hc ⟨by decide, by decide⟩ ⟨by decide, by decide⟩, in8i hc ⟨by decide, by decide⟩ ⟨by decide, by decide⟩, bd_some, bd_some, bq_ite, bq_ite]
  refine Ef.ite (fun c2 => ?_) (fun _ => Ef.s _)
  rw [g1, g2, bd_some, bd_some, bq_ite, bq_ite]
  refine Ef.ite (fun q => ?_) (fun _ => Ef.s _)
  obtain ⟨K, rfl⟩ := Int.eq_ofNat_of_zero_le q.2.2.2.1.1
  obtain ⟨k, rfl⟩ := Int.eq_ofNat_of_zero_le c1.1
  exact often_loop q.2.1.1 q.2.1.2 c2.2 q.2.2.1.1 q.2.2.1.2 q.2.2.2.2.1 q.2.2.2.2.2 (by have := q.2.2.2.1.2; omega) FU 0 0 T M h (by omega) (by omega) (by show _ < ((5000 : Nat) : Int); omega)
end
