/-! the law: write, keep, back -/
section
variable {κ : Kx} {G : GT} {nm : String} {ret : Option FieldType} {a b n : Nat} {Q : State → Prop} {bb L : Nat} {xs : Nat → Int32} {i : Int} {q : Nat → Nat → Nat} {J : Nat → Bool} {T : Nat → Ob} {qm : Nat → Nat} {M : Ob}
theorem jlo_r (x z : Int) : -9223372036854775808 ≤ jlo x z ∧ jlo x z ≤ 9223372036854775807 := by
  unfold jlo
  have h1 := Int64.le_toInt (l64 x ||| l64 z)
  have h2 := Int64.toInt_lt (l64 x ||| l64 z)
  exact ⟨by omega, by omega⟩
theorem lw_write (C : Cx κ G (yL nm) code ret 4 room_1) (hX : Sc κ bb L xs) (h : Inv2 n T J M) (hn : n + 1 ≤ 512) (hi : 0 ≤ i) (hL : i + 6 < L) (hL2 : L ≤ 3584) (ha : a ≤ 600000) (hb : b ≤ 7302250) (K : ∀ T' M', Inv2 (n + 1) T' J M' → X κ G 4 (WL G q J T' qm M') 2535 (lvL bb (q 11 31) (qm 31) i) [] a b Q) : X κ G 4 (WL G q J T qm M) 2399 (lvL bb (q 11 31) (qm 31) i) [] a b Q := by
  obtain ⟨v, hv⟩ : ∃ v, v = jlo (jls (jwl (xi xs (i + 3).toNat)) 32) (jla (jwl (xi xs (i + 4).toNat)) 4294967295) := ⟨_, rfl⟩
  have hr : -9223372036854775808 ≤ v ∧ v ≤ 9223372036854775807 := by rw [hv]; exact jlo_r _ _
  have e : Nx n T J (fX7_write T (xi xs (i + 1).toNat) (xi xs (i + 2).toNat) v) (fX8_write M (xi xs (i + 1).toNat) (xi xs (i + 2).toNat) v) := op_write h hn (xi_r xs _) (xi_r xs _) hr.1 hr.2
  obtain ⟨r, T', M', e1, e2, e3, e4⟩ := e
  refine X.aload_n C dL_2399 rfl 2 rfl ?_
  refine X.arg (k := 1) C hX hi (by decide) (by omega) hL2 dL_2400 dL_2401 dL_2402 dL_2403 dL_2404 ?_
  refine X.arg (k := 2) C hX hi (by decide) (by omega) hL2 dL_2405 dL_2406 dL_2407 dL_2408 dL_2409 ?_
  refine X.arg (k := 3) C hX hi (by decide) (by omega) hL2 dL_2410 dL_2411 dL_2412 dL_2413 dL_2414 ?_
  refine X.i2l C dL_2415 ?_
  refine X.bipush C dL_2416 (by decide) ?_
  refine X.lshl C dL_2418 ?_
  refine X.arg (k := 4) C hX hi (by decide) (by omega) hL2 dL_2419 dL_2420 dL_2421 dL_2422 dL_2423 ?_
  refine X.i2l C dL_2424 ?_
  refine X.ldc2 (z := 4294967295) C cl_L_272 rfl dL_2425 ?_
  refine X.land C dL_2428 ?_
  refine X.lor C dL_2429 ?_
  rw [← hv]
  refine X.callC (T' := T') (r := r) (As := [vi (xi xs (i + 1).toNat), vi (xi xs (i + 2).toNat), vl v]) (rest := []) C dL_2430 ml_L_274 mX7_write (kX7_write q T (xi xs (i + 1).toNat) (xi xs (i + 2).toNat) v _ e1) e4 rfl rfl rfl rfl rfl ha hb ?_
  refine X.aload_n C dL_2433 rfl 1 rfl ?_
  refine X.arg (k := 1) C hX hi (by decide) (by omega) hL2 dL_2434 dL_2435 dL_2436 dL_2437 dL_2438 ?_
  refine X.arg (k := 2) C hX hi (by decide) (by omega) hL2 dL_2439 dL_2440 dL_2441 dL_2442 dL_2443 ?_
  refine X.arg (k := 3) C hX hi (by decide) (by omega) hL2 dL_2444 dL_2445 dL_2446 dL_2447 dL_2448 ?_
  refine X.i2l C dL_2449 ?_
  refine X.bipush C dL_2450 (by decide) ?_
  refine X.lshl C dL_2452 ?_
  refine X.arg (k := 4) C hX hi (by decide) (by omega) hL2 dL_2453 dL_2454 dL_2455 dL_2456 dL_2457 ?_
  refine X.i2l C dL_2458 ?_
  refine X.ldc2 (z := 4294967295) C cl_L_272 rfl dL_2459 ?_
  refine X.land C dL_2462 ?_
  refine X.lor C dL_2463 ?_
  rw [← hv]
  refine X.callM (M' := M') (r := r) (As := [vi (xi xs (i + 1).toNat), vi (xi xs (i + 2).toNat), vl v]) (rest := [vi r]) C dL_2464 ml_L_278 mX8_write (kX8_write qm M (xi xs (i + 1).toNat) (xi xs (i + 2).toNat) v _ e2) rfl rfl rfl rfl rfl ha hb ?_
  exact X.same (tgt := 2535) C dL_2467 (by decide) (K T' M' e3)
variable {y : MethodName} {pc index nn nL2 : Nat} {y2 : MethodName} {cc2 : ByteArray} {ret2 : Option FieldType} {rm2 : Room} {As rest st : List Value} {post : va_W → Prop} {r : Int} {lv : List (Nat × Value)}
theorem WX_e : W_X G q J T = W_T G q T ++ IM G q J T := rfl
/-- the class is called, with its images -/
theorem X.callI (C : Cx κ G y code ret 4 room_1) (hd : decode code pc = .ok (.invokevirtual index, 3)) (hl : Cond.methodLink y.cls index y2 ∈ UW) (hM : MV y2 cc2 nL2 ret2 nn) (hC : CTR κ.2.1 G y2 cc2 nL2 ret2 rm2 (.ref (q 11 31) :: As) (W_X G q J T) post (some (vi r))) (hy : y2.cls = RX7) (hn : As.length = nn) (hst : st = As.reverse ++ .ref (q 11 31) :: rest) (hW : catOk rest = true) (hR : RM room_1 rm2 nL2 a b) (kk : ∀ W1, post W1 → X κ G 4 (W_M G qm M ++ W1) (pc + 3) lv (vi r :: rest) (a + rm2.cells) (b + rm2.slots) Q) : X κ G 4 (WL G q J T qm M) pc lv st a b Q := by
  refine X.eqw (ws2 := W_X G q J T ++ W_M G qm M) (by rw [WX_e]; unfold WL; rw [List.append_assoc]) ?_
  exact X.callVR (q0 := 0) (As := As) (rest := rest) (ci := 7) (T := TX7) (N := 7) C hd hl hM hC rfl (by rw [hy]; rfl) hn hst (cat_of hW) hR kk
theorem WL_X {W1 : va_W} (h : W1.Perm (W_X G q J T)) : (W_M G qm M ++ W1).Perm (WL G q J T qm M) := by
  refine (List.Perm.append_left _ h).trans ?_
  exact WL_perm.symm
def nf (J : Nat → Bool) : Nat := cond (J 0) 0 1 + cond (J 1) 0 1 + cond (J 2) 0 1
theorem nf_new {k : Nat} (hk : k < 3) (h : J k = false) : nf (jN J k) + 1 = nf J := by
  rcases (show k = 0 ∨ k = 1 ∨ k = 2 by omega) with rfl | rfl | rfl
  · unfold nf; rw [jN_s, jN_n (by decide), jN_n (by decide), h]; cases J 1 <;> cases J 2 <;> rfl
  · unfold nf; rw [jN_s, jN_n (by decide), jN_n (by decide), h]; cases J 0 <;> cases J 2 <;> rfl
  · unfold nf; rw [jN_s, jN_n (by decide), jN_n (by decide), h]; cases J 0 <;> cases J 1 <;> rfl
theorem nf_old {k : Nat} (hk : k < 3) (h : J k = true) : jN J k = J := by
  funext i
  by_cases e : i = k
  · rw [e, jN_s, h]
  · exact jN_n e
/-- room enough for the images that aren't yet -/
def Rk (J : Nat → Bool) (a b : Nat) : Prop := a + 18 * nf J ≤ 1000 ∧ b + 1441 * nf J ≤ 100000
theorem lw_back (C : Cx κ G (yL nm) code ret 4 room_1) (hX : Sc κ bb L xs) (h : Inv2 n T J M) (hn : n + 1 ≤ 512) (hi : 0 ≤ i) (hL : i + 6 < L) (hL2 : L ≤ 3584) (hk : Rk J a b) (K : ∀ T' M', Inv2 (n + 1) T' J M' → X κ G 4 (WL G q J T' qm M') 2535 (lvL bb (q 11 31) (qm 31) i) [] a b Q) : X κ G 4 (WL G q J T qm M) 2333 (lvL bb (q 11 31) (qm 31) i) [] a b Q := by
  have hk1 := hk.1; have hk2 := hk.2
  have hR : RM room_1 rX7_img 2 a b := ⟨⟨by decide, by decide⟩, by show a + 0 ≤ 600000; omega, by show b + 0 ≤ 7302250; omega⟩
  have go : ∀ (r : Int) (T' : Nat → Ob) (M' : Ob), CTR κ.2.1 G yX7_back cX7_back 2 (some .int) rX7_img [.ref (q 11 31), vi (xi xs (i + 1).toNat)] (W_X G q J T) (fun W => W.Perm (W_X G q J T')) (some (vi r)) → fX8_back M (xi xs (i + 1).toNat) = some (r, M') → Inv2 (n + 1) T' J M' → X κ G 4 (WL G q J T qm M) 2333 (lvL bb (q 11 31) (qm 31) i) [] a b Q := fun r T' M' hC e2 e3 => by
    refine X.aload_n C dL_2333 rfl 2 rfl ?_
    refine X.arg (k := 1) C hX hi (by decide) (by omega) hL2 dL_2334 dL_2335 dL_2336 dL_2337 dL_2338 ?_
    refine X.callI (As := [vi (xi xs (i + 1).toNat)]) (rest := []) C dL_2339 ml_L_264 mX7_back hC rfl rfl rfl rfl hR (fun W1 hW1 => ?_)
    refine X.permP (WL_X hW1) ?_
    refine X.aload_n C dL_2342 rfl 1 rfl ?_
    refine X.arg (k := 1) C hX hi (by decide) (by omega) hL2 dL_2343 dL_2344 dL_2345 dL_2346 dL_2347 ?_
    refine X.callM (M' := M') (r := r) (As := [vi (xi xs (i + 1).toNat)]) (rest := [vi r]) C dL_2348 ml_L_267 mX8_back (kX8_back qm M (xi xs (i + 1).toNat) _ e2) rfl rfl rfl rfl rfl (by show a + 0 ≤ 600000; omega) (by show b + 0 ≤ 7302250; omega) ?_
    exact X.same (tgt := 2535) C dL_2351 (by decide) (K T' M' e3)
  by_cases c : 0 ≤ xi xs (i + 1).toNat ∧ xi xs (i + 1).toNat ≤ 2
  · obtain ⟨k, hkk⟩ : ∃ k : Nat, xi xs (i + 1).toNat = (k : Int) := ⟨(xi xs (i + 1).toNat).toNat, by omega⟩
    have hk3 : k < 3 := by omega
    rw [hkk] at go
    cases hJ : J k with
    | false => exact go (-6) T M (kX7_back_none hk3 hJ) (back_none8 h hk3 hJ) (h.next hn)
    | true =>
      obtain ⟨M', m1, m2⟩ := back_m h hn hk3 hJ
      obtain ⟨v, v1, v2, v3⟩ := copy3 (T 2) (T 3) (T (15 + 3 * k)) (T (16 + 3 * k))
      exact go 0 _ M' (kX7_back_ok hk3 hJ v1) m1 (m2 _ _ v2 v3)
  · exact go (-2) T M (kX7_back_bad (xi_r xs _) c) (back_bad8 (xi_r xs _) c) (h.next hn)
theorem lw_keep (C : Cx κ G (yL nm) code ret 4 room_1) (hX : Sc κ bb L xs) (h : Inv2 n T J M) (hn : n + 1 ≤ 512) (hi : 0 ≤ i) (hL : i + 6 < L) (hL2 : L ≤ 3584) (hk : Rk J a b) (K : ∀ q' J' T' M' a' b', q' 11 31 = q 11 31 → Inv2 (n + 1) T' J' M' → Rk J' a' b' → X κ G 4 (WL G q' J' T' qm M') 2535 (lvL bb (q 11 31) (qm 31) i) [] a' b' Q) : X κ G 4 (WL G q J T qm M) 2310 (lvL bb (q 11 31) (qm 31) i) [] a b Q := by
  have hk1 := hk.1; have hk2 := hk.2
  have hR : RM room_1 rX7_img 2 a b := ⟨⟨by decide, by decide⟩, by show a + 0 ≤ 600000; omega, by show b + 0 ≤ 7302250; omega⟩
  have go : ∀ (r : Int) (T' : Nat → Ob) (M' : Ob), CTR κ.2.1 G yX7_keep cX7_keep 2 (some .int) rX7_img [.ref (q 11 31), vi (xi xs (i + 1).toNat)] (W_X G q J T) (fun W => W.Perm (W_X G q J T')) (some (vi r)) → fX8_keep M (xi xs (i + 1).toNat) = some (r, M') → Inv2 (n + 1) T' J M' → X κ G 4 (WL G q J T qm M) 2310 (lvL bb (q 11 31) (qm 31) i) [] a b Q := fun r T' M' hC e2 e3 => by
    refine X.aload_n C dL_2310 rfl 2 rfl ?_
    refine X.arg (k := 1) C hX hi (by decide) (by omega) hL2 dL_2311 dL_2312 dL_2313 dL_2314 dL_2315 ?_
    refine X.callI (As := [vi (xi xs (i + 1).toNat)]) (rest := []) C dL_2316 ml_L_260 mX7_keep hC rfl rfl rfl rfl hR (fun W1 hW1 => ?_)
    refine X.permP (WL_X hW1) ?_
    refine X.aload_n C dL_2319 rfl 1 rfl ?_
    refine X.arg (k := 1) C hX hi (by decide) (by omega) hL2 dL_2320 dL_2321 dL_2322 dL_2323 dL_2324 ?_
    refine X.callM (M' := M') (r := r) (As := [vi (xi xs (i + 1).toNat)]) (rest := [vi r]) C dL_2325 ml_L_263 mX8_keep (kX8_keep qm M (xi xs (i + 1).toNat) _ e2) rfl rfl rfl rfl rfl (by show a + 0 ≤ 600000; omega) (by show b + 0 ≤ 7302250; omega) ?_
    exact X.same (tgt := 2535) C dL_2328 (by decide) (K q J T' M' a b rfl e3 hk)
  by_cases c : 0 ≤ xi xs (i + 1).toNat ∧ xi xs (i + 1).toNat ≤ 2
  · obtain ⟨k, hkk⟩ : ∃ k : Nat, xi xs (i + 1).toNat = (k : Int) := ⟨(xi xs (i + 1).toNat).toNat, by omega⟩
    have hk3 : k < 3 := by omega
    obtain ⟨M', m1, m2⟩ := keep_m h hn hk3
    cases hJ : J k with
    | false =>
      obtain ⟨v, v1, v2, v3⟩ := copy3 plan0 air0 (T 2) (T 3)
      have hnf := nf_new hk3 hJ
      have hRN : RM room_1 rX7_imgN 2 a b := ⟨⟨by decide, by decide⟩, by show a + 18 ≤ 600000; omega, by show b + 1441 ≤ 7302250; omega⟩
      refine X.aload_n C dL_2310 rfl 2 rfl ?_
      refine X.arg (k := 1) C hX hi (by decide) (by omega) hL2 dL_2311 dL_2312 dL_2313 dL_2314 dL_2315 ?_
      rw [hkk]
      refine X.callI (As := [vi (k : Int)]) (rest := []) C dL_2316 ml_L_260 mX7_keep (kX7_keep_new hk3 hJ v1) rfl rfl rfl rfl hRN (fun W1 hW1 => ?_)
      obtain ⟨qs, qp, qa, hp⟩ := hW1
      refine X.permP (WL_X hp) ?_
      have e11 : qN q k qs qp qa 11 31 = q 11 31 := by
        rcases (show k = 0 ∨ k = 1 ∨ k = 2 by omega) with rfl | rfl | rfl <;> rfl
      refine X.aload_n C dL_2319 rfl 1 rfl ?_
      refine X.arg (k := 1) C hX hi (by decide) (by omega) hL2 dL_2320 dL_2321 dL_2322 dL_2323 dL_2324 ?_
      rw [hkk]
      refine X.callM (M' := M') (r := 0) (As := [vi (k : Int)]) (rest := [vi 0]) C dL_2325 ml_L_263 mX8_keep (kX8_keep qm M (k : Int) _ m1) rfl rfl rfl rfl rfl (by show a + 18 ≤ 600000; omega) (by show b + 1441 ≤ 7302250; omega) ?_
      exact X.same (tgt := 2535) C dL_2328 (by decide) (K _ _ _ M' _ _ e11 (m2 _ _ v2 v3) ⟨by show a + 18 + 18 * nf (jN J k) ≤ 1000; omega, by show b + 1441 + 1441 * nf (jN J k) ≤ 100000; omega⟩)
    | true =>
      obtain ⟨v, v1, v2, v3⟩ := copy3 (T (15 + 3 * k)) (T (16 + 3 * k)) (T 2) (T 3)
      have m3 := m2 _ _ v2 v3
      rw [nf_old hk3 hJ] at m3
      rw [hkk] at go
      exact go 0 _ M' (kX7_keep_old hk3 hJ v1) m1 m3
  · exact go (-2) T M (kX7_keep_bad (xi_r xs _) c) (keep_bad8 (xi_r xs _) c) (h.next hn)
end
