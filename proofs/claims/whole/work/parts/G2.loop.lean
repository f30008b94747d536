/-! the law: its loop and its start -/
section
variable {κ : Kx} {G : GT} {nm : String} {ret : Option FieldType} {Q : State → Prop} {bb L : Nat} {xs : Nat → Int32} {qm : Nat → Nat} {ox : Nat}
set_option maxHeartbeats 4000000 in
set_option maxRecDepth 100000 in
theorem law_loop (C : Cx κ G (yL nm) code ret 4 room_1) (hX : Sc κ bb L xs) (hL2 : L ≤ 3584) (E : ∀ (ws : va_W) (lv : List (Nat × Value)) (a b : Nat), a ≤ 600000 → b ≤ 7302250 → X κ G 4 ws 2541 lv [] a b Q) : ∀ (m n : Nat) (q : Nat → Nat → Nat) (J : Nat → Bool) (T : Nat → Ob) (M : Ob) (a b : Nat), q 11 31 = ox → Inv2 n T J M → Rk J a b → L < 7 * n + 7 * m → X κ G 4 (WL G q J T qm M) 18 (lvL bb ox (qm 31) (7 * (n : Int))) [] a b Q := by
  intro m
  induction m with
  | zero =>
    intro n q J T M a b hq h hk hm
    have hk1 := hk.1; have hk2 := hk.2
    refine X.iload_n C dL_18 rfl 0 rfl ?_
    refine X.aload_n C dL_19 rfl 3 rfl ?_
    refine X.scl C hX dL_20 ?_
    refine X.bipush C dL_21 (by decide) ?_
    refine X.isub C dL_23 ?_
    exact X.icmp_gt (T := some 1) (F := some 0) (r := some (1 : Nat)) (tgt := 2541) C (bl_t (by omega) (by omega) (by have := h.1.n; omega)) dL_24 (by decide) (fun _ => E _ _ _ _ (by omega) (by omega)) (fun c => absurd c (by decide))
  | succ m ih =>
    intro n q J T M a b hq h hk hm
    have hk1 := hk.1; have hk2 := hk.2
    have hn0 := h.1.n
    refine X.iload_n C dL_18 rfl 0 rfl ?_
    refine X.aload_n C dL_19 rfl 3 rfl ?_
    refine X.scl C hX dL_20 ?_
    refine X.bipush C dL_21 (by decide) ?_
    refine X.isub C dL_23 ?_
    by_cases c : 7 * n + 7 ≤ L
    · have hn : n + 1 ≤ 512 := by omega
      have ha : a ≤ 600000 := by omega
      have hb : b ≤ 7302250 := by omega
      have hi : (0 : Int) ≤ 7 * (n : Int) := by omega
      have hL : 7 * (n : Int) + 6 < L := by omega
      have K0 : ∀ (q' : Nat → Nat → Nat) (J' : Nat → Bool) (T' : Nat → Ob) (M' : Ob) (a' b' : Nat), q' 11 31 = q 11 31 → Inv2 (n + 1) T' J' M' → Rk J' a' b' → X κ G 4 (WL G q' J' T' qm M') 2535 (lvL bb ox (qm 31) (7 * (n : Int))) [] a' b' Q := fun q' J' T' M' a' b' h1 h2 h3 => by
        refine X.iincN (f := fun x => some x) (r := some (7 * (n : Int) + 7)) (lv2 := fun x => lvL bb ox (qm 31) x) C rfl dL_2535 0 rfl (by decide) (fun _ => rfl) (fun x hx => ?_)
        cases hx
        refine X.goto (tgt := 18) C dL_2538 (by decide) ?_
        rw [show 7 * (n : Int) + 7 = 7 * ((n + 1 : Nat) : Int) from by omega]
        exact ih (n + 1) q' J' T' M' a' b' (h1.trans hq) h2 h3 (by omega)
      have K : ∀ T' M', Inv2 (n + 1) T' J M' → X κ G 4 (WL G q J T' qm M') 2535 (lvL bb (q 11 31) (qm 31) (7 * (n : Int))) [] a b Q := fun T' M' h2 => by
        rw [hq]; exact K0 q J T' M' a b rfl h2 hk
      refine X.icmp_gt (T := some 1) (F := some 0) (r := some (0 : Nat)) (tgt := 2541) C (bl_f (by omega) (by omega) (by omega)) dL_24 (by decide) (fun c => absurd c (by decide)) (fun _ => ?_)
      refine X.aload_n C dL_27 rfl 3 rfl ?_
      refine X.iload_n C dL_28 rfl 0 rfl ?_
      refine X.sld C hX (inb_t (by omega) (by omega) (by omega)) dL_29 ?_
      refine X.bipush C dL_30 (by decide) ?_
      refine X.iand C dL_32 ?_
      obtain ⟨z, hz⟩ : ∃ z, z = jan (xi xs (ix (7 * (n : Int)))) 127 := ⟨_, rfl⟩
      rw [← hz]
      rw [jan_127] at hz
      rw [← hq]
      by_cases cz : z ≤ 64
      · rcases (show z = 0 ∨ z = 1 ∨ z = 2 ∨ z = 3 ∨ z = 4 ∨ z = 5 ∨ z = 6 ∨ z = 7 ∨ z = 8 ∨ z = 9 ∨ z = 10 ∨ z = 11 ∨ z = 12 ∨ z = 13 ∨ z = 14 ∨ z = 15 ∨ z = 16 ∨ z = 17 ∨ z = 18 ∨ z = 19 ∨ z = 20 ∨ z = 21 ∨ z = 22 ∨ z = 23 ∨ z = 24 ∨ z = 25 ∨ z = 26 ∨ z = 27 ∨ z = 28 ∨ z = 29 ∨ z = 30 ∨ z = 31 ∨ z = 32 ∨ z = 33 ∨ z = 34 ∨ z = 35 ∨ z = 36 ∨ z = 37 ∨ z = 38 ∨ z = 39 ∨ z = 40 ∨ z = 41 ∨ z = 42 ∨ z = 43 ∨ z = 44 ∨ z = 45 ∨ z = 46 ∨ z = 47 ∨ z = 48 ∨ z = 49 ∨ z = 50 ∨ z = 51 ∨ z = 52 ∨ z = 53 ∨ z = 54 ∨ z = 55 ∨ z = 56 ∨ z = 57 ∨ z = 58 ∨ z = 59 ∨ z = 60 ∨ z = 61 ∨ z = 62 ∨ z = 63 ∨ z = 64 by omega) with e | e | e | e | e | e | e | e | e | e | e | e | e | e | e | e | e | e | e | e | e | e | e | e | e | e | e | e | e | e | e | e | e | e | e | e | e | e | e | e | e | e | e | e | e | e | e | e | e | e | e | e | e | e | e | e | e | e | e | e | e | e | e | e | e
        · rw [e]
          refine X.tableIn (off := 275) (tgt := 308) C dL_33 (by decide) (by decide) (by decide) (by decide) ?_
          exact lw_feed C hX h hn hi hL hL2 ha hb K
        · rw [e]
          refine X.tableIn (off := 338) (tgt := 371) C dL_33 (by decide) (by decide) (by decide) (by decide) ?_
          exact lw_end C hX h hn hi hL hL2 ha hb K
        · rw [e]
          refine X.tableIn (off := 361) (tgt := 394) C dL_33 (by decide) (by decide) (by decide) (by decide) ?_
          exact lw_square C hX h hn hi hL hL2 ha hb K
        · rw [e]
          refine X.tableIn (off := 374) (tgt := 407) C dL_33 (by decide) (by decide) (by decide) (by decide) ?_
          exact lw_fault C hX h hn hi hL hL2 ha hb K
        · rw [e]
          refine X.tableIn (off := 397) (tgt := 430) C dL_33 (by decide) (by decide) (by decide) (by decide) ?_
          exact lw_pace C hX h hn hi hL hL2 ha hb K
        · rw [e]
          refine X.tableIn (off := 420) (tgt := 453) C dL_33 (by decide) (by decide) (by decide) (by decide) ?_
          exact lw_blow C hX h hn hi hL hL2 ha hb K
        · rw [e]
          refine X.tableIn (off := 443) (tgt := 476) C dL_33 (by decide) (by decide) (by decide) (by decide) ?_
          exact lw_blows C hX h hn hi hL hL2 ha hb K
        · rw [e]
          refine X.tableIn (off := 476) (tgt := 509) C dL_33 (by decide) (by decide) (by decide) (by decide) ?_
          exact lw_day C hX h hn hi hL hL2 ha hb K
        · rw [e]
          refine X.tableIn (off := 499) (tgt := 532) C dL_33 (by decide) (by decide) (by decide) (by decide) ?_
          exact lw_wet C hX h hn hi hL hL2 ha hb K
        · rw [e]
          refine X.tableIn (off := 532) (tgt := 565) C dL_33 (by decide) (by decide) (by decide) (by decide) ?_
          exact lw_table C hX h hn hi hL hL2 ha hb K
        · rw [e]
          refine X.tableIn (off := 565) (tgt := 598) C dL_33 (by decide) (by decide) (by decide) (by decide) ?_
          exact lw_over C hX h hn hi hL hL2 ha hb K
        · rw [e]
          refine X.tableIn (off := 578) (tgt := 611) C dL_33 (by decide) (by decide) (by decide) (by decide) ?_
          exact lw_water C hX h hn hi hL hL2 ha hb K
        · rw [e]
          refine X.tableIn (off := 601) (tgt := 634) C dL_33 (by decide) (by decide) (by decide) (by decide) ?_
          exact lw_jet C hX h hn hi hL hL2 ha hb K
        · rw [e]
          refine X.tableIn (off := 624) (tgt := 657) C dL_33 (by decide) (by decide) (by decide) (by decide) ?_
          exact lw_lets C hX h hn hi hL hL2 ha hb K
        · rw [e]
          refine X.tableIn (off := 647) (tgt := 680) C dL_33 (by decide) (by decide) (by decide) (by decide) ?_
          exact lw_land C hX h hn hi hL hL2 ha hb K
        · rw [e]
          refine X.tableIn (off := 690) (tgt := 723) C dL_33 (by decide) (by decide) (by decide) (by decide) ?_
          exact lw_drift C hX h hn hi hL hL2 ha hb K
        · rw [e]
          refine X.tableIn (off := 733) (tgt := 766) C dL_33 (by decide) (by decide) (by decide) (by decide) ?_
          exact lw_stray C hX h hn hi hL hL2 ha hb K
        · rw [e]
          refine X.tableIn (off := 766) (tgt := 799) C dL_33 (by decide) (by decide) (by decide) (by decide) ?_
          exact lw_low C hX h hn hi hL hL2 ha hb K
        · rw [e]
          refine X.tableIn (off := 799) (tgt := 832) C dL_33 (by decide) (by decide) (by decide) (by decide) ?_
          exact lw_bound C hX h hn hi hL hL2 ha hb K
        · rw [e]
          refine X.tableIn (off := 832) (tgt := 865) C dL_33 (by decide) (by decide) (by decide) (by decide) ?_
          exact lw_reach C hX h hn hi hL hL2 ha hb K
        · rw [e]
          refine X.tableIn (off := 865) (tgt := 898) C dL_33 (by decide) (by decide) (by decide) (by decide) ?_
          exact lw_already C hX h hn hi hL hL2 ha hb K
        · rw [e]
          refine X.tableIn (off := 898) (tgt := 931) C dL_33 (by decide) (by decide) (by decide) (by decide) ?_
          exact lw_coming C hX h hn hi hL hL2 ha hb K
        · rw [e]
          refine X.tableIn (off := 921) (tgt := 954) C dL_33 (by decide) (by decide) (by decide) (by decide) ?_
          exact lw_worst C hX h hn hi hL hL2 ha hb K
        · rw [e]
          refine X.tableIn (off := 944) (tgt := 977) C dL_33 (by decide) (by decide) (by decide) (by decide) ?_
          exact lw_thought C hX h hn hi hL hL2 ha hb K
        · rw [e]
          refine X.tableIn (off := 977) (tgt := 1010) C dL_33 (by decide) (by decide) (by decide) (by decide) ?_
          exact lw_lagged C hX h hn hi hL hL2 ha hb K
        · rw [e]
          refine X.tableIn (off := 1020) (tgt := 1053) C dL_33 (by decide) (by decide) (by decide) (by decide) ?_
          exact lw_worth C hX h hn hi hL hL2 ha hb K
        · rw [e]
          refine X.tableIn (off := 1043) (tgt := 1076) C dL_33 (by decide) (by decide) (by decide) (by decide) ?_
          exact lw_most C hX h hn hi hL hL2 ha hb K
        · rw [e]
          refine X.tableIn (off := 1076) (tgt := 1109) C dL_33 (by decide) (by decide) (by decide) (by decide) ?_
          exact lw_rule C hX h hn hi hL hL2 ha hb K
        · rw [e]
          refine X.tableIn (off := 1099) (tgt := 1132) C dL_33 (by decide) (by decide) (by decide) (by decide) ?_
          exact lw_half C hX h hn hi hL hL2 ha hb K
        · rw [e]
          refine X.tableIn (off := 1132) (tgt := 1165) C dL_33 (by decide) (by decide) (by decide) (by decide) ?_
          exact lw_nozzle C hX h hn hi hL hL2 ha hb K
        · rw [e]
          refine X.tableIn (off := 1165) (tgt := 1198) C dL_33 (by decide) (by decide) (by decide) (by decide) ?_
          exact lw_fine C hX h hn hi hL hL2 ha hb K
        · rw [e]
          refine X.tableIn (off := 1208) (tgt := 1241) C dL_33 (by decide) (by decide) (by decide) (by decide) ?_
          exact lw_ice C hX h hn hi hL hL2 ha hb K
        · rw [e]
          refine X.tableIn (off := 1221) (tgt := 1254) C dL_33 (by decide) (by decide) (by decide) (by decide) ?_
          exact lw_shut C hX h hn hi hL hL2 ha hb K
        · rw [e]
          refine X.tableIn (off := 1254) (tgt := 1287) C dL_33 (by decide) (by decide) (by decide) (by decide) ?_
          exact lw_marks C hX h hn hi hL hL2 ha hb K
        · rw [e]
          refine X.tableIn (off := 1297) (tgt := 1330) C dL_33 (by decide) (by decide) (by decide) (by decide) ?_
          exact lw_span C hX h hn hi hL hL2 ha hb K
        · rw [e]
          refine X.tableIn (off := 1350) (tgt := 1383) C dL_33 (by decide) (by decide) (by decide) (by decide) ?_
          exact lw_where C hX h hn hi hL hL2 ha hb K
        · rw [e]
          refine X.tableIn (off := 1383) (tgt := 1416) C dL_33 (by decide) (by decide) (by decide) (by decide) ?_
          exact lw_move C hX h hn hi hL hL2 ha hb K
        · rw [e]
          refine X.tableIn (off := 1426) (tgt := 1459) C dL_33 (by decide) (by decide) (by decide) (by decide) ?_
          exact lw_bow C hX h hn hi hL hL2 ha hb K
        · rw [e]
          refine X.tableIn (off := 1469) (tgt := 1502) C dL_33 (by decide) (by decide) (by decide) (by decide) ?_
          exact lw_bows C hX h hn hi hL hL2 ha hb K
        · rw [e]
          refine X.tableIn (off := 1492) (tgt := 1525) C dL_33 (by decide) (by decide) (by decide) (by decide) ?_
          exact lw_mist C hX h hn hi hL hL2 ha hb K
        · rw [e]
          refine X.tableIn (off := 1525) (tgt := 1558) C dL_33 (by decide) (by decide) (by decide) (by decide) ?_
          exact lw_gusts C hX h hn hi hL hL2 ha hb K
        · rw [e]
          refine X.tableIn (off := 1578) (tgt := 1611) C dL_33 (by decide) (by decide) (by decide) (by decide) ?_
          exact lw_winds C hX h hn hi hL hL2 ha hb K
        · rw [e]
          refine X.tableIn (off := 1621) (tgt := 1654) C dL_33 (by decide) (by decide) (by decide) (by decide) ?_
          exact lw_two C hX h hn hi hL hL2 ha hb K
        · rw [e]
          refine X.tableIn (off := 1664) (tgt := 1697) C dL_33 (by decide) (by decide) (by decide) (by decide) ?_
          exact lw_climbs C hX h hn hi hL hL2 ha hb K
        · rw [e]
          refine X.tableIn (off := 1707) (tgt := 1740) C dL_33 (by decide) (by decide) (by decide) (by decide) ?_
          exact lw_wear C hX h hn hi hL hL2 ha hb K
        · rw [e]
          refine X.tableIn (off := 1730) (tgt := 1763) C dL_33 (by decide) (by decide) (by decide) (by decide) ?_
          exact lw_idle C hX h hn hi hL hL2 ha hb K
        · rw [e]
          refine X.tableIn (off := 1753) (tgt := 1786) C dL_33 (by decide) (by decide) (by decide) (by decide) ?_
          exact lw_first C hX h hn hi hL hL2 ha hb K
        · rw [e]
          refine X.tableIn (off := 1786) (tgt := 1819) C dL_33 (by decide) (by decide) (by decide) (by decide) ?_
          exact lw_last C hX h hn hi hL hL2 ha hb K
        · rw [e]
          refine X.tableIn (off := 1819) (tgt := 1852) C dL_33 (by decide) (by decide) (by decide) (by decide) ?_
          exact lw_sum C hX h hn hi hL hL2 ha hb K
        · rw [e]
          refine X.tableIn (off := 1872) (tgt := 1905) C dL_33 (by decide) (by decide) (by decide) (by decide) ?_
          exact lw_wettest C hX h hn hi hL hL2 ha hb K
        · rw [e]
          refine X.tableIn (off := 1895) (tgt := 1928) C dL_33 (by decide) (by decide) (by decide) (by decide) ?_
          exact lw_small C hX h hn hi hL hL2 ha hb K
        · rw [e]
          refine X.tableIn (off := 1938) (tgt := 1971) C dL_33 (by decide) (by decide) (by decide) (by decide) ?_
          exact lw_best C hX h hn hi hL hL2 ha hb K
        · rw [e]
          refine X.tableIn (off := 1961) (tgt := 1994) C dL_33 (by decide) (by decide) (by decide) (by decide) ?_
          exact lw_stand C hX h hn hi hL hL2 ha hb K
        · rw [e]
          refine X.tableIn (off := 1994) (tgt := 2027) C dL_33 (by decide) (by decide) (by decide) (by decide) ?_
          exact lw_tall C hX h hn hi hL hL2 ha hb K
        · rw [e]
          refine X.tableIn (off := 2027) (tgt := 2060) C dL_33 (by decide) (by decide) (by decide) (by decide) ?_
          exact lw_pays C hX h hn hi hL hL2 ha hb K
        · rw [e]
          refine X.tableIn (off := 2060) (tgt := 2093) C dL_33 (by decide) (by decide) (by decide) (by decide) ?_
          exact lw_dry C hX h hn hi hL hL2 ha hb K
        · rw [e]
          refine X.tableIn (off := 2083) (tgt := 2116) C dL_33 (by decide) (by decide) (by decide) (by decide) ?_
          exact lw_week C hX h hn hi hL hL2 ha hb K
        · rw [e]
          refine X.tableIn (off := 2126) (tgt := 2159) C dL_33 (by decide) (by decide) (by decide) (by decide) ?_
          exact lw_way C hX h hn hi hL hL2 ha hb K
        · rw [e]
          refine X.tableIn (off := 2179) (tgt := 2212) C dL_33 (by decide) (by decide) (by decide) (by decide) ?_
          exact lw_often C hX h hn hi hL hL2 ha hb K
        · rw [e]
          refine X.tableIn (off := 2254) (tgt := 2287) C dL_33 (by decide) (by decide) (by decide) (by decide) ?_
          exact lw_count C hX h hn hi hL hL2 ha hb K
        · rw [e]
          refine X.tableIn (off := 2277) (tgt := 2310) C dL_33 (by decide) (by decide) (by decide) (by decide) ?_
          exact lw_keep C hX h hn hi hL hL2 hk (fun q' J' T' M' a' b' h1 h2 h3 => by rw [hq]; exact K0 q' J' T' M' a' b' h1 h2 h3)
        · rw [e]
          refine X.tableIn (off := 2300) (tgt := 2333) C dL_33 (by decide) (by decide) (by decide) (by decide) ?_
          exact lw_back C hX h hn hi hL hL2 hk K
        · rw [e]
          refine X.tableIn (off := 2323) (tgt := 2356) C dL_33 (by decide) (by decide) (by decide) (by decide) ?_
          exact lw_row C hX h hn hi hL hL2 ha hb K
        · rw [e]
          refine X.tableIn (off := 2366) (tgt := 2399) C dL_33 (by decide) (by decide) (by decide) (by decide) ?_
          exact lw_write C hX h hn hi hL hL2 ha hb K
        · rw [e]
          refine X.tableIn (off := 2439) (tgt := 2472) C dL_33 (by decide) (by decide) (by decide) (by decide) ?_
          exact lw_paste C hX h hn hi hL hL2 ha hb K
      · refine X.tableOut (tgt := 2535) C dL_33 (Or.inr (by rw [toI (by omega) (by omega)]; omega)) (by decide) ?_
        exact K T M (h.next hn)
    · exact X.icmp_gt (T := some 1) (F := some 0) (r := some (1 : Nat)) (tgt := 2541) C (bl_t (by omega) (by omega) (by omega)) dL_24 (by decide) (fun _ => E _ _ _ _ (by omega) (by omega)) (fun c => absurd c (by decide))
end
set_option maxHeartbeats 4000000 in
set_option maxRecDepth 100000 in
/-- from the entry, for every script of at most 3584 ints, the law comes to its end with true -/
theorem whole_start {p : Program} {e : Env} {s : State} {m : MethodId} {below : List Frame} {meth : Method} {c : Code} (l : Launch) {b L : Nat} {xs : Nat → Int32} (hL : L ≤ 3584) (C0 : lw_At p s m meth c b L xs) : W p l e room_1 s m #[Value.ref b] below meth c s.heap [] 0 0 (lw_Z below #[Value.ref b] s) (entryFrame m ([Value.ref b] : List Value).toArray 4) := by
  obtain ⟨hx, hb, hr, hml, hown, hts, hX, hbl, hlocks, hgv⟩ := id C0
  obtain ⟨G, hK, hSF⟩ := law_world hts hgv
  obtain ⟨κ, hκ⟩ : ∃ κ : Kx, κ = (p, l, e, room_1, s, m, #[Value.ref b], below, meth, c, fun q : Nat => s.heap.size ≤ q) := ⟨_, rfl⟩
  have C : Cx κ G (yL meth.name) code ret 4 room_1 := by
    rw [hκ]
    exact ⟨hx, hb, hml, hown, fun w h => hts w (UW_in h), hr, hlocks, rfl, hK, fun q h => h, hSF, rfl⟩
  have hSc : Sc κ b L xs := by
    rw [hκ]
    exact ⟨hX, hbl, Nat.not_le.mpr hbl⟩
  have E : ∀ (ws : va_W) (lv : List (Nat × Value)) (a b2 : Nat), a ≤ 600000 → b2 ≤ 7302250 → X κ G 4 ws 2541 lv [] a b2 (lw_Z below #[Value.ref b] s) := fun ws lv a b2 h1 h2 => by
    refine X.iconst C dL_2541 ?_
    rw [hκ]
    exact fun H locs ls hP hD hS hl => va_forget hS.2.2 (W.widen h1 h2 (lw_ret hx hb hr hlocks dL_2542))
  have main : X κ G 4 [] 0 [(0, .ref b)] [] 0 0 (lw_Z below #[Value.ref b] s) := by
    refine X.newO (ci := 7) (fs := [.null, .null, .null, .null, .null, .null, .null]) C dL_0 lay_X7 tyX7_ok kl_L_7 nw_X7 in_X7 rfl (fun j hj => by
      rcases (show j = 0 ∨ j = 1 ∨ j = 2 ∨ j = 3 ∨ j = 4 ∨ j = 5 ∨ j = 6 by omega) with rfl | rfl | rfl | rfl | rfl | rfl | rfl <;> rfl) (Nat.le_of_ble_eq_true rfl) (Nat.le_of_ble_eq_true rfl) (fun o => ?_)
    refine X.dup C dL_3 rfl ?_
    refine X.callIT (As := []) (rest := [.ref o]) C dL_4 ml_L_9 mX7_init (kX7_init o) rfl rfl rfl rfl (fun W1 hW1 => ?_)
    obtain ⟨q, hq, hp⟩ := hW1
    subst hq
    refine X.permP (List.Perm.append_left _ hp) ?_
    refine X.astore_n (lv2 := [(1, .ref (q 11 31)), (0, .ref b)]) C dL_7 rfl (by decide) rfl ?_
    refine X.newO (ci := 8) (fs := [vi 0, .null, .null, .null, .null, vi 0, .null, vi 0, vi 0, vi 0, vi 0, vi 0, vi 0, vi 0, .null, .null, .null, .null, vi 0, vi 0, vi 0, vi 0, vi 0, .null, vl 0, .null, .null, .null, .null]) C dL_8 lay_X8 tyX8_ok kl_L_10 nw_X8 in_X8 rfl (fun j hj => by
      rcases (show j = 0 ∨ j = 1 ∨ j = 2 ∨ j = 3 ∨ j = 4 ∨ j = 5 ∨ j = 6 ∨ j = 7 ∨ j = 8 ∨ j = 9 ∨ j = 10 ∨ j = 11 ∨ j = 12 ∨ j = 13 ∨ j = 14 ∨ j = 15 ∨ j = 16 ∨ j = 17 ∨ j = 18 ∨ j = 19 ∨ j = 20 ∨ j = 21 ∨ j = 22 ∨ j = 23 ∨ j = 24 ∨ j = 25 ∨ j = 26 ∨ j = 27 ∨ j = 28 by omega) with rfl | rfl | rfl | rfl | rfl | rfl | rfl | rfl | rfl | rfl | rfl | rfl | rfl | rfl | rfl | rfl | rfl | rfl | rfl | rfl | rfl | rfl | rfl | rfl | rfl | rfl | rfl | rfl | rfl <;> rfl) (Nat.le_of_ble_eq_true rfl) (Nat.le_of_ble_eq_true rfl) (fun o2 => ?_)
    refine X.dup C dL_11 rfl ?_
    refine X.callIT (As := []) (rest := [.ref o2]) C dL_12 ml_L_12 mX8_init (kX8_init o2) rfl rfl rfl rfl (fun W2 hW2 => ?_)
    obtain ⟨qm, hq2, hp2⟩ := hW2
    subst hq2
    refine X.permP (List.Perm.append_left _ hp2) ?_
    refine X.astore_n (lv2 := [(2, .ref (qm 31)), (1, .ref (q 11 31)), (0, .ref b)]) C dL_15 rfl (by decide) rfl ?_
    refine X.iconst C dL_16 ?_
    refine X.istore_n (lv2 := lvL b (q 11 31) (qm 31) 0) C dL_17 rfl (by decide) rfl ?_
    refine X.eqw (ws2 := WL G q (fun _ => false) T0 qm mod0) (List.append_assoc (W_T G q T0) [(q 11 4, aQ (G.2.1 5) 3 (fun _ => none))] (W_M G qm mod0)) ?_
    exact law_loop C hSc hL E 513 0 q (fun _ => false) T0 mod0 _ _ rfl start_inv ⟨by decide, by decide⟩ (by omega)
  have hl := lv_entry ([.ref b]) (n := 4) (Nat.le_of_ble_eq_true rfl)
  rw [lg_entry_eq]
  rw [hκ] at main
  exact main s.heap [] _ (fun k q h => by simp at h) ⟨fun i j p q h => by simp at h, fun k q h => by simp at h⟩ va_S.rf hl
