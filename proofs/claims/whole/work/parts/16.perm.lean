/-! a world's cells in another order, by counting -/
theorem pick_of_perm {ws us : va_W} (h : ws.Perm us) : ∃ ps : List Nat, ps.Nodup ∧ ps.map (fun i => ws[i]?) = us.map some := by
  induction h with
  | nil => exact ⟨[], List.nodup_nil, rfl⟩
  | @cons x l1 l2 _ ih =>
    obtain ⟨ps, h1, h2⟩ := ih
    refine ⟨0 :: ps.map (fun i => i + 1), ?_, ?_⟩
    · rw [List.nodup_cons]
      refine ⟨fun hm => ?_, ?_⟩
      · obtain ⟨z, -, hz⟩ := List.mem_map.mp hm
        omega
      · rw [List.Nodup, List.pairwise_map]
        exact List.Pairwise.imp (fun h e => h (by omega)) h1
    · rw [List.map_cons, List.map_cons, List.map_map, ← h2]
      rfl
  | @swap x y l =>
    refine ⟨1 :: 0 :: (List.range l.length).map (fun i => i + 2), ?_, ?_⟩
    · have hr : ((List.range l.length).map (fun i => i + 2)).Nodup := nd_r _ _
      rw [List.nodup_cons, List.nodup_cons]
      refine ⟨fun hm => ?_, fun hm => ?_, hr⟩
      · rcases List.mem_cons.mp hm with e | hm
        · cases e
        · obtain ⟨z, -, hz⟩ := List.mem_map.mp hm
          omega
      · obtain ⟨z, -, hz⟩ := List.mem_map.mp hm
        omega
    · have hp := pick_r [y, x] l
      rw [List.map_cons, List.map_cons, List.map_cons, List.map_cons]
      show some x :: some y :: ((List.range l.length).map (fun i => i + 2)).map (fun i => (y :: x :: l)[i]?) = some x :: some y :: l.map some
      rw [← hp]
      rfl
  | @trans l1 l2 l3 _ _ ih1 ih2 =>
    obtain ⟨ps, h1, h2⟩ := ih1
    obtain ⟨qs, h3, h4⟩ := ih2
    have hlen : ps.length = l2.length := by
      have := congrArg List.length h2
      simpa using this
    have at2 : ∀ (j : Nat) (v : Nat × va_E), l2[j]? = some v → ∃ i : Nat, ps[j]? = some i ∧ l1[i]? = some v := by
      intro j v hv
      have h7 : (ps.map (fun i => l1[i]?))[j]? = some (some v) := by rw [h2, List.getElem?_map, hv]; rfl
      rw [List.getElem?_map] at h7
      cases hi : ps[j]? with
      | none => rw [hi] at h7; cases h7
      | some i => rw [hi] at h7; exact ⟨i, rfl, Option.some.inj h7⟩
    have hq : ∀ j ∈ qs, j < ps.length := by
      intro j hj
      obtain ⟨k, hk⟩ := List.mem_iff_getElem?.mp hj
      have h7 : (qs.map (fun i => l2[i]?))[k]? = (l3.map some)[k]? := by rw [h4]
      rw [List.getElem?_map, List.getElem?_map, hk] at h7
      cases h3k : l3[k]? with
      | none => rw [h3k] at h7; cases h7
      | some v =>
        rw [h3k] at h7
        have h8 : l2[j]? = some v := Option.some.inj h7
        rw [hlen]
        exact (List.getElem?_eq_some_iff.mp h8).1
    refine ⟨qs.map (fun j => ps.getD j 0), ?_, ?_⟩
    · rw [List.Nodup, List.pairwise_map]
      refine List.Pairwise.imp_of_mem ?_ h3
      intro x z hx hz hne e
      have hx1 := hq x hx
      have hz1 := hq z hz
      rw [List.getD_eq_getElem?_getD, List.getD_eq_getElem?_getD, List.getElem?_eq_getElem hx1, List.getElem?_eq_getElem hz1] at e
      refine hne ((List.getElem?_inj hx1 h1).mp ?_)
      rw [List.getElem?_eq_getElem hx1, List.getElem?_eq_getElem hz1]
      exact congrArg some e
    · rw [List.map_map, ← h4]
      apply List.map_congr_left
      intro j hj
      have hj1 := hq j hj
      have hj2 : j < l2.length := by omega
      obtain ⟨i, h5, h6⟩ := at2 j l2[j] (List.getElem?_eq_getElem hj2)
      show l1[ps.getD j 0]? = l2[j]?
      rw [List.getD_eq_getElem?_getD, h5, List.getElem?_eq_getElem hj2]
      exact h6
theorem Ln.ofPerm {ws W0 W1 ws2 : va_W} (Wr : va_W) (h1 : ws.Perm (Wr ++ W0)) (h2 : (Wr ++ W1).Perm ws2) : Ln ws W0 W1 ws2 := by
  obtain ⟨ps, a1, a2⟩ := pick_of_perm h1
  obtain ⟨qs, b1, b2⟩ := pick_of_perm h2
  rw [List.map_append] at a2
  have hl : ps.length = Wr.length + W0.length := by
    have := congrArg List.length a2
    simpa using this
  have c1 : (ps.take Wr.length).map (fun i => ws[i]?) = Wr.map some := by
    have := congrArg (List.take Wr.length) a2
    rw [← List.map_take, List.take_left' (by simp)] at this
    exact this
  have c2 : (ps.drop Wr.length).map (fun i => ws[i]?) = W0.map some := by
    have := congrArg (List.drop Wr.length) a2
    rw [← List.map_drop, List.drop_left' (by simp)] at this
    exact this
  have hnd : (ps.take Wr.length ++ ps.drop Wr.length).Nodup := by rw [List.take_append_drop]; exact a1
  rw [List.nodup_append] at hnd
  exact Ln.of (ps.drop Wr.length) (ps.take Wr.length) qs Wr (va_nd_of hnd.2.1) c2 c1 (va_nd_of hnd.1) (fun i hi hj => hnd.2.2 i hi i hj rfl) b2 (va_nd_of b1)
theorem perm_c {ws us : va_W} (h : ∀ (p : Nat × va_E → Bool), List.countP p ws = List.countP p us) : ws.Perm us := by
  have hd : DecidableEq (Nat × va_E) := Classical.typeDecidableEq _
  have : LawfulBEq (Nat × va_E) := inferInstance
  exact List.perm_iff_count.mpr (fun a => h (fun x => x == a))
