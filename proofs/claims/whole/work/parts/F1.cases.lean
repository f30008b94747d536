/-! the law: its cases -/
section
variable {κ : Kx} {G : GT} {nm : String} {ret : Option FieldType} {a b n : Nat} {Q : State → Prop} {bb L : Nat} {xs : Nat → Int32} {i : Int} {q : Nat → Nat → Nat} {J : Nat → Bool} {T : Nat → Ob} {qm : Nat → Nat} {M : Ob}
theorem lw_stray (C : Cx κ G (yL nm) code ret 4 room_1) (hX : Sc κ bb L xs) (h : Inv2 n T J M) (hn : n + 1 ≤ 512) (hi : 0 ≤ i) (hL : i + 6 < L) (hL2 : L ≤ 3584) (ha : a ≤ 600000) (hb : b ≤ 7302250) (K : ∀ T' M', Inv2 (n + 1) T' J M' → X κ G 4 (WL G q J T' qm M') 2535 (lvL bb (q 11 31) (qm 31) i) [] a b Q) : X κ G 4 (WL G q J T qm M) 766 (lvL bb (q 11 31) (qm 31) i) [] a b Q := by
  have e : Eqv (fX7_stray T (xi xs (i + 1).toNat) (xi xs (i + 2).toNat)) (fX8_stray M (xi xs (i + 1).toNat) (xi xs (i + 2).toNat)) := op_stray h.1 (xi_r xs _) (xi_r xs _)
  obtain ⟨r, e1, e2⟩ := e
  refine X.aload_n C dL_766 rfl 2 rfl ?_
  refine X.arg (k := 1) C hX hi (by decide) (by omega) hL2 dL_767 dL_768 dL_769 dL_770 dL_771 ?_
  refine X.arg (k := 2) C hX hi (by decide) (by omega) hL2 dL_772 dL_773 dL_774 dL_775 dL_776 ?_
  refine X.callC (T' := T) (r := r) (As := [vi (xi xs (i + 1).toNat), vi (xi xs (i + 2).toNat)]) (rest := []) C dL_777 ml_L_82 mX7_stray (kX7_stray q T (xi xs (i + 1).toNat) (xi xs (i + 2).toNat) _ e1) (fun _ _ => rfl) rfl rfl rfl rfl rfl ha hb ?_
  refine X.aload_n C dL_780 rfl 1 rfl ?_
  refine X.arg (k := 1) C hX hi (by decide) (by omega) hL2 dL_781 dL_782 dL_783 dL_784 dL_785 ?_
  refine X.arg (k := 2) C hX hi (by decide) (by omega) hL2 dL_786 dL_787 dL_788 dL_789 dL_790 ?_
  refine X.callM (M' := M) (r := r) (As := [vi (xi xs (i + 1).toNat), vi (xi xs (i + 2).toNat)]) (rest := [vi r]) C dL_791 ml_L_85 mX8_stray (kX8_stray qm M (xi xs (i + 1).toNat) (xi xs (i + 2).toNat) _ e2) rfl rfl rfl rfl rfl ha hb ?_
  exact X.same (tgt := 2535) C dL_794 (by decide) (K T M (h.next hn))
theorem lw_low (C : Cx κ G (yL nm) code ret 4 room_1) (hX : Sc κ bb L xs) (h : Inv2 n T J M) (hn : n + 1 ≤ 512) (hi : 0 ≤ i) (hL : i + 6 < L) (hL2 : L ≤ 3584) (ha : a ≤ 600000) (hb : b ≤ 7302250) (K : ∀ T' M', Inv2 (n + 1) T' J M' → X κ G 4 (WL G q J T' qm M') 2535 (lvL bb (q 11 31) (qm 31) i) [] a b Q) : X κ G 4 (WL G q J T qm M) 799 (lvL bb (q 11 31) (qm 31) i) [] a b Q := by
  have e : Eqv (fX7_low T (xi xs (i + 1).toNat) (xi xs (i + 2).toNat)) (fX8_low M (xi xs (i + 1).toNat) (xi xs (i + 2).toNat)) := op_low h.1 (xi_r xs _) (xi_r xs _)
  obtain ⟨r, e1, e2⟩ := e
  refine X.aload_n C dL_799 rfl 2 rfl ?_
  refine X.arg (k := 1) C hX hi (by decide) (by omega) hL2 dL_800 dL_801 dL_802 dL_803 dL_804 ?_
  refine X.arg (k := 2) C hX hi (by decide) (by omega) hL2 dL_805 dL_806 dL_807 dL_808 dL_809 ?_
  refine X.callC (T' := T) (r := r) (As := [vi (xi xs (i + 1).toNat), vi (xi xs (i + 2).toNat)]) (rest := []) C dL_810 ml_L_86 mX7_low (kX7_low q T (xi xs (i + 1).toNat) (xi xs (i + 2).toNat) _ e1) (fun _ _ => rfl) rfl rfl rfl rfl rfl ha hb ?_
  refine X.aload_n C dL_813 rfl 1 rfl ?_
  refine X.arg (k := 1) C hX hi (by decide) (by omega) hL2 dL_814 dL_815 dL_816 dL_817 dL_818 ?_
  refine X.arg (k := 2) C hX hi (by decide) (by omega) hL2 dL_819 dL_820 dL_821 dL_822 dL_823 ?_
  refine X.callM (M' := M) (r := r) (As := [vi (xi xs (i + 1).toNat), vi (xi xs (i + 2).toNat)]) (rest := [vi r]) C dL_824 ml_L_89 mX8_low (kX8_low qm M (xi xs (i + 1).toNat) (xi xs (i + 2).toNat) _ e2) rfl rfl rfl rfl rfl ha hb ?_
  exact X.same (tgt := 2535) C dL_827 (by decide) (K T M (h.next hn))
theorem lw_bound (C : Cx κ G (yL nm) code ret 4 room_1) (hX : Sc κ bb L xs) (h : Inv2 n T J M) (hn : n + 1 ≤ 512) (hi : 0 ≤ i) (hL : i + 6 < L) (hL2 : L ≤ 3584) (ha : a ≤ 600000) (hb : b ≤ 7302250) (K : ∀ T' M', Inv2 (n + 1) T' J M' → X κ G 4 (WL G q J T' qm M') 2535 (lvL bb (q 11 31) (qm 31) i) [] a b Q) : X κ G 4 (WL G q J T qm M) 832 (lvL bb (q 11 31) (qm 31) i) [] a b Q := by
  have e : Eqv (fX7_bound T (xi xs (i + 1).toNat) (xi xs (i + 2).toNat)) (fX8_bound M (xi xs (i + 1).toNat) (xi xs (i + 2).toNat)) := op_bound h.1 (xi_r xs _) (xi_r xs _)
  obtain ⟨r, e1, e2⟩ := e
  refine X.aload_n C dL_832 rfl 2 rfl ?_
  refine X.arg (k := 1) C hX hi (by decide) (by omega) hL2 dL_833 dL_834 dL_835 dL_836 dL_837 ?_
  refine X.arg (k := 2) C hX hi (by decide) (by omega) hL2 dL_838 dL_839 dL_840 dL_841 dL_842 ?_
  refine X.callC (T' := T) (r := r) (As := [vi (xi xs (i + 1).toNat), vi (xi xs (i + 2).toNat)]) (rest := []) C dL_843 ml_L_90 mX7_bound (kX7_bound q T (xi xs (i + 1).toNat) (xi xs (i + 2).toNat) _ e1) (fun _ _ => rfl) rfl rfl rfl rfl rfl ha hb ?_
  refine X.aload_n C dL_846 rfl 1 rfl ?_
  refine X.arg (k := 1) C hX hi (by decide) (by omega) hL2 dL_847 dL_848 dL_849 dL_850 dL_851 ?_
  refine X.arg (k := 2) C hX hi (by decide) (by omega) hL2 dL_852 dL_853 dL_854 dL_855 dL_856 ?_
  refine X.callM (M' := M) (r := r) (As := [vi (xi xs (i + 1).toNat), vi (xi xs (i + 2).toNat)]) (rest := [vi r]) C dL_857 ml_L_93 mX8_bound (kX8_bound qm M (xi xs (i + 1).toNat) (xi xs (i + 2).toNat) _ e2) rfl rfl rfl rfl rfl ha hb ?_
  exact X.same (tgt := 2535) C dL_860 (by decide) (K T M (h.next hn))
theorem lw_reach (C : Cx κ G (yL nm) code ret 4 room_1) (hX : Sc κ bb L xs) (h : Inv2 n T J M) (hn : n + 1 ≤ 512) (hi : 0 ≤ i) (hL : i + 6 < L) (hL2 : L ≤ 3584) (ha : a ≤ 600000) (hb : b ≤ 7302250) (K : ∀ T' M', Inv2 (n + 1) T' J M' → X κ G 4 (WL G q J T' qm M') 2535 (lvL bb (q 11 31) (qm 31) i) [] a b Q) : X κ G 4 (WL G q J T qm M) 865 (lvL bb (q 11 31) (qm 31) i) [] a b Q := by
  have e : Eqv (fX7_reach T (xi xs (i + 1).toNat) (xi xs (i + 2).toNat)) (fX8_reach M (xi xs (i + 1).toNat) (xi xs (i + 2).toNat)) := op_reach h.1 (xi_r xs _) (xi_r xs _)
  obtain ⟨r, e1, e2⟩ := e
  refine X.aload_n C dL_865 rfl 2 rfl ?_
  refine X.arg (k := 1) C hX hi (by decide) (by omega) hL2 dL_866 dL_867 dL_868 dL_869 dL_870 ?_
  refine X.arg (k := 2) C hX hi (by decide) (by omega) hL2 dL_871 dL_872 dL_873 dL_874 dL_875 ?_
  refine X.callC (T' := T) (r := r) (As := [vi (xi xs (i + 1).toNat), vi (xi xs (i + 2).toNat)]) (rest := []) C dL_876 ml_L_94 mX7_reach (kX7_reach q T (xi xs (i + 1).toNat) (xi xs (i + 2).toNat) _ e1) (fun _ _ => rfl) rfl rfl rfl rfl rfl ha hb ?_
  refine X.aload_n C dL_879 rfl 1 rfl ?_
  refine X.arg (k := 1) C hX hi (by decide) (by omega) hL2 dL_880 dL_881 dL_882 dL_883 dL_884 ?_
  refine X.arg (k := 2) C hX hi (by decide) (by omega) hL2 dL_885 dL_886 dL_887 dL_888 dL_889 ?_
  refine X.callM (M' := M) (r := r) (As := [vi (xi xs (i + 1).toNat), vi (xi xs (i + 2).toNat)]) (rest := [vi r]) C dL_890 ml_L_97 mX8_reach (kX8_reach qm M (xi xs (i + 1).toNat) (xi xs (i + 2).toNat) _ e2) rfl rfl rfl rfl rfl ha hb ?_
  exact X.same (tgt := 2535) C dL_893 (by decide) (K T M (h.next hn))
theorem lw_already (C : Cx κ G (yL nm) code ret 4 room_1) (hX : Sc κ bb L xs) (h : Inv2 n T J M) (hn : n + 1 ≤ 512) (hi : 0 ≤ i) (hL : i + 6 < L) (hL2 : L ≤ 3584) (ha : a ≤ 600000) (hb : b ≤ 7302250) (K : ∀ T' M', Inv2 (n + 1) T' J M' → X κ G 4 (WL G q J T' qm M') 2535 (lvL bb (q 11 31) (qm 31) i) [] a b Q) : X κ G 4 (WL G q J T qm M) 898 (lvL bb (q 11 31) (qm 31) i) [] a b Q := by
  have e : Eqv (fX7_already T (xi xs (i + 1).toNat) (xi xs (i + 2).toNat)) (fX8_already M (xi xs (i + 1).toNat) (xi xs (i + 2).toNat)) := op_already h.1 (xi_r xs _) (xi_r xs _)
  obtain ⟨r, e1, e2⟩ := e
  refine X.aload_n C dL_898 rfl 2 rfl ?_
  refine X.arg (k := 1) C hX hi (by decide) (by omega) hL2 dL_899 dL_900 dL_901 dL_902 dL_903 ?_
  refine X.arg (k := 2) C hX hi (by decide) (by omega) hL2 dL_904 dL_905 dL_906 dL_907 dL_908 ?_
  refine X.callC (T' := T) (r := r) (As := [vi (xi xs (i + 1).toNat), vi (xi xs (i + 2).toNat)]) (rest := []) C dL_909 ml_L_98 mX7_already (kX7_already q T (xi xs (i + 1).toNat) (xi xs (i + 2).toNat) _ e1) (fun _ _ => rfl) rfl rfl rfl rfl rfl ha hb ?_
  refine X.aload_n C dL_912 rfl 1 rfl ?_
  refine X.arg (k := 1) C hX hi (by decide) (by omega) hL2 dL_913 dL_914 dL_915 dL_916 dL_917 ?_
  refine X.arg (k := 2) C hX hi (by decide) (by omega) hL2 dL_918 dL_919 dL_920 dL_921 dL_922 ?_
  refine X.callM (M' := M) (r := r) (As := [vi (xi xs (i + 1).toNat), vi (xi xs (i + 2).toNat)]) (rest := [vi r]) C dL_923 ml_L_101 mX8_already (kX8_already qm M (xi xs (i + 1).toNat) (xi xs (i + 2).toNat) _ e2) rfl rfl rfl rfl rfl ha hb ?_
  exact X.same (tgt := 2535) C dL_926 (by decide) (K T M (h.next hn))
theorem lw_coming (C : Cx κ G (yL nm) code ret 4 room_1) (hX : Sc κ bb L xs) (h : Inv2 n T J M) (hn : n + 1 ≤ 512) (hi : 0 ≤ i) (hL : i + 6 < L) (hL2 : L ≤ 3584) (ha : a ≤ 600000) (hb : b ≤ 7302250) (K : ∀ T' M', Inv2 (n + 1) T' J M' → X κ G 4 (WL G q J T' qm M') 2535 (lvL bb (q 11 31) (qm 31) i) [] a b Q) : X κ G 4 (WL G q J T qm M) 931 (lvL bb (q 11 31) (qm 31) i) [] a b Q := by
  have e : Eqv (fX7_coming T (xi xs (i + 1).toNat)) (fX8_coming M (xi xs (i + 1).toNat)) := op_coming h.1 (xi_r xs _)
  obtain ⟨r, e1, e2⟩ := e
  refine X.aload_n C dL_931 rfl 2 rfl ?_
  refine X.arg (k := 1) C hX hi (by decide) (by omega) hL2 dL_932 dL_933 dL_934 dL_935 dL_936 ?_
  refine X.callC (T' := T) (r := r) (As := [vi (xi xs (i + 1).toNat)]) (rest := []) C dL_937 ml_L_102 mX7_coming (kX7_coming q T (xi xs (i + 1).toNat) _ e1) (fun _ _ => rfl) rfl rfl rfl rfl rfl ha hb ?_
  refine X.aload_n C dL_940 rfl 1 rfl ?_
  refine X.arg (k := 1) C hX hi (by decide) (by omega) hL2 dL_941 dL_942 dL_943 dL_944 dL_945 ?_
  refine X.callM (M' := M) (r := r) (As := [vi (xi xs (i + 1).toNat)]) (rest := [vi r]) C dL_946 ml_L_105 mX8_coming (kX8_coming qm M (xi xs (i + 1).toNat) _ e2) rfl rfl rfl rfl rfl ha hb ?_
  exact X.same (tgt := 2535) C dL_949 (by decide) (K T M (h.next hn))
theorem lw_worst (C : Cx κ G (yL nm) code ret 4 room_1) (hX : Sc κ bb L xs) (h : Inv2 n T J M) (hn : n + 1 ≤ 512) (hi : 0 ≤ i) (hL : i + 6 < L) (hL2 : L ≤ 3584) (ha : a ≤ 600000) (hb : b ≤ 7302250) (K : ∀ T' M', Inv2 (n + 1) T' J M' → X κ G 4 (WL G q J T' qm M') 2535 (lvL bb (q 11 31) (qm 31) i) [] a b Q) : X κ G 4 (WL G q J T qm M) 954 (lvL bb (q 11 31) (qm 31) i) [] a b Q := by
  have e : Eqv (fX7_worst T (xi xs (i + 1).toNat)) (fX8_worst M (xi xs (i + 1).toNat)) := op_worst h.1 (xi_r xs _)
  obtain ⟨r, e1, e2⟩ := e
  refine X.aload_n C dL_954 rfl 2 rfl ?_
  refine X.arg (k := 1) C hX hi (by decide) (by omega) hL2 dL_955 dL_956 dL_957 dL_958 dL_959 ?_
  refine X.callC (T' := T) (r := r) (As := [vi (xi xs (i + 1).toNat)]) (rest := []) C dL_960 ml_L_106 mX7_worst (kX7_worst q T (xi xs (i + 1).toNat) _ e1) (fun _ _ => rfl) rfl rfl rfl rfl rfl ha hb ?_
  refine X.aload_n C dL_963 rfl 1 rfl ?_
  refine X.arg (k := 1) C hX hi (by decide) (by omega) hL2 dL_964 dL_965 dL_966 dL_967 dL_968 ?_
  refine X.callM (M' := M) (r := r) (As := [vi (xi xs (i + 1).toNat)]) (rest := [vi r]) C dL_969 ml_L_109 mX8_worst (kX8_worst qm M (xi xs (i + 1).toNat) _ e2) rfl rfl rfl rfl rfl ha hb ?_
  exact X.same (tgt := 2535) C dL_972 (by decide) (K T M (h.next hn))
theorem lw_thought (C : Cx κ G (yL nm) code ret 4 room_1) (hX : Sc κ bb L xs) (h : Inv2 n T J M) (hn : n + 1 ≤ 512) (hi : 0 ≤ i) (hL : i + 6 < L) (hL2 : L ≤ 3584) (ha : a ≤ 600000) (hb : b ≤ 7302250) (K : ∀ T' M', Inv2 (n + 1) T' J M' → X κ G 4 (WL G q J T' qm M') 2535 (lvL bb (q 11 31) (qm 31) i) [] a b Q) : X κ G 4 (WL G q J T qm M) 977 (lvL bb (q 11 31) (qm 31) i) [] a b Q := by
  have e : Nx n T J (fX7_thought T (xi xs (i + 1).toNat) (xi xs (i + 2).toNat)) (fX8_thought M (xi xs (i + 1).toNat) (xi xs (i + 2).toNat)) := (op_thought h.1 (xi_r xs _) (xi_r xs _) : Ef T M (fX7_thought T (xi xs (i + 1).toNat) (xi xs (i + 2).toNat)) (fX8_thought M (xi xs (i + 1).toNat) (xi xs (i + 2).toNat))).nx h hn
  obtain ⟨r, T', M', e1, e2, e3, e4⟩ := e
  refine X.aload_n C dL_977 rfl 2 rfl ?_
  refine X.arg (k := 1) C hX hi (by decide) (by omega) hL2 dL_978 dL_979 dL_980 dL_981 dL_982 ?_
  refine X.arg (k := 2) C hX hi (by decide) (by omega) hL2 dL_983 dL_984 dL_985 dL_986 dL_987 ?_
  refine X.callC (T' := T') (r := r) (As := [vi (xi xs (i + 1).toNat), vi (xi xs (i + 2).toNat)]) (rest := []) C dL_988 ml_L_110 mX7_thought (kX7_thought q T (xi xs (i + 1).toNat) (xi xs (i + 2).toNat) _ e1) e4 rfl rfl rfl rfl rfl ha hb ?_
  refine X.aload_n C dL_991 rfl 1 rfl ?_
  refine X.arg (k := 1) C hX hi (by decide) (by omega) hL2 dL_992 dL_993 dL_994 dL_995 dL_996 ?_
  refine X.arg (k := 2) C hX hi (by decide) (by omega) hL2 dL_997 dL_998 dL_999 dL_1000 dL_1001 ?_
  refine X.callM (M' := M') (r := r) (As := [vi (xi xs (i + 1).toNat), vi (xi xs (i + 2).toNat)]) (rest := [vi r]) C dL_1002 ml_L_113 mX8_thought (kX8_thought qm M (xi xs (i + 1).toNat) (xi xs (i + 2).toNat) _ e2) rfl rfl rfl rfl rfl ha hb ?_
  exact X.same (tgt := 2535) C dL_1005 (by decide) (K T' M' e3)
theorem lw_lagged (C : Cx κ G (yL nm) code ret 4 room_1) (hX : Sc κ bb L xs) (h : Inv2 n T J M) (hn : n + 1 ≤ 512) (hi : 0 ≤ i) (hL : i + 6 < L) (hL2 : L ≤ 3584) (ha : a ≤ 600000) (hb : b ≤ 7302250) (K : ∀ T' M', Inv2 (n + 1) T' J M' → X κ G 4 (WL G q J T' qm M') 2535 (lvL bb (q 11 31) (qm 31) i) [] a b Q) : X κ G 4 (WL G q J T qm M) 1010 (lvL bb (q 11 31) (qm 31) i) [] a b Q := by
  have e : Nx n T J (fX7_lagged T (xi xs (i + 1).toNat) (xi xs (i + 2).toNat) (xi xs (i + 3).toNat)) (fX8_lagged M (xi xs (i + 1).toNat) (xi xs (i + 2).toNat) (xi xs (i + 3).toNat)) := (op_lagged h.1 (xi_r xs _) (xi_r xs _) (xi_r xs _) : Ef T M (fX7_lagged T (xi xs (i + 1).toNat) (xi xs (i + 2).toNat) (xi xs (i + 3).toNat)) (fX8_lagged M (xi xs (i + 1).toNat) (xi xs (i + 2).toNat) (xi xs (i + 3).toNat))).nx h hn
  obtain ⟨r, T', M', e1, e2, e3, e4⟩ := e
  refine X.aload_n C dL_1010 rfl 2 rfl ?_
  refine X.arg (k := 1) C hX hi (by decide) (by omega) hL2 dL_1011 dL_1012 dL_1013 dL_1014 dL_1015 ?_
  refine X.arg (k := 2) C hX hi (by decide) (by omega) hL2 dL_1016 dL_1017 dL_1018 dL_1019 dL_1020 ?_
  refine X.arg (k := 3) C hX hi (by decide) (by omega) hL2 dL_1021 dL_1022 dL_1023 dL_1024 dL_1025 ?_
  refine X.callC (T' := T') (r := r) (As := [vi (xi xs (i + 1).toNat), vi (xi xs (i + 2).toNat), vi (xi xs (i + 3).toNat)]) (rest := []) C dL_1026 ml_L_114 mX7_lagged (kX7_lagged q T (xi xs (i + 1).toNat) (xi xs (i + 2).toNat) (xi xs (i + 3).toNat) _ e1) e4 rfl rfl rfl rfl rfl ha hb ?_
  refine X.aload_n C dL_1029 rfl 1 rfl ?_
  refine X.arg (k := 1) C hX hi (by decide) (by omega) hL2 dL_1030 dL_1031 dL_1032 dL_1033 dL_1034 ?_
  refine X.arg (k := 2) C hX hi (by decide) (by omega) hL2 dL_1035 dL_1036 dL_1037 dL_1038 dL_1039 ?_
  refine X.arg (k := 3) C hX hi (by decide) (by omega) hL2 dL_1040 dL_1041 dL_1042 dL_1043 dL_1044 ?_
  refine X.callM (M' := M') (r := r) (As := [vi (xi xs (i + 1).toNat), vi (xi xs (i + 2).toNat), vi (xi xs (i + 3).toNat)]) (rest := [vi r]) C dL_1045 ml_L_117 mX8_lagged (kX8_lagged qm M (xi xs (i + 1).toNat) (xi xs (i + 2).toNat) (xi xs (i + 3).toNat) _ e2) rfl rfl rfl rfl rfl ha hb ?_
  exact X.same (tgt := 2535) C dL_1048 (by decide) (K T' M' e3)
theorem lw_worth (C : Cx κ G (yL nm) code ret 4 room_1) (hX : Sc κ bb L xs) (h : Inv2 n T J M) (hn : n + 1 ≤ 512) (hi : 0 ≤ i) (hL : i + 6 < L) (hL2 : L ≤ 3584) (ha : a ≤ 600000) (hb : b ≤ 7302250) (K : ∀ T' M', Inv2 (n + 1) T' J M' → X κ G 4 (WL G q J T' qm M') 2535 (lvL bb (q 11 31) (qm 31) i) [] a b Q) : X κ G 4 (WL G q J T qm M) 1053 (lvL bb (q 11 31) (qm 31) i) [] a b Q := by
  have e : Nx n T J (fX7_worth T (xi xs (i + 1).toNat)) (fX8_worth M (xi xs (i + 1).toNat)) := (op_worth h.1 (xi_r xs _) : Ef T M (fX7_worth T (xi xs (i + 1).toNat)) (fX8_worth M (xi xs (i + 1).toNat))).nx h hn
  obtain ⟨r, T', M', e1, e2, e3, e4⟩ := e
  refine X.aload_n C dL_1053 rfl 2 rfl ?_
  refine X.arg (k := 1) C hX hi (by decide) (by omega) hL2 dL_1054 dL_1055 dL_1056 dL_1057 dL_1058 ?_
  refine X.callC (T' := T') (r := r) (As := [vi (xi xs (i + 1).toNat)]) (rest := []) C dL_1059 ml_L_118 mX7_worth (kX7_worth q T (xi xs (i + 1).toNat) _ e1) e4 rfl rfl rfl rfl rfl ha hb ?_
  refine X.aload_n C dL_1062 rfl 1 rfl ?_
  refine X.arg (k := 1) C hX hi (by decide) (by omega) hL2 dL_1063 dL_1064 dL_1065 dL_1066 dL_1067 ?_
  refine X.callM (M' := M') (r := r) (As := [vi (xi xs (i + 1).toNat)]) (rest := [vi r]) C dL_1068 ml_L_121 mX8_worth (kX8_worth qm M (xi xs (i + 1).toNat) _ e2) rfl rfl rfl rfl rfl ha hb ?_
  exact X.same (tgt := 2535) C dL_1071 (by decide) (K T' M' e3)
theorem lw_most (C : Cx κ G (yL nm) code ret 4 room_1) (hX : Sc κ bb L xs) (h : Inv2 n T J M) (hn : n + 1 ≤ 512) (hi : 0 ≤ i) (hL : i + 6 < L) (hL2 : L ≤ 3584) (ha : a ≤ 600000) (hb : b ≤ 7302250) (K : ∀ T' M', Inv2 (n + 1) T' J M' → X κ G 4 (WL G q J T' qm M') 2535 (lvL bb (q 11 31) (qm 31) i) [] a b Q) : X κ G 4 (WL G q J T qm M) 1076 (lvL bb (q 11 31) (qm 31) i) [] a b Q := by
  have e : Nx n T J (fX7_most T (xi xs (i + 1).toNat) (xi xs (i + 2).toNat)) (fX8_most M (xi xs (i + 1).toNat) (xi xs (i + 2).toNat)) := (op_most h.1 (xi_r xs _) (xi_r xs _) : Ef T M (fX7_most T (xi xs (i + 1).toNat) (xi xs (i + 2).toNat)) (fX8_most M (xi xs (i + 1).toNat) (xi xs (i + 2).toNat))).nx h hn
  obtain ⟨r, T', M', e1, e2, e3, e4⟩ := e
  refine X.aload_n C dL_1076 rfl 2 rfl ?_
  refine X.arg (k := 1) C hX hi (by decide) (by omega) hL2 dL_1077 dL_1078 dL_1079 dL_1080 dL_1081 ?_
  refine X.arg (k := 2) C hX hi (by decide) (by omega) hL2 dL_1082 dL_1083 dL_1084 dL_1085 dL_1086 ?_
  refine X.callC (T' := T') (r := r) (As := [vi (xi xs (i + 1).toNat), vi (xi xs (i + 2).toNat)]) (rest := []) C dL_1087 ml_L_122 mX7_most (kX7_most q T (xi xs (i + 1).toNat) (xi xs (i + 2).toNat) _ e1) e4 rfl rfl rfl rfl rfl ha hb ?_
  refine X.aload_n C dL_1090 rfl 1 rfl ?_
  refine X.arg (k := 1) C hX hi (by decide) (by omega) hL2 dL_1091 dL_1092 dL_1093 dL_1094 dL_1095 ?_
  refine X.arg (k := 2) C hX hi (by decide) (by omega) hL2 dL_1096 dL_1097 dL_1098 dL_1099 dL_1100 ?_
  refine X.callM (M' := M') (r := r) (As := [vi (xi xs (i + 1).toNat), vi (xi xs (i + 2).toNat)]) (rest := [vi r]) C dL_1101 ml_L_125 mX8_most (kX8_most qm M (xi xs (i + 1).toNat) (xi xs (i + 2).toNat) _ e2) rfl rfl rfl rfl rfl ha hb ?_
  exact X.same (tgt := 2535) C dL_1104 (by decide) (K T' M' e3)
theorem lw_rule (C : Cx κ G (yL nm) code ret 4 room_1) (hX : Sc κ bb L xs) (h : Inv2 n T J M) (hn : n + 1 ≤ 512) (hi : 0 ≤ i) (hL : i + 6 < L) (hL2 : L ≤ 3584) (ha : a ≤ 600000) (hb : b ≤ 7302250) (K : ∀ T' M', Inv2 (n + 1) T' J M' → X κ G 4 (WL G q J T' qm M') 2535 (lvL bb (q 11 31) (qm 31) i) [] a b Q) : X κ G 4 (WL G q J T qm M) 1109 (lvL bb (q 11 31) (qm 31) i) [] a b Q := by
  have e : Nx n T J (fX7_rule T (xi xs (i + 1).toNat)) (fX8_rule M (xi xs (i + 1).toNat)) := (op_rule h.1 (xi_r xs _) : Ef T M (fX7_rule T (xi xs (i + 1).toNat)) (fX8_rule M (xi xs (i + 1).toNat))).nx h hn
  obtain ⟨r, T', M', e1, e2, e3, e4⟩ := e
  refine X.aload_n C dL_1109 rfl 2 rfl ?_
  refine X.arg (k := 1) C hX hi (by decide) (by omega) hL2 dL_1110 dL_1111 dL_1112 dL_1113 dL_1114 ?_
  refine X.callC (T' := T') (r := r) (As := [vi (xi xs (i + 1).toNat)]) (rest := []) C dL_1115 ml_L_126 mX7_rule (kX7_rule q T (xi xs (i + 1).toNat) _ e1) e4 rfl rfl rfl rfl rfl ha hb ?_
  refine X.aload_n C dL_1118 rfl 1 rfl ?_
  refine X.arg (k := 1) C hX hi (by decide) (by omega) hL2 dL_1119 dL_1120 dL_1121 dL_1122 dL_1123 ?_
  refine X.callM (M' := M') (r := r) (As := [vi (xi xs (i + 1).toNat)]) (rest := [vi r]) C dL_1124 ml_L_129 mX8_rule (kX8_rule qm M (xi xs (i + 1).toNat) _ e2) rfl rfl rfl rfl rfl ha hb ?_
  exact X.same (tgt := 2535) C dL_1127 (by decide) (K T' M' e3)
theorem lw_half (C : Cx κ G (yL nm) code ret 4 room_1) (hX : Sc κ bb L xs) (h : Inv2 n T J M) (hn : n + 1 ≤ 512) (hi : 0 ≤ i) (hL : i + 6 < L) (hL2 : L ≤ 3584) (ha : a ≤ 600000) (hb : b ≤ 7302250) (K : ∀ T' M', Inv2 (n + 1) T' J M' → X κ G 4 (WL G q J T' qm M') 2535 (lvL bb (q 11 31) (qm 31) i) [] a b Q) : X κ G 4 (WL G q J T qm M) 1132 (lvL bb (q 11 31) (qm 31) i) [] a b Q := by
  have e : Nx n T J (fX7_half T (xi xs (i + 1).toNat) (xi xs (i + 2).toNat)) (fX8_half M (xi xs (i + 1).toNat) (xi xs (i + 2).toNat)) := (op_half h.1 (xi_r xs _) (xi_r xs _) : Ef T M (fX7_half T (xi xs (i + 1).toNat) (xi xs (i + 2).toNat)) (fX8_half M (xi xs (i + 1).toNat) (xi xs (i + 2).toNat))).nx h hn
  obtain ⟨r, T', M', e1, e2, e3, e4⟩ := e
  refine X.aload_n C dL_1132 rfl 2 rfl ?_
  refine X.arg (k := 1) C hX hi (by decide) (by omega) hL2 dL_1133 dL_1134 dL_1135 dL_1136 dL_1137 ?_
  refine X.arg (k := 2) C hX hi (by decide) (by omega) hL2 dL_1138 dL_1139 dL_1140 dL_1141 dL_1142 ?_
  refine X.callC (T' := T') (r := r) (As := [vi (xi xs (i + 1).toNat), vi (xi xs (i + 2).toNat)]) (rest := []) C dL_1143 ml_L_130 mX7_half (kX7_half q T (xi xs (i + 1).toNat) (xi xs (i + 2).toNat) _ e1) e4 rfl rfl rfl rfl rfl ha hb ?_
  refine X.aload_n C dL_1146 rfl 1 rfl ?_
  refine X.arg (k := 1) C hX hi (by decide) (by omega) hL2 dL_1147 dL_1148 dL_1149 dL_1150 dL_1151 ?_
  refine X.arg (k := 2) C hX hi (by decide) (by omega) hL2 dL_1152 dL_1153 dL_1154 dL_1155 dL_1156 ?_
  refine X.callM (M' := M') (r := r) (As := [vi (xi xs (i + 1).toNat), vi (xi xs (i + 2).toNat)]) (rest := [vi r]) C dL_1157 ml_L_133 mX8_half (kX8_half qm M (xi xs (i + 1).toNat) (xi xs (i + 2).toNat) _ e2) rfl rfl rfl rfl rfl ha hb ?_
  exact X.same (tgt := 2535) C dL_1160 (by decide) (K T' M' e3)
theorem lw_nozzle (C : Cx κ G (yL nm) code ret 4 room_1) (hX : Sc κ bb L xs) (h : Inv2 n T J M) (hn : n + 1 ≤ 512) (hi : 0 ≤ i) (hL : i + 6 < L) (hL2 : L ≤ 3584) (ha : a ≤ 600000) (hb : b ≤ 7302250) (K : ∀ T' M', Inv2 (n + 1) T' J M' → X κ G 4 (WL G q J T' qm M') 2535 (lvL bb (q 11 31) (qm 31) i) [] a b Q) : X κ G 4 (WL G q J T qm M) 1165 (lvL bb (q 11 31) (qm 31) i) [] a b Q := by
  have e : Nx n T J (fX7_nozzle T (xi xs (i + 1).toNat) (xi xs (i + 2).toNat)) (fX8_nozzle M (xi xs (i + 1).toNat) (xi xs (i + 2).toNat)) := op_nozzle h hn (xi_r xs _) (xi_r xs _)
  obtain ⟨r, T', M', e1, e2, e3, e4⟩ := e
  refine X.aload_n C dL_1165 rfl 2 rfl ?_
  refine X.arg (k := 1) C hX hi (by decide) (by omega) hL2 dL_1166 dL_1167 dL_1168 dL_1169 dL_1170 ?_
  refine X.arg (k := 2) C hX hi (by decide) (by omega) hL2 dL_1171 dL_1172 dL_1173 dL_1174 dL_1175 ?_
  refine X.callC (T' := T') (r := r) (As := [vi (xi xs (i + 1).toNat), vi (xi xs (i + 2).toNat)]) (rest := []) C dL_1176 ml_L_134 mX7_nozzle (kX7_nozzle q T (xi xs (i + 1).toNat) (xi xs (i + 2).toNat) _ e1) e4 rfl rfl rfl rfl rfl ha hb ?_
  refine X.aload_n C dL_1179 rfl 1 rfl ?_
  refine X.arg (k := 1) C hX hi (by decide) (by omega) hL2 dL_1180 dL_1181 dL_1182 dL_1183 dL_1184 ?_
  refine X.arg (k := 2) C hX hi (by decide) (by omega) hL2 dL_1185 dL_1186 dL_1187 dL_1188 dL_1189 ?_
  refine X.callM (M' := M') (r := r) (As := [vi (xi xs (i + 1).toNat), vi (xi xs (i + 2).toNat)]) (rest := [vi r]) C dL_1190 ml_L_137 mX8_nozzle (kX8_nozzle qm M (xi xs (i + 1).toNat) (xi xs (i + 2).toNat) _ e2) rfl rfl rfl rfl rfl ha hb ?_
  exact X.same (tgt := 2535) C dL_1193 (by decide) (K T' M' e3)
theorem lw_fine (C : Cx κ G (yL nm) code ret 4 room_1) (hX : Sc κ bb L xs) (h : Inv2 n T J M) (hn : n + 1 ≤ 512) (hi : 0 ≤ i) (hL : i + 6 < L) (hL2 : L ≤ 3584) (ha : a ≤ 600000) (hb : b ≤ 7302250) (K : ∀ T' M', Inv2 (n + 1) T' J M' → X κ G 4 (WL G q J T' qm M') 2535 (lvL bb (q 11 31) (qm 31) i) [] a b Q) : X κ G 4 (WL G q J T qm M) 1198 (lvL bb (q 11 31) (qm 31) i) [] a b Q := by
  have e : Eqv (fX7_fine T (xi xs (i + 1).toNat) (xi xs (i + 2).toNat) (xi xs (i + 3).toNat)) (fX8_fine M (xi xs (i + 1).toNat) (xi xs (i + 2).toNat) (xi xs (i + 3).toNat)) := op_fine h.1 (xi_r xs _) (xi_r xs _) (xi_r xs _)
  obtain ⟨r, e1, e2⟩ := e
  refine X.aload_n C dL_1198 rfl 2 rfl ?_
  refine X.arg (k := 1) C hX hi (by decide) (by omega) hL2 dL_1199 dL_1200 dL_1201 dL_1202 dL_1203 ?_
  refine X.arg (k := 2) C hX hi (by decide) (by omega) hL2 dL_1204 dL_1205 dL_1206 dL_1207 dL_1208 ?_
  refine X.arg (k := 3) C hX hi (by decide) (by omega) hL2 dL_1209 dL_1210 dL_1211 dL_1212 dL_1213 ?_
  refine X.callC (T' := T) (r := r) (As := [vi (xi xs (i + 1).toNat), vi (xi xs (i + 2).toNat), vi (xi xs (i + 3).toNat)]) (rest := []) C dL_1214 ml_L_138 mX7_fine (kX7_fine q T (xi xs (i + 1).toNat) (xi xs (i + 2).toNat) (xi xs (i + 3).toNat) _ e1) (fun _ _ => rfl) rfl rfl rfl rfl rfl ha hb ?_
  refine X.aload_n C dL_1217 rfl 1 rfl ?_
  refine X.arg (k := 1) C hX hi (by decide) (by omega) hL2 dL_1218 dL_1219 dL_1220 dL_1221 dL_1222 ?_
  refine X.arg (k := 2) C hX hi (by decide) (by omega) hL2 dL_1223 dL_1224 dL_1225 dL_1226 dL_1227 ?_
  refine X.arg (k := 3) C hX hi (by decide) (by omega) hL2 dL_1228 dL_1229 dL_1230 dL_1231 dL_1232 ?_
  refine X.callM (M' := M) (r := r) (As := [vi (xi xs (i + 1).toNat), vi (xi xs (i + 2).toNat), vi (xi xs (i + 3).toNat)]) (rest := [vi r]) C dL_1233 ml_L_141 mX8_fine (kX8_fine qm M (xi xs (i + 1).toNat) (xi xs (i + 2).toNat) (xi xs (i + 3).toNat) _ e2) rfl rfl rfl rfl rfl ha hb ?_
  exact X.same (tgt := 2535) C dL_1236 (by decide) (K T M (h.next hn))
theorem lw_ice (C : Cx κ G (yL nm) code ret 4 room_1) (hX : Sc κ bb L xs) (h : Inv2 n T J M) (hn : n + 1 ≤ 512) (hi : 0 ≤ i) (hL : i + 6 < L) (hL2 : L ≤ 3584) (ha : a ≤ 600000) (hb : b ≤ 7302250) (K : ∀ T' M', Inv2 (n + 1) T' J M' → X κ G 4 (WL G q J T' qm M') 2535 (lvL bb (q 11 31) (qm 31) i) [] a b Q) : X κ G 4 (WL G q J T qm M) 1241 (lvL bb (q 11 31) (qm 31) i) [] a b Q := by
  have e : Eqv (fX7_ice T) (fX8_ice M) := op_ice h.1
  obtain ⟨r, e1, e2⟩ := e
  refine X.aload_n C dL_1241 rfl 2 rfl ?_
  refine X.callC (T' := T) (r := r) (As := []) (rest := []) C dL_1242 ml_L_142 mX7_ice (kX7_ice q T _ e1) (fun _ _ => rfl) rfl rfl rfl rfl rfl ha hb ?_
  refine X.aload_n C dL_1245 rfl 1 rfl ?_
  refine X.callM (M' := M) (r := r) (As := []) (rest := [vi r]) C dL_1246 ml_L_145 mX8_ice (kX8_ice qm M _ e2) rfl rfl rfl rfl rfl ha hb ?_
  exact X.same (tgt := 2535) C dL_1249 (by decide) (K T M (h.next hn))
end
