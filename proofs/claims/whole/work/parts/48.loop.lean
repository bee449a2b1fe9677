theorem law_loop {G : jG} {cl sl b L : Nat} {xs : Nat → Int32} (hcs : cl ≤ room_1.cells ∧ sl ≤ room_1.slots) (hL : L ≤ 3072) : ∀ (f : Nat) (i : Int) (M : jMem), 0 ≤ i → i ≤ L → L - i < f → jJ M → jX G mLaw room_1 cl sl (jlE G b L xs) lw_Z 18 [.ref b, .ref (jad G 0), .ref (jad G 8), .int (jI i)] [] M := by
  intro f
  induction f with
  | zero =>
    intro i M h0 h1 hf
    exact absurd hf (by omega)
  | succ f ih =>
    intro i M h0 h1 hf hJ
    refine jr_iload_n (n := 19) dL_law_18 rfl rfl ?_
    refine jr_aload_n (n := 20) dL_law_19 rfl rfl ?_
    refine jr_slen (n := 21) dL_law_20 rfl ?_
    refine jr_bipush (n := 23) dL_law_21 rfl (by decide) ?_
    refine jr_isub (n := 24) dL_law_23 rfl ?_
    refine jr_icmp_gt (n := 27) (t := 1174) dL_law_24 (by decide) rfl (by omega) (by omega) (fun b24 => ?_) (fun b24 => ?_)
    · refine jr_iconst (n := 1175) dL_law_1174 rfl ?_
      exact jr_law1 dL_law_1175 hcs.1 hcs.2
    · have cont : ∀ M', jJ M' → jX G mLaw room_1 cl sl (jlE G b L xs) lw_Z 1168 [.ref b, .ref (jad G 0), .ref (jad G 8), .int (jI i)] [] M' := fun M' hJ' => by
        refine jr_iinc3 (n := 1171) dL_law_1168 rfl (by decide) rfl ?_
        refine jr_goto (t := 18) dL_law_1171 (by decide) ?_
        exact ih (i + 6) M' (by omega) (by omega) (by omega) hJ'
      refine jr_aload_n (n := 28) dL_law_27 rfl rfl ?_
      refine jr_iload_n (n := 29) dL_law_28 rfl rfl ?_
      refine jr_sld (n := 30) dL_law_29 rfl (by omega) (by omega) (by omega) ?_
      refine jr_bipush (n := 32) dL_law_30 rfl (by decide) ?_
      refine jr_iand (n := 33) dL_law_32 rfl ?_
      have hr : jR (jand (xs i.toNat).toInt 31) := jand_R _ _
      generalize jand (xs i.toNat).toInt 31 = v at hr ⊢
      by_cases hs : v < 0 ∨ 29 < v
      · refine jr_tabO (t := 1168) dL_law_33 hr hs (by decide) ?_
        exact cont M hJ
      have hv : v = 0 ∨ v = 1 ∨ v = 2 ∨ v = 3 ∨ v = 4 ∨ v = 5 ∨ v = 6 ∨ v = 7 ∨ v = 8 ∨ v = 9 ∨ v = 10 ∨ v = 11 ∨ v = 12 ∨ v = 13 ∨ v = 14 ∨ v = 15 ∨ v = 16 ∨ v = 17 ∨ v = 18 ∨ v = 19 ∨ v = 20 ∨ v = 21 ∨ v = 22 ∨ v = 23 ∨ v = 24 ∨ v = 25 ∨ v = 26 ∨ v = 27 ∨ v = 28 ∨ v = 29 := by omega
      rcases hv with rfl | rfl | rfl | rfl | rfl | rfl | rfl | rfl | rfl | rfl | rfl | rfl | rfl | rfl | rfl | rfl | rfl | rfl | rfl | rfl | rfl | rfl | rfl | rfl | rfl | rfl | rfl | rfl | rfl | rfl
      · refine jr_tabI (t := 168) (off := 135) dL_law_33 hr (by decide) (by decide) rfl (by decide) ?_
        exact law_0 hcs h0 (by omega) hL hJ cont
      · refine jr_tabI (t := 212) (off := 179) dL_law_33 hr (by decide) (by decide) rfl (by decide) ?_
        exact law_1 hcs h0 (by omega) hL hJ cont
      · refine jr_tabI (t := 246) (off := 213) dL_law_33 hr (by decide) (by decide) rfl (by decide) ?_
        exact law_2 hcs h0 (by omega) hL hJ cont
      · refine jr_tabI (t := 280) (off := 247) dL_law_33 hr (by decide) (by decide) rfl (by decide) ?_
        exact law_3 hcs h0 (by omega) hL hJ cont
      · refine jr_tabI (t := 314) (off := 281) dL_law_33 hr (by decide) (by decide) rfl (by decide) ?_
        exact law_4 hcs h0 (by omega) hL hJ cont
      · refine jr_tabI (t := 348) (off := 315) dL_law_33 hr (by decide) (by decide) rfl (by decide) ?_
        exact law_5 hcs h0 (by omega) hL hJ cont
      · refine jr_tabI (t := 382) (off := 349) dL_law_33 hr (by decide) (by decide) rfl (by decide) ?_
        exact law_6 hcs h0 (by omega) hL hJ cont
      · refine jr_tabI (t := 416) (off := 383) dL_law_33 hr (by decide) (by decide) rfl (by decide) ?_
        exact law_7 hcs h0 (by omega) hL hJ cont
      · refine jr_tabI (t := 450) (off := 417) dL_law_33 hr (by decide) (by decide) rfl (by decide) ?_
        exact law_8 hcs h0 (by omega) hL hJ cont
      · refine jr_tabI (t := 484) (off := 451) dL_law_33 hr (by decide) (by decide) rfl (by decide) ?_
        exact law_9 hcs h0 (by omega) hL hJ cont
      · refine jr_tabI (t := 518) (off := 485) dL_law_33 hr (by decide) (by decide) rfl (by decide) ?_
        exact law_10 hcs h0 (by omega) hL hJ cont
      · refine jr_tabI (t := 542) (off := 509) dL_law_33 hr (by decide) (by decide) rfl (by decide) ?_
        exact law_11 hcs h0 (by omega) hL hJ cont
      · refine jr_tabI (t := 586) (off := 553) dL_law_33 hr (by decide) (by decide) rfl (by decide) ?_
        exact law_12 hcs h0 (by omega) hL hJ cont
      · refine jr_tabI (t := 620) (off := 587) dL_law_33 hr (by decide) (by decide) rfl (by decide) ?_
        exact law_13 hcs h0 (by omega) hL hJ cont
      · refine jr_tabI (t := 644) (off := 611) dL_law_33 hr (by decide) (by decide) rfl (by decide) ?_
        exact law_14 hcs h0 (by omega) hL hJ cont
      · refine jr_tabI (t := 678) (off := 645) dL_law_33 hr (by decide) (by decide) rfl (by decide) ?_
        exact law_15 hcs h0 (by omega) hL hJ cont
      · refine jr_tabI (t := 712) (off := 679) dL_law_33 hr (by decide) (by decide) rfl (by decide) ?_
        exact law_16 hcs h0 (by omega) hL hJ cont
      · refine jr_tabI (t := 746) (off := 713) dL_law_33 hr (by decide) (by decide) rfl (by decide) ?_
        exact law_17 hcs h0 (by omega) hL hJ cont
      · refine jr_tabI (t := 780) (off := 747) dL_law_33 hr (by decide) (by decide) rfl (by decide) ?_
        exact law_18 hcs h0 (by omega) hL hJ cont
      · refine jr_tabI (t := 794) (off := 761) dL_law_33 hr (by decide) (by decide) rfl (by decide) ?_
        exact law_19 hcs h0 (by omega) hL hJ cont
      · refine jr_tabI (t := 818) (off := 785) dL_law_33 hr (by decide) (by decide) rfl (by decide) ?_
        exact law_20 hcs h0 (by omega) hL hJ cont
      · refine jr_tabI (t := 862) (off := 829) dL_law_33 hr (by decide) (by decide) rfl (by decide) ?_
        exact law_21 hcs h0 (by omega) hL hJ cont
      · refine jr_tabI (t := 886) (off := 853) dL_law_33 hr (by decide) (by decide) rfl (by decide) ?_
        exact law_22 hcs h0 (by omega) hL hJ cont
      · refine jr_tabI (t := 920) (off := 887) dL_law_33 hr (by decide) (by decide) rfl (by decide) ?_
        exact law_23 hcs h0 (by omega) hL hJ cont
      · refine jr_tabI (t := 954) (off := 921) dL_law_33 hr (by decide) (by decide) rfl (by decide) ?_
        exact law_24 hcs h0 (by omega) hL hJ cont
      · refine jr_tabI (t := 978) (off := 945) dL_law_33 hr (by decide) (by decide) rfl (by decide) ?_
        exact law_25 hcs h0 (by omega) hL hJ cont
      · refine jr_tabI (t := 1012) (off := 979) dL_law_33 hr (by decide) (by decide) rfl (by decide) ?_
        exact law_26 hcs h0 (by omega) hL hJ cont
      · refine jr_tabI (t := 1056) (off := 1023) dL_law_33 hr (by decide) (by decide) rfl (by decide) ?_
        exact law_27 hcs h0 (by omega) hL hJ cont
      · refine jr_tabI (t := 1120) (off := 1087) dL_law_33 hr (by decide) (by decide) rfl (by decide) ?_
        exact law_28 hcs h0 (by omega) hL hJ cont
      · refine jr_tabI (t := 1144) (off := 1111) dL_law_33 hr (by decide) (by decide) rfl (by decide) ?_
        exact law_29 hcs h0 (by omega) hL hJ cont

