def jP (v v' : Option Value) (M : jMem) : Prop := ∃ x : Int, v = some (.long (jL x)) ∧ v' = some (.long (jL x)) ∧ jJ M
theorem e_needs1 {G : jG} {d : Nat} {M : jMem} {Q : Option Value → jMem → Prop} {k v : Int} (hk : 0 ≤ k ∧ k < 12) (h1 : jbit (M 43 k) v → Q (some (.int (jI 1))) M) (h0 : ¬ jbit (M 43 k) v → Q (some (.int (jI 0))) M) : jN G mX8_needs1 (d) [.ref (jad G 8), .int (jI k), .int (jI v)] M Q := by
  show jM G mX8_needs1 (d) 0 [.ref (jad G 8), .int (jI k), .int (jI v)] [] M Q
  refine jr_aload_n (n := 1) dX8_needs1_0 rfl rfl ?_
  refine jr_getR (n := 4) dX8_needs1_1 rfl fX8_25 rfl (by decide) (by decide) rfl ?_
  refine jr_iload_n (n := 5) dX8_needs1_4 rfl rfl ?_
  refine jr_iald (n := 6) dX8_needs1_5 rfl rfl (by decide) (by omega) (by omega) ?_
  refine jr_iload_n (n := 7) dX8_needs1_6 rfl rfl ?_
  refine jr_ishr (n := 8) dX8_needs1_7 rfl ?_
  refine jr_iconst (n := 9) dX8_needs1_8 rfl ?_
  refine jr_iand (n := 10) dX8_needs1_9 rfl ?_
  refine jr_iconst (n := 11) dX8_needs1_10 rfl ?_
  refine jr_icmp_ne (n := 14) (t := 18) dX8_needs1_11 (by decide) rfl (jand_R _ _) (by decide) (fun b11 => ?_) (fun b11 => ?_)
  · refine jr_iconst (n := 19) dX8_needs1_18 rfl ?_
    refine jr_zret dX8_needs1_19 rfl (by decide) ?_
    first | exact h1 (jbit1.mpr (by omega)) | exact h0 (fun z => by have := jbit1.mp z; omega)
  · refine jr_iconst (n := 15) dX8_needs1_14 rfl ?_
    refine jr_goto (t := 19) dX8_needs1_15 (by decide) ?_
    refine jr_zret dX8_needs1_19 rfl (by decide) ?_
    first | exact h1 (jbit1.mpr (by omega)) | exact h0 (fun z => by have := jbit1.mp z; omega)

theorem c_fold {G : jG} {d : Nat} {M : jMem} {Q : Option Value → jMem → Prop} (hI : jK M) {k v : Int} (hk : jR k) (hv : jR v) (hB : ¬ ((0 ≤ k ∧ k < M 1 8) ∧ (0 ≤ v ∧ v ≤ 100)) → Q (some (.long (jL (-9000000000000000001)))) M) (h : 0 ≤ k → k < M 1 8 → 0 ≤ v → v ≤ 100 → Q (some (.long (jL (M 12 k)))) (jup M 12 k v)) : jN G mX7_fold (d + 2) [.ref (jad G 0), .int (jI k), .int (jI v)] M Q := by
  show jM G mX7_fold (d + 2) 0 [.ref (jad G 0), .int (jI k), .int (jI v), .null] [] M Q
  have hz := jn1 hI
  refine jr_aload_n (n := 1) dX7_fold_0 rfl rfl ?_
  refine jr_getR (n := 4) dX7_fold_1 rfl fX7_10 rfl (by decide) (by decide) rfl ?_
  refine jr_iload_n (n := 5) dX7_fold_4 rfl rfl ?_
  refine jr_cV1 (n := 8) (ci := 2) (ν := mX2_has) dX7_fold_5 rfl lX7_99 kX2_has iX2_has rfl ⟨_, rfl, rfl⟩ (by decide) (Nat.le_of_ble_eq_true rfl) (Nat.le_of_ble_eq_true rfl) rfl ?_
  refine c_hasC (by omega) (by omega) (fun b5 b5b => ?_) (fun b5 => ?_)
  · refine jr_ifF_eq (n := 11) (t := 21) dX7_fold_8 rfl (by decide) (by decide) (by decide) ?_
    refine jr_iload_n (n := 12) dX7_fold_11 rfl rfl ?_
    refine jr_iconst (n := 13) dX7_fold_12 rfl ?_
    refine jr_bipush (n := 15) dX7_fold_13 rfl (by decide) ?_
    refine jr_cS3 (n := 18) (ν := mX7_isWithin) dX7_fold_15 rfl lX7_66 kX7_isWithin iX7_isWithin (Nat.le_of_ble_eq_true rfl) (Nat.le_of_ble_eq_true rfl) rfl ?_
    refine c_isWithin (by omega) (by omega) (by omega) (fun b15 b15b => ?_) (fun b15 => ?_)
    · refine jr_ifT_ne (t := 25) dX7_fold_18 (by decide) (by decide) (by decide) ?_
      refine jr_aload_n (n := 26) dX7_fold_25 rfl rfl ?_
      refine jr_getR (n := 29) dX7_fold_26 rfl fX7_10 rfl (by decide) (by decide) rfl ?_
      refine jr_getR (n := 32) dX7_fold_29 rfl fX7_114 rfl (by decide) (by decide) rfl ?_
      refine jr_iload_n (n := 33) dX7_fold_32 rfl rfl ?_
      refine jr_iald (n := 34) dX7_fold_33 rfl rfl (by decide) (by omega) (by omega) ?_
      refine jr_istore3 (n := 35) dX7_fold_34 rfl (by decide) rfl ?_
      refine jr_aload_n (n := 36) dX7_fold_35 rfl rfl ?_
      refine jr_getR (n := 39) dX7_fold_36 rfl fX7_10 rfl (by decide) (by decide) rfl ?_
      refine jr_getR (n := 42) dX7_fold_39 rfl fX7_114 rfl (by decide) (by decide) rfl ?_
      refine jr_iload_n (n := 43) dX7_fold_42 rfl rfl ?_
      refine jr_iload_n (n := 44) dX7_fold_43 rfl rfl ?_
      refine jr_iast (n := 45) dX7_fold_44 rfl rfl (by decide) (by omega) (by omega) ?_
      have hr := jn3 hI k (by omega) (by omega)
      refine jr_iload_n (n := 46) dX7_fold_45 rfl rfl ?_
      refine jr_i2l (n := 47) dX7_fold_46 rfl (by omega) ?_
      refine jr_lret dX7_fold_47 rfl ?_
      first | exact hB (by omega) | exact h (by omega) (by omega) (by omega) (by omega)
    · refine jr_ifF_ne (n := 21) (t := 25) dX7_fold_18 rfl (by decide) (by decide) (by decide) ?_
      refine jr_ldc2 (n := 24) dX7_fold_21 rfl rfl qX7_70 vX7_70 ?_
      refine jr_lret dX7_fold_24 rfl ?_
      first | exact hB (by omega) | exact h (by omega) (by omega) (by omega) (by omega)
  · refine jr_ifT_eq (t := 21) dX7_fold_8 (by decide) (by decide) (by decide) ?_
    refine jr_ldc2 (n := 24) dX7_fold_21 rfl rfl qX7_70 vX7_70 ?_
    refine jr_lret dX7_fold_24 rfl ?_
    first | exact hB (by omega) | exact h (by omega) (by omega) (by omega) (by omega)

theorem c_fate {G : jG} {d : Nat} {M : jMem} {Q : Option Value → jMem → Prop} (hI : jK M) {k v : Int} (hk : jR k) (hv : jR v) (hB : ¬ ((0 ≤ k ∧ k < M 1 8) ∧ (-1 ≤ v ∧ v ≤ 20)) → Q (some (.long (jL (-9000000000000000001)))) M) (h : 0 ≤ k → k < M 1 8 → -1 ≤ v → v ≤ 20 → Q (some (.long (jL (M 14 k)))) (jup M 14 k v)) : jN G mX7_fate (d + 2) [.ref (jad G 0), .int (jI k), .int (jI v)] M Q := by
  show jM G mX7_fate (d + 2) 0 [.ref (jad G 0), .int (jI k), .int (jI v), .null] [] M Q
  have hz := jn1 hI
  refine jr_aload_n (n := 1) dX7_fate_0 rfl rfl ?_
  refine jr_getR (n := 4) dX7_fate_1 rfl fX7_10 rfl (by decide) (by decide) rfl ?_
  refine jr_iload_n (n := 5) dX7_fate_4 rfl rfl ?_
  refine jr_cV1 (n := 8) (ci := 2) (ν := mX2_has) dX7_fate_5 rfl lX7_99 kX2_has iX2_has rfl ⟨_, rfl, rfl⟩ (by decide) (Nat.le_of_ble_eq_true rfl) (Nat.le_of_ble_eq_true rfl) rfl ?_
  refine c_hasC (by omega) (by omega) (fun b5 b5b => ?_) (fun b5 => ?_)
  · refine jr_ifF_eq (n := 11) (t := 21) dX7_fate_8 rfl (by decide) (by decide) (by decide) ?_
    refine jr_iload_n (n := 12) dX7_fate_11 rfl rfl ?_
    refine jr_iconst (n := 13) dX7_fate_12 rfl ?_
    refine jr_bipush (n := 15) dX7_fate_13 rfl (by decide) ?_
    refine jr_cS3 (n := 18) (ν := mX7_isWithin) dX7_fate_15 rfl lX7_66 kX7_isWithin iX7_isWithin (Nat.le_of_ble_eq_true rfl) (Nat.le_of_ble_eq_true rfl) rfl ?_
    refine c_isWithin (by omega) (by omega) (by omega) (fun b15 b15b => ?_) (fun b15 => ?_)
    · refine jr_ifT_ne (t := 25) dX7_fate_18 (by decide) (by decide) (by decide) ?_
      refine jr_aload_n (n := 26) dX7_fate_25 rfl rfl ?_
      refine jr_getR (n := 29) dX7_fate_26 rfl fX7_10 rfl (by decide) (by decide) rfl ?_
      refine jr_getR (n := 32) dX7_fate_29 rfl fX7_127 rfl (by decide) (by decide) rfl ?_
      refine jr_iload_n (n := 33) dX7_fate_32 rfl rfl ?_
      refine jr_iald (n := 34) dX7_fate_33 rfl rfl (by decide) (by omega) (by omega) ?_
      refine jr_istore3 (n := 35) dX7_fate_34 rfl (by decide) rfl ?_
      refine jr_aload_n (n := 36) dX7_fate_35 rfl rfl ?_
      refine jr_getR (n := 39) dX7_fate_36 rfl fX7_10 rfl (by decide) (by decide) rfl ?_
      refine jr_getR (n := 42) dX7_fate_39 rfl fX7_127 rfl (by decide) (by decide) rfl ?_
      refine jr_iload_n (n := 43) dX7_fate_42 rfl rfl ?_
      refine jr_iload_n (n := 44) dX7_fate_43 rfl rfl ?_
      refine jr_iast (n := 45) dX7_fate_44 rfl rfl (by decide) (by omega) (by omega) ?_
      have hr := jn3 hI k (by omega) (by omega)
      refine jr_iload_n (n := 46) dX7_fate_45 rfl rfl ?_
      refine jr_i2l (n := 47) dX7_fate_46 rfl (by omega) ?_
      refine jr_lret dX7_fate_47 rfl ?_
      first | exact hB (by omega) | exact h (by omega) (by omega) (by omega) (by omega)
    · refine jr_ifF_ne (n := 21) (t := 25) dX7_fate_18 rfl (by decide) (by decide) (by decide) ?_
      refine jr_ldc2 (n := 24) dX7_fate_21 rfl rfl qX7_70 vX7_70 ?_
      refine jr_lret dX7_fate_24 rfl ?_
      first | exact hB (by omega) | exact h (by omega) (by omega) (by omega) (by omega)
  · refine jr_ifT_eq (t := 21) dX7_fate_8 (by decide) (by decide) (by decide) ?_
    refine jr_ldc2 (n := 24) dX7_fate_21 rfl rfl qX7_70 vX7_70 ?_
    refine jr_lret dX7_fate_24 rfl ?_
    first | exact hB (by omega) | exact h (by omega) (by omega) (by omega) (by omega)

theorem c_isOf {G : jG} {d : Nat} {M : jMem} {Q : Option Value → jMem → Prop} (hI : jK M) {k v : Int} (hk : jR k) (hv : jR v) (hB : ¬ ((0 ≤ k ∧ k < M 2 3) ∧ (0 ≤ v ∧ v ≤ 4)) → Q (some (.long (jL (-9000000000000000001)))) M) (h : 0 ≤ k → k < M 2 3 → 0 ≤ v → v ≤ 4 → Q (some (.long (jL (if v = 0 ∨ v = M 18 k ∨ (v = 3 ∧ M 18 k = 4) then 1 else 0)))) M) : jN G mX7_isOf (d + 2) [.ref (jad G 0), .int (jI k), .int (jI v)] M Q := by
  show jM G mX7_isOf (d + 2) 0 [.ref (jad G 0), .int (jI k), .int (jI v), .null, .null] [] M Q
  have hz := jn1 hI
  refine jr_aload_n (n := 1) dX7_isOf_0 rfl rfl ?_
  refine jr_getR (n := 4) dX7_isOf_1 rfl fX7_19 rfl (by decide) (by decide) rfl ?_
  refine jr_iload_n (n := 5) dX7_isOf_4 rfl rfl ?_
  refine jr_cV1 (n := 8) (ci := 4) (ν := mX4_has) dX7_isOf_5 rfl lX7_89 kX4_has iX4_has rfl ⟨_, rfl, rfl⟩ (by decide) (Nat.le_of_ble_eq_true rfl) (Nat.le_of_ble_eq_true rfl) rfl ?_
  refine c_hasW (by omega) (by omega) (fun b5 b5b => ?_) (fun b5 => ?_)
  · refine jr_ifF_eq (n := 11) (t := 20) dX7_isOf_8 rfl (by decide) (by decide) (by decide) ?_
    refine jr_iload_n (n := 12) dX7_isOf_11 rfl rfl ?_
    refine jr_iconst (n := 13) dX7_isOf_12 rfl ?_
    refine jr_iconst (n := 14) dX7_isOf_13 rfl ?_
    refine jr_cS3 (n := 17) (ν := mX7_isWithin) dX7_isOf_14 rfl lX7_66 kX7_isWithin iX7_isWithin (Nat.le_of_ble_eq_true rfl) (Nat.le_of_ble_eq_true rfl) rfl ?_
    refine c_isWithin (by omega) (by omega) (by omega) (fun b14 b14b => ?_) (fun b14 => ?_)
    · refine jr_ifT_ne (t := 24) dX7_isOf_17 (by decide) (by decide) (by decide) ?_
      refine jr_aload_n (n := 25) dX7_isOf_24 rfl rfl ?_
      refine jr_getR (n := 28) dX7_isOf_25 rfl fX7_19 rfl (by decide) (by decide) rfl ?_
      refine jr_getR (n := 31) dX7_isOf_28 rfl fX7_92 rfl (by decide) (by decide) rfl ?_
      refine jr_iload_n (n := 32) dX7_isOf_31 rfl rfl ?_
      refine jr_iald (n := 33) dX7_isOf_32 rfl rfl (by decide) (by omega) (by omega) ?_
      have hr := jn9 hI k (by omega) (by omega)
      refine jr_istore3 (n := 34) dX7_isOf_33 rfl (by decide) rfl ?_
      refine jr_iload_n (n := 35) dX7_isOf_34 rfl rfl ?_
      refine jr_iconst (n := 36) dX7_isOf_35 rfl ?_
      refine jr_icmp_ne (n := 39) (t := 48) dX7_isOf_36 (by decide) rfl (by omega) (by omega) (fun b36 => ?_) (fun b36 => ?_)
      · refine jr_iconst (n := 49) dX7_isOf_48 rfl ?_
        refine jr_istore4 (n := 51) dX7_isOf_49 rfl (by decide) rfl ?_
        refine jr_iload_n (n := 52) dX7_isOf_51 rfl rfl ?_
        refine jr_if_eq (n := 55) (t := 65) dX7_isOf_52 (by decide) rfl (by omega) (fun b52 => ?_) (fun b52 => ?_)
        · refine jr_iconst (n := 66) dX7_isOf_65 rfl ?_
          refine jr_goto (t := 70) dX7_isOf_66 (by decide) ?_
          refine jr_cS1 (n := 73) (ν := mX7_asLong) dX7_isOf_70 rfl lX7_95 kX7_asLong iX7_asLong (Nat.le_of_ble_eq_true rfl) (Nat.le_of_ble_eq_true rfl) rfl ?_
          refine c_asLong (by omega) ?_
          refine jr_lret dX7_isOf_73 rfl ?_
          first | exact hB (by omega) | (have h := h (by omega) (by omega) (by omega) (by omega); rw [if_pos (by omega)] at h; exact h) | (have h := h (by omega) (by omega) (by omega) (by omega); rw [if_neg (by omega)] at h; exact h)
        · refine jr_iload_n (n := 56) dX7_isOf_55 rfl rfl ?_
          refine jr_iload_n (n := 57) dX7_isOf_56 rfl rfl ?_
          refine jr_icmp_eq (n := 60) (t := 65) dX7_isOf_57 (by decide) rfl (by omega) (by omega) (fun b57 => ?_) (fun b57 => ?_)
          · refine jr_iconst (n := 66) dX7_isOf_65 rfl ?_
            refine jr_goto (t := 70) dX7_isOf_66 (by decide) ?_
            refine jr_cS1 (n := 73) (ν := mX7_asLong) dX7_isOf_70 rfl lX7_95 kX7_asLong iX7_asLong (Nat.le_of_ble_eq_true rfl) (Nat.le_of_ble_eq_true rfl) rfl ?_
            refine c_asLong (by omega) ?_
            refine jr_lret dX7_isOf_73 rfl ?_
            first | exact hB (by omega) | (have h := h (by omega) (by omega) (by omega) (by omega); rw [if_pos (by omega)] at h; exact h) | (have h := h (by omega) (by omega) (by omega) (by omega); rw [if_neg (by omega)] at h; exact h)
          · refine jr_iload (n := 62) dX7_isOf_60 rfl rfl ?_
            refine jr_ifT_eq (t := 69) dX7_isOf_62 (by decide) (by decide) (by decide) ?_
            refine jr_iconst (n := 70) dX7_isOf_69 rfl ?_
            refine jr_cS1 (n := 73) (ν := mX7_asLong) dX7_isOf_70 rfl lX7_95 kX7_asLong iX7_asLong (Nat.le_of_ble_eq_true rfl) (Nat.le_of_ble_eq_true rfl) rfl ?_
            refine c_asLong (by omega) ?_
            refine jr_lret dX7_isOf_73 rfl ?_
            first | exact hB (by omega) | (have h := h (by omega) (by omega) (by omega) (by omega); rw [if_pos (by omega)] at h; exact h) | (have h := h (by omega) (by omega) (by omega) (by omega); rw [if_neg (by omega)] at h; exact h)
      · refine jr_iload_n (n := 40) dX7_isOf_39 rfl rfl ?_
        refine jr_iconst (n := 41) dX7_isOf_40 rfl ?_
        refine jr_icmp_ne (n := 44) (t := 48) dX7_isOf_41 (by decide) rfl (by omega) (by omega) (fun b41 => ?_) (fun b41 => ?_)
        · refine jr_iconst (n := 49) dX7_isOf_48 rfl ?_
          refine jr_istore4 (n := 51) dX7_isOf_49 rfl (by decide) rfl ?_
          refine jr_iload_n (n := 52) dX7_isOf_51 rfl rfl ?_
          refine jr_if_eq (n := 55) (t := 65) dX7_isOf_52 (by decide) rfl (by omega) (fun b52 => ?_) (fun b52 => ?_)
          · refine jr_iconst (n := 66) dX7_isOf_65 rfl ?_
            refine jr_goto (t := 70) dX7_isOf_66 (by decide) ?_
            refine jr_cS1 (n := 73) (ν := mX7_asLong) dX7_isOf_70 rfl lX7_95 kX7_asLong iX7_asLong (Nat.le_of_ble_eq_true rfl) (Nat.le_of_ble_eq_true rfl) rfl ?_
            refine c_asLong (by omega) ?_
            refine jr_lret dX7_isOf_73 rfl ?_
            first | exact hB (by omega) | (have h := h (by omega) (by omega) (by omega) (by omega); rw [if_pos (by omega)] at h; exact h) | (have h := h (by omega) (by omega) (by omega) (by omega); rw [if_neg (by omega)] at h; exact h)
          · refine jr_iload_n (n := 56) dX7_isOf_55 rfl rfl ?_
            refine jr_iload_n (n := 57) dX7_isOf_56 rfl rfl ?_
            refine jr_icmp_eq (n := 60) (t := 65) dX7_isOf_57 (by decide) rfl (by omega) (by omega) (fun b57 => ?_) (fun b57 => ?_)
            · refine jr_iconst (n := 66) dX7_isOf_65 rfl ?_
              refine jr_goto (t := 70) dX7_isOf_66 (by decide) ?_
              refine jr_cS1 (n := 73) (ν := mX7_asLong) dX7_isOf_70 rfl lX7_95 kX7_asLong iX7_asLong (Nat.le_of_ble_eq_true rfl) (Nat.le_of_ble_eq_true rfl) rfl ?_
              refine c_asLong (by omega) ?_
              refine jr_lret dX7_isOf_73 rfl ?_
              first | exact hB (by omega) | (have h := h (by omega) (by omega) (by omega) (by omega); rw [if_pos (by omega)] at h; exact h) | (have h := h (by omega) (by omega) (by omega) (by omega); rw [if_neg (by omega)] at h; exact h)
            · refine jr_iload (n := 62) dX7_isOf_60 rfl rfl ?_
              refine jr_ifT_eq (t := 69) dX7_isOf_62 (by decide) (by decide) (by decide) ?_
              refine jr_iconst (n := 70) dX7_isOf_69 rfl ?_
              refine jr_cS1 (n := 73) (ν := mX7_asLong) dX7_isOf_70 rfl lX7_95 kX7_asLong iX7_asLong (Nat.le_of_ble_eq_true rfl) (Nat.le_of_ble_eq_true rfl) rfl ?_
              refine c_asLong (by omega) ?_
              refine jr_lret dX7_isOf_73 rfl ?_
              first | exact hB (by omega) | (have h := h (by omega) (by omega) (by omega) (by omega); rw [if_pos (by omega)] at h; exact h) | (have h := h (by omega) (by omega) (by omega) (by omega); rw [if_neg (by omega)] at h; exact h)
        · refine jr_iconst (n := 45) dX7_isOf_44 rfl ?_
          refine jr_goto (t := 49) dX7_isOf_45 (by decide) ?_
          refine jr_istore4 (n := 51) dX7_isOf_49 rfl (by decide) rfl ?_
          refine jr_iload_n (n := 52) dX7_isOf_51 rfl rfl ?_
          refine jr_if_eq (n := 55) (t := 65) dX7_isOf_52 (by decide) rfl (by omega) (fun b52 => ?_) (fun b52 => ?_)
          · refine jr_iconst (n := 66) dX7_isOf_65 rfl ?_
            refine jr_goto (t := 70) dX7_isOf_66 (by decide) ?_
            refine jr_cS1 (n := 73) (ν := mX7_asLong) dX7_isOf_70 rfl lX7_95 kX7_asLong iX7_asLong (Nat.le_of_ble_eq_true rfl) (Nat.le_of_ble_eq_true rfl) rfl ?_
            refine c_asLong (by omega) ?_
            refine jr_lret dX7_isOf_73 rfl ?_
            first | exact hB (by omega) | (have h := h (by omega) (by omega) (by omega) (by omega); rw [if_pos (by omega)] at h; exact h) | (have h := h (by omega) (by omega) (by omega) (by omega); rw [if_neg (by omega)] at h; exact h)
          · refine jr_iload_n (n := 56) dX7_isOf_55 rfl rfl ?_
            refine jr_iload_n (n := 57) dX7_isOf_56 rfl rfl ?_
            refine jr_icmp_eq (n := 60) (t := 65) dX7_isOf_57 (by decide) rfl (by omega) (by omega) (fun b57 => ?_) (fun b57 => ?_)
            · refine jr_iconst (n := 66) dX7_isOf_65 rfl ?_
              refine jr_goto (t := 70) dX7_isOf_66 (by decide) ?_
              refine jr_cS1 (n := 73) (ν := mX7_asLong) dX7_isOf_70 rfl lX7_95 kX7_asLong iX7_asLong (Nat.le_of_ble_eq_true rfl) (Nat.le_of_ble_eq_true rfl) rfl ?_
              refine c_asLong (by omega) ?_
              refine jr_lret dX7_isOf_73 rfl ?_
              first | exact hB (by omega) | (have h := h (by omega) (by omega) (by omega) (by omega); rw [if_pos (by omega)] at h; exact h) | (have h := h (by omega) (by omega) (by omega) (by omega); rw [if_neg (by omega)] at h; exact h)
            · refine jr_iload (n := 62) dX7_isOf_60 rfl rfl ?_
              refine jr_ifF_eq (n := 65) (t := 69) dX7_isOf_62 rfl (by decide) (by decide) (by decide) ?_
              refine jr_iconst (n := 66) dX7_isOf_65 rfl ?_
              refine jr_goto (t := 70) dX7_isOf_66 (by decide) ?_
              refine jr_cS1 (n := 73) (ν := mX7_asLong) dX7_isOf_70 rfl lX7_95 kX7_asLong iX7_asLong (Nat.le_of_ble_eq_true rfl) (Nat.le_of_ble_eq_true rfl) rfl ?_
              refine c_asLong (by omega) ?_
              refine jr_lret dX7_isOf_73 rfl ?_
              first | exact hB (by omega) | (have h := h (by omega) (by omega) (by omega) (by omega); rw [if_pos (by omega)] at h; exact h) | (have h := h (by omega) (by omega) (by omega) (by omega); rw [if_neg (by omega)] at h; exact h)
    · refine jr_ifF_ne (n := 20) (t := 24) dX7_isOf_17 rfl (by decide) (by decide) (by decide) ?_
      refine jr_ldc2 (n := 23) dX7_isOf_20 rfl rfl qX7_70 vX7_70 ?_
      refine jr_lret dX7_isOf_23 rfl ?_
      first | exact hB (by omega) | (have h := h (by omega) (by omega) (by omega) (by omega); rw [if_pos (by omega)] at h; exact h) | (have h := h (by omega) (by omega) (by omega) (by omega); rw [if_neg (by omega)] at h; exact h)
  · refine jr_ifT_eq (t := 20) dX7_isOf_8 (by decide) (by decide) (by decide) ?_
    refine jr_ldc2 (n := 23) dX7_isOf_20 rfl rfl qX7_70 vX7_70 ?_
    refine jr_lret dX7_isOf_23 rfl ?_
    first | exact hB (by omega) | (have h := h (by omega) (by omega) (by omega) (by omega); rw [if_pos (by omega)] at h; exact h) | (have h := h (by omega) (by omega) (by omega) (by omega); rw [if_neg (by omega)] at h; exact h)

theorem e_fold {G : jG} {d : Nat} {M : jMem} {Q : Option Value → jMem → Prop} (hI : jO M) {k v : Int} (hk : jR k) (hv : jR v) (hB : ¬ ((0 ≤ k ∧ k < M 8 2) ∧ (0 ≤ v ∧ v ≤ 100)) → Q (some (.long (jL (-9000000000000000001)))) M) (h : 0 ≤ k → k < M 8 2 → 0 ≤ v → v ≤ 100 → Q (some (.long (jL (M 42 k)))) (jup M 42 k v)) : jN G mX8_fold (d + 2) [.ref (jad G 8), .int (jI k), .int (jI v)] M Q := by
  show jM G mX8_fold (d + 2) 0 [.ref (jad G 8), .int (jI k), .int (jI v), .null] [] M Q
  have hz := jn1 hI
  refine jr_aload_n (n := 1) dX8_fold_0 rfl rfl ?_
  refine jr_iload_n (n := 2) dX8_fold_1 rfl rfl ?_
  refine jr_cV1 (n := 5) (ci := 8) (ν := mX8_isCase) dX8_fold_2 rfl lX8_118 kX8_isCase iX8_isCase rfl ⟨_, rfl, rfl⟩ (by decide) (Nat.le_of_ble_eq_true rfl) (Nat.le_of_ble_eq_true rfl) rfl ?_
  refine e_isCase (by omega) (by omega) (fun b2 b2b => ?_) (fun b2 => ?_)
  · refine jr_ifF_eq (n := 8) (t := 18) dX8_fold_5 rfl (by decide) (by decide) (by decide) ?_
    refine jr_iload_n (n := 9) dX8_fold_8 rfl rfl ?_
    refine jr_iconst (n := 10) dX8_fold_9 rfl ?_
    refine jr_bipush (n := 12) dX8_fold_10 rfl (by decide) ?_
    refine jr_cS3 (n := 15) (ν := mX8_isIn) dX8_fold_12 rfl lX8_92 kX8_isIn iX8_isIn (Nat.le_of_ble_eq_true rfl) (Nat.le_of_ble_eq_true rfl) rfl ?_
    refine e_isIn (by omega) (by omega) (by omega) (fun b12 b12b => ?_) (fun b12 => ?_)
    · refine jr_ifT_ne (t := 22) dX8_fold_15 (by decide) (by decide) (by decide) ?_
      refine jr_aload_n (n := 23) dX8_fold_22 rfl rfl ?_
      refine jr_getR (n := 26) dX8_fold_23 rfl fX8_22 rfl (by decide) (by decide) rfl ?_
      refine jr_iload_n (n := 27) dX8_fold_26 rfl rfl ?_
      refine jr_iald (n := 28) dX8_fold_27 rfl rfl (by decide) (by omega) (by omega) ?_
      refine jr_istore3 (n := 29) dX8_fold_28 rfl (by decide) rfl ?_
      refine jr_aload_n (n := 30) dX8_fold_29 rfl rfl ?_
      refine jr_getR (n := 33) dX8_fold_30 rfl fX8_22 rfl (by decide) (by decide) rfl ?_
      refine jr_iload_n (n := 34) dX8_fold_33 rfl rfl ?_
      refine jr_iload_n (n := 35) dX8_fold_34 rfl rfl ?_
      refine jr_iast (n := 36) dX8_fold_35 rfl rfl (by decide) (by omega) (by omega) ?_
      have hr := jn3 hI k (by omega) (by omega)
      refine jr_iload_n (n := 37) dX8_fold_36 rfl rfl ?_
      refine jr_i2l (n := 38) dX8_fold_37 rfl (by omega) ?_
      refine jr_lret dX8_fold_38 rfl ?_
      first | exact hB (by omega) | exact h (by omega) (by omega) (by omega) (by omega)
    · refine jr_ifF_ne (n := 18) (t := 22) dX8_fold_15 rfl (by decide) (by decide) (by decide) ?_
      refine jr_ldc2 (n := 21) dX8_fold_18 rfl rfl qX8_107 vX8_107 ?_
      refine jr_lret dX8_fold_21 rfl ?_
      first | exact hB (by omega) | exact h (by omega) (by omega) (by omega) (by omega)
  · refine jr_ifT_eq (t := 18) dX8_fold_5 (by decide) (by decide) (by decide) ?_
    refine jr_ldc2 (n := 21) dX8_fold_18 rfl rfl qX8_107 vX8_107 ?_
    refine jr_lret dX8_fold_21 rfl ?_
    first | exact hB (by omega) | exact h (by omega) (by omega) (by omega) (by omega)

theorem e_fate {G : jG} {d : Nat} {M : jMem} {Q : Option Value → jMem → Prop} (hI : jO M) {k v : Int} (hk : jR k) (hv : jR v) (hB : ¬ ((0 ≤ k ∧ k < M 8 2) ∧ (-1 ≤ v ∧ v ≤ 20)) → Q (some (.long (jL (-9000000000000000001)))) M) (h : 0 ≤ k → k < M 8 2 → -1 ≤ v → v ≤ 20 → Q (some (.long (jL (M 44 k)))) (jup M 44 k v)) : jN G mX8_fate (d + 2) [.ref (jad G 8), .int (jI k), .int (jI v)] M Q := by
  show jM G mX8_fate (d + 2) 0 [.ref (jad G 8), .int (jI k), .int (jI v), .null] [] M Q
  have hz := jn1 hI
  refine jr_aload_n (n := 1) dX8_fate_0 rfl rfl ?_
  refine jr_iload_n (n := 2) dX8_fate_1 rfl rfl ?_
  refine jr_cV1 (n := 5) (ci := 8) (ν := mX8_isCase) dX8_fate_2 rfl lX8_118 kX8_isCase iX8_isCase rfl ⟨_, rfl, rfl⟩ (by decide) (Nat.le_of_ble_eq_true rfl) (Nat.le_of_ble_eq_true rfl) rfl ?_
  refine e_isCase (by omega) (by omega) (fun b2 b2b => ?_) (fun b2 => ?_)
  · refine jr_ifF_eq (n := 8) (t := 18) dX8_fate_5 rfl (by decide) (by decide) (by decide) ?_
    refine jr_iload_n (n := 9) dX8_fate_8 rfl rfl ?_
    refine jr_iconst (n := 10) dX8_fate_9 rfl ?_
    refine jr_bipush (n := 12) dX8_fate_10 rfl (by decide) ?_
    refine jr_cS3 (n := 15) (ν := mX8_isIn) dX8_fate_12 rfl lX8_92 kX8_isIn iX8_isIn (Nat.le_of_ble_eq_true rfl) (Nat.le_of_ble_eq_true rfl) rfl ?_
    refine e_isIn (by omega) (by omega) (by omega) (fun b12 b12b => ?_) (fun b12 => ?_)
    · refine jr_ifT_ne (t := 22) dX8_fate_15 (by decide) (by decide) (by decide) ?_
      refine jr_aload_n (n := 23) dX8_fate_22 rfl rfl ?_
      refine jr_getR (n := 26) dX8_fate_23 rfl fX8_28 rfl (by decide) (by decide) rfl ?_
      refine jr_iload_n (n := 27) dX8_fate_26 rfl rfl ?_
      refine jr_iald (n := 28) dX8_fate_27 rfl rfl (by decide) (by omega) (by omega) ?_
      refine jr_istore3 (n := 29) dX8_fate_28 rfl (by decide) rfl ?_
      refine jr_aload_n (n := 30) dX8_fate_29 rfl rfl ?_
      refine jr_getR (n := 33) dX8_fate_30 rfl fX8_28 rfl (by decide) (by decide) rfl ?_
      refine jr_iload_n (n := 34) dX8_fate_33 rfl rfl ?_
      refine jr_iload_n (n := 35) dX8_fate_34 rfl rfl ?_
      refine jr_iast (n := 36) dX8_fate_35 rfl rfl (by decide) (by omega) (by omega) ?_
      have hr := jn3 hI k (by omega) (by omega)
      refine jr_iload_n (n := 37) dX8_fate_36 rfl rfl ?_
      refine jr_i2l (n := 38) dX8_fate_37 rfl (by omega) ?_
      refine jr_lret dX8_fate_38 rfl ?_
      first | exact hB (by omega) | exact h (by omega) (by omega) (by omega) (by omega)
    · refine jr_ifF_ne (n := 18) (t := 22) dX8_fate_15 rfl (by decide) (by decide) (by decide) ?_
      refine jr_ldc2 (n := 21) dX8_fate_18 rfl rfl qX8_107 vX8_107 ?_
      refine jr_lret dX8_fate_21 rfl ?_
      first | exact hB (by omega) | exact h (by omega) (by omega) (by omega) (by omega)
  · refine jr_ifT_eq (t := 18) dX8_fate_5 (by decide) (by decide) (by decide) ?_
    refine jr_ldc2 (n := 21) dX8_fate_18 rfl rfl qX8_107 vX8_107 ?_
    refine jr_lret dX8_fate_21 rfl ?_
    first | exact hB (by omega) | exact h (by omega) (by omega) (by omega) (by omega)

theorem e_isOf {G : jG} {d : Nat} {M : jMem} {Q : Option Value → jMem → Prop} (hI : jO M) {k v : Int} (hk : jR k) (hv : jR v) (hB : ¬ ((0 ≤ k ∧ k < M 8 8) ∧ (0 ≤ v ∧ v ≤ 4)) → Q (some (.long (jL (-9000000000000000001)))) M) (h : 0 ≤ k → k < M 8 8 → 0 ≤ v → v ≤ 4 → Q (some (.long (jL (if v = 0 ∨ v = M 45 k ∨ (v = 3 ∧ M 45 k = 4) then 1 else 0)))) M) : jN G mX8_isOf (d + 2) [.ref (jad G 8), .int (jI k), .int (jI v)] M Q := by
  show jM G mX8_isOf (d + 2) 0 [.ref (jad G 8), .int (jI k), .int (jI v), .null] [] M Q
  have hz := jn1 hI
  refine jr_aload_n (n := 1) dX8_isOf_0 rfl rfl ?_
  refine jr_iload_n (n := 2) dX8_isOf_1 rfl rfl ?_
  refine jr_cV1 (n := 5) (ci := 8) (ν := mX8_isWitness) dX8_isOf_2 rfl lX8_115 kX8_isWitness iX8_isWitness rfl ⟨_, rfl, rfl⟩ (by decide) (Nat.le_of_ble_eq_true rfl) (Nat.le_of_ble_eq_true rfl) rfl ?_
  refine e_isWitness (by omega) (by omega) (fun b2 b2b => ?_) (fun b2 => ?_)
  · refine jr_ifF_eq (n := 8) (t := 17) dX8_isOf_5 rfl (by decide) (by decide) (by decide) ?_
    refine jr_iload_n (n := 9) dX8_isOf_8 rfl rfl ?_
    refine jr_iconst (n := 10) dX8_isOf_9 rfl ?_
    refine jr_iconst (n := 11) dX8_isOf_10 rfl ?_
    refine jr_cS3 (n := 14) (ν := mX8_isIn) dX8_isOf_11 rfl lX8_92 kX8_isIn iX8_isIn (Nat.le_of_ble_eq_true rfl) (Nat.le_of_ble_eq_true rfl) rfl ?_
    refine e_isIn (by omega) (by omega) (by omega) (fun b11 b11b => ?_) (fun b11 => ?_)
    · refine jr_ifT_ne (t := 21) dX8_isOf_14 (by decide) (by decide) (by decide) ?_
      refine jr_aload_n (n := 22) dX8_isOf_21 rfl rfl ?_
      refine jr_getR (n := 25) dX8_isOf_22 rfl fX8_31 rfl (by decide) (by decide) rfl ?_
      refine jr_iload_n (n := 26) dX8_isOf_25 rfl rfl ?_
      refine jr_iald (n := 27) dX8_isOf_26 rfl rfl (by decide) (by omega) (by omega) ?_
      have hr := jn9 hI k (by omega) (by omega)
      refine jr_istore3 (n := 28) dX8_isOf_27 rfl (by decide) rfl ?_
      refine jr_iload_n (n := 29) dX8_isOf_28 rfl rfl ?_
      refine jr_if_eq (n := 32) (t := 47) dX8_isOf_29 (by decide) rfl (by omega) (fun b29 => ?_) (fun b29 => ?_)
      · refine jr_lconst (n := 48) (x := 1) dX8_isOf_47 rfl (by decide) ?_
        refine jr_goto (t := 52) dX8_isOf_48 (by decide) ?_
        refine jr_lret dX8_isOf_52 rfl ?_
        first | exact hB (by omega) | (have h := h (by omega) (by omega) (by omega) (by omega); rw [if_pos (by omega)] at h; exact h) | (have h := h (by omega) (by omega) (by omega) (by omega); rw [if_neg (by omega)] at h; exact h)
      · refine jr_iload_n (n := 33) dX8_isOf_32 rfl rfl ?_
        refine jr_iload_n (n := 34) dX8_isOf_33 rfl rfl ?_
        refine jr_icmp_eq (n := 37) (t := 47) dX8_isOf_34 (by decide) rfl (by omega) (by omega) (fun b34 => ?_) (fun b34 => ?_)
        · refine jr_lconst (n := 48) (x := 1) dX8_isOf_47 rfl (by decide) ?_
          refine jr_goto (t := 52) dX8_isOf_48 (by decide) ?_
          refine jr_lret dX8_isOf_52 rfl ?_
          first | exact hB (by omega) | (have h := h (by omega) (by omega) (by omega) (by omega); rw [if_pos (by omega)] at h; exact h) | (have h := h (by omega) (by omega) (by omega) (by omega); rw [if_neg (by omega)] at h; exact h)
        · refine jr_iload_n (n := 38) dX8_isOf_37 rfl rfl ?_
          refine jr_iconst (n := 39) dX8_isOf_38 rfl ?_
          refine jr_icmp_ne (n := 42) (t := 51) dX8_isOf_39 (by decide) rfl (by omega) (by omega) (fun b39 => ?_) (fun b39 => ?_)
          · refine jr_lconst (n := 52) (x := 0) dX8_isOf_51 rfl (by decide) ?_
            refine jr_lret dX8_isOf_52 rfl ?_
            first | exact hB (by omega) | (have h := h (by omega) (by omega) (by omega) (by omega); rw [if_pos (by omega)] at h; exact h) | (have h := h (by omega) (by omega) (by omega) (by omega); rw [if_neg (by omega)] at h; exact h)
          · refine jr_iload_n (n := 43) dX8_isOf_42 rfl rfl ?_
            refine jr_iconst (n := 44) dX8_isOf_43 rfl ?_
            refine jr_icmp_ne (n := 47) (t := 51) dX8_isOf_44 (by decide) rfl (by omega) (by omega) (fun b44 => ?_) (fun b44 => ?_)
            · refine jr_lconst (n := 52) (x := 0) dX8_isOf_51 rfl (by decide) ?_
              refine jr_lret dX8_isOf_52 rfl ?_
              first | exact hB (by omega) | (have h := h (by omega) (by omega) (by omega) (by omega); rw [if_pos (by omega)] at h; exact h) | (have h := h (by omega) (by omega) (by omega) (by omega); rw [if_neg (by omega)] at h; exact h)
            · refine jr_lconst (n := 48) (x := 1) dX8_isOf_47 rfl (by decide) ?_
              refine jr_goto (t := 52) dX8_isOf_48 (by decide) ?_
              refine jr_lret dX8_isOf_52 rfl ?_
              first | exact hB (by omega) | (have h := h (by omega) (by omega) (by omega) (by omega); rw [if_pos (by omega)] at h; exact h) | (have h := h (by omega) (by omega) (by omega) (by omega); rw [if_neg (by omega)] at h; exact h)
    · refine jr_ifF_ne (n := 17) (t := 21) dX8_isOf_14 rfl (by decide) (by decide) (by decide) ?_
      refine jr_ldc2 (n := 20) dX8_isOf_17 rfl rfl qX8_107 vX8_107 ?_
      refine jr_lret dX8_isOf_20 rfl ?_
      first | exact hB (by omega) | (have h := h (by omega) (by omega) (by omega) (by omega); rw [if_pos (by omega)] at h; exact h) | (have h := h (by omega) (by omega) (by omega) (by omega); rw [if_neg (by omega)] at h; exact h)
  · refine jr_ifT_eq (t := 17) dX8_isOf_5 (by decide) (by decide) (by decide) ?_
    refine jr_ldc2 (n := 20) dX8_isOf_17 rfl rfl qX8_107 vX8_107 ?_
    refine jr_lret dX8_isOf_20 rfl ?_
    first | exact hB (by omega) | (have h := h (by omega) (by omega) (by omega) (by omega); rw [if_pos (by omega)] at h; exact h) | (have h := h (by omega) (by omega) (by omega) (by omega); rw [if_neg (by omega)] at h; exact h)

theorem c_enterW {G : jG} {d : Nat} {M : jMem} {Q : Option Value → jMem → Prop} {a b : Int} (hz : 0 ≤ M 2 3 ∧ M 2 3 < 10) (h : Q (some (.int (jI (M 2 3)))) (jup (jup (jup M 2 3 (M 2 3 + 1)) 18 (M 2 3) a) 19 (M 2 3) b)) : jN G mX4_enter (d) [.ref (jad G 2), .int (jI a), .int (jI b)] M Q := by
  show jM G mX4_enter (d) 0 [.ref (jad G 2), .int (jI a), .int (jI b), .null] [] M Q
  refine jr_aload_n (n := 1) dX4_enter_0 rfl rfl ?_
  refine jr_getI (n := 4) (i := 3) rfl dX4_enter_1 rfl fX4_21 rfl (by decide) (by decide) rfl ?_
  refine jr_istore3 (n := 5) dX4_enter_4 rfl (by decide) rfl ?_
  refine jr_aload_n (n := 6) dX4_enter_5 rfl rfl ?_
  refine jr_dup (n := 7) dX4_enter_6 rfl rfl ?_
  refine jr_getI (n := 10) (i := 3) rfl dX4_enter_7 rfl fX4_21 rfl (by decide) (by decide) rfl ?_
  refine jr_iconst (n := 11) dX4_enter_10 rfl ?_
  refine jr_iadd (n := 12) dX4_enter_11 rfl ?_
  refine jr_putI (n := 15) (i := 3) rfl dX4_enter_12 rfl fX4_21 wX4_3 rfl (by decide) (by decide) rfl ?_
  refine jr_aload_n (n := 16) dX4_enter_15 rfl rfl ?_
  refine jr_getR (n := 19) dX4_enter_16 rfl fX4_9 rfl (by decide) (by decide) rfl ?_
  refine jr_iload_n (n := 20) dX4_enter_19 rfl rfl ?_
  refine jr_iload_n (n := 21) dX4_enter_20 rfl rfl ?_
  refine jr_iast (n := 22) dX4_enter_21 rfl rfl (by decide) (by omega) (by omega) ?_
  refine jr_aload_n (n := 23) dX4_enter_22 rfl rfl ?_
  refine jr_getR (n := 26) dX4_enter_23 rfl fX4_15 rfl (by decide) (by decide) rfl ?_
  refine jr_iload_n (n := 27) dX4_enter_26 rfl rfl ?_
  refine jr_iload_n (n := 28) dX4_enter_27 rfl rfl ?_
  refine jr_iast (n := 29) dX4_enter_28 rfl rfl (by decide) (by omega) (by omega) ?_
  refine jr_iload_n (n := 30) dX4_enter_29 rfl rfl ?_
  refine jr_iret dX4_enter_30 rfl ?_
  exact h

theorem c_witness {G : jG} {d : Nat} {M : jMem} {Q : Option Value → jMem → Prop} (hI : jK M) {a b : Int} (ha : jR a) (hb : jR b) (hB : ¬ ((0 ≤ a ∧ a ≤ 4) ∧ (0 ≤ b ∧ b ≤ 12)) → Q (some (.long (jL (-9000000000000000001)))) M) (hF : ((0 ≤ a ∧ a ≤ 4) ∧ (0 ≤ b ∧ b ≤ 12)) → M 2 3 = 10 → Q (some (.long (jL (-9000000000000000003)))) M) (h : 0 ≤ a → a ≤ 4 → 0 ≤ b → b ≤ 12 → M 2 3 < 10 → Q (some (.long (jL (M 2 3)))) (jup (jup (jup M 2 3 (M 2 3 + 1)) 18 (M 2 3) a) 19 (M 2 3) b)) : jN G mX7_witness (d + 2) [.ref (jad G 0), .int (jI a), .int (jI b)] M Q := by
  show jM G mX7_witness (d + 2) 0 [.ref (jad G 0), .int (jI a), .int (jI b)] [] M Q
  have hz := jn1 hI
  refine jr_iload_n (n := 1) dX7_witness_0 rfl rfl ?_
  refine jr_iconst (n := 2) dX7_witness_1 rfl ?_
  refine jr_iconst (n := 3) dX7_witness_2 rfl ?_
  refine jr_cS3 (n := 6) (ν := mX7_isWithin) dX7_witness_3 rfl lX7_66 kX7_isWithin iX7_isWithin (Nat.le_of_ble_eq_true rfl) (Nat.le_of_ble_eq_true rfl) rfl ?_
  refine c_isWithin (by omega) (by omega) (by omega) (fun b3 b3b => ?_) (fun b3 => ?_)
  · refine jr_ifF_eq (n := 9) (t := 19) dX7_witness_6 rfl (by decide) (by decide) (by decide) ?_
    refine jr_iload_n (n := 10) dX7_witness_9 rfl rfl ?_
    refine jr_iconst (n := 11) dX7_witness_10 rfl ?_
    refine jr_bipush (n := 13) dX7_witness_11 rfl (by decide) ?_
    refine jr_cS3 (n := 16) (ν := mX7_isWithin) dX7_witness_13 rfl lX7_66 kX7_isWithin iX7_isWithin (Nat.le_of_ble_eq_true rfl) (Nat.le_of_ble_eq_true rfl) rfl ?_
    refine c_isWithin (by omega) (by omega) (by omega) (fun b13 b13b => ?_) (fun b13 => ?_)
    · refine jr_ifT_ne (t := 23) dX7_witness_16 (by decide) (by decide) (by decide) ?_
      refine jr_aload_n (n := 24) dX7_witness_23 rfl rfl ?_
      refine jr_getR (n := 27) dX7_witness_24 rfl fX7_19 rfl (by decide) (by decide) rfl ?_
      refine jr_getI (n := 30) (i := 3) rfl dX7_witness_27 rfl fX7_85 rfl (by decide) (by decide) rfl ?_
      refine jr_bipush (n := 32) dX7_witness_30 rfl (by decide) ?_
      refine jr_icmp_lt (n := 35) (t := 39) dX7_witness_32 (by decide) rfl (by omega) (by omega) (fun b32 => ?_) (fun b32 => ?_)
      · refine jr_aload_n (n := 40) dX7_witness_39 rfl rfl ?_
        refine jr_getR (n := 43) dX7_witness_40 rfl fX7_19 rfl (by decide) (by decide) rfl ?_
        refine jr_iload_n (n := 44) dX7_witness_43 rfl rfl ?_
        refine jr_iload_n (n := 45) dX7_witness_44 rfl rfl ?_
        refine jr_cV2 (n := 48) (ci := 4) (ν := mX4_enter) dX7_witness_45 rfl lX7_86 kX4_enter iX4_enter rfl ⟨_, rfl, rfl⟩ (by decide) (Nat.le_of_ble_eq_true rfl) (Nat.le_of_ble_eq_true rfl) rfl ?_
        refine c_enterW (by omega) ?_
        refine jr_i2l (n := 49) dX7_witness_48 rfl (by omega) ?_
        refine jr_lret dX7_witness_49 rfl ?_
        first | exact hB (by omega) | exact hF (by omega) (by omega) | exact h (by omega) (by omega) (by omega) (by omega) (by omega)
      · refine jr_ldc2 (n := 38) dX7_witness_35 rfl rfl qX7_79 vX7_79 ?_
        refine jr_lret dX7_witness_38 rfl ?_
        first | exact hB (by omega) | exact hF (by omega) (by omega) | exact h (by omega) (by omega) (by omega) (by omega) (by omega)
    · refine jr_ifF_ne (n := 19) (t := 23) dX7_witness_16 rfl (by decide) (by decide) (by decide) ?_
      refine jr_ldc2 (n := 22) dX7_witness_19 rfl rfl qX7_70 vX7_70 ?_
      refine jr_lret dX7_witness_22 rfl ?_
      first | exact hB (by omega) | exact hF (by omega) (by omega) | exact h (by omega) (by omega) (by omega) (by omega) (by omega)
  · refine jr_ifT_eq (t := 19) dX7_witness_6 (by decide) (by decide) (by decide) ?_
    refine jr_ldc2 (n := 22) dX7_witness_19 rfl rfl qX7_70 vX7_70 ?_
    refine jr_lret dX7_witness_22 rfl ?_
    first | exact hB (by omega) | exact hF (by omega) (by omega) | exact h (by omega) (by omega) (by omega) (by omega) (by omega)

theorem e_witness {G : jG} {d : Nat} {M : jMem} {Q : Option Value → jMem → Prop} (hI : jO M) {a b : Int} (ha : jR a) (hb : jR b) (hB : ¬ ((0 ≤ a ∧ a ≤ 4) ∧ (0 ≤ b ∧ b ≤ 12)) → Q (some (.long (jL (-9000000000000000001)))) M) (hF : ((0 ≤ a ∧ a ≤ 4) ∧ (0 ≤ b ∧ b ≤ 12)) → M 8 8 = 10 → Q (some (.long (jL (-9000000000000000003)))) M) (h : 0 ≤ a → a ≤ 4 → 0 ≤ b → b ≤ 12 → M 8 8 < 10 → Q (some (.long (jL (M 8 8 + 1 - 1)))) (jup (jup (jup M 45 (M 8 8) a) 46 (M 8 8) b) 8 8 (M 8 8 + 1))) : jN G mX8_witness (d + 2) [.ref (jad G 8), .int (jI a), .int (jI b)] M Q := by
  show jM G mX8_witness (d + 2) 0 [.ref (jad G 8), .int (jI a), .int (jI b)] [] M Q
  have hz := jn1 hI
  refine jr_iload_n (n := 1) dX8_witness_0 rfl rfl ?_
  refine jr_iconst (n := 2) dX8_witness_1 rfl ?_
  refine jr_iconst (n := 3) dX8_witness_2 rfl ?_
  refine jr_cS3 (n := 6) (ν := mX8_isIn) dX8_witness_3 rfl lX8_92 kX8_isIn iX8_isIn (Nat.le_of_ble_eq_true rfl) (Nat.le_of_ble_eq_true rfl) rfl ?_
  refine e_isIn (by omega) (by omega) (by omega) (fun b3 b3b => ?_) (fun b3 => ?_)
  · refine jr_ifF_eq (n := 9) (t := 19) dX8_witness_6 rfl (by decide) (by decide) (by decide) ?_
    refine jr_iload_n (n := 10) dX8_witness_9 rfl rfl ?_
    refine jr_iconst (n := 11) dX8_witness_10 rfl ?_
    refine jr_bipush (n := 13) dX8_witness_11 rfl (by decide) ?_
    refine jr_cS3 (n := 16) (ν := mX8_isIn) dX8_witness_13 rfl lX8_92 kX8_isIn iX8_isIn (Nat.le_of_ble_eq_true rfl) (Nat.le_of_ble_eq_true rfl) rfl ?_
    refine e_isIn (by omega) (by omega) (by omega) (fun b13 b13b => ?_) (fun b13 => ?_)
    · refine jr_ifT_ne (t := 23) dX8_witness_16 (by decide) (by decide) (by decide) ?_
      refine jr_aload_n (n := 24) dX8_witness_23 rfl rfl ?_
      refine jr_getI (n := 27) (i := 8) rfl dX8_witness_24 rfl fX8_100 rfl (by decide) (by decide) rfl ?_
      refine jr_bipush (n := 29) dX8_witness_27 rfl (by decide) ?_
      refine jr_icmp_ne (n := 32) (t := 36) dX8_witness_29 (by decide) rfl (by omega) (by omega) (fun b29 => ?_) (fun b29 => ?_)
      · refine jr_aload_n (n := 37) dX8_witness_36 rfl rfl ?_
        refine jr_getR (n := 40) dX8_witness_37 rfl fX8_31 rfl (by decide) (by decide) rfl ?_
        refine jr_aload_n (n := 41) dX8_witness_40 rfl rfl ?_
        refine jr_getI (n := 44) (i := 8) rfl dX8_witness_41 rfl fX8_100 rfl (by decide) (by decide) rfl ?_
        refine jr_iload_n (n := 45) dX8_witness_44 rfl rfl ?_
        refine jr_iast (n := 46) dX8_witness_45 rfl rfl (by decide) (by omega) (by omega) ?_
        refine jr_aload_n (n := 47) dX8_witness_46 rfl rfl ?_
        refine jr_getR (n := 50) dX8_witness_47 rfl fX8_34 rfl (by decide) (by decide) rfl ?_
        refine jr_aload_n (n := 51) dX8_witness_50 rfl rfl ?_
        refine jr_getI (n := 54) (i := 8) rfl dX8_witness_51 rfl fX8_100 rfl (by decide) (by decide) rfl ?_
        rw [jup_ne (show (8 : Nat) ≠ 45 by decide)]
        refine jr_iload_n (n := 55) dX8_witness_54 rfl rfl ?_
        refine jr_iast (n := 56) dX8_witness_55 rfl rfl (by decide) (by omega) (by omega) ?_
        refine jr_aload_n (n := 57) dX8_witness_56 rfl rfl ?_
        refine jr_dup (n := 58) dX8_witness_57 rfl rfl ?_
        refine jr_getI (n := 61) (i := 8) rfl dX8_witness_58 rfl fX8_100 rfl (by decide) (by decide) rfl ?_
        rw [jup_ne (show (8 : Nat) ≠ 46 by decide)]
        rw [jup_ne (show (8 : Nat) ≠ 45 by decide)]
        refine jr_iconst (n := 62) dX8_witness_61 rfl ?_
        refine jr_iadd (n := 63) dX8_witness_62 rfl ?_
        refine jr_putI (n := 66) (i := 8) rfl dX8_witness_63 rfl fX8_100 wX8_8 rfl (by decide) (by decide) rfl ?_
        refine jr_aload_n (n := 67) dX8_witness_66 rfl rfl ?_
        refine jr_getI (n := 70) (i := 8) rfl dX8_witness_67 rfl fX8_100 rfl (by decide) (by decide) rfl ?_
        rw [jup_at]
        refine jr_iconst (n := 71) dX8_witness_70 rfl ?_
        refine jr_isub (n := 72) dX8_witness_71 rfl ?_
        refine jr_i2l (n := 73) dX8_witness_72 rfl (by omega) ?_
        refine jr_lret dX8_witness_73 rfl ?_
        first | exact hB (by omega) | exact hF (by omega) (by omega) | exact h (by omega) (by omega) (by omega) (by omega) (by omega)
      · refine jr_ldc2 (n := 35) dX8_witness_32 rfl rfl qX8_109 vX8_109 ?_
        refine jr_lret dX8_witness_35 rfl ?_
        first | exact hB (by omega) | exact hF (by omega) (by omega) | exact h (by omega) (by omega) (by omega) (by omega) (by omega)
    · refine jr_ifF_ne (n := 19) (t := 23) dX8_witness_16 rfl (by decide) (by decide) (by decide) ?_
      refine jr_ldc2 (n := 22) dX8_witness_19 rfl rfl qX8_107 vX8_107 ?_
      refine jr_lret dX8_witness_22 rfl ?_
      first | exact hB (by omega) | exact hF (by omega) (by omega) | exact h (by omega) (by omega) (by omega) (by omega) (by omega)
  · refine jr_ifT_eq (t := 19) dX8_witness_6 (by decide) (by decide) (by decide) ?_
    refine jr_ldc2 (n := 22) dX8_witness_19 rfl rfl qX8_107 vX8_107 ?_
    refine jr_lret dX8_witness_22 rfl ?_
    first | exact hB (by omega) | exact hF (by omega) (by omega) | exact h (by omega) (by omega) (by omega) (by omega) (by omega)

theorem c_enterC {G : jG} {d : Nat} {M : jMem} {Q : Option Value → jMem → Prop} {a b e : Int} (ha : 0 ≤ a ∧ a < 3) (hz : 0 ≤ M 1 8 ∧ M 1 8 < 12) (hs : 0 ≤ M 17 a ∧ M 17 a < 6) (h : Q (some (.int (jI (M 1 8)))) (jup (jup (jup (jup (jup (jup (jup M 1 8 (M 1 8 + 1)) 11 (M 1 8) b) 12 (M 1 8) e) 14 (M 1 8) (-1)) 16 (a * 6 + M 17 a) (M 1 8)) 17 a (M 17 a + 1)) 10 (M 1 8) a)) : jN G mX2_enter (d + 1) [.ref (jad G 1), .int (jI a), .int (jI b), .int (jI e)] M Q := by
  show jM G mX2_enter (d + 1) 0 [.ref (jad G 1), .int (jI a), .int (jI b), .int (jI e), .null] [] M Q
  refine jr_aload_n (n := 1) dX2_enter_0 rfl rfl ?_
  refine jr_getI (n := 4) (i := 8) rfl dX2_enter_1 rfl fX2_36 rfl (by decide) (by decide) rfl ?_
  refine jr_istore4 (n := 6) dX2_enter_4 rfl (by decide) rfl ?_
  refine jr_aload_n (n := 7) dX2_enter_6 rfl rfl ?_
  refine jr_dup (n := 8) dX2_enter_7 rfl rfl ?_
  refine jr_getI (n := 11) (i := 8) rfl dX2_enter_8 rfl fX2_36 rfl (by decide) (by decide) rfl ?_
  refine jr_iconst (n := 12) dX2_enter_11 rfl ?_
  refine jr_iadd (n := 13) dX2_enter_12 rfl ?_
  refine jr_putI (n := 16) (i := 8) rfl dX2_enter_13 rfl fX2_36 wX2_8 rfl (by decide) (by decide) rfl ?_
  refine jr_aload_n (n := 17) dX2_enter_16 rfl rfl ?_
  refine jr_getR (n := 20) dX2_enter_17 rfl fX2_15 rfl (by decide) (by decide) rfl ?_
  refine jr_iload (n := 22) dX2_enter_20 rfl rfl ?_
  refine jr_iload_n (n := 23) dX2_enter_22 rfl rfl ?_
  refine jr_iast (n := 24) dX2_enter_23 rfl rfl (by decide) (by omega) (by omega) ?_
  refine jr_aload_n (n := 25) dX2_enter_24 rfl rfl ?_
  refine jr_getR (n := 28) dX2_enter_25 rfl fX2_18 rfl (by decide) (by decide) rfl ?_
  refine jr_iload (n := 30) dX2_enter_28 rfl rfl ?_
  refine jr_iload_n (n := 31) dX2_enter_30 rfl rfl ?_
  refine jr_iast (n := 32) dX2_enter_31 rfl rfl (by decide) (by omega) (by omega) ?_
  refine jr_aload_n (n := 33) dX2_enter_32 rfl rfl ?_
  refine jr_getR (n := 36) dX2_enter_33 rfl fX2_24 rfl (by decide) (by decide) rfl ?_
  refine jr_iload (n := 38) dX2_enter_36 rfl rfl ?_
  refine jr_iconst (n := 39) dX2_enter_38 rfl ?_
  refine jr_iast (n := 40) dX2_enter_39 rfl rfl (by decide) (by omega) (by omega) ?_
  refine jr_aload_n (n := 41) dX2_enter_40 rfl rfl ?_
  refine jr_iload (n := 43) dX2_enter_41 rfl rfl ?_
  refine jr_iload_n (n := 44) dX2_enter_43 rfl rfl ?_
  refine jr_cV2 (n := 47) (ci := 2) (ν := mX2_joinList) dX2_enter_44 rfl lX2_40 kX2_joinList iX2_joinList rfl ⟨_, rfl, rfl⟩ (by decide) (Nat.le_of_ble_eq_true rfl) (Nat.le_of_ble_eq_true rfl) rfl ?_
  refine c_joinList (by omega) (by omega) (by simp only [jup_ne (show (17 : Nat) ≠ 1 by decide), jup_ne (show (17 : Nat) ≠ 11 by decide), jup_ne (show (17 : Nat) ≠ 12 by decide), jup_ne (show (17 : Nat) ≠ 14 by decide)]; omega) ?_
  
  refine jr_iload (n := 49) dX2_enter_47 rfl rfl ?_
  refine jr_iret dX2_enter_49 rfl ?_
  simp only [jup_ne (show (17 : Nat) ≠ 1 by decide), jup_ne (show (17 : Nat) ≠ 11 by decide), jup_ne (show (17 : Nat) ≠ 12 by decide), jup_ne (show (17 : Nat) ≠ 14 by decide)]
  exact h

theorem c_newCase {G : jG} {d : Nat} {M : jMem} {Q : Option Value → jMem → Prop} (hI : jK M) {a b e : Int} (ha : jR a) (hb : jR b) (he : jR e) (hB : ¬ ((0 ≤ a ∧ a ≤ 2) ∧ (1 ≤ b ∧ b ≤ 8) ∧ (0 ≤ e ∧ e ≤ 100)) → Q (some (.long (jL (-9000000000000000001)))) M) (hF : ((0 ≤ a ∧ a ≤ 2) ∧ (1 ≤ b ∧ b ≤ 8) ∧ (0 ≤ e ∧ e ≤ 100)) → M 1 8 = 12 ∨ M 17 a = 6 → Q (some (.long (jL (-9000000000000000003)))) M) (h : 0 ≤ a → a ≤ 2 → 1 ≤ b → b ≤ 8 → 0 ≤ e → e ≤ 100 → M 1 8 < 12 → M 17 a < 6 → Q (some (.long (jL (M 1 8)))) (jup (jup (jup (jup (jup (jup (jup M 1 8 (M 1 8 + 1)) 11 (M 1 8) b) 12 (M 1 8) e) 14 (M 1 8) (-1)) 16 (a * 6 + M 17 a) (M 1 8)) 17 a (M 17 a + 1)) 10 (M 1 8) a)) : jN G mX7_newCase (d + 3) [.ref (jad G 0), .int (jI a), .int (jI b), .int (jI e)] M Q := by
  show jM G mX7_newCase (d + 3) 0 [.ref (jad G 0), .int (jI a), .int (jI b), .int (jI e)] [] M Q
  have hz := jn1 hI
  refine jr_iload_n (n := 1) dX7_newCase_0 rfl rfl ?_
  refine jr_cS1 (n := 4) (ν := mX7_isCourt) dX7_newCase_1 rfl lX7_62 kX7_isCourt iX7_isCourt (Nat.le_of_ble_eq_true rfl) (Nat.le_of_ble_eq_true rfl) rfl ?_
  refine c_isCourt (by omega) (fun b1 b1b => ?_) (fun b1 => ?_)
  · refine jr_ifF_eq (n := 7) (t := 27) dX7_newCase_4 rfl (by decide) (by decide) (by decide) ?_
    refine jr_iload_n (n := 8) dX7_newCase_7 rfl rfl ?_
    refine jr_iconst (n := 9) dX7_newCase_8 rfl ?_
    refine jr_bipush (n := 11) dX7_newCase_9 rfl (by decide) ?_
    refine jr_cS3 (n := 14) (ν := mX7_isWithin) dX7_newCase_11 rfl lX7_66 kX7_isWithin iX7_isWithin (Nat.le_of_ble_eq_true rfl) (Nat.le_of_ble_eq_true rfl) rfl ?_
    refine c_isWithin (by omega) (by omega) (by omega) (fun b11 b11b => ?_) (fun b11 => ?_)
    · refine jr_ifF_eq (n := 17) (t := 27) dX7_newCase_14 rfl (by decide) (by decide) (by decide) ?_
      refine jr_iload_n (n := 18) dX7_newCase_17 rfl rfl ?_
      refine jr_iconst (n := 19) dX7_newCase_18 rfl ?_
      refine jr_bipush (n := 21) dX7_newCase_19 rfl (by decide) ?_
      refine jr_cS3 (n := 24) (ν := mX7_isWithin) dX7_newCase_21 rfl lX7_66 kX7_isWithin iX7_isWithin (Nat.le_of_ble_eq_true rfl) (Nat.le_of_ble_eq_true rfl) rfl ?_
      refine c_isWithin (by omega) (by omega) (by omega) (fun b21 b21b => ?_) (fun b21 => ?_)
      · refine jr_ifT_ne (t := 31) dX7_newCase_24 (by decide) (by decide) (by decide) ?_
        have hs := jn2 hI a (by omega) (by omega)
        refine jr_aload_n (n := 32) dX7_newCase_31 rfl rfl ?_
        refine jr_getR (n := 35) dX7_newCase_32 rfl fX7_10 rfl (by decide) (by decide) rfl ?_
        refine jr_getI (n := 38) (i := 8) rfl dX7_newCase_35 rfl fX7_72 rfl (by decide) (by decide) rfl ?_
        refine jr_bipush (n := 40) dX7_newCase_38 rfl (by decide) ?_
        refine jr_icmp_ge (n := 43) (t := 57) dX7_newCase_40 (by decide) rfl (by omega) (by omega) (fun b40 => ?_) (fun b40 => ?_)
        · refine jr_ldc2 (n := 60) dX7_newCase_57 rfl rfl qX7_79 vX7_79 ?_
          refine jr_lret dX7_newCase_60 rfl ?_
          first | exact hB (by omega) | exact hF (by omega) (by omega) | exact h (by omega) (by omega) (by omega) (by omega) (by omega) (by omega) (by omega) (by omega)
        · refine jr_aload_n (n := 44) dX7_newCase_43 rfl rfl ?_
          refine jr_getR (n := 47) dX7_newCase_44 rfl fX7_10 rfl (by decide) (by decide) rfl ?_
          refine jr_getR (n := 50) dX7_newCase_47 rfl fX7_76 rfl (by decide) (by decide) rfl ?_
          refine jr_iload_n (n := 51) dX7_newCase_50 rfl rfl ?_
          refine jr_iald (n := 52) dX7_newCase_51 rfl rfl (by decide) (by omega) (by omega) ?_
          refine jr_bipush (n := 54) dX7_newCase_52 rfl (by decide) ?_
          refine jr_icmp_lt (n := 57) (t := 61) dX7_newCase_54 (by decide) rfl (by omega) (by omega) (fun b54 => ?_) (fun b54 => ?_)
          · refine jr_aload_n (n := 62) dX7_newCase_61 rfl rfl ?_
            refine jr_getR (n := 65) dX7_newCase_62 rfl fX7_10 rfl (by decide) (by decide) rfl ?_
            refine jr_iload_n (n := 66) dX7_newCase_65 rfl rfl ?_
            refine jr_iload_n (n := 67) dX7_newCase_66 rfl rfl ?_
            refine jr_iload_n (n := 68) dX7_newCase_67 rfl rfl ?_
            refine jr_cV3 (n := 71) (ci := 2) (ν := mX2_enter) dX7_newCase_68 rfl lX7_81 kX2_enter iX2_enter rfl ⟨_, rfl, rfl⟩ (by decide) (Nat.le_of_ble_eq_true rfl) (Nat.le_of_ble_eq_true rfl) rfl ?_
            refine c_enterC (by omega) (by omega) (by omega) ?_
            refine jr_i2l (n := 72) dX7_newCase_71 rfl (by omega) ?_
            refine jr_lret dX7_newCase_72 rfl ?_
            first | exact hB (by omega) | exact hF (by omega) (by omega) | exact h (by omega) (by omega) (by omega) (by omega) (by omega) (by omega) (by omega) (by omega)
          · refine jr_ldc2 (n := 60) dX7_newCase_57 rfl rfl qX7_79 vX7_79 ?_
            refine jr_lret dX7_newCase_60 rfl ?_
            first | exact hB (by omega) | exact hF (by omega) (by omega) | exact h (by omega) (by omega) (by omega) (by omega) (by omega) (by omega) (by omega) (by omega)
      · refine jr_ifF_ne (n := 27) (t := 31) dX7_newCase_24 rfl (by decide) (by decide) (by decide) ?_
        refine jr_ldc2 (n := 30) dX7_newCase_27 rfl rfl qX7_70 vX7_70 ?_
        refine jr_lret dX7_newCase_30 rfl ?_
        first | exact hB (by omega) | exact hF (by omega) (by omega) | exact h (by omega) (by omega) (by omega) (by omega) (by omega) (by omega) (by omega) (by omega)
    · refine jr_ifT_eq (t := 27) dX7_newCase_14 (by decide) (by decide) (by decide) ?_
      refine jr_ldc2 (n := 30) dX7_newCase_27 rfl rfl qX7_70 vX7_70 ?_
      refine jr_lret dX7_newCase_30 rfl ?_
      first | exact hB (by omega) | exact hF (by omega) (by omega) | exact h (by omega) (by omega) (by omega) (by omega) (by omega) (by omega) (by omega) (by omega)
  · refine jr_ifT_eq (t := 27) dX7_newCase_4 (by decide) (by decide) (by decide) ?_
    refine jr_ldc2 (n := 30) dX7_newCase_27 rfl rfl qX7_70 vX7_70 ?_
    refine jr_lret dX7_newCase_30 rfl ?_
    first | exact hB (by omega) | exact hF (by omega) (by omega) | exact h (by omega) (by omega) (by omega) (by omega) (by omega) (by omega) (by omega) (by omega)

theorem e_enter {G : jG} {d : Nat} {M : jMem} {Q : Option Value → jMem → Prop} {k c : Int} (hk : 0 ≤ k ∧ k < 12) (hc : 0 ≤ c ∧ c < 3) (hs : 0 ≤ M 38 c ∧ M 38 c < 6) (h : Q none (jup (jup (jup M 40 k c) 39 (6 * c + M 38 c) k) 38 c (M 38 c + 1))) : jN G mX8_enter (d) [.ref (jad G 8), .int (jI k), .int (jI c)] M Q := by
  show jM G mX8_enter (d) 0 [.ref (jad G 8), .int (jI k), .int (jI c)] [] M Q
  refine jr_aload_n (n := 1) dX8_enter_0 rfl rfl ?_
  refine jr_getR (n := 4) dX8_enter_1 rfl fX8_16 rfl (by decide) (by decide) rfl ?_
  refine jr_iload_n (n := 5) dX8_enter_4 rfl rfl ?_
  refine jr_iload_n (n := 6) dX8_enter_5 rfl rfl ?_
  refine jr_iast (n := 7) dX8_enter_6 rfl rfl (by decide) (by omega) (by omega) ?_
  refine jr_aload_n (n := 8) dX8_enter_7 rfl rfl ?_
  refine jr_getR (n := 11) dX8_enter_8 rfl fX8_13 rfl (by decide) (by decide) rfl ?_
  refine jr_bipush (n := 13) dX8_enter_11 rfl (by decide) ?_
  refine jr_iload_n (n := 14) dX8_enter_13 rfl rfl ?_
  refine jr_imul (n := 15) dX8_enter_14 rfl ?_
  refine jr_aload_n (n := 16) dX8_enter_15 rfl rfl ?_
  refine jr_getR (n := 19) dX8_enter_16 rfl fX8_7 rfl (by decide) (by decide) rfl ?_
  refine jr_iload_n (n := 20) dX8_enter_19 rfl rfl ?_
  refine jr_iald (n := 21) dX8_enter_20 rfl rfl (by decide) (by omega) (by omega) ?_
  rw [jup_ne (show (38 : Nat) ≠ 40 by decide)]
  refine jr_iadd (n := 22) dX8_enter_21 rfl ?_
  refine jr_iload_n (n := 23) dX8_enter_22 rfl rfl ?_
  refine jr_iast (n := 24) dX8_enter_23 rfl rfl (by decide) (by omega) (by omega) ?_
  refine jr_aload_n (n := 25) dX8_enter_24 rfl rfl ?_
  refine jr_getR (n := 28) dX8_enter_25 rfl fX8_7 rfl (by decide) (by decide) rfl ?_
  refine jr_iload_n (n := 29) dX8_enter_28 rfl rfl ?_
  refine jr_dup2 (n := 30) dX8_enter_29 rfl rfl rfl ?_
  refine jr_iald (n := 31) dX8_enter_30 rfl rfl (by decide) (by omega) (by omega) ?_
  rw [jup_ne (show (38 : Nat) ≠ 39 by decide)]
  rw [jup_ne (show (38 : Nat) ≠ 40 by decide)]
  refine jr_iconst (n := 32) dX8_enter_31 rfl ?_
  refine jr_iadd (n := 33) dX8_enter_32 rfl ?_
  refine jr_iast (n := 34) dX8_enter_33 rfl rfl (by decide) (by omega) (by omega) ?_
  refine jr_vret dX8_enter_34 rfl ?_
  exact h

theorem e_newCase {G : jG} {d : Nat} {M : jMem} {Q : Option Value → jMem → Prop} (hI : jO M) {a b e : Int} (ha : jR a) (hb : jR b) (he : jR e) (hB : ¬ ((0 ≤ a ∧ a ≤ 2) ∧ (1 ≤ b ∧ b ≤ 8) ∧ (0 ≤ e ∧ e ≤ 100)) → Q (some (.long (jL (-9000000000000000001)))) M) (hF : ((0 ≤ a ∧ a ≤ 2) ∧ (1 ≤ b ∧ b ≤ 8) ∧ (0 ≤ e ∧ e ≤ 100)) → M 8 2 = 12 ∨ M 38 a = 6 → Q (some (.long (jL (-9000000000000000003)))) M) (h : 0 ≤ a → a ≤ 2 → 1 ≤ b → b ≤ 8 → 0 ≤ e → e ≤ 100 → M 8 2 < 12 → M 38 a < 6 → Q (some (.long (jL (M 8 2 + 1 - 1)))) (jup (jup (jup (jup (jup (jup (jup M 41 (M 8 2) b) 42 (M 8 2) e) 44 (M 8 2) (-1)) 40 (M 8 2) a) 39 (6 * a + M 38 a) (M 8 2)) 38 a (M 38 a + 1)) 8 2 (M 8 2 + 1))) : jN G mX8_newCase (d + 3) [.ref (jad G 8), .int (jI a), .int (jI b), .int (jI e)] M Q := by
  show jM G mX8_newCase (d + 3) 0 [.ref (jad G 8), .int (jI a), .int (jI b), .int (jI e)] [] M Q
  have hz := jn1 hI
  refine jr_iload_n (n := 1) dX8_newCase_0 rfl rfl ?_
  refine jr_cS1 (n := 4) (ν := mX8_isCourt) dX8_newCase_1 rfl lX8_103 kX8_isCourt iX8_isCourt (Nat.le_of_ble_eq_true rfl) (Nat.le_of_ble_eq_true rfl) rfl ?_
  refine e_isCourt (by omega) (fun b1 b1b => ?_) (fun b1 => ?_)
  · refine jr_ifF_eq (n := 7) (t := 27) dX8_newCase_4 rfl (by decide) (by decide) (by decide) ?_
    refine jr_iload_n (n := 8) dX8_newCase_7 rfl rfl ?_
    refine jr_iconst (n := 9) dX8_newCase_8 rfl ?_
    refine jr_bipush (n := 11) dX8_newCase_9 rfl (by decide) ?_
    refine jr_cS3 (n := 14) (ν := mX8_isIn) dX8_newCase_11 rfl lX8_92 kX8_isIn iX8_isIn (Nat.le_of_ble_eq_true rfl) (Nat.le_of_ble_eq_true rfl) rfl ?_
    refine e_isIn (by omega) (by omega) (by omega) (fun b11 b11b => ?_) (fun b11 => ?_)
    · refine jr_ifF_eq (n := 17) (t := 27) dX8_newCase_14 rfl (by decide) (by decide) (by decide) ?_
      refine jr_iload_n (n := 18) dX8_newCase_17 rfl rfl ?_
      refine jr_iconst (n := 19) dX8_newCase_18 rfl ?_
      refine jr_bipush (n := 21) dX8_newCase_19 rfl (by decide) ?_
      refine jr_cS3 (n := 24) (ν := mX8_isIn) dX8_newCase_21 rfl lX8_92 kX8_isIn iX8_isIn (Nat.le_of_ble_eq_true rfl) (Nat.le_of_ble_eq_true rfl) rfl ?_
      refine e_isIn (by omega) (by omega) (by omega) (fun b21 b21b => ?_) (fun b21 => ?_)
      · refine jr_ifT_ne (t := 31) dX8_newCase_24 (by decide) (by decide) (by decide) ?_
        have hs := jn2 hI a (by omega) (by omega)
        refine jr_aload_n (n := 32) dX8_newCase_31 rfl rfl ?_
        refine jr_getI (n := 35) (i := 2) rfl dX8_newCase_32 rfl fX8_96 rfl (by decide) (by decide) rfl ?_
        refine jr_bipush (n := 37) dX8_newCase_35 rfl (by decide) ?_
        refine jr_icmp_eq (n := 40) (t := 51) dX8_newCase_37 (by decide) rfl (by omega) (by omega) (fun b37 => ?_) (fun b37 => ?_)
        · refine jr_ldc2 (n := 54) dX8_newCase_51 rfl rfl qX8_109 vX8_109 ?_
          refine jr_lret dX8_newCase_54 rfl ?_
          first | exact hB (by omega) | exact hF (by omega) (by omega) | exact h (by omega) (by omega) (by omega) (by omega) (by omega) (by omega) (by omega) (by omega)
        · refine jr_aload_n (n := 41) dX8_newCase_40 rfl rfl ?_
          refine jr_getR (n := 44) dX8_newCase_41 rfl fX8_7 rfl (by decide) (by decide) rfl ?_
          refine jr_iload_n (n := 45) dX8_newCase_44 rfl rfl ?_
          refine jr_iald (n := 46) dX8_newCase_45 rfl rfl (by decide) (by omega) (by omega) ?_
          refine jr_bipush (n := 48) dX8_newCase_46 rfl (by decide) ?_
          refine jr_icmp_ne (n := 51) (t := 55) dX8_newCase_48 (by decide) rfl (by omega) (by omega) (fun b48 => ?_) (fun b48 => ?_)
          · refine jr_aload_n (n := 56) dX8_newCase_55 rfl rfl ?_
            refine jr_getR (n := 59) dX8_newCase_56 rfl fX8_19 rfl (by decide) (by decide) rfl ?_
            refine jr_aload_n (n := 60) dX8_newCase_59 rfl rfl ?_
            refine jr_getI (n := 63) (i := 2) rfl dX8_newCase_60 rfl fX8_96 rfl (by decide) (by decide) rfl ?_
            refine jr_iload_n (n := 64) dX8_newCase_63 rfl rfl ?_
            refine jr_iast (n := 65) dX8_newCase_64 rfl rfl (by decide) (by omega) (by omega) ?_
            refine jr_aload_n (n := 66) dX8_newCase_65 rfl rfl ?_
            refine jr_getR (n := 69) dX8_newCase_66 rfl fX8_22 rfl (by decide) (by decide) rfl ?_
            refine jr_aload_n (n := 70) dX8_newCase_69 rfl rfl ?_
            refine jr_getI (n := 73) (i := 2) rfl dX8_newCase_70 rfl fX8_96 rfl (by decide) (by decide) rfl ?_
            rw [jup_ne (show (8 : Nat) ≠ 41 by decide)]
            refine jr_iload_n (n := 74) dX8_newCase_73 rfl rfl ?_
            refine jr_iast (n := 75) dX8_newCase_74 rfl rfl (by decide) (by omega) (by omega) ?_
            refine jr_aload_n (n := 76) dX8_newCase_75 rfl rfl ?_
            refine jr_getR (n := 79) dX8_newCase_76 rfl fX8_28 rfl (by decide) (by decide) rfl ?_
            refine jr_aload_n (n := 80) dX8_newCase_79 rfl rfl ?_
            refine jr_getI (n := 83) (i := 2) rfl dX8_newCase_80 rfl fX8_96 rfl (by decide) (by decide) rfl ?_
            rw [jup_ne (show (8 : Nat) ≠ 42 by decide)]
            rw [jup_ne (show (8 : Nat) ≠ 41 by decide)]
            refine jr_iconst (n := 84) dX8_newCase_83 rfl ?_
            refine jr_iast (n := 85) dX8_newCase_84 rfl rfl (by decide) (by omega) (by omega) ?_
            refine jr_aload_n (n := 86) dX8_newCase_85 rfl rfl ?_
            refine jr_aload_n (n := 87) dX8_newCase_86 rfl rfl ?_
            refine jr_getI (n := 90) (i := 2) rfl dX8_newCase_87 rfl fX8_96 rfl (by decide) (by decide) rfl ?_
            rw [jup_ne (show (8 : Nat) ≠ 44 by decide)]
            rw [jup_ne (show (8 : Nat) ≠ 42 by decide)]
            rw [jup_ne (show (8 : Nat) ≠ 41 by decide)]
            refine jr_iload_n (n := 91) dX8_newCase_90 rfl rfl ?_
            refine jr_cV2 (n := 94) (ci := 8) (ν := mX8_enter) dX8_newCase_91 rfl lX8_111 kX8_enter iX8_enter rfl ⟨_, rfl, rfl⟩ (by decide) (Nat.le_of_ble_eq_true rfl) (Nat.le_of_ble_eq_true rfl) rfl ?_
            refine e_enter (by omega) (by omega) (by simp only [jup_ne (show (38 : Nat) ≠ 41 by decide), jup_ne (show (38 : Nat) ≠ 42 by decide), jup_ne (show (38 : Nat) ≠ 44 by decide)]; omega) ?_
            simp only [jup_ne (show (38 : Nat) ≠ 41 by decide), jup_ne (show (38 : Nat) ≠ 42 by decide), jup_ne (show (38 : Nat) ≠ 44 by decide)]
            refine jr_aload_n (n := 95) dX8_newCase_94 rfl rfl ?_
            refine jr_dup (n := 96) dX8_newCase_95 rfl rfl ?_
            refine jr_getI (n := 99) (i := 2) rfl dX8_newCase_96 rfl fX8_96 rfl (by decide) (by decide) rfl ?_
            rw [jup_ne (show (8 : Nat) ≠ 38 by decide)]
            rw [jup_ne (show (8 : Nat) ≠ 39 by decide)]
            rw [jup_ne (show (8 : Nat) ≠ 40 by decide)]
            rw [jup_ne (show (8 : Nat) ≠ 44 by decide)]
            rw [jup_ne (show (8 : Nat) ≠ 42 by decide)]
            rw [jup_ne (show (8 : Nat) ≠ 41 by decide)]
            refine jr_iconst (n := 100) dX8_newCase_99 rfl ?_
            refine jr_iadd (n := 101) dX8_newCase_100 rfl ?_
            refine jr_putI (n := 104) (i := 2) rfl dX8_newCase_101 rfl fX8_96 wX8_2 rfl (by decide) (by decide) rfl ?_
            refine jr_aload_n (n := 105) dX8_newCase_104 rfl rfl ?_
            refine jr_getI (n := 108) (i := 2) rfl dX8_newCase_105 rfl fX8_96 rfl (by decide) (by decide) rfl ?_
            rw [jup_at]
            refine jr_iconst (n := 109) dX8_newCase_108 rfl ?_
            refine jr_isub (n := 110) dX8_newCase_109 rfl ?_
            refine jr_i2l (n := 111) dX8_newCase_110 rfl (by omega) ?_
            refine jr_lret dX8_newCase_111 rfl ?_
            first | exact hB (by omega) | exact hF (by omega) (by omega) | exact h (by omega) (by omega) (by omega) (by omega) (by omega) (by omega) (by omega) (by omega)
          · refine jr_ldc2 (n := 54) dX8_newCase_51 rfl rfl qX8_109 vX8_109 ?_
            refine jr_lret dX8_newCase_54 rfl ?_
            first | exact hB (by omega) | exact hF (by omega) (by omega) | exact h (by omega) (by omega) (by omega) (by omega) (by omega) (by omega) (by omega) (by omega)
      · refine jr_ifF_ne (n := 27) (t := 31) dX8_newCase_24 rfl (by decide) (by decide) (by decide) ?_
        refine jr_ldc2 (n := 30) dX8_newCase_27 rfl rfl qX8_107 vX8_107 ?_
        refine jr_lret dX8_newCase_30 rfl ?_
        first | exact hB (by omega) | exact hF (by omega) (by omega) | exact h (by omega) (by omega) (by omega) (by omega) (by omega) (by omega) (by omega) (by omega)
    · refine jr_ifT_eq (t := 27) dX8_newCase_14 (by decide) (by decide) (by decide) ?_
      refine jr_ldc2 (n := 30) dX8_newCase_27 rfl rfl qX8_107 vX8_107 ?_
      refine jr_lret dX8_newCase_30 rfl ?_
      first | exact hB (by omega) | exact hF (by omega) (by omega) | exact h (by omega) (by omega) (by omega) (by omega) (by omega) (by omega) (by omega) (by omega)
  · refine jr_ifT_eq (t := 27) dX8_newCase_4 (by decide) (by decide) (by decide) ?_
    refine jr_ldc2 (n := 30) dX8_newCase_27 rfl rfl qX8_107 vX8_107 ?_
    refine jr_lret dX8_newCase_30 rfl ?_
    first | exact hB (by omega) | exact hF (by omega) (by omega) | exact h (by omega) (by omega) (by omega) (by omega) (by omega) (by omega) (by omega) (by omega)

