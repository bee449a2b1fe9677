theorem c_areApart {G : jG} {d : Nat} {M : jMem} {Q : Option Value → jMem → Prop} {v u : Int} (hv : 0 ≤ v ∧ v < 10) (h1 : jbit (M 20 v) u → Q (some (.int (jI 1))) M) (h0 : ¬ jbit (M 20 v) u → Q (some (.int (jI 0))) M) : jN G mX4_areApart (d + 1) [.ref (jad G 2), .int (jI v), .int (jI u)] M Q := by
  show jM G mX4_areApart (d + 1) 0 [.ref (jad G 2), .int (jI v), .int (jI u)] [] M Q
  refine jr_aload_n (n := 1) dX4_areApart_0 rfl rfl ?_
  refine jr_getR (n := 4) dX4_areApart_1 rfl fX4_18 rfl (by decide) (by decide) rfl ?_
  refine jr_iload_n (n := 5) dX4_areApart_4 rfl rfl ?_
  refine jr_iald (n := 6) dX4_areApart_5 rfl rfl (by decide) (by omega) (by omega) ?_
  refine jr_iload_n (n := 7) dX4_areApart_6 rfl rfl ?_
  refine jr_cS2 (n := 10) (ν := mX7_holds) dX4_areApart_7 rfl lX4_25 kX7_holds iX7_holds (Nat.le_of_ble_eq_true rfl) (Nat.le_of_ble_eq_true rfl) rfl ?_
  refine c_holds (fun b7 => ?_) (fun b7 => ?_)
  · refine jr_zret dX4_areApart_10 rfl (by decide) ?_
    first | exact h1 (by assumption) | exact h0 (by assumption)
  · refine jr_zret dX4_areApart_10 rfl (by decide) ?_
    first | exact h1 (by assumption) | exact h0 (by assumption)

theorem c_setApart {G : jG} {d : Nat} {M : jMem} {Q : Option Value → jMem → Prop} {v u z : Int} (hv : 0 ≤ v ∧ v < 10) (hu : 0 ≤ u ∧ u < 10) (hne : v ≠ u) (hz : z = 0 ∨ z = 1) (h0 : (jbit (M 20 v) u ∧ z = 1) ∨ (¬ jbit (M 20 v) u ∧ z = 0) → Q none M) (h1 : (jbit (M 20 v) u ∧ z = 0) ∨ (¬ jbit (M 20 v) u ∧ z = 1) → Q none (jup (jup M 20 v (jxor (M 20 v) (jshl 1 u))) 20 u (jxor (M 20 u) (jshl 1 v)))) : jN G mX4_setApart (d + 2) [.ref (jad G 2), .int (jI v), .int (jI u), .int (jI z)] M Q := by
  show jM G mX4_setApart (d + 2) 0 [.ref (jad G 2), .int (jI v), .int (jI u), .int (jI z)] [] M Q
  refine jr_aload_n (n := 1) dX4_setApart_0 rfl rfl ?_
  refine jr_iload_n (n := 2) dX4_setApart_1 rfl rfl ?_
  refine jr_iload_n (n := 3) dX4_setApart_2 rfl rfl ?_
  refine jr_cV2 (n := 6) (ci := 4) (ν := mX4_areApart) dX4_setApart_3 rfl lX4_29 kX4_areApart iX4_areApart rfl ⟨_, rfl, rfl⟩ (by decide) (Nat.le_of_ble_eq_true rfl) (Nat.le_of_ble_eq_true rfl) rfl ?_
  refine c_areApart (by omega) (fun b3 => ?_) (fun b3 => ?_)
  · refine jr_iload_n (n := 7) dX4_setApart_6 rfl rfl ?_
    refine jr_icmp_eq (n := 10) (t := 34) dX4_setApart_7 (by decide) rfl (by omega) (by omega) (fun b7 => ?_) (fun b7 => ?_)
    · refine jr_vret dX4_setApart_34 rfl ?_
      first | exact h0 (Or.inl ⟨b3, by omega⟩) | exact h0 (Or.inr ⟨b3, by omega⟩) | exact h1 (Or.inl ⟨b3, by omega⟩) | exact h1 (Or.inr ⟨b3, by omega⟩)
    · refine jr_aload_n (n := 11) dX4_setApart_10 rfl rfl ?_
      refine jr_getR (n := 14) dX4_setApart_11 rfl fX4_18 rfl (by decide) (by decide) rfl ?_
      refine jr_iload_n (n := 15) dX4_setApart_14 rfl rfl ?_
      refine jr_dup2 (n := 16) dX4_setApart_15 rfl rfl rfl ?_
      refine jr_iald (n := 17) dX4_setApart_16 rfl rfl (by decide) (by omega) (by omega) ?_
      refine jr_iconst (n := 18) dX4_setApart_17 rfl ?_
      refine jr_iload_n (n := 19) dX4_setApart_18 rfl rfl ?_
      refine jr_ishl (n := 20) dX4_setApart_19 rfl ?_
      refine jr_ixor (n := 21) dX4_setApart_20 rfl ?_
      refine jr_iast (n := 22) dX4_setApart_21 rfl rfl (by decide) (by omega) (by omega) ?_
      refine jr_aload_n (n := 23) dX4_setApart_22 rfl rfl ?_
      refine jr_getR (n := 26) dX4_setApart_23 rfl fX4_18 rfl (by decide) (by decide) rfl ?_
      refine jr_iload_n (n := 27) dX4_setApart_26 rfl rfl ?_
      refine jr_dup2 (n := 28) dX4_setApart_27 rfl rfl rfl ?_
      refine jr_iald (n := 29) dX4_setApart_28 rfl rfl (by decide) (by omega) (by omega) ?_
      rw [jup_off (show u ≠ v by omega)]
      refine jr_iconst (n := 30) dX4_setApart_29 rfl ?_
      refine jr_iload_n (n := 31) dX4_setApart_30 rfl rfl ?_
      refine jr_ishl (n := 32) dX4_setApart_31 rfl ?_
      refine jr_ixor (n := 33) dX4_setApart_32 rfl ?_
      refine jr_iast (n := 34) dX4_setApart_33 rfl rfl (by decide) (by omega) (by omega) ?_
      refine jr_vret dX4_setApart_34 rfl ?_
      first | exact h0 (Or.inl ⟨b3, by omega⟩) | exact h0 (Or.inr ⟨b3, by omega⟩) | exact h1 (Or.inl ⟨b3, by omega⟩) | exact h1 (Or.inr ⟨b3, by omega⟩)
  · refine jr_iload_n (n := 7) dX4_setApart_6 rfl rfl ?_
    refine jr_icmp_eq (n := 10) (t := 34) dX4_setApart_7 (by decide) rfl (by omega) (by omega) (fun b7 => ?_) (fun b7 => ?_)
    · refine jr_vret dX4_setApart_34 rfl ?_
      first | exact h0 (Or.inl ⟨b3, by omega⟩) | exact h0 (Or.inr ⟨b3, by omega⟩) | exact h1 (Or.inl ⟨b3, by omega⟩) | exact h1 (Or.inr ⟨b3, by omega⟩)
    · refine jr_aload_n (n := 11) dX4_setApart_10 rfl rfl ?_
      refine jr_getR (n := 14) dX4_setApart_11 rfl fX4_18 rfl (by decide) (by decide) rfl ?_
      refine jr_iload_n (n := 15) dX4_setApart_14 rfl rfl ?_
      refine jr_dup2 (n := 16) dX4_setApart_15 rfl rfl rfl ?_
      refine jr_iald (n := 17) dX4_setApart_16 rfl rfl (by decide) (by omega) (by omega) ?_
      refine jr_iconst (n := 18) dX4_setApart_17 rfl ?_
      refine jr_iload_n (n := 19) dX4_setApart_18 rfl rfl ?_
      refine jr_ishl (n := 20) dX4_setApart_19 rfl ?_
      refine jr_ixor (n := 21) dX4_setApart_20 rfl ?_
      refine jr_iast (n := 22) dX4_setApart_21 rfl rfl (by decide) (by omega) (by omega) ?_
      refine jr_aload_n (n := 23) dX4_setApart_22 rfl rfl ?_
      refine jr_getR (n := 26) dX4_setApart_23 rfl fX4_18 rfl (by decide) (by decide) rfl ?_
      refine jr_iload_n (n := 27) dX4_setApart_26 rfl rfl ?_
      refine jr_dup2 (n := 28) dX4_setApart_27 rfl rfl rfl ?_
      refine jr_iald (n := 29) dX4_setApart_28 rfl rfl (by decide) (by omega) (by omega) ?_
      rw [jup_off (show u ≠ v by omega)]
      refine jr_iconst (n := 30) dX4_setApart_29 rfl ?_
      refine jr_iload_n (n := 31) dX4_setApart_30 rfl rfl ?_
      refine jr_ishl (n := 32) dX4_setApart_31 rfl ?_
      refine jr_ixor (n := 33) dX4_setApart_32 rfl ?_
      refine jr_iast (n := 34) dX4_setApart_33 rfl rfl (by decide) (by omega) (by omega) ?_
      refine jr_vret dX4_setApart_34 rfl ?_
      first | exact h0 (Or.inl ⟨b3, by omega⟩) | exact h0 (Or.inr ⟨b3, by omega⟩) | exact h1 (Or.inl ⟨b3, by omega⟩) | exact h1 (Or.inr ⟨b3, by omega⟩)

theorem c_apart {G : jG} {d : Nat} {M : jMem} {Q : Option Value → jMem → Prop} (hI : jK M) {v u z : Int} (hv : jR v) (hu : jR u) (hz : jR z) (hB : ¬ ((0 ≤ v ∧ v < M 2 3) ∧ (0 ≤ u ∧ u < M 2 3) ∧ v ≠ u ∧ (0 ≤ z ∧ z ≤ 1)) → Q (some (.long (jL (-9000000000000000001)))) M) (h0 : 0 ≤ v → v < M 2 3 → 0 ≤ u → u < M 2 3 → v ≠ u → (jbit (M 20 v) u ∧ z = 1) → Q (some (.long (jL 1))) M) (h1 : 0 ≤ v → v < M 2 3 → 0 ≤ u → u < M 2 3 → v ≠ u → (¬ jbit (M 20 v) u ∧ z = 0) → Q (some (.long (jL 0))) M) (h2 : 0 ≤ v → v < M 2 3 → 0 ≤ u → u < M 2 3 → v ≠ u → (jbit (M 20 v) u ∧ z = 0) → Q (some (.long (jL 1))) (jup (jup M 20 v (jxor (M 20 v) (jshl 1 u))) 20 u (jxor (M 20 u) (jshl 1 v)))) (h3 : 0 ≤ v → v < M 2 3 → 0 ≤ u → u < M 2 3 → v ≠ u → (¬ jbit (M 20 v) u ∧ z = 1) → Q (some (.long (jL 0))) (jup (jup M 20 v (jxor (M 20 v) (jshl 1 u))) 20 u (jxor (M 20 u) (jshl 1 v)))) : jN G mX7_apart (d + 3) [.ref (jad G 0), .int (jI v), .int (jI u), .int (jI z)] M Q := by
  show jM G mX7_apart (d + 3) 0 [.ref (jad G 0), .int (jI v), .int (jI u), .int (jI z), .null] [] M Q
  have hs := jn1 hI
  refine jr_aload_n (n := 1) dX7_apart_0 rfl rfl ?_
  refine jr_getR (n := 4) dX7_apart_1 rfl fX7_19 rfl (by decide) (by decide) rfl ?_
  refine jr_iload_n (n := 5) dX7_apart_4 rfl rfl ?_
  refine jr_cV1 (n := 8) (ci := 4) (ν := mX4_has) dX7_apart_5 rfl lX7_89 kX4_has iX4_has rfl ⟨_, rfl, rfl⟩ (by decide) (Nat.le_of_ble_eq_true rfl) (Nat.le_of_ble_eq_true rfl) rfl ?_
  refine c_hasW (by omega) (by omega) (fun b5 b5b => ?_) (fun b5 => ?_)
  · refine jr_ifF_eq (n := 11) (t := 36) dX7_apart_8 rfl (by decide) (by decide) (by decide) ?_
    refine jr_aload_n (n := 12) dX7_apart_11 rfl rfl ?_
    refine jr_getR (n := 15) dX7_apart_12 rfl fX7_19 rfl (by decide) (by decide) rfl ?_
    refine jr_iload_n (n := 16) dX7_apart_15 rfl rfl ?_
    refine jr_cV1 (n := 19) (ci := 4) (ν := mX4_has) dX7_apart_16 rfl lX7_89 kX4_has iX4_has rfl ⟨_, rfl, rfl⟩ (by decide) (Nat.le_of_ble_eq_true rfl) (Nat.le_of_ble_eq_true rfl) rfl ?_
    refine c_hasW (by omega) (by omega) (fun b16 b16b => ?_) (fun b16 => ?_)
    · refine jr_ifF_eq (n := 22) (t := 36) dX7_apart_19 rfl (by decide) (by decide) (by decide) ?_
      refine jr_iload_n (n := 23) dX7_apart_22 rfl rfl ?_
      refine jr_iload_n (n := 24) dX7_apart_23 rfl rfl ?_
      refine jr_icmp_eq (n := 27) (t := 36) dX7_apart_24 (by decide) rfl (by omega) (by omega) (fun b24 => ?_) (fun b24 => ?_)
      · refine jr_ldc2 (n := 39) dX7_apart_36 rfl rfl qX7_70 vX7_70 ?_
        refine jr_lret dX7_apart_39 rfl ?_
        first | exact hB (by omega) | exact h0 (by omega) (by omega) (by omega) (by omega) (by omega) ⟨b46, by omega⟩ | exact h1 (by omega) (by omega) (by omega) (by omega) (by omega) ⟨b46, by omega⟩ | exact h2 (by omega) (by omega) (by omega) (by omega) (by omega) ⟨b46, by omega⟩ | exact h3 (by omega) (by omega) (by omega) (by omega) (by omega) ⟨b46, by omega⟩ | exact absurd b46 (by omega) | (exfalso; omega)
      · refine jr_iload_n (n := 28) dX7_apart_27 rfl rfl ?_
        refine jr_iconst (n := 29) dX7_apart_28 rfl ?_
        refine jr_iconst (n := 30) dX7_apart_29 rfl ?_
        refine jr_cS3 (n := 33) (ν := mX7_isWithin) dX7_apart_30 rfl lX7_66 kX7_isWithin iX7_isWithin (Nat.le_of_ble_eq_true rfl) (Nat.le_of_ble_eq_true rfl) rfl ?_
        refine c_isWithin (by omega) (by omega) (by omega) (fun b30 b30b => ?_) (fun b30 => ?_)
        · refine jr_ifT_ne (t := 40) dX7_apart_33 (by decide) (by decide) (by decide) ?_
          refine jr_aload_n (n := 41) dX7_apart_40 rfl rfl ?_
          refine jr_getR (n := 44) dX7_apart_41 rfl fX7_19 rfl (by decide) (by decide) rfl ?_
          refine jr_iload_n (n := 45) dX7_apart_44 rfl rfl ?_
          refine jr_iload_n (n := 46) dX7_apart_45 rfl rfl ?_
          refine jr_cV2 (n := 49) (ci := 4) (ν := mX4_areApart) dX7_apart_46 rfl lX7_203 kX4_areApart iX4_areApart rfl ⟨_, rfl, rfl⟩ (by decide) (Nat.le_of_ble_eq_true rfl) (Nat.le_of_ble_eq_true rfl) rfl ?_
          refine c_areApart (by omega) (fun b46 => ?_) (fun b46 => ?_)
          · refine jr_istore4 (n := 51) dX7_apart_49 rfl (by decide) rfl ?_
            refine jr_aload_n (n := 52) dX7_apart_51 rfl rfl ?_
            refine jr_getR (n := 55) dX7_apart_52 rfl fX7_19 rfl (by decide) (by decide) rfl ?_
            refine jr_iload_n (n := 56) dX7_apart_55 rfl rfl ?_
            refine jr_iload_n (n := 57) dX7_apart_56 rfl rfl ?_
            refine jr_iload_n (n := 58) dX7_apart_57 rfl rfl ?_
            refine jr_iconst (n := 59) dX7_apart_58 rfl ?_
            refine jr_icmp_ne (n := 62) (t := 66) dX7_apart_59 (by decide) rfl (by omega) (by omega) (fun b59 => ?_) (fun b59 => ?_)
            · refine jr_iconst (n := 67) dX7_apart_66 rfl ?_
              refine jr_cV3 (n := 70) (ci := 4) (ν := mX4_setApart) dX7_apart_67 rfl lX7_206 kX4_setApart iX4_setApart rfl ⟨_, rfl, rfl⟩ (by decide) (Nat.le_of_ble_eq_true rfl) (Nat.le_of_ble_eq_true rfl) rfl ?_
              refine c_setApart (by omega) (by omega) (by omega) (by omega) (fun b67 => ?_) (fun b67 => ?_)
              · refine jr_iload (n := 72) dX7_apart_70 rfl rfl ?_
                refine jr_cS1 (n := 75) (ν := mX7_asLong) dX7_apart_72 rfl lX7_95 kX7_asLong iX7_asLong (Nat.le_of_ble_eq_true rfl) (Nat.le_of_ble_eq_true rfl) rfl ?_
                refine c_asLong (by omega) ?_
                refine jr_lret dX7_apart_75 rfl ?_
                first | exact hB (by omega) | exact h0 (by omega) (by omega) (by omega) (by omega) (by omega) ⟨b46, by omega⟩ | exact h1 (by omega) (by omega) (by omega) (by omega) (by omega) ⟨b46, by omega⟩ | exact h2 (by omega) (by omega) (by omega) (by omega) (by omega) ⟨b46, by omega⟩ | exact h3 (by omega) (by omega) (by omega) (by omega) (by omega) ⟨b46, by omega⟩ | exact absurd b46 (by omega) | (exfalso; omega)
              · refine jr_iload (n := 72) dX7_apart_70 rfl rfl ?_
                refine jr_cS1 (n := 75) (ν := mX7_asLong) dX7_apart_72 rfl lX7_95 kX7_asLong iX7_asLong (Nat.le_of_ble_eq_true rfl) (Nat.le_of_ble_eq_true rfl) rfl ?_
                refine c_asLong (by omega) ?_
                refine jr_lret dX7_apart_75 rfl ?_
                first | exact hB (by omega) | exact h0 (by omega) (by omega) (by omega) (by omega) (by omega) ⟨b46, by omega⟩ | exact h1 (by omega) (by omega) (by omega) (by omega) (by omega) ⟨b46, by omega⟩ | exact h2 (by omega) (by omega) (by omega) (by omega) (by omega) ⟨b46, by omega⟩ | exact h3 (by omega) (by omega) (by omega) (by omega) (by omega) ⟨b46, by omega⟩ | exact absurd b46 (by omega) | (exfalso; omega)
            · refine jr_iconst (n := 63) dX7_apart_62 rfl ?_
              refine jr_goto (t := 67) dX7_apart_63 (by decide) ?_
              refine jr_cV3 (n := 70) (ci := 4) (ν := mX4_setApart) dX7_apart_67 rfl lX7_206 kX4_setApart iX4_setApart rfl ⟨_, rfl, rfl⟩ (by decide) (Nat.le_of_ble_eq_true rfl) (Nat.le_of_ble_eq_true rfl) rfl ?_
              refine c_setApart (by omega) (by omega) (by omega) (by omega) (fun b67 => ?_) (fun b67 => ?_)
              · refine jr_iload (n := 72) dX7_apart_70 rfl rfl ?_
                refine jr_cS1 (n := 75) (ν := mX7_asLong) dX7_apart_72 rfl lX7_95 kX7_asLong iX7_asLong (Nat.le_of_ble_eq_true rfl) (Nat.le_of_ble_eq_true rfl) rfl ?_
                refine c_asLong (by omega) ?_
                refine jr_lret dX7_apart_75 rfl ?_
                first | exact hB (by omega) | exact h0 (by omega) (by omega) (by omega) (by omega) (by omega) ⟨b46, by omega⟩ | exact h1 (by omega) (by omega) (by omega) (by omega) (by omega) ⟨b46, by omega⟩ | exact h2 (by omega) (by omega) (by omega) (by omega) (by omega) ⟨b46, by omega⟩ | exact h3 (by omega) (by omega) (by omega) (by omega) (by omega) ⟨b46, by omega⟩ | exact absurd b46 (by omega) | (exfalso; omega)
              · refine jr_iload (n := 72) dX7_apart_70 rfl rfl ?_
                refine jr_cS1 (n := 75) (ν := mX7_asLong) dX7_apart_72 rfl lX7_95 kX7_asLong iX7_asLong (Nat.le_of_ble_eq_true rfl) (Nat.le_of_ble_eq_true rfl) rfl ?_
                refine c_asLong (by omega) ?_
                refine jr_lret dX7_apart_75 rfl ?_
                first | exact hB (by omega) | exact h0 (by omega) (by omega) (by omega) (by omega) (by omega) ⟨b46, by omega⟩ | exact h1 (by omega) (by omega) (by omega) (by omega) (by omega) ⟨b46, by omega⟩ | exact h2 (by omega) (by omega) (by omega) (by omega) (by omega) ⟨b46, by omega⟩ | exact h3 (by omega) (by omega) (by omega) (by omega) (by omega) ⟨b46, by omega⟩ | exact absurd b46 (by omega) | (exfalso; omega)
          · refine jr_istore4 (n := 51) dX7_apart_49 rfl (by decide) rfl ?_
            refine jr_aload_n (n := 52) dX7_apart_51 rfl rfl ?_
            refine jr_getR (n := 55) dX7_apart_52 rfl fX7_19 rfl (by decide) (by decide) rfl ?_
            refine jr_iload_n (n := 56) dX7_apart_55 rfl rfl ?_
            refine jr_iload_n (n := 57) dX7_apart_56 rfl rfl ?_
            refine jr_iload_n (n := 58) dX7_apart_57 rfl rfl ?_
            refine jr_iconst (n := 59) dX7_apart_58 rfl ?_
            refine jr_icmp_ne (n := 62) (t := 66) dX7_apart_59 (by decide) rfl (by omega) (by omega) (fun b59 => ?_) (fun b59 => ?_)
            · refine jr_iconst (n := 67) dX7_apart_66 rfl ?_
              refine jr_cV3 (n := 70) (ci := 4) (ν := mX4_setApart) dX7_apart_67 rfl lX7_206 kX4_setApart iX4_setApart rfl ⟨_, rfl, rfl⟩ (by decide) (Nat.le_of_ble_eq_true rfl) (Nat.le_of_ble_eq_true rfl) rfl ?_
              refine c_setApart (by omega) (by omega) (by omega) (by omega) (fun b67 => ?_) (fun b67 => ?_)
              · refine jr_iload (n := 72) dX7_apart_70 rfl rfl ?_
                refine jr_cS1 (n := 75) (ν := mX7_asLong) dX7_apart_72 rfl lX7_95 kX7_asLong iX7_asLong (Nat.le_of_ble_eq_true rfl) (Nat.le_of_ble_eq_true rfl) rfl ?_
                refine c_asLong (by omega) ?_
                refine jr_lret dX7_apart_75 rfl ?_
                first | exact hB (by omega) | exact h0 (by omega) (by omega) (by omega) (by omega) (by omega) ⟨b46, by omega⟩ | exact h1 (by omega) (by omega) (by omega) (by omega) (by omega) ⟨b46, by omega⟩ | exact h2 (by omega) (by omega) (by omega) (by omega) (by omega) ⟨b46, by omega⟩ | exact h3 (by omega) (by omega) (by omega) (by omega) (by omega) ⟨b46, by omega⟩ | exact absurd b46 (by omega) | (exfalso; omega)
              · refine jr_iload (n := 72) dX7_apart_70 rfl rfl ?_
                refine jr_cS1 (n := 75) (ν := mX7_asLong) dX7_apart_72 rfl lX7_95 kX7_asLong iX7_asLong (Nat.le_of_ble_eq_true rfl) (Nat.le_of_ble_eq_true rfl) rfl ?_
                refine c_asLong (by omega) ?_
                refine jr_lret dX7_apart_75 rfl ?_
                first | exact hB (by omega) | exact h0 (by omega) (by omega) (by omega) (by omega) (by omega) ⟨b46, by omega⟩ | exact h1 (by omega) (by omega) (by omega) (by omega) (by omega) ⟨b46, by omega⟩ | exact h2 (by omega) (by omega) (by omega) (by omega) (by omega) ⟨b46, by omega⟩ | exact h3 (by omega) (by omega) (by omega) (by omega) (by omega) ⟨b46, by omega⟩ | exact absurd b46 (by omega) | (exfalso; omega)
            · refine jr_iconst (n := 63) dX7_apart_62 rfl ?_
              refine jr_goto (t := 67) dX7_apart_63 (by decide) ?_
              refine jr_cV3 (n := 70) (ci := 4) (ν := mX4_setApart) dX7_apart_67 rfl lX7_206 kX4_setApart iX4_setApart rfl ⟨_, rfl, rfl⟩ (by decide) (Nat.le_of_ble_eq_true rfl) (Nat.le_of_ble_eq_true rfl) rfl ?_
              refine c_setApart (by omega) (by omega) (by omega) (by omega) (fun b67 => ?_) (fun b67 => ?_)
              · refine jr_iload (n := 72) dX7_apart_70 rfl rfl ?_
                refine jr_cS1 (n := 75) (ν := mX7_asLong) dX7_apart_72 rfl lX7_95 kX7_asLong iX7_asLong (Nat.le_of_ble_eq_true rfl) (Nat.le_of_ble_eq_true rfl) rfl ?_
                refine c_asLong (by omega) ?_
                refine jr_lret dX7_apart_75 rfl ?_
                first | exact hB (by omega) | exact h0 (by omega) (by omega) (by omega) (by omega) (by omega) ⟨b46, by omega⟩ | exact h1 (by omega) (by omega) (by omega) (by omega) (by omega) ⟨b46, by omega⟩ | exact h2 (by omega) (by omega) (by omega) (by omega) (by omega) ⟨b46, by omega⟩ | exact h3 (by omega) (by omega) (by omega) (by omega) (by omega) ⟨b46, by omega⟩ | exact absurd b46 (by omega) | (exfalso; omega)
              · refine jr_iload (n := 72) dX7_apart_70 rfl rfl ?_
                refine jr_cS1 (n := 75) (ν := mX7_asLong) dX7_apart_72 rfl lX7_95 kX7_asLong iX7_asLong (Nat.le_of_ble_eq_true rfl) (Nat.le_of_ble_eq_true rfl) rfl ?_
                refine c_asLong (by omega) ?_
                refine jr_lret dX7_apart_75 rfl ?_
                first | exact hB (by omega) | exact h0 (by omega) (by omega) (by omega) (by omega) (by omega) ⟨b46, by omega⟩ | exact h1 (by omega) (by omega) (by omega) (by omega) (by omega) ⟨b46, by omega⟩ | exact h2 (by omega) (by omega) (by omega) (by omega) (by omega) ⟨b46, by omega⟩ | exact h3 (by omega) (by omega) (by omega) (by omega) (by omega) ⟨b46, by omega⟩ | exact absurd b46 (by omega) | (exfalso; omega)
        · refine jr_ifF_ne (n := 36) (t := 40) dX7_apart_33 rfl (by decide) (by decide) (by decide) ?_
          refine jr_ldc2 (n := 39) dX7_apart_36 rfl rfl qX7_70 vX7_70 ?_
          refine jr_lret dX7_apart_39 rfl ?_
          first | exact hB (by omega) | exact h0 (by omega) (by omega) (by omega) (by omega) (by omega) ⟨b46, by omega⟩ | exact h1 (by omega) (by omega) (by omega) (by omega) (by omega) ⟨b46, by omega⟩ | exact h2 (by omega) (by omega) (by omega) (by omega) (by omega) ⟨b46, by omega⟩ | exact h3 (by omega) (by omega) (by omega) (by omega) (by omega) ⟨b46, by omega⟩ | exact absurd b46 (by omega) | (exfalso; omega)
    · refine jr_ifT_eq (t := 36) dX7_apart_19 (by decide) (by decide) (by decide) ?_
      refine jr_ldc2 (n := 39) dX7_apart_36 rfl rfl qX7_70 vX7_70 ?_
      refine jr_lret dX7_apart_39 rfl ?_
      first | exact hB (by omega) | exact h0 (by omega) (by omega) (by omega) (by omega) (by omega) ⟨b46, by omega⟩ | exact h1 (by omega) (by omega) (by omega) (by omega) (by omega) ⟨b46, by omega⟩ | exact h2 (by omega) (by omega) (by omega) (by omega) (by omega) ⟨b46, by omega⟩ | exact h3 (by omega) (by omega) (by omega) (by omega) (by omega) ⟨b46, by omega⟩ | exact absurd b46 (by omega) | (exfalso; omega)
  · refine jr_ifT_eq (t := 36) dX7_apart_8 (by decide) (by decide) (by decide) ?_
    refine jr_ldc2 (n := 39) dX7_apart_36 rfl rfl qX7_70 vX7_70 ?_
    refine jr_lret dX7_apart_39 rfl ?_
    first | exact hB (by omega) | exact h0 (by omega) (by omega) (by omega) (by omega) (by omega) ⟨b46, by omega⟩ | exact h1 (by omega) (by omega) (by omega) (by omega) (by omega) ⟨b46, by omega⟩ | exact h2 (by omega) (by omega) (by omega) (by omega) (by omega) ⟨b46, by omega⟩ | exact h3 (by omega) (by omega) (by omega) (by omega) (by omega) ⟨b46, by omega⟩ | exact absurd b46 (by omega) | (exfalso; omega)

theorem e_apart {G : jG} {d : Nat} {M : jMem} {Q : Option Value → jMem → Prop} (hI : jO M) {v u z : Int} (hv : jR v) (hu : jR u) (hz : jR z) (hB : ¬ ((0 ≤ v ∧ v < M 8 8) ∧ (0 ≤ u ∧ u < M 8 8) ∧ v ≠ u ∧ (0 ≤ z ∧ z ≤ 1)) → Q (some (.long (jL (-9000000000000000001)))) M) (h0 : 0 ≤ v → v < M 8 8 → 0 ≤ u → u < M 8 8 → v ≠ u → (jbit (M 47 v) u ∧ z = 1) → Q (some (.long (jL 1))) M) (h1 : 0 ≤ v → v < M 8 8 → 0 ≤ u → u < M 8 8 → v ≠ u → (¬ jbit (M 47 v) u ∧ z = 0) → Q (some (.long (jL 0))) M) (h2 : 0 ≤ v → v < M 8 8 → 0 ≤ u → u < M 8 8 → v ≠ u → (jbit (M 47 v) u ∧ z = 0) → Q (some (.long (jL 1))) (jup (jup M 47 v (jxor (M 47 v) (jshl 1 u))) 47 u (jxor (M 47 u) (jshl 1 v)))) (h3 : 0 ≤ v → v < M 8 8 → 0 ≤ u → u < M 8 8 → v ≠ u → (¬ jbit (M 47 v) u ∧ z = 1) → Q (some (.long (jL 0))) (jup (jup M 47 v (jxor (M 47 v) (jshl 1 u))) 47 u (jxor (M 47 u) (jshl 1 v)))) : jN G mX8_apart (d + 2) [.ref (jad G 8), .int (jI v), .int (jI u), .int (jI z)] M Q := by
  show jM G mX8_apart (d + 2) 0 [.ref (jad G 8), .int (jI v), .int (jI u), .int (jI z), .null] [] M Q
  have hs := jn1 hI
  refine jr_aload_n (n := 1) dX8_apart_0 rfl rfl ?_
  refine jr_iload_n (n := 2) dX8_apart_1 rfl rfl ?_
  refine jr_cV1 (n := 5) (ci := 8) (ν := mX8_isWitness) dX8_apart_2 rfl lX8_115 kX8_isWitness iX8_isWitness rfl ⟨_, rfl, rfl⟩ (by decide) (Nat.le_of_ble_eq_true rfl) (Nat.le_of_ble_eq_true rfl) rfl ?_
  refine e_isWitness (by omega) (by omega) (fun b2 b2b => ?_) (fun b2 => ?_)
  · refine jr_ifF_eq (n := 8) (t := 30) dX8_apart_5 rfl (by decide) (by decide) (by decide) ?_
    refine jr_aload_n (n := 9) dX8_apart_8 rfl rfl ?_
    refine jr_iload_n (n := 10) dX8_apart_9 rfl rfl ?_
    refine jr_cV1 (n := 13) (ci := 8) (ν := mX8_isWitness) dX8_apart_10 rfl lX8_115 kX8_isWitness iX8_isWitness rfl ⟨_, rfl, rfl⟩ (by decide) (Nat.le_of_ble_eq_true rfl) (Nat.le_of_ble_eq_true rfl) rfl ?_
    refine e_isWitness (by omega) (by omega) (fun b10 b10b => ?_) (fun b10 => ?_)
    · refine jr_ifF_eq (n := 16) (t := 30) dX8_apart_13 rfl (by decide) (by decide) (by decide) ?_
      refine jr_iload_n (n := 17) dX8_apart_16 rfl rfl ?_
      refine jr_iload_n (n := 18) dX8_apart_17 rfl rfl ?_
      refine jr_icmp_eq (n := 21) (t := 30) dX8_apart_18 (by decide) rfl (by omega) (by omega) (fun b18 => ?_) (fun b18 => ?_)
      · refine jr_ldc2 (n := 33) dX8_apart_30 rfl rfl qX8_107 vX8_107 ?_
        refine jr_lret dX8_apart_33 rfl ?_
        first
          | exact hB (by omega)
          | (rcases hj with hj | hj
             · rw [hj]
               first
                 | exact h1 (by omega) (by omega) (by omega) (by omega) (by omega) ⟨fun z => z hj, by omega⟩
                 | exact h3 (by omega) (by omega) (by omega) (by omega) (by omega) ⟨fun z => z hj, by omega⟩
             · rw [hj]
               first
                 | exact h0 (by omega) (by omega) (by omega) (by omega) (by omega) ⟨by omega, by omega⟩
                 | exact h2 (by omega) (by omega) (by omega) (by omega) (by omega) ⟨by omega, by omega⟩)
      · refine jr_iload_n (n := 22) dX8_apart_21 rfl rfl ?_
        refine jr_iconst (n := 23) dX8_apart_22 rfl ?_
        refine jr_iconst (n := 24) dX8_apart_23 rfl ?_
        refine jr_cS3 (n := 27) (ν := mX8_isIn) dX8_apart_24 rfl lX8_92 kX8_isIn iX8_isIn (Nat.le_of_ble_eq_true rfl) (Nat.le_of_ble_eq_true rfl) rfl ?_
        refine e_isIn (by omega) (by omega) (by omega) (fun b24 b24b => ?_) (fun b24 => ?_)
        · refine jr_ifT_ne (t := 34) dX8_apart_27 (by decide) (by decide) (by decide) ?_
          refine jr_aload_n (n := 35) dX8_apart_34 rfl rfl ?_
          refine jr_getR (n := 38) dX8_apart_35 rfl fX8_37 rfl (by decide) (by decide) rfl ?_
          refine jr_iload_n (n := 39) dX8_apart_38 rfl rfl ?_
          refine jr_iald (n := 40) dX8_apart_39 rfl rfl (by decide) (by omega) (by omega) ?_
          refine jr_iload_n (n := 41) dX8_apart_40 rfl rfl ?_
          refine jr_ishr (n := 42) dX8_apart_41 rfl ?_
          refine jr_iconst (n := 43) dX8_apart_42 rfl ?_
          refine jr_iand (n := 44) dX8_apart_43 rfl ?_
          refine jr_istore4 (n := 46) dX8_apart_44 rfl (by decide) rfl ?_
          have hj := jand1 (jshr (M 47 v) u)
          refine jr_iload (n := 48) dX8_apart_46 rfl rfl ?_
          refine jr_iload_n (n := 49) dX8_apart_48 rfl rfl ?_
          refine jr_icmp_eq (n := 52) (t := 76) dX8_apart_49 (by decide) rfl (by omega) (by omega) (fun b49 => ?_) (fun b49 => ?_)
          · refine jr_iload (n := 78) dX8_apart_76 rfl rfl ?_
            refine jr_i2l (n := 79) dX8_apart_78 rfl (by omega) ?_
            refine jr_lret dX8_apart_79 rfl ?_
            first
              | exact hB (by omega)
              | (rcases hj with hj | hj
                 · rw [hj]
                   first
                     | exact h1 (by omega) (by omega) (by omega) (by omega) (by omega) ⟨fun z => z hj, by omega⟩
                     | exact h3 (by omega) (by omega) (by omega) (by omega) (by omega) ⟨fun z => z hj, by omega⟩
                 · rw [hj]
                   first
                     | exact h0 (by omega) (by omega) (by omega) (by omega) (by omega) ⟨by omega, by omega⟩
                     | exact h2 (by omega) (by omega) (by omega) (by omega) (by omega) ⟨by omega, by omega⟩)
          · refine jr_aload_n (n := 53) dX8_apart_52 rfl rfl ?_
            refine jr_getR (n := 56) dX8_apart_53 rfl fX8_37 rfl (by decide) (by decide) rfl ?_
            refine jr_iload_n (n := 57) dX8_apart_56 rfl rfl ?_
            refine jr_dup2 (n := 58) dX8_apart_57 rfl rfl rfl ?_
            refine jr_iald (n := 59) dX8_apart_58 rfl rfl (by decide) (by omega) (by omega) ?_
            refine jr_iconst (n := 60) dX8_apart_59 rfl ?_
            refine jr_iload_n (n := 61) dX8_apart_60 rfl rfl ?_
            refine jr_ishl (n := 62) dX8_apart_61 rfl ?_
            refine jr_ixor (n := 63) dX8_apart_62 rfl ?_
            refine jr_iast (n := 64) dX8_apart_63 rfl rfl (by decide) (by omega) (by omega) ?_
            refine jr_aload_n (n := 65) dX8_apart_64 rfl rfl ?_
            refine jr_getR (n := 68) dX8_apart_65 rfl fX8_37 rfl (by decide) (by decide) rfl ?_
            refine jr_iload_n (n := 69) dX8_apart_68 rfl rfl ?_
            refine jr_dup2 (n := 70) dX8_apart_69 rfl rfl rfl ?_
            refine jr_iald (n := 71) dX8_apart_70 rfl rfl (by decide) (by omega) (by omega) ?_
            rw [jup_off (show u ≠ v by omega)]
            refine jr_iconst (n := 72) dX8_apart_71 rfl ?_
            refine jr_iload_n (n := 73) dX8_apart_72 rfl rfl ?_
            refine jr_ishl (n := 74) dX8_apart_73 rfl ?_
            refine jr_ixor (n := 75) dX8_apart_74 rfl ?_
            refine jr_iast (n := 76) dX8_apart_75 rfl rfl (by decide) (by omega) (by omega) ?_
            refine jr_iload (n := 78) dX8_apart_76 rfl rfl ?_
            refine jr_i2l (n := 79) dX8_apart_78 rfl (by omega) ?_
            refine jr_lret dX8_apart_79 rfl ?_
            first
              | exact hB (by omega)
              | (rcases hj with hj | hj
                 · rw [hj]
                   first
                     | exact h1 (by omega) (by omega) (by omega) (by omega) (by omega) ⟨fun z => z hj, by omega⟩
                     | exact h3 (by omega) (by omega) (by omega) (by omega) (by omega) ⟨fun z => z hj, by omega⟩
                 · rw [hj]
                   first
                     | exact h0 (by omega) (by omega) (by omega) (by omega) (by omega) ⟨by omega, by omega⟩
                     | exact h2 (by omega) (by omega) (by omega) (by omega) (by omega) ⟨by omega, by omega⟩)
        · refine jr_ifF_ne (n := 30) (t := 34) dX8_apart_27 rfl (by decide) (by decide) (by decide) ?_
          refine jr_ldc2 (n := 33) dX8_apart_30 rfl rfl qX8_107 vX8_107 ?_
          refine jr_lret dX8_apart_33 rfl ?_
          first
            | exact hB (by omega)
            | (rcases hj with hj | hj
               · rw [hj]
                 first
                   | exact h1 (by omega) (by omega) (by omega) (by omega) (by omega) ⟨fun z => z hj, by omega⟩
                   | exact h3 (by omega) (by omega) (by omega) (by omega) (by omega) ⟨fun z => z hj, by omega⟩
               · rw [hj]
                 first
                   | exact h0 (by omega) (by omega) (by omega) (by omega) (by omega) ⟨by omega, by omega⟩
                   | exact h2 (by omega) (by omega) (by omega) (by omega) (by omega) ⟨by omega, by omega⟩)
    · refine jr_ifT_eq (t := 30) dX8_apart_13 (by decide) (by decide) (by decide) ?_
      refine jr_ldc2 (n := 33) dX8_apart_30 rfl rfl qX8_107 vX8_107 ?_
      refine jr_lret dX8_apart_33 rfl ?_
      first
        | exact hB (by omega)
        | (rcases hj with hj | hj
           · rw [hj]
             first
               | exact h1 (by omega) (by omega) (by omega) (by omega) (by omega) ⟨fun z => z hj, by omega⟩
               | exact h3 (by omega) (by omega) (by omega) (by omega) (by omega) ⟨fun z => z hj, by omega⟩
           · rw [hj]
             first
               | exact h0 (by omega) (by omega) (by omega) (by omega) (by omega) ⟨by omega, by omega⟩
               | exact h2 (by omega) (by omega) (by omega) (by omega) (by omega) ⟨by omega, by omega⟩)
  · refine jr_ifT_eq (t := 30) dX8_apart_5 (by decide) (by decide) (by decide) ?_
    refine jr_ldc2 (n := 33) dX8_apart_30 rfl rfl qX8_107 vX8_107 ?_
    refine jr_lret dX8_apart_33 rfl ?_
    first
      | exact hB (by omega)
      | (rcases hj with hj | hj
         · rw [hj]
           first
             | exact h1 (by omega) (by omega) (by omega) (by omega) (by omega) ⟨fun z => z hj, by omega⟩
             | exact h3 (by omega) (by omega) (by omega) (by omega) (by omega) ⟨fun z => z hj, by omega⟩
         · rw [hj]
           first
             | exact h0 (by omega) (by omega) (by omega) (by omega) (by omega) ⟨by omega, by omega⟩
             | exact h2 (by omega) (by omega) (by omega) (by omega) (by omega) ⟨by omega, by omega⟩)

def jb1 (x : Int) : Int := x - jand (jush x 1) 1431655765
def jb2 (x : Int) : Int := jand x 858993459 + jand (jush x 2) 858993459
def jb3 (x : Int) : Int := jand (x + jush x 4) 252645135
def jb4 (x : Int) : Int := x + jush x 8
def jb5 (x : Int) : Int := x + jush x 16
def jpop (x : Int) : Int := jsum (fun i => jand (jshr x i) 1) 10
theorem jbc_nat : ∀ n : Nat, n < 1024 → jand (jb5 (jb4 (jb3 (jb2 (jb1 (n : Int)))))) 63 = jpop (n : Int) := by decide +kernel
theorem jbc_eq {x : Int} (h0 : 0 ≤ x) (h1 : x < 1024) : jand (jb5 (jb4 (jb3 (jb2 (jb1 x))))) 63 = jpop x := by
  obtain ⟨n, rfl⟩ : ∃ n : Nat, x = n := ⟨x.toNat, by omega⟩
  exact jbc_nat n (by omega)
theorem jpop_b (x : Int) : 0 ≤ jpop x ∧ jpop x ≤ 10 := by
  have := jsum_b (f := fun i => jand (jshr x i) 1) (c := 1) 10 (fun i _ _ => by have := jand1 (jshr x i); omega)
  unfold jpop
  omega
theorem c_bitCount {G : jG} {d : Nat} {M : jMem} {Q : Option Value → jMem → Prop} {x : Int} (h0 : 0 ≤ x) (h1 : x < 1024) (h : Q (some (.int (jI (jpop x)))) M) : jN G mJ6_bitCount_0f7a4 (d) [.int (jI x)] M Q := by
  show jM G mJ6_bitCount_0f7a4 (d) 0 [.int (jI x)] [] M Q
  refine jr_iload_n (n := 1) dJ6_bitCount_0f7a4_0 rfl rfl ?_
  refine jr_iload_n (n := 2) dJ6_bitCount_0f7a4_1 rfl rfl ?_
  refine jr_iconst (n := 3) dJ6_bitCount_0f7a4_2 rfl ?_
  refine jr_iushr (n := 4) dJ6_bitCount_0f7a4_3 rfl ?_
  refine jr_ldcw (n := 7) dJ6_bitCount_0f7a4_4 rfl rfl qJ6_265 vJ6_265 ?_
  refine jr_iand (n := 8) dJ6_bitCount_0f7a4_7 rfl ?_
  refine jr_isub (n := 9) dJ6_bitCount_0f7a4_8 rfl ?_
  refine jr_istore0 (n := 10) dJ6_bitCount_0f7a4_9 rfl (by decide) rfl ?_
  refine jr_iload_n (n := 11) dJ6_bitCount_0f7a4_10 rfl rfl ?_
  refine jr_ldcw (n := 14) dJ6_bitCount_0f7a4_11 rfl rfl qJ6_266 vJ6_266 ?_
  refine jr_iand (n := 15) dJ6_bitCount_0f7a4_14 rfl ?_
  refine jr_iload_n (n := 16) dJ6_bitCount_0f7a4_15 rfl rfl ?_
  refine jr_iconst (n := 17) dJ6_bitCount_0f7a4_16 rfl ?_
  refine jr_iushr (n := 18) dJ6_bitCount_0f7a4_17 rfl ?_
  refine jr_ldcw (n := 21) dJ6_bitCount_0f7a4_18 rfl rfl qJ6_266 vJ6_266 ?_
  refine jr_iand (n := 22) dJ6_bitCount_0f7a4_21 rfl ?_
  refine jr_iadd (n := 23) dJ6_bitCount_0f7a4_22 rfl ?_
  refine jr_istore0 (n := 24) dJ6_bitCount_0f7a4_23 rfl (by decide) rfl ?_
  refine jr_iload_n (n := 25) dJ6_bitCount_0f7a4_24 rfl rfl ?_
  refine jr_iload_n (n := 26) dJ6_bitCount_0f7a4_25 rfl rfl ?_
  refine jr_iconst (n := 27) dJ6_bitCount_0f7a4_26 rfl ?_
  refine jr_iushr (n := 28) dJ6_bitCount_0f7a4_27 rfl ?_
  refine jr_iadd (n := 29) dJ6_bitCount_0f7a4_28 rfl ?_
  refine jr_ldcw (n := 32) dJ6_bitCount_0f7a4_29 rfl rfl qJ6_267 vJ6_267 ?_
  refine jr_iand (n := 33) dJ6_bitCount_0f7a4_32 rfl ?_
  refine jr_istore0 (n := 34) dJ6_bitCount_0f7a4_33 rfl (by decide) rfl ?_
  refine jr_iload_n (n := 35) dJ6_bitCount_0f7a4_34 rfl rfl ?_
  refine jr_iload_n (n := 36) dJ6_bitCount_0f7a4_35 rfl rfl ?_
  refine jr_bipush (n := 38) dJ6_bitCount_0f7a4_36 rfl (by decide) ?_
  refine jr_iushr (n := 39) dJ6_bitCount_0f7a4_38 rfl ?_
  refine jr_iadd (n := 40) dJ6_bitCount_0f7a4_39 rfl ?_
  refine jr_istore0 (n := 41) dJ6_bitCount_0f7a4_40 rfl (by decide) rfl ?_
  refine jr_iload_n (n := 42) dJ6_bitCount_0f7a4_41 rfl rfl ?_
  refine jr_iload_n (n := 43) dJ6_bitCount_0f7a4_42 rfl rfl ?_
  refine jr_bipush (n := 45) dJ6_bitCount_0f7a4_43 rfl (by decide) ?_
  refine jr_iushr (n := 46) dJ6_bitCount_0f7a4_45 rfl ?_
  refine jr_iadd (n := 47) dJ6_bitCount_0f7a4_46 rfl ?_
  refine jr_istore0 (n := 48) dJ6_bitCount_0f7a4_47 rfl (by decide) rfl ?_
  refine jr_iload_n (n := 49) dJ6_bitCount_0f7a4_48 rfl rfl ?_
  refine jr_bipush (n := 51) dJ6_bitCount_0f7a4_49 rfl (by decide) ?_
  refine jr_iand (n := 52) dJ6_bitCount_0f7a4_51 rfl ?_
  refine jr_iret dJ6_bitCount_0f7a4_52 rfl ?_
  show Q (some (.int (jI (jand (jb5 (jb4 (jb3 (jb2 (jb1 x))))) 63)))) M
  rw [jbc_eq h0 h1]
  exact h

def jnu (nr : Int → Int) : Int → Int := fun i => if nr i = 0 then 1 else 0
def jnf (fa : Int → Int) : Int → Int := fun k => if fa k = -1 then 0 else 1
theorem jnu_b (nr : Int → Int) (n : Nat) : 0 ≤ jsum (jnu nr) n ∧ jsum (jnu nr) n ≤ n := by
  have := jsum_b (f := jnu nr) (c := 1) n (fun i _ _ => by unfold jnu; split <;> omega)
  omega
theorem jnf_b (fa : Int → Int) (n : Nat) : 0 ≤ jsum (jnf fa) n ∧ jsum (jnf fa) n ≤ n := by
  have := jsum_b (f := jnf fa) (c := 1) n (fun i _ _ => by unfold jnf; split <;> omega)
  omega
theorem c_unread_l {G : jG} {d : Nat} {M : jMem} {Q : Option Value → jMem → Prop} (hI : jK M) (h : Q (some (.int (jI (jsum (jnu (M 35)) (M 6 3).toNat)))) M)  : ∀ (f : Nat) (i : Int), 0 ≤ i → i ≤ M 6 3 → M 6 3 - i < f → jM G mX3_unread (d) 4 [.ref (jad G 6), .int (jI (jsum (jnu (M 35)) i.toNat)), .int (jI i)] [] (M) Q := by
  intro f
  induction f with
  | zero =>
    intro i h0 h1 hf
    exact absurd hf (by omega)
  | succ f ih =>
    intro i h0 h1 hf
    have hz := jn1 hI
    have hb := jnu_b (M 35) i.toNat
    refine jr_iload_n (n := 5) dX3_unread_4 rfl rfl ?_
    refine jr_aload_n (n := 6) dX3_unread_5 rfl rfl ?_
    refine jr_getI (n := 9) (i := 3) rfl dX3_unread_6 rfl fX3_22 rfl (by decide) (by decide) rfl ?_
    refine jr_icmp_ge (n := 12) (t := 30) dX3_unread_9 (by decide) rfl (by omega) (by omega) (fun b9 => ?_) (fun b9 => ?_)
    · refine jr_iload_n (n := 31) dX3_unread_30 rfl rfl ?_
      refine jr_iret dX3_unread_31 rfl ?_
      have e : i = M 6 3 := by omega
      subst e
      exact h
    · have hr := jn12 hI i (by omega) (by omega)
      refine jr_aload_n (n := 13) dX3_unread_12 rfl rfl ?_
      refine jr_getR (n := 16) dX3_unread_13 rfl fX3_18 rfl (by decide) (by decide) rfl ?_
      refine jr_iload_n (n := 17) dX3_unread_16 rfl rfl ?_
      refine jr_zald (n := 18) dX3_unread_17 rfl rfl (by decide) (by omega) (by omega) ?_
      refine jr_if_ne (n := 21) (t := 24) dX3_unread_18 (by decide) rfl (by omega) (fun b18 => ?_) (fun b18 => ?_)
      · refine jr_iinc2 (n := 27) dX3_unread_24 rfl (by decide) rfl ?_
        refine jr_goto (t := 4) dX3_unread_27 (by decide) ?_
        first
          | (have e := jsum_s (jnu (M 35)) h0; rw [show (jnu (M 35)) i = 1 from if_pos b18] at e; rw [← e]; exact ih (i + 1) (by omega) (by omega) (by omega))
          | (have e := jsum_s (jnu (M 35)) h0; rw [show (jnu (M 35)) i = 0 from if_neg b18] at e; rw [Int.add_zero] at e; rw [← e]; exact ih (i + 1) (by omega) (by omega) (by omega))
      · refine jr_iinc1 (n := 24) dX3_unread_21 rfl (by decide) rfl ?_
        refine jr_iinc2 (n := 27) dX3_unread_24 rfl (by decide) rfl ?_
        refine jr_goto (t := 4) dX3_unread_27 (by decide) ?_
        first
          | (have e := jsum_s (jnu (M 35)) h0; rw [show (jnu (M 35)) i = 1 from if_pos b18] at e; rw [← e]; exact ih (i + 1) (by omega) (by omega) (by omega))
          | (have e := jsum_s (jnu (M 35)) h0; rw [show (jnu (M 35)) i = 0 from if_neg b18] at e; rw [Int.add_zero] at e; rw [← e]; exact ih (i + 1) (by omega) (by omega) (by omega))

theorem c_unread {G : jG} {d : Nat} {M : jMem} {Q : Option Value → jMem → Prop} (hI : jK M) (h : Q (some (.int (jI (jsum (jnu (M 35)) (M 6 3).toNat)))) M) : jN G mX3_unread (d) [.ref (jad G 6)] M Q := by
  show jM G mX3_unread (d) 0 [.ref (jad G 6), .null, .null] [] M Q
  have hz := jn1 hI
  refine jr_iconst (n := 1) dX3_unread_0 rfl ?_
  refine jr_istore1 (n := 2) dX3_unread_1 rfl (by decide) rfl ?_
  refine jr_iconst (n := 3) dX3_unread_2 rfl ?_
  refine jr_istore2 (n := 4) dX3_unread_3 rfl (by decide) rfl ?_
  exact c_unread_l hI h ((M 6 3).toNat + 1) 0 (by omega) (by omega) (by omega)

theorem c_fatesTold_l {G : jG} {d : Nat} {M : jMem} {Q : Option Value → jMem → Prop} (hI : jK M) (h : Q (some (.int (jI (jsum (jnf (M 14)) (M 1 8).toNat)))) M)  : ∀ (f : Nat) (i : Int), 0 ≤ i → i ≤ M 1 8 → M 1 8 - i < f → jM G mX2_fatesTold (d) 4 [.ref (jad G 1), .int (jI (jsum (jnf (M 14)) i.toNat)), .int (jI i)] [] (M) Q := by
  intro f
  induction f with
  | zero =>
    intro i h0 h1 hf
    exact absurd hf (by omega)
  | succ f ih =>
    intro i h0 h1 hf
    have hz := jn1 hI
    have hb := jnf_b (M 14) i.toNat
    refine jr_iload_n (n := 5) dX2_fatesTold_4 rfl rfl ?_
    refine jr_aload_n (n := 6) dX2_fatesTold_5 rfl rfl ?_
    refine jr_getI (n := 9) (i := 8) rfl dX2_fatesTold_6 rfl fX2_36 rfl (by decide) (by decide) rfl ?_
    refine jr_icmp_ge (n := 12) (t := 31) dX2_fatesTold_9 (by decide) rfl (by omega) (by omega) (fun b9 => ?_) (fun b9 => ?_)
    · refine jr_iload_n (n := 32) dX2_fatesTold_31 rfl rfl ?_
      refine jr_iret dX2_fatesTold_32 rfl ?_
      have e : i = M 1 8 := by omega
      subst e
      exact h
    · have hr := jn3 hI i (by omega) (by omega)
      refine jr_aload_n (n := 13) dX2_fatesTold_12 rfl rfl ?_
      refine jr_getR (n := 16) dX2_fatesTold_13 rfl fX2_24 rfl (by decide) (by decide) rfl ?_
      refine jr_iload_n (n := 17) dX2_fatesTold_16 rfl rfl ?_
      refine jr_iald (n := 18) dX2_fatesTold_17 rfl rfl (by decide) (by omega) (by omega) ?_
      refine jr_iconst (n := 19) dX2_fatesTold_18 rfl ?_
      refine jr_icmp_eq (n := 22) (t := 25) dX2_fatesTold_19 (by decide) rfl (by omega) (by omega) (fun b19 => ?_) (fun b19 => ?_)
      · refine jr_iinc2 (n := 28) dX2_fatesTold_25 rfl (by decide) rfl ?_
        refine jr_goto (t := 4) dX2_fatesTold_28 (by decide) ?_
        first
          | (have e := jsum_s (jnf (M 14)) h0; rw [show (jnf (M 14)) i = 0 from if_pos b19] at e; rw [Int.add_zero] at e; rw [← e]; exact ih (i + 1) (by omega) (by omega) (by omega))
          | (have e := jsum_s (jnf (M 14)) h0; rw [show (jnf (M 14)) i = 1 from if_neg b19] at e; rw [← e]; exact ih (i + 1) (by omega) (by omega) (by omega))
      · refine jr_iinc1 (n := 25) dX2_fatesTold_22 rfl (by decide) rfl ?_
        refine jr_iinc2 (n := 28) dX2_fatesTold_25 rfl (by decide) rfl ?_
        refine jr_goto (t := 4) dX2_fatesTold_28 (by decide) ?_
        first
          | (have e := jsum_s (jnf (M 14)) h0; rw [show (jnf (M 14)) i = 0 from if_pos b19] at e; rw [Int.add_zero] at e; rw [← e]; exact ih (i + 1) (by omega) (by omega) (by omega))
          | (have e := jsum_s (jnf (M 14)) h0; rw [show (jnf (M 14)) i = 1 from if_neg b19] at e; rw [← e]; exact ih (i + 1) (by omega) (by omega) (by omega))

theorem c_fatesTold {G : jG} {d : Nat} {M : jMem} {Q : Option Value → jMem → Prop} (hI : jK M) (h : Q (some (.int (jI (jsum (jnf (M 14)) (M 1 8).toNat)))) M) : jN G mX2_fatesTold (d) [.ref (jad G 1)] M Q := by
  show jM G mX2_fatesTold (d) 0 [.ref (jad G 1), .null, .null] [] M Q
  have hz := jn1 hI
  refine jr_iconst (n := 1) dX2_fatesTold_0 rfl ?_
  refine jr_istore1 (n := 2) dX2_fatesTold_1 rfl (by decide) rfl ?_
  refine jr_iconst (n := 3) dX2_fatesTold_2 rfl ?_
  refine jr_istore2 (n := 4) dX2_fatesTold_3 rfl (by decide) rfl ?_
  exact c_fatesTold_l hI h ((M 1 8).toNat + 1) 0 (by omega) (by omega) (by omega)

theorem c_pairs_l {G : jG} {d : Nat} {M : jMem} {Q : Option Value → jMem → Prop} (hI : jK M) (h : Q (some (.int (jI (jdiv (jsum (fun i => jpop (M 20 i)) (M 2 3).toNat) 2)))) M)  : ∀ (f : Nat) (i : Int), 0 ≤ i → i ≤ M 2 3 → M 2 3 - i < f → jM G mX4_pairsApart (d + 1) 4 [.ref (jad G 2), .int (jI (jsum (fun i => jpop (M 20 i)) i.toNat)), .int (jI i)] [] (M) Q := by
  intro f
  induction f with
  | zero =>
    intro i h0 h1 hf
    exact absurd hf (by omega)
  | succ f ih =>
    intro i h0 h1 hf
    have hz := jn1 hI
    refine jr_iload_n (n := 5) dX4_pairsApart_4 rfl rfl ?_
    refine jr_aload_n (n := 6) dX4_pairsApart_5 rfl rfl ?_
    refine jr_getI (n := 9) (i := 3) rfl dX4_pairsApart_6 rfl fX4_21 rfl (by decide) (by decide) rfl ?_
    refine jr_icmp_ge (n := 12) (t := 30) dX4_pairsApart_9 (by decide) rfl (by omega) (by omega) (fun b9 => ?_) (fun b9 => ?_)
    · refine jr_iload_n (n := 31) dX4_pairsApart_30 rfl rfl ?_
      refine jr_iconst (n := 32) dX4_pairsApart_31 rfl ?_
      refine jr_idiv (n := 33) dX4_pairsApart_32 rfl (by decide) ?_
      refine jr_iret dX4_pairsApart_33 rfl ?_
      have e : i = M 2 3 := by omega
      subst e
      exact h
    · have hr := jn9 hI i (by omega) (by omega)
      refine jr_iload_n (n := 13) dX4_pairsApart_12 rfl rfl ?_
      refine jr_aload_n (n := 14) dX4_pairsApart_13 rfl rfl ?_
      refine jr_getR (n := 17) dX4_pairsApart_14 rfl fX4_18 rfl (by decide) (by decide) rfl ?_
      refine jr_iload_n (n := 18) dX4_pairsApart_17 rfl rfl ?_
      refine jr_iald (n := 19) dX4_pairsApart_18 rfl rfl (by decide) (by omega) (by omega) ?_
      refine jr_cS1 (n := 22) (ν := mJ6_bitCount_0f7a4) dX4_pairsApart_19 rfl lX4_32 kJ6_bitCount_0f7a4 iJ6_bitCount_0f7a4 (Nat.le_of_ble_eq_true rfl) (Nat.le_of_ble_eq_true rfl) rfl ?_
      refine c_bitCount (by omega) (by omega) ?_
      refine jr_iadd (n := 23) dX4_pairsApart_22 rfl ?_
      refine jr_istore1 (n := 24) dX4_pairsApart_23 rfl (by decide) rfl ?_
      refine jr_iinc2 (n := 27) dX4_pairsApart_24 rfl (by decide) rfl ?_
      refine jr_goto (t := 4) dX4_pairsApart_27 (by decide) ?_
      have e := jsum_s (fun i => jpop (M 20 i)) h0
      rw [← e]
      exact ih (i + 1) (by omega) (by omega) (by omega)

theorem c_pairs {G : jG} {d : Nat} {M : jMem} {Q : Option Value → jMem → Prop} (hI : jK M) (h : Q (some (.int (jI (jdiv (jsum (fun i => jpop (M 20 i)) (M 2 3).toNat) 2)))) M) : jN G mX4_pairsApart (d + 1) [.ref (jad G 2)] M Q := by
  show jM G mX4_pairsApart (d + 1) 0 [.ref (jad G 2), .null, .null] [] M Q
  have hz := jn1 hI
  refine jr_iconst (n := 1) dX4_pairsApart_0 rfl ?_
  refine jr_istore1 (n := 2) dX4_pairsApart_1 rfl (by decide) rfl ?_
  refine jr_iconst (n := 3) dX4_pairsApart_2 rfl ?_
  refine jr_istore2 (n := 4) dX4_pairsApart_3 rfl (by decide) rfl ?_
  exact c_pairs_l hI h ((M 2 3).toNat + 1) 0 (by omega) (by omega) (by omega)

theorem c_present_l {G : jG} {d : Nat} {M : jMem} {Q : Option Value → jMem → Prop} (hI : jK M) (h : Q (some (.int (jI (jsum (jnf (M 37)) 2)))) M)  : ∀ (f : Nat) (i : Int), 0 ≤ i → i ≤ 2 → 2 - i < f → jM G mX6_present (d + 1) 4 [.ref (jad G 7), .int (jI (jsum (jnf (M 37)) i.toNat)), .int (jI i)] [] (M) Q := by
  intro f
  induction f with
  | zero =>
    intro i h0 h1 hf
    exact absurd hf (by omega)
  | succ f ih =>
    intro i h0 h1 hf
    have hb := jnf_b (M 37) i.toNat
    refine jr_iload_n (n := 5) dX6_present_4 rfl rfl ?_
    refine jr_iconst (n := 6) dX6_present_5 rfl ?_
    refine jr_icmp_ge (n := 9) (t := 26) dX6_present_6 (by decide) rfl (by omega) (by omega) (fun b6 => ?_) (fun b6 => ?_)
    · refine jr_iload_n (n := 27) dX6_present_26 rfl rfl ?_
      refine jr_iret dX6_present_27 rfl ?_
      have e : i = 2 := by omega
      subst e
      exact h
    · have hr := jn14 hI i (by omega) (by omega)
      refine jr_aload_n (n := 10) dX6_present_9 rfl rfl ?_
      refine jr_iload_n (n := 11) dX6_present_10 rfl rfl ?_
      refine jr_cV1 (n := 14) (ci := 6) (ν := mX6_isMissing) dX6_present_11 rfl lX6_25 kX6_isMissing iX6_isMissing rfl ⟨_, rfl, rfl⟩ (by decide) (Nat.le_of_ble_eq_true rfl) (Nat.le_of_ble_eq_true rfl) rfl ?_
      refine c_isMissing (by omega) (by omega) (fun b11 => ?_) (fun b11 => ?_)
      · refine jr_ifT_ne (t := 20) dX6_present_14 (by decide) (by decide) (by decide) ?_
        refine jr_iinc2 (n := 23) dX6_present_20 rfl (by decide) rfl ?_
        refine jr_goto (t := 4) dX6_present_23 (by decide) ?_
        first
          | (have e := jsum_s (jnf (M 37)) h0; rw [show (jnf (M 37)) i = 0 from if_pos b11] at e; rw [Int.add_zero] at e; rw [← e]; exact ih (i + 1) (by omega) (by omega) (by omega))
          | (have e := jsum_s (jnf (M 37)) h0; rw [show (jnf (M 37)) i = 1 from if_neg b11] at e; rw [← e]; exact ih (i + 1) (by omega) (by omega) (by omega))
      · refine jr_ifF_ne (n := 17) (t := 20) dX6_present_14 rfl (by decide) (by decide) (by decide) ?_
        refine jr_iinc1 (n := 20) dX6_present_17 rfl (by decide) rfl ?_
        refine jr_iinc2 (n := 23) dX6_present_20 rfl (by decide) rfl ?_
        refine jr_goto (t := 4) dX6_present_23 (by decide) ?_
        first
          | (have e := jsum_s (jnf (M 37)) h0; rw [show (jnf (M 37)) i = 0 from if_pos b11] at e; rw [Int.add_zero] at e; rw [← e]; exact ih (i + 1) (by omega) (by omega) (by omega))
          | (have e := jsum_s (jnf (M 37)) h0; rw [show (jnf (M 37)) i = 1 from if_neg b11] at e; rw [← e]; exact ih (i + 1) (by omega) (by omega) (by omega))

theorem c_present {G : jG} {d : Nat} {M : jMem} {Q : Option Value → jMem → Prop} (hI : jK M) (h : Q (some (.int (jI (jsum (jnf (M 37)) 2)))) M) : jN G mX6_present (d + 1) [.ref (jad G 7)] M Q := by
  show jM G mX6_present (d + 1) 0 [.ref (jad G 7), .null, .null] [] M Q
  refine jr_iconst (n := 1) dX6_present_0 rfl ?_
  refine jr_istore1 (n := 2) dX6_present_1 rfl (by decide) rfl ?_
  refine jr_iconst (n := 3) dX6_present_2 rfl ?_
  refine jr_istore2 (n := 4) dX6_present_3 rfl (by decide) rfl ?_
  exact c_present_l hI h 3 0 (by omega) (by omega) (by omega)

theorem jdiv2 {x : Int} (h0 : 0 ≤ x) (h1 : x < 1000) : jdiv x 2 = x / 2 := by
  obtain ⟨n, rfl⟩ : ∃ n : Nat, x = n := ⟨x.toNat, by omega⟩
  exact (by decide +kernel : ∀ n : Nat, n < 1000 → jdiv (n : Int) 2 = (n : Int) / 2) n (by omega)
theorem c_count {G : jG} {d : Nat} {M : jMem} {Q : Option Value → jMem → Prop} (hI : jK M) {v : Int} (hv : jR v) (hB : ¬ (0 ≤ v ∧ v ≤ 6) → Q (some (.long (jL (-9000000000000000001)))) M) (h0 : v = 0 → Q (some (.long (jL (M 1 8)))) M) (h1 : v = 1 → Q (some (.long (jL (M 2 3)))) M) (h2 : v = 2 → Q (some (.long (jL (M 6 3)))) M) (h3 : v = 3 → Q (some (.long (jL (jsum (jnu (M 35)) (M 6 3).toNat)))) M) (h4 : v = 4 → Q (some (.long (jL (jdiv (jsum (fun i => jpop (M 20 i)) (M 2 3).toNat) 2)))) M) (h5 : v = 5 → Q (some (.long (jL (jsum (jnf (M 14)) (M 1 8).toNat)))) M) (h6 : v = 6 → Q (some (.long (jL (jsum (jnf (M 37)) 2)))) M) : jN G mX7_count (d + 2) [.ref (jad G 0), .int (jI v)] M Q := by
  show jM G mX7_count (d + 2) 0 [.ref (jad G 0), .int (jI v)] [] M Q
  have hz := jn1 hI
  have hb1 := jnu_b (M 35) (M 6 3).toNat
  have hb2 := jnf_b (M 14) (M 1 8).toNat
  have hb3 := jnf_b (M 37) 2
  have hb4 := jI_R (jI (jsum (fun i => jpop (M 20 i)) (M 2 3).toNat) / jI 2)
  refine jr_iload_n (n := 1) dX7_count_0 rfl rfl ?_
  by_cases hs1 : v < 0 ∨ 6 < v
  · refine jr_tabO (t := 107) dX7_count_1 (by omega) hs1 (by decide) ?_
    refine jr_ldc2 (n := 110) dX7_count_107 rfl rfl qX7_70 vX7_70 ?_
    refine jr_lret dX7_count_110 rfl ?_
    first | exact hB (by omega) | exact h0 (by omega) | exact h1 (by omega) | exact h2 (by omega) | exact h3 (by omega) | exact h4 (by omega) | exact h5 (by omega) | exact h6 (by omega)
  have hs1_ : v = 0 ∨ v = 1 ∨ v = 2 ∨ v = 3 ∨ v = 4 ∨ v = 5 ∨ v = 6 := by omega
  rcases hs1_ with hv1 | hv1 | hv1 | hv1 | hv1 | hv1 | hv1
  · refine jr_tabI (t := 44) (off := 43) dX7_count_1 (by omega) (by omega) (by omega) (by rw [hv1]; rfl) (by decide) ?_
    refine jr_aload_n (n := 45) dX7_count_44 rfl rfl ?_
    refine jr_getR (n := 48) dX7_count_45 rfl fX7_10 rfl (by decide) (by decide) rfl ?_
    refine jr_getI (n := 51) (i := 8) rfl dX7_count_48 rfl fX7_72 rfl (by decide) (by decide) rfl ?_
    refine jr_i2l (n := 52) dX7_count_51 rfl (by omega) ?_
    refine jr_lret dX7_count_52 rfl ?_
    first | exact hB (by omega) | exact h0 (by omega) | exact h1 (by omega) | exact h2 (by omega) | exact h3 (by omega) | exact h4 (by omega) | exact h5 (by omega) | exact h6 (by omega)
  · refine jr_tabI (t := 53) (off := 52) dX7_count_1 (by omega) (by omega) (by omega) (by rw [hv1]; rfl) (by decide) ?_
    refine jr_aload_n (n := 54) dX7_count_53 rfl rfl ?_
    refine jr_getR (n := 57) dX7_count_54 rfl fX7_19 rfl (by decide) (by decide) rfl ?_
    refine jr_getI (n := 60) (i := 3) rfl dX7_count_57 rfl fX7_85 rfl (by decide) (by decide) rfl ?_
    refine jr_i2l (n := 61) dX7_count_60 rfl (by omega) ?_
    refine jr_lret dX7_count_61 rfl ?_
    first | exact hB (by omega) | exact h0 (by omega) | exact h1 (by omega) | exact h2 (by omega) | exact h3 (by omega) | exact h4 (by omega) | exact h5 (by omega) | exact h6 (by omega)
  · refine jr_tabI (t := 62) (off := 61) dX7_count_1 (by omega) (by omega) (by omega) (by rw [hv1]; rfl) (by decide) ?_
    refine jr_aload_n (n := 63) dX7_count_62 rfl rfl ?_
    refine jr_getR (n := 66) dX7_count_63 rfl fX7_47 rfl (by decide) (by decide) rfl ?_
    refine jr_getI (n := 69) (i := 3) rfl dX7_count_66 rfl fX7_228 rfl (by decide) (by decide) rfl ?_
    refine jr_i2l (n := 70) dX7_count_69 rfl (by omega) ?_
    refine jr_lret dX7_count_70 rfl ?_
    first | exact hB (by omega) | exact h0 (by omega) | exact h1 (by omega) | exact h2 (by omega) | exact h3 (by omega) | exact h4 (by omega) | exact h5 (by omega) | exact h6 (by omega)
  · refine jr_tabI (t := 71) (off := 70) dX7_count_1 (by omega) (by omega) (by omega) (by rw [hv1]; rfl) (by decide) ?_
    refine jr_aload_n (n := 72) dX7_count_71 rfl rfl ?_
    refine jr_getR (n := 75) dX7_count_72 rfl fX7_47 rfl (by decide) (by decide) rfl ?_
    refine jr_cV0 (n := 78) (ci := 3) (ν := mX3_unread) dX7_count_75 rfl lX7_279 kX3_unread iX3_unread rfl ⟨_, rfl, rfl⟩ (by decide) (Nat.le_of_ble_eq_true rfl) (Nat.le_of_ble_eq_true rfl) rfl ?_
    refine c_unread hI ?_
    refine jr_i2l (n := 79) dX7_count_78 rfl (by omega) ?_
    refine jr_lret dX7_count_79 rfl ?_
    first | exact hB (by omega) | exact h0 (by omega) | exact h1 (by omega) | exact h2 (by omega) | exact h3 (by omega) | exact h4 (by omega) | exact h5 (by omega) | exact h6 (by omega)
  · refine jr_tabI (t := 80) (off := 79) dX7_count_1 (by omega) (by omega) (by omega) (by rw [hv1]; rfl) (by decide) ?_
    refine jr_aload_n (n := 81) dX7_count_80 rfl rfl ?_
    refine jr_getR (n := 84) dX7_count_81 rfl fX7_19 rfl (by decide) (by decide) rfl ?_
    refine jr_cV0 (n := 87) (ci := 4) (ν := mX4_pairsApart) dX7_count_84 rfl lX7_283 kX4_pairsApart iX4_pairsApart rfl ⟨_, rfl, rfl⟩ (by decide) (Nat.le_of_ble_eq_true rfl) (Nat.le_of_ble_eq_true rfl) rfl ?_
    refine c_pairs hI ?_
    refine jr_i2l (n := 88) dX7_count_87 rfl hb4 ?_
    refine jr_lret dX7_count_88 rfl ?_
    first | exact hB (by omega) | exact h0 (by omega) | exact h1 (by omega) | exact h2 (by omega) | exact h3 (by omega) | exact h4 (by omega) | exact h5 (by omega) | exact h6 (by omega)
  · refine jr_tabI (t := 89) (off := 88) dX7_count_1 (by omega) (by omega) (by omega) (by rw [hv1]; rfl) (by decide) ?_
    refine jr_aload_n (n := 90) dX7_count_89 rfl rfl ?_
    refine jr_getR (n := 93) dX7_count_90 rfl fX7_10 rfl (by decide) (by decide) rfl ?_
    refine jr_cV0 (n := 96) (ci := 2) (ν := mX2_fatesTold) dX7_count_93 rfl lX7_286 kX2_fatesTold iX2_fatesTold rfl ⟨_, rfl, rfl⟩ (by decide) (Nat.le_of_ble_eq_true rfl) (Nat.le_of_ble_eq_true rfl) rfl ?_
    refine c_fatesTold hI ?_
    refine jr_i2l (n := 97) dX7_count_96 rfl (by omega) ?_
    refine jr_lret dX7_count_97 rfl ?_
    first | exact hB (by omega) | exact h0 (by omega) | exact h1 (by omega) | exact h2 (by omega) | exact h3 (by omega) | exact h4 (by omega) | exact h5 (by omega) | exact h6 (by omega)
  · refine jr_tabI (t := 98) (off := 97) dX7_count_1 (by omega) (by omega) (by omega) (by rw [hv1]; rfl) (by decide) ?_
    refine jr_aload_n (n := 99) dX7_count_98 rfl rfl ?_
    refine jr_getR (n := 102) dX7_count_99 rfl fX7_54 rfl (by decide) (by decide) rfl ?_
    refine jr_cV0 (n := 105) (ci := 6) (ν := mX6_present) dX7_count_102 rfl lX7_289 kX6_present iX6_present rfl ⟨_, rfl, rfl⟩ (by decide) (Nat.le_of_ble_eq_true rfl) (Nat.le_of_ble_eq_true rfl) rfl ?_
    refine c_present hI ?_
    refine jr_i2l (n := 106) dX7_count_105 rfl (by omega) ?_
    refine jr_lret dX7_count_106 rfl ?_
    first | exact hB (by omega) | exact h0 (by omega) | exact h1 (by omega) | exact h2 (by omega) | exact h3 (by omega) | exact h4 (by omega) | exact h5 (by omega) | exact h6 (by omega)

theorem e_count3_l {G : jG} {d : Nat} {M : jMem} {Q : Option Value → jMem → Prop} (hI : jO M) {v : Int} (h : Q (some (.long (jL (jsum (fun i => 1 - M 52 i) (M 8 14).toNat)))) M)  : ∀ (f : Nat) (i : Int), 0 ≤ i → i ≤ M 8 14 → M 8 14 - i < f → jM G mX8_count (d) 64 [.ref (jad G 8), .int (jI v), .int (jI (jsum (fun i => 1 - M 52 i) i.toNat)), .int (jI i), .null] [] (M) Q := by
  intro f
  induction f with
  | zero =>
    intro i h0 h1 hf
    exact absurd hf (by omega)
  | succ f ih =>
    intro i h0 h1 hf
    have hz := jn1 hI
    have hb := jsum_b (f := fun i => 1 - M 52 i) (c := 1) i.toNat (fun j j0 j1 => by have := jn12 hI j j0 (by omega); omega)
    refine jr_iload_n (n := 65) dX8_count_64 rfl rfl ?_
    refine jr_aload_n (n := 66) dX8_count_65 rfl rfl ?_
    refine jr_getI (n := 69) (i := 14) rfl dX8_count_66 rfl fX8_189 rfl (by decide) (by decide) rfl ?_
    refine jr_icmp_ge (n := 72) (t := 89) dX8_count_69 (by decide) rfl (by omega) (by omega) (fun b69 => ?_) (fun b69 => ?_)
    · refine jr_iload_n (n := 90) dX8_count_89 rfl rfl ?_
      refine jr_i2l (n := 91) dX8_count_90 rfl (by omega) ?_
      refine jr_lret dX8_count_91 rfl ?_
      have e : i = M 8 14 := by omega
      subst e
      exact h
    · refine jr_iload_n (n := 73) dX8_count_72 rfl rfl ?_
      refine jr_iconst (n := 74) dX8_count_73 rfl ?_
      refine jr_aload_n (n := 75) dX8_count_74 rfl rfl ?_
      refine jr_getR (n := 78) dX8_count_75 rfl fX8_52 rfl (by decide) (by decide) rfl ?_
      refine jr_iload_n (n := 79) dX8_count_78 rfl rfl ?_
      refine jr_iald (n := 80) dX8_count_79 rfl rfl (by decide) (by omega) (by omega) ?_
      refine jr_isub (n := 81) dX8_count_80 rfl ?_
      refine jr_iadd (n := 82) dX8_count_81 rfl ?_
      refine jr_istore2 (n := 83) dX8_count_82 rfl (by decide) rfl ?_
      refine jr_iinc3 (n := 86) dX8_count_83 rfl (by decide) rfl ?_
      refine jr_goto (t := 64) dX8_count_86 (by decide) ?_
      have e := jsum_s (fun i => 1 - M 52 i) h0
      rw [← e]
      exact ih (i + 1) (by omega) (by omega) (by omega)

theorem e_count5_l {G : jG} {d : Nat} {M : jMem} {Q : Option Value → jMem → Prop} (hI : jO M) {v : Int} (h : Q (some (.long (jL (jsum (fun k => if M 44 k < 0 then 0 else 1) (M 8 2).toNat)))) M)  : ∀ (f : Nat) (i : Int), 0 ≤ i → i ≤ M 8 2 → M 8 2 - i < f → jM G mX8_count (d) 142 [.ref (jad G 8), .int (jI v), .int (jI (jsum (fun k => if M 44 k < 0 then 0 else 1) i.toNat)), .int (jI i), .null] [] (M) Q := by
  intro f
  induction f with
  | zero =>
    intro i h0 h1 hf
    exact absurd hf (by omega)
  | succ f ih =>
    intro i h0 h1 hf
    have hz := jn1 hI
    have hb := jsum_b (f := fun k => if M 44 k < 0 then 0 else 1) (c := 1) i.toNat (fun j j0 j1 => by split <;> omega)
    refine jr_iload_n (n := 143) dX8_count_142 rfl rfl ?_
    refine jr_aload_n (n := 144) dX8_count_143 rfl rfl ?_
    refine jr_getI (n := 147) (i := 2) rfl dX8_count_144 rfl fX8_96 rfl (by decide) (by decide) rfl ?_
    refine jr_icmp_ge (n := 150) (t := 173) dX8_count_147 (by decide) rfl (by omega) (by omega) (fun b147 => ?_) (fun b147 => ?_)
    · refine jr_iload_n (n := 174) dX8_count_173 rfl rfl ?_
      refine jr_i2l (n := 175) dX8_count_174 rfl (by omega) ?_
      refine jr_lret dX8_count_175 rfl ?_
      have e : i = M 8 2 := by omega
      subst e
      exact h
    · have hr := jn3 hI i (by omega) (by omega)
      refine jr_iload_n (n := 151) dX8_count_150 rfl rfl ?_
      refine jr_aload_n (n := 152) dX8_count_151 rfl rfl ?_
      refine jr_getR (n := 155) dX8_count_152 rfl fX8_28 rfl (by decide) (by decide) rfl ?_
      refine jr_iload_n (n := 156) dX8_count_155 rfl rfl ?_
      refine jr_iald (n := 157) dX8_count_156 rfl rfl (by decide) (by omega) (by omega) ?_
      refine jr_if_lt (n := 160) (t := 164) dX8_count_157 (by decide) rfl (by omega) (fun b157 => ?_) (fun b157 => ?_)
      · refine jr_iconst (n := 165) dX8_count_164 rfl ?_
        refine jr_iadd (n := 166) dX8_count_165 rfl ?_
        refine jr_istore2 (n := 167) dX8_count_166 rfl (by decide) rfl ?_
        refine jr_iinc3 (n := 170) dX8_count_167 rfl (by decide) rfl ?_
        refine jr_goto (t := 142) dX8_count_170 (by decide) ?_
        first
          | (have e := jsum_s (fun k => if M 44 k < 0 then 0 else 1) h0; rw [if_pos b157] at e; rw [← e]; exact ih (i + 1) (by omega) (by omega) (by omega))
          | (have e := jsum_s (fun k => if M 44 k < 0 then 0 else 1) h0; rw [if_neg (by omega)] at e; rw [← e]; exact ih (i + 1) (by omega) (by omega) (by omega))
      · refine jr_iconst (n := 161) dX8_count_160 rfl ?_
        refine jr_goto (t := 165) dX8_count_161 (by decide) ?_
        refine jr_iadd (n := 166) dX8_count_165 rfl ?_
        refine jr_istore2 (n := 167) dX8_count_166 rfl (by decide) rfl ?_
        refine jr_iinc3 (n := 170) dX8_count_167 rfl (by decide) rfl ?_
        refine jr_goto (t := 142) dX8_count_170 (by decide) ?_
        first
          | (have e := jsum_s (fun k => if M 44 k < 0 then 0 else 1) h0; rw [if_pos b157] at e; rw [← e]; exact ih (i + 1) (by omega) (by omega) (by omega))
          | (have e := jsum_s (fun k => if M 44 k < 0 then 0 else 1) h0; rw [if_neg (by omega)] at e; rw [← e]; exact ih (i + 1) (by omega) (by omega) (by omega))

theorem e_count4_m {G : jG} {d : Nat} {M : jMem} {Q : Option Value → jMem → Prop} {v i a : Int} (hi : 0 ≤ i ∧ i < 10) (h : jM G mX8_count d 131 [.ref (jad G 8), .int (jI v), .int (jI (a + jsum (fun u => jand (jshr (M 47 i) u) 1) i.toNat)), .int (jI i), .int (jI i)] [] M Q)  : ∀ (f : Nat) (j : Int), 0 ≤ j → j ≤ i → i - j < f → jM G mX8_count (d) 105 [.ref (jad G 8), .int (jI v), .int (jI (a + jsum (fun u => jand (jshr (M 47 i) u) 1) j.toNat)), .int (jI i), .int (jI j)] [] (M) Q := by
  intro f
  induction f with
  | zero =>
    intro j h0 h1 hf
    exact absurd hf (by omega)
  | succ f ih =>
    intro j h0 h1 hf
    refine jr_iload (n := 107) dX8_count_105 rfl rfl ?_
    refine jr_iload_n (n := 108) dX8_count_107 rfl rfl ?_
    refine jr_icmp_ge (n := 111) (t := 131) dX8_count_108 (by decide) rfl (by omega) (by omega) (fun b108 => ?_) (fun b108 => ?_)
    · have e : j = i := by omega
      subst e
      exact h
    · refine jr_iload_n (n := 112) dX8_count_111 rfl rfl ?_
      refine jr_aload_n (n := 113) dX8_count_112 rfl rfl ?_
      refine jr_getR (n := 116) dX8_count_113 rfl fX8_37 rfl (by decide) (by decide) rfl ?_
      refine jr_iload_n (n := 117) dX8_count_116 rfl rfl ?_
      refine jr_iald (n := 118) dX8_count_117 rfl rfl (by decide) (by omega) (by omega) ?_
      refine jr_iload (n := 120) dX8_count_118 rfl rfl ?_
      refine jr_ishr (n := 121) dX8_count_120 rfl ?_
      refine jr_iconst (n := 122) dX8_count_121 rfl ?_
      refine jr_iand (n := 123) dX8_count_122 rfl ?_
      refine jr_iadd (n := 124) dX8_count_123 rfl ?_
      refine jr_istore2 (n := 125) dX8_count_124 rfl (by decide) rfl ?_
      refine jr_iinc4 (n := 128) dX8_count_125 rfl (by decide) rfl ?_
      refine jr_goto (t := 105) dX8_count_128 (by decide) ?_
      have e := jsum_s (fun u => jand (jshr (M 47 i) u) 1) h0
      rw [Int.add_assoc, ← e]
      exact ih (j + 1) (by omega) (by omega) (by omega)

theorem e_count4_l {G : jG} {d : Nat} {M : jMem} {Q : Option Value → jMem → Prop} (hI : jO M) {v : Int} (h : Q (some (.long (jL (jsum (fun i => jsum (fun u => jand (jshr (M 47 i) u) 1) i.toNat) (M 8 8).toNat)))) M)  : ∀ (f : Nat) (i : Int), 0 ≤ i → i ≤ M 8 8 → M 8 8 - i < f → jM G mX8_count (d) 94 [.ref (jad G 8), .int (jI v), .int (jI (jsum (fun i => jsum (fun u => jand (jshr (M 47 i) u) 1) i.toNat) i.toNat)), .int (jI i), .null] [] (M) Q := by
  intro f
  induction f with
  | zero =>
    intro i h0 h1 hf
    exact absurd hf (by omega)
  | succ f ih =>
    intro i h0 h1 hf
    have hz := jn1 hI
    have hb := jsum_b (f := fun i => jsum (fun u => jand (jshr (M 47 i) u) 1) i.toNat) (c := 10) i.toNat (fun j j0 j1 => by
      have := jsum_b (f := fun u => jand (jshr (M 47 j) u) 1) (c := 1) j.toNat (fun u _ _ => by have := jand1 (jshr (M 47 j) u); omega)
      omega)
    refine jr_iload_n (n := 95) dX8_count_94 rfl rfl ?_
    refine jr_aload_n (n := 96) dX8_count_95 rfl rfl ?_
    refine jr_getI (n := 99) (i := 8) rfl dX8_count_96 rfl fX8_100 rfl (by decide) (by decide) rfl ?_
    refine jr_icmp_ge (n := 102) (t := 137) dX8_count_99 (by decide) rfl (by omega) (by omega) (fun b99 => ?_) (fun b99 => ?_)
    · refine jr_iload_n (n := 138) dX8_count_137 rfl rfl ?_
      refine jr_i2l (n := 139) dX8_count_138 rfl (by omega) ?_
      refine jr_lret dX8_count_139 rfl ?_
      have e : i = M 8 8 := by omega
      subst e
      exact h
    · refine jr_iconst (n := 103) dX8_count_102 rfl ?_
      refine jr_istore4 (n := 105) dX8_count_103 rfl (by decide) rfl ?_
      have k := e_count4_m (G := G) (d := d) (M := M) (Q := Q) (v := v) (i := i) (a := jsum (fun i => jsum (fun u => jand (jshr (M 47 i) u) 1) i.toNat) i.toNat) (by omega) ?_ (i.toNat + 1) 0 (by omega) (by omega) (by omega)
      · rw [show (0 : Int).toNat = 0 from rfl, show jsum (fun u => jand (jshr (M 47 i) u) 1) 0 = 0 from rfl, Int.add_zero] at k
        exact k
      refine jr_iinc3 (n := 134) dX8_count_131 rfl (by decide) rfl ?_
      refine jr_goto (t := 94) dX8_count_134 (by decide) ?_
      have e := jsum_s (fun i => jsum (fun u => jand (jshr (M 47 i) u) 1) i.toNat) h0
      rw [← e]
      exact jr_drop (ih (i + 1) (by omega) (by omega) (by omega)) ⟨Or.inr rfl, Or.inr rfl, Or.inr rfl, Or.inr rfl, Or.inl rfl, trivial⟩

theorem e_count {G : jG} {d : Nat} {M : jMem} {Q : Option Value → jMem → Prop} (hI : jO M) {v : Int} (hv : jR v) (hB : ¬ (0 ≤ v ∧ v ≤ 6) → Q (some (.long (jL (-9000000000000000001)))) M) (h0 : v = 0 → Q (some (.long (jL (M 8 2)))) M) (h1 : v = 1 → Q (some (.long (jL (M 8 8)))) M) (h2 : v = 2 → Q (some (.long (jL (M 8 14)))) M) (h3 : v = 3 → Q (some (.long (jL (jsum (fun i => 1 - M 52 i) (M 8 14).toNat)))) M) (h4 : v = 4 → Q (some (.long (jL (jsum (fun i => jsum (fun u => jand (jshr (M 47 i) u) 1) i.toNat) (M 8 8).toNat)))) M) (h5 : v = 5 → Q (some (.long (jL (jsum (fun k => if M 44 k < 0 then 0 else 1) (M 8 2).toNat)))) M) (h6 : v = 6 → Q (some (.long (jL ((if M 53 0 < 0 then 0 else 1) + (if M 53 1 < 0 then 0 else 1))))) M) : jN G mX8_count (d) [.ref (jad G 8), .int (jI v)] M Q := by
  show jM G mX8_count (d) 0 [.ref (jad G 8), .int (jI v), .null, .null, .null] [] M Q
  have hz := jn1 hI
  have hr0 := jn14 hI 0 (by omega) (by omega)
  have hr1 := jn14 hI 1 (by omega) (by omega)
  refine jr_iconst (n := 1) dX8_count_0 rfl ?_
  refine jr_istore2 (n := 2) dX8_count_1 rfl (by decide) rfl ?_
  refine jr_iload_n (n := 3) dX8_count_2 rfl rfl ?_
  by_cases hs3 : v < 0 ∨ 6 < v
  · refine jr_tabO (t := 207) dX8_count_3 (by omega) hs3 (by decide) ?_
    refine jr_ldc2 (n := 210) dX8_count_207 rfl rfl qX8_107 vX8_107 ?_
    refine jr_lret dX8_count_210 rfl ?_
    first
      | exact hB (by omega)
      | exact h0 (by omega)
      | exact h1 (by omega)
      | exact h2 (by omega)
      | (have h6 := h6 (by omega); simp only [if_pos, if_neg, b182, b196, Int.not_lt.mpr, not_false_eq_true, ite_true, ite_false] at h6; exact h6)
      | (have h6 := h6 (by omega); first
          | (rw [if_pos b182, if_pos b196] at h6; exact h6)
          | (rw [if_pos b182, if_neg (by omega)] at h6; exact h6)
          | (rw [if_neg (by omega), if_pos b196] at h6; exact h6)
          | (rw [if_neg (by omega), if_neg (by omega)] at h6; exact h6))
  have hs3_ : v = 0 ∨ v = 1 ∨ v = 2 ∨ v = 3 ∨ v = 4 ∨ v = 5 ∨ v = 6 := by omega
  rcases hs3_ with hv3 | hv3 | hv3 | hv3 | hv3 | hv3 | hv3
  · refine jr_tabI (t := 44) (off := 41) dX8_count_3 (by omega) (by omega) (by omega) (by rw [hv3]; rfl) (by decide) ?_
    refine jr_aload_n (n := 45) dX8_count_44 rfl rfl ?_
    refine jr_getI (n := 48) (i := 2) rfl dX8_count_45 rfl fX8_96 rfl (by decide) (by decide) rfl ?_
    refine jr_i2l (n := 49) dX8_count_48 rfl (by omega) ?_
    refine jr_lret dX8_count_49 rfl ?_
    first
      | exact hB (by omega)
      | exact h0 (by omega)
      | exact h1 (by omega)
      | exact h2 (by omega)
      | (have h6 := h6 (by omega); simp only [if_pos, if_neg, b182, b196, Int.not_lt.mpr, not_false_eq_true, ite_true, ite_false] at h6; exact h6)
      | (have h6 := h6 (by omega); first
          | (rw [if_pos b182, if_pos b196] at h6; exact h6)
          | (rw [if_pos b182, if_neg (by omega)] at h6; exact h6)
          | (rw [if_neg (by omega), if_pos b196] at h6; exact h6)
          | (rw [if_neg (by omega), if_neg (by omega)] at h6; exact h6))
  · refine jr_tabI (t := 50) (off := 47) dX8_count_3 (by omega) (by omega) (by omega) (by rw [hv3]; rfl) (by decide) ?_
    refine jr_aload_n (n := 51) dX8_count_50 rfl rfl ?_
    refine jr_getI (n := 54) (i := 8) rfl dX8_count_51 rfl fX8_100 rfl (by decide) (by decide) rfl ?_
    refine jr_i2l (n := 55) dX8_count_54 rfl (by omega) ?_
    refine jr_lret dX8_count_55 rfl ?_
    first
      | exact hB (by omega)
      | exact h0 (by omega)
      | exact h1 (by omega)
      | exact h2 (by omega)
      | (have h6 := h6 (by omega); simp only [if_pos, if_neg, b182, b196, Int.not_lt.mpr, not_false_eq_true, ite_true, ite_false] at h6; exact h6)
      | (have h6 := h6 (by omega); first
          | (rw [if_pos b182, if_pos b196] at h6; exact h6)
          | (rw [if_pos b182, if_neg (by omega)] at h6; exact h6)
          | (rw [if_neg (by omega), if_pos b196] at h6; exact h6)
          | (rw [if_neg (by omega), if_neg (by omega)] at h6; exact h6))
  · refine jr_tabI (t := 56) (off := 53) dX8_count_3 (by omega) (by omega) (by omega) (by rw [hv3]; rfl) (by decide) ?_
    refine jr_aload_n (n := 57) dX8_count_56 rfl rfl ?_
    refine jr_getI (n := 60) (i := 14) rfl dX8_count_57 rfl fX8_189 rfl (by decide) (by decide) rfl ?_
    refine jr_i2l (n := 61) dX8_count_60 rfl (by omega) ?_
    refine jr_lret dX8_count_61 rfl ?_
    first
      | exact hB (by omega)
      | exact h0 (by omega)
      | exact h1 (by omega)
      | exact h2 (by omega)
      | (have h6 := h6 (by omega); simp only [if_pos, if_neg, b182, b196, Int.not_lt.mpr, not_false_eq_true, ite_true, ite_false] at h6; exact h6)
      | (have h6 := h6 (by omega); first
          | (rw [if_pos b182, if_pos b196] at h6; exact h6)
          | (rw [if_pos b182, if_neg (by omega)] at h6; exact h6)
          | (rw [if_neg (by omega), if_pos b196] at h6; exact h6)
          | (rw [if_neg (by omega), if_neg (by omega)] at h6; exact h6))
  · refine jr_tabI (t := 62) (off := 59) dX8_count_3 (by omega) (by omega) (by omega) (by rw [hv3]; rfl) (by decide) ?_
    refine jr_iconst (n := 63) dX8_count_62 rfl ?_
    refine jr_istore3 (n := 64) dX8_count_63 rfl (by decide) rfl ?_
    exact e_count3_l hI (h3 (by omega)) ((M 8 14).toNat + 1) 0 (by omega) (by omega) (by omega)
  · refine jr_tabI (t := 92) (off := 89) dX8_count_3 (by omega) (by omega) (by omega) (by rw [hv3]; rfl) (by decide) ?_
    refine jr_iconst (n := 93) dX8_count_92 rfl ?_
    refine jr_istore3 (n := 94) dX8_count_93 rfl (by decide) rfl ?_
    exact e_count4_l hI (h4 (by omega)) ((M 8 8).toNat + 1) 0 (by omega) (by omega) (by omega)
  · refine jr_tabI (t := 140) (off := 137) dX8_count_3 (by omega) (by omega) (by omega) (by rw [hv3]; rfl) (by decide) ?_
    refine jr_iconst (n := 141) dX8_count_140 rfl ?_
    refine jr_istore3 (n := 142) dX8_count_141 rfl (by decide) rfl ?_
    exact e_count5_l hI (h5 (by omega)) ((M 8 2).toNat + 1) 0 (by omega) (by omega) (by omega)
  · refine jr_tabI (t := 176) (off := 173) dX8_count_3 (by omega) (by omega) (by omega) (by rw [hv3]; rfl) (by decide) ?_
    refine jr_aload_n (n := 177) dX8_count_176 rfl rfl ?_
    refine jr_getR (n := 180) dX8_count_177 rfl fX8_55 rfl (by decide) (by decide) rfl ?_
    refine jr_iconst (n := 181) dX8_count_180 rfl ?_
    refine jr_iald (n := 182) dX8_count_181 rfl rfl (by decide) (by omega) (by omega) ?_
    refine jr_if_ge (n := 185) (t := 189) dX8_count_182 (by decide) rfl (by omega) (fun b182 => ?_) (fun b182 => ?_)
    · refine jr_iconst (n := 190) dX8_count_189 rfl ?_
      refine jr_aload_n (n := 191) dX8_count_190 rfl rfl ?_
      refine jr_getR (n := 194) dX8_count_191 rfl fX8_55 rfl (by decide) (by decide) rfl ?_
      refine jr_iconst (n := 195) dX8_count_194 rfl ?_
      refine jr_iald (n := 196) dX8_count_195 rfl rfl (by decide) (by omega) (by omega) ?_
      refine jr_if_ge (n := 199) (t := 203) dX8_count_196 (by decide) rfl (by omega) (fun b196 => ?_) (fun b196 => ?_)
      · refine jr_iconst (n := 204) dX8_count_203 rfl ?_
        refine jr_iadd (n := 205) dX8_count_204 rfl ?_
        refine jr_i2l (n := 206) dX8_count_205 rfl (by omega) ?_
        refine jr_lret dX8_count_206 rfl ?_
        first
          | exact hB (by omega)
          | exact h0 (by omega)
          | exact h1 (by omega)
          | exact h2 (by omega)
          | (have h6 := h6 (by omega); simp only [if_pos, if_neg, b182, b196, Int.not_lt.mpr, not_false_eq_true, ite_true, ite_false] at h6; exact h6)
          | (have h6 := h6 (by omega); first
              | (rw [if_pos b182, if_pos b196] at h6; exact h6)
              | (rw [if_pos b182, if_neg (by omega)] at h6; exact h6)
              | (rw [if_neg (by omega), if_pos b196] at h6; exact h6)
              | (rw [if_neg (by omega), if_neg (by omega)] at h6; exact h6))
      · refine jr_iconst (n := 200) dX8_count_199 rfl ?_
        refine jr_goto (t := 204) dX8_count_200 (by decide) ?_
        refine jr_iadd (n := 205) dX8_count_204 rfl ?_
        refine jr_i2l (n := 206) dX8_count_205 rfl (by omega) ?_
        refine jr_lret dX8_count_206 rfl ?_
        first
          | exact hB (by omega)
          | exact h0 (by omega)
          | exact h1 (by omega)
          | exact h2 (by omega)
          | (have h6 := h6 (by omega); simp only [if_pos, if_neg, b182, b196, Int.not_lt.mpr, not_false_eq_true, ite_true, ite_false] at h6; exact h6)
          | (have h6 := h6 (by omega); first
              | (rw [if_pos b182, if_pos b196] at h6; exact h6)
              | (rw [if_pos b182, if_neg (by omega)] at h6; exact h6)
              | (rw [if_neg (by omega), if_pos b196] at h6; exact h6)
              | (rw [if_neg (by omega), if_neg (by omega)] at h6; exact h6))
    · refine jr_iconst (n := 186) dX8_count_185 rfl ?_
      refine jr_goto (t := 190) dX8_count_186 (by decide) ?_
      refine jr_aload_n (n := 191) dX8_count_190 rfl rfl ?_
      refine jr_getR (n := 194) dX8_count_191 rfl fX8_55 rfl (by decide) (by decide) rfl ?_
      refine jr_iconst (n := 195) dX8_count_194 rfl ?_
      refine jr_iald (n := 196) dX8_count_195 rfl rfl (by decide) (by omega) (by omega) ?_
      refine jr_if_ge (n := 199) (t := 203) dX8_count_196 (by decide) rfl (by omega) (fun b196 => ?_) (fun b196 => ?_)
      · refine jr_iconst (n := 204) dX8_count_203 rfl ?_
        refine jr_iadd (n := 205) dX8_count_204 rfl ?_
        refine jr_i2l (n := 206) dX8_count_205 rfl (by omega) ?_
        refine jr_lret dX8_count_206 rfl ?_
        first
          | exact hB (by omega)
          | exact h0 (by omega)
          | exact h1 (by omega)
          | exact h2 (by omega)
          | (have h6 := h6 (by omega); simp only [if_pos, if_neg, b182, b196, Int.not_lt.mpr, not_false_eq_true, ite_true, ite_false] at h6; exact h6)
          | (have h6 := h6 (by omega); first
              | (rw [if_pos b182, if_pos b196] at h6; exact h6)
              | (rw [if_pos b182, if_neg (by omega)] at h6; exact h6)
              | (rw [if_neg (by omega), if_pos b196] at h6; exact h6)
              | (rw [if_neg (by omega), if_neg (by omega)] at h6; exact h6))
      · refine jr_iconst (n := 200) dX8_count_199 rfl ?_
        refine jr_goto (t := 204) dX8_count_200 (by decide) ?_
        refine jr_iadd (n := 205) dX8_count_204 rfl ?_
        refine jr_i2l (n := 206) dX8_count_205 rfl (by omega) ?_
        refine jr_lret dX8_count_206 rfl ?_
        first
          | exact hB (by omega)
          | exact h0 (by omega)
          | exact h1 (by omega)
          | exact h2 (by omega)
          | (have h6 := h6 (by omega); simp only [if_pos, if_neg, b182, b196, Int.not_lt.mpr, not_false_eq_true, ite_true, ite_false] at h6; exact h6)
          | (have h6 := h6 (by omega); first
              | (rw [if_pos b182, if_pos b196] at h6; exact h6)
              | (rw [if_pos b182, if_neg (by omega)] at h6; exact h6)
              | (rw [if_neg (by omega), if_pos b196] at h6; exact h6)
              | (rw [if_neg (by omega), if_neg (by omega)] at h6; exact h6))

