theorem jand_R (x z : Int) : jR (jand x z) := jI_R _
theorem jshr_R (x z : Int) : jR (jshr x z) := jI_R _
theorem jand1 (x : Int) : jand x 1 = 0 ∨ jand x 1 = 1 := by
  have h : ∀ v : BitVec 32, v &&& 1#32 = 0#32 ∨ v &&& 1#32 = 1#32 := fun v => by
    have e : ∀ i, (hi : i < 32) → i ≠ 0 → (v &&& 1#32).getLsbD i = false := fun i hi h0 => by
      simp [BitVec.getLsbD_and, BitVec.getLsbD_one, h0]
    cases hb : (v &&& 1#32).getLsbD 0 with
    | false =>
      left
      apply BitVec.eq_of_getLsbD_eq
      intro i hi
      by_cases h0 : i = 0
      · subst h0; rw [hb]; rfl
      · rw [e i hi h0]; simp
    | true =>
      right
      apply BitVec.eq_of_getLsbD_eq
      intro i hi
      by_cases h0 : i = 0
      · subst h0; rw [hb]; rfl
      · rw [e i hi h0]; simp [BitVec.getLsbD_one, h0]
  have e : (jI x &&& jI 1).toBitVec = (jI x).toBitVec &&& 1#32 := rfl
  unfold jand
  rcases h (jI x).toBitVec with q | q
  · left
    rw [← Int32.toInt_toBitVec, e, q]; rfl
  · right
    rw [← Int32.toInt_toBitVec, e, q]; rfl
theorem jbit1 {s v : Int} : jbit s v ↔ jand (jshr s v) 1 = 1 := by
  unfold jbit
  have := jand1 (jshr s v)
  omega
theorem c_isWithin {G : jG} {d : Nat} {M : jMem} {Q : Option Value → jMem → Prop} {v a b : Int} (hv : jR v) (ha : jR a) (hb : jR b) (h1 : a ≤ v → v ≤ b → Q (some (.int (jI 1))) M) (h0 : ¬ (a ≤ v ∧ v ≤ b) → Q (some (.int (jI 0))) M) : jN G mX7_isWithin (d) [.int (jI v), .int (jI a), .int (jI b)] M Q := by
  show jM G mX7_isWithin (d) 0 [.int (jI v), .int (jI a), .int (jI b)] [] M Q
  refine jr_iload_n (n := 1) dX7_isWithin_0 rfl rfl ?_
  refine jr_iload_n (n := 2) dX7_isWithin_1 rfl rfl ?_
  refine jr_icmp_lt (n := 5) (t := 14) dX7_isWithin_2 (by decide) rfl (by omega) (by omega) (fun b2 => ?_) (fun b2 => ?_)
  · refine jr_iconst (n := 15) dX7_isWithin_14 rfl ?_
    refine jr_zret dX7_isWithin_15 rfl (by decide) ?_
    first | exact h1 (by omega) (by omega) | exact h0 (by omega)
  · refine jr_iload_n (n := 6) dX7_isWithin_5 rfl rfl ?_
    refine jr_iload_n (n := 7) dX7_isWithin_6 rfl rfl ?_
    refine jr_icmp_gt (n := 10) (t := 14) dX7_isWithin_7 (by decide) rfl (by omega) (by omega) (fun b7 => ?_) (fun b7 => ?_)
    · refine jr_iconst (n := 15) dX7_isWithin_14 rfl ?_
      refine jr_zret dX7_isWithin_15 rfl (by decide) ?_
      first | exact h1 (by omega) (by omega) | exact h0 (by omega)
    · refine jr_iconst (n := 11) dX7_isWithin_10 rfl ?_
      refine jr_goto (t := 15) dX7_isWithin_11 (by decide) ?_
      refine jr_zret dX7_isWithin_15 rfl (by decide) ?_
      first | exact h1 (by omega) (by omega) | exact h0 (by omega)

theorem e_isIn {G : jG} {d : Nat} {M : jMem} {Q : Option Value → jMem → Prop} {v a b : Int} (hv : jR v) (ha : jR a) (hb : jR b) (h1 : a ≤ v → v ≤ b → Q (some (.int (jI 1))) M) (h0 : ¬ (a ≤ v ∧ v ≤ b) → Q (some (.int (jI 0))) M) : jN G mX8_isIn (d) [.int (jI v), .int (jI a), .int (jI b)] M Q := by
  show jM G mX8_isIn (d) 0 [.int (jI v), .int (jI a), .int (jI b)] [] M Q
  refine jr_iload_n (n := 1) dX8_isIn_0 rfl rfl ?_
  refine jr_iload_n (n := 2) dX8_isIn_1 rfl rfl ?_
  refine jr_icmp_lt (n := 5) (t := 14) dX8_isIn_2 (by decide) rfl (by omega) (by omega) (fun b2 => ?_) (fun b2 => ?_)
  · refine jr_iconst (n := 15) dX8_isIn_14 rfl ?_
    refine jr_zret dX8_isIn_15 rfl (by decide) ?_
    first | exact h1 (by omega) (by omega) | exact h0 (by omega)
  · refine jr_iload_n (n := 6) dX8_isIn_5 rfl rfl ?_
    refine jr_iload_n (n := 7) dX8_isIn_6 rfl rfl ?_
    refine jr_icmp_gt (n := 10) (t := 14) dX8_isIn_7 (by decide) rfl (by omega) (by omega) (fun b7 => ?_) (fun b7 => ?_)
    · refine jr_iconst (n := 15) dX8_isIn_14 rfl ?_
      refine jr_zret dX8_isIn_15 rfl (by decide) ?_
      first | exact h1 (by omega) (by omega) | exact h0 (by omega)
    · refine jr_iconst (n := 11) dX8_isIn_10 rfl ?_
      refine jr_goto (t := 15) dX8_isIn_11 (by decide) ?_
      refine jr_zret dX8_isIn_15 rfl (by decide) ?_
      first | exact h1 (by omega) (by omega) | exact h0 (by omega)

theorem c_isCourt {G : jG} {d : Nat} {M : jMem} {Q : Option Value → jMem → Prop} {v : Int} (hv : jR v) (h1 : 0 ≤ v → v ≤ 2 → Q (some (.int (jI 1))) M) (h0 : ¬ (0 ≤ v ∧ v ≤ 2) → Q (some (.int (jI 0))) M) : jN G mX7_isCourt (d + 1) [.int (jI v)] M Q := by
  show jM G mX7_isCourt (d + 1) 0 [.int (jI v)] [] M Q
  refine jr_iload_n (n := 1) dX7_isCourt_0 rfl rfl ?_
  refine jr_iconst (n := 2) dX7_isCourt_1 rfl ?_
  refine jr_iconst (n := 3) dX7_isCourt_2 rfl ?_
  refine jr_cS3 (n := 6) (ν := mX7_isWithin) dX7_isCourt_3 rfl lX7_66 kX7_isWithin iX7_isWithin (Nat.le_of_ble_eq_true rfl) (Nat.le_of_ble_eq_true rfl) rfl ?_
  refine c_isWithin (by omega) (by omega) (by omega) (fun b3 b3b => ?_) (fun b3 => ?_)
  · refine jr_zret dX7_isCourt_6 rfl (by decide) ?_
    first | exact h1 (by omega) (by omega) | exact h0 (by omega)
  · refine jr_zret dX7_isCourt_6 rfl (by decide) ?_
    first | exact h1 (by omega) (by omega) | exact h0 (by omega)

theorem c_isQuarter {G : jG} {d : Nat} {M : jMem} {Q : Option Value → jMem → Prop} {v : Int} (hv : jR v) (h1 : 0 ≤ v → v ≤ 48 → Q (some (.int (jI 1))) M) (h0 : ¬ (0 ≤ v ∧ v ≤ 48) → Q (some (.int (jI 0))) M) : jN G mX7_isQuarter (d + 1) [.int (jI v)] M Q := by
  show jM G mX7_isQuarter (d + 1) 0 [.int (jI v)] [] M Q
  refine jr_iload_n (n := 1) dX7_isQuarter_0 rfl rfl ?_
  refine jr_iconst (n := 2) dX7_isQuarter_1 rfl ?_
  refine jr_bipush (n := 4) dX7_isQuarter_2 rfl (by decide) ?_
  refine jr_cS3 (n := 7) (ν := mX7_isWithin) dX7_isQuarter_4 rfl lX7_66 kX7_isWithin iX7_isWithin (Nat.le_of_ble_eq_true rfl) (Nat.le_of_ble_eq_true rfl) rfl ?_
  refine c_isWithin (by omega) (by omega) (by omega) (fun b4 b4b => ?_) (fun b4 => ?_)
  · refine jr_zret dX7_isQuarter_7 rfl (by decide) ?_
    first | exact h1 (by omega) (by omega) | exact h0 (by omega)
  · refine jr_zret dX7_isQuarter_7 rfl (by decide) ?_
    first | exact h1 (by omega) (by omega) | exact h0 (by omega)

theorem c_isSheet {G : jG} {d : Nat} {M : jMem} {Q : Option Value → jMem → Prop} {v : Int} (hv : jR v) (h1 : 0 ≤ v → v ≤ 1 → Q (some (.int (jI 1))) M) (h0 : ¬ (0 ≤ v ∧ v ≤ 1) → Q (some (.int (jI 0))) M) : jN G mX7_isSheet (d + 1) [.int (jI v)] M Q := by
  show jM G mX7_isSheet (d + 1) 0 [.int (jI v)] [] M Q
  refine jr_iload_n (n := 1) dX7_isSheet_0 rfl rfl ?_
  refine jr_iconst (n := 2) dX7_isSheet_1 rfl ?_
  refine jr_iconst (n := 3) dX7_isSheet_2 rfl ?_
  refine jr_cS3 (n := 6) (ν := mX7_isWithin) dX7_isSheet_3 rfl lX7_66 kX7_isWithin iX7_isWithin (Nat.le_of_ble_eq_true rfl) (Nat.le_of_ble_eq_true rfl) rfl ?_
  refine c_isWithin (by omega) (by omega) (by omega) (fun b3 b3b => ?_) (fun b3 => ?_)
  · refine jr_zret dX7_isSheet_6 rfl (by decide) ?_
    first | exact h1 (by omega) (by omega) | exact h0 (by omega)
  · refine jr_zret dX7_isSheet_6 rfl (by decide) ?_
    first | exact h1 (by omega) (by omega) | exact h0 (by omega)

theorem e_isCourt {G : jG} {d : Nat} {M : jMem} {Q : Option Value → jMem → Prop} {v : Int} (hv : jR v) (h1 : 0 ≤ v → v ≤ 2 → Q (some (.int (jI 1))) M) (h0 : ¬ (0 ≤ v ∧ v ≤ 2) → Q (some (.int (jI 0))) M) : jN G mX8_isCourt (d + 1) [.int (jI v)] M Q := by
  show jM G mX8_isCourt (d + 1) 0 [.int (jI v)] [] M Q
  refine jr_iload_n (n := 1) dX8_isCourt_0 rfl rfl ?_
  refine jr_iconst (n := 2) dX8_isCourt_1 rfl ?_
  refine jr_iconst (n := 3) dX8_isCourt_2 rfl ?_
  refine jr_cS3 (n := 6) (ν := mX8_isIn) dX8_isCourt_3 rfl lX8_92 kX8_isIn iX8_isIn (Nat.le_of_ble_eq_true rfl) (Nat.le_of_ble_eq_true rfl) rfl ?_
  refine e_isIn (by omega) (by omega) (by omega) (fun b3 b3b => ?_) (fun b3 => ?_)
  · refine jr_zret dX8_isCourt_6 rfl (by decide) ?_
    first | exact h1 (by omega) (by omega) | exact h0 (by omega)
  · refine jr_zret dX8_isCourt_6 rfl (by decide) ?_
    first | exact h1 (by omega) (by omega) | exact h0 (by omega)

theorem e_isSheet {G : jG} {d : Nat} {M : jMem} {Q : Option Value → jMem → Prop} {v : Int} (hv : jR v) (h1 : 0 ≤ v → v ≤ 1 → Q (some (.int (jI 1))) M) (h0 : ¬ (0 ≤ v ∧ v ≤ 1) → Q (some (.int (jI 0))) M) : jN G mX8_isSheet (d + 1) [.int (jI v)] M Q := by
  show jM G mX8_isSheet (d + 1) 0 [.int (jI v)] [] M Q
  refine jr_iload_n (n := 1) dX8_isSheet_0 rfl rfl ?_
  refine jr_iconst (n := 2) dX8_isSheet_1 rfl ?_
  refine jr_iconst (n := 3) dX8_isSheet_2 rfl ?_
  refine jr_cS3 (n := 6) (ν := mX8_isIn) dX8_isSheet_3 rfl lX8_92 kX8_isIn iX8_isIn (Nat.le_of_ble_eq_true rfl) (Nat.le_of_ble_eq_true rfl) rfl ?_
  refine e_isIn (by omega) (by omega) (by omega) (fun b3 b3b => ?_) (fun b3 => ?_)
  · refine jr_zret dX8_isSheet_6 rfl (by decide) ?_
    first | exact h1 (by omega) (by omega) | exact h0 (by omega)
  · refine jr_zret dX8_isSheet_6 rfl (by decide) ?_
    first | exact h1 (by omega) (by omega) | exact h0 (by omega)

theorem c_hasC {G : jG} {d : Nat} {M : jMem} {Q : Option Value → jMem → Prop} {v : Int} (hv : jR v) (hs : 0 ≤ M 1 8 ∧ M 1 8 ≤ 100) (h1 : 0 ≤ v → v < M 1 8 → Q (some (.int (jI 1))) M) (h0 : ¬ (0 ≤ v ∧ v < M 1 8) → Q (some (.int (jI 0))) M) : jN G mX2_has (d) [.ref (jad G 1), .int (jI v)] M Q := by
  show jM G mX2_has (d) 0 [.ref (jad G 1), .int (jI v)] [] M Q
  refine jr_iload_n (n := 1) dX2_has_0 rfl rfl ?_
  refine jr_if_lt (n := 4) (t := 16) dX2_has_1 (by decide) rfl (by omega) (fun b1 => ?_) (fun b1 => ?_)
  · refine jr_iconst (n := 17) dX2_has_16 rfl ?_
    refine jr_zret dX2_has_17 rfl (by decide) ?_
    first | exact h1 (by omega) (by omega) | exact h0 (by omega)
  · refine jr_iload_n (n := 5) dX2_has_4 rfl rfl ?_
    refine jr_aload_n (n := 6) dX2_has_5 rfl rfl ?_
    refine jr_getI (n := 9) (i := 8) rfl dX2_has_6 rfl fX2_36 rfl (by decide) (by decide) rfl ?_
    refine jr_icmp_ge (n := 12) (t := 16) dX2_has_9 (by decide) rfl (by omega) (by omega) (fun b9 => ?_) (fun b9 => ?_)
    · refine jr_iconst (n := 17) dX2_has_16 rfl ?_
      refine jr_zret dX2_has_17 rfl (by decide) ?_
      first | exact h1 (by omega) (by omega) | exact h0 (by omega)
    · refine jr_iconst (n := 13) dX2_has_12 rfl ?_
      refine jr_goto (t := 17) dX2_has_13 (by decide) ?_
      refine jr_zret dX2_has_17 rfl (by decide) ?_
      first | exact h1 (by omega) (by omega) | exact h0 (by omega)

theorem c_hasW {G : jG} {d : Nat} {M : jMem} {Q : Option Value → jMem → Prop} {v : Int} (hv : jR v) (hs : 0 ≤ M 2 3 ∧ M 2 3 ≤ 100) (h1 : 0 ≤ v → v < M 2 3 → Q (some (.int (jI 1))) M) (h0 : ¬ (0 ≤ v ∧ v < M 2 3) → Q (some (.int (jI 0))) M) : jN G mX4_has (d) [.ref (jad G 2), .int (jI v)] M Q := by
  show jM G mX4_has (d) 0 [.ref (jad G 2), .int (jI v)] [] M Q
  refine jr_iload_n (n := 1) dX4_has_0 rfl rfl ?_
  refine jr_if_lt (n := 4) (t := 16) dX4_has_1 (by decide) rfl (by omega) (fun b1 => ?_) (fun b1 => ?_)
  · refine jr_iconst (n := 17) dX4_has_16 rfl ?_
    refine jr_zret dX4_has_17 rfl (by decide) ?_
    first | exact h1 (by omega) (by omega) | exact h0 (by omega)
  · refine jr_iload_n (n := 5) dX4_has_4 rfl rfl ?_
    refine jr_aload_n (n := 6) dX4_has_5 rfl rfl ?_
    refine jr_getI (n := 9) (i := 3) rfl dX4_has_6 rfl fX4_21 rfl (by decide) (by decide) rfl ?_
    refine jr_icmp_ge (n := 12) (t := 16) dX4_has_9 (by decide) rfl (by omega) (by omega) (fun b9 => ?_) (fun b9 => ?_)
    · refine jr_iconst (n := 17) dX4_has_16 rfl ?_
      refine jr_zret dX4_has_17 rfl (by decide) ?_
      first | exact h1 (by omega) (by omega) | exact h0 (by omega)
    · refine jr_iconst (n := 13) dX4_has_12 rfl ?_
      refine jr_goto (t := 17) dX4_has_13 (by decide) ?_
      refine jr_zret dX4_has_17 rfl (by decide) ?_
      first | exact h1 (by omega) (by omega) | exact h0 (by omega)

theorem e_isCase {G : jG} {d : Nat} {M : jMem} {Q : Option Value → jMem → Prop} {v : Int} (hv : jR v) (hs : 0 ≤ M 8 2 ∧ M 8 2 ≤ 100) (h1 : 0 ≤ v → v < M 8 2 → Q (some (.int (jI 1))) M) (h0 : ¬ (0 ≤ v ∧ v < M 8 2) → Q (some (.int (jI 0))) M) : jN G mX8_isCase (d + 1) [.ref (jad G 8), .int (jI v)] M Q := by
  show jM G mX8_isCase (d + 1) 0 [.ref (jad G 8), .int (jI v)] [] M Q
  refine jr_iload_n (n := 1) dX8_isCase_0 rfl rfl ?_
  refine jr_iconst (n := 2) dX8_isCase_1 rfl ?_
  refine jr_aload_n (n := 3) dX8_isCase_2 rfl rfl ?_
  refine jr_getI (n := 6) (i := 2) rfl dX8_isCase_3 rfl fX8_96 rfl (by decide) (by decide) rfl ?_
  refine jr_iconst (n := 7) dX8_isCase_6 rfl ?_
  refine jr_isub (n := 8) dX8_isCase_7 rfl ?_
  refine jr_cS3 (n := 11) (ν := mX8_isIn) dX8_isCase_8 rfl lX8_92 kX8_isIn iX8_isIn (Nat.le_of_ble_eq_true rfl) (Nat.le_of_ble_eq_true rfl) rfl ?_
  refine e_isIn (by omega) (by omega) (by omega) (fun b8 b8b => ?_) (fun b8 => ?_)
  · refine jr_zret dX8_isCase_11 rfl (by decide) ?_
    first | exact h1 (by omega) (by omega) | exact h0 (by omega)
  · refine jr_zret dX8_isCase_11 rfl (by decide) ?_
    first | exact h1 (by omega) (by omega) | exact h0 (by omega)

theorem e_isWitness {G : jG} {d : Nat} {M : jMem} {Q : Option Value → jMem → Prop} {v : Int} (hv : jR v) (hs : 0 ≤ M 8 8 ∧ M 8 8 ≤ 100) (h1 : 0 ≤ v → v < M 8 8 → Q (some (.int (jI 1))) M) (h0 : ¬ (0 ≤ v ∧ v < M 8 8) → Q (some (.int (jI 0))) M) : jN G mX8_isWitness (d + 1) [.ref (jad G 8), .int (jI v)] M Q := by
  show jM G mX8_isWitness (d + 1) 0 [.ref (jad G 8), .int (jI v)] [] M Q
  refine jr_iload_n (n := 1) dX8_isWitness_0 rfl rfl ?_
  refine jr_iconst (n := 2) dX8_isWitness_1 rfl ?_
  refine jr_aload_n (n := 3) dX8_isWitness_2 rfl rfl ?_
  refine jr_getI (n := 6) (i := 8) rfl dX8_isWitness_3 rfl fX8_100 rfl (by decide) (by decide) rfl ?_
  refine jr_iconst (n := 7) dX8_isWitness_6 rfl ?_
  refine jr_isub (n := 8) dX8_isWitness_7 rfl ?_
  refine jr_cS3 (n := 11) (ν := mX8_isIn) dX8_isWitness_8 rfl lX8_92 kX8_isIn iX8_isIn (Nat.le_of_ble_eq_true rfl) (Nat.le_of_ble_eq_true rfl) rfl ?_
  refine e_isIn (by omega) (by omega) (by omega) (fun b8 b8b => ?_) (fun b8 => ?_)
  · refine jr_zret dX8_isWitness_11 rfl (by decide) ?_
    first | exact h1 (by omega) (by omega) | exact h0 (by omega)
  · refine jr_zret dX8_isWitness_11 rfl (by decide) ?_
    first | exact h1 (by omega) (by omega) | exact h0 (by omega)

theorem c_holds {G : jG} {d : Nat} {M : jMem} {Q : Option Value → jMem → Prop} {s v : Int} (h1 : jbit s v → Q (some (.int (jI 1))) M) (h0 : ¬ jbit s v → Q (some (.int (jI 0))) M) : jN G mX7_holds (d) [.int (jI s), .int (jI v)] M Q := by
  show jM G mX7_holds (d) 0 [.int (jI s), .int (jI v)] [] M Q
  refine jr_iload_n (n := 1) dX7_holds_0 rfl rfl ?_
  refine jr_iload_n (n := 2) dX7_holds_1 rfl rfl ?_
  refine jr_ishr (n := 3) dX7_holds_2 rfl ?_
  refine jr_iconst (n := 4) dX7_holds_3 rfl ?_
  refine jr_iand (n := 5) dX7_holds_4 rfl ?_
  refine jr_if_eq (n := 8) (t := 12) dX7_holds_5 (by decide) rfl (jand_R _ _) (fun b5 => ?_) (fun b5 => ?_)
  · refine jr_iconst (n := 13) dX7_holds_12 rfl ?_
    refine jr_zret dX7_holds_13 rfl (by decide) ?_
    first | exact h1 (by unfold jbit; omega) | exact h0 (by unfold jbit; omega)
  · refine jr_iconst (n := 9) dX7_holds_8 rfl ?_
    refine jr_goto (t := 13) dX7_holds_9 (by decide) ?_
    refine jr_zret dX7_holds_13 rfl (by decide) ?_
    first | exact h1 (by unfold jbit; omega) | exact h0 (by unfold jbit; omega)

theorem c_asLong {G : jG} {d : Nat} {M : jMem} {Q : Option Value → jMem → Prop} {v : Int} (hv : v = 0 ∨ v = 1) (h : Q (some (.long (jL v))) M) : jN G mX7_asLong (d) [.int (jI v)] M Q := by
  show jM G mX7_asLong (d) 0 [.int (jI v)] [] M Q
  refine jr_iload_n (n := 1) dX7_asLong_0 rfl rfl ?_
  refine jr_if_eq (n := 4) (t := 8) dX7_asLong_1 (by decide) rfl (by omega) (fun b1 => ?_) (fun b1 => ?_)
  · refine jr_lconst (n := 9) (x := 0) dX7_asLong_8 rfl (by decide) ?_
    refine jr_lret dX7_asLong_9 rfl ?_
    rcases hv with e | e <;> subst e <;> first | exact h | (exfalso; omega)
  · refine jr_lconst (n := 5) (x := 1) dX7_asLong_4 rfl (by decide) ?_
    refine jr_goto (t := 9) dX7_asLong_5 (by decide) ?_
    refine jr_lret dX7_asLong_9 rfl ?_
    rcases hv with e | e <;> subst e <;> first | exact h | (exfalso; omega)

