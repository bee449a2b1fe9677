def jsum (f : Int → Int) : Nat → Int
  | 0 => 0
  | n + 1 => jsum f n + f (n : Int)
theorem jsum_s (f : Int → Int) {i : Int} (h : 0 ≤ i) : jsum f (i + 1).toNat = jsum f i.toNat + f i := by
  rw [show (i + 1).toNat = i.toNat + 1 by omega]
  show jsum f i.toNat + f ((i.toNat : Nat) : Int) = _
  rw [show ((i.toNat : Nat) : Int) = i by omega]
theorem jsum_b {f : Int → Int} {c : Int} : ∀ n : Nat, (∀ i : Int, 0 ≤ i → i < n → 0 ≤ f i ∧ f i ≤ c) → 0 ≤ jsum f n ∧ jsum f n ≤ c * n
  | 0, _ => by simp [jsum]
  | n + 1, h => by
    have h1 := jsum_b n (fun i h0 h1 => h i h0 (by omega))
    have h2 := h n (by omega) (by omega)
    show 0 ≤ jsum f n + f n ∧ jsum f n + f n ≤ c * ((n + 1 : Nat) : Int)
    rw [show c * ((n + 1 : Nat) : Int) = c * n + c by rw [Int.natCast_add, Int.mul_add]; simp]
    omega
theorem jsum_congr {f g : Int → Int} : ∀ n : Nat, (∀ i : Int, 0 ≤ i → i < n → f i = g i) → jsum f n = jsum g n
  | 0, _ => rfl
  | n + 1, h => by
    show jsum f n + f n = jsum g n + g n
    rw [jsum_congr n (fun i h0 h1 => h i h0 (by omega)), h n (by omega) (by omega)]
theorem jlc_is {x z : Int} (hx : -4000000000000000000 < x ∧ x < 4000000000000000000) (hz : -4000000000000000000 < z ∧ z < 4000000000000000000) : jlc x z = if z < x then 1 else if x = z then 0 else -1 := by
  have t : ∀ v : Int, -4000000000000000000 < v ∧ v < 4000000000000000000 → (jL v).toInt = v := fun v hv => by
    unfold jL
    rw [Int64.toInt_ofInt, show Int64.size = 18446744073709551616 from rfl]
    exact Int.bmod_eq_of_le (by omega) (by omega)
  unfold jlc
  have e1 : jL x > jL z ↔ z < x := by rw [gt_iff_lt, Int64.lt_iff_toInt_lt, t x hx, t z hz]
  have e2 : jL x = jL z ↔ x = z := by rw [← Int64.toInt_inj, t x hx, t z hz]
  by_cases h1 : z < x
  · rw [if_pos (e1.mpr h1), if_pos h1]
  · rw [if_neg (fun q => h1 (e1.mp q)), if_neg h1]
    by_cases h2 : x = z
    · rw [if_pos (e2.mpr h2), if_pos h2]
    · rw [if_neg (fun q => h2 (e2.mp q)), if_neg h2]
theorem jlc_gt {x z : Int} (hx : -4000000000000000000 < x ∧ x < 4000000000000000000) (hz : -4000000000000000000 < z ∧ z < 4000000000000000000) : 0 < jlc x z ↔ z < x := by
  rw [jlc_is hx hz]
  split
  · simp [*]
  · split <;> omega
theorem jbyt_R (x : Int) : -128 ≤ jbyt x ∧ jbyt x ≤ 127 := by
  unfold jbyt
  rw [Int8.toInt_toInt32]
  have := (jI x).toInt8.le_toInt
  have := (jI x).toInt8.toInt_lt
  omega
theorem jbyt_id {x : Int} (h : -128 ≤ x ∧ x ≤ 127) : jbyt x = x := by
  unfold jbyt
  rw [Int8.toInt_toInt32, Int32.toInt_toInt8, jI_toInt ⟨by omega, by omega⟩]
  exact Int.bmod_eq_of_le (by omega) (by omega)
theorem c_notice {G : jG} {d : Nat} {M : jMem} {Q : Option Value → jMem → Prop} (hI : jK M) {i v : Int} (hi : jR i) (hv : jR v) (hB : ¬ ((0 ≤ i ∧ i < M 6 3) ∧ (0 ≤ v ∧ v ≤ 2)) → Q (some (.long (jL (-9000000000000000001)))) M) (h0 : 0 ≤ i → i < M 6 3 → v = 0 → Q (some (.long (jL (M 33 i)))) M) (h1 : 0 ≤ i → i < M 6 3 → v = 1 → Q (some (.long (jL (M 34 i)))) M) (h2 : 0 ≤ i → i < M 6 3 → v = 2 → Q (some (.long (jL (M 35 i)))) M) : jN G mX7_notice (d + 2) [.ref (jad G 0), .int (jI i), .int (jI v)] M Q := by
  show jM G mX7_notice (d + 2) 0 [.ref (jad G 0), .int (jI i), .int (jI v)] [] M Q
  have hz := jn1 hI
  refine jr_iload_n (n := 1) dX7_notice_0 rfl rfl ?_
  refine jr_iconst (n := 2) dX7_notice_1 rfl ?_
  refine jr_aload_n (n := 3) dX7_notice_2 rfl rfl ?_
  refine jr_getR (n := 6) dX7_notice_3 rfl fX7_47 rfl (by decide) (by decide) rfl ?_
  refine jr_getI (n := 9) (i := 3) rfl dX7_notice_6 rfl fX7_228 rfl (by decide) (by decide) rfl ?_
  refine jr_iconst (n := 10) dX7_notice_9 rfl ?_
  refine jr_isub (n := 11) dX7_notice_10 rfl ?_
  refine jr_cS3 (n := 14) (ν := mX7_isWithin) dX7_notice_11 rfl lX7_66 kX7_isWithin iX7_isWithin (Nat.le_of_ble_eq_true rfl) (Nat.le_of_ble_eq_true rfl) rfl ?_
  refine c_isWithin (by omega) (by omega) (by omega) (fun b11 b11b => ?_) (fun b11 => ?_)
  · refine jr_ifT_ne (t := 21) dX7_notice_14 (by decide) (by decide) (by decide) ?_
    have hr := jn12 hI i (by omega) (by omega)
    refine jr_iload_n (n := 22) dX7_notice_21 rfl rfl ?_
    by_cases hs22 : v < 0 ∨ 2 < v
    · refine jr_tabO (t := 83) dX7_notice_22 (by omega) hs22 (by decide) ?_
      refine jr_ldc2 (n := 86) dX7_notice_83 rfl rfl qX7_70 vX7_70 ?_
      refine jr_lret dX7_notice_86 rfl ?_
      first | exact hB (by omega) | exact h0 (by omega) (by omega) (by omega) | exact h1 (by omega) (by omega) (by omega) | exact h2 (by omega) (by omega) (by omega)
    have hs22_ : v = 0 ∨ v = 1 ∨ v = 2 := by omega
    rcases hs22_ with hv22 | hv22 | hv22
    · refine jr_tabI (t := 48) (off := 26) dX7_notice_22 (by omega) (by omega) (by omega) (by rw [hv22]; rfl) (by decide) ?_
      refine jr_aload_n (n := 49) dX7_notice_48 rfl rfl ?_
      refine jr_getR (n := 52) dX7_notice_49 rfl fX7_47 rfl (by decide) (by decide) rfl ?_
      refine jr_getR (n := 55) dX7_notice_52 rfl fX7_229 rfl (by decide) (by decide) rfl ?_
      refine jr_iload_n (n := 56) dX7_notice_55 rfl rfl ?_
      refine jr_iald (n := 57) dX7_notice_56 rfl rfl (by decide) (by omega) (by omega) ?_
      refine jr_i2l (n := 58) dX7_notice_57 rfl (by omega) ?_
      refine jr_lret dX7_notice_58 rfl ?_
      first | exact hB (by omega) | exact h0 (by omega) (by omega) (by omega) | exact h1 (by omega) (by omega) (by omega) | exact h2 (by omega) (by omega) (by omega)
    · refine jr_tabI (t := 59) (off := 37) dX7_notice_22 (by omega) (by omega) (by omega) (by rw [hv22]; rfl) (by decide) ?_
      refine jr_aload_n (n := 60) dX7_notice_59 rfl rfl ?_
      refine jr_getR (n := 63) dX7_notice_60 rfl fX7_47 rfl (by decide) (by decide) rfl ?_
      refine jr_getR (n := 66) dX7_notice_63 rfl fX7_232 rfl (by decide) (by decide) rfl ?_
      refine jr_iload_n (n := 67) dX7_notice_66 rfl rfl ?_
      refine jr_iald (n := 68) dX7_notice_67 rfl rfl (by decide) (by omega) (by omega) ?_
      refine jr_i2l (n := 69) dX7_notice_68 rfl (by omega) ?_
      refine jr_lret dX7_notice_69 rfl ?_
      first | exact hB (by omega) | exact h0 (by omega) (by omega) (by omega) | exact h1 (by omega) (by omega) (by omega) | exact h2 (by omega) (by omega) (by omega)
    · refine jr_tabI (t := 70) (off := 48) dX7_notice_22 (by omega) (by omega) (by omega) (by rw [hv22]; rfl) (by decide) ?_
      refine jr_aload_n (n := 71) dX7_notice_70 rfl rfl ?_
      refine jr_getR (n := 74) dX7_notice_71 rfl fX7_47 rfl (by decide) (by decide) rfl ?_
      refine jr_getR (n := 77) dX7_notice_74 rfl fX7_235 rfl (by decide) (by decide) rfl ?_
      refine jr_iload_n (n := 78) dX7_notice_77 rfl rfl ?_
      refine jr_zald (n := 79) dX7_notice_78 rfl rfl (by decide) (by omega) (by omega) ?_
      refine jr_cS1 (n := 82) (ν := mX7_asLong) dX7_notice_79 rfl lX7_95 kX7_asLong iX7_asLong (Nat.le_of_ble_eq_true rfl) (Nat.le_of_ble_eq_true rfl) rfl ?_
      refine c_asLong (by omega) ?_
      refine jr_lret dX7_notice_82 rfl ?_
      first | exact hB (by omega) | exact h0 (by omega) (by omega) (by omega) | exact h1 (by omega) (by omega) (by omega) | exact h2 (by omega) (by omega) (by omega)
  · refine jr_ifF_ne (n := 17) (t := 21) dX7_notice_14 rfl (by decide) (by decide) (by decide) ?_
    refine jr_ldc2 (n := 20) dX7_notice_17 rfl rfl qX7_70 vX7_70 ?_
    refine jr_lret dX7_notice_20 rfl ?_
    first | exact hB (by omega) | exact h0 (by omega) (by omega) (by omega) | exact h1 (by omega) (by omega) (by omega) | exact h2 (by omega) (by omega) (by omega)

theorem e_notice {G : jG} {d : Nat} {M : jMem} {Q : Option Value → jMem → Prop} (hI : jO M) {i v : Int} (hi : jR i) (hv : jR v) (hB : ¬ ((0 ≤ i ∧ i < M 8 14) ∧ (0 ≤ v ∧ v ≤ 2)) → Q (some (.long (jL (-9000000000000000001)))) M) (h0 : 0 ≤ i → i < M 8 14 → v = 0 → Q (some (.long (jL (M 50 i)))) M) (h1 : 0 ≤ i → i < M 8 14 → v = 1 → Q (some (.long (jL (M 51 i)))) M) (h2 : 0 ≤ i → i < M 8 14 → v = 2 → Q (some (.long (jL (M 52 i)))) M) : jN G mX8_notice (d + 2) [.ref (jad G 8), .int (jI i), .int (jI v)] M Q := by
  show jM G mX8_notice (d + 2) 0 [.ref (jad G 8), .int (jI i), .int (jI v)] [] M Q
  have hz := jn1 hI
  refine jr_iload_n (n := 1) dX8_notice_0 rfl rfl ?_
  refine jr_iconst (n := 2) dX8_notice_1 rfl ?_
  refine jr_aload_n (n := 3) dX8_notice_2 rfl rfl ?_
  refine jr_getI (n := 6) (i := 14) rfl dX8_notice_3 rfl fX8_189 rfl (by decide) (by decide) rfl ?_
  refine jr_iconst (n := 7) dX8_notice_6 rfl ?_
  refine jr_isub (n := 8) dX8_notice_7 rfl ?_
  refine jr_cS3 (n := 11) (ν := mX8_isIn) dX8_notice_8 rfl lX8_92 kX8_isIn iX8_isIn (Nat.le_of_ble_eq_true rfl) (Nat.le_of_ble_eq_true rfl) rfl ?_
  refine e_isIn (by omega) (by omega) (by omega) (fun b8 b8b => ?_) (fun b8 => ?_)
  · refine jr_ifF_eq (n := 14) (t := 23) dX8_notice_11 rfl (by decide) (by decide) (by decide) ?_
    refine jr_iload_n (n := 15) dX8_notice_14 rfl rfl ?_
    refine jr_iconst (n := 16) dX8_notice_15 rfl ?_
    refine jr_iconst (n := 17) dX8_notice_16 rfl ?_
    refine jr_cS3 (n := 20) (ν := mX8_isIn) dX8_notice_17 rfl lX8_92 kX8_isIn iX8_isIn (Nat.le_of_ble_eq_true rfl) (Nat.le_of_ble_eq_true rfl) rfl ?_
    refine e_isIn (by omega) (by omega) (by omega) (fun b17 b17b => ?_) (fun b17 => ?_)
    · refine jr_ifT_ne (t := 27) dX8_notice_20 (by decide) (by decide) (by decide) ?_
      have hr := jn12 hI i (by omega) (by omega)
      refine jr_iload_n (n := 28) dX8_notice_27 rfl rfl ?_
      refine jr_if_ne (n := 31) (t := 41) dX8_notice_28 (by decide) rfl (by omega) (fun b28 => ?_) (fun b28 => ?_)
      · refine jr_iload_n (n := 42) dX8_notice_41 rfl rfl ?_
        refine jr_iconst (n := 43) dX8_notice_42 rfl ?_
        refine jr_icmp_ne (n := 46) (t := 56) dX8_notice_43 (by decide) rfl (by omega) (by omega) (fun b43 => ?_) (fun b43 => ?_)
        · refine jr_aload_n (n := 57) dX8_notice_56 rfl rfl ?_
          refine jr_getR (n := 60) dX8_notice_57 rfl fX8_52 rfl (by decide) (by decide) rfl ?_
          refine jr_iload_n (n := 61) dX8_notice_60 rfl rfl ?_
          refine jr_iald (n := 62) dX8_notice_61 rfl rfl (by decide) (by omega) (by omega) ?_
          refine jr_i2l (n := 63) dX8_notice_62 rfl (by omega) ?_
          refine jr_lret dX8_notice_63 rfl ?_
          first | exact hB (by omega) | exact h0 (by omega) (by omega) (by omega) | exact h1 (by omega) (by omega) (by omega) | exact h2 (by omega) (by omega) (by omega)
        · refine jr_aload_n (n := 47) dX8_notice_46 rfl rfl ?_
          refine jr_getR (n := 50) dX8_notice_47 rfl fX8_49 rfl (by decide) (by decide) rfl ?_
          refine jr_iload_n (n := 51) dX8_notice_50 rfl rfl ?_
          refine jr_iald (n := 52) dX8_notice_51 rfl rfl (by decide) (by omega) (by omega) ?_
          refine jr_i2l (n := 53) dX8_notice_52 rfl (by omega) ?_
          refine jr_goto (t := 63) dX8_notice_53 (by decide) ?_
          refine jr_lret dX8_notice_63 rfl ?_
          first | exact hB (by omega) | exact h0 (by omega) (by omega) (by omega) | exact h1 (by omega) (by omega) (by omega) | exact h2 (by omega) (by omega) (by omega)
      · refine jr_aload_n (n := 32) dX8_notice_31 rfl rfl ?_
        refine jr_getR (n := 35) dX8_notice_32 rfl fX8_46 rfl (by decide) (by decide) rfl ?_
        refine jr_iload_n (n := 36) dX8_notice_35 rfl rfl ?_
        refine jr_iald (n := 37) dX8_notice_36 rfl rfl (by decide) (by omega) (by omega) ?_
        refine jr_i2l (n := 38) dX8_notice_37 rfl (by omega) ?_
        refine jr_goto (t := 63) dX8_notice_38 (by decide) ?_
        refine jr_lret dX8_notice_63 rfl ?_
        first | exact hB (by omega) | exact h0 (by omega) (by omega) (by omega) | exact h1 (by omega) (by omega) (by omega) | exact h2 (by omega) (by omega) (by omega)
    · refine jr_ifF_ne (n := 23) (t := 27) dX8_notice_20 rfl (by decide) (by decide) (by decide) ?_
      refine jr_ldc2 (n := 26) dX8_notice_23 rfl rfl qX8_107 vX8_107 ?_
      refine jr_lret dX8_notice_26 rfl ?_
      first | exact hB (by omega) | exact h0 (by omega) (by omega) (by omega) | exact h1 (by omega) (by omega) (by omega) | exact h2 (by omega) (by omega) (by omega)
  · refine jr_ifT_eq (t := 23) dX8_notice_11 (by decide) (by decide) (by decide) ?_
    refine jr_ldc2 (n := 26) dX8_notice_23 rfl rfl qX8_107 vX8_107 ?_
    refine jr_lret dX8_notice_26 rfl ?_
    first | exact hB (by omega) | exact h0 (by omega) (by omega) (by omega) | exact h1 (by omega) (by omega) (by omega) | exact h2 (by omega) (by omega) (by omega)

def jrdC (M : jMem) (v i : Int) : jMem := jcb M 35 0 i (fun b => decide (M 33 b = v ∧ M 35 b = 0)) (fun _ => 1)
def jrdE (M : jMem) (v i : Int) : jMem := jcb M 52 0 i (fun b => decide (M 50 b = v ∧ M 52 b = 0)) (fun _ => 1)
theorem jrdC_ne {M : jMem} {v i : Int} {a : Nat} (h : a ≠ 35) (b : Int) : jrdC M v i a b = M a b := jcb_ne h b
theorem jrdE_ne {M : jMem} {v i : Int} {a : Nat} (h : a ≠ 52) (b : Int) : jrdE M v i a b = M a b := jcb_ne h b
theorem jrdC_out {M : jMem} {v i b : Int} (h : ¬ (0 ≤ b ∧ b < i)) : jrdC M v i 35 b = M 35 b := jcb_out h
theorem jrdE_out {M : jMem} {v i b : Int} (h : ¬ (0 ≤ b ∧ b < i)) : jrdE M v i 52 b = M 52 b := jcb_out h
def jrdn (nw nr : Int → Int) (v : Int) : Int → Int := fun b => if nw b = v ∧ nr b = 0 then 1 else 0
theorem jrdn_b (nw nr : Int → Int) (v : Int) (n : Nat) : 0 ≤ jsum (jrdn nw nr v) n ∧ jsum (jrdn nw nr v) n ≤ n := by
  have := jsum_b (f := jrdn nw nr v) (c := 1) n (fun i _ _ => by unfold jrdn; split <;> omega)
  omega
theorem c_read_l {G : jG} {d : Nat} {M : jMem} {Q : Option Value → jMem → Prop} (hI : jK M) {v : Int} (hv : jR v) (h : Q (some (.int (jI (jsum (jrdn (M 33) (M 35) v) (M 6 3).toNat)))) (jrdC M v (M 6 3)))  : ∀ (f : Nat) (i : Int), 0 ≤ i → i ≤ M 6 3 → M 6 3 - i < f → jM G mX3_readAll (d) 4 [.ref (jad G 6), .int (jI v), .int (jI (jsum (jrdn (M 33) (M 35) v) i.toNat)), .int (jI i)] [] (jrdC M v i) Q := by
  intro f
  induction f with
  | zero =>
    intro i h0 h1 hf
    exact absurd hf (by omega)
  | succ f ih =>
    intro i h0 h1 hf
    have hz := jn1 hI
    have hb := jrdn_b (M 33) (M 35) v i.toNat
    refine jr_iload_n (n := 5) dX3_readAll_4 rfl rfl ?_
    refine jr_aload_n (n := 6) dX3_readAll_5 rfl rfl ?_
    refine jr_getI (n := 9) (i := 3) rfl dX3_readAll_6 rfl fX3_22 rfl (by decide) (by decide) rfl ?_
    rw [jrdC_ne (show (6 : Nat) ≠ 35 by decide)]
    refine jr_icmp_ge (n := 12) (t := 47) dX3_readAll_9 (by decide) rfl (by omega) (by omega) (fun b9 => ?_) (fun b9 => ?_)
    · refine jr_iload_n (n := 48) dX3_readAll_47 rfl rfl ?_
      refine jr_iret dX3_readAll_48 rfl ?_
      have e : i = M 6 3 := by omega
      subst e
      exact h
    · have hr := jn12 hI i (by omega) (by omega)
      refine jr_aload_n (n := 13) dX3_readAll_12 rfl rfl ?_
      refine jr_getR (n := 16) dX3_readAll_13 rfl fX3_9 rfl (by decide) (by decide) rfl ?_
      refine jr_iload_n (n := 17) dX3_readAll_16 rfl rfl ?_
      refine jr_iald (n := 18) dX3_readAll_17 rfl rfl (by decide) (by omega) (by omega) ?_
      rw [jrdC_ne (show (33 : Nat) ≠ 35 by decide)]
      refine jr_iload_n (n := 19) dX3_readAll_18 rfl rfl ?_
      refine jr_icmp_ne (n := 22) (t := 41) dX3_readAll_19 (by decide) rfl (by omega) (by omega) (fun b19 => ?_) (fun b19 => ?_)
      · refine jr_iinc3 (n := 44) dX3_readAll_41 rfl (by decide) rfl ?_
        refine jr_goto (t := 4) dX3_readAll_44 (by decide) ?_
        first
          | (rw [show jup (jrdC M v i) 35 i 1 = jrdC M v (i + 1) from jcb_y _ _ _ _ (by omega) (decide_eq_true ⟨b19, b28⟩) rfl]; have e := jsum_s (jrdn (M 33) (M 35) v) h0; rw [show jrdn (M 33) (M 35) v i = 1 from if_pos ⟨b19, b28⟩] at e; rw [← e]; exact ih (i + 1) (by omega) (by omega) (by omega))
          | (rw [show jrdC M v i = jrdC M v (i + 1) from jcb_n _ _ _ _ (decide_eq_false (fun z => by omega))]; have e := jsum_s (jrdn (M 33) (M 35) v) h0; rw [show jrdn (M 33) (M 35) v i = 0 from if_neg (fun z => by omega), Int.add_zero] at e; rw [← e]; exact ih (i + 1) (by omega) (by omega) (by omega))
      · refine jr_aload_n (n := 23) dX3_readAll_22 rfl rfl ?_
        refine jr_getR (n := 26) dX3_readAll_23 rfl fX3_18 rfl (by decide) (by decide) rfl ?_
        refine jr_iload_n (n := 27) dX3_readAll_26 rfl rfl ?_
        refine jr_zald (n := 28) dX3_readAll_27 rfl rfl (by decide) (by omega) (by omega) ?_
        rw [jrdC_out (by omega)]
        refine jr_if_ne (n := 31) (t := 41) dX3_readAll_28 (by decide) rfl (by omega) (fun b28 => ?_) (fun b28 => ?_)
        · refine jr_iinc3 (n := 44) dX3_readAll_41 rfl (by decide) rfl ?_
          refine jr_goto (t := 4) dX3_readAll_44 (by decide) ?_
          first
            | (rw [show jup (jrdC M v i) 35 i 1 = jrdC M v (i + 1) from jcb_y _ _ _ _ (by omega) (decide_eq_true ⟨b19, b28⟩) rfl]; have e := jsum_s (jrdn (M 33) (M 35) v) h0; rw [show jrdn (M 33) (M 35) v i = 1 from if_pos ⟨b19, b28⟩] at e; rw [← e]; exact ih (i + 1) (by omega) (by omega) (by omega))
            | (rw [show jrdC M v i = jrdC M v (i + 1) from jcb_n _ _ _ _ (decide_eq_false (fun z => by omega))]; have e := jsum_s (jrdn (M 33) (M 35) v) h0; rw [show jrdn (M 33) (M 35) v i = 0 from if_neg (fun z => by omega), Int.add_zero] at e; rw [← e]; exact ih (i + 1) (by omega) (by omega) (by omega))
        · refine jr_aload_n (n := 32) dX3_readAll_31 rfl rfl ?_
          refine jr_getR (n := 35) dX3_readAll_32 rfl fX3_18 rfl (by decide) (by decide) rfl ?_
          refine jr_iload_n (n := 36) dX3_readAll_35 rfl rfl ?_
          refine jr_iconst (n := 37) dX3_readAll_36 rfl ?_
          refine jr_zast (n := 38) dX3_readAll_37 rfl rfl (by decide) (by omega) (by omega) (by omega) ?_
          refine jr_iinc2 (n := 41) dX3_readAll_38 rfl (by decide) rfl ?_
          refine jr_iinc3 (n := 44) dX3_readAll_41 rfl (by decide) rfl ?_
          refine jr_goto (t := 4) dX3_readAll_44 (by decide) ?_
          first
            | (rw [show jup (jrdC M v i) 35 i 1 = jrdC M v (i + 1) from jcb_y _ _ _ _ (by omega) (decide_eq_true ⟨b19, b28⟩) rfl]; have e := jsum_s (jrdn (M 33) (M 35) v) h0; rw [show jrdn (M 33) (M 35) v i = 1 from if_pos ⟨b19, b28⟩] at e; rw [← e]; exact ih (i + 1) (by omega) (by omega) (by omega))
            | (rw [show jrdC M v i = jrdC M v (i + 1) from jcb_n _ _ _ _ (decide_eq_false (fun z => by omega))]; have e := jsum_s (jrdn (M 33) (M 35) v) h0; rw [show jrdn (M 33) (M 35) v i = 0 from if_neg (fun z => by omega), Int.add_zero] at e; rw [← e]; exact ih (i + 1) (by omega) (by omega) (by omega))

theorem e_read_l {G : jG} {d : Nat} {M : jMem} {Q : Option Value → jMem → Prop} (hI : jO M) {v : Int} (hv : jR v) (h : Q (some (.long (jL (jsum (jrdn (M 50) (M 52) v) (M 8 14).toNat)))) (jrdE M v (M 8 14)))  : ∀ (f : Nat) (i : Int), 0 ≤ i → i ≤ M 8 14 → M 8 14 - i < f → jM G mX8_read (d + 2) 16 [.ref (jad G 8), .int (jI v), .int (jI (jsum (jrdn (M 50) (M 52) v) i.toNat)), .int (jI i)] [] (jrdE M v i) Q := by
  intro f
  induction f with
  | zero =>
    intro i h0 h1 hf
    exact absurd hf (by omega)
  | succ f ih =>
    intro i h0 h1 hf
    have hz := jn1 hI
    have hb := jrdn_b (M 50) (M 52) v i.toNat
    refine jr_iload_n (n := 17) dX8_read_16 rfl rfl ?_
    refine jr_aload_n (n := 18) dX8_read_17 rfl rfl ?_
    refine jr_getI (n := 21) (i := 14) rfl dX8_read_18 rfl fX8_189 rfl (by decide) (by decide) rfl ?_
    rw [jrdE_ne (show (8 : Nat) ≠ 52 by decide)]
    refine jr_icmp_ge (n := 24) (t := 59) dX8_read_21 (by decide) rfl (by omega) (by omega) (fun b21 => ?_) (fun b21 => ?_)
    · refine jr_iload_n (n := 60) dX8_read_59 rfl rfl ?_
      refine jr_i2l (n := 61) dX8_read_60 rfl (by omega) ?_
      refine jr_lret dX8_read_61 rfl ?_
      have e : i = M 8 14 := by omega
      subst e
      exact h
    · have hr := jn12 hI i (by omega) (by omega)
      refine jr_aload_n (n := 25) dX8_read_24 rfl rfl ?_
      refine jr_getR (n := 28) dX8_read_25 rfl fX8_46 rfl (by decide) (by decide) rfl ?_
      refine jr_iload_n (n := 29) dX8_read_28 rfl rfl ?_
      refine jr_iald (n := 30) dX8_read_29 rfl rfl (by decide) (by omega) (by omega) ?_
      rw [jrdE_ne (show (50 : Nat) ≠ 52 by decide)]
      refine jr_iload_n (n := 31) dX8_read_30 rfl rfl ?_
      refine jr_icmp_ne (n := 34) (t := 53) dX8_read_31 (by decide) rfl (by omega) (by omega) (fun b31 => ?_) (fun b31 => ?_)
      · refine jr_iinc3 (n := 56) dX8_read_53 rfl (by decide) rfl ?_
        refine jr_goto (t := 16) dX8_read_56 (by decide) ?_
        first
          | (rw [show jup (jrdE M v i) 52 i 1 = jrdE M v (i + 1) from jcb_y _ _ _ _ (by omega) (decide_eq_true ⟨b31, b40⟩) rfl]; have e := jsum_s (jrdn (M 50) (M 52) v) h0; rw [show jrdn (M 50) (M 52) v i = 1 from if_pos ⟨b31, b40⟩] at e; rw [← e]; exact ih (i + 1) (by omega) (by omega) (by omega))
          | (rw [show jrdE M v i = jrdE M v (i + 1) from jcb_n _ _ _ _ (decide_eq_false (fun z => by omega))]; have e := jsum_s (jrdn (M 50) (M 52) v) h0; rw [show jrdn (M 50) (M 52) v i = 0 from if_neg (fun z => by omega), Int.add_zero] at e; rw [← e]; exact ih (i + 1) (by omega) (by omega) (by omega))
      · refine jr_aload_n (n := 35) dX8_read_34 rfl rfl ?_
        refine jr_getR (n := 38) dX8_read_35 rfl fX8_52 rfl (by decide) (by decide) rfl ?_
        refine jr_iload_n (n := 39) dX8_read_38 rfl rfl ?_
        refine jr_iald (n := 40) dX8_read_39 rfl rfl (by decide) (by omega) (by omega) ?_
        rw [jrdE_out (by omega)]
        refine jr_if_ne (n := 43) (t := 53) dX8_read_40 (by decide) rfl (by omega) (fun b40 => ?_) (fun b40 => ?_)
        · refine jr_iinc3 (n := 56) dX8_read_53 rfl (by decide) rfl ?_
          refine jr_goto (t := 16) dX8_read_56 (by decide) ?_
          first
            | (rw [show jup (jrdE M v i) 52 i 1 = jrdE M v (i + 1) from jcb_y _ _ _ _ (by omega) (decide_eq_true ⟨b31, b40⟩) rfl]; have e := jsum_s (jrdn (M 50) (M 52) v) h0; rw [show jrdn (M 50) (M 52) v i = 1 from if_pos ⟨b31, b40⟩] at e; rw [← e]; exact ih (i + 1) (by omega) (by omega) (by omega))
            | (rw [show jrdE M v i = jrdE M v (i + 1) from jcb_n _ _ _ _ (decide_eq_false (fun z => by omega))]; have e := jsum_s (jrdn (M 50) (M 52) v) h0; rw [show jrdn (M 50) (M 52) v i = 0 from if_neg (fun z => by omega), Int.add_zero] at e; rw [← e]; exact ih (i + 1) (by omega) (by omega) (by omega))
        · refine jr_aload_n (n := 44) dX8_read_43 rfl rfl ?_
          refine jr_getR (n := 47) dX8_read_44 rfl fX8_52 rfl (by decide) (by decide) rfl ?_
          refine jr_iload_n (n := 48) dX8_read_47 rfl rfl ?_
          refine jr_iconst (n := 49) dX8_read_48 rfl ?_
          refine jr_iast (n := 50) dX8_read_49 rfl rfl (by decide) (by omega) (by omega) ?_
          refine jr_iinc2 (n := 53) dX8_read_50 rfl (by decide) rfl ?_
          refine jr_iinc3 (n := 56) dX8_read_53 rfl (by decide) rfl ?_
          refine jr_goto (t := 16) dX8_read_56 (by decide) ?_
          first
            | (rw [show jup (jrdE M v i) 52 i 1 = jrdE M v (i + 1) from jcb_y _ _ _ _ (by omega) (decide_eq_true ⟨b31, b40⟩) rfl]; have e := jsum_s (jrdn (M 50) (M 52) v) h0; rw [show jrdn (M 50) (M 52) v i = 1 from if_pos ⟨b31, b40⟩] at e; rw [← e]; exact ih (i + 1) (by omega) (by omega) (by omega))
            | (rw [show jrdE M v i = jrdE M v (i + 1) from jcb_n _ _ _ _ (decide_eq_false (fun z => by omega))]; have e := jsum_s (jrdn (M 50) (M 52) v) h0; rw [show jrdn (M 50) (M 52) v i = 0 from if_neg (fun z => by omega), Int.add_zero] at e; rw [← e]; exact ih (i + 1) (by omega) (by omega) (by omega))

theorem c_readAll {G : jG} {d : Nat} {M : jMem} {Q : Option Value → jMem → Prop} (hI : jK M) {v : Int} (hv : jR v) (h : Q (some (.int (jI (jsum (jrdn (M 33) (M 35) v) (M 6 3).toNat)))) (jrdC M v (M 6 3))) : jN G mX3_readAll (d) [.ref (jad G 6), .int (jI v)] M Q := by
  show jM G mX3_readAll (d) 0 [.ref (jad G 6), .int (jI v), .null, .null] [] M Q
  have hz := jn1 hI
  refine jr_iconst (n := 1) dX3_readAll_0 rfl ?_
  refine jr_istore2 (n := 2) dX3_readAll_1 rfl (by decide) rfl ?_
  refine jr_iconst (n := 3) dX3_readAll_2 rfl ?_
  refine jr_istore3 (n := 4) dX3_readAll_3 rfl (by decide) rfl ?_
  rw [show M = jrdC M v 0 from (jcb_0 _ _ _ _ _).symm]
  exact c_read_l hI (by omega) h ((M 6 3).toNat + 1) 0 (by omega) (by omega) (by omega)

theorem c_read {G : jG} {d : Nat} {M : jMem} {Q : Option Value → jMem → Prop} (hI : jK M) {v : Int} (hv : jR v) (hB : ¬ (0 ≤ v ∧ v < M 2 3) → Q (some (.long (jL (-9000000000000000001)))) M) (h : 0 ≤ v → v < M 2 3 → Q (some (.long (jL (jsum (jrdn (M 33) (M 35) v) (M 6 3).toNat)))) (jrdC M v (M 6 3))) : jN G mX7_read (d + 2) [.ref (jad G 0), .int (jI v)] M Q := by
  show jM G mX7_read (d + 2) 0 [.ref (jad G 0), .int (jI v)] [] M Q
  have hz := jn1 hI
  have hb := jrdn_b (M 33) (M 35) v (M 6 3).toNat
  refine jr_aload_n (n := 1) dX7_read_0 rfl rfl ?_
  refine jr_getR (n := 4) dX7_read_1 rfl fX7_19 rfl (by decide) (by decide) rfl ?_
  refine jr_iload_n (n := 5) dX7_read_4 rfl rfl ?_
  refine jr_cV1 (n := 8) (ci := 4) (ν := mX4_has) dX7_read_5 rfl lX7_89 kX4_has iX4_has rfl ⟨_, rfl, rfl⟩ (by decide) (Nat.le_of_ble_eq_true rfl) (Nat.le_of_ble_eq_true rfl) rfl ?_
  refine c_hasW (by omega) (by omega) (fun b5 b5b => ?_) (fun b5 => ?_)
  · refine jr_ifT_ne (t := 15) dX7_read_8 (by decide) (by decide) (by decide) ?_
    refine jr_aload_n (n := 16) dX7_read_15 rfl rfl ?_
    refine jr_getR (n := 19) dX7_read_16 rfl fX7_47 rfl (by decide) (by decide) rfl ?_
    refine jr_iload_n (n := 20) dX7_read_19 rfl rfl ?_
    refine jr_cV1 (n := 23) (ci := 3) (ν := mX3_readAll) dX7_read_20 rfl lX7_239 kX3_readAll iX3_readAll rfl ⟨_, rfl, rfl⟩ (by decide) (Nat.le_of_ble_eq_true rfl) (Nat.le_of_ble_eq_true rfl) rfl ?_
    refine c_readAll hI hv ?_
    refine jr_i2l (n := 24) dX7_read_23 rfl (by omega) ?_
    refine jr_lret dX7_read_24 rfl ?_
    first | exact hB (by omega) | exact h (by omega) (by omega)
  · refine jr_ifF_ne (n := 11) (t := 15) dX7_read_8 rfl (by decide) (by decide) (by decide) ?_
    refine jr_ldc2 (n := 14) dX7_read_11 rfl rfl qX7_70 vX7_70 ?_
    refine jr_lret dX7_read_14 rfl ?_
    first | exact hB (by omega) | exact h (by omega) (by omega)

theorem e_read {G : jG} {d : Nat} {M : jMem} {Q : Option Value → jMem → Prop} (hI : jO M) {v : Int} (hv : jR v) (hB : ¬ (0 ≤ v ∧ v < M 8 8) → Q (some (.long (jL (-9000000000000000001)))) M) (h : 0 ≤ v → v < M 8 8 → Q (some (.long (jL (jsum (jrdn (M 50) (M 52) v) (M 8 14).toNat)))) (jrdE M v (M 8 14))) : jN G mX8_read (d + 2) [.ref (jad G 8), .int (jI v)] M Q := by
  show jM G mX8_read (d + 2) 0 [.ref (jad G 8), .int (jI v), .null, .null] [] M Q
  have hz := jn1 hI
  refine jr_aload_n (n := 1) dX8_read_0 rfl rfl ?_
  refine jr_iload_n (n := 2) dX8_read_1 rfl rfl ?_
  refine jr_cV1 (n := 5) (ci := 8) (ν := mX8_isWitness) dX8_read_2 rfl lX8_115 kX8_isWitness iX8_isWitness rfl ⟨_, rfl, rfl⟩ (by decide) (Nat.le_of_ble_eq_true rfl) (Nat.le_of_ble_eq_true rfl) rfl ?_
  refine e_isWitness (by omega) (by omega) (fun b2 b2b => ?_) (fun b2 => ?_)
  · refine jr_ifT_ne (t := 12) dX8_read_5 (by decide) (by decide) (by decide) ?_
    refine jr_iconst (n := 13) dX8_read_12 rfl ?_
    refine jr_istore2 (n := 14) dX8_read_13 rfl (by decide) rfl ?_
    refine jr_iconst (n := 15) dX8_read_14 rfl ?_
    refine jr_istore3 (n := 16) dX8_read_15 rfl (by decide) rfl ?_
    rw [show M = jrdE M v 0 from (jcb_0 _ _ _ _ _).symm]
    exact e_read_l hI (by omega) (h (by omega) (by omega)) ((M 8 14).toNat + 1) 0 (by omega) (by omega) (by omega)
  · refine jr_ifF_ne (n := 8) (t := 12) dX8_read_5 rfl (by decide) (by decide) (by decide) ?_
    refine jr_ldc2 (n := 11) dX8_read_8 rfl rfl qX8_107 vX8_107 ?_
    refine jr_lret dX8_read_11 rfl ?_
    first | exact hB (by omega)

theorem c_isMissing {G : jG} {d : Nat} {M : jMem} {Q : Option Value → jMem → Prop} {s : Int} (hs : 0 ≤ s ∧ s < 2) (hr : jR (M 37 s)) (h1 : M 37 s = -1 → Q (some (.int (jI 1))) M) (h0 : M 37 s ≠ -1 → Q (some (.int (jI 0))) M) : jN G mX6_isMissing (d) [.ref (jad G 7), .int (jI s)] M Q := by
  show jM G mX6_isMissing (d) 0 [.ref (jad G 7), .int (jI s)] [] M Q
  refine jr_aload_n (n := 1) dX6_isMissing_0 rfl rfl ?_
  refine jr_getR (n := 4) dX6_isMissing_1 rfl fX6_15 rfl (by decide) (by decide) rfl ?_
  refine jr_iload_n (n := 5) dX6_isMissing_4 rfl rfl ?_
  refine jr_iald (n := 6) dX6_isMissing_5 rfl rfl (by decide) (by omega) (by omega) ?_
  refine jr_iconst (n := 7) dX6_isMissing_6 rfl ?_
  refine jr_icmp_ne (n := 10) (t := 14) dX6_isMissing_7 (by decide) rfl (by omega) (by omega) (fun b7 => ?_) (fun b7 => ?_)
  · refine jr_iconst (n := 15) dX6_isMissing_14 rfl ?_
    refine jr_zret dX6_isMissing_15 rfl (by decide) ?_
    first | exact h1 (by omega) | exact h0 (by omega)
  · refine jr_iconst (n := 11) dX6_isMissing_10 rfl ?_
    refine jr_goto (t := 15) dX6_isMissing_11 (by decide) ?_
    refine jr_zret dX6_isMissing_15 rfl (by decide) ?_
    first | exact h1 (by omega) | exact h0 (by omega)

theorem c_hasRun {G : jG} {d : Nat} {M : jMem} {Q : Option Value → jMem → Prop} {s p n : Int} (hs : 0 ≤ s ∧ s < 2) (hr : -1 ≤ M 37 s ∧ M 37 s ≤ 12) (hp : jR p) (hn : jR n) (h1 : 0 ≤ p → 0 ≤ n → p + n ≤ M 37 s → Q (some (.int (jI 1))) M) (h0 : ¬ (0 ≤ p ∧ 0 ≤ n ∧ p + n ≤ M 37 s) → Q (some (.int (jI 0))) M) : jN G mX6_hasRun (d) [.ref (jad G 7), .int (jI s), .int (jI p), .int (jI n)] M Q := by
  show jM G mX6_hasRun (d) 0 [.ref (jad G 7), .int (jI s), .int (jI p), .int (jI n)] [] M Q
  refine jr_iload_n (n := 1) dX6_hasRun_0 rfl rfl ?_
  refine jr_if_lt (n := 4) (t := 34) dX6_hasRun_1 (by decide) rfl (by omega) (fun b1 => ?_) (fun b1 => ?_)
  · refine jr_iconst (n := 35) dX6_hasRun_34 rfl ?_
    refine jr_zret dX6_hasRun_35 rfl (by decide) ?_
    first | exact h1 (by omega) (by omega) (by omega) | exact h0 (by omega)
  · refine jr_iload_n (n := 5) dX6_hasRun_4 rfl rfl ?_
    refine jr_if_lt (n := 8) (t := 34) dX6_hasRun_5 (by decide) rfl (by omega) (fun b5 => ?_) (fun b5 => ?_)
    · refine jr_iconst (n := 35) dX6_hasRun_34 rfl ?_
      refine jr_zret dX6_hasRun_35 rfl (by decide) ?_
      first | exact h1 (by omega) (by omega) (by omega) | exact h0 (by omega)
    · refine jr_iload_n (n := 9) dX6_hasRun_8 rfl rfl ?_
      refine jr_aload_n (n := 10) dX6_hasRun_9 rfl rfl ?_
      refine jr_getR (n := 13) dX6_hasRun_10 rfl fX6_15 rfl (by decide) (by decide) rfl ?_
      refine jr_iload_n (n := 14) dX6_hasRun_13 rfl rfl ?_
      refine jr_iald (n := 15) dX6_hasRun_14 rfl rfl (by decide) (by omega) (by omega) ?_
      refine jr_icmp_gt (n := 18) (t := 34) dX6_hasRun_15 (by decide) rfl (by omega) (by omega) (fun b15 => ?_) (fun b15 => ?_)
      · refine jr_iconst (n := 35) dX6_hasRun_34 rfl ?_
        refine jr_zret dX6_hasRun_35 rfl (by decide) ?_
        first | exact h1 (by omega) (by omega) (by omega) | exact h0 (by omega)
      · refine jr_iload_n (n := 19) dX6_hasRun_18 rfl rfl ?_
        refine jr_aload_n (n := 20) dX6_hasRun_19 rfl rfl ?_
        refine jr_getR (n := 23) dX6_hasRun_20 rfl fX6_15 rfl (by decide) (by decide) rfl ?_
        refine jr_iload_n (n := 24) dX6_hasRun_23 rfl rfl ?_
        refine jr_iald (n := 25) dX6_hasRun_24 rfl rfl (by decide) (by omega) (by omega) ?_
        refine jr_iload_n (n := 26) dX6_hasRun_25 rfl rfl ?_
        refine jr_isub (n := 27) dX6_hasRun_26 rfl ?_
        refine jr_icmp_gt (n := 30) (t := 34) dX6_hasRun_27 (by decide) rfl (by omega) (by omega) (fun b27 => ?_) (fun b27 => ?_)
        · refine jr_iconst (n := 35) dX6_hasRun_34 rfl ?_
          refine jr_zret dX6_hasRun_35 rfl (by decide) ?_
          first | exact h1 (by omega) (by omega) (by omega) | exact h0 (by omega)
        · refine jr_iconst (n := 31) dX6_hasRun_30 rfl ?_
          refine jr_goto (t := 35) dX6_hasRun_31 (by decide) ?_
          refine jr_zret dX6_hasRun_35 rfl (by decide) ?_
          first | exact h1 (by omega) (by omega) (by omega) | exact h0 (by omega)

theorem c_valueAt {G : jG} {d : Nat} {M : jMem} {Q : Option Value → jMem → Prop} {s p : Int} (hs : 0 ≤ s ∧ s < 2) (hp : 0 ≤ p ∧ p < 12) (h : Q (some (.int (jI (M 36 (s * 12 + p))))) M) : jN G mX6_valueAt (d) [.ref (jad G 7), .int (jI s), .int (jI p)] M Q := by
  show jM G mX6_valueAt (d) 0 [.ref (jad G 7), .int (jI s), .int (jI p)] [] M Q
  refine jr_aload_n (n := 1) dX6_valueAt_0 rfl rfl ?_
  refine jr_getR (n := 4) dX6_valueAt_1 rfl fX6_9 rfl (by decide) (by decide) rfl ?_
  refine jr_iload_n (n := 5) dX6_valueAt_4 rfl rfl ?_
  refine jr_bipush (n := 7) dX6_valueAt_5 rfl (by decide) ?_
  refine jr_imul (n := 8) dX6_valueAt_7 rfl ?_
  refine jr_iload_n (n := 9) dX6_valueAt_8 rfl rfl ?_
  refine jr_iadd (n := 10) dX6_valueAt_9 rfl ?_
  refine jr_bald (n := 11) dX6_valueAt_10 rfl rfl (by decide) (by omega) (by omega) ?_
  refine jr_iret dX6_valueAt_11 rfl ?_
  exact h

theorem c_put {G : jG} {d : Nat} {M : jMem} {Q : Option Value → jMem → Prop} {s p v : Int} (hs : 0 ≤ s ∧ s < 2) (hp : 0 ≤ p ∧ p < 12) (h : Q none (jup M 36 (s * 12 + p) (jbyt v))) : jN G mX6_put (d) [.ref (jad G 7), .int (jI s), .int (jI p), .int (jI v)] M Q := by
  show jM G mX6_put (d) 0 [.ref (jad G 7), .int (jI s), .int (jI p), .int (jI v)] [] M Q
  refine jr_aload_n (n := 1) dX6_put_0 rfl rfl ?_
  refine jr_getR (n := 4) dX6_put_1 rfl fX6_9 rfl (by decide) (by decide) rfl ?_
  refine jr_iload_n (n := 5) dX6_put_4 rfl rfl ?_
  refine jr_bipush (n := 7) dX6_put_5 rfl (by decide) ?_
  refine jr_imul (n := 8) dX6_put_7 rfl ?_
  refine jr_iload_n (n := 9) dX6_put_8 rfl rfl ?_
  refine jr_iadd (n := 10) dX6_put_9 rfl ?_
  refine jr_iload_n (n := 11) dX6_put_10 rfl rfl ?_
  refine jr_bast (n := 12) dX6_put_11 rfl rfl (by decide) (by omega) (by omega) ?_
  refine jr_vret dX6_put_12 rfl ?_
  exact h

theorem c_copyRun {G : jG} {d : Nat} {M : jMem} {Q : Option Value → jMem → Prop} {a p c q n : Int} (hi : ∀ i, -128 ≤ M 36 i ∧ M 36 i ≤ 127) (ha : 0 ≤ a ∧ a < 2) (hc : 0 ≤ c ∧ c < 2) (hp : 0 ≤ p) (hq : 0 ≤ q) (hn : 0 ≤ n) (h1 : p + n ≤ 12) (h2 : q + n ≤ 12) (h : Q none (jcpy M 36 (a * 12 + p) (c * 12 + q) n)) : jN G mX6_copyRun (d + 1) [.ref (jad G 7), .int (jI a), .int (jI p), .int (jI c), .int (jI q), .int (jI n)] M Q := by
  show jM G mX6_copyRun (d + 1) 0 [.ref (jad G 7), .int (jI a), .int (jI p), .int (jI c), .int (jI q), .int (jI n)] [] M Q
  refine jr_aload_n (n := 1) dX6_copyRun_0 rfl rfl ?_
  refine jr_getR (n := 4) dX6_copyRun_1 rfl fX6_9 rfl (by decide) (by decide) rfl ?_
  refine jr_iload_n (n := 5) dX6_copyRun_4 rfl rfl ?_
  refine jr_bipush (n := 7) dX6_copyRun_5 rfl (by decide) ?_
  refine jr_imul (n := 8) dX6_copyRun_7 rfl ?_
  refine jr_iload_n (n := 9) dX6_copyRun_8 rfl rfl ?_
  refine jr_iadd (n := 10) dX6_copyRun_9 rfl ?_
  refine jr_aload_n (n := 11) dX6_copyRun_10 rfl rfl ?_
  refine jr_getR (n := 14) dX6_copyRun_11 rfl fX6_9 rfl (by decide) (by decide) rfl ?_
  refine jr_iload_n (n := 15) dX6_copyRun_14 rfl rfl ?_
  refine jr_bipush (n := 17) dX6_copyRun_15 rfl (by decide) ?_
  refine jr_imul (n := 18) dX6_copyRun_17 rfl ?_
  refine jr_iload (n := 20) dX6_copyRun_18 rfl rfl ?_
  refine jr_iadd (n := 21) dX6_copyRun_20 rfl ?_
  refine jr_iload (n := 23) dX6_copyRun_21 rfl rfl ?_
  refine jr_copy (n := 26) dX6_copyRun_23 rfl rfl rfl (by decide) (by omega) (by omega) (by omega) (by omega) (by omega) hi (Nat.le_of_ble_eq_true rfl) ⟨Nat.le_add_left _ _, Nat.le_add_left _ _⟩ ?_
  refine jr_vret dX6_copyRun_26 rfl ?_
  exact h

theorem c_layOut_l {G : jG} {d : Nat} {M : jMem} {Q : Option Value → jMem → Prop} {s n : Int} (hs : 0 ≤ s ∧ s < 2) (hn : 0 ≤ n ∧ n ≤ 12) (h : Q none (jup (jblk M 36 (s * 12) (s * 12 + n) (fun _ => 0)) 37 s n))  : ∀ (f : Nat) (i : Int), 0 ≤ i → i ≤ n → n - i < f → jM G mX6_layOut (d) 2 [.ref (jad G 7), .int (jI s), .int (jI n), .int (jI i)] [] (jblk M 36 (s * 12) (s * 12 + i) (fun _ => 0)) Q := by
  intro f
  induction f with
  | zero =>
    intro i h0 h1 hf
    exact absurd hf (by omega)
  | succ f ih =>
    intro i h0 h1 hf
    refine jr_iload_n (n := 3) dX6_layOut_2 rfl rfl ?_
    refine jr_iload_n (n := 4) dX6_layOut_3 rfl rfl ?_
    refine jr_icmp_ge (n := 7) (t := 25) dX6_layOut_4 (by decide) rfl (by omega) (by omega) (fun b4 => ?_) (fun b4 => ?_)
    · refine jr_aload_n (n := 26) dX6_layOut_25 rfl rfl ?_
      refine jr_getR (n := 29) dX6_layOut_26 rfl fX6_15 rfl (by decide) (by decide) rfl ?_
      refine jr_iload_n (n := 30) dX6_layOut_29 rfl rfl ?_
      refine jr_iload_n (n := 31) dX6_layOut_30 rfl rfl ?_
      refine jr_iast (n := 32) dX6_layOut_31 rfl rfl (by decide) (by omega) (by omega) ?_
      refine jr_vret dX6_layOut_32 rfl ?_
      have e : i = n := by omega
      subst e
      exact h
    · refine jr_aload_n (n := 8) dX6_layOut_7 rfl rfl ?_
      refine jr_getR (n := 11) dX6_layOut_8 rfl fX6_9 rfl (by decide) (by decide) rfl ?_
      refine jr_iload_n (n := 12) dX6_layOut_11 rfl rfl ?_
      refine jr_bipush (n := 14) dX6_layOut_12 rfl (by decide) ?_
      refine jr_imul (n := 15) dX6_layOut_14 rfl ?_
      refine jr_iload_n (n := 16) dX6_layOut_15 rfl rfl ?_
      refine jr_iadd (n := 17) dX6_layOut_16 rfl ?_
      refine jr_iconst (n := 18) dX6_layOut_17 rfl ?_
      refine jr_bast (n := 19) dX6_layOut_18 rfl rfl (by decide) (by omega) (by omega) ?_
      refine jr_iinc3 (n := 22) dX6_layOut_19 rfl (by decide) rfl ?_
      refine jr_goto (t := 2) dX6_layOut_22 (by decide) ?_
      rw [show jbyt 0 = 0 from by decide, jblk_up M 36 (fun _ => 0) (by omega) rfl, Int.add_assoc]
      exact ih (i + 1) (by omega) (by omega) (by omega)

theorem c_layOut {G : jG} {d : Nat} {M : jMem} {Q : Option Value → jMem → Prop} {s n : Int} (hs : 0 ≤ s ∧ s < 2) (hn : 0 ≤ n ∧ n ≤ 12) (h : Q none (jup (jblk M 36 (s * 12) (s * 12 + n) (fun _ => 0)) 37 s n)) : jN G mX6_layOut (d) [.ref (jad G 7), .int (jI s), .int (jI n)] M Q := by
  show jM G mX6_layOut (d) 0 [.ref (jad G 7), .int (jI s), .int (jI n), .null] [] M Q
  refine jr_iconst (n := 1) dX6_layOut_0 rfl ?_
  refine jr_istore3 (n := 2) dX6_layOut_1 rfl (by decide) rfl ?_
  rw [show M = jblk M 36 (s * 12) (s * 12 + 0) (fun _ => 0) from by rw [Int.add_zero, jblk_0]]
  exact c_layOut_l hs hn h (n.toNat + 1) 0 (by omega) (by omega) (by omega)

theorem c_sheet {G : jG} {d : Nat} {M : jMem} {Q : Option Value → jMem → Prop} {s n : Int} (hs : jR s) (hn : jR n) (hB : ¬ ((0 ≤ s ∧ s ≤ 1) ∧ n ≤ 12) → Q (some (.long (jL (-9000000000000000001)))) M) (hS : 0 ≤ s → s ≤ 1 → n < 0 → Q (some (.long (jL (-9000000000000000014)))) M) (h : 0 ≤ s → s ≤ 1 → 0 ≤ n → n ≤ 12 → Q (some (.long (jL n))) (jup (jblk M 36 (s * 12) (s * 12 + n) (fun _ => 0)) 37 s n))  : jN G mX7_sheet (d + 2) [.ref (jad G 0), .int (jI s), .int (jI n)] M Q := by
  show jM G mX7_sheet (d + 2) 0 [.ref (jad G 0), .int (jI s), .int (jI n)] [] M Q
  refine jr_iload_n (n := 1) dX7_sheet_0 rfl rfl ?_
  refine jr_cS1 (n := 4) (ν := mX7_isSheet) dX7_sheet_1 rfl lX7_242 kX7_isSheet iX7_isSheet (Nat.le_of_ble_eq_true rfl) (Nat.le_of_ble_eq_true rfl) rfl ?_
  refine c_isSheet (by omega) (fun b1 b1b => ?_) (fun b1 => ?_)
  · refine jr_ifF_eq (n := 7) (t := 13) dX7_sheet_4 rfl (by decide) (by decide) (by decide) ?_
    refine jr_iload_n (n := 8) dX7_sheet_7 rfl rfl ?_
    refine jr_bipush (n := 10) dX7_sheet_8 rfl (by decide) ?_
    refine jr_icmp_le (n := 13) (t := 17) dX7_sheet_10 (by decide) rfl (by omega) (by omega) (fun b10 => ?_) (fun b10 => ?_)
    · refine jr_iload_n (n := 18) dX7_sheet_17 rfl rfl ?_
      refine jr_if_ge (n := 21) (t := 25) dX7_sheet_18 (by decide) rfl (by omega) (fun b18 => ?_) (fun b18 => ?_)
      · refine jr_aload_n (n := 26) dX7_sheet_25 rfl rfl ?_
        refine jr_getR (n := 29) dX7_sheet_26 rfl fX7_54 rfl (by decide) (by decide) rfl ?_
        refine jr_iload_n (n := 30) dX7_sheet_29 rfl rfl ?_
        refine jr_iload_n (n := 31) dX7_sheet_30 rfl rfl ?_
        refine jr_cV2 (n := 34) (ci := 6) (ν := mX6_layOut) dX7_sheet_31 rfl lX7_247 kX6_layOut iX6_layOut rfl ⟨_, rfl, rfl⟩ (by decide) (Nat.le_of_ble_eq_true rfl) (Nat.le_of_ble_eq_true rfl) rfl ?_
        refine c_layOut (by omega) (by omega) ?_
        refine jr_iload_n (n := 35) dX7_sheet_34 rfl rfl ?_
        refine jr_i2l (n := 36) dX7_sheet_35 rfl (by omega) ?_
        refine jr_lret dX7_sheet_36 rfl ?_
        first | exact hB (by omega) | exact hS (by omega) (by omega) (by omega) | exact h (by omega) (by omega) (by omega) (by omega)
      · refine jr_ldc2 (n := 24) dX7_sheet_21 rfl rfl qX7_245 vX7_245 ?_
        refine jr_lret dX7_sheet_24 rfl ?_
        first | exact hB (by omega) | exact hS (by omega) (by omega) (by omega) | exact h (by omega) (by omega) (by omega) (by omega)
    · refine jr_ldc2 (n := 16) dX7_sheet_13 rfl rfl qX7_70 vX7_70 ?_
      refine jr_lret dX7_sheet_16 rfl ?_
      first | exact hB (by omega) | exact hS (by omega) (by omega) (by omega) | exact h (by omega) (by omega) (by omega) (by omega)
  · refine jr_ifT_eq (t := 13) dX7_sheet_4 (by decide) (by decide) (by decide) ?_
    refine jr_ldc2 (n := 16) dX7_sheet_13 rfl rfl qX7_70 vX7_70 ?_
    refine jr_lret dX7_sheet_16 rfl ?_
    first | exact hB (by omega) | exact hS (by omega) (by omega) (by omega) | exact h (by omega) (by omega) (by omega) (by omega)

theorem e_sheet_l {G : jG} {d : Nat} {M : jMem} {Q : Option Value → jMem → Prop} {s n : Int} (hs : 0 ≤ s ∧ s < 2) (hn : 0 ≤ n ∧ n ≤ 12) (h : Q (some (.long (jL n))) (jblk (jup M 53 s n) 54 (12 * s) (12 * s + n) (fun _ => 0)))  : ∀ (f : Nat) (i : Int), 0 ≤ i → i ≤ n → n - i < f → jM G mX8_sheet (d + 2) 34 [.ref (jad G 8), .int (jI s), .int (jI n), .int (jI i)] [] (jblk (jup M 53 s n) 54 (12 * s) (12 * s + i) (fun _ => 0)) Q := by
  intro f
  induction f with
  | zero =>
    intro i h0 h1 hf
    exact absurd hf (by omega)
  | succ f ih =>
    intro i h0 h1 hf
    refine jr_iload_n (n := 35) dX8_sheet_34 rfl rfl ?_
    refine jr_iload_n (n := 36) dX8_sheet_35 rfl rfl ?_
    refine jr_icmp_ge (n := 39) (t := 57) dX8_sheet_36 (by decide) rfl (by omega) (by omega) (fun b36 => ?_) (fun b36 => ?_)
    · refine jr_iload_n (n := 58) dX8_sheet_57 rfl rfl ?_
      refine jr_i2l (n := 59) dX8_sheet_58 rfl (by omega) ?_
      refine jr_lret dX8_sheet_59 rfl ?_
      have e : i = n := by omega
      subst e
      exact h
    · refine jr_aload_n (n := 40) dX8_sheet_39 rfl rfl ?_
      refine jr_getR (n := 43) dX8_sheet_40 rfl fX8_58 rfl (by decide) (by decide) rfl ?_
      refine jr_bipush (n := 45) dX8_sheet_43 rfl (by decide) ?_
      refine jr_iload_n (n := 46) dX8_sheet_45 rfl rfl ?_
      refine jr_imul (n := 47) dX8_sheet_46 rfl ?_
      refine jr_iload_n (n := 48) dX8_sheet_47 rfl rfl ?_
      refine jr_iadd (n := 49) dX8_sheet_48 rfl ?_
      refine jr_iconst (n := 50) dX8_sheet_49 rfl ?_
      refine jr_iast (n := 51) dX8_sheet_50 rfl rfl (by decide) (by omega) (by omega) ?_
      refine jr_iinc3 (n := 54) dX8_sheet_51 rfl (by decide) rfl ?_
      refine jr_goto (t := 34) dX8_sheet_54 (by decide) ?_
      rw [jblk_up _ 54 (fun _ => 0) (by omega) rfl, Int.add_assoc]
      exact ih (i + 1) (by omega) (by omega) (by omega)

theorem e_sheet {G : jG} {d : Nat} {M : jMem} {Q : Option Value → jMem → Prop} {s n : Int} (hs : jR s) (hn : jR n) (hB : ¬ ((0 ≤ s ∧ s ≤ 1) ∧ n ≤ 12) → Q (some (.long (jL (-9000000000000000001)))) M) (hS : 0 ≤ s → s ≤ 1 → n < 0 → Q (some (.long (jL (-9000000000000000014)))) M) (h : 0 ≤ s → s ≤ 1 → 0 ≤ n → n ≤ 12 → Q (some (.long (jL n))) (jblk (jup M 53 s n) 54 (12 * s) (12 * s + n) (fun _ => 0)))  : jN G mX8_sheet (d + 2) [.ref (jad G 8), .int (jI s), .int (jI n)] M Q := by
  show jM G mX8_sheet (d + 2) 0 [.ref (jad G 8), .int (jI s), .int (jI n), .null] [] M Q
  refine jr_iload_n (n := 1) dX8_sheet_0 rfl rfl ?_
  refine jr_cS1 (n := 4) (ν := mX8_isSheet) dX8_sheet_1 rfl lX8_195 kX8_isSheet iX8_isSheet (Nat.le_of_ble_eq_true rfl) (Nat.le_of_ble_eq_true rfl) rfl ?_
  refine e_isSheet (by omega) (fun b1 b1b => ?_) (fun b1 => ?_)
  · refine jr_ifF_eq (n := 7) (t := 13) dX8_sheet_4 rfl (by decide) (by decide) (by decide) ?_
    refine jr_iload_n (n := 8) dX8_sheet_7 rfl rfl ?_
    refine jr_bipush (n := 10) dX8_sheet_8 rfl (by decide) ?_
    refine jr_icmp_le (n := 13) (t := 17) dX8_sheet_10 (by decide) rfl (by omega) (by omega) (fun b10 => ?_) (fun b10 => ?_)
    · refine jr_iload_n (n := 18) dX8_sheet_17 rfl rfl ?_
      refine jr_if_ge (n := 21) (t := 25) dX8_sheet_18 (by decide) rfl (by omega) (fun b18 => ?_) (fun b18 => ?_)
      · refine jr_aload_n (n := 26) dX8_sheet_25 rfl rfl ?_
        refine jr_getR (n := 29) dX8_sheet_26 rfl fX8_55 rfl (by decide) (by decide) rfl ?_
        refine jr_iload_n (n := 30) dX8_sheet_29 rfl rfl ?_
        refine jr_iload_n (n := 31) dX8_sheet_30 rfl rfl ?_
        refine jr_iast (n := 32) dX8_sheet_31 rfl rfl (by decide) (by omega) (by omega) ?_
        refine jr_iconst (n := 33) dX8_sheet_32 rfl ?_
        refine jr_istore3 (n := 34) dX8_sheet_33 rfl (by decide) rfl ?_
        rw [show jup M 53 s n = jblk (jup M 53 s n) 54 (12 * s) (12 * s + 0) (fun _ => 0) from by rw [Int.add_zero, jblk_0]]
        exact e_sheet_l (by omega) (by omega) (h (by omega) (by omega) (by omega) (by omega)) (n.toNat + 1) 0 (by omega) (by omega) (by omega)
      · refine jr_ldc2 (n := 24) dX8_sheet_21 rfl rfl qX8_198 vX8_198 ?_
        refine jr_lret dX8_sheet_24 rfl ?_
        first | exact hB (by omega) | exact hS (by omega) (by omega) (by omega)
    · refine jr_ldc2 (n := 16) dX8_sheet_13 rfl rfl qX8_107 vX8_107 ?_
      refine jr_lret dX8_sheet_16 rfl ?_
      first | exact hB (by omega) | exact hS (by omega) (by omega) (by omega)
  · refine jr_ifT_eq (t := 13) dX8_sheet_4 (by decide) (by decide) (by decide) ?_
    refine jr_ldc2 (n := 16) dX8_sheet_13 rfl rfl qX8_107 vX8_107 ?_
    refine jr_lret dX8_sheet_16 rfl ?_
    first | exact hB (by omega) | exact hS (by omega) (by omega) (by omega)

theorem c_mark {G : jG} {d : Nat} {M : jMem} {Q : Option Value → jMem → Prop} (hI : jK M) {s p v : Int} (hs : jR s) (hp : jR p) (hv : jR v) (hB : ¬ (0 ≤ s ∧ s ≤ 1) → Q (some (.long (jL (-9000000000000000001)))) M) (hN : 0 ≤ s → s ≤ 1 → M 37 s = -1 → Q (some (.long (jL (-9000000000000000011)))) M) (hX : 0 ≤ s → s ≤ 1 → M 37 s ≠ -1 → ¬ (0 ≤ p ∧ p < M 37 s) → Q (some (.long (jL (-9000000000000000013)))) M) (h : 0 ≤ s → s ≤ 1 → 0 ≤ p → p < M 37 s → Q (some (.long (jL (M 36 (s * 12 + p))))) (jup M 36 (s * 12 + p) (jbyt v))) : jN G mX7_mark (d + 2) [.ref (jad G 0), .int (jI s), .int (jI p), .int (jI v)] M Q := by
  show jM G mX7_mark (d + 2) 0 [.ref (jad G 0), .int (jI s), .int (jI p), .int (jI v), .null] [] M Q
  refine jr_iload_n (n := 1) dX7_mark_0 rfl rfl ?_
  refine jr_cS1 (n := 4) (ν := mX7_isSheet) dX7_mark_1 rfl lX7_242 kX7_isSheet iX7_isSheet (Nat.le_of_ble_eq_true rfl) (Nat.le_of_ble_eq_true rfl) rfl ?_
  refine c_isSheet (by omega) (fun b1 b1b => ?_) (fun b1 => ?_)
  · refine jr_ifT_ne (t := 11) dX7_mark_4 (by decide) (by decide) (by decide) ?_
    have hr := jn14 hI s (by omega) (by omega)
    refine jr_aload_n (n := 12) dX7_mark_11 rfl rfl ?_
    refine jr_getR (n := 15) dX7_mark_12 rfl fX7_54 rfl (by decide) (by decide) rfl ?_
    refine jr_iload_n (n := 16) dX7_mark_15 rfl rfl ?_
    refine jr_cV1 (n := 19) (ci := 6) (ν := mX6_isMissing) dX7_mark_16 rfl lX7_250 kX6_isMissing iX6_isMissing rfl ⟨_, rfl, rfl⟩ (by decide) (Nat.le_of_ble_eq_true rfl) (Nat.le_of_ble_eq_true rfl) rfl ?_
    refine c_isMissing (by omega) (by omega) (fun b16 => ?_) (fun b16 => ?_)
    · refine jr_ifF_eq (n := 22) (t := 26) dX7_mark_19 rfl (by decide) (by decide) (by decide) ?_
      refine jr_ldc2 (n := 25) dX7_mark_22 rfl rfl qX7_253 vX7_253 ?_
      refine jr_lret dX7_mark_25 rfl ?_
      first | exact hB (by omega) | exact hN (by omega) (by omega) (by omega) | exact hX (by omega) (by omega) (by omega) (by omega) | exact h (by omega) (by omega) (by omega) (by omega)
    · refine jr_ifT_eq (t := 26) dX7_mark_19 (by decide) (by decide) (by decide) ?_
      refine jr_aload_n (n := 27) dX7_mark_26 rfl rfl ?_
      refine jr_getR (n := 30) dX7_mark_27 rfl fX7_54 rfl (by decide) (by decide) rfl ?_
      refine jr_iload_n (n := 31) dX7_mark_30 rfl rfl ?_
      refine jr_iload_n (n := 32) dX7_mark_31 rfl rfl ?_
      refine jr_iconst (n := 33) dX7_mark_32 rfl ?_
      refine jr_cV3 (n := 36) (ci := 6) (ν := mX6_hasRun) dX7_mark_33 rfl lX7_255 kX6_hasRun iX6_hasRun rfl ⟨_, rfl, rfl⟩ (by decide) (Nat.le_of_ble_eq_true rfl) (Nat.le_of_ble_eq_true rfl) rfl ?_
      refine c_hasRun (by omega) (by omega) (by omega) (by omega) (fun b33 b33b b33c => ?_) (fun b33 => ?_)
      · refine jr_ifT_ne (t := 43) dX7_mark_36 (by decide) (by decide) (by decide) ?_
        refine jr_aload_n (n := 44) dX7_mark_43 rfl rfl ?_
        refine jr_getR (n := 47) dX7_mark_44 rfl fX7_54 rfl (by decide) (by decide) rfl ?_
        refine jr_iload_n (n := 48) dX7_mark_47 rfl rfl ?_
        refine jr_iload_n (n := 49) dX7_mark_48 rfl rfl ?_
        refine jr_cV2 (n := 52) (ci := 6) (ν := mX6_valueAt) dX7_mark_49 rfl lX7_260 kX6_valueAt iX6_valueAt rfl ⟨_, rfl, rfl⟩ (by decide) (Nat.le_of_ble_eq_true rfl) (Nat.le_of_ble_eq_true rfl) rfl ?_
        refine c_valueAt (by omega) (by omega) ?_
        refine jr_istore4 (n := 54) dX7_mark_52 rfl (by decide) rfl ?_
        refine jr_aload_n (n := 55) dX7_mark_54 rfl rfl ?_
        refine jr_getR (n := 58) dX7_mark_55 rfl fX7_54 rfl (by decide) (by decide) rfl ?_
        refine jr_iload_n (n := 59) dX7_mark_58 rfl rfl ?_
        refine jr_iload_n (n := 60) dX7_mark_59 rfl rfl ?_
        refine jr_iload_n (n := 61) dX7_mark_60 rfl rfl ?_
        refine jr_i2b (n := 62) dX7_mark_61 rfl ?_
        refine jr_cV3 (n := 65) (ci := 6) (ν := mX6_put) dX7_mark_62 rfl lX7_263 kX6_put iX6_put rfl ⟨_, rfl, rfl⟩ (by decide) (Nat.le_of_ble_eq_true rfl) (Nat.le_of_ble_eq_true rfl) rfl ?_
        refine c_put (by omega) (by omega) ?_
        have hb := jn15 hI (s * 12 + p)
        rw [jbyt_id (jbyt_R v)]
        refine jr_iload (n := 67) dX7_mark_65 rfl rfl ?_
        refine jr_i2l (n := 68) dX7_mark_67 rfl (by omega) ?_
        refine jr_lret dX7_mark_68 rfl ?_
        first | exact hB (by omega) | exact hN (by omega) (by omega) (by omega) | exact hX (by omega) (by omega) (by omega) (by omega) | exact h (by omega) (by omega) (by omega) (by omega)
      · refine jr_ifF_ne (n := 39) (t := 43) dX7_mark_36 rfl (by decide) (by decide) (by decide) ?_
        refine jr_ldc2 (n := 42) dX7_mark_39 rfl rfl qX7_258 vX7_258 ?_
        refine jr_lret dX7_mark_42 rfl ?_
        first | exact hB (by omega) | exact hN (by omega) (by omega) (by omega) | exact hX (by omega) (by omega) (by omega) (by omega) | exact h (by omega) (by omega) (by omega) (by omega)
  · refine jr_ifF_ne (n := 7) (t := 11) dX7_mark_4 rfl (by decide) (by decide) (by decide) ?_
    refine jr_ldc2 (n := 10) dX7_mark_7 rfl rfl qX7_70 vX7_70 ?_
    refine jr_lret dX7_mark_10 rfl ?_
    first | exact hB (by omega) | exact hN (by omega) (by omega) (by omega) | exact hX (by omega) (by omega) (by omega) (by omega) | exact h (by omega) (by omega) (by omega) (by omega)

theorem e_mark {G : jG} {d : Nat} {M : jMem} {Q : Option Value → jMem → Prop} (hI : jO M) {s p v : Int} (hs : jR s) (hp : jR p) (hv : jR v) (hB : ¬ (0 ≤ s ∧ s ≤ 1) → Q (some (.long (jL (-9000000000000000001)))) M) (hN : 0 ≤ s → s ≤ 1 → M 53 s = -1 → Q (some (.long (jL (-9000000000000000011)))) M) (hX : 0 ≤ s → s ≤ 1 → M 53 s ≠ -1 → ¬ (0 ≤ p ∧ p < M 53 s) → Q (some (.long (jL (-9000000000000000013)))) M) (h : 0 ≤ s → s ≤ 1 → 0 ≤ p → p < M 53 s → Q (some (.long (jL (M 54 (12 * s + p))))) (jup M 54 (12 * s + p) (jbyt v))) : jN G mX8_mark (d + 2) [.ref (jad G 8), .int (jI s), .int (jI p), .int (jI v)] M Q := by
  show jM G mX8_mark (d + 2) 0 [.ref (jad G 8), .int (jI s), .int (jI p), .int (jI v), .null] [] M Q
  refine jr_iload_n (n := 1) dX8_mark_0 rfl rfl ?_
  refine jr_cS1 (n := 4) (ν := mX8_isSheet) dX8_mark_1 rfl lX8_195 kX8_isSheet iX8_isSheet (Nat.le_of_ble_eq_true rfl) (Nat.le_of_ble_eq_true rfl) rfl ?_
  refine e_isSheet (by omega) (fun b1 b1b => ?_) (fun b1 => ?_)
  · refine jr_ifT_ne (t := 11) dX8_mark_4 (by decide) (by decide) (by decide) ?_
    have hr := jn14 hI s (by omega) (by omega)
    refine jr_aload_n (n := 12) dX8_mark_11 rfl rfl ?_
    refine jr_getR (n := 15) dX8_mark_12 rfl fX8_55 rfl (by decide) (by decide) rfl ?_
    refine jr_iload_n (n := 16) dX8_mark_15 rfl rfl ?_
    refine jr_iald (n := 17) dX8_mark_16 rfl rfl (by decide) (by omega) (by omega) ?_
    refine jr_if_ge (n := 20) (t := 24) dX8_mark_17 (by decide) rfl (by omega) (fun b17 => ?_) (fun b17 => ?_)
    · refine jr_iload_n (n := 25) dX8_mark_24 rfl rfl ?_
      refine jr_iconst (n := 26) dX8_mark_25 rfl ?_
      refine jr_aload_n (n := 27) dX8_mark_26 rfl rfl ?_
      refine jr_getR (n := 30) dX8_mark_27 rfl fX8_55 rfl (by decide) (by decide) rfl ?_
      refine jr_iload_n (n := 31) dX8_mark_30 rfl rfl ?_
      refine jr_iald (n := 32) dX8_mark_31 rfl rfl (by decide) (by omega) (by omega) ?_
      refine jr_iconst (n := 33) dX8_mark_32 rfl ?_
      refine jr_isub (n := 34) dX8_mark_33 rfl ?_
      refine jr_cS3 (n := 37) (ν := mX8_isIn) dX8_mark_34 rfl lX8_92 kX8_isIn iX8_isIn (Nat.le_of_ble_eq_true rfl) (Nat.le_of_ble_eq_true rfl) rfl ?_
      refine e_isIn (by omega) (by omega) (by omega) (fun b34 b34b => ?_) (fun b34 => ?_)
      · refine jr_ifT_ne (t := 44) dX8_mark_37 (by decide) (by decide) (by decide) ?_
        refine jr_aload_n (n := 45) dX8_mark_44 rfl rfl ?_
        refine jr_getR (n := 48) dX8_mark_45 rfl fX8_58 rfl (by decide) (by decide) rfl ?_
        refine jr_bipush (n := 50) dX8_mark_48 rfl (by decide) ?_
        refine jr_iload_n (n := 51) dX8_mark_50 rfl rfl ?_
        refine jr_imul (n := 52) dX8_mark_51 rfl ?_
        refine jr_iload_n (n := 53) dX8_mark_52 rfl rfl ?_
        refine jr_iadd (n := 54) dX8_mark_53 rfl ?_
        refine jr_iald (n := 55) dX8_mark_54 rfl rfl (by decide) (by omega) (by omega) ?_
        refine jr_istore4 (n := 57) dX8_mark_55 rfl (by decide) rfl ?_
        refine jr_aload_n (n := 58) dX8_mark_57 rfl rfl ?_
        refine jr_getR (n := 61) dX8_mark_58 rfl fX8_58 rfl (by decide) (by decide) rfl ?_
        refine jr_bipush (n := 63) dX8_mark_61 rfl (by decide) ?_
        refine jr_iload_n (n := 64) dX8_mark_63 rfl rfl ?_
        refine jr_imul (n := 65) dX8_mark_64 rfl ?_
        refine jr_iload_n (n := 66) dX8_mark_65 rfl rfl ?_
        refine jr_iadd (n := 67) dX8_mark_66 rfl ?_
        refine jr_iload_n (n := 68) dX8_mark_67 rfl rfl ?_
        refine jr_i2b (n := 69) dX8_mark_68 rfl ?_
        refine jr_iast (n := 70) dX8_mark_69 rfl rfl (by decide) (by omega) (by omega) ?_
        have hb := jn15 hI (12 * s + p)
        refine jr_iload (n := 72) dX8_mark_70 rfl rfl ?_
        refine jr_i2l (n := 73) dX8_mark_72 rfl (by omega) ?_
        refine jr_lret dX8_mark_73 rfl ?_
        first | exact hB (by omega) | exact hN (by omega) (by omega) (by omega) | exact hX (by omega) (by omega) (by omega) (by omega) | exact h (by omega) (by omega) (by omega) (by omega)
      · refine jr_ifF_ne (n := 40) (t := 44) dX8_mark_37 rfl (by decide) (by decide) (by decide) ?_
        refine jr_ldc2 (n := 43) dX8_mark_40 rfl rfl qX8_202 vX8_202 ?_
        refine jr_lret dX8_mark_43 rfl ?_
        first | exact hB (by omega) | exact hN (by omega) (by omega) (by omega) | exact hX (by omega) (by omega) (by omega) (by omega) | exact h (by omega) (by omega) (by omega) (by omega)
    · refine jr_ldc2 (n := 23) dX8_mark_20 rfl rfl qX8_200 vX8_200 ?_
      refine jr_lret dX8_mark_23 rfl ?_
      first | exact hB (by omega) | exact hN (by omega) (by omega) (by omega) | exact hX (by omega) (by omega) (by omega) (by omega) | exact h (by omega) (by omega) (by omega) (by omega)
  · refine jr_ifF_ne (n := 7) (t := 11) dX8_mark_4 rfl (by decide) (by decide) (by decide) ?_
    refine jr_ldc2 (n := 10) dX8_mark_7 rfl rfl qX8_107 vX8_107 ?_
    refine jr_lret dX8_mark_10 rfl ?_
    first | exact hB (by omega) | exact hN (by omega) (by omega) (by omega) | exact hX (by omega) (by omega) (by omega) (by omega) | exact h (by omega) (by omega) (by omega) (by omega)

theorem c_copy {G : jG} {d : Nat} {M : jMem} {Q : Option Value → jMem → Prop} (hI : jK M) {a p c q n : Int} (ha : jR a) (hp : jR p) (hc : jR c) (hq : jR q) (hn : jR n) (hB : ¬ ((0 ≤ a ∧ a ≤ 1) ∧ (0 ≤ c ∧ c ≤ 1)) → Q (some (.long (jL (-9000000000000000001)))) M) (hN : 0 ≤ a → a ≤ 1 → 0 ≤ c → c ≤ 1 → M 37 a = -1 ∨ M 37 c = -1 → Q (some (.long (jL (-9000000000000000011)))) M) (hX : 0 ≤ a → a ≤ 1 → 0 ≤ c → c ≤ 1 → M 37 a ≠ -1 → M 37 c ≠ -1 → ¬ (0 ≤ p ∧ 0 ≤ q ∧ 0 ≤ n ∧ p + n ≤ M 37 a ∧ q + n ≤ M 37 c) → Q (some (.long (jL (-9000000000000000013)))) M) (h : 0 ≤ a → a ≤ 1 → 0 ≤ c → c ≤ 1 → 0 ≤ p → 0 ≤ q → 0 ≤ n → p + n ≤ M 37 a → q + n ≤ M 37 c → Q (some (.long (jL n))) (jcpy M 36 (a * 12 + p) (c * 12 + q) n)) : jN G mX7_copy (d + 3) [.ref (jad G 0), .int (jI a), .int (jI p), .int (jI c), .int (jI q), .int (jI n)] M Q := by
  show jM G mX7_copy (d + 3) 0 [.ref (jad G 0), .int (jI a), .int (jI p), .int (jI c), .int (jI q), .int (jI n)] [] M Q
  refine jr_iload_n (n := 1) dX7_copy_0 rfl rfl ?_
  refine jr_cS1 (n := 4) (ν := mX7_isSheet) dX7_copy_1 rfl lX7_242 kX7_isSheet iX7_isSheet (Nat.le_of_ble_eq_true rfl) (Nat.le_of_ble_eq_true rfl) rfl ?_
  refine c_isSheet (by omega) (fun b1 b1b => ?_) (fun b1 => ?_)
  · refine jr_ifF_eq (n := 7) (t := 14) dX7_copy_4 rfl (by decide) (by decide) (by decide) ?_
    refine jr_iload_n (n := 8) dX7_copy_7 rfl rfl ?_
    refine jr_cS1 (n := 11) (ν := mX7_isSheet) dX7_copy_8 rfl lX7_242 kX7_isSheet iX7_isSheet (Nat.le_of_ble_eq_true rfl) (Nat.le_of_ble_eq_true rfl) rfl ?_
    refine c_isSheet (by omega) (fun b8 b8b => ?_) (fun b8 => ?_)
    · refine jr_ifT_ne (t := 18) dX7_copy_11 (by decide) (by decide) (by decide) ?_
      have hr := jn14 hI a (by omega) (by omega)
      have hr2 := jn14 hI c (by omega) (by omega)
      refine jr_aload_n (n := 19) dX7_copy_18 rfl rfl ?_
      refine jr_getR (n := 22) dX7_copy_19 rfl fX7_54 rfl (by decide) (by decide) rfl ?_
      refine jr_iload_n (n := 23) dX7_copy_22 rfl rfl ?_
      refine jr_cV1 (n := 26) (ci := 6) (ν := mX6_isMissing) dX7_copy_23 rfl lX7_250 kX6_isMissing iX6_isMissing rfl ⟨_, rfl, rfl⟩ (by decide) (Nat.le_of_ble_eq_true rfl) (Nat.le_of_ble_eq_true rfl) rfl ?_
      refine c_isMissing (by omega) (by omega) (fun b23 => ?_) (fun b23 => ?_)
      · refine jr_ifT_ne (t := 40) dX7_copy_26 (by decide) (by decide) (by decide) ?_
        refine jr_ldc2 (n := 43) dX7_copy_40 rfl rfl qX7_253 vX7_253 ?_
        refine jr_lret dX7_copy_43 rfl ?_
        first | exact hB (by omega) | exact hN (by omega) (by omega) (by omega) (by omega) (by omega) | exact hX (by omega) (by omega) (by omega) (by omega) (by omega) (by omega) (by omega) | exact h (by omega) (by omega) (by omega) (by omega) (by omega) (by omega) (by omega) (by omega) (by omega)
      · refine jr_ifF_ne (n := 29) (t := 40) dX7_copy_26 rfl (by decide) (by decide) (by decide) ?_
        refine jr_aload_n (n := 30) dX7_copy_29 rfl rfl ?_
        refine jr_getR (n := 33) dX7_copy_30 rfl fX7_54 rfl (by decide) (by decide) rfl ?_
        refine jr_iload_n (n := 34) dX7_copy_33 rfl rfl ?_
        refine jr_cV1 (n := 37) (ci := 6) (ν := mX6_isMissing) dX7_copy_34 rfl lX7_250 kX6_isMissing iX6_isMissing rfl ⟨_, rfl, rfl⟩ (by decide) (Nat.le_of_ble_eq_true rfl) (Nat.le_of_ble_eq_true rfl) rfl ?_
        refine c_isMissing (by omega) (by omega) (fun b34 => ?_) (fun b34 => ?_)
        · refine jr_ifF_eq (n := 40) (t := 44) dX7_copy_37 rfl (by decide) (by decide) (by decide) ?_
          refine jr_ldc2 (n := 43) dX7_copy_40 rfl rfl qX7_253 vX7_253 ?_
          refine jr_lret dX7_copy_43 rfl ?_
          first | exact hB (by omega) | exact hN (by omega) (by omega) (by omega) (by omega) (by omega) | exact hX (by omega) (by omega) (by omega) (by omega) (by omega) (by omega) (by omega) | exact h (by omega) (by omega) (by omega) (by omega) (by omega) (by omega) (by omega) (by omega) (by omega)
        · refine jr_ifT_eq (t := 44) dX7_copy_37 (by decide) (by decide) (by decide) ?_
          refine jr_aload_n (n := 45) dX7_copy_44 rfl rfl ?_
          refine jr_getR (n := 48) dX7_copy_45 rfl fX7_54 rfl (by decide) (by decide) rfl ?_
          refine jr_iload_n (n := 49) dX7_copy_48 rfl rfl ?_
          refine jr_iload_n (n := 50) dX7_copy_49 rfl rfl ?_
          refine jr_iload (n := 52) dX7_copy_50 rfl rfl ?_
          refine jr_cV3 (n := 55) (ci := 6) (ν := mX6_hasRun) dX7_copy_52 rfl lX7_255 kX6_hasRun iX6_hasRun rfl ⟨_, rfl, rfl⟩ (by decide) (Nat.le_of_ble_eq_true rfl) (Nat.le_of_ble_eq_true rfl) rfl ?_
          refine c_hasRun (by omega) (by omega) (by omega) (by omega) (fun b52 b52b b52c => ?_) (fun b52 => ?_)
          · refine jr_ifF_eq (n := 58) (t := 73) dX7_copy_55 rfl (by decide) (by decide) (by decide) ?_
            refine jr_aload_n (n := 59) dX7_copy_58 rfl rfl ?_
            refine jr_getR (n := 62) dX7_copy_59 rfl fX7_54 rfl (by decide) (by decide) rfl ?_
            refine jr_iload_n (n := 63) dX7_copy_62 rfl rfl ?_
            refine jr_iload (n := 65) dX7_copy_63 rfl rfl ?_
            refine jr_iload (n := 67) dX7_copy_65 rfl rfl ?_
            refine jr_cV3 (n := 70) (ci := 6) (ν := mX6_hasRun) dX7_copy_67 rfl lX7_255 kX6_hasRun iX6_hasRun rfl ⟨_, rfl, rfl⟩ (by decide) (Nat.le_of_ble_eq_true rfl) (Nat.le_of_ble_eq_true rfl) rfl ?_
            refine c_hasRun (by omega) (by omega) (by omega) (by omega) (fun b67 b67b b67c => ?_) (fun b67 => ?_)
            · refine jr_ifT_ne (t := 77) dX7_copy_70 (by decide) (by decide) (by decide) ?_
              refine jr_aload_n (n := 78) dX7_copy_77 rfl rfl ?_
              refine jr_getR (n := 81) dX7_copy_78 rfl fX7_54 rfl (by decide) (by decide) rfl ?_
              refine jr_iload_n (n := 82) dX7_copy_81 rfl rfl ?_
              refine jr_iload_n (n := 83) dX7_copy_82 rfl rfl ?_
              refine jr_iload_n (n := 84) dX7_copy_83 rfl rfl ?_
              refine jr_iload (n := 86) dX7_copy_84 rfl rfl ?_
              refine jr_iload (n := 88) dX7_copy_86 rfl rfl ?_
              refine jr_cV5 (n := 91) (ci := 6) (ν := mX6_copyRun) dX7_copy_88 rfl lX7_267 kX6_copyRun iX6_copyRun rfl ⟨_, rfl, rfl⟩ (by decide) (Nat.le_of_ble_eq_true rfl) (Nat.le_of_ble_eq_true rfl) rfl ?_
              refine c_copyRun (jn15 hI) (by omega) (by omega) (by omega) (by omega) (by omega) (by omega) (by omega) ?_
              refine jr_iload (n := 93) dX7_copy_91 rfl rfl ?_
              refine jr_i2l (n := 94) dX7_copy_93 rfl (by omega) ?_
              refine jr_lret dX7_copy_94 rfl ?_
              first | exact hB (by omega) | exact hN (by omega) (by omega) (by omega) (by omega) (by omega) | exact hX (by omega) (by omega) (by omega) (by omega) (by omega) (by omega) (by omega) | exact h (by omega) (by omega) (by omega) (by omega) (by omega) (by omega) (by omega) (by omega) (by omega)
            · refine jr_ifF_ne (n := 73) (t := 77) dX7_copy_70 rfl (by decide) (by decide) (by decide) ?_
              refine jr_ldc2 (n := 76) dX7_copy_73 rfl rfl qX7_258 vX7_258 ?_
              refine jr_lret dX7_copy_76 rfl ?_
              first | exact hB (by omega) | exact hN (by omega) (by omega) (by omega) (by omega) (by omega) | exact hX (by omega) (by omega) (by omega) (by omega) (by omega) (by omega) (by omega) | exact h (by omega) (by omega) (by omega) (by omega) (by omega) (by omega) (by omega) (by omega) (by omega)
          · refine jr_ifT_eq (t := 73) dX7_copy_55 (by decide) (by decide) (by decide) ?_
            refine jr_ldc2 (n := 76) dX7_copy_73 rfl rfl qX7_258 vX7_258 ?_
            refine jr_lret dX7_copy_76 rfl ?_
            first | exact hB (by omega) | exact hN (by omega) (by omega) (by omega) (by omega) (by omega) | exact hX (by omega) (by omega) (by omega) (by omega) (by omega) (by omega) (by omega) | exact h (by omega) (by omega) (by omega) (by omega) (by omega) (by omega) (by omega) (by omega) (by omega)
    · refine jr_ifF_ne (n := 14) (t := 18) dX7_copy_11 rfl (by decide) (by decide) (by decide) ?_
      refine jr_ldc2 (n := 17) dX7_copy_14 rfl rfl qX7_70 vX7_70 ?_
      refine jr_lret dX7_copy_17 rfl ?_
      first | exact hB (by omega) | exact hN (by omega) (by omega) (by omega) (by omega) (by omega) | exact hX (by omega) (by omega) (by omega) (by omega) (by omega) (by omega) (by omega) | exact h (by omega) (by omega) (by omega) (by omega) (by omega) (by omega) (by omega) (by omega) (by omega)
  · refine jr_ifT_eq (t := 14) dX7_copy_4 (by decide) (by decide) (by decide) ?_
    refine jr_ldc2 (n := 17) dX7_copy_14 rfl rfl qX7_70 vX7_70 ?_
    refine jr_lret dX7_copy_17 rfl ?_
    first | exact hB (by omega) | exact hN (by omega) (by omega) (by omega) (by omega) (by omega) | exact hX (by omega) (by omega) (by omega) (by omega) (by omega) (by omega) (by omega) | exact h (by omega) (by omega) (by omega) (by omega) (by omega) (by omega) (by omega) (by omega) (by omega)

theorem e_copy_m {G : jG} {d : Nat} {M : jMem} {Q : Option Value → jMem → Prop} {a p c q n : Int} (ha : 0 ≤ a ∧ a < 2) (hc : 0 ≤ c ∧ c < 2) (hp : 0 ≤ p) (hq : 0 ≤ q) (hn : 0 ≤ n) (h1 : p + n ≤ 12) (h2 : q + n ≤ 12) (h : Q (some (.long (jL n))) (jblk (jblk M 64 0 n (fun b => M 54 (12 * a + p + b))) 54 (12 * c + q) (12 * c + q + n) (fun b => M 54 (12 * a + p + (b - (12 * c + q))))))  : ∀ (f : Nat) (i : Int), 0 ≤ i → i ≤ n → n - i < f → jM G mX8_copy (d + 2) 133 [.ref (jad G 8), .int (jI a), .int (jI p), .int (jI c), .int (jI q), .int (jI n), .int (jI i)] [] (jblk (jblk M 64 0 n (fun b => M 54 (12 * a + p + b))) 54 (12 * c + q) (12 * c + q + i) (fun b => M 54 (12 * a + p + (b - (12 * c + q))))) Q := by
  intro f
  induction f with
  | zero =>
    intro i h0 h3 hf
    exact absurd hf (by omega)
  | succ f ih =>
    intro i h0 h3 hf
    refine jr_iload (n := 135) dX8_copy_133 rfl rfl ?_
    refine jr_iload (n := 137) dX8_copy_135 rfl rfl ?_
    refine jr_icmp_ge (n := 140) (t := 168) dX8_copy_137 (by decide) rfl (by omega) (by omega) (fun b137 => ?_) (fun b137 => ?_)
    · refine jr_iload (n := 170) dX8_copy_168 rfl rfl ?_
      refine jr_i2l (n := 171) dX8_copy_170 rfl (by omega) ?_
      refine jr_lret dX8_copy_171 rfl ?_
      have e : i = n := by omega
      subst e
      exact h
    · refine jr_aload_n (n := 141) dX8_copy_140 rfl rfl ?_
      refine jr_getR (n := 144) dX8_copy_141 rfl fX8_58 rfl (by decide) (by decide) rfl ?_
      refine jr_bipush (n := 146) dX8_copy_144 rfl (by decide) ?_
      refine jr_iload_n (n := 147) dX8_copy_146 rfl rfl ?_
      refine jr_imul (n := 148) dX8_copy_147 rfl ?_
      refine jr_iload (n := 150) dX8_copy_148 rfl rfl ?_
      refine jr_iadd (n := 151) dX8_copy_150 rfl ?_
      refine jr_iload (n := 153) dX8_copy_151 rfl rfl ?_
      refine jr_iadd (n := 154) dX8_copy_153 rfl ?_
      refine jr_aload_n (n := 155) dX8_copy_154 rfl rfl ?_
      refine jr_getR (n := 158) dX8_copy_155 rfl fX8_89 rfl (by decide) (by decide) rfl ?_
      refine jr_iload (n := 160) dX8_copy_158 rfl rfl ?_
      refine jr_iald (n := 161) dX8_copy_160 rfl rfl (by decide) (by omega) (by omega) ?_
      rw [jblk_ne (show (64 : Nat) ≠ 54 by decide), jblk_in (by omega)]
      refine jr_iast (n := 162) dX8_copy_161 rfl rfl (by decide) (by omega) (by omega) ?_
      refine jr_iinc6 (n := 165) dX8_copy_162 rfl (by decide) rfl ?_
      refine jr_goto (t := 133) dX8_copy_165 (by decide) ?_
      rw [jblk_up _ 54 (fun b => M 54 (12 * a + p + (b - (12 * c + q)))) (by omega) (by rw [show 12 * c + q + i - (12 * c + q) = i by omega]), Int.add_assoc]
      exact ih (i + 1) (by omega) (by omega) (by omega)

theorem e_copy_l {G : jG} {d : Nat} {M : jMem} {Q : Option Value → jMem → Prop} {a p c q n : Int} (ha : 0 ≤ a ∧ a < 2) (hc : 0 ≤ c ∧ c < 2) (hp : 0 ≤ p) (hq : 0 ≤ q) (hn : 0 ≤ n) (h1 : p + n ≤ 12) (h2 : q + n ≤ 12) (h : Q (some (.long (jL n))) (jblk (jblk M 64 0 n (fun b => M 54 (12 * a + p + b))) 54 (12 * c + q) (12 * c + q + n) (fun b => M 54 (12 * a + p + (b - (12 * c + q))))))  : ∀ (f : Nat) (i : Int), 0 ≤ i → i ≤ n → n - i < f → jM G mX8_copy (d + 2) 96 [.ref (jad G 8), .int (jI a), .int (jI p), .int (jI c), .int (jI q), .int (jI n), .int (jI i)] [] (jblk M 64 0 i (fun b => M 54 (12 * a + p + b))) Q := by
  intro f
  induction f with
  | zero =>
    intro i h0 h3 hf
    exact absurd hf (by omega)
  | succ f ih =>
    intro i h0 h3 hf
    refine jr_iload (n := 98) dX8_copy_96 rfl rfl ?_
    refine jr_iload (n := 100) dX8_copy_98 rfl rfl ?_
    refine jr_icmp_ge (n := 103) (t := 130) dX8_copy_100 (by decide) rfl (by omega) (by omega) (fun b100 => ?_) (fun b100 => ?_)
    · refine jr_iconst (n := 131) dX8_copy_130 rfl ?_
      refine jr_istore6 (n := 133) dX8_copy_131 rfl (by decide) rfl ?_
      have e : i = n := by omega
      subst e
      have k := e_copy_m (G := G) (d := d) (M := M) ha hc hp hq hn h1 h2 h (i.toNat + 1) 0 (by omega) (by omega) (by omega)
      rw [Int.add_zero, jblk_0] at k
      exact k
    · refine jr_aload_n (n := 104) dX8_copy_103 rfl rfl ?_
      refine jr_getR (n := 107) dX8_copy_104 rfl fX8_89 rfl (by decide) (by decide) rfl ?_
      refine jr_iload (n := 109) dX8_copy_107 rfl rfl ?_
      refine jr_aload_n (n := 110) dX8_copy_109 rfl rfl ?_
      refine jr_getR (n := 113) dX8_copy_110 rfl fX8_58 rfl (by decide) (by decide) rfl ?_
      refine jr_bipush (n := 115) dX8_copy_113 rfl (by decide) ?_
      refine jr_iload_n (n := 116) dX8_copy_115 rfl rfl ?_
      refine jr_imul (n := 117) dX8_copy_116 rfl ?_
      refine jr_iload_n (n := 118) dX8_copy_117 rfl rfl ?_
      refine jr_iadd (n := 119) dX8_copy_118 rfl ?_
      refine jr_iload (n := 121) dX8_copy_119 rfl rfl ?_
      refine jr_iadd (n := 122) dX8_copy_121 rfl ?_
      refine jr_iald (n := 123) dX8_copy_122 rfl rfl (by decide) (by omega) (by omega) ?_
      rw [jblk_ne (show (54 : Nat) ≠ 64 by decide)]
      refine jr_iast (n := 124) dX8_copy_123 rfl rfl (by decide) (by omega) (by omega) ?_
      refine jr_iinc6 (n := 127) dX8_copy_124 rfl (by decide) rfl ?_
      refine jr_goto (t := 96) dX8_copy_127 (by decide) ?_
      rw [jblk_up _ 64 (fun b => M 54 (12 * a + p + b)) (by omega) rfl]
      exact ih (i + 1) (by omega) (by omega) (by omega)

theorem e_copy {G : jG} {d : Nat} {M : jMem} {Q : Option Value → jMem → Prop} (hI : jO M) {a p c q n : Int} (ha : jR a) (hp : jR p) (hc : jR c) (hq : jR q) (hn : jR n) (hB : ¬ ((0 ≤ a ∧ a ≤ 1) ∧ (0 ≤ c ∧ c ≤ 1)) → Q (some (.long (jL (-9000000000000000001)))) M) (hN : 0 ≤ a → a ≤ 1 → 0 ≤ c → c ≤ 1 → M 53 a = -1 ∨ M 53 c = -1 → Q (some (.long (jL (-9000000000000000011)))) M) (hX : 0 ≤ a → a ≤ 1 → 0 ≤ c → c ≤ 1 → M 53 a ≠ -1 → M 53 c ≠ -1 → ¬ (0 ≤ p ∧ 0 ≤ q ∧ 0 ≤ n ∧ p + n ≤ M 53 a ∧ q + n ≤ M 53 c) → Q (some (.long (jL (-9000000000000000013)))) M) (h : 0 ≤ a → a ≤ 1 → 0 ≤ c → c ≤ 1 → 0 ≤ p → 0 ≤ q → 0 ≤ n → p + n ≤ M 53 a → q + n ≤ M 53 c → Q (some (.long (jL n))) (jblk (jblk M 64 0 n (fun b => M 54 (12 * a + p + b))) 54 (12 * c + q) (12 * c + q + n) (fun b => M 54 (12 * a + p + (b - (12 * c + q)))))) : jN G mX8_copy (d + 2) [.ref (jad G 8), .int (jI a), .int (jI p), .int (jI c), .int (jI q), .int (jI n)] M Q := by
  show jM G mX8_copy (d + 2) 0 [.ref (jad G 8), .int (jI a), .int (jI p), .int (jI c), .int (jI q), .int (jI n), .null] [] M Q
  refine jr_iload_n (n := 1) dX8_copy_0 rfl rfl ?_
  refine jr_cS1 (n := 4) (ν := mX8_isSheet) dX8_copy_1 rfl lX8_195 kX8_isSheet iX8_isSheet (Nat.le_of_ble_eq_true rfl) (Nat.le_of_ble_eq_true rfl) rfl ?_
  refine e_isSheet (by omega) (fun b1 b1b => ?_) (fun b1 => ?_)
  · refine jr_ifF_eq (n := 7) (t := 14) dX8_copy_4 rfl (by decide) (by decide) (by decide) ?_
    refine jr_iload_n (n := 8) dX8_copy_7 rfl rfl ?_
    refine jr_cS1 (n := 11) (ν := mX8_isSheet) dX8_copy_8 rfl lX8_195 kX8_isSheet iX8_isSheet (Nat.le_of_ble_eq_true rfl) (Nat.le_of_ble_eq_true rfl) rfl ?_
    refine e_isSheet (by omega) (fun b8 b8b => ?_) (fun b8 => ?_)
    · refine jr_ifT_ne (t := 18) dX8_copy_11 (by decide) (by decide) (by decide) ?_
      have hr := jn14 hI a (by omega) (by omega)
      have hr2 := jn14 hI c (by omega) (by omega)
      refine jr_aload_n (n := 19) dX8_copy_18 rfl rfl ?_
      refine jr_getR (n := 22) dX8_copy_19 rfl fX8_55 rfl (by decide) (by decide) rfl ?_
      refine jr_iload_n (n := 23) dX8_copy_22 rfl rfl ?_
      refine jr_iald (n := 24) dX8_copy_23 rfl rfl (by decide) (by omega) (by omega) ?_
      refine jr_if_lt (n := 27) (t := 36) dX8_copy_24 (by decide) rfl (by omega) (fun b24 => ?_) (fun b24 => ?_)
      · refine jr_ldc2 (n := 39) dX8_copy_36 rfl rfl qX8_200 vX8_200 ?_
        refine jr_lret dX8_copy_39 rfl ?_
        first | exact hB (by omega) | exact hN (by omega) (by omega) (by omega) (by omega) (by omega) | exact hX (by omega) (by omega) (by omega) (by omega) (by omega) (by omega) (by omega) | exact h (by omega) (by omega) (by omega) (by omega) (by omega) (by omega) (by omega) (by omega) (by omega)
      · refine jr_aload_n (n := 28) dX8_copy_27 rfl rfl ?_
        refine jr_getR (n := 31) dX8_copy_28 rfl fX8_55 rfl (by decide) (by decide) rfl ?_
        refine jr_iload_n (n := 32) dX8_copy_31 rfl rfl ?_
        refine jr_iald (n := 33) dX8_copy_32 rfl rfl (by decide) (by omega) (by omega) ?_
        refine jr_if_ge (n := 36) (t := 40) dX8_copy_33 (by decide) rfl (by omega) (fun b33 => ?_) (fun b33 => ?_)
        · refine jr_iload_n (n := 41) dX8_copy_40 rfl rfl ?_
          refine jr_if_lt (n := 44) (t := 89) dX8_copy_41 (by decide) rfl (by omega) (fun b41 => ?_) (fun b41 => ?_)
          · refine jr_ldc2 (n := 92) dX8_copy_89 rfl rfl qX8_202 vX8_202 ?_
            refine jr_lret dX8_copy_92 rfl ?_
            first | exact hB (by omega) | exact hN (by omega) (by omega) (by omega) (by omega) (by omega) | exact hX (by omega) (by omega) (by omega) (by omega) (by omega) (by omega) (by omega) | exact h (by omega) (by omega) (by omega) (by omega) (by omega) (by omega) (by omega) (by omega) (by omega)
          · refine jr_iload (n := 46) dX8_copy_44 rfl rfl ?_
            refine jr_if_lt (n := 49) (t := 89) dX8_copy_46 (by decide) rfl (by omega) (fun b46 => ?_) (fun b46 => ?_)
            · refine jr_ldc2 (n := 92) dX8_copy_89 rfl rfl qX8_202 vX8_202 ?_
              refine jr_lret dX8_copy_92 rfl ?_
              first | exact hB (by omega) | exact hN (by omega) (by omega) (by omega) (by omega) (by omega) | exact hX (by omega) (by omega) (by omega) (by omega) (by omega) (by omega) (by omega) | exact h (by omega) (by omega) (by omega) (by omega) (by omega) (by omega) (by omega) (by omega) (by omega)
            · refine jr_iload (n := 51) dX8_copy_49 rfl rfl ?_
              refine jr_if_lt (n := 54) (t := 89) dX8_copy_51 (by decide) rfl (by omega) (fun b51 => ?_) (fun b51 => ?_)
              · refine jr_ldc2 (n := 92) dX8_copy_89 rfl rfl qX8_202 vX8_202 ?_
                refine jr_lret dX8_copy_92 rfl ?_
                first | exact hB (by omega) | exact hN (by omega) (by omega) (by omega) (by omega) (by omega) | exact hX (by omega) (by omega) (by omega) (by omega) (by omega) (by omega) (by omega) | exact h (by omega) (by omega) (by omega) (by omega) (by omega) (by omega) (by omega) (by omega) (by omega)
              · refine jr_iload_n (n := 55) dX8_copy_54 rfl rfl ?_
                refine jr_i2l (n := 56) dX8_copy_55 rfl (by omega) ?_
                refine jr_iload (n := 58) dX8_copy_56 rfl rfl ?_
                refine jr_i2l (n := 59) dX8_copy_58 rfl (by omega) ?_
                refine jr_ladd (n := 60) dX8_copy_59 rfl ?_
                refine jr_aload_n (n := 61) dX8_copy_60 rfl rfl ?_
                refine jr_getR (n := 64) dX8_copy_61 rfl fX8_55 rfl (by decide) (by decide) rfl ?_
                refine jr_iload_n (n := 65) dX8_copy_64 rfl rfl ?_
                refine jr_iald (n := 66) dX8_copy_65 rfl rfl (by decide) (by omega) (by omega) ?_
                refine jr_i2l (n := 67) dX8_copy_66 rfl (by omega) ?_
                refine jr_lcmp (n := 68) dX8_copy_67 rfl ?_
                have hj1 := jlc_gt (x := p + n) (z := M 53 a) (by omega) (by omega)
                refine jr_if_gt (n := 71) (t := 89) dX8_copy_68 (by decide) rfl (jlc_R _ _) (fun b68 => ?_) (fun b68 => ?_)
                · refine jr_ldc2 (n := 92) dX8_copy_89 rfl rfl qX8_202 vX8_202 ?_
                  refine jr_lret dX8_copy_92 rfl ?_
                  first | exact hB (by omega) | exact hN (by omega) (by omega) (by omega) (by omega) (by omega) | exact hX (by omega) (by omega) (by omega) (by omega) (by omega) (by omega) (by omega) | exact h (by omega) (by omega) (by omega) (by omega) (by omega) (by omega) (by omega) (by omega) (by omega)
                · refine jr_iload (n := 73) dX8_copy_71 rfl rfl ?_
                  refine jr_i2l (n := 74) dX8_copy_73 rfl (by omega) ?_
                  refine jr_iload (n := 76) dX8_copy_74 rfl rfl ?_
                  refine jr_i2l (n := 77) dX8_copy_76 rfl (by omega) ?_
                  refine jr_ladd (n := 78) dX8_copy_77 rfl ?_
                  refine jr_aload_n (n := 79) dX8_copy_78 rfl rfl ?_
                  refine jr_getR (n := 82) dX8_copy_79 rfl fX8_55 rfl (by decide) (by decide) rfl ?_
                  refine jr_iload_n (n := 83) dX8_copy_82 rfl rfl ?_
                  refine jr_iald (n := 84) dX8_copy_83 rfl rfl (by decide) (by omega) (by omega) ?_
                  refine jr_i2l (n := 85) dX8_copy_84 rfl (by omega) ?_
                  refine jr_lcmp (n := 86) dX8_copy_85 rfl ?_
                  have hj2 := jlc_gt (x := q + n) (z := M 53 c) (by omega) (by omega)
                  refine jr_if_le (n := 89) (t := 93) dX8_copy_86 (by decide) rfl (jlc_R _ _) (fun b86 => ?_) (fun b86 => ?_)
                  · refine jr_iconst (n := 94) dX8_copy_93 rfl ?_
                    refine jr_istore6 (n := 96) dX8_copy_94 rfl (by decide) rfl ?_
                    have k := e_copy_l (G := G) (M := M) (d := d) (Q := Q) (a := a) (p := p) (c := c) (q := q) (n := n) (by omega) (by omega) (by omega) (by omega) (by omega) (by omega) (by omega) (h (by omega) (by omega) (by omega) (by omega) (by omega) (by omega) (by omega) (by omega) (by omega)) (n.toNat + 1) 0 (by omega) (by omega) (by omega)
                    rw [jblk_0] at k
                    exact k
                  · refine jr_ldc2 (n := 92) dX8_copy_89 rfl rfl qX8_202 vX8_202 ?_
                    refine jr_lret dX8_copy_92 rfl ?_
                    first | exact hB (by omega) | exact hN (by omega) (by omega) (by omega) (by omega) (by omega) | exact hX (by omega) (by omega) (by omega) (by omega) (by omega) (by omega) (by omega) | exact h (by omega) (by omega) (by omega) (by omega) (by omega) (by omega) (by omega) (by omega) (by omega)
        · refine jr_ldc2 (n := 39) dX8_copy_36 rfl rfl qX8_200 vX8_200 ?_
          refine jr_lret dX8_copy_39 rfl ?_
          first | exact hB (by omega) | exact hN (by omega) (by omega) (by omega) (by omega) (by omega) | exact hX (by omega) (by omega) (by omega) (by omega) (by omega) (by omega) (by omega) | exact h (by omega) (by omega) (by omega) (by omega) (by omega) (by omega) (by omega) (by omega) (by omega)
    · refine jr_ifF_ne (n := 14) (t := 18) dX8_copy_11 rfl (by decide) (by decide) (by decide) ?_
      refine jr_ldc2 (n := 17) dX8_copy_14 rfl rfl qX8_107 vX8_107 ?_
      refine jr_lret dX8_copy_17 rfl ?_
      first | exact hB (by omega) | exact hN (by omega) (by omega) (by omega) (by omega) (by omega) | exact hX (by omega) (by omega) (by omega) (by omega) (by omega) (by omega) (by omega) | exact h (by omega) (by omega) (by omega) (by omega) (by omega) (by omega) (by omega) (by omega) (by omega)
  · refine jr_ifT_eq (t := 14) dX8_copy_4 (by decide) (by decide) (by decide) ?_
    refine jr_ldc2 (n := 17) dX8_copy_14 rfl rfl qX8_107 vX8_107 ?_
    refine jr_lret dX8_copy_17 rfl ?_
    first | exact hB (by omega) | exact hN (by omega) (by omega) (by omega) (by omega) (by omega) | exact hX (by omega) (by omega) (by omega) (by omega) (by omega) (by omega) (by omega) | exact h (by omega) (by omega) (by omega) (by omega) (by omega) (by omega) (by omega) (by omega) (by omega)

theorem c_take_m {G : jG} {d : Nat} {M : jMem} {Q : Option Value → jMem → Prop} (hI : jK M) {s n : Int} (hs : 0 ≤ s ∧ s < 2) (hn : 0 ≤ n ∧ n ≤ 12) (h : Q (some (.long (jL n))) (jblk M 12 0 n (fun i => M 36 (s * 12 + i))))  : ∀ (f : Nat) (i : Int), 0 ≤ i → i ≤ n → n - i < f → jM G mX7_take (d + 2) 83 [.ref (jad G 0), .int (jI s), .int (jI n), .int (jI i)] [] (jblk M 12 0 i (fun i => M 36 (s * 12 + i))) Q := by
  intro f
  induction f with
  | zero =>
    intro i h0 h1 hf
    exact absurd hf (by omega)
  | succ f ih =>
    intro i h0 h1 hf
    refine jr_iload_n (n := 84) dX7_take_83 rfl rfl ?_
    refine jr_iload_n (n := 85) dX7_take_84 rfl rfl ?_
    refine jr_icmp_ge (n := 88) (t := 112) dX7_take_85 (by decide) rfl (by omega) (by omega) (fun b85 => ?_) (fun b85 => ?_)
    · refine jr_iload_n (n := 113) dX7_take_112 rfl rfl ?_
      refine jr_i2l (n := 114) dX7_take_113 rfl (by omega) ?_
      refine jr_lret dX7_take_114 rfl ?_
      have e : i = n := by omega
      subst e
      exact h
    · refine jr_aload_n (n := 89) dX7_take_88 rfl rfl ?_
      refine jr_getR (n := 92) dX7_take_89 rfl fX7_10 rfl (by decide) (by decide) rfl ?_
      refine jr_getR (n := 95) dX7_take_92 rfl fX7_114 rfl (by decide) (by decide) rfl ?_
      refine jr_iload_n (n := 96) dX7_take_95 rfl rfl ?_
      refine jr_aload_n (n := 97) dX7_take_96 rfl rfl ?_
      refine jr_getR (n := 100) dX7_take_97 rfl fX7_54 rfl (by decide) (by decide) rfl ?_
      refine jr_iload_n (n := 101) dX7_take_100 rfl rfl ?_
      refine jr_iload_n (n := 102) dX7_take_101 rfl rfl ?_
      refine jr_cV2 (n := 105) (ci := 6) (ν := mX6_valueAt) dX7_take_102 rfl lX7_260 kX6_valueAt iX6_valueAt rfl ⟨_, rfl, rfl⟩ (by decide) (Nat.le_of_ble_eq_true rfl) (Nat.le_of_ble_eq_true rfl) rfl ?_
      refine c_valueAt (by omega) (by omega) ?_
      rw [jblk_ne (show (36 : Nat) ≠ 12 by decide)]
      refine jr_iast (n := 106) dX7_take_105 rfl rfl (by decide) (by omega) (by omega) ?_
      refine jr_iinc3 (n := 109) dX7_take_106 rfl (by decide) rfl ?_
      refine jr_goto (t := 83) dX7_take_109 (by decide) ?_
      rw [jblk_up _ 12 (fun i => M 36 (s * 12 + i)) (by omega) rfl]
      exact ih (i + 1) (by omega) (by omega) (by omega)

theorem c_take_l {G : jG} {d : Nat} {M : jMem} {Q : Option Value → jMem → Prop} (hI : jK M) {s n : Int} (hs : 0 ≤ s ∧ s < 2) (hn : 0 ≤ n ∧ n ≤ 12) (hX : (∃ i, 0 ≤ i ∧ i < n ∧ ¬ (0 ≤ M 36 (s * 12 + i) ∧ M 36 (s * 12 + i) ≤ 100)) → Q (some (.long (jL (-9000000000000000002)))) M) (h : (∀ i, 0 ≤ i → i < n → 0 ≤ M 36 (s * 12 + i) ∧ M 36 (s * 12 + i) ≤ 100) → Q (some (.long (jL n))) (jblk M 12 0 n (fun i => M 36 (s * 12 + i))))  : ∀ (f : Nat) (i : Int), 0 ≤ i → i ≤ n → (∀ j, 0 ≤ j → j < i → 0 ≤ M 36 (s * 12 + j) ∧ M 36 (s * 12 + j) ≤ 100) → n - i < f → jM G mX7_take (d + 2) 48 [.ref (jad G 0), .int (jI s), .int (jI n), .int (jI i)] [] (M) Q := by
  intro f
  induction f with
  | zero =>
    intro i h0 h1 ha hf
    exact absurd hf (by omega)
  | succ f ih =>
    intro i h0 h1 ha hf
    have hb := jn15 hI (s * 12 + i)
    refine jr_iload_n (n := 49) dX7_take_48 rfl rfl ?_
    refine jr_iload_n (n := 50) dX7_take_49 rfl rfl ?_
    refine jr_icmp_ge (n := 53) (t := 81) dX7_take_50 (by decide) rfl (by omega) (by omega) (fun b50 => ?_) (fun b50 => ?_)
    · refine jr_iconst (n := 82) dX7_take_81 rfl ?_
      refine jr_istore3 (n := 83) dX7_take_82 rfl (by decide) rfl ?_
      have e : i = n := by omega
      subst e
      have k := c_take_m (G := G) (d := d) (M := M) hI hs hn (h (fun j j0 j1 => ha j j0 j1)) (i.toNat + 1) 0 (by omega) (by omega) (by omega)
      rw [jblk_0] at k
      exact k
    · refine jr_aload_n (n := 54) dX7_take_53 rfl rfl ?_
      refine jr_getR (n := 57) dX7_take_54 rfl fX7_54 rfl (by decide) (by decide) rfl ?_
      refine jr_iload_n (n := 58) dX7_take_57 rfl rfl ?_
      refine jr_iload_n (n := 59) dX7_take_58 rfl rfl ?_
      refine jr_cV2 (n := 62) (ci := 6) (ν := mX6_valueAt) dX7_take_59 rfl lX7_260 kX6_valueAt iX6_valueAt rfl ⟨_, rfl, rfl⟩ (by decide) (Nat.le_of_ble_eq_true rfl) (Nat.le_of_ble_eq_true rfl) rfl ?_
      refine c_valueAt (by omega) (by omega) ?_
      refine jr_iconst (n := 63) dX7_take_62 rfl ?_
      refine jr_bipush (n := 65) dX7_take_63 rfl (by decide) ?_
      refine jr_cS3 (n := 68) (ν := mX7_isWithin) dX7_take_65 rfl lX7_66 kX7_isWithin iX7_isWithin (Nat.le_of_ble_eq_true rfl) (Nat.le_of_ble_eq_true rfl) rfl ?_
      refine c_isWithin (by omega) (by omega) (by omega) (fun b65 b65b => ?_) (fun b65 => ?_)
      · refine jr_ifT_ne (t := 75) dX7_take_68 (by decide) (by decide) (by decide) ?_
        refine jr_iinc3 (n := 78) dX7_take_75 rfl (by decide) rfl ?_
        refine jr_goto (t := 48) dX7_take_78 (by decide) ?_
        exact ih (i + 1) (by omega) (by omega) (fun j j0 j1 => by
          by_cases e : j = i
          · subst e; omega
          · exact ha j j0 (by omega)) (by omega)
      · refine jr_ifF_ne (n := 71) (t := 75) dX7_take_68 rfl (by decide) (by decide) (by decide) ?_
        refine jr_ldc2 (n := 74) dX7_take_71 rfl rfl qX7_166 vX7_166 ?_
        refine jr_lret dX7_take_74 rfl ?_
        exact hX ⟨i, h0, by omega, by omega⟩

theorem c_take {G : jG} {d : Nat} {M : jMem} {Q : Option Value → jMem → Prop} (hI : jK M) {s : Int} (hs : jR s) (hB : ¬ (0 ≤ s ∧ s ≤ 1) → Q (some (.long (jL (-9000000000000000001)))) M) (hN : 0 ≤ s → s ≤ 1 → M 37 s = -1 → Q (some (.long (jL (-9000000000000000011)))) M) (hX : 0 ≤ s → s ≤ 1 → M 37 s ≠ -1 → (∃ i, 0 ≤ i ∧ i < min (M 37 s) (M 1 8) ∧ ¬ (0 ≤ M 36 (s * 12 + i) ∧ M 36 (s * 12 + i) ≤ 100)) → Q (some (.long (jL (-9000000000000000002)))) M) (h : 0 ≤ s → s ≤ 1 → M 37 s ≠ -1 → (∀ i, 0 ≤ i → i < min (M 37 s) (M 1 8) → 0 ≤ M 36 (s * 12 + i) ∧ M 36 (s * 12 + i) ≤ 100) → Q (some (.long (jL (min (M 37 s) (M 1 8))))) (jblk M 12 0 (min (M 37 s) (M 1 8)) (fun i => M 36 (s * 12 + i)))) : jN G mX7_take (d + 2) [.ref (jad G 0), .int (jI s)] M Q := by
  show jM G mX7_take (d + 2) 0 [.ref (jad G 0), .int (jI s), .null, .null] [] M Q
  have hz := jn1 hI
  refine jr_iload_n (n := 1) dX7_take_0 rfl rfl ?_
  refine jr_cS1 (n := 4) (ν := mX7_isSheet) dX7_take_1 rfl lX7_242 kX7_isSheet iX7_isSheet (Nat.le_of_ble_eq_true rfl) (Nat.le_of_ble_eq_true rfl) rfl ?_
  refine c_isSheet (by omega) (fun b1 b1b => ?_) (fun b1 => ?_)
  · refine jr_ifT_ne (t := 11) dX7_take_4 (by decide) (by decide) (by decide) ?_
    have hr := jn14 hI s (by omega) (by omega)
    refine jr_aload_n (n := 12) dX7_take_11 rfl rfl ?_
    refine jr_getR (n := 15) dX7_take_12 rfl fX7_54 rfl (by decide) (by decide) rfl ?_
    refine jr_iload_n (n := 16) dX7_take_15 rfl rfl ?_
    refine jr_cV1 (n := 19) (ci := 6) (ν := mX6_isMissing) dX7_take_16 rfl lX7_250 kX6_isMissing iX6_isMissing rfl ⟨_, rfl, rfl⟩ (by decide) (Nat.le_of_ble_eq_true rfl) (Nat.le_of_ble_eq_true rfl) rfl ?_
    refine c_isMissing (by omega) (by omega) (fun b16 => ?_) (fun b16 => ?_)
    · refine jr_ifF_eq (n := 22) (t := 26) dX7_take_19 rfl (by decide) (by decide) (by decide) ?_
      refine jr_ldc2 (n := 25) dX7_take_22 rfl rfl qX7_253 vX7_253 ?_
      refine jr_lret dX7_take_25 rfl ?_
      first | exact hB (by omega) | exact hN (by omega) (by omega) (by omega)
    · refine jr_ifT_eq (t := 26) dX7_take_19 (by decide) (by decide) (by decide) ?_
      refine jr_aload_n (n := 27) dX7_take_26 rfl rfl ?_
      refine jr_getR (n := 30) dX7_take_27 rfl fX7_54 rfl (by decide) (by decide) rfl ?_
      refine jr_getR (n := 33) dX7_take_30 rfl fX7_271 rfl (by decide) (by decide) rfl ?_
      refine jr_iload_n (n := 34) dX7_take_33 rfl rfl ?_
      refine jr_iald (n := 35) dX7_take_34 rfl rfl (by decide) (by omega) (by omega) ?_
      refine jr_aload_n (n := 36) dX7_take_35 rfl rfl ?_
      refine jr_getR (n := 39) dX7_take_36 rfl fX7_10 rfl (by decide) (by decide) rfl ?_
      refine jr_getI (n := 42) (i := 8) rfl dX7_take_39 rfl fX7_72 rfl (by decide) (by decide) rfl ?_
      refine jr_min (n := 45) dX7_take_42 rfl lX7_274 (by omega) (by omega) (Nat.le_of_ble_eq_true rfl) ⟨Nat.le_add_left _ _, Nat.le_add_left _ _⟩ ⟨Nat.le_refl _, Nat.le_refl _⟩ ?_
      refine jr_istore2 (n := 46) dX7_take_45 rfl (by decide) rfl ?_
      refine jr_iconst (n := 47) dX7_take_46 rfl ?_
      refine jr_istore3 (n := 48) dX7_take_47 rfl (by decide) rfl ?_
      exact c_take_l hI (by omega) (by omega) (hX (by omega) (by omega) (by omega)) (h (by omega) (by omega) (by omega)) ((min (M 37 s) (M 1 8)).toNat + 1) 0 (by omega) (by omega) (fun j j0 j1 => absurd j1 (by omega)) (by omega)
  · refine jr_ifF_ne (n := 7) (t := 11) dX7_take_4 rfl (by decide) (by decide) (by decide) ?_
    refine jr_ldc2 (n := 10) dX7_take_7 rfl rfl qX7_70 vX7_70 ?_
    refine jr_lret dX7_take_10 rfl ?_
    first | exact hB (by omega) | exact hN (by omega) (by omega) (by omega)

theorem e_take_m {G : jG} {d : Nat} {M : jMem} {Q : Option Value → jMem → Prop} (hI : jO M) {s n : Int} (hs : 0 ≤ s ∧ s < 2) (hn : 0 ≤ n ∧ n ≤ 12) (h : Q (some (.long (jL n))) (jblk M 42 0 n (fun i => M 54 (12 * s + i))))  : ∀ (f : Nat) (i : Int), 0 ≤ i → i ≤ n → n - i < f → jM G mX8_take (d + 2) 90 [.ref (jad G 8), .int (jI s), .int (jI n), .int (jI i)] [] (jblk M 42 0 i (fun i => M 54 (12 * s + i))) Q := by
  intro f
  induction f with
  | zero =>
    intro i h0 h1 hf
    exact absurd hf (by omega)
  | succ f ih =>
    intro i h0 h1 hf
    refine jr_iload_n (n := 91) dX8_take_90 rfl rfl ?_
    refine jr_iload_n (n := 92) dX8_take_91 rfl rfl ?_
    refine jr_icmp_ge (n := 95) (t := 118) dX8_take_92 (by decide) rfl (by omega) (by omega) (fun b92 => ?_) (fun b92 => ?_)
    · refine jr_iload_n (n := 119) dX8_take_118 rfl rfl ?_
      refine jr_i2l (n := 120) dX8_take_119 rfl (by omega) ?_
      refine jr_lret dX8_take_120 rfl ?_
      have e : i = n := by omega
      subst e
      exact h
    · refine jr_aload_n (n := 96) dX8_take_95 rfl rfl ?_
      refine jr_getR (n := 99) dX8_take_96 rfl fX8_22 rfl (by decide) (by decide) rfl ?_
      refine jr_iload_n (n := 100) dX8_take_99 rfl rfl ?_
      refine jr_aload_n (n := 101) dX8_take_100 rfl rfl ?_
      refine jr_getR (n := 104) dX8_take_101 rfl fX8_58 rfl (by decide) (by decide) rfl ?_
      refine jr_bipush (n := 106) dX8_take_104 rfl (by decide) ?_
      refine jr_iload_n (n := 107) dX8_take_106 rfl rfl ?_
      refine jr_imul (n := 108) dX8_take_107 rfl ?_
      refine jr_iload_n (n := 109) dX8_take_108 rfl rfl ?_
      refine jr_iadd (n := 110) dX8_take_109 rfl ?_
      refine jr_iald (n := 111) dX8_take_110 rfl rfl (by decide) (by omega) (by omega) ?_
      rw [jblk_ne (show (54 : Nat) ≠ 42 by decide)]
      refine jr_iast (n := 112) dX8_take_111 rfl rfl (by decide) (by omega) (by omega) ?_
      refine jr_iinc3 (n := 115) dX8_take_112 rfl (by decide) rfl ?_
      refine jr_goto (t := 90) dX8_take_115 (by decide) ?_
      rw [jblk_up _ 42 (fun i => M 54 (12 * s + i)) (by omega) rfl]
      exact ih (i + 1) (by omega) (by omega) (by omega)

theorem e_take_l {G : jG} {d : Nat} {M : jMem} {Q : Option Value → jMem → Prop} (hI : jO M) {s n : Int} (hs : 0 ≤ s ∧ s < 2) (hn : 0 ≤ n ∧ n ≤ 12) (hX : (∃ i, 0 ≤ i ∧ i < n ∧ ¬ (0 ≤ M 54 (12 * s + i) ∧ M 54 (12 * s + i) ≤ 100)) → Q (some (.long (jL (-9000000000000000002)))) M) (h : (∀ i, 0 ≤ i → i < n → 0 ≤ M 54 (12 * s + i) ∧ M 54 (12 * s + i) ≤ 100) → Q (some (.long (jL n))) (jblk M 42 0 n (fun i => M 54 (12 * s + i))))  : ∀ (f : Nat) (i : Int), 0 ≤ i → i ≤ n → (∀ j, 0 ≤ j → j < i → 0 ≤ M 54 (12 * s + j) ∧ M 54 (12 * s + j) ≤ 100) → n - i < f → jM G mX8_take (d + 2) 53 [.ref (jad G 8), .int (jI s), .int (jI n), .int (jI i)] [] (M) Q := by
  intro f
  induction f with
  | zero =>
    intro i h0 h1 ha hf
    exact absurd hf (by omega)
  | succ f ih =>
    intro i h0 h1 ha hf
    have hb := jn15 hI (12 * s + i)
    refine jr_iload_n (n := 54) dX8_take_53 rfl rfl ?_
    refine jr_iload_n (n := 55) dX8_take_54 rfl rfl ?_
    refine jr_icmp_ge (n := 58) (t := 88) dX8_take_55 (by decide) rfl (by omega) (by omega) (fun b55 => ?_) (fun b55 => ?_)
    · refine jr_iconst (n := 89) dX8_take_88 rfl ?_
      refine jr_istore3 (n := 90) dX8_take_89 rfl (by decide) rfl ?_
      have e : i = n := by omega
      subst e
      have k := e_take_m (G := G) (d := d) (M := M) hI hs hn (h (fun j j0 j1 => ha j j0 j1)) (i.toNat + 1) 0 (by omega) (by omega) (by omega)
      rw [jblk_0] at k
      exact k
    · refine jr_aload_n (n := 59) dX8_take_58 rfl rfl ?_
      refine jr_getR (n := 62) dX8_take_59 rfl fX8_58 rfl (by decide) (by decide) rfl ?_
      refine jr_bipush (n := 64) dX8_take_62 rfl (by decide) ?_
      refine jr_iload_n (n := 65) dX8_take_64 rfl rfl ?_
      refine jr_imul (n := 66) dX8_take_65 rfl ?_
      refine jr_iload_n (n := 67) dX8_take_66 rfl rfl ?_
      refine jr_iadd (n := 68) dX8_take_67 rfl ?_
      refine jr_iald (n := 69) dX8_take_68 rfl rfl (by decide) (by omega) (by omega) ?_
      refine jr_iconst (n := 70) dX8_take_69 rfl ?_
      refine jr_bipush (n := 72) dX8_take_70 rfl (by decide) ?_
      refine jr_cS3 (n := 75) (ν := mX8_isIn) dX8_take_72 rfl lX8_92 kX8_isIn iX8_isIn (Nat.le_of_ble_eq_true rfl) (Nat.le_of_ble_eq_true rfl) rfl ?_
      refine e_isIn (by omega) (by omega) (by omega) (fun b72 b72b => ?_) (fun b72 => ?_)
      · refine jr_ifT_ne (t := 82) dX8_take_75 (by decide) (by decide) (by decide) ?_
        refine jr_iinc3 (n := 85) dX8_take_82 rfl (by decide) rfl ?_
        refine jr_goto (t := 53) dX8_take_85 (by decide) ?_
        exact ih (i + 1) (by omega) (by omega) (fun j j0 j1 => by
          by_cases e : j = i
          · subst e; omega
          · exact ha j j0 (by omega)) (by omega)
      · refine jr_ifF_ne (n := 78) (t := 82) dX8_take_75 rfl (by decide) (by decide) (by decide) ?_
        refine jr_ldc2 (n := 81) dX8_take_78 rfl rfl qX8_145 vX8_145 ?_
        refine jr_lret dX8_take_81 rfl ?_
        exact hX ⟨i, h0, by omega, by omega⟩

theorem e_take {G : jG} {d : Nat} {M : jMem} {Q : Option Value → jMem → Prop} (hI : jO M) {s : Int} (hs : jR s) (hB : ¬ (0 ≤ s ∧ s ≤ 1) → Q (some (.long (jL (-9000000000000000001)))) M) (hN : 0 ≤ s → s ≤ 1 → M 53 s = -1 → Q (some (.long (jL (-9000000000000000011)))) M) (hX : 0 ≤ s → s ≤ 1 → M 53 s ≠ -1 → (∃ i, 0 ≤ i ∧ i < min (M 53 s) (M 8 2) ∧ ¬ (0 ≤ M 54 (12 * s + i) ∧ M 54 (12 * s + i) ≤ 100)) → Q (some (.long (jL (-9000000000000000002)))) M) (h : 0 ≤ s → s ≤ 1 → M 53 s ≠ -1 → (∀ i, 0 ≤ i → i < min (M 53 s) (M 8 2) → 0 ≤ M 54 (12 * s + i) ∧ M 54 (12 * s + i) ≤ 100) → Q (some (.long (jL (min (M 53 s) (M 8 2))))) (jblk M 42 0 (min (M 53 s) (M 8 2)) (fun i => M 54 (12 * s + i)))) : jN G mX8_take (d + 2) [.ref (jad G 8), .int (jI s)] M Q := by
  show jM G mX8_take (d + 2) 0 [.ref (jad G 8), .int (jI s), .null, .null] [] M Q
  have hz := jn1 hI
  refine jr_iload_n (n := 1) dX8_take_0 rfl rfl ?_
  refine jr_cS1 (n := 4) (ν := mX8_isSheet) dX8_take_1 rfl lX8_195 kX8_isSheet iX8_isSheet (Nat.le_of_ble_eq_true rfl) (Nat.le_of_ble_eq_true rfl) rfl ?_
  refine e_isSheet (by omega) (fun b1 b1b => ?_) (fun b1 => ?_)
  · refine jr_ifT_ne (t := 11) dX8_take_4 (by decide) (by decide) (by decide) ?_
    have hr := jn14 hI s (by omega) (by omega)
    refine jr_aload_n (n := 12) dX8_take_11 rfl rfl ?_
    refine jr_getR (n := 15) dX8_take_12 rfl fX8_55 rfl (by decide) (by decide) rfl ?_
    refine jr_iload_n (n := 16) dX8_take_15 rfl rfl ?_
    refine jr_iald (n := 17) dX8_take_16 rfl rfl (by decide) (by omega) (by omega) ?_
    refine jr_if_ge (n := 20) (t := 24) dX8_take_17 (by decide) rfl (by omega) (fun b17 => ?_) (fun b17 => ?_)
    · refine jr_aload_n (n := 25) dX8_take_24 rfl rfl ?_
      refine jr_getR (n := 28) dX8_take_25 rfl fX8_55 rfl (by decide) (by decide) rfl ?_
      refine jr_iload_n (n := 29) dX8_take_28 rfl rfl ?_
      refine jr_iald (n := 30) dX8_take_29 rfl rfl (by decide) (by omega) (by omega) ?_
      refine jr_aload_n (n := 31) dX8_take_30 rfl rfl ?_
      refine jr_getI (n := 34) (i := 2) rfl dX8_take_31 rfl fX8_96 rfl (by decide) (by decide) rfl ?_
      refine jr_icmp_ge (n := 37) (t := 46) dX8_take_34 (by decide) rfl (by omega) (by omega) (fun b34 => ?_) (fun b34 => ?_)
      · refine jr_aload_n (n := 47) dX8_take_46 rfl rfl ?_
        refine jr_getI (n := 50) (i := 2) rfl dX8_take_47 rfl fX8_96 rfl (by decide) (by decide) rfl ?_
        refine jr_istore2 (n := 51) dX8_take_50 rfl (by decide) rfl ?_
        refine jr_iconst (n := 52) dX8_take_51 rfl ?_
        refine jr_istore3 (n := 53) dX8_take_52 rfl (by decide) rfl ?_
        have hX2 := hX (by omega) (by omega) (by omega)
        have h2 := h (by omega) (by omega) (by omega)
        first
          | (rw [show min (M 53 s) (M 8 2) = M 53 s by omega] at hX2 h2; exact e_take_l hI (by omega) (by omega) hX2 h2 ((M 53 s).toNat + 1) 0 (by omega) (by omega) (fun j j0 j1 => absurd j1 (by omega)) (by omega))
          | (rw [show min (M 53 s) (M 8 2) = M 8 2 by omega] at hX2 h2; exact e_take_l hI (by omega) (by omega) hX2 h2 ((M 8 2).toNat + 1) 0 (by omega) (by omega) (fun j j0 j1 => absurd j1 (by omega)) (by omega))
      · refine jr_aload_n (n := 38) dX8_take_37 rfl rfl ?_
        refine jr_getR (n := 41) dX8_take_38 rfl fX8_55 rfl (by decide) (by decide) rfl ?_
        refine jr_iload_n (n := 42) dX8_take_41 rfl rfl ?_
        refine jr_iald (n := 43) dX8_take_42 rfl rfl (by decide) (by omega) (by omega) ?_
        refine jr_goto (t := 50) dX8_take_43 (by decide) ?_
        refine jr_istore2 (n := 51) dX8_take_50 rfl (by decide) rfl ?_
        refine jr_iconst (n := 52) dX8_take_51 rfl ?_
        refine jr_istore3 (n := 53) dX8_take_52 rfl (by decide) rfl ?_
        have hX2 := hX (by omega) (by omega) (by omega)
        have h2 := h (by omega) (by omega) (by omega)
        first
          | (rw [show min (M 53 s) (M 8 2) = M 53 s by omega] at hX2 h2; exact e_take_l hI (by omega) (by omega) hX2 h2 ((M 53 s).toNat + 1) 0 (by omega) (by omega) (fun j j0 j1 => absurd j1 (by omega)) (by omega))
          | (rw [show min (M 53 s) (M 8 2) = M 8 2 by omega] at hX2 h2; exact e_take_l hI (by omega) (by omega) hX2 h2 ((M 8 2).toNat + 1) 0 (by omega) (by omega) (fun j j0 j1 => absurd j1 (by omega)) (by omega))
    · refine jr_ldc2 (n := 23) dX8_take_20 rfl rfl qX8_200 vX8_200 ?_
      refine jr_lret dX8_take_23 rfl ?_
      first | exact hB (by omega) | exact hN (by omega) (by omega) (by omega)
  · refine jr_ifF_ne (n := 7) (t := 11) dX8_take_4 rfl (by decide) (by decide) (by decide) ?_
    refine jr_ldc2 (n := 10) dX8_take_7 rfl rfl qX8_107 vX8_107 ?_
    refine jr_lret dX8_take_10 rfl ?_
    first | exact hB (by omega) | exact hN (by omega) (by omega) (by omega)

