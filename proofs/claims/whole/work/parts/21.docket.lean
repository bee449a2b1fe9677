/-- the place of case k in its court's list, the first one -/
def jpl (M : jMem) (k p : Int) : Prop := 0 ≤ p ∧ p < M 17 (M 10 k) ∧ M 16 (6 * M 10 k + p) = k ∧ ∀ q, 0 ≤ q → q < p → M 16 (6 * M 10 k + q) ≠ k
/-- a block of a cell, from lo to hi, holds f -/
def jblk (M : jMem) (k : Nat) (lo hi : Int) (f : Int → Int) : jMem := fun a b => if a = k ∧ lo ≤ b ∧ b < hi then f b else M a b
theorem jblk_0 (M : jMem) (k : Nat) (lo : Int) (f : Int → Int) : jblk M k lo lo f = M := by
  funext a b
  unfold jblk
  rw [if_neg (by omega)]
theorem jblk_up (M : jMem) (k : Nat) {lo hi x : Int} (f : Int → Int) (h : lo ≤ hi) (hx : x = f hi) : jup (jblk M k lo hi f) k hi x = jblk M k lo (hi + 1) f := by
  subst hx
  funext a b
  unfold jup jblk
  by_cases e : a = k ∧ b = hi
  · obtain ⟨rfl, rfl⟩ := e
    rw [if_pos ⟨rfl, rfl⟩, if_pos ⟨rfl, h, by omega⟩]
  · rw [if_neg e]
    by_cases q : a = k ∧ lo ≤ b ∧ b < hi
    · rw [if_pos q, if_pos ⟨q.1, q.2.1, by omega⟩]
    · rw [if_neg q, if_neg (fun r => q ⟨r.1, r.2.1, by have : b ≠ hi := fun z => e ⟨r.1, z⟩; omega⟩)]
theorem jblk_ne {M : jMem} {k a : Nat} {lo hi : Int} {f : Int → Int} (h : a ≠ k) (b : Int) : jblk M k lo hi f a b = M a b := by
  unfold jblk; rw [if_neg (fun z => h z.1)]
theorem jblk_out {M : jMem} {k : Nat} {lo hi b : Int} {f : Int → Int} (h : ¬ (lo ≤ b ∧ b < hi)) : jblk M k lo hi f k b = M k b := by
  unfold jblk; rw [if_neg (fun z => h z.2)]
theorem jblk_in {M : jMem} {k : Nat} {lo hi b : Int} {f : Int → Int} (h : lo ≤ b ∧ b < hi) : jblk M k lo hi f k b = f b := by
  unfold jblk; rw [if_pos ⟨rfl, h⟩]
theorem jup_at {M : jMem} {k : Nat} {i v : Int} : jup M k i v k i = v := by unfold jup; rw [if_pos ⟨rfl, rfl⟩]
theorem jup_off {M : jMem} {k : Nat} {i v b : Int} (h : b ≠ i) : jup M k i v k b = M k b := by unfold jup; rw [if_neg (fun z => h z.2)]

theorem c_caseAt {G : jG} {d : Nat} {M : jMem} {Q : Option Value → jMem → Prop} {c p : Int} (hc : 0 ≤ c ∧ c < 3) (hs : 0 ≤ M 17 c ∧ M 17 c ≤ 6) (hp : jR p) (h1 : 0 ≤ p → p < M 17 c → Q (some (.int (jI (M 16 (c * 6 + p))))) M) (h0 : ¬ (0 ≤ p ∧ p < M 17 c) → Q (some (.int (jI (-1)))) M) : jN G mX2_caseAt (d) [.ref (jad G 1), .int (jI c), .int (jI p)] M Q := by
  show jM G mX2_caseAt (d) 0 [.ref (jad G 1), .int (jI c), .int (jI p)] [] M Q
  refine jr_iload_n (n := 1) dX2_caseAt_0 rfl rfl ?_
  refine jr_if_lt (n := 4) (t := 28) dX2_caseAt_1 (by decide) rfl (by omega) (fun b1 => ?_) (fun b1 => ?_)
  · refine jr_iconst (n := 29) dX2_caseAt_28 rfl ?_
    refine jr_iret dX2_caseAt_29 rfl ?_
    first | exact h1 (by omega) (by omega) | exact h0 (by omega)
  · refine jr_iload_n (n := 5) dX2_caseAt_4 rfl rfl ?_
    refine jr_aload_n (n := 6) dX2_caseAt_5 rfl rfl ?_
    refine jr_getR (n := 9) dX2_caseAt_6 rfl fX2_33 rfl (by decide) (by decide) rfl ?_
    refine jr_iload_n (n := 10) dX2_caseAt_9 rfl rfl ?_
    refine jr_iald (n := 11) dX2_caseAt_10 rfl rfl (by decide) (by omega) (by omega) ?_
    refine jr_icmp_ge (n := 14) (t := 28) dX2_caseAt_11 (by decide) rfl (by omega) (by omega) (fun b11 => ?_) (fun b11 => ?_)
    · refine jr_iconst (n := 29) dX2_caseAt_28 rfl ?_
      refine jr_iret dX2_caseAt_29 rfl ?_
      first | exact h1 (by omega) (by omega) | exact h0 (by omega)
    · refine jr_aload_n (n := 15) dX2_caseAt_14 rfl rfl ?_
      refine jr_getR (n := 18) dX2_caseAt_15 rfl fX2_30 rfl (by decide) (by decide) rfl ?_
      refine jr_iload_n (n := 19) dX2_caseAt_18 rfl rfl ?_
      refine jr_bipush (n := 21) dX2_caseAt_19 rfl (by decide) ?_
      refine jr_imul (n := 22) dX2_caseAt_21 rfl ?_
      refine jr_iload_n (n := 23) dX2_caseAt_22 rfl rfl ?_
      refine jr_iadd (n := 24) dX2_caseAt_23 rfl ?_
      refine jr_iald (n := 25) dX2_caseAt_24 rfl rfl (by decide) (by omega) (by omega) ?_
      refine jr_goto (t := 29) dX2_caseAt_25 (by decide) ?_
      refine jr_iret dX2_caseAt_29 rfl ?_
      first | exact h1 (by omega) (by omega) | exact h0 (by omega)

theorem c_placeOf_l {G : jG} {d : Nat} {M : jMem} {Q : Option Value → jMem → Prop} {k p : Int} (hk : 0 ≤ k ∧ k < 12) (hc : 0 ≤ M 10 k ∧ M 10 k < 3) (hs : M 17 (M 10 k) ≤ 6) (hr : ∀ q, 0 ≤ q → q < M 17 (M 10 k) → jR (M 16 (6 * M 10 k + q))) (hp : jpl M k p) (hQ : Q (some (.int (jI p))) M) : ∀ (f : Nat) (i : Int), 0 ≤ i → i ≤ p → p - i < f → jM G mX2_placeOf (d + 1) 9 [.ref (jad G 1), .int (jI k), .int (jI (M 10 k)), .int (jI i)] [] (M) Q := by
  intro f
  induction f with
  | zero =>
    intro i h0 h1 hf
    exact absurd hf (by omega)
  | succ f ih =>
    intro i h0 h1 hf
    obtain ⟨p0, p1, p2, p3⟩ := hp
    have hri := hr i (by omega) (by omega)
    rw [Int.mul_comm] at hri
    refine jr_iload_n (n := 10) dX2_placeOf_9 rfl rfl ?_
    refine jr_aload_n (n := 11) dX2_placeOf_10 rfl rfl ?_
    refine jr_getR (n := 14) dX2_placeOf_11 rfl fX2_33 rfl (by decide) (by decide) rfl ?_
    refine jr_iload_n (n := 15) dX2_placeOf_14 rfl rfl ?_
    refine jr_iald (n := 16) dX2_placeOf_15 rfl rfl (by decide) (by omega) (by omega) ?_
    refine jr_icmp_ge (n := 19) (t := 35) dX2_placeOf_16 (by decide) rfl (by omega) (by omega) (fun b16 => ?_) (fun b16 => ?_)
    · exact absurd b16 (by omega)
    · refine jr_aload_n (n := 20) dX2_placeOf_19 rfl rfl ?_
      refine jr_iload_n (n := 21) dX2_placeOf_20 rfl rfl ?_
      refine jr_iload_n (n := 22) dX2_placeOf_21 rfl rfl ?_
      refine jr_cV2 (n := 25) (ci := 2) (ν := mX2_caseAt) dX2_placeOf_22 rfl lX2_44 kX2_caseAt iX2_caseAt rfl ⟨_, rfl, rfl⟩ (by decide) (Nat.le_of_ble_eq_true rfl) (Nat.le_of_ble_eq_true rfl) rfl ?_
      refine c_caseAt (by omega) (by omega) (by omega) (fun b22 b22b => ?_) (fun b22 => absurd b22 (by omega))
      refine jr_iload_n (n := 26) dX2_placeOf_25 rfl rfl ?_
      refine jr_icmp_eq (n := 29) (t := 35) dX2_placeOf_26 (by decide) rfl hri (by omega) (fun b26 => ?_) (fun b26 => ?_)
      · refine jr_iload_n (n := 36) dX2_placeOf_35 rfl rfl ?_
        refine jr_iret dX2_placeOf_36 rfl ?_
        have e : i = p := by
          by_cases e : i = p
          · exact e
          · exact absurd (by rw [Int.mul_comm]; exact b26) (p3 i h0 (by omega))
        subst e
        exact hQ
      · refine jr_iinc3 (n := 32) dX2_placeOf_29 rfl (by decide) rfl ?_
        refine jr_goto (t := 9) dX2_placeOf_32 (by decide) ?_
        have e : i ≠ p := fun e => b26 (by rw [e, Int.mul_comm]; exact p2)
        exact ih (i + 1) (by omega) (by omega) (by omega)

theorem c_placeOf {G : jG} {d : Nat} {M : jMem} {Q : Option Value → jMem → Prop} {k p : Int} (hk : 0 ≤ k ∧ k < 12) (hc : 0 ≤ M 10 k ∧ M 10 k < 3) (hs : M 17 (M 10 k) ≤ 6) (hr : ∀ q, 0 ≤ q → q < M 17 (M 10 k) → jR (M 16 (6 * M 10 k + q))) (hp : jpl M k p) (hQ : Q (some (.int (jI p))) M) : jN G mX2_placeOf (d + 1) [.ref (jad G 1), .int (jI k)] M Q := by
  show jM G mX2_placeOf (d + 1) 0 [.ref (jad G 1), .int (jI k), .null, .null] [] M Q
  refine jr_aload_n (n := 1) dX2_placeOf_0 rfl rfl ?_
  refine jr_getR (n := 4) dX2_placeOf_1 rfl fX2_9 rfl (by decide) (by decide) rfl ?_
  refine jr_iload_n (n := 5) dX2_placeOf_4 rfl rfl ?_
  refine jr_iald (n := 6) dX2_placeOf_5 rfl rfl (by decide) (by omega) (by omega) ?_
  refine jr_istore2 (n := 7) dX2_placeOf_6 rfl (by decide) rfl ?_
  refine jr_iconst (n := 8) dX2_placeOf_7 rfl ?_
  refine jr_istore3 (n := 9) dX2_placeOf_8 rfl (by decide) rfl ?_
  have p1 := hp.2.1
  have p0 := hp.1
  exact c_placeOf_l hk hc hs hr hp hQ (p.toNat + 1) 0 (by omega) (by omega) (by omega)

theorem c_hasNeedOf {G : jG} {d : Nat} {M : jMem} {Q : Option Value → jMem → Prop} {k v : Int} (hk : 0 ≤ k ∧ k < 12) (h1 : jbit (M 13 k) v → Q (some (.int (jI 1))) M) (h0 : ¬ jbit (M 13 k) v → Q (some (.int (jI 0))) M) : jN G mX2_hasNeedOf (d + 1) [.ref (jad G 1), .int (jI k), .int (jI v)] M Q := by
  show jM G mX2_hasNeedOf (d + 1) 0 [.ref (jad G 1), .int (jI k), .int (jI v)] [] M Q
  refine jr_aload_n (n := 1) dX2_hasNeedOf_0 rfl rfl ?_
  refine jr_getR (n := 4) dX2_hasNeedOf_1 rfl fX2_21 rfl (by decide) (by decide) rfl ?_
  refine jr_iload_n (n := 5) dX2_hasNeedOf_4 rfl rfl ?_
  refine jr_iald (n := 6) dX2_hasNeedOf_5 rfl rfl (by decide) (by omega) (by omega) ?_
  refine jr_iload_n (n := 7) dX2_hasNeedOf_6 rfl rfl ?_
  refine jr_cS2 (n := 10) (ν := mX7_holds) dX2_hasNeedOf_7 rfl lX2_52 kX7_holds iX7_holds (Nat.le_of_ble_eq_true rfl) (Nat.le_of_ble_eq_true rfl) rfl ?_
  refine c_holds (fun b7 => ?_) (fun b7 => ?_)
  · refine jr_zret dX2_hasNeedOf_10 rfl (by decide) ?_
    first | exact h1 (by assumption) | exact h0 (by assumption)
  · refine jr_zret dX2_hasNeedOf_10 rfl (by decide) ?_
    first | exact h1 (by assumption) | exact h0 (by assumption)

theorem c_quarterFor {G : jG} {d : Nat} {M : jMem} {Q : Option Value → jMem → Prop} {k v : Int} (hk : 0 ≤ k ∧ k < 12) (hv : 0 ≤ v ∧ v < 10) (hQ : Q (some (.int (jI (M 15 (k * 10 + v))))) M) : jN G mX2_quarterFor (d) [.ref (jad G 1), .int (jI k), .int (jI v)] M Q := by
  show jM G mX2_quarterFor (d) 0 [.ref (jad G 1), .int (jI k), .int (jI v)] [] M Q
  refine jr_aload_n (n := 1) dX2_quarterFor_0 rfl rfl ?_
  refine jr_getR (n := 4) dX2_quarterFor_1 rfl fX2_27 rfl (by decide) (by decide) rfl ?_
  refine jr_iload_n (n := 5) dX2_quarterFor_4 rfl rfl ?_
  refine jr_bipush (n := 7) dX2_quarterFor_5 rfl (by decide) ?_
  refine jr_imul (n := 8) dX2_quarterFor_7 rfl ?_
  refine jr_iload_n (n := 9) dX2_quarterFor_8 rfl rfl ?_
  refine jr_iadd (n := 10) dX2_quarterFor_9 rfl ?_
  refine jr_iald (n := 11) dX2_quarterFor_10 rfl rfl (by decide) (by omega) (by omega) ?_
  refine jr_iret dX2_quarterFor_11 rfl ?_
  exact hQ

theorem c_callFor {G : jG} {d : Nat} {M : jMem} {Q : Option Value → jMem → Prop} {k v z : Int} (hk : 0 ≤ k ∧ k < 12) (hv : 0 ≤ v ∧ v < 10) (hQ : Q none (jup M 15 (k * 10 + v) z)) : jN G mX2_callFor (d) [.ref (jad G 1), .int (jI k), .int (jI v), .int (jI z)] M Q := by
  show jM G mX2_callFor (d) 0 [.ref (jad G 1), .int (jI k), .int (jI v), .int (jI z)] [] M Q
  refine jr_aload_n (n := 1) dX2_callFor_0 rfl rfl ?_
  refine jr_getR (n := 4) dX2_callFor_1 rfl fX2_27 rfl (by decide) (by decide) rfl ?_
  refine jr_iload_n (n := 5) dX2_callFor_4 rfl rfl ?_
  refine jr_bipush (n := 7) dX2_callFor_5 rfl (by decide) ?_
  refine jr_imul (n := 8) dX2_callFor_7 rfl ?_
  refine jr_iload_n (n := 9) dX2_callFor_8 rfl rfl ?_
  refine jr_iadd (n := 10) dX2_callFor_9 rfl ?_
  refine jr_iload_n (n := 11) dX2_callFor_10 rfl rfl ?_
  refine jr_iast (n := 12) dX2_callFor_11 rfl rfl (by decide) (by omega) (by omega) ?_
  refine jr_vret dX2_callFor_12 rfl ?_
  exact hQ

theorem c_isFolded {G : jG} {d : Nat} {M : jMem} {Q : Option Value → jMem → Prop} {k : Int} (hk : 0 ≤ k ∧ k < 12) (hr : jR (M 14 k)) (h1 : M 14 k = 0 → Q (some (.int (jI 1))) M) (h0 : M 14 k ≠ 0 → Q (some (.int (jI 0))) M) : jN G mX2_isFolded (d) [.ref (jad G 1), .int (jI k)] M Q := by
  show jM G mX2_isFolded (d) 0 [.ref (jad G 1), .int (jI k)] [] M Q
  refine jr_aload_n (n := 1) dX2_isFolded_0 rfl rfl ?_
  refine jr_getR (n := 4) dX2_isFolded_1 rfl fX2_24 rfl (by decide) (by decide) rfl ?_
  refine jr_iload_n (n := 5) dX2_isFolded_4 rfl rfl ?_
  refine jr_iald (n := 6) dX2_isFolded_5 rfl rfl (by decide) (by omega) (by omega) ?_
  refine jr_if_ne (n := 9) (t := 13) dX2_isFolded_6 (by decide) rfl (by omega) (fun b6 => ?_) (fun b6 => ?_)
  · refine jr_iconst (n := 14) dX2_isFolded_13 rfl ?_
    refine jr_zret dX2_isFolded_14 rfl (by decide) ?_
    first | exact h1 (by assumption) | exact h0 (by assumption)
  · refine jr_iconst (n := 10) dX2_isFolded_9 rfl ?_
    refine jr_goto (t := 14) dX2_isFolded_10 (by decide) ?_
    refine jr_zret dX2_isFolded_14 rfl (by decide) ?_
    first | exact h1 (by assumption) | exact h0 (by assumption)

theorem c_takesQuarters {G : jG} {d : Nat} {M : jMem} {Q : Option Value → jMem → Prop} {k : Int} (hk : 0 ≤ k ∧ k < 12) (hr : jR (M 14 k)) (hQ : Q (some (.int (jI (if M 14 k = -1 then M 11 k else M 14 k)))) M) : jN G mX2_takesQuarters (d) [.ref (jad G 1), .int (jI k)] M Q := by
  show jM G mX2_takesQuarters (d) 0 [.ref (jad G 1), .int (jI k)] [] M Q
  refine jr_aload_n (n := 1) dX2_takesQuarters_0 rfl rfl ?_
  refine jr_getR (n := 4) dX2_takesQuarters_1 rfl fX2_24 rfl (by decide) (by decide) rfl ?_
  refine jr_iload_n (n := 5) dX2_takesQuarters_4 rfl rfl ?_
  refine jr_iald (n := 6) dX2_takesQuarters_5 rfl rfl (by decide) (by omega) (by omega) ?_
  refine jr_iconst (n := 7) dX2_takesQuarters_6 rfl ?_
  refine jr_icmp_ne (n := 10) (t := 19) dX2_takesQuarters_7 (by decide) rfl (by omega) (by omega) (fun b7 => ?_) (fun b7 => ?_)
  · refine jr_aload_n (n := 20) dX2_takesQuarters_19 rfl rfl ?_
    refine jr_getR (n := 23) dX2_takesQuarters_20 rfl fX2_24 rfl (by decide) (by decide) rfl ?_
    refine jr_iload_n (n := 24) dX2_takesQuarters_23 rfl rfl ?_
    refine jr_iald (n := 25) dX2_takesQuarters_24 rfl rfl (by decide) (by omega) (by omega) ?_
    refine jr_iret dX2_takesQuarters_25 rfl ?_
    first | (rw [if_pos (by assumption)] at hQ; exact hQ) | (rw [if_neg (by assumption)] at hQ; exact hQ)
  · refine jr_aload_n (n := 11) dX2_takesQuarters_10 rfl rfl ?_
    refine jr_getR (n := 14) dX2_takesQuarters_11 rfl fX2_15 rfl (by decide) (by decide) rfl ?_
    refine jr_iload_n (n := 15) dX2_takesQuarters_14 rfl rfl ?_
    refine jr_iald (n := 16) dX2_takesQuarters_15 rfl rfl (by decide) (by omega) (by omega) ?_
    refine jr_goto (t := 25) dX2_takesQuarters_16 (by decide) ?_
    refine jr_iret dX2_takesQuarters_25 rfl ?_
    first | (rw [if_pos (by assumption)] at hQ; exact hQ) | (rw [if_neg (by assumption)] at hQ; exact hQ)

theorem c_joinList {G : jG} {d : Nat} {M : jMem} {Q : Option Value → jMem → Prop} {k c : Int} (hk : 0 ≤ k ∧ k < 12) (hc : 0 ≤ c ∧ c < 3) (hs : 0 ≤ M 17 c ∧ M 17 c < 6) (hQ : Q none (jup (jup (jup M 16 (c * 6 + M 17 c) k) 17 c (M 17 c + 1)) 10 k c)) : jN G mX2_joinList (d) [.ref (jad G 1), .int (jI k), .int (jI c)] M Q := by
  show jM G mX2_joinList (d) 0 [.ref (jad G 1), .int (jI k), .int (jI c)] [] M Q
  refine jr_aload_n (n := 1) dX2_joinList_0 rfl rfl ?_
  refine jr_getR (n := 4) dX2_joinList_1 rfl fX2_33 rfl (by decide) (by decide) rfl ?_
  refine jr_iload_n (n := 5) dX2_joinList_4 rfl rfl ?_
  refine jr_iald (n := 6) dX2_joinList_5 rfl rfl (by decide) (by omega) (by omega) ?_
  refine jr_bipush (n := 8) dX2_joinList_6 rfl (by decide) ?_
  refine jr_icmp_ge (n := 11) (t := 45) dX2_joinList_8 (by decide) rfl (by omega) (by omega) (fun b8 => ?_) (fun b8 => ?_)
  · exact absurd b8 (by omega)
  · refine jr_aload_n (n := 12) dX2_joinList_11 rfl rfl ?_
    refine jr_getR (n := 15) dX2_joinList_12 rfl fX2_30 rfl (by decide) (by decide) rfl ?_
    refine jr_iload_n (n := 16) dX2_joinList_15 rfl rfl ?_
    refine jr_bipush (n := 18) dX2_joinList_16 rfl (by decide) ?_
    refine jr_imul (n := 19) dX2_joinList_18 rfl ?_
    refine jr_aload_n (n := 20) dX2_joinList_19 rfl rfl ?_
    refine jr_getR (n := 23) dX2_joinList_20 rfl fX2_33 rfl (by decide) (by decide) rfl ?_
    refine jr_iload_n (n := 24) dX2_joinList_23 rfl rfl ?_
    refine jr_iald (n := 25) dX2_joinList_24 rfl rfl (by decide) (by omega) (by omega) ?_
    refine jr_iadd (n := 26) dX2_joinList_25 rfl ?_
    refine jr_iload_n (n := 27) dX2_joinList_26 rfl rfl ?_
    refine jr_iast (n := 28) dX2_joinList_27 rfl rfl (by decide) (by omega) (by omega) ?_
    refine jr_aload_n (n := 29) dX2_joinList_28 rfl rfl ?_
    refine jr_getR (n := 32) dX2_joinList_29 rfl fX2_33 rfl (by decide) (by decide) rfl ?_
    refine jr_iload_n (n := 33) dX2_joinList_32 rfl rfl ?_
    refine jr_dup2 (n := 34) dX2_joinList_33 rfl rfl rfl ?_
    refine jr_iald (n := 35) dX2_joinList_34 rfl rfl (by decide) (by omega) (by omega) ?_
    rw [jup_ne (by decide)]
    refine jr_iconst (n := 36) dX2_joinList_35 rfl ?_
    refine jr_iadd (n := 37) dX2_joinList_36 rfl ?_
    refine jr_iast (n := 38) dX2_joinList_37 rfl rfl (by decide) (by omega) (by omega) ?_
    refine jr_aload_n (n := 39) dX2_joinList_38 rfl rfl ?_
    refine jr_getR (n := 42) dX2_joinList_39 rfl fX2_9 rfl (by decide) (by decide) rfl ?_
    refine jr_iload_n (n := 43) dX2_joinList_42 rfl rfl ?_
    refine jr_iload_n (n := 44) dX2_joinList_43 rfl rfl ?_
    refine jr_iast (n := 45) dX2_joinList_44 rfl rfl (by decide) (by omega) (by omega) ?_
    refine jr_vret dX2_joinList_45 rfl ?_
    exact hQ

