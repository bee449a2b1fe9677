/-- of a block, the places that pr names hold f -/
def jcb (M : jMem) (c : Nat) (lo hi : Int) (pr : Int → Bool) (f : Int → Int) : jMem := fun a b => if a = c ∧ (lo ≤ b ∧ b < hi) ∧ pr b = true then f b else M a b
theorem jcb_0 (M : jMem) (c : Nat) (lo : Int) (pr : Int → Bool) (f : Int → Int) : jcb M c lo lo pr f = M := by
  funext a b
  unfold jcb
  rw [if_neg (by omega)]
theorem jcb_ne {M : jMem} {c a : Nat} {lo hi : Int} {pr : Int → Bool} {f : Int → Int} (h : a ≠ c) (b : Int) : jcb M c lo hi pr f a b = M a b := by
  unfold jcb; rw [if_neg (fun z => h z.1)]
theorem jcb_y (M : jMem) (c : Nat) {lo hi x : Int} (pr : Int → Bool) (f : Int → Int) (h : lo ≤ hi) (hp : pr hi = true) (hx : x = f hi) : jup (jcb M c lo hi pr f) c hi x = jcb M c lo (hi + 1) pr f := by
  subst hx
  funext a b
  unfold jup jcb
  by_cases e : a = c ∧ b = hi
  · obtain ⟨rfl, rfl⟩ := e
    rw [if_pos ⟨rfl, rfl⟩, if_pos ⟨rfl, ⟨h, by omega⟩, hp⟩]
  · rw [if_neg e]
    by_cases q : a = c ∧ (lo ≤ b ∧ b < hi) ∧ pr b = true
    · rw [if_pos q, if_pos ⟨q.1, ⟨q.2.1.1, by omega⟩, q.2.2⟩]
    · rw [if_neg q, if_neg (fun r => q ⟨r.1, ⟨r.2.1.1, by have : b ≠ hi := fun z => e ⟨r.1, z⟩; omega⟩, r.2.2⟩)]
theorem jcb_n (M : jMem) (c : Nat) {lo hi : Int} (pr : Int → Bool) (f : Int → Int) (hp : pr hi = false) : jcb M c lo hi pr f = jcb M c lo (hi + 1) pr f := by
  funext a b
  unfold jcb
  by_cases q : a = c ∧ (lo ≤ b ∧ b < hi) ∧ pr b = true
  · rw [if_pos q, if_pos ⟨q.1, ⟨q.2.1.1, by omega⟩, q.2.2⟩]
  · rw [if_neg q, if_neg (fun r => q ⟨r.1, ⟨r.2.1.1, by have : b ≠ hi := fun z => (by rw [z, hp] at r; exact absurd r.2.2 (by decide)); omega⟩, r.2.2⟩)]
theorem jcb_out {M : jMem} {c : Nat} {lo hi b : Int} {pr : Int → Bool} {f : Int → Int} (h : ¬ (lo ≤ b ∧ b < hi)) : jcb M c lo hi pr f c b = M c b := by
  unfold jcb; rw [if_neg (fun z => h z.2.1)]
theorem jcb_in {M : jMem} {c : Nat} {lo hi b : Int} {pr : Int → Bool} {f : Int → Int} (h : lo ≤ b ∧ b < hi) (hp : pr b = true) : jcb M c lo hi pr f c b = f b := by
  unfold jcb; rw [if_pos ⟨rfl, h, hp⟩]
theorem jcb_no {M : jMem} {c : Nat} {lo hi b : Int} {pr : Int → Bool} {f : Int → Int} (hp : pr b = false) : jcb M c lo hi pr f c b = M c b := by
  unfold jcb; rw [if_neg (fun z => by rw [hp] at z; exact absurd z.2.2 (by decide))]
/-- whom needs(k, s) calls at their way: class, reference -/
def jnC (M : jMem) (k s i : Int) : jMem := jcb M 15 (k * 10) (k * 10 + i) (fun b => decide (jbit s (b - k * 10) ∧ ¬ jbit (M 13 k) (b - k * 10))) (fun b => M 19 (b - k * 10))
def jnE (M : jMem) (k i : Int) : jMem := jcb M 48 (10 * k) (10 * k + i) (fun b => decide (¬ jbit (M 43 k) (b - 10 * k))) (fun b => M 46 (b - 10 * k))
theorem jnC_ne {M : jMem} {k s i : Int} {a : Nat} (h : a ≠ 15) (b : Int) : jnC M k s i a b = M a b := jcb_ne h b
theorem jnE_ne {M : jMem} {k i : Int} {a : Nat} (h : a ≠ 48) (b : Int) : jnE M k i a b = M a b := jcb_ne h b
theorem jnC_y {M : jMem} {k s i x : Int} (h : 0 ≤ i) (h1 : jbit s i) (h2 : ¬ jbit (M 13 k) i) (hx : x = M 19 i) : jup (jnC M k s i) 15 (k * 10 + i) x = jnC M k s (i + 1) := by
  have e : k * 10 + i - k * 10 = i := by omega
  unfold jnC
  rw [jcb_y _ _ _ _ (by omega) (by rw [e]; exact decide_eq_true ⟨h1, h2⟩) (by rw [e]; exact hx), Int.add_assoc]
theorem jnC_n {M : jMem} {k s i : Int} (h : ¬ (jbit s i ∧ ¬ jbit (M 13 k) i)) : jnC M k s i = jnC M k s (i + 1) := by
  have e : k * 10 + i - k * 10 = i := by omega
  unfold jnC
  rw [jcb_n _ _ _ _ (by rw [e]; exact decide_eq_false h), Int.add_assoc]
theorem jnE_y {M : jMem} {k i x : Int} (h : 0 ≤ i) (h2 : ¬ jbit (M 43 k) i) (hx : x = M 46 i) : jup (jnE M k i) 48 (10 * k + i) x = jnE M k (i + 1) := by
  have e : 10 * k + i - 10 * k = i := by omega
  unfold jnE
  rw [jcb_y _ _ _ _ (by omega) (by rw [e]; exact decide_eq_true h2) (by rw [e]; exact hx), Int.add_assoc]
theorem jnE_n {M : jMem} {k i : Int} (h : jbit (M 43 k) i) : jnE M k i = jnE M k (i + 1) := by
  have e : 10 * k + i - 10 * k = i := by omega
  unfold jnE
  rw [jcb_n _ _ _ _ (by rw [e]; exact decide_eq_false (fun z => z h)), Int.add_assoc]
theorem jshl_R {p : Int} (hp : 0 ≤ p ∧ p ≤ 10) : 1 ≤ jshl 1 p ∧ jshl 1 p ≤ 1024 := by
  obtain ⟨a, rfl⟩ : ∃ n : Nat, p = n := ⟨p.toNat, by omega⟩
  exact (by decide +kernel : ∀ a : Nat, a < 11 → 1 ≤ jshl 1 (a : Int) ∧ jshl 1 (a : Int) ≤ 1024) a (by omega)
theorem c_needs_l {G : jG} {d : Nat} {M : jMem} {Q : Option Value → jMem → Prop} (hI : jK M) {k s : Int} (hk : 0 ≤ k ∧ k < 12) (h : Q (some (.long (jL (M 13 k)))) (jup (jnC M k s (M 2 3)) 13 k s))  : ∀ (f : Nat) (i : Int), 0 ≤ i → i ≤ M 2 3 → M 2 3 - i < f → jM G mX7_needs (d + 2) 44 [.ref (jad G 0), .int (jI k), .int (jI s), .int (jI (M 13 k)), .int (jI i)] [] (jnC M k s i) Q := by
  intro f
  induction f with
  | zero =>
    intro i h0 h1 hf
    exact absurd hf (by omega)
  | succ f ih =>
    intro i h0 h1 hf
    have hz := jn1 hI
    have hr := jn3 hI k hk.1 hk.2
    refine jr_iload (n := 46) dX7_needs_44 rfl rfl ?_
    refine jr_aload_n (n := 47) dX7_needs_46 rfl rfl ?_
    refine jr_getR (n := 50) dX7_needs_47 rfl fX7_19 rfl (by decide) (by decide) rfl ?_
    refine jr_getI (n := 53) (i := 3) rfl dX7_needs_50 rfl fX7_85 rfl (by decide) (by decide) rfl ?_
    rw [jnC_ne (show (2 : Nat) ≠ 15 by decide)]
    refine jr_icmp_ge (n := 56) (t := 100) dX7_needs_53 (by decide) rfl (by omega) (by omega) (fun b53 => ?_) (fun b53 => ?_)
    · refine jr_aload_n (n := 101) dX7_needs_100 rfl rfl ?_
      refine jr_getR (n := 104) dX7_needs_101 rfl fX7_10 rfl (by decide) (by decide) rfl ?_
      refine jr_getR (n := 107) dX7_needs_104 rfl fX7_100 rfl (by decide) (by decide) rfl ?_
      refine jr_iload_n (n := 108) dX7_needs_107 rfl rfl ?_
      refine jr_iload_n (n := 109) dX7_needs_108 rfl rfl ?_
      refine jr_iast (n := 110) dX7_needs_109 rfl rfl (by decide) (by omega) (by omega) ?_
      refine jr_iload_n (n := 111) dX7_needs_110 rfl rfl ?_
      refine jr_i2l (n := 112) dX7_needs_111 rfl (by omega) ?_
      refine jr_lret dX7_needs_112 rfl ?_
      have e : i = M 2 3 := by omega
      subst e
      exact h
    · refine jr_iload_n (n := 57) dX7_needs_56 rfl rfl ?_
      refine jr_iload (n := 59) dX7_needs_57 rfl rfl ?_
      refine jr_cS2 (n := 62) (ν := mX7_holds) dX7_needs_59 rfl lX7_103 kX7_holds iX7_holds (Nat.le_of_ble_eq_true rfl) (Nat.le_of_ble_eq_true rfl) rfl ?_
      refine c_holds (fun b59 => ?_) (fun b59 => ?_)
      · refine jr_ifF_eq (n := 65) (t := 94) dX7_needs_62 rfl (by decide) (by decide) (by decide) ?_
        refine jr_iload_n (n := 66) dX7_needs_65 rfl rfl ?_
        refine jr_iload (n := 68) dX7_needs_66 rfl rfl ?_
        refine jr_cS2 (n := 71) (ν := mX7_holds) dX7_needs_68 rfl lX7_103 kX7_holds iX7_holds (Nat.le_of_ble_eq_true rfl) (Nat.le_of_ble_eq_true rfl) rfl ?_
        refine c_holds (fun b68 => ?_) (fun b68 => ?_)
        · refine jr_ifT_ne (t := 94) dX7_needs_71 (by decide) (by decide) (by decide) ?_
          refine jr_iinc4 (n := 97) dX7_needs_94 rfl (by decide) rfl ?_
          refine jr_goto (t := 44) dX7_needs_97 (by decide) ?_
          first
            | (rw [jnC_y h0 b59 b68 rfl]; exact ih (i + 1) (by omega) (by omega) (by omega))
            | (rw [jnC_n (by first | exact fun z => z.2 b68 | exact fun z => b59 z.1)]; exact ih (i + 1) (by omega) (by omega) (by omega))
        · refine jr_ifF_ne (n := 74) (t := 94) dX7_needs_71 rfl (by decide) (by decide) (by decide) ?_
          refine jr_aload_n (n := 75) dX7_needs_74 rfl rfl ?_
          refine jr_getR (n := 78) dX7_needs_75 rfl fX7_10 rfl (by decide) (by decide) rfl ?_
          refine jr_iload_n (n := 79) dX7_needs_78 rfl rfl ?_
          refine jr_iload (n := 81) dX7_needs_79 rfl rfl ?_
          refine jr_aload_n (n := 82) dX7_needs_81 rfl rfl ?_
          refine jr_getR (n := 85) dX7_needs_82 rfl fX7_19 rfl (by decide) (by decide) rfl ?_
          refine jr_getR (n := 88) dX7_needs_85 rfl fX7_107 rfl (by decide) (by decide) rfl ?_
          refine jr_iload (n := 90) dX7_needs_88 rfl rfl ?_
          refine jr_iald (n := 91) dX7_needs_90 rfl rfl (by decide) (by omega) (by omega) ?_
          rw [jnC_ne (show (19 : Nat) ≠ 15 by decide)]
          refine jr_cV3 (n := 94) (ci := 2) (ν := mX2_callFor) dX7_needs_91 rfl lX7_110 kX2_callFor iX2_callFor rfl ⟨_, rfl, rfl⟩ (by decide) (Nat.le_of_ble_eq_true rfl) (Nat.le_of_ble_eq_true rfl) rfl ?_
          refine c_callFor (by omega) (by omega) ?_
          refine jr_iinc4 (n := 97) dX7_needs_94 rfl (by decide) rfl ?_
          refine jr_goto (t := 44) dX7_needs_97 (by decide) ?_
          first
            | (rw [jnC_y h0 b59 b68 rfl]; exact ih (i + 1) (by omega) (by omega) (by omega))
            | (rw [jnC_n (by first | exact fun z => z.2 b68 | exact fun z => b59 z.1)]; exact ih (i + 1) (by omega) (by omega) (by omega))
      · refine jr_ifT_eq (t := 94) dX7_needs_62 (by decide) (by decide) (by decide) ?_
        refine jr_iinc4 (n := 97) dX7_needs_94 rfl (by decide) rfl ?_
        refine jr_goto (t := 44) dX7_needs_97 (by decide) ?_
        first
          | (rw [jnC_y h0 b59 b68 rfl]; exact ih (i + 1) (by omega) (by omega) (by omega))
          | (rw [jnC_n (by first | exact fun z => z.2 b68 | exact fun z => b59 z.1)]; exact ih (i + 1) (by omega) (by omega) (by omega))

theorem c_needs {G : jG} {d : Nat} {M : jMem} {Q : Option Value → jMem → Prop} (hI : jK M) {k s : Int} (hk : jR k) (hs : jR s) (hB : ¬ ((0 ≤ k ∧ k < M 1 8) ∧ (0 ≤ s ∧ s ≤ jshl 1 (M 2 3) - 1)) → Q (some (.long (jL (-9000000000000000001)))) M) (h : 0 ≤ k → k < M 1 8 → 0 ≤ s → s ≤ jshl 1 (M 2 3) - 1 → Q (some (.long (jL (M 13 k)))) (jup (jnC M k s (M 2 3)) 13 k s)) : jN G mX7_needs (d + 2) [.ref (jad G 0), .int (jI k), .int (jI s)] M Q := by
  show jM G mX7_needs (d + 2) 0 [.ref (jad G 0), .int (jI k), .int (jI s), .null, .null] [] M Q
  have hz := jn1 hI
  have hq := jset_ok hz.2.1 hs
  refine jr_aload_n (n := 1) dX7_needs_0 rfl rfl ?_
  refine jr_getR (n := 4) dX7_needs_1 rfl fX7_10 rfl (by decide) (by decide) rfl ?_
  refine jr_iload_n (n := 5) dX7_needs_4 rfl rfl ?_
  refine jr_cV1 (n := 8) (ci := 2) (ν := mX2_has) dX7_needs_5 rfl lX7_99 kX2_has iX2_has rfl ⟨_, rfl, rfl⟩ (by decide) (Nat.le_of_ble_eq_true rfl) (Nat.le_of_ble_eq_true rfl) rfl ?_
  refine c_hasC (by omega) (by omega) (fun b5 b5b => ?_) (fun b5 => ?_)
  · refine jr_ifF_eq (n := 11) (t := 27) dX7_needs_8 rfl (by decide) (by decide) (by decide) ?_
    refine jr_iload_n (n := 12) dX7_needs_11 rfl rfl ?_
    refine jr_if_lt (n := 15) (t := 27) dX7_needs_12 (by decide) rfl (by omega) (fun b12 => ?_) (fun b12 => ?_)
    · refine jr_ldc2 (n := 30) dX7_needs_27 rfl rfl qX7_70 vX7_70 ?_
      refine jr_lret dX7_needs_30 rfl ?_
      first | exact hB (by omega)
    · refine jr_iload_n (n := 16) dX7_needs_15 rfl rfl ?_
      refine jr_aload_n (n := 17) dX7_needs_16 rfl rfl ?_
      refine jr_getR (n := 20) dX7_needs_17 rfl fX7_19 rfl (by decide) (by decide) rfl ?_
      refine jr_getI (n := 23) (i := 3) rfl dX7_needs_20 rfl fX7_85 rfl (by decide) (by decide) rfl ?_
      refine jr_ishr (n := 24) dX7_needs_23 rfl ?_
      refine jr_if_eq (n := 27) (t := 31) dX7_needs_24 (by decide) rfl (jshr_R _ _) (fun b24 => ?_) (fun b24 => ?_)
      · refine jr_aload_n (n := 32) dX7_needs_31 rfl rfl ?_
        refine jr_getR (n := 35) dX7_needs_32 rfl fX7_10 rfl (by decide) (by decide) rfl ?_
        refine jr_getR (n := 38) dX7_needs_35 rfl fX7_100 rfl (by decide) (by decide) rfl ?_
        refine jr_iload_n (n := 39) dX7_needs_38 rfl rfl ?_
        refine jr_iald (n := 40) dX7_needs_39 rfl rfl (by decide) (by omega) (by omega) ?_
        refine jr_istore3 (n := 41) dX7_needs_40 rfl (by decide) rfl ?_
        refine jr_iconst (n := 42) dX7_needs_41 rfl ?_
        refine jr_istore4 (n := 44) dX7_needs_42 rfl (by decide) rfl ?_
        rw [show M = jnC M k s 0 from by unfold jnC; rw [Int.add_zero, jcb_0]]
        have hq2 := hq.mp ⟨by omega, by omega⟩
        exact c_needs_l hI (by omega) (h (by omega) (by omega) (by omega) (by omega)) ((M 2 3).toNat + 1) 0 (by omega) (by omega) (by omega)
      · refine jr_ldc2 (n := 30) dX7_needs_27 rfl rfl qX7_70 vX7_70 ?_
        refine jr_lret dX7_needs_30 rfl ?_
        first | exact hB (by omega)
  · refine jr_ifT_eq (t := 27) dX7_needs_8 (by decide) (by decide) (by decide) ?_
    refine jr_ldc2 (n := 30) dX7_needs_27 rfl rfl qX7_70 vX7_70 ?_
    refine jr_lret dX7_needs_30 rfl ?_
    first | exact hB (by omega)

theorem e_needs_l {G : jG} {d : Nat} {M : jMem} {Q : Option Value → jMem → Prop} (hI : jO M) {k s : Int} (hk : 0 ≤ k ∧ k < 12) (h : Q (some (.long (jL (M 43 k)))) (jup (jnE M k (M 8 8)) 43 k s))  : ∀ (f : Nat) (i : Int), 0 ≤ i → i ≤ M 8 8 → M 8 8 - i < f → jM G mX8_needs (d + 2) 38 [.ref (jad G 8), .int (jI k), .int (jI s), .int (jI (M 43 k)), .int (jI i)] [] (jnE M k i) Q := by
  intro f
  induction f with
  | zero =>
    intro i h0 h1 hf
    exact absurd hf (by omega)
  | succ f ih =>
    intro i h0 h1 hf
    have hz := jn1 hI
    have hr := jn3 hI k hk.1 hk.2
    refine jr_iload (n := 40) dX8_needs_38 rfl rfl ?_
    refine jr_aload_n (n := 41) dX8_needs_40 rfl rfl ?_
    refine jr_getI (n := 44) (i := 8) rfl dX8_needs_41 rfl fX8_100 rfl (by decide) (by decide) rfl ?_
    rw [jnE_ne (show (8 : Nat) ≠ 48 by decide)]
    refine jr_icmp_ge (n := 47) (t := 82) dX8_needs_44 (by decide) rfl (by omega) (by omega) (fun b44 => ?_) (fun b44 => ?_)
    · refine jr_aload_n (n := 83) dX8_needs_82 rfl rfl ?_
      refine jr_getR (n := 86) dX8_needs_83 rfl fX8_25 rfl (by decide) (by decide) rfl ?_
      refine jr_iload_n (n := 87) dX8_needs_86 rfl rfl ?_
      refine jr_iload_n (n := 88) dX8_needs_87 rfl rfl ?_
      refine jr_iast (n := 89) dX8_needs_88 rfl rfl (by decide) (by omega) (by omega) ?_
      refine jr_iload_n (n := 90) dX8_needs_89 rfl rfl ?_
      refine jr_i2l (n := 91) dX8_needs_90 rfl (by omega) ?_
      refine jr_lret dX8_needs_91 rfl ?_
      have e : i = M 8 8 := by omega
      subst e
      exact h
    · refine jr_aload_n (n := 48) dX8_needs_47 rfl rfl ?_
      refine jr_iload_n (n := 49) dX8_needs_48 rfl rfl ?_
      refine jr_iload (n := 51) dX8_needs_49 rfl rfl ?_
      refine jr_cV2 (n := 54) (ci := 8) (ν := mX8_needs1) dX8_needs_51 rfl lX8_121 kX8_needs1 iX8_needs1 rfl ⟨_, rfl, rfl⟩ (by decide) (Nat.le_of_ble_eq_true rfl) (Nat.le_of_ble_eq_true rfl) rfl ?_
      refine e_needs1 (by omega) (fun b51 => ?_) (fun b51 => ?_)
      all_goals rw [jnE_ne (show (43 : Nat) ≠ 48 by decide)] at b51
      · refine jr_ifT_ne (t := 76) dX8_needs_54 (by decide) (by decide) (by decide) ?_
        refine jr_iinc4 (n := 79) dX8_needs_76 rfl (by decide) rfl ?_
        refine jr_goto (t := 38) dX8_needs_79 (by decide) ?_
        first
          | (rw [jnE_y h0 b51 rfl]; exact ih (i + 1) (by omega) (by omega) (by omega))
          | (rw [jnE_n b51]; exact ih (i + 1) (by omega) (by omega) (by omega))
      · refine jr_ifF_ne (n := 57) (t := 76) dX8_needs_54 rfl (by decide) (by decide) (by decide) ?_
        refine jr_aload_n (n := 58) dX8_needs_57 rfl rfl ?_
        refine jr_getR (n := 61) dX8_needs_58 rfl fX8_40 rfl (by decide) (by decide) rfl ?_
        refine jr_bipush (n := 63) dX8_needs_61 rfl (by decide) ?_
        refine jr_iload_n (n := 64) dX8_needs_63 rfl rfl ?_
        refine jr_imul (n := 65) dX8_needs_64 rfl ?_
        refine jr_iload (n := 67) dX8_needs_65 rfl rfl ?_
        refine jr_iadd (n := 68) dX8_needs_67 rfl ?_
        refine jr_aload_n (n := 69) dX8_needs_68 rfl rfl ?_
        refine jr_getR (n := 72) dX8_needs_69 rfl fX8_34 rfl (by decide) (by decide) rfl ?_
        refine jr_iload (n := 74) dX8_needs_72 rfl rfl ?_
        refine jr_iald (n := 75) dX8_needs_74 rfl rfl (by decide) (by omega) (by omega) ?_
        rw [jnE_ne (show (46 : Nat) ≠ 48 by decide)]
        refine jr_iast (n := 76) dX8_needs_75 rfl rfl (by decide) (by omega) (by omega) ?_
        refine jr_iinc4 (n := 79) dX8_needs_76 rfl (by decide) rfl ?_
        refine jr_goto (t := 38) dX8_needs_79 (by decide) ?_
        first
          | (rw [jnE_y h0 b51 rfl]; exact ih (i + 1) (by omega) (by omega) (by omega))
          | (rw [jnE_n b51]; exact ih (i + 1) (by omega) (by omega) (by omega))

theorem e_needs {G : jG} {d : Nat} {M : jMem} {Q : Option Value → jMem → Prop} (hI : jO M) {k s : Int} (hk : jR k) (hs : jR s) (hB : ¬ ((0 ≤ k ∧ k < M 8 2) ∧ (0 ≤ s ∧ s ≤ jshl 1 (M 8 8) - 1)) → Q (some (.long (jL (-9000000000000000001)))) M) (h : 0 ≤ k → k < M 8 2 → 0 ≤ s → s ≤ jshl 1 (M 8 8) - 1 → Q (some (.long (jL (M 43 k)))) (jup (jnE M k (M 8 8)) 43 k s)) : jN G mX8_needs (d + 2) [.ref (jad G 8), .int (jI k), .int (jI s)] M Q := by
  show jM G mX8_needs (d + 2) 0 [.ref (jad G 8), .int (jI k), .int (jI s), .null, .null] [] M Q
  have hz := jn1 hI
  have hq := jshl_R hz.2.1
  refine jr_aload_n (n := 1) dX8_needs_0 rfl rfl ?_
  refine jr_iload_n (n := 2) dX8_needs_1 rfl rfl ?_
  refine jr_cV1 (n := 5) (ci := 8) (ν := mX8_isCase) dX8_needs_2 rfl lX8_118 kX8_isCase iX8_isCase rfl ⟨_, rfl, rfl⟩ (by decide) (Nat.le_of_ble_eq_true rfl) (Nat.le_of_ble_eq_true rfl) rfl ?_
  refine e_isCase (by omega) (by omega) (fun b2 b2b => ?_) (fun b2 => ?_)
  · refine jr_ifF_eq (n := 8) (t := 24) dX8_needs_5 rfl (by decide) (by decide) (by decide) ?_
    refine jr_iload_n (n := 9) dX8_needs_8 rfl rfl ?_
    refine jr_iconst (n := 10) dX8_needs_9 rfl ?_
    refine jr_iconst (n := 11) dX8_needs_10 rfl ?_
    refine jr_aload_n (n := 12) dX8_needs_11 rfl rfl ?_
    refine jr_getI (n := 15) (i := 8) rfl dX8_needs_12 rfl fX8_100 rfl (by decide) (by decide) rfl ?_
    refine jr_ishl (n := 16) dX8_needs_15 rfl ?_
    refine jr_iconst (n := 17) dX8_needs_16 rfl ?_
    refine jr_isub (n := 18) dX8_needs_17 rfl ?_
    refine jr_cS3 (n := 21) (ν := mX8_isIn) dX8_needs_18 rfl lX8_92 kX8_isIn iX8_isIn (Nat.le_of_ble_eq_true rfl) (Nat.le_of_ble_eq_true rfl) rfl ?_
    refine e_isIn (by omega) (by omega) (by omega) (fun b18 b18b => ?_) (fun b18 => ?_)
    · refine jr_ifT_ne (t := 28) dX8_needs_21 (by decide) (by decide) (by decide) ?_
      refine jr_aload_n (n := 29) dX8_needs_28 rfl rfl ?_
      refine jr_getR (n := 32) dX8_needs_29 rfl fX8_25 rfl (by decide) (by decide) rfl ?_
      refine jr_iload_n (n := 33) dX8_needs_32 rfl rfl ?_
      refine jr_iald (n := 34) dX8_needs_33 rfl rfl (by decide) (by omega) (by omega) ?_
      refine jr_istore3 (n := 35) dX8_needs_34 rfl (by decide) rfl ?_
      refine jr_iconst (n := 36) dX8_needs_35 rfl ?_
      refine jr_istore4 (n := 38) dX8_needs_36 rfl (by decide) rfl ?_
      rw [show M = jnE M k 0 from by unfold jnE; rw [Int.add_zero, jcb_0]]
      exact e_needs_l hI (by omega) (h (by omega) (by omega) (by omega) (by omega)) ((M 8 8).toNat + 1) 0 (by omega) (by omega) (by omega)
    · refine jr_ifF_ne (n := 24) (t := 28) dX8_needs_21 rfl (by decide) (by decide) (by decide) ?_
      refine jr_ldc2 (n := 27) dX8_needs_24 rfl rfl qX8_107 vX8_107 ?_
      refine jr_lret dX8_needs_27 rfl ?_
      first | exact hB (by omega)
  · refine jr_ifT_eq (t := 24) dX8_needs_5 (by decide) (by decide) (by decide) ?_
    refine jr_ldc2 (n := 27) dX8_needs_24 rfl rfl qX8_107 vX8_107 ?_
    refine jr_lret dX8_needs_27 rfl ?_
    first | exact hB (by omega)

def jplo (M : jMem) (k p : Int) : Prop := 0 ≤ p ∧ p < M 38 (M 40 k) ∧ M 39 (6 * M 40 k + p) = k ∧ ∀ q, 0 ≤ q → q < p → M 39 (6 * M 40 k + q) ≠ k
theorem jplo_of {M : jMem} (h : jO M) {k : Int} (h0 : 0 ≤ k) (h1 : k < M 8 2) : ∃ p, jplo M k p := by
  have s := (jn1 h).1
  have r := (jn3 h k h0 (by omega)).1
  obtain ⟨j, j0, j1, j2⟩ := jn7 h k h0 h1
  exact ⟨j, j0, j1, j2, fun i i0 i1 e => jn8 h _ i j r.1 r.2 i0 i1 j1 (by rw [e, j2])⟩
theorem jplo_R {M : jMem} (h : jO M) {k : Int} (h0 : 0 ≤ k) (h1 : k < 12) : ∀ q, 0 ≤ q → q < M 38 (M 40 k) → jR (M 39 (6 * M 40 k + q)) := by
  intro q q0 q1
  have s := (jn1 h).1
  have r := (jn3 h k h0 h1).1
  have := (jn6 h _ q r.1 r.2 q0 q1).1
  omega
theorem e_placeOf_l {G : jG} {d : Nat} {M : jMem} {Q : Option Value → jMem → Prop} {k p : Int} (hk : 0 ≤ k ∧ k < 12) (hc : 0 ≤ M 40 k ∧ M 40 k < 3) (hs : p < 6) (hr : ∀ q, 0 ≤ q → q ≤ p → jR (M 39 (6 * M 40 k + q))) (hp0 : 0 ≤ p) (hp : M 39 (6 * M 40 k + p) = k) (hp3 : ∀ q, 0 ≤ q → q < p → M 39 (6 * M 40 k + q) ≠ k) (hQ : Q (some (.int (jI p))) M) : ∀ (f : Nat) (i : Int), 0 ≤ i → i ≤ p → p - i < f → jM G mX8_placeOf (d) 9 [.ref (jad G 8), .int (jI k), .int (jI (M 40 k)), .int (jI i)] [] (M) Q := by
  intro f
  induction f with
  | zero =>
    intro i h0 h1 hf
    exact absurd hf (by omega)
  | succ f ih =>
    intro i h0 h1 hf
    have hri := hr i (by omega) (by omega)
    refine jr_aload_n (n := 10) dX8_placeOf_9 rfl rfl ?_
    refine jr_getR (n := 13) dX8_placeOf_10 rfl fX8_13 rfl (by decide) (by decide) rfl ?_
    refine jr_bipush (n := 15) dX8_placeOf_13 rfl (by decide) ?_
    refine jr_iload_n (n := 16) dX8_placeOf_15 rfl rfl ?_
    refine jr_imul (n := 17) dX8_placeOf_16 rfl ?_
    refine jr_iload_n (n := 18) dX8_placeOf_17 rfl rfl ?_
    refine jr_iadd (n := 19) dX8_placeOf_18 rfl ?_
    refine jr_iald (n := 20) dX8_placeOf_19 rfl rfl (by decide) (by omega) (by omega) ?_
    refine jr_iload_n (n := 21) dX8_placeOf_20 rfl rfl ?_
    refine jr_icmp_eq (n := 24) (t := 30) dX8_placeOf_21 (by decide) rfl hri (by omega) (fun b21 => ?_) (fun b21 => ?_)
    · refine jr_iload_n (n := 31) dX8_placeOf_30 rfl rfl ?_
      refine jr_iret dX8_placeOf_31 rfl ?_
      have e : i = p := by
        by_cases e : i = p
        · exact e
        · exact absurd b21 (hp3 i h0 (by omega))
      subst e
      exact hQ
    · refine jr_iinc3 (n := 27) dX8_placeOf_24 rfl (by decide) rfl ?_
      refine jr_goto (t := 9) dX8_placeOf_27 (by decide) ?_
      have e : i ≠ p := fun e => b21 (by rw [e]; exact hp)
      exact ih (i + 1) (by omega) (by omega) (by omega)

theorem e_placeOf {G : jG} {d : Nat} {M : jMem} {Q : Option Value → jMem → Prop} {k p : Int} (hk : 0 ≤ k ∧ k < 12) (hc : 0 ≤ M 40 k ∧ M 40 k < 3) (hs : p < 6) (hr : ∀ q, 0 ≤ q → q ≤ p → jR (M 39 (6 * M 40 k + q))) (hp0 : 0 ≤ p) (hp : M 39 (6 * M 40 k + p) = k) (hp3 : ∀ q, 0 ≤ q → q < p → M 39 (6 * M 40 k + q) ≠ k) (hQ : Q (some (.int (jI p))) M) : jN G mX8_placeOf (d) [.ref (jad G 8), .int (jI k)] M Q := by
  show jM G mX8_placeOf (d) 0 [.ref (jad G 8), .int (jI k), .null, .null] [] M Q
  refine jr_aload_n (n := 1) dX8_placeOf_0 rfl rfl ?_
  refine jr_getR (n := 4) dX8_placeOf_1 rfl fX8_16 rfl (by decide) (by decide) rfl ?_
  refine jr_iload_n (n := 5) dX8_placeOf_4 rfl rfl ?_
  refine jr_iald (n := 6) dX8_placeOf_5 rfl rfl (by decide) (by omega) (by omega) ?_
  refine jr_istore2 (n := 7) dX8_placeOf_6 rfl (by decide) rfl ?_
  refine jr_iconst (n := 8) dX8_placeOf_7 rfl ?_
  refine jr_istore3 (n := 9) dX8_placeOf_8 rfl (by decide) rfl ?_
  exact e_placeOf_l hk hc hs hr hp0 hp hp3 hQ (p.toNat + 1) 0 (by omega) (by omega) (by omega)

theorem c_told {G : jG} {d : Nat} {M : jMem} {Q : Option Value → jMem → Prop} (hI : jK M) {k v : Int} (hk : jR k) (hv : jR v) (hB : ¬ ((0 ≤ k ∧ k < M 1 8) ∧ (0 ≤ v ∧ v ≤ 5)) → Q (some (.long (jL (-9000000000000000001)))) M) (h0 : 0 ≤ k → k < M 1 8 → v = 0 → Q (some (.long (jL (M 10 k)))) M) (h1 : 0 ≤ k → k < M 1 8 → v = 1 → ∀ p, jpl M k p → Q (some (.long (jL p))) M) (h2 : 0 ≤ k → k < M 1 8 → v = 2 → Q (some (.long (jL (M 11 k)))) M) (h3 : 0 ≤ k → k < M 1 8 → v = 3 → Q (some (.long (jL (M 12 k)))) M) (h4 : 0 ≤ k → k < M 1 8 → v = 4 → Q (some (.long (jL (M 13 k)))) M) (h5 : 0 ≤ k → k < M 1 8 → v = 5 → M 14 k = -1 → Q (some (.long (jL (-9000000000000000005)))) M) (h6 : 0 ≤ k → k < M 1 8 → v = 5 → M 14 k ≠ -1 → Q (some (.long (jL (M 14 k)))) M) : jN G mX7_told (d + 2) [.ref (jad G 0), .int (jI k), .int (jI v)] M Q := by
  show jM G mX7_told (d + 2) 0 [.ref (jad G 0), .int (jI k), .int (jI v)] [] M Q
  have hz := jn1 hI
  refine jr_aload_n (n := 1) dX7_told_0 rfl rfl ?_
  refine jr_getR (n := 4) dX7_told_1 rfl fX7_10 rfl (by decide) (by decide) rfl ?_
  refine jr_iload_n (n := 5) dX7_told_4 rfl rfl ?_
  refine jr_cV1 (n := 8) (ci := 2) (ν := mX2_has) dX7_told_5 rfl lX7_99 kX2_has iX2_has rfl ⟨_, rfl, rfl⟩ (by decide) (Nat.le_of_ble_eq_true rfl) (Nat.le_of_ble_eq_true rfl) rfl ?_
  refine c_hasC (by omega) (by omega) (fun b5 b5b => ?_) (fun b5 => ?_)
  · refine jr_ifT_ne (t := 15) dX7_told_8 (by decide) (by decide) (by decide) ?_
    have hr := jn3 hI k (by omega) (by omega)
    refine jr_iload_n (n := 16) dX7_told_15 rfl rfl ?_
    by_cases hs16 : v < 0 ∨ 5 < v
    · refine jr_tabO (t := 140) dX7_told_16 (by omega) hs16 (by decide) ?_
      refine jr_ldc2 (n := 143) dX7_told_140 rfl rfl qX7_70 vX7_70 ?_
      refine jr_lret dX7_told_143 rfl ?_
      first | exact hB (by omega) | exact h0 (by omega) (by omega) (by omega) | exact h1 (by omega) (by omega) (by omega) _ hp | exact h2 (by omega) (by omega) (by omega) | exact h3 (by omega) (by omega) (by omega) | exact h4 (by omega) (by omega) (by omega) | exact h5 (by omega) (by omega) (by omega) (by omega) | exact h6 (by omega) (by omega) (by omega) (by omega)
    have hs16_ : v = 0 ∨ v = 1 ∨ v = 2 ∨ v = 3 ∨ v = 4 ∨ v = 5 := by omega
    rcases hs16_ with hv16 | hv16 | hv16 | hv16 | hv16 | hv16
    · refine jr_tabI (t := 56) (off := 40) dX7_told_16 (by omega) (by omega) (by omega) (by rw [hv16]; rfl) (by decide) ?_
      refine jr_aload_n (n := 57) dX7_told_56 rfl rfl ?_
      refine jr_getR (n := 60) dX7_told_57 rfl fX7_10 rfl (by decide) (by decide) rfl ?_
      refine jr_getR (n := 63) dX7_told_60 rfl fX7_117 rfl (by decide) (by decide) rfl ?_
      refine jr_iload_n (n := 64) dX7_told_63 rfl rfl ?_
      refine jr_iald (n := 65) dX7_told_64 rfl rfl (by decide) (by omega) (by omega) ?_
      refine jr_i2l (n := 66) dX7_told_65 rfl (by omega) ?_
      refine jr_lret dX7_told_66 rfl ?_
      first | exact hB (by omega) | exact h0 (by omega) (by omega) (by omega) | exact h1 (by omega) (by omega) (by omega) _ hp | exact h2 (by omega) (by omega) (by omega) | exact h3 (by omega) (by omega) (by omega) | exact h4 (by omega) (by omega) (by omega) | exact h5 (by omega) (by omega) (by omega) (by omega) | exact h6 (by omega) (by omega) (by omega) (by omega)
    · refine jr_tabI (t := 67) (off := 51) dX7_told_16 (by omega) (by omega) (by omega) (by rw [hv16]; rfl) (by decide) ?_
      refine jr_aload_n (n := 68) dX7_told_67 rfl rfl ?_
      refine jr_getR (n := 71) dX7_told_68 rfl fX7_10 rfl (by decide) (by decide) rfl ?_
      refine jr_iload_n (n := 72) dX7_told_71 rfl rfl ?_
      refine jr_cV1 (n := 75) (ci := 2) (ν := mX2_placeOf) dX7_told_72 rfl lX7_120 kX2_placeOf iX2_placeOf rfl ⟨_, rfl, rfl⟩ (by decide) (Nat.le_of_ble_eq_true rfl) (Nat.le_of_ble_eq_true rfl) rfl ?_
      obtain ⟨p, hp⟩ := jpl_of hI (k := k) (by omega) (by omega)
      have hs := jn2 hI _ hr.1.1 hr.1.2
      have hp0 := hp.1
      have hp1 := hp.2.1
      refine c_placeOf (by omega) hr.1 hs.2 (jpl_R hI (by omega) (by omega)) hp ?_
      refine jr_i2l (n := 76) dX7_told_75 rfl (by omega) ?_
      refine jr_lret dX7_told_76 rfl ?_
      first | exact hB (by omega) | exact h0 (by omega) (by omega) (by omega) | exact h1 (by omega) (by omega) (by omega) _ hp | exact h2 (by omega) (by omega) (by omega) | exact h3 (by omega) (by omega) (by omega) | exact h4 (by omega) (by omega) (by omega) | exact h5 (by omega) (by omega) (by omega) (by omega) | exact h6 (by omega) (by omega) (by omega) (by omega)
    · refine jr_tabI (t := 77) (off := 61) dX7_told_16 (by omega) (by omega) (by omega) (by rw [hv16]; rfl) (by decide) ?_
      refine jr_aload_n (n := 78) dX7_told_77 rfl rfl ?_
      refine jr_getR (n := 81) dX7_told_78 rfl fX7_10 rfl (by decide) (by decide) rfl ?_
      refine jr_getR (n := 84) dX7_told_81 rfl fX7_124 rfl (by decide) (by decide) rfl ?_
      refine jr_iload_n (n := 85) dX7_told_84 rfl rfl ?_
      refine jr_iald (n := 86) dX7_told_85 rfl rfl (by decide) (by omega) (by omega) ?_
      refine jr_i2l (n := 87) dX7_told_86 rfl (by omega) ?_
      refine jr_lret dX7_told_87 rfl ?_
      first | exact hB (by omega) | exact h0 (by omega) (by omega) (by omega) | exact h1 (by omega) (by omega) (by omega) _ hp | exact h2 (by omega) (by omega) (by omega) | exact h3 (by omega) (by omega) (by omega) | exact h4 (by omega) (by omega) (by omega) | exact h5 (by omega) (by omega) (by omega) (by omega) | exact h6 (by omega) (by omega) (by omega) (by omega)
    · refine jr_tabI (t := 88) (off := 72) dX7_told_16 (by omega) (by omega) (by omega) (by rw [hv16]; rfl) (by decide) ?_
      refine jr_aload_n (n := 89) dX7_told_88 rfl rfl ?_
      refine jr_getR (n := 92) dX7_told_89 rfl fX7_10 rfl (by decide) (by decide) rfl ?_
      refine jr_getR (n := 95) dX7_told_92 rfl fX7_114 rfl (by decide) (by decide) rfl ?_
      refine jr_iload_n (n := 96) dX7_told_95 rfl rfl ?_
      refine jr_iald (n := 97) dX7_told_96 rfl rfl (by decide) (by omega) (by omega) ?_
      refine jr_i2l (n := 98) dX7_told_97 rfl (by omega) ?_
      refine jr_lret dX7_told_98 rfl ?_
      first | exact hB (by omega) | exact h0 (by omega) (by omega) (by omega) | exact h1 (by omega) (by omega) (by omega) _ hp | exact h2 (by omega) (by omega) (by omega) | exact h3 (by omega) (by omega) (by omega) | exact h4 (by omega) (by omega) (by omega) | exact h5 (by omega) (by omega) (by omega) (by omega) | exact h6 (by omega) (by omega) (by omega) (by omega)
    · refine jr_tabI (t := 99) (off := 83) dX7_told_16 (by omega) (by omega) (by omega) (by rw [hv16]; rfl) (by decide) ?_
      refine jr_aload_n (n := 100) dX7_told_99 rfl rfl ?_
      refine jr_getR (n := 103) dX7_told_100 rfl fX7_10 rfl (by decide) (by decide) rfl ?_
      refine jr_getR (n := 106) dX7_told_103 rfl fX7_100 rfl (by decide) (by decide) rfl ?_
      refine jr_iload_n (n := 107) dX7_told_106 rfl rfl ?_
      refine jr_iald (n := 108) dX7_told_107 rfl rfl (by decide) (by omega) (by omega) ?_
      refine jr_i2l (n := 109) dX7_told_108 rfl (by omega) ?_
      refine jr_lret dX7_told_109 rfl ?_
      first | exact hB (by omega) | exact h0 (by omega) (by omega) (by omega) | exact h1 (by omega) (by omega) (by omega) _ hp | exact h2 (by omega) (by omega) (by omega) | exact h3 (by omega) (by omega) (by omega) | exact h4 (by omega) (by omega) (by omega) | exact h5 (by omega) (by omega) (by omega) (by omega) | exact h6 (by omega) (by omega) (by omega) (by omega)
    · refine jr_tabI (t := 110) (off := 94) dX7_told_16 (by omega) (by omega) (by omega) (by rw [hv16]; rfl) (by decide) ?_
      refine jr_aload_n (n := 111) dX7_told_110 rfl rfl ?_
      refine jr_getR (n := 114) dX7_told_111 rfl fX7_10 rfl (by decide) (by decide) rfl ?_
      refine jr_getR (n := 117) dX7_told_114 rfl fX7_127 rfl (by decide) (by decide) rfl ?_
      refine jr_iload_n (n := 118) dX7_told_117 rfl rfl ?_
      refine jr_iald (n := 119) dX7_told_118 rfl rfl (by decide) (by omega) (by omega) ?_
      refine jr_iconst (n := 120) dX7_told_119 rfl ?_
      refine jr_icmp_ne (n := 123) (t := 129) dX7_told_120 (by decide) rfl (by omega) (by omega) (fun b120 => ?_) (fun b120 => ?_)
      · refine jr_aload_n (n := 130) dX7_told_129 rfl rfl ?_
        refine jr_getR (n := 133) dX7_told_130 rfl fX7_10 rfl (by decide) (by decide) rfl ?_
        refine jr_getR (n := 136) dX7_told_133 rfl fX7_127 rfl (by decide) (by decide) rfl ?_
        refine jr_iload_n (n := 137) dX7_told_136 rfl rfl ?_
        refine jr_iald (n := 138) dX7_told_137 rfl rfl (by decide) (by omega) (by omega) ?_
        refine jr_i2l (n := 139) dX7_told_138 rfl (by omega) ?_
        refine jr_lret dX7_told_139 rfl ?_
        first | exact hB (by omega) | exact h0 (by omega) (by omega) (by omega) | exact h1 (by omega) (by omega) (by omega) _ hp | exact h2 (by omega) (by omega) (by omega) | exact h3 (by omega) (by omega) (by omega) | exact h4 (by omega) (by omega) (by omega) | exact h5 (by omega) (by omega) (by omega) (by omega) | exact h6 (by omega) (by omega) (by omega) (by omega)
      · refine jr_ldc2 (n := 126) dX7_told_123 rfl rfl qX7_130 vX7_130 ?_
        refine jr_goto (t := 139) dX7_told_126 (by decide) ?_
        refine jr_lret dX7_told_139 rfl ?_
        first | exact hB (by omega) | exact h0 (by omega) (by omega) (by omega) | exact h1 (by omega) (by omega) (by omega) _ hp | exact h2 (by omega) (by omega) (by omega) | exact h3 (by omega) (by omega) (by omega) | exact h4 (by omega) (by omega) (by omega) | exact h5 (by omega) (by omega) (by omega) (by omega) | exact h6 (by omega) (by omega) (by omega) (by omega)
  · refine jr_ifF_ne (n := 11) (t := 15) dX7_told_8 rfl (by decide) (by decide) (by decide) ?_
    refine jr_ldc2 (n := 14) dX7_told_11 rfl rfl qX7_70 vX7_70 ?_
    refine jr_lret dX7_told_14 rfl ?_
    first | exact hB (by omega) | exact h0 (by omega) (by omega) (by omega) | exact h1 (by omega) (by omega) (by omega) _ hp | exact h2 (by omega) (by omega) (by omega) | exact h3 (by omega) (by omega) (by omega) | exact h4 (by omega) (by omega) (by omega) | exact h5 (by omega) (by omega) (by omega) (by omega) | exact h6 (by omega) (by omega) (by omega) (by omega)

theorem e_told {G : jG} {d : Nat} {M : jMem} {Q : Option Value → jMem → Prop} (hI : jO M) {k v : Int} (hk : jR k) (hv : jR v) (hB : ¬ ((0 ≤ k ∧ k < M 8 2) ∧ (0 ≤ v ∧ v ≤ 5)) → Q (some (.long (jL (-9000000000000000001)))) M) (h0 : 0 ≤ k → k < M 8 2 → v = 0 → Q (some (.long (jL (M 40 k)))) M) (h1 : 0 ≤ k → k < M 8 2 → v = 1 → ∀ p, jplo M k p → Q (some (.long (jL p))) M) (h2 : 0 ≤ k → k < M 8 2 → v = 2 → Q (some (.long (jL (M 41 k)))) M) (h3 : 0 ≤ k → k < M 8 2 → v = 3 → Q (some (.long (jL (M 42 k)))) M) (h4 : 0 ≤ k → k < M 8 2 → v = 4 → Q (some (.long (jL (M 43 k)))) M) (h5 : 0 ≤ k → k < M 8 2 → v = 5 → M 44 k = -1 → Q (some (.long (jL (-9000000000000000005)))) M) (h6 : 0 ≤ k → k < M 8 2 → v = 5 → M 44 k ≠ -1 → Q (some (.long (jL (M 44 k)))) M) : jN G mX8_told (d + 2) [.ref (jad G 8), .int (jI k), .int (jI v)] M Q := by
  show jM G mX8_told (d + 2) 0 [.ref (jad G 8), .int (jI k), .int (jI v)] [] M Q
  have hz := jn1 hI
  refine jr_aload_n (n := 1) dX8_told_0 rfl rfl ?_
  refine jr_iload_n (n := 2) dX8_told_1 rfl rfl ?_
  refine jr_cV1 (n := 5) (ci := 8) (ν := mX8_isCase) dX8_told_2 rfl lX8_118 kX8_isCase iX8_isCase rfl ⟨_, rfl, rfl⟩ (by decide) (Nat.le_of_ble_eq_true rfl) (Nat.le_of_ble_eq_true rfl) rfl ?_
  refine e_isCase (by omega) (by omega) (fun b2 b2b => ?_) (fun b2 => ?_)
  · refine jr_ifF_eq (n := 8) (t := 17) dX8_told_5 rfl (by decide) (by decide) (by decide) ?_
    refine jr_iload_n (n := 9) dX8_told_8 rfl rfl ?_
    refine jr_iconst (n := 10) dX8_told_9 rfl ?_
    refine jr_iconst (n := 11) dX8_told_10 rfl ?_
    refine jr_cS3 (n := 14) (ν := mX8_isIn) dX8_told_11 rfl lX8_92 kX8_isIn iX8_isIn (Nat.le_of_ble_eq_true rfl) (Nat.le_of_ble_eq_true rfl) rfl ?_
    refine e_isIn (by omega) (by omega) (by omega) (fun b11 b11b => ?_) (fun b11 => ?_)
    · refine jr_ifT_ne (t := 21) dX8_told_14 (by decide) (by decide) (by decide) ?_
      have hr := jn3 hI k (by omega) (by omega)
      refine jr_iload_n (n := 22) dX8_told_21 rfl rfl ?_
      by_cases hs22 : v < 0 ∨ 4 < v
      · refine jr_tabO (t := 95) dX8_told_22 (by omega) hs22 (by decide) ?_
        refine jr_aload_n (n := 96) dX8_told_95 rfl rfl ?_
        refine jr_getR (n := 99) dX8_told_96 rfl fX8_28 rfl (by decide) (by decide) rfl ?_
        refine jr_iload_n (n := 100) dX8_told_99 rfl rfl ?_
        refine jr_iald (n := 101) dX8_told_100 rfl rfl (by decide) (by omega) (by omega) ?_
        refine jr_if_ge (n := 104) (t := 110) dX8_told_101 (by decide) rfl (by omega) (fun b101 => ?_) (fun b101 => ?_)
        · refine jr_aload_n (n := 111) dX8_told_110 rfl rfl ?_
          refine jr_getR (n := 114) dX8_told_111 rfl fX8_28 rfl (by decide) (by decide) rfl ?_
          refine jr_iload_n (n := 115) dX8_told_114 rfl rfl ?_
          refine jr_iald (n := 116) dX8_told_115 rfl rfl (by decide) (by omega) (by omega) ?_
          refine jr_i2l (n := 117) dX8_told_116 rfl (by omega) ?_
          refine jr_lret dX8_told_117 rfl ?_
          first | exact hB (by omega) | exact h0 (by omega) (by omega) (by omega) | exact h1 (by omega) (by omega) (by omega) _ hp | exact h2 (by omega) (by omega) (by omega) | exact h3 (by omega) (by omega) (by omega) | exact h4 (by omega) (by omega) (by omega) | exact h5 (by omega) (by omega) (by omega) (by omega) | exact h6 (by omega) (by omega) (by omega) (by omega)
        · refine jr_ldc2 (n := 107) dX8_told_104 rfl rfl qX8_129 vX8_129 ?_
          refine jr_goto (t := 117) dX8_told_107 (by decide) ?_
          refine jr_lret dX8_told_117 rfl ?_
          first | exact hB (by omega) | exact h0 (by omega) (by omega) (by omega) | exact h1 (by omega) (by omega) (by omega) _ hp | exact h2 (by omega) (by omega) (by omega) | exact h3 (by omega) (by omega) (by omega) | exact h4 (by omega) (by omega) (by omega) | exact h5 (by omega) (by omega) (by omega) (by omega) | exact h6 (by omega) (by omega) (by omega) (by omega)
      have hs22_ : v = 0 ∨ v = 1 ∨ v = 2 ∨ v = 3 ∨ v = 4 := by omega
      rcases hs22_ with hv22 | hv22 | hv22 | hv22 | hv22
      · refine jr_tabI (t := 56) (off := 34) dX8_told_22 (by omega) (by omega) (by omega) (by rw [hv22]; rfl) (by decide) ?_
        refine jr_aload_n (n := 57) dX8_told_56 rfl rfl ?_
        refine jr_getR (n := 60) dX8_told_57 rfl fX8_16 rfl (by decide) (by decide) rfl ?_
        refine jr_iload_n (n := 61) dX8_told_60 rfl rfl ?_
        refine jr_iald (n := 62) dX8_told_61 rfl rfl (by decide) (by omega) (by omega) ?_
        refine jr_i2l (n := 63) dX8_told_62 rfl (by omega) ?_
        refine jr_lret dX8_told_63 rfl ?_
        first | exact hB (by omega) | exact h0 (by omega) (by omega) (by omega) | exact h1 (by omega) (by omega) (by omega) _ hp | exact h2 (by omega) (by omega) (by omega) | exact h3 (by omega) (by omega) (by omega) | exact h4 (by omega) (by omega) (by omega) | exact h5 (by omega) (by omega) (by omega) (by omega) | exact h6 (by omega) (by omega) (by omega) (by omega)
      · refine jr_tabI (t := 64) (off := 42) dX8_told_22 (by omega) (by omega) (by omega) (by rw [hv22]; rfl) (by decide) ?_
        refine jr_aload_n (n := 65) dX8_told_64 rfl rfl ?_
        refine jr_iload_n (n := 66) dX8_told_65 rfl rfl ?_
        refine jr_cV1 (n := 69) (ci := 8) (ν := mX8_placeOf) dX8_told_66 rfl lX8_125 kX8_placeOf iX8_placeOf rfl ⟨_, rfl, rfl⟩ (by decide) (Nat.le_of_ble_eq_true rfl) (Nat.le_of_ble_eq_true rfl) rfl ?_
        obtain ⟨p, hp⟩ := jplo_of hI (k := k) (by omega) (by omega)
        have hs := jn2 hI _ hr.1.1 hr.1.2
        have hp0 := hp.1
        have hp1 := hp.2.1
        refine e_placeOf (by omega) hr.1 (by omega) (fun q q0 q1 => jplo_R hI (by omega) (by omega) q q0 (by omega)) hp0 hp.2.2.1 hp.2.2.2 ?_
        refine jr_i2l (n := 70) dX8_told_69 rfl (by omega) ?_
        refine jr_lret dX8_told_70 rfl ?_
        first | exact hB (by omega) | exact h0 (by omega) (by omega) (by omega) | exact h1 (by omega) (by omega) (by omega) _ hp | exact h2 (by omega) (by omega) (by omega) | exact h3 (by omega) (by omega) (by omega) | exact h4 (by omega) (by omega) (by omega) | exact h5 (by omega) (by omega) (by omega) (by omega) | exact h6 (by omega) (by omega) (by omega) (by omega)
      · refine jr_tabI (t := 71) (off := 49) dX8_told_22 (by omega) (by omega) (by omega) (by rw [hv22]; rfl) (by decide) ?_
        refine jr_aload_n (n := 72) dX8_told_71 rfl rfl ?_
        refine jr_getR (n := 75) dX8_told_72 rfl fX8_19 rfl (by decide) (by decide) rfl ?_
        refine jr_iload_n (n := 76) dX8_told_75 rfl rfl ?_
        refine jr_iald (n := 77) dX8_told_76 rfl rfl (by decide) (by omega) (by omega) ?_
        refine jr_i2l (n := 78) dX8_told_77 rfl (by omega) ?_
        refine jr_lret dX8_told_78 rfl ?_
        first | exact hB (by omega) | exact h0 (by omega) (by omega) (by omega) | exact h1 (by omega) (by omega) (by omega) _ hp | exact h2 (by omega) (by omega) (by omega) | exact h3 (by omega) (by omega) (by omega) | exact h4 (by omega) (by omega) (by omega) | exact h5 (by omega) (by omega) (by omega) (by omega) | exact h6 (by omega) (by omega) (by omega) (by omega)
      · refine jr_tabI (t := 79) (off := 57) dX8_told_22 (by omega) (by omega) (by omega) (by rw [hv22]; rfl) (by decide) ?_
        refine jr_aload_n (n := 80) dX8_told_79 rfl rfl ?_
        refine jr_getR (n := 83) dX8_told_80 rfl fX8_22 rfl (by decide) (by decide) rfl ?_
        refine jr_iload_n (n := 84) dX8_told_83 rfl rfl ?_
        refine jr_iald (n := 85) dX8_told_84 rfl rfl (by decide) (by omega) (by omega) ?_
        refine jr_i2l (n := 86) dX8_told_85 rfl (by omega) ?_
        refine jr_lret dX8_told_86 rfl ?_
        first | exact hB (by omega) | exact h0 (by omega) (by omega) (by omega) | exact h1 (by omega) (by omega) (by omega) _ hp | exact h2 (by omega) (by omega) (by omega) | exact h3 (by omega) (by omega) (by omega) | exact h4 (by omega) (by omega) (by omega) | exact h5 (by omega) (by omega) (by omega) (by omega) | exact h6 (by omega) (by omega) (by omega) (by omega)
      · refine jr_tabI (t := 87) (off := 65) dX8_told_22 (by omega) (by omega) (by omega) (by rw [hv22]; rfl) (by decide) ?_
        refine jr_aload_n (n := 88) dX8_told_87 rfl rfl ?_
        refine jr_getR (n := 91) dX8_told_88 rfl fX8_25 rfl (by decide) (by decide) rfl ?_
        refine jr_iload_n (n := 92) dX8_told_91 rfl rfl ?_
        refine jr_iald (n := 93) dX8_told_92 rfl rfl (by decide) (by omega) (by omega) ?_
        refine jr_i2l (n := 94) dX8_told_93 rfl (by omega) ?_
        refine jr_lret dX8_told_94 rfl ?_
        first | exact hB (by omega) | exact h0 (by omega) (by omega) (by omega) | exact h1 (by omega) (by omega) (by omega) _ hp | exact h2 (by omega) (by omega) (by omega) | exact h3 (by omega) (by omega) (by omega) | exact h4 (by omega) (by omega) (by omega) | exact h5 (by omega) (by omega) (by omega) (by omega) | exact h6 (by omega) (by omega) (by omega) (by omega)
    · refine jr_ifF_ne (n := 17) (t := 21) dX8_told_14 rfl (by decide) (by decide) (by decide) ?_
      refine jr_ldc2 (n := 20) dX8_told_17 rfl rfl qX8_107 vX8_107 ?_
      refine jr_lret dX8_told_20 rfl ?_
      first | exact hB (by omega) | exact h0 (by omega) (by omega) (by omega) | exact h1 (by omega) (by omega) (by omega) _ hp | exact h2 (by omega) (by omega) (by omega) | exact h3 (by omega) (by omega) (by omega) | exact h4 (by omega) (by omega) (by omega) | exact h5 (by omega) (by omega) (by omega) (by omega) | exact h6 (by omega) (by omega) (by omega) (by omega)
  · refine jr_ifT_eq (t := 17) dX8_told_5 (by decide) (by decide) (by decide) ?_
    refine jr_ldc2 (n := 20) dX8_told_17 rfl rfl qX8_107 vX8_107 ?_
    refine jr_lret dX8_told_20 rfl ?_
    first | exact hB (by omega) | exact h0 (by omega) (by omega) (by omega) | exact h1 (by omega) (by omega) (by omega) _ hp | exact h2 (by omega) (by omega) (by omega) | exact h3 (by omega) (by omega) (by omega) | exact h4 (by omega) (by omega) (by omega) | exact h5 (by omega) (by omega) (by omega) (by omega) | exact h6 (by omega) (by omega) (by omega) (by omega)

theorem c_inList {G : jG} {d : Nat} {M : jMem} {Q : Option Value → jMem → Prop} (hI : jK M) {c p : Int} (hc : jR c) (hp : jR p) (hB : ¬ ((0 ≤ c ∧ c ≤ 2) ∧ 0 ≤ p) → Q (some (.long (jL (-9000000000000000001)))) M) (hN : 0 ≤ c → c ≤ 2 → 0 ≤ p → M 17 c ≤ p → Q (some (.long (jL (-9000000000000000005)))) M) (h : 0 ≤ c → c ≤ 2 → 0 ≤ p → p < M 17 c → Q (some (.long (jL (M 16 (6 * c + p))))) M) : jN G mX7_inList (d + 2) [.ref (jad G 0), .int (jI c), .int (jI p)] M Q := by
  show jM G mX7_inList (d + 2) 0 [.ref (jad G 0), .int (jI c), .int (jI p), .null] [] M Q
  refine jr_iload_n (n := 1) dX7_inList_0 rfl rfl ?_
  refine jr_cS1 (n := 4) (ν := mX7_isCourt) dX7_inList_1 rfl lX7_62 kX7_isCourt iX7_isCourt (Nat.le_of_ble_eq_true rfl) (Nat.le_of_ble_eq_true rfl) rfl ?_
  refine c_isCourt (by omega) (fun b1 b1b => ?_) (fun b1 => ?_)
  · refine jr_ifF_eq (n := 7) (t := 11) dX7_inList_4 rfl (by decide) (by decide) (by decide) ?_
    refine jr_iload_n (n := 8) dX7_inList_7 rfl rfl ?_
    refine jr_if_ge (n := 11) (t := 15) dX7_inList_8 (by decide) rfl (by omega) (fun b8 => ?_) (fun b8 => ?_)
    · have hz := jn1 hI
      have hs := jn2 hI c (by omega) (by omega)
      refine jr_aload_n (n := 16) dX7_inList_15 rfl rfl ?_
      refine jr_getR (n := 19) dX7_inList_16 rfl fX7_10 rfl (by decide) (by decide) rfl ?_
      refine jr_iload_n (n := 20) dX7_inList_19 rfl rfl ?_
      refine jr_iload_n (n := 21) dX7_inList_20 rfl rfl ?_
      refine jr_cV2 (n := 24) (ci := 2) (ν := mX2_caseAt) dX7_inList_21 rfl lX7_132 kX2_caseAt iX2_caseAt rfl ⟨_, rfl, rfl⟩ (by decide) (Nat.le_of_ble_eq_true rfl) (Nat.le_of_ble_eq_true rfl) rfl ?_
      refine c_caseAt (by omega) (by omega) (by omega) (fun b21 b21b => ?_) (fun b21 => ?_)
      · refine jr_istore3 (n := 25) dX7_inList_24 rfl (by decide) rfl ?_
        refine jr_iload_n (n := 26) dX7_inList_25 rfl rfl ?_
        refine jr_iconst (n := 27) dX7_inList_26 rfl ?_
        refine jr_icmp_ne (n := 30) (t := 36) dX7_inList_27 (by decide) rfl (by first | omega | (have hr := (jn6 hI c p (by omega) (by omega) b21 b21b).1; rw [Int.mul_comm 6 c] at hr; omega)) (by omega) (fun b27 => ?_) (fun b27 => ?_)
        · refine jr_iload_n (n := 37) dX7_inList_36 rfl rfl ?_
          refine jr_i2l (n := 38) dX7_inList_37 rfl (by first | omega | (have hr := (jn6 hI c p (by omega) (by omega) b21 b21b).1; rw [Int.mul_comm 6 c] at hr; omega)) ?_
          refine jr_lret dX7_inList_38 rfl ?_
          first | exact hB (by omega) | exact hN (by omega) (by omega) (by omega) (by omega) | (rw [Int.mul_comm 6 c] at h; exact h (by omega) (by omega) (by omega) (by omega)) | (exfalso; have hr := (jn6 hI c p (by omega) (by omega) b21 b21b).1; rw [Int.mul_comm 6 c] at hr; omega) | (exfalso; omega)
        · refine jr_ldc2 (n := 33) dX7_inList_30 rfl rfl qX7_130 vX7_130 ?_
          refine jr_goto (t := 38) dX7_inList_33 (by decide) ?_
          refine jr_lret dX7_inList_38 rfl ?_
          first | exact hB (by omega) | exact hN (by omega) (by omega) (by omega) (by omega) | (rw [Int.mul_comm 6 c] at h; exact h (by omega) (by omega) (by omega) (by omega)) | (exfalso; have hr := (jn6 hI c p (by omega) (by omega) b21 b21b).1; rw [Int.mul_comm 6 c] at hr; omega) | (exfalso; omega)
      · refine jr_istore3 (n := 25) dX7_inList_24 rfl (by decide) rfl ?_
        refine jr_iload_n (n := 26) dX7_inList_25 rfl rfl ?_
        refine jr_iconst (n := 27) dX7_inList_26 rfl ?_
        refine jr_icmp_ne (n := 30) (t := 36) dX7_inList_27 (by decide) rfl (by first | omega | (have hr := (jn6 hI c p (by omega) (by omega) b21 b21b).1; rw [Int.mul_comm 6 c] at hr; omega)) (by omega) (fun b27 => ?_) (fun b27 => ?_)
        · exact absurd b27 (by omega)
        · refine jr_ldc2 (n := 33) dX7_inList_30 rfl rfl qX7_130 vX7_130 ?_
          refine jr_goto (t := 38) dX7_inList_33 (by decide) ?_
          refine jr_lret dX7_inList_38 rfl ?_
          first | exact hB (by omega) | exact hN (by omega) (by omega) (by omega) (by omega) | (rw [Int.mul_comm 6 c] at h; exact h (by omega) (by omega) (by omega) (by omega)) | (exfalso; have hr := (jn6 hI c p (by omega) (by omega) b21 b21b).1; rw [Int.mul_comm 6 c] at hr; omega) | (exfalso; omega)
    · refine jr_ldc2 (n := 14) dX7_inList_11 rfl rfl qX7_70 vX7_70 ?_
      refine jr_lret dX7_inList_14 rfl ?_
      first | exact hB (by omega) | exact hN (by omega) (by omega) (by omega) (by omega) | (rw [Int.mul_comm 6 c] at h; exact h (by omega) (by omega) (by omega) (by omega)) | (exfalso; have hr := (jn6 hI c p (by omega) (by omega) b21 b21b).1; rw [Int.mul_comm 6 c] at hr; omega) | (exfalso; omega)
  · refine jr_ifT_eq (t := 11) dX7_inList_4 (by decide) (by decide) (by decide) ?_
    refine jr_ldc2 (n := 14) dX7_inList_11 rfl rfl qX7_70 vX7_70 ?_
    refine jr_lret dX7_inList_14 rfl ?_
    first | exact hB (by omega) | exact hN (by omega) (by omega) (by omega) (by omega) | (rw [Int.mul_comm 6 c] at h; exact h (by omega) (by omega) (by omega) (by omega)) | (exfalso; have hr := (jn6 hI c p (by omega) (by omega) b21 b21b).1; rw [Int.mul_comm 6 c] at hr; omega) | (exfalso; omega)

theorem e_inList {G : jG} {d : Nat} {M : jMem} {Q : Option Value → jMem → Prop} (hI : jO M) {c p : Int} (hc : jR c) (hp : jR p) (hB : ¬ ((0 ≤ c ∧ c ≤ 2) ∧ 0 ≤ p) → Q (some (.long (jL (-9000000000000000001)))) M) (hN : 0 ≤ c → c ≤ 2 → 0 ≤ p → M 38 c ≤ p → Q (some (.long (jL (-9000000000000000005)))) M) (h : 0 ≤ c → c ≤ 2 → 0 ≤ p → p < M 38 c → Q (some (.long (jL (M 39 (6 * c + p))))) M) : jN G mX8_inList (d + 2) [.ref (jad G 8), .int (jI c), .int (jI p)] M Q := by
  show jM G mX8_inList (d + 2) 0 [.ref (jad G 8), .int (jI c), .int (jI p)] [] M Q
  refine jr_iload_n (n := 1) dX8_inList_0 rfl rfl ?_
  refine jr_cS1 (n := 4) (ν := mX8_isCourt) dX8_inList_1 rfl lX8_103 kX8_isCourt iX8_isCourt (Nat.le_of_ble_eq_true rfl) (Nat.le_of_ble_eq_true rfl) rfl ?_
  refine e_isCourt (by omega) (fun b1 b1b => ?_) (fun b1 => ?_)
  · refine jr_ifF_eq (n := 7) (t := 11) dX8_inList_4 rfl (by decide) (by decide) (by decide) ?_
    refine jr_iload_n (n := 8) dX8_inList_7 rfl rfl ?_
    refine jr_if_ge (n := 11) (t := 15) dX8_inList_8 (by decide) rfl (by omega) (fun b8 => ?_) (fun b8 => ?_)
    · have hz := jn1 hI
      have hs := jn2 hI c (by omega) (by omega)
      refine jr_iload_n (n := 16) dX8_inList_15 rfl rfl ?_
      refine jr_aload_n (n := 17) dX8_inList_16 rfl rfl ?_
      refine jr_getR (n := 20) dX8_inList_17 rfl fX8_7 rfl (by decide) (by decide) rfl ?_
      refine jr_iload_n (n := 21) dX8_inList_20 rfl rfl ?_
      refine jr_iald (n := 22) dX8_inList_21 rfl rfl (by decide) (by omega) (by omega) ?_
      refine jr_icmp_ge (n := 25) (t := 40) dX8_inList_22 (by decide) rfl (by omega) (by omega) (fun b22 => ?_) (fun b22 => ?_)
      · refine jr_ldc2 (n := 43) dX8_inList_40 rfl rfl qX8_129 vX8_129 ?_
        refine jr_lret dX8_inList_43 rfl ?_
        first | exact hB (by omega) | exact hN (by omega) (by omega) (by omega) (by omega) | exact h (by omega) (by omega) (by omega) (by omega)
      · refine jr_aload_n (n := 26) dX8_inList_25 rfl rfl ?_
        refine jr_getR (n := 29) dX8_inList_26 rfl fX8_13 rfl (by decide) (by decide) rfl ?_
        refine jr_bipush (n := 31) dX8_inList_29 rfl (by decide) ?_
        refine jr_iload_n (n := 32) dX8_inList_31 rfl rfl ?_
        refine jr_imul (n := 33) dX8_inList_32 rfl ?_
        refine jr_iload_n (n := 34) dX8_inList_33 rfl rfl ?_
        refine jr_iadd (n := 35) dX8_inList_34 rfl ?_
        refine jr_iald (n := 36) dX8_inList_35 rfl rfl (by decide) (by omega) (by omega) ?_
        refine jr_i2l (n := 37) dX8_inList_36 rfl (by have hr := (jn6 hI c p (by omega) (by omega) (by omega) (by omega)).1; omega) ?_
        refine jr_goto (t := 43) dX8_inList_37 (by decide) ?_
        refine jr_lret dX8_inList_43 rfl ?_
        first | exact hB (by omega) | exact hN (by omega) (by omega) (by omega) (by omega) | exact h (by omega) (by omega) (by omega) (by omega)
    · refine jr_ldc2 (n := 14) dX8_inList_11 rfl rfl qX8_107 vX8_107 ?_
      refine jr_lret dX8_inList_14 rfl ?_
      first | exact hB (by omega) | exact hN (by omega) (by omega) (by omega) (by omega) | exact h (by omega) (by omega) (by omega) (by omega)
  · refine jr_ifT_eq (t := 11) dX8_inList_4 (by decide) (by decide) (by decide) ?_
    refine jr_ldc2 (n := 14) dX8_inList_11 rfl rfl qX8_107 vX8_107 ?_
    refine jr_lret dX8_inList_14 rfl ?_
    first | exact hB (by omega) | exact hN (by omega) (by omega) (by omega) (by omega) | exact h (by omega) (by omega) (by omega) (by omega)

def jrl (v : Int) : Int := jsv 1 v
def jrh (v : Int) : Int := jsv 2 v
theorem jrule_R {v : Int} (h0 : 0 ≤ v) (h1 : v ≤ 4) : (v = 0 ∧ jsv 1 v = 1 ∧ jsv 2 v = 20) ∨ (v = 1 ∧ jsv 1 v = 0 ∧ jsv 2 v = 200) ∨ (2 ≤ v ∧ jsv 1 v = 0 ∧ jsv 2 v = 100) := by
  have : v = 0 ∨ v = 1 ∨ v = 2 ∨ v = 3 ∨ v = 4 := by omega
  rcases this with h | h | h | h | h <;> subst h <;> decide
theorem c_rule {G : jG} {d : Nat} {M : jMem} {Q : Option Value → jMem → Prop} (hI : jK M) {v z : Int} (hv : jR v) (hz : jR z) (hB : ¬ ((0 ≤ v ∧ v ≤ 4) ∧ (jsv 1 v ≤ z ∧ z ≤ jsv 2 v)) → Q (some (.long (jL (-9000000000000000001)))) M) (h : 0 ≤ v → v ≤ 4 → jsv 1 v ≤ z → z ≤ jsv 2 v → Q (some (.long (jL (M 9 v)))) (jup M 9 v z)) : jN G mX7_rule (d + 2) [.ref (jad G 0), .int (jI v), .int (jI z)] M Q := by
  show jM G mX7_rule (d + 2) 0 [.ref (jad G 0), .int (jI v), .int (jI z), .null] [] M Q
  refine jr_iload_n (n := 1) dX7_rule_0 rfl rfl ?_
  refine jr_iconst (n := 2) dX7_rule_1 rfl ?_
  refine jr_iconst (n := 3) dX7_rule_2 rfl ?_
  refine jr_cS3 (n := 6) (ν := mX7_isWithin) dX7_rule_3 rfl lX7_66 kX7_isWithin iX7_isWithin (Nat.le_of_ble_eq_true rfl) (Nat.le_of_ble_eq_true rfl) rfl ?_
  refine c_isWithin (by omega) (by omega) (by omega) (fun b3 b3b => ?_) (fun b3 => ?_)
  · refine jr_ifF_eq (n := 9) (t := 26) dX7_rule_6 rfl (by decide) (by decide) (by decide) ?_
    have hu := jrule_R (v := v) (by omega) (by omega)
    have hr := jn11 hI v (by omega) (by omega)
    refine jr_iload_n (n := 10) dX7_rule_9 rfl rfl ?_
    refine jr_gets (n := 13) (t := 1) dX7_rule_10 rfl (by decide) sX7_135 ?_
    refine jr_iload_n (n := 14) dX7_rule_13 rfl rfl ?_
    refine jr_sald (n := 15) dX7_rule_14 rfl (by decide) (by omega) (by omega) ?_
    refine jr_gets (n := 18) (t := 2) dX7_rule_15 rfl (by decide) sX7_138 ?_
    refine jr_iload_n (n := 19) dX7_rule_18 rfl rfl ?_
    refine jr_sald (n := 20) dX7_rule_19 rfl (by decide) (by omega) (by omega) ?_
    refine jr_cS3 (n := 23) (ν := mX7_isWithin) dX7_rule_20 rfl lX7_66 kX7_isWithin iX7_isWithin (Nat.le_of_ble_eq_true rfl) (Nat.le_of_ble_eq_true rfl) rfl ?_
    refine c_isWithin (by omega) (by omega) (by omega) (fun b20 b20b => ?_) (fun b20 => ?_)
    · refine jr_ifT_ne (t := 30) dX7_rule_23 (by decide) (by decide) (by decide) ?_
      refine jr_aload_n (n := 31) dX7_rule_30 rfl rfl ?_
      refine jr_getR (n := 34) dX7_rule_31 rfl fX7_58 rfl (by decide) (by decide) rfl ?_
      refine jr_iload_n (n := 35) dX7_rule_34 rfl rfl ?_
      refine jr_iald (n := 36) dX7_rule_35 rfl rfl (by decide) (by omega) (by omega) ?_
      refine jr_istore3 (n := 37) dX7_rule_36 rfl (by decide) rfl ?_
      refine jr_aload_n (n := 38) dX7_rule_37 rfl rfl ?_
      refine jr_getR (n := 41) dX7_rule_38 rfl fX7_58 rfl (by decide) (by decide) rfl ?_
      refine jr_iload_n (n := 42) dX7_rule_41 rfl rfl ?_
      refine jr_iload_n (n := 43) dX7_rule_42 rfl rfl ?_
      refine jr_iast (n := 44) dX7_rule_43 rfl rfl (by decide) (by omega) (by omega) ?_
      refine jr_iload_n (n := 45) dX7_rule_44 rfl rfl ?_
      refine jr_i2l (n := 46) dX7_rule_45 rfl (by omega) ?_
      refine jr_lret dX7_rule_46 rfl ?_
      first | exact hB (by omega) | exact h (by omega) (by omega) (by omega) (by omega)
    · refine jr_ifF_ne (n := 26) (t := 30) dX7_rule_23 rfl (by decide) (by decide) (by decide) ?_
      refine jr_ldc2 (n := 29) dX7_rule_26 rfl rfl qX7_70 vX7_70 ?_
      refine jr_lret dX7_rule_29 rfl ?_
      first | exact hB (by omega) | exact h (by omega) (by omega) (by omega) (by omega)
  · refine jr_ifT_eq (t := 26) dX7_rule_6 (by decide) (by decide) (by decide) ?_
    refine jr_ldc2 (n := 29) dX7_rule_26 rfl rfl qX7_70 vX7_70 ?_
    refine jr_lret dX7_rule_29 rfl ?_
    first | exact hB (by omega) | exact h (by omega) (by omega) (by omega) (by omega)

theorem e_rule {G : jG} {d : Nat} {M : jMem} {Q : Option Value → jMem → Prop} (hI : jO M) {v z : Int} (hv : jR v) (hz : jR z) (hB : ¬ ((0 ≤ v ∧ v ≤ 4) ∧ (jsv 1 v ≤ z ∧ z ≤ jsv 2 v)) → Q (some (.long (jL (-9000000000000000001)))) M) (h : 0 ≤ v → v ≤ 4 → jsv 1 v ≤ z → z ≤ jsv 2 v → Q (some (.long (jL (M 49 v)))) (jup M 49 v z)) : jN G mX8_rule (d + 2) [.ref (jad G 8), .int (jI v), .int (jI z)] M Q := by
  show jM G mX8_rule (d + 2) 0 [.ref (jad G 8), .int (jI v), .int (jI z), .null, .null] [] M Q
  refine jr_iload_n (n := 1) dX8_rule_0 rfl rfl ?_
  refine jr_iconst (n := 2) dX8_rule_1 rfl ?_
  refine jr_iconst (n := 3) dX8_rule_2 rfl ?_
  refine jr_cS3 (n := 6) (ν := mX8_isIn) dX8_rule_3 rfl lX8_92 kX8_isIn iX8_isIn (Nat.le_of_ble_eq_true rfl) (Nat.le_of_ble_eq_true rfl) rfl ?_
  refine e_isIn (by omega) (by omega) (by omega) (fun b3 b3b => ?_) (fun b3 => ?_)
  · refine jr_istore3 (n := 7) dX8_rule_6 rfl (by decide) rfl ?_
    refine jr_iload_n (n := 8) dX8_rule_7 rfl rfl ?_
    refine jr_ifF_eq (n := 11) (t := 44) dX8_rule_8 rfl (by decide) (by decide) (by decide) ?_
    have hu := jrule_R (v := v) (by omega) (by omega)
    have hr := jn11 hI v (by omega) (by omega)
    refine jr_iload_n (n := 12) dX8_rule_11 rfl rfl ?_
    refine jr_if_ne (n := 15) (t := 25) dX8_rule_12 (by decide) rfl (by omega) (fun b12 => ?_) (fun b12 => ?_)
    · refine jr_iload_n (n := 26) dX8_rule_25 rfl rfl ?_
      refine jr_iconst (n := 27) dX8_rule_26 rfl ?_
      refine jr_iload_n (n := 28) dX8_rule_27 rfl rfl ?_
      refine jr_iconst (n := 29) dX8_rule_28 rfl ?_
      refine jr_icmp_ne (n := 32) (t := 38) dX8_rule_29 (by decide) rfl (by omega) (by omega) (fun b29 => ?_) (fun b29 => ?_)
      · refine jr_bipush (n := 40) dX8_rule_38 rfl (by decide) ?_
        refine jr_cS3 (n := 43) (ν := mX8_isIn) dX8_rule_40 rfl lX8_92 kX8_isIn iX8_isIn (Nat.le_of_ble_eq_true rfl) (Nat.le_of_ble_eq_true rfl) rfl ?_
        refine e_isIn (by omega) (by omega) (by omega) (fun b40 b40b => ?_) (fun b40 => ?_)
        · refine jr_istore3 (n := 44) dX8_rule_43 rfl (by decide) rfl ?_
          refine jr_iload_n (n := 45) dX8_rule_44 rfl rfl ?_
          refine jr_ifT_ne (t := 52) dX8_rule_45 (by decide) (by decide) (by decide) ?_
          refine jr_aload_n (n := 53) dX8_rule_52 rfl rfl ?_
          refine jr_getR (n := 56) dX8_rule_53 rfl fX8_43 rfl (by decide) (by decide) rfl ?_
          refine jr_iload_n (n := 57) dX8_rule_56 rfl rfl ?_
          refine jr_iald (n := 58) dX8_rule_57 rfl rfl (by decide) (by omega) (by omega) ?_
          refine jr_istore4 (n := 60) dX8_rule_58 rfl (by decide) rfl ?_
          refine jr_aload_n (n := 61) dX8_rule_60 rfl rfl ?_
          refine jr_getR (n := 64) dX8_rule_61 rfl fX8_43 rfl (by decide) (by decide) rfl ?_
          refine jr_iload_n (n := 65) dX8_rule_64 rfl rfl ?_
          refine jr_iload_n (n := 66) dX8_rule_65 rfl rfl ?_
          refine jr_iast (n := 67) dX8_rule_66 rfl rfl (by decide) (by omega) (by omega) ?_
          refine jr_iload (n := 69) dX8_rule_67 rfl rfl ?_
          refine jr_i2l (n := 70) dX8_rule_69 rfl (by omega) ?_
          refine jr_lret dX8_rule_70 rfl ?_
          first | exact hB (by omega) | exact h (by omega) (by omega) (by omega) (by omega)
        · refine jr_istore3 (n := 44) dX8_rule_43 rfl (by decide) rfl ?_
          refine jr_iload_n (n := 45) dX8_rule_44 rfl rfl ?_
          refine jr_ifF_ne (n := 48) (t := 52) dX8_rule_45 rfl (by decide) (by decide) (by decide) ?_
          refine jr_ldc2 (n := 51) dX8_rule_48 rfl rfl qX8_107 vX8_107 ?_
          refine jr_lret dX8_rule_51 rfl ?_
          first | exact hB (by omega) | exact h (by omega) (by omega) (by omega) (by omega)
      · refine jr_sipush (n := 35) dX8_rule_32 rfl (by decide) ?_
        refine jr_goto (t := 40) dX8_rule_35 (by decide) ?_
        refine jr_cS3 (n := 43) (ν := mX8_isIn) dX8_rule_40 rfl lX8_92 kX8_isIn iX8_isIn (Nat.le_of_ble_eq_true rfl) (Nat.le_of_ble_eq_true rfl) rfl ?_
        refine e_isIn (by omega) (by omega) (by omega) (fun b40 b40b => ?_) (fun b40 => ?_)
        · refine jr_istore3 (n := 44) dX8_rule_43 rfl (by decide) rfl ?_
          refine jr_iload_n (n := 45) dX8_rule_44 rfl rfl ?_
          refine jr_ifT_ne (t := 52) dX8_rule_45 (by decide) (by decide) (by decide) ?_
          refine jr_aload_n (n := 53) dX8_rule_52 rfl rfl ?_
          refine jr_getR (n := 56) dX8_rule_53 rfl fX8_43 rfl (by decide) (by decide) rfl ?_
          refine jr_iload_n (n := 57) dX8_rule_56 rfl rfl ?_
          refine jr_iald (n := 58) dX8_rule_57 rfl rfl (by decide) (by omega) (by omega) ?_
          refine jr_istore4 (n := 60) dX8_rule_58 rfl (by decide) rfl ?_
          refine jr_aload_n (n := 61) dX8_rule_60 rfl rfl ?_
          refine jr_getR (n := 64) dX8_rule_61 rfl fX8_43 rfl (by decide) (by decide) rfl ?_
          refine jr_iload_n (n := 65) dX8_rule_64 rfl rfl ?_
          refine jr_iload_n (n := 66) dX8_rule_65 rfl rfl ?_
          refine jr_iast (n := 67) dX8_rule_66 rfl rfl (by decide) (by omega) (by omega) ?_
          refine jr_iload (n := 69) dX8_rule_67 rfl rfl ?_
          refine jr_i2l (n := 70) dX8_rule_69 rfl (by omega) ?_
          refine jr_lret dX8_rule_70 rfl ?_
          first | exact hB (by omega) | exact h (by omega) (by omega) (by omega) (by omega)
        · refine jr_istore3 (n := 44) dX8_rule_43 rfl (by decide) rfl ?_
          refine jr_iload_n (n := 45) dX8_rule_44 rfl rfl ?_
          refine jr_ifF_ne (n := 48) (t := 52) dX8_rule_45 rfl (by decide) (by decide) (by decide) ?_
          refine jr_ldc2 (n := 51) dX8_rule_48 rfl rfl qX8_107 vX8_107 ?_
          refine jr_lret dX8_rule_51 rfl ?_
          first | exact hB (by omega) | exact h (by omega) (by omega) (by omega) (by omega)
    · refine jr_iload_n (n := 16) dX8_rule_15 rfl rfl ?_
      refine jr_iconst (n := 17) dX8_rule_16 rfl ?_
      refine jr_bipush (n := 19) dX8_rule_17 rfl (by decide) ?_
      refine jr_cS3 (n := 22) (ν := mX8_isIn) dX8_rule_19 rfl lX8_92 kX8_isIn iX8_isIn (Nat.le_of_ble_eq_true rfl) (Nat.le_of_ble_eq_true rfl) rfl ?_
      refine e_isIn (by omega) (by omega) (by omega) (fun b19 b19b => ?_) (fun b19 => ?_)
      · refine jr_goto (t := 43) dX8_rule_22 (by decide) ?_
        refine jr_istore3 (n := 44) dX8_rule_43 rfl (by decide) rfl ?_
        refine jr_iload_n (n := 45) dX8_rule_44 rfl rfl ?_
        refine jr_ifT_ne (t := 52) dX8_rule_45 (by decide) (by decide) (by decide) ?_
        refine jr_aload_n (n := 53) dX8_rule_52 rfl rfl ?_
        refine jr_getR (n := 56) dX8_rule_53 rfl fX8_43 rfl (by decide) (by decide) rfl ?_
        refine jr_iload_n (n := 57) dX8_rule_56 rfl rfl ?_
        refine jr_iald (n := 58) dX8_rule_57 rfl rfl (by decide) (by omega) (by omega) ?_
        refine jr_istore4 (n := 60) dX8_rule_58 rfl (by decide) rfl ?_
        refine jr_aload_n (n := 61) dX8_rule_60 rfl rfl ?_
        refine jr_getR (n := 64) dX8_rule_61 rfl fX8_43 rfl (by decide) (by decide) rfl ?_
        refine jr_iload_n (n := 65) dX8_rule_64 rfl rfl ?_
        refine jr_iload_n (n := 66) dX8_rule_65 rfl rfl ?_
        refine jr_iast (n := 67) dX8_rule_66 rfl rfl (by decide) (by omega) (by omega) ?_
        refine jr_iload (n := 69) dX8_rule_67 rfl rfl ?_
        refine jr_i2l (n := 70) dX8_rule_69 rfl (by omega) ?_
        refine jr_lret dX8_rule_70 rfl ?_
        first | exact hB (by omega) | exact h (by omega) (by omega) (by omega) (by omega)
      · refine jr_goto (t := 43) dX8_rule_22 (by decide) ?_
        refine jr_istore3 (n := 44) dX8_rule_43 rfl (by decide) rfl ?_
        refine jr_iload_n (n := 45) dX8_rule_44 rfl rfl ?_
        refine jr_ifF_ne (n := 48) (t := 52) dX8_rule_45 rfl (by decide) (by decide) (by decide) ?_
        refine jr_ldc2 (n := 51) dX8_rule_48 rfl rfl qX8_107 vX8_107 ?_
        refine jr_lret dX8_rule_51 rfl ?_
        first | exact hB (by omega) | exact h (by omega) (by omega) (by omega) (by omega)
  · refine jr_istore3 (n := 7) dX8_rule_6 rfl (by decide) rfl ?_
    refine jr_iload_n (n := 8) dX8_rule_7 rfl rfl ?_
    refine jr_ifT_eq (t := 44) dX8_rule_8 (by decide) (by decide) (by decide) ?_
    refine jr_iload_n (n := 45) dX8_rule_44 rfl rfl ?_
    refine jr_ifF_ne (n := 48) (t := 52) dX8_rule_45 rfl (by decide) (by decide) (by decide) ?_
    refine jr_ldc2 (n := 51) dX8_rule_48 rfl rfl qX8_107 vX8_107 ?_
    refine jr_lret dX8_rule_51 rfl ?_
    first | exact hB (by omega) | exact h (by omega) (by omega) (by omega) (by omega)

theorem c_call {G : jG} {d : Nat} {M : jMem} {Q : Option Value → jMem → Prop} (hI : jK M) {v k z : Int} (hv : jR v) (hk : jR k) (hz : jR z) (hB : ¬ ((0 ≤ v ∧ v < M 2 3) ∧ (0 ≤ k ∧ k < M 1 8) ∧ (0 ≤ z ∧ z ≤ 48)) → Q (some (.long (jL (-9000000000000000001)))) M) (hN : 0 ≤ v → v < M 2 3 → 0 ≤ k → k < M 1 8 → 0 ≤ z → z ≤ 48 → ¬ (jbit (M 13 k) v ∧ M 19 v ≤ z) → Q (some (.long (jL (-9000000000000000002)))) M) (h : 0 ≤ v → v < M 2 3 → 0 ≤ k → k < M 1 8 → 0 ≤ z → z ≤ 48 → jbit (M 13 k) v → M 19 v ≤ z → Q (some (.long (jL (M 15 (k * 10 + v))))) (jup M 15 (k * 10 + v) z)) : jN G mX7_call (d + 2) [.ref (jad G 0), .int (jI v), .int (jI k), .int (jI z)] M Q := by
  show jM G mX7_call (d + 2) 0 [.ref (jad G 0), .int (jI v), .int (jI k), .int (jI z), .null] [] M Q
  have hs := jn1 hI
  refine jr_aload_n (n := 1) dX7_call_0 rfl rfl ?_
  refine jr_getR (n := 4) dX7_call_1 rfl fX7_19 rfl (by decide) (by decide) rfl ?_
  refine jr_iload_n (n := 5) dX7_call_4 rfl rfl ?_
  refine jr_cV1 (n := 8) (ci := 4) (ν := mX4_has) dX7_call_5 rfl lX7_89 kX4_has iX4_has rfl ⟨_, rfl, rfl⟩ (by decide) (Nat.le_of_ble_eq_true rfl) (Nat.le_of_ble_eq_true rfl) rfl ?_
  refine c_hasW (by omega) (by omega) (fun b5 b5b => ?_) (fun b5 => ?_)
  · refine jr_ifF_eq (n := 11) (t := 29) dX7_call_8 rfl (by decide) (by decide) (by decide) ?_
    refine jr_aload_n (n := 12) dX7_call_11 rfl rfl ?_
    refine jr_getR (n := 15) dX7_call_12 rfl fX7_10 rfl (by decide) (by decide) rfl ?_
    refine jr_iload_n (n := 16) dX7_call_15 rfl rfl ?_
    refine jr_cV1 (n := 19) (ci := 2) (ν := mX2_has) dX7_call_16 rfl lX7_99 kX2_has iX2_has rfl ⟨_, rfl, rfl⟩ (by decide) (Nat.le_of_ble_eq_true rfl) (Nat.le_of_ble_eq_true rfl) rfl ?_
    refine c_hasC (by omega) (by omega) (fun b16 b16b => ?_) (fun b16 => ?_)
    · refine jr_ifF_eq (n := 22) (t := 29) dX7_call_19 rfl (by decide) (by decide) (by decide) ?_
      refine jr_iload_n (n := 23) dX7_call_22 rfl rfl ?_
      refine jr_cS1 (n := 26) (ν := mX7_isQuarter) dX7_call_23 rfl lX7_141 kX7_isQuarter iX7_isQuarter (Nat.le_of_ble_eq_true rfl) (Nat.le_of_ble_eq_true rfl) rfl ?_
      refine c_isQuarter (by omega) (fun b23 b23b => ?_) (fun b23 => ?_)
      · refine jr_ifT_ne (t := 33) dX7_call_26 (by decide) (by decide) (by decide) ?_
        refine jr_aload_n (n := 34) dX7_call_33 rfl rfl ?_
        refine jr_getR (n := 37) dX7_call_34 rfl fX7_10 rfl (by decide) (by decide) rfl ?_
        refine jr_iload_n (n := 38) dX7_call_37 rfl rfl ?_
        refine jr_iload_n (n := 39) dX7_call_38 rfl rfl ?_
        refine jr_cV2 (n := 42) (ci := 2) (ν := mX2_hasNeedOf) dX7_call_39 rfl lX7_163 kX2_hasNeedOf iX2_hasNeedOf rfl ⟨_, rfl, rfl⟩ (by decide) (Nat.le_of_ble_eq_true rfl) (Nat.le_of_ble_eq_true rfl) rfl ?_
        refine c_hasNeedOf (by omega) (fun b39 => ?_) (fun b39 => ?_)
        · refine jr_ifF_eq (n := 45) (t := 58) dX7_call_42 rfl (by decide) (by decide) (by decide) ?_
          have hr := jn9 hI v (by omega) (by omega)
          refine jr_iload_n (n := 46) dX7_call_45 rfl rfl ?_
          refine jr_aload_n (n := 47) dX7_call_46 rfl rfl ?_
          refine jr_getR (n := 50) dX7_call_47 rfl fX7_19 rfl (by decide) (by decide) rfl ?_
          refine jr_getR (n := 53) dX7_call_50 rfl fX7_107 rfl (by decide) (by decide) rfl ?_
          refine jr_iload_n (n := 54) dX7_call_53 rfl rfl ?_
          refine jr_iald (n := 55) dX7_call_54 rfl rfl (by decide) (by omega) (by omega) ?_
          refine jr_icmp_ge (n := 58) (t := 62) dX7_call_55 (by decide) rfl (by omega) (by omega) (fun b55 => ?_) (fun b55 => ?_)
          · have hc := jn5 hI (k * 10 + v) (by omega) (by omega)
            refine jr_aload_n (n := 63) dX7_call_62 rfl rfl ?_
            refine jr_getR (n := 66) dX7_call_63 rfl fX7_10 rfl (by decide) (by decide) rfl ?_
            refine jr_iload_n (n := 67) dX7_call_66 rfl rfl ?_
            refine jr_iload_n (n := 68) dX7_call_67 rfl rfl ?_
            refine jr_cV2 (n := 71) (ci := 2) (ν := mX2_quarterFor) dX7_call_68 rfl lX7_168 kX2_quarterFor iX2_quarterFor rfl ⟨_, rfl, rfl⟩ (by decide) (Nat.le_of_ble_eq_true rfl) (Nat.le_of_ble_eq_true rfl) rfl ?_
            refine c_quarterFor (by omega) (by omega) ?_
            refine jr_istore4 (n := 73) dX7_call_71 rfl (by decide) rfl ?_
            refine jr_aload_n (n := 74) dX7_call_73 rfl rfl ?_
            refine jr_getR (n := 77) dX7_call_74 rfl fX7_10 rfl (by decide) (by decide) rfl ?_
            refine jr_iload_n (n := 78) dX7_call_77 rfl rfl ?_
            refine jr_iload_n (n := 79) dX7_call_78 rfl rfl ?_
            refine jr_iload_n (n := 80) dX7_call_79 rfl rfl ?_
            refine jr_cV3 (n := 83) (ci := 2) (ν := mX2_callFor) dX7_call_80 rfl lX7_110 kX2_callFor iX2_callFor rfl ⟨_, rfl, rfl⟩ (by decide) (Nat.le_of_ble_eq_true rfl) (Nat.le_of_ble_eq_true rfl) rfl ?_
            refine c_callFor (by omega) (by omega) ?_
            refine jr_iload (n := 85) dX7_call_83 rfl rfl ?_
            refine jr_i2l (n := 86) dX7_call_85 rfl (by omega) ?_
            refine jr_lret dX7_call_86 rfl ?_
            first | exact hB (by omega) | exact hN (by omega) (by omega) (by omega) (by omega) (by omega) (by omega) (fun z => b39 z.1) | exact hN (by omega) (by omega) (by omega) (by omega) (by omega) (by omega) (fun z => by omega) | exact h (by omega) (by omega) (by omega) (by omega) (by omega) (by omega) b39 (by omega)
          · refine jr_ldc2 (n := 61) dX7_call_58 rfl rfl qX7_166 vX7_166 ?_
            refine jr_lret dX7_call_61 rfl ?_
            first | exact hB (by omega) | exact hN (by omega) (by omega) (by omega) (by omega) (by omega) (by omega) (fun z => b39 z.1) | exact hN (by omega) (by omega) (by omega) (by omega) (by omega) (by omega) (fun z => by omega) | exact h (by omega) (by omega) (by omega) (by omega) (by omega) (by omega) b39 (by omega)
        · refine jr_ifT_eq (t := 58) dX7_call_42 (by decide) (by decide) (by decide) ?_
          refine jr_ldc2 (n := 61) dX7_call_58 rfl rfl qX7_166 vX7_166 ?_
          refine jr_lret dX7_call_61 rfl ?_
          first | exact hB (by omega) | exact hN (by omega) (by omega) (by omega) (by omega) (by omega) (by omega) (fun z => b39 z.1) | exact hN (by omega) (by omega) (by omega) (by omega) (by omega) (by omega) (fun z => by omega) | exact h (by omega) (by omega) (by omega) (by omega) (by omega) (by omega) b39 (by omega)
      · refine jr_ifF_ne (n := 29) (t := 33) dX7_call_26 rfl (by decide) (by decide) (by decide) ?_
        refine jr_ldc2 (n := 32) dX7_call_29 rfl rfl qX7_70 vX7_70 ?_
        refine jr_lret dX7_call_32 rfl ?_
        first | exact hB (by omega) | exact hN (by omega) (by omega) (by omega) (by omega) (by omega) (by omega) (fun z => b39 z.1) | exact hN (by omega) (by omega) (by omega) (by omega) (by omega) (by omega) (fun z => by omega) | exact h (by omega) (by omega) (by omega) (by omega) (by omega) (by omega) b39 (by omega)
    · refine jr_ifT_eq (t := 29) dX7_call_19 (by decide) (by decide) (by decide) ?_
      refine jr_ldc2 (n := 32) dX7_call_29 rfl rfl qX7_70 vX7_70 ?_
      refine jr_lret dX7_call_32 rfl ?_
      first | exact hB (by omega) | exact hN (by omega) (by omega) (by omega) (by omega) (by omega) (by omega) (fun z => b39 z.1) | exact hN (by omega) (by omega) (by omega) (by omega) (by omega) (by omega) (fun z => by omega) | exact h (by omega) (by omega) (by omega) (by omega) (by omega) (by omega) b39 (by omega)
  · refine jr_ifT_eq (t := 29) dX7_call_8 (by decide) (by decide) (by decide) ?_
    refine jr_ldc2 (n := 32) dX7_call_29 rfl rfl qX7_70 vX7_70 ?_
    refine jr_lret dX7_call_32 rfl ?_
    first | exact hB (by omega) | exact hN (by omega) (by omega) (by omega) (by omega) (by omega) (by omega) (fun z => b39 z.1) | exact hN (by omega) (by omega) (by omega) (by omega) (by omega) (by omega) (fun z => by omega) | exact h (by omega) (by omega) (by omega) (by omega) (by omega) (by omega) b39 (by omega)

theorem e_call {G : jG} {d : Nat} {M : jMem} {Q : Option Value → jMem → Prop} (hI : jO M) {v k z : Int} (hv : jR v) (hk : jR k) (hz : jR z) (hB : ¬ ((0 ≤ v ∧ v < M 8 8) ∧ (0 ≤ k ∧ k < M 8 2) ∧ (0 ≤ z ∧ z ≤ 48)) → Q (some (.long (jL (-9000000000000000001)))) M) (hN : 0 ≤ v → v < M 8 8 → 0 ≤ k → k < M 8 2 → 0 ≤ z → z ≤ 48 → ¬ (jbit (M 43 k) v ∧ M 46 v ≤ z) → Q (some (.long (jL (-9000000000000000002)))) M) (h : 0 ≤ v → v < M 8 8 → 0 ≤ k → k < M 8 2 → 0 ≤ z → z ≤ 48 → jbit (M 43 k) v → M 46 v ≤ z → Q (some (.long (jL (M 48 (10 * k + v))))) (jup M 48 (10 * k + v) z)) : jN G mX8_call (d + 2) [.ref (jad G 8), .int (jI v), .int (jI k), .int (jI z)] M Q := by
  show jM G mX8_call (d + 2) 0 [.ref (jad G 8), .int (jI v), .int (jI k), .int (jI z), .null, .null] [] M Q
  have hs := jn1 hI
  refine jr_aload_n (n := 1) dX8_call_0 rfl rfl ?_
  refine jr_iload_n (n := 2) dX8_call_1 rfl rfl ?_
  refine jr_cV1 (n := 5) (ci := 8) (ν := mX8_isWitness) dX8_call_2 rfl lX8_115 kX8_isWitness iX8_isWitness rfl ⟨_, rfl, rfl⟩ (by decide) (Nat.le_of_ble_eq_true rfl) (Nat.le_of_ble_eq_true rfl) rfl ?_
  refine e_isWitness (by omega) (by omega) (fun b2 b2b => ?_) (fun b2 => ?_)
  · refine jr_ifF_eq (n := 8) (t := 26) dX8_call_5 rfl (by decide) (by decide) (by decide) ?_
    refine jr_aload_n (n := 9) dX8_call_8 rfl rfl ?_
    refine jr_iload_n (n := 10) dX8_call_9 rfl rfl ?_
    refine jr_cV1 (n := 13) (ci := 8) (ν := mX8_isCase) dX8_call_10 rfl lX8_118 kX8_isCase iX8_isCase rfl ⟨_, rfl, rfl⟩ (by decide) (Nat.le_of_ble_eq_true rfl) (Nat.le_of_ble_eq_true rfl) rfl ?_
    refine e_isCase (by omega) (by omega) (fun b10 b10b => ?_) (fun b10 => ?_)
    · refine jr_ifF_eq (n := 16) (t := 26) dX8_call_13 rfl (by decide) (by decide) (by decide) ?_
      refine jr_iload_n (n := 17) dX8_call_16 rfl rfl ?_
      refine jr_iconst (n := 18) dX8_call_17 rfl ?_
      refine jr_bipush (n := 20) dX8_call_18 rfl (by decide) ?_
      refine jr_cS3 (n := 23) (ν := mX8_isIn) dX8_call_20 rfl lX8_92 kX8_isIn iX8_isIn (Nat.le_of_ble_eq_true rfl) (Nat.le_of_ble_eq_true rfl) rfl ?_
      refine e_isIn (by omega) (by omega) (by omega) (fun b20 b20b => ?_) (fun b20 => ?_)
      · refine jr_ifT_ne (t := 30) dX8_call_23 (by decide) (by decide) (by decide) ?_
        refine jr_aload_n (n := 31) dX8_call_30 rfl rfl ?_
        refine jr_iload_n (n := 32) dX8_call_31 rfl rfl ?_
        refine jr_iload_n (n := 33) dX8_call_32 rfl rfl ?_
        refine jr_cV2 (n := 36) (ci := 8) (ν := mX8_needs1) dX8_call_33 rfl lX8_121 kX8_needs1 iX8_needs1 rfl ⟨_, rfl, rfl⟩ (by decide) (Nat.le_of_ble_eq_true rfl) (Nat.le_of_ble_eq_true rfl) rfl ?_
        refine e_needs1 (by omega) (fun b33 => ?_) (fun b33 => ?_)
        · refine jr_ifF_eq (n := 39) (t := 49) dX8_call_36 rfl (by decide) (by decide) (by decide) ?_
          have hr := jn9 hI v (by omega) (by omega)
          refine jr_iload_n (n := 40) dX8_call_39 rfl rfl ?_
          refine jr_aload_n (n := 41) dX8_call_40 rfl rfl ?_
          refine jr_getR (n := 44) dX8_call_41 rfl fX8_34 rfl (by decide) (by decide) rfl ?_
          refine jr_iload_n (n := 45) dX8_call_44 rfl rfl ?_
          refine jr_iald (n := 46) dX8_call_45 rfl rfl (by decide) (by omega) (by omega) ?_
          refine jr_icmp_ge (n := 49) (t := 53) dX8_call_46 (by decide) rfl (by omega) (by omega) (fun b46 => ?_) (fun b46 => ?_)
          · have hc := jn5 hI (10 * k + v) (by omega) (by omega)
            refine jr_bipush (n := 55) dX8_call_53 rfl (by decide) ?_
            refine jr_iload_n (n := 56) dX8_call_55 rfl rfl ?_
            refine jr_imul (n := 57) dX8_call_56 rfl ?_
            refine jr_iload_n (n := 58) dX8_call_57 rfl rfl ?_
            refine jr_iadd (n := 59) dX8_call_58 rfl ?_
            refine jr_istore4 (n := 61) dX8_call_59 rfl (by decide) rfl ?_
            refine jr_aload_n (n := 62) dX8_call_61 rfl rfl ?_
            refine jr_getR (n := 65) dX8_call_62 rfl fX8_40 rfl (by decide) (by decide) rfl ?_
            refine jr_iload (n := 67) dX8_call_65 rfl rfl ?_
            refine jr_iald (n := 68) dX8_call_67 rfl rfl (by decide) (by omega) (by omega) ?_
            refine jr_istore5 (n := 70) dX8_call_68 rfl (by decide) rfl ?_
            refine jr_aload_n (n := 71) dX8_call_70 rfl rfl ?_
            refine jr_getR (n := 74) dX8_call_71 rfl fX8_40 rfl (by decide) (by decide) rfl ?_
            refine jr_iload (n := 76) dX8_call_74 rfl rfl ?_
            refine jr_iload_n (n := 77) dX8_call_76 rfl rfl ?_
            refine jr_iast (n := 78) dX8_call_77 rfl rfl (by decide) (by omega) (by omega) ?_
            refine jr_iload (n := 80) dX8_call_78 rfl rfl ?_
            refine jr_i2l (n := 81) dX8_call_80 rfl (by omega) ?_
            refine jr_lret dX8_call_81 rfl ?_
            first | exact hB (by omega) | exact hN (by omega) (by omega) (by omega) (by omega) (by omega) (by omega) (fun z => b33 z.1) | exact hN (by omega) (by omega) (by omega) (by omega) (by omega) (by omega) (fun z => by omega) | exact h (by omega) (by omega) (by omega) (by omega) (by omega) (by omega) b33 (by omega)
          · refine jr_ldc2 (n := 52) dX8_call_49 rfl rfl qX8_145 vX8_145 ?_
            refine jr_lret dX8_call_52 rfl ?_
            first | exact hB (by omega) | exact hN (by omega) (by omega) (by omega) (by omega) (by omega) (by omega) (fun z => b33 z.1) | exact hN (by omega) (by omega) (by omega) (by omega) (by omega) (by omega) (fun z => by omega) | exact h (by omega) (by omega) (by omega) (by omega) (by omega) (by omega) b33 (by omega)
        · refine jr_ifT_eq (t := 49) dX8_call_36 (by decide) (by decide) (by decide) ?_
          refine jr_ldc2 (n := 52) dX8_call_49 rfl rfl qX8_145 vX8_145 ?_
          refine jr_lret dX8_call_52 rfl ?_
          first | exact hB (by omega) | exact hN (by omega) (by omega) (by omega) (by omega) (by omega) (by omega) (fun z => b33 z.1) | exact hN (by omega) (by omega) (by omega) (by omega) (by omega) (by omega) (fun z => by omega) | exact h (by omega) (by omega) (by omega) (by omega) (by omega) (by omega) b33 (by omega)
      · refine jr_ifF_ne (n := 26) (t := 30) dX8_call_23 rfl (by decide) (by decide) (by decide) ?_
        refine jr_ldc2 (n := 29) dX8_call_26 rfl rfl qX8_107 vX8_107 ?_
        refine jr_lret dX8_call_29 rfl ?_
        first | exact hB (by omega) | exact hN (by omega) (by omega) (by omega) (by omega) (by omega) (by omega) (fun z => b33 z.1) | exact hN (by omega) (by omega) (by omega) (by omega) (by omega) (by omega) (fun z => by omega) | exact h (by omega) (by omega) (by omega) (by omega) (by omega) (by omega) b33 (by omega)
    · refine jr_ifT_eq (t := 26) dX8_call_13 (by decide) (by decide) (by decide) ?_
      refine jr_ldc2 (n := 29) dX8_call_26 rfl rfl qX8_107 vX8_107 ?_
      refine jr_lret dX8_call_29 rfl ?_
      first | exact hB (by omega) | exact hN (by omega) (by omega) (by omega) (by omega) (by omega) (by omega) (fun z => b33 z.1) | exact hN (by omega) (by omega) (by omega) (by omega) (by omega) (by omega) (fun z => by omega) | exact h (by omega) (by omega) (by omega) (by omega) (by omega) (by omega) b33 (by omega)
  · refine jr_ifT_eq (t := 26) dX8_call_5 (by decide) (by decide) (by decide) ?_
    refine jr_ldc2 (n := 29) dX8_call_26 rfl rfl qX8_107 vX8_107 ?_
    refine jr_lret dX8_call_29 rfl ?_
    first | exact hB (by omega) | exact hN (by omega) (by omega) (by omega) (by omega) (by omega) (by omega) (fun z => b33 z.1) | exact hN (by omega) (by omega) (by omega) (by omega) (by omega) (by omega) (fun z => by omega) | exact h (by omega) (by omega) (by omega) (by omega) (by omega) (by omega) b33 (by omega)

theorem c_called {G : jG} {d : Nat} {M : jMem} {Q : Option Value → jMem → Prop} (hI : jK M) {v k : Int} (hv : jR v) (hk : jR k) (hB : ¬ ((0 ≤ v ∧ v < M 2 3) ∧ (0 ≤ k ∧ k < M 1 8)) → Q (some (.long (jL (-9000000000000000001)))) M) (hN : 0 ≤ v → v < M 2 3 → 0 ≤ k → k < M 1 8 → ¬ jbit (M 13 k) v → Q (some (.long (jL (-9000000000000000002)))) M) (h : 0 ≤ v → v < M 2 3 → 0 ≤ k → k < M 1 8 → jbit (M 13 k) v → Q (some (.long (jL (M 15 (k * 10 + v))))) M) : jN G mX7_called (d + 2) [.ref (jad G 0), .int (jI v), .int (jI k)] M Q := by
  show jM G mX7_called (d + 2) 0 [.ref (jad G 0), .int (jI v), .int (jI k)] [] M Q
  have hs := jn1 hI
  refine jr_aload_n (n := 1) dX7_called_0 rfl rfl ?_
  refine jr_getR (n := 4) dX7_called_1 rfl fX7_19 rfl (by decide) (by decide) rfl ?_
  refine jr_iload_n (n := 5) dX7_called_4 rfl rfl ?_
  refine jr_cV1 (n := 8) (ci := 4) (ν := mX4_has) dX7_called_5 rfl lX7_89 kX4_has iX4_has rfl ⟨_, rfl, rfl⟩ (by decide) (Nat.le_of_ble_eq_true rfl) (Nat.le_of_ble_eq_true rfl) rfl ?_
  refine c_hasW (by omega) (by omega) (fun b5 b5b => ?_) (fun b5 => ?_)
  · refine jr_ifF_eq (n := 11) (t := 22) dX7_called_8 rfl (by decide) (by decide) (by decide) ?_
    refine jr_aload_n (n := 12) dX7_called_11 rfl rfl ?_
    refine jr_getR (n := 15) dX7_called_12 rfl fX7_10 rfl (by decide) (by decide) rfl ?_
    refine jr_iload_n (n := 16) dX7_called_15 rfl rfl ?_
    refine jr_cV1 (n := 19) (ci := 2) (ν := mX2_has) dX7_called_16 rfl lX7_99 kX2_has iX2_has rfl ⟨_, rfl, rfl⟩ (by decide) (Nat.le_of_ble_eq_true rfl) (Nat.le_of_ble_eq_true rfl) rfl ?_
    refine c_hasC (by omega) (by omega) (fun b16 b16b => ?_) (fun b16 => ?_)
    · refine jr_ifT_ne (t := 26) dX7_called_19 (by decide) (by decide) (by decide) ?_
      refine jr_aload_n (n := 27) dX7_called_26 rfl rfl ?_
      refine jr_getR (n := 30) dX7_called_27 rfl fX7_10 rfl (by decide) (by decide) rfl ?_
      refine jr_iload_n (n := 31) dX7_called_30 rfl rfl ?_
      refine jr_iload_n (n := 32) dX7_called_31 rfl rfl ?_
      refine jr_cV2 (n := 35) (ci := 2) (ν := mX2_hasNeedOf) dX7_called_32 rfl lX7_163 kX2_hasNeedOf iX2_hasNeedOf rfl ⟨_, rfl, rfl⟩ (by decide) (Nat.le_of_ble_eq_true rfl) (Nat.le_of_ble_eq_true rfl) rfl ?_
      refine c_hasNeedOf (by omega) (fun b32 => ?_) (fun b32 => ?_)
      · refine jr_ifF_eq (n := 38) (t := 51) dX7_called_35 rfl (by decide) (by decide) (by decide) ?_
        have hc := jn5 hI (k * 10 + v) (by omega) (by omega)
        refine jr_aload_n (n := 39) dX7_called_38 rfl rfl ?_
        refine jr_getR (n := 42) dX7_called_39 rfl fX7_10 rfl (by decide) (by decide) rfl ?_
        refine jr_iload_n (n := 43) dX7_called_42 rfl rfl ?_
        refine jr_iload_n (n := 44) dX7_called_43 rfl rfl ?_
        refine jr_cV2 (n := 47) (ci := 2) (ν := mX2_quarterFor) dX7_called_44 rfl lX7_168 kX2_quarterFor iX2_quarterFor rfl ⟨_, rfl, rfl⟩ (by decide) (Nat.le_of_ble_eq_true rfl) (Nat.le_of_ble_eq_true rfl) rfl ?_
        refine c_quarterFor (by omega) (by omega) ?_
        refine jr_i2l (n := 48) dX7_called_47 rfl (by omega) ?_
        refine jr_goto (t := 54) dX7_called_48 (by decide) ?_
        refine jr_lret dX7_called_54 rfl ?_
        first | exact hB (by omega) | exact hN (by omega) (by omega) (by omega) (by omega) b32 | exact h (by omega) (by omega) (by omega) (by omega) b32
      · refine jr_ifT_eq (t := 51) dX7_called_35 (by decide) (by decide) (by decide) ?_
        refine jr_ldc2 (n := 54) dX7_called_51 rfl rfl qX7_166 vX7_166 ?_
        refine jr_lret dX7_called_54 rfl ?_
        first | exact hB (by omega) | exact hN (by omega) (by omega) (by omega) (by omega) b32 | exact h (by omega) (by omega) (by omega) (by omega) b32
    · refine jr_ifF_ne (n := 22) (t := 26) dX7_called_19 rfl (by decide) (by decide) (by decide) ?_
      refine jr_ldc2 (n := 25) dX7_called_22 rfl rfl qX7_70 vX7_70 ?_
      refine jr_lret dX7_called_25 rfl ?_
      first | exact hB (by omega) | exact hN (by omega) (by omega) (by omega) (by omega) b32 | exact h (by omega) (by omega) (by omega) (by omega) b32
  · refine jr_ifT_eq (t := 22) dX7_called_8 (by decide) (by decide) (by decide) ?_
    refine jr_ldc2 (n := 25) dX7_called_22 rfl rfl qX7_70 vX7_70 ?_
    refine jr_lret dX7_called_25 rfl ?_
    first | exact hB (by omega) | exact hN (by omega) (by omega) (by omega) (by omega) b32 | exact h (by omega) (by omega) (by omega) (by omega) b32

theorem e_called {G : jG} {d : Nat} {M : jMem} {Q : Option Value → jMem → Prop} (hI : jO M) {v k : Int} (hv : jR v) (hk : jR k) (hB : ¬ ((0 ≤ v ∧ v < M 8 8) ∧ (0 ≤ k ∧ k < M 8 2)) → Q (some (.long (jL (-9000000000000000001)))) M) (hN : 0 ≤ v → v < M 8 8 → 0 ≤ k → k < M 8 2 → ¬ jbit (M 43 k) v → Q (some (.long (jL (-9000000000000000002)))) M) (h : 0 ≤ v → v < M 8 8 → 0 ≤ k → k < M 8 2 → jbit (M 43 k) v → Q (some (.long (jL (M 48 (10 * k + v))))) M) : jN G mX8_called (d + 2) [.ref (jad G 8), .int (jI v), .int (jI k)] M Q := by
  show jM G mX8_called (d + 2) 0 [.ref (jad G 8), .int (jI v), .int (jI k)] [] M Q
  have hs := jn1 hI
  refine jr_aload_n (n := 1) dX8_called_0 rfl rfl ?_
  refine jr_iload_n (n := 2) dX8_called_1 rfl rfl ?_
  refine jr_cV1 (n := 5) (ci := 8) (ν := mX8_isWitness) dX8_called_2 rfl lX8_115 kX8_isWitness iX8_isWitness rfl ⟨_, rfl, rfl⟩ (by decide) (Nat.le_of_ble_eq_true rfl) (Nat.le_of_ble_eq_true rfl) rfl ?_
  refine e_isWitness (by omega) (by omega) (fun b2 b2b => ?_) (fun b2 => ?_)
  · refine jr_ifF_eq (n := 8) (t := 16) dX8_called_5 rfl (by decide) (by decide) (by decide) ?_
    refine jr_aload_n (n := 9) dX8_called_8 rfl rfl ?_
    refine jr_iload_n (n := 10) dX8_called_9 rfl rfl ?_
    refine jr_cV1 (n := 13) (ci := 8) (ν := mX8_isCase) dX8_called_10 rfl lX8_118 kX8_isCase iX8_isCase rfl ⟨_, rfl, rfl⟩ (by decide) (Nat.le_of_ble_eq_true rfl) (Nat.le_of_ble_eq_true rfl) rfl ?_
    refine e_isCase (by omega) (by omega) (fun b10 b10b => ?_) (fun b10 => ?_)
    · refine jr_ifT_ne (t := 20) dX8_called_13 (by decide) (by decide) (by decide) ?_
      refine jr_aload_n (n := 21) dX8_called_20 rfl rfl ?_
      refine jr_iload_n (n := 22) dX8_called_21 rfl rfl ?_
      refine jr_iload_n (n := 23) dX8_called_22 rfl rfl ?_
      refine jr_cV2 (n := 26) (ci := 8) (ν := mX8_needs1) dX8_called_23 rfl lX8_121 kX8_needs1 iX8_needs1 rfl ⟨_, rfl, rfl⟩ (by decide) (Nat.le_of_ble_eq_true rfl) (Nat.le_of_ble_eq_true rfl) rfl ?_
      refine e_needs1 (by omega) (fun b23 => ?_) (fun b23 => ?_)
      · refine jr_ifF_eq (n := 29) (t := 44) dX8_called_26 rfl (by decide) (by decide) (by decide) ?_
        have hc := jn5 hI (10 * k + v) (by omega) (by omega)
        refine jr_aload_n (n := 30) dX8_called_29 rfl rfl ?_
        refine jr_getR (n := 33) dX8_called_30 rfl fX8_40 rfl (by decide) (by decide) rfl ?_
        refine jr_bipush (n := 35) dX8_called_33 rfl (by decide) ?_
        refine jr_iload_n (n := 36) dX8_called_35 rfl rfl ?_
        refine jr_imul (n := 37) dX8_called_36 rfl ?_
        refine jr_iload_n (n := 38) dX8_called_37 rfl rfl ?_
        refine jr_iadd (n := 39) dX8_called_38 rfl ?_
        refine jr_iald (n := 40) dX8_called_39 rfl rfl (by decide) (by omega) (by omega) ?_
        refine jr_i2l (n := 41) dX8_called_40 rfl (by omega) ?_
        refine jr_goto (t := 47) dX8_called_41 (by decide) ?_
        refine jr_lret dX8_called_47 rfl ?_
        first | exact hB (by omega) | exact hN (by omega) (by omega) (by omega) (by omega) b23 | exact h (by omega) (by omega) (by omega) (by omega) b23
      · refine jr_ifT_eq (t := 44) dX8_called_26 (by decide) (by decide) (by decide) ?_
        refine jr_ldc2 (n := 47) dX8_called_44 rfl rfl qX8_145 vX8_145 ?_
        refine jr_lret dX8_called_47 rfl ?_
        first | exact hB (by omega) | exact hN (by omega) (by omega) (by omega) (by omega) b23 | exact h (by omega) (by omega) (by omega) (by omega) b23
    · refine jr_ifF_ne (n := 16) (t := 20) dX8_called_13 rfl (by decide) (by decide) (by decide) ?_
      refine jr_ldc2 (n := 19) dX8_called_16 rfl rfl qX8_107 vX8_107 ?_
      refine jr_lret dX8_called_19 rfl ?_
      first | exact hB (by omega) | exact hN (by omega) (by omega) (by omega) (by omega) b23 | exact h (by omega) (by omega) (by omega) (by omega) b23
  · refine jr_ifT_eq (t := 16) dX8_called_5 (by decide) (by decide) (by decide) ?_
    refine jr_ldc2 (n := 19) dX8_called_16 rfl rfl qX8_107 vX8_107 ?_
    refine jr_lret dX8_called_19 rfl ?_
    first | exact hB (by omega) | exact hN (by omega) (by omega) (by omega) (by omega) b23 | exact h (by omega) (by omega) (by omega) (by omega) b23

