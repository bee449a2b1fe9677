/-! begun with the pasted family bt of the kit's laws/BITS.to-paste -/
def bt (x : Int32) (i : Nat) : Bool := x.toBitVec.getLsbD i
theorem b_ext {x y : Int32} (h : ∀ i, i < 32 → bt x i = bt y i) : x = y := Int32.toBitVec_inj.mp (BitVec.eq_of_getLsbD_eq (fun i hi => h i hi))
theorem b_or (x y : Int32) (i : Nat) : bt (x ||| y) i = (bt x i || bt y i) := by unfold bt; rw [Int32.toBitVec_or, BitVec.getLsbD_or]
theorem b_and (x y : Int32) (i : Nat) : bt (x &&& y) i = (bt x i && bt y i) := by unfold bt; rw [Int32.toBitVec_and, BitVec.getLsbD_and]
theorem b_xor (x y : Int32) (i : Nat) : bt (x ^^^ y) i = (bt x i ^^ bt y i) := by unfold bt; rw [Int32.toBitVec_xor, BitVec.getLsbD_xor]
theorem b_big {x : Int32} {i : Nat} (h : 32 ≤ i) : bt x i = false := BitVec.getLsbD_of_ge _ _ h
theorem b_255 (i : Nat) : bt 255 i = decide (i < 8) := by
  rcases Nat.lt_or_ge i 32 with h | h
  · exact (by decide +kernel : ∀ i, i < 32 → bt 255 i = decide (i < 8)) i h
  · rw [b_big h, decide_eq_false (by omega)]
theorem b_65535 (i : Nat) : bt 65535 i = decide (i < 16) := by
  rcases Nat.lt_or_ge i 32 with h | h
  · exact (by decide +kernel : ∀ i, i < 32 → bt 65535 i = decide (i < 16)) i h
  · rw [b_big h, decide_eq_false (by omega)]
theorem b_m1 : ∀ i, i < 32 → bt (-1) i = true := by decide +kernel
theorem b_0 (i : Nat) : bt 0 i = false := BitVec.getLsbD_zero
theorem s_l : ∀ n, n < 32 → ((nI n &&& 31).toBitVec.smod 32).toNat = n := by decide +kernel
theorem s_u : ∀ n, n < 32 → (((nI n).toUInt32 &&& Int32.toUInt32 31).toBitVec % 32).toNat = n := by decide +kernel
theorem b_shl (n : Nat) (hn : n < 32) (x : Int32) {i : Nat} (hi : i < 32) : bt (x <<< (nI n &&& 31)) i = (decide (n ≤ i) && bt x (i - n)) := by
  unfold bt
  rw [Int32.toBitVec_shiftLeft]
  show (x.toBitVec <<< ((nI n &&& 31).toBitVec.smod 32).toNat).getLsbD i = _
  rw [s_l n hn, BitVec.getLsbD_shiftLeft]
  rcases Nat.lt_or_ge i n with h | h
  · simp [h, Nat.not_le.mpr h]
  · simp [hi, h, Nat.not_lt.mpr h]
theorem b_ushr (n : Nat) (hn : n < 32) (x : Int32) (i : Nat) : bt ((x.toUInt32 >>> ((nI n).toUInt32 &&& Int32.toUInt32 31)).toInt32) i = bt x (n + i) := by
  show (x.toUInt32 >>> ((nI n).toUInt32 &&& Int32.toUInt32 31)).toBitVec.getLsbD i = x.toUInt32.toBitVec.getLsbD (n + i)
  rw [UInt32.toBitVec_shiftRight]
  show (x.toUInt32.toBitVec >>> (((nI n).toUInt32 &&& Int32.toUInt32 31).toBitVec % 32).toNat).getLsbD i = _
  rw [s_u n hn, BitVec.getLsbD_ushiftRight]
theorem b_sshr (n : Nat) (hn : n < 32) (x : Int32) {i : Nat} (hi : i < 32) : bt (x >>> (nI n &&& 31)) i = if n + i < 32 then bt x (n + i) else bt x 31 := by
  unfold bt
  rw [Int32.toBitVec_shiftRight]
  show (x.toBitVec.sshiftRight ((nI n &&& 31).toBitVec.smod 32).toNat).getLsbD i = _
  rw [s_l n hn, BitVec.getLsbD_sshiftRight, BitVec.msb_eq_getLsbD_last]
  simp [hi]
-- sets of bits held as integers
theorem jI_nat (n : Nat) : jI (n : Int) = nI n := Int32.ofInt_eq_ofNat
abbrev jbit (s v : Int) : Prop := jand (jshr s v) 1 ≠ 0
theorem bt1 : ∀ i, i < 32 → bt 1 i = decide (i = 0) := by decide +kernel
theorem and1_bt (v : Int32) : v &&& 1 = 0 ↔ bt v 0 = false := by
  constructor
  · intro h
    have h2 : bt (v &&& 1) 0 = bt 0 0 := by rw [h]
    rw [b_and, b_0, bt1 0 (by omega)] at h2
    simpa using h2
  · intro h
    apply b_ext
    intro i hi
    rw [b_and, b_0, bt1 i hi]
    by_cases e : i = 0
    · subst e; simp [h]
    · simp [e]
theorem jI_shr (s : Int) {n : Nat} : jI (jshr s n) = jI s >>> (nI n &&& 31) := by unfold jshr; rw [jI_of, jI_nat]
theorem jI_and (s z : Int) : jI (jand s z) = jI s &&& jI z := by unfold jand; rw [jI_of]
theorem jI_or (s z : Int) : jI (jor s z) = jI s ||| jI z := by unfold jor; rw [jI_of]
theorem jI_xor (s z : Int) : jI (jxor s z) = jI s ^^^ jI z := by unfold jxor; rw [jI_of]
theorem jI_shl (s : Int) {n : Nat} : jI (jshl s n) = jI s <<< (nI n &&& 31) := by unfold jshl; rw [jI_of, jI_nat]
theorem jand0 (x z : Int) : jand x z = 0 ↔ jI x &&& jI z = 0 := by
  unfold jand
  exact ⟨fun h => Int32.toInt_inj.mp h, fun h => by rw [h]; rfl⟩
theorem jbit_bt {s w : Int} (h0 : 0 ≤ w) (h1 : w < 32) : jbit s w ↔ bt (jI s) w.toNat = true := by
  obtain ⟨n, rfl⟩ : ∃ n : Nat, w = n := ⟨w.toNat, by omega⟩
  have hn : n < 32 := by omega
  have z : jand (jshr s n) 1 = 0 ↔ bt (jI s) n = false := by
    rw [jand0, jI_shr, show jI 1 = 1 from rfl, and1_bt, b_sshr n hn (jI s) (i := 0) (by omega), if_pos (by omega)]
    rfl
  show ¬ (jand (jshr s n) 1 = 0) ↔ _
  rw [z]
  simp
theorem bt_one {o j : Nat} (ho : o < 32) (hj : j < 32) : bt (jI (jshl 1 o)) j = decide (j = o) := by
  rw [jI_shl, show jI 1 = 1 from rfl, b_shl o ho 1 hj, bt1 (j - o) (by omega)]
  by_cases e : j = o
  · subst e; simp
  · by_cases q : o ≤ j
    · have : j - o ≠ 0 := by omega
      simp [e, this]
    · simp [e, q]
theorem jbit_xor {s o w : Int} (o0 : 0 ≤ o) (o1 : o < 32) (h0 : 0 ≤ w) (h1 : w < 32) : jbit (jxor s (jshl 1 o)) w ↔ ((jbit s w ∧ ¬ w = o) ∨ (¬ jbit s w ∧ w = o)) := by
  obtain ⟨a, rfl⟩ : ∃ n : Nat, o = n := ⟨o.toNat, by omega⟩
  obtain ⟨n, rfl⟩ : ∃ n : Nat, w = n := ⟨w.toNat, by omega⟩
  rw [jbit_bt h0 h1, jbit_bt (s := s) h0 h1, jI_xor, b_xor]
  show (bt (jI s) n ^^ bt (jI (jshl 1 a)) n) = true ↔ ((bt (jI s) n = true ∧ ¬ ((n : Int) = a)) ∨ (¬ bt (jI s) n = true ∧ (n : Int) = a))
  rw [bt_one (by omega) (by omega)]
  by_cases e : n = a
  · subst e; cases bt (jI s) n <;> simp
  · have e2 : ¬ ((n : Int) = a) := by omega
    cases bt (jI s) n <;> simp [e, e2]
theorem jbit_or {s o w : Int} (o0 : 0 ≤ o) (o1 : o < 32) (h0 : 0 ≤ w) (h1 : w < 32) : jbit (jor s (jshl 1 o)) w ↔ (jbit s w ∨ w = o) := by
  obtain ⟨a, rfl⟩ : ∃ n : Nat, o = n := ⟨o.toNat, by omega⟩
  obtain ⟨n, rfl⟩ : ∃ n : Nat, w = n := ⟨w.toNat, by omega⟩
  rw [jbit_bt h0 h1, jbit_bt (s := s) h0 h1, jI_or, b_or]
  show (bt (jI s) n || bt (jI (jshl 1 a)) n) = true ↔ (bt (jI s) n = true ∨ (n : Int) = a)
  rw [bt_one (by omega) (by omega)]
  by_cases e : n = a
  · subst e; cases bt (jI s) n <;> simp
  · have e2 : ¬ ((n : Int) = a) := by omega
    cases bt (jI s) n <;> simp [e, e2]
theorem jbit_andn {s o w : Int} (o0 : 0 ≤ o) (o1 : o < 32) (h0 : 0 ≤ w) (h1 : w < 32) : jbit (jand s (jxor (jshl 1 o) (-1))) w ↔ (jbit s w ∧ ¬ w = o) := by
  obtain ⟨a, rfl⟩ : ∃ n : Nat, o = n := ⟨o.toNat, by omega⟩
  obtain ⟨n, rfl⟩ : ∃ n : Nat, w = n := ⟨w.toNat, by omega⟩
  rw [jbit_bt h0 h1, jbit_bt (s := s) h0 h1, jI_and, b_and, jI_xor, b_xor]
  show (bt (jI s) n && (bt (jI (jshl 1 a)) n ^^ bt (-1) n)) = true ↔ (bt (jI s) n = true ∧ ¬ (n : Int) = a)
  rw [bt_one (by omega) (by omega), b_m1 n (by omega)]
  by_cases e : n = a
  · subst e; cases bt (jI s) n <;> simp
  · have e2 : ¬ ((n : Int) = a) := by omega
    cases bt (jI s) n <;> simp [e, e2]
theorem jbit_0 {w : Int} (h0 : 0 ≤ w) (h1 : w < 32) : ¬ jbit 0 w := by
  rw [jbit_bt h0 h1, show jI 0 = 0 from rfl, b_0]
  simp
theorem jand_none {a b : Int} : jand a b = 0 ↔ ∀ w, 0 ≤ w → w < 32 → ¬ (jbit a w ∧ jbit b w) := by
  rw [jand0]
  constructor
  · intro h w h0 h1 ⟨ha, hb⟩
    rw [jbit_bt h0 h1] at ha hb
    have : bt (jI a &&& jI b) w.toNat = bt 0 w.toNat := by rw [h]
    rw [b_and, ha, hb, b_0] at this
    simp at this
  · intro h
    apply b_ext
    intro i hi
    rw [b_and, b_0]
    have := h (i : Int) (by omega) (by omega)
    rw [jbit_bt (by omega) (by omega), jbit_bt (by omega) (by omega)] at this
    have e : ((i : Int)).toNat = i := by omega
    rw [e] at this
    cases h1 : bt (jI a) i <;> cases h2 : bt (jI b) i <;> simp_all
theorem bt_small {v : Int32} (h : ∀ j, 10 ≤ j → j < 32 → bt v j = false) : 0 ≤ v.toInt ∧ v.toInt < 1024 := by
  have h1 : v.toBitVec.toNat < 2 ^ 10 := by
    apply Nat.lt_pow_two_of_testBit
    intro i hi
    rcases Nat.lt_or_ge i 32 with q | q
    · exact h i hi q
    · exact b_big (x := v) q
  have h2 : v.toInt = (v.toBitVec.toNat : Int) := by
    rw [← Int32.toInt_toBitVec, BitVec.toInt_eq_toNat_of_lt (by omega)]
  rw [h2]
  omega
theorem small_bt {s : Int} (h0 : 0 ≤ s) (h1 : s < 1024) : ∀ j, 10 ≤ j → j < 32 → bt (jI s) j = false := by
  intro j hj hj2
  obtain ⟨n, rfl⟩ : ∃ n : Nat, s = n := ⟨s.toNat, by omega⟩
  rw [jI_nat]
  show (nI n).toBitVec.getLsbD j = false
  have e : (nI n).toBitVec.toNat = n := by
    show (BitVec.ofNat 32 n).toNat = n
    rw [BitVec.toNat_ofNat]
    omega
  rw [← BitVec.testBit_toNat, e]
  exact Nat.testBit_lt_two_pow (Nat.lt_of_lt_of_le (by omega : n < 2 ^ 10) (Nat.pow_le_pow_right (by omega) hj))
theorem jxor_small {s o : Int} (h0 : 0 ≤ s) (h1 : s < 1024) (o0 : 0 ≤ o) (o1 : o < 10) : 0 ≤ jxor s (jshl 1 o) ∧ jxor s (jshl 1 o) < 1024 := by
  obtain ⟨a, rfl⟩ : ∃ n : Nat, o = n := ⟨o.toNat, by omega⟩
  have := bt_small (v := jI s ^^^ jI (jshl 1 a)) (fun j hj hj2 => by
    rw [b_xor, small_bt h0 h1 j hj hj2, bt_one (by omega) hj2]
    have : ¬ j = a := by omega
    simp [this])
  exact this
theorem jor_small {s o : Int} (h0 : 0 ≤ s) (h1 : s < 1024) (o0 : 0 ≤ o) (o1 : o < 10) : 0 ≤ jor s (jshl 1 o) ∧ jor s (jshl 1 o) < 1024 := by
  obtain ⟨a, rfl⟩ : ∃ n : Nat, o = n := ⟨o.toNat, by omega⟩
  have := bt_small (v := jI s ||| jI (jshl 1 a)) (fun j hj hj2 => by
    rw [b_or, small_bt h0 h1 j hj hj2, bt_one (by omega) hj2]
    have : ¬ j = a := by omega
    simp [this])
  exact this
theorem jshr_eq {s p : Int} (hs : jR s) (h0 : 0 ≤ p) (h1 : p < 32) : jshr s p = s / 2 ^ p.toNat := by
  obtain ⟨a, rfl⟩ : ∃ n : Nat, p = n := ⟨p.toNat, by omega⟩
  unfold jshr
  rw [jI_nat, pk_shr _ _ a (s_l a (by omega)), jI_toInt hs, Int.shiftRight_eq_div_pow]
  rfl
theorem jshl_nat : ∀ n : Nat, n < 11 → jshl 1 (n : Int) = 2 ^ n := by decide +kernel
theorem jbit_hi {s w : Int} (hs : 0 ≤ s) (h1 : s < 1024) (w0 : 0 ≤ w) (w1 : w < 32) (hw : s < 2 ^ w.toNat) : ¬ jbit s w := by
  intro h
  apply h
  rw [jshr_eq (by omega) w0 w1, Int.ediv_eq_zero_of_lt hs hw]
  decide
theorem jset_ok {s p : Int} (hp : 0 ≤ p ∧ p ≤ 10) (hs : jR s) : (0 ≤ s ∧ jshr s p = 0) ↔ (0 ≤ s ∧ s ≤ jshl 1 p - 1) := by
  obtain ⟨a, rfl⟩ : ∃ n : Nat, p = n := ⟨p.toNat, by omega⟩
  rw [jshr_eq hs (by omega) (by omega), jshl_nat a (by omega), show ((a : Int)).toNat = a by omega]
  have hpos : (0 : Int) < 2 ^ a := Int.pow_pos (by decide)
  constructor
  · rintro ⟨h0, h⟩
    refine ⟨h0, ?_⟩
    have := Int.lt_mul_of_ediv_lt hpos (show s / 2 ^ a < 1 by omega)
    omega
  · rintro ⟨h0, h⟩
    exact ⟨h0, Int.ediv_eq_zero_of_lt h0 (by omega)⟩
theorem jset_bits {s p : Int} (hp : 0 ≤ p ∧ p ≤ 10) (h0 : 0 ≤ s) (h : s ≤ jshl 1 p - 1) : s < 1024 ∧ ∀ w, p ≤ w → w < 10 → ¬ jbit s w := by
  obtain ⟨a, rfl⟩ : ∃ n : Nat, p = n := ⟨p.toNat, by omega⟩
  rw [jshl_nat a (by omega)] at h
  have h1 : (2 : Int) ^ a ≤ 2 ^ 10 := by
    have : (2 : Nat) ^ a ≤ 2 ^ 10 := Nat.pow_le_pow_right (by omega) (by omega)
    exact_mod_cast this
  have h2 : s < 1024 := by
    have : (2 : Int) ^ 10 = 1024 := by decide
    omega
  refine ⟨h2, fun w w0 w1 => jbit_hi h0 h2 (by omega) (by omega) ?_⟩
  have : (2 : Nat) ^ a ≤ 2 ^ w.toNat := Nat.pow_le_pow_right (by omega) (by omega)
  have : (2 : Int) ^ a ≤ 2 ^ w.toNat := by exact_mod_cast this
  omega
