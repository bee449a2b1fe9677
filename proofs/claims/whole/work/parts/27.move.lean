/-- a case k is taken out of its list (place j) and put at the end of court c's -/
theorem jmv {n p q : Int} {ru co le fo ne fa ca li ls ki wa ap nw nc nr ro si : Int → Int} {co2 li2 ls2 : Int → Int} (h : jJn n p q ru co le fo ne fa ca li ls ki wa ap nw nc nr ro si) {k c j L : Int} (k0 : 0 ≤ k) (k1 : k < n) (c0 : 0 ≤ c) (c1 : c < 3) (j0 : 0 ≤ j) (j1 : j < ls (co k)) (j2 : li (6 * co k + j) = k) (hL : L = if c = co k then ls (co k) - 1 else ls c) (hf : c = co k ∨ ls c < 6)
    (hco : ∀ b, co2 b = if b = k then c else co b) (hli : ∀ b, li2 b = if b = 6 * c + L then k else if 6 * co k + j ≤ b ∧ b < 6 * co k + ls (co k) - 1 then li (b + 1) else li b) (hls : ∀ b, ls2 b = if b = c then L + 1 else if b = co k then ls (co k) - 1 else ls b) :
    jJn n p q ru co2 le fo ne fa ca li2 ls2 ki wa ap nw nc nr ro si ∧ 0 ≤ L ∧ L < 6 ∧ ls2 c = L + 1 ∧ li2 (6 * c + L) = k ∧ ∀ i, 0 ≤ i → i < L → li2 (6 * c + i) ≠ k := by
  obtain ⟨a1, a2, a3, a4, a5, a6, a7, a8, arest⟩ := h
  have rk := (a3 k k0 (by omega)).1
  have rs := a2 (co k) rk.1 rk.2
  have rc := a2 c c0 c1
  have L0 : 0 ≤ L := by rw [hL]; split <;> omega
  have L6 : L < 6 := by rw [hL]; split <;> omega
  have hlc : ls2 c = L + 1 := by rw [hls, if_pos rfl]
  have hkc : li2 (6 * c + L) = k := by rw [hli, if_pos rfl]
  -- every other entry is an old one
  have key : ∀ u i, 0 ≤ u → u < 3 → 0 ≤ i → i < ls2 u → ¬ (u = c ∧ i = L) → ∃ a, 0 ≤ a ∧ a < ls u ∧ li2 (6 * u + i) = li (6 * u + a) ∧ (u = co k → (a = i ∧ i < j) ∨ (a = i + 1 ∧ j ≤ i)) ∧ (u ≠ co k → a = i) := by
    intro u i u0 u1 i0 i1 hne
    have ru := a2 u u0 u1
    have hi : i < if u = co k then ls (co k) - 1 else ls u := by
      rw [hls] at i1
      by_cases e : u = c
      · rw [if_pos e] at i1
        subst e
        have : i < L := by omega
        rw [hL] at this
        exact this
      · rw [if_neg e] at i1
        by_cases e2 : u = co k
        · rw [if_pos e2] at i1; rw [if_pos e2]; exact i1
        · rw [if_neg e2] at i1; rw [if_neg e2]; exact i1
    have i6 : i < 6 := by
      by_cases e2 : u = co k
      · rw [if_pos e2] at hi; omega
      · rw [if_neg e2] at hi; omega
    have hn : ¬ (6 * u + i = 6 * c + L) := by
      intro e
      apply hne
      omega
    by_cases e2 : u = co k
    · rw [if_pos e2] at hi
      by_cases q : i < j
      · exact ⟨i, i0, by rw [e2]; omega, by rw [hli, if_neg hn, if_neg (by omega)], fun _ => Or.inl ⟨rfl, q⟩, fun z => absurd e2 z⟩
      · exact ⟨i + 1, by omega, by rw [e2]; omega, by rw [hli, if_neg hn, if_pos (by omega), Int.add_assoc], fun _ => Or.inr ⟨rfl, by omega⟩, fun z => absurd e2 z⟩
    · rw [if_neg e2] at hi
      exact ⟨i, i0, hi, by rw [hli, if_neg hn, if_neg (by omega)], fun z => absurd z e2, fun _ => rfl⟩
  have nek : ∀ u i, 0 ≤ u → u < 3 → 0 ≤ i → i < ls2 u → ¬ (u = c ∧ i = L) → li2 (6 * u + i) ≠ k := by
    intro u i u0 u1 i0 i1 hne e
    obtain ⟨a, q0, q1, q2, q3, q4⟩ := key u i u0 u1 i0 i1 hne
    rw [q2] at e
    by_cases e2 : u = co k
    · rw [e2] at e q1
      have q3 := q3 e2
      by_cases z : a < j
      · exact a8 (co k) a j rk.1 rk.2 q0 z j1 (by rw [e, j2])
      · exact a8 (co k) j a rk.1 rk.2 j0 (by omega) q1 (by rw [e, j2])
    · have := (a6 u a u0 u1 q0 q1).2
      rw [e] at this
      exact e2 this.symm
  refine ⟨⟨a1, ?_, ?_, a4, a5, ?_, ?_, ?_, arest⟩, L0, L6, hlc, hkc, fun i i0 i1 => nek c i c0 c1 i0 (by rw [hlc]; omega) (by omega)⟩
  · intro u u0 u1
    have ru := a2 u u0 u1
    rw [hls]
    split
    · omega
    · split <;> omega
  · intro b b0 b1
    have rb := a3 b b0 b1
    refine ⟨?_, rb.2⟩
    rw [hco]
    split
    · exact ⟨c0, c1⟩
    · exact rb.1
  · intro u i u0 u1 i0 i1
    by_cases hne : u = c ∧ i = L
    · obtain ⟨rfl, rfl⟩ := hne
      rw [hkc]
      exact ⟨⟨k0, k1⟩, by rw [hco, if_pos rfl]⟩
    · have nk := nek u i u0 u1 i0 i1 hne
      obtain ⟨a, q0, q1, q2, q3, q4⟩ := key u i u0 u1 i0 i1 hne
      rw [hco, if_neg nk, q2]
      exact a6 u a u0 u1 q0 q1
  · intro b b0 b1
    by_cases e : b = k
    · subst e
      refine ⟨L, L0, ?_, ?_⟩
      · rw [hco, if_pos rfl, hlc]; omega
      · rw [hco, if_pos rfl]; exact hkc
    · rw [hco, if_neg e]
      obtain ⟨i, i0, i1, i2⟩ := a7 b b0 b1
      have rb := (a3 b b0 (by omega)).1
      have rbs := a2 (co b) rb.1 rb.2
      by_cases e2 : co b = co k
      · have hij : i ≠ j := fun z => e (by rw [← i2, e2, z, j2])
        rw [e2] at i1 i2 ⊢
        have hb : ∀ x, x < ls (co k) - 1 → x < ls2 (co k) ∧ (0 ≤ x → ¬ (6 * co k + x = 6 * c + L)) := by
          intro x hx
          rw [hls]
          by_cases z : co k = c
          · rw [if_pos z]
            have : L = ls (co k) - 1 := by rw [hL, if_pos z.symm]
            constructor
            · omega
            · intro _; rw [z] at hx ⊢; rw [z] at this; omega
          · rw [if_neg z, if_pos rfl]
            exact ⟨hx, fun x0 => by omega⟩
        by_cases q : i < j
        · have hx := hb i (by omega)
          exact ⟨i, i0, hx.1, by rw [hli, if_neg (hx.2 i0), if_neg (by omega)]; exact i2⟩
        · have hx := hb (i - 1) (by omega)
          refine ⟨i - 1, by omega, hx.1, ?_⟩
          rw [hli, if_neg (hx.2 (by omega)), if_pos (by omega), show 6 * co k + (i - 1) + 1 = 6 * co k + i by omega]
          exact i2
      · have hx : i < ls2 (co b) ∧ ¬ (6 * co b + i = 6 * c + L) := by
          rw [hls]
          by_cases z : co b = c
          · rw [if_pos z]
            have : L = ls c := by rw [hL, if_neg (fun q => e2 (by rw [z, q]))]
            rw [z] at i1 ⊢
            omega
          · rw [if_neg z, if_neg e2]
            exact ⟨i1, by omega⟩
        exact ⟨i, i0, hx.1, by rw [hli, if_neg hx.2, if_neg (by omega)]; exact i2⟩
  · intro u i1 i2 u0 u1 h0 h1 h2
    by_cases e : u = c ∧ i2 = L
    · obtain ⟨rfl, rfl⟩ := e
      rw [hkc]
      exact nek u i1 u0 u1 h0 (by omega) (by omega)
    · by_cases e' : u = c ∧ i1 = L
      · obtain ⟨rfl, rfl⟩ := e'
        exfalso
        rw [hlc] at h2
        omega
      · obtain ⟨a, q0, q1, q2, q3, q4⟩ := key u i1 u0 u1 h0 (by omega) e'
        obtain ⟨b, r0, r1, r2, r3, r4⟩ := key u i2 u0 u1 (by omega) h2 e
        rw [q2, r2]
        have : a < b := by
          by_cases z : u = co k
          · have := q3 z; have := r3 z; omega
          · have := q4 z; have := r4 z; omega
        exact a8 u a b u0 u1 q0 this r1
def jlvC (M : jMem) (k p : Int) : jMem := jup (jblk M 16 (M 10 k * 6 + p) (M 10 k * 6 + M 17 (M 10 k) - 1) (fun b => M 16 (b + 1))) 17 (M 10 k) (M 17 (M 10 k) - 1)
def jmvC (M : jMem) (k p c : Int) : jMem := jup (jup (jup (jlvC M k p) 16 (c * 6 + jlvC M k p 17 c) k) 17 c (jlvC M k p 17 c + 1)) 10 k c
def jlvE (M : jMem) (k p : Int) : jMem := jblk (jup M 38 (M 40 k) (M 38 (M 40 k) - 1)) 39 (6 * M 40 k + p) (6 * M 40 k + (M 38 (M 40 k) - 1)) (fun b => M 39 (b + 1))
def jmvE (M : jMem) (k p c : Int) : jMem := jup (jup (jup (jlvE M k p) 40 k c) 39 (6 * c + jlvE M k p 38 c) k) 38 c (jlvE M k p 38 c + 1)
theorem c_leave_l {G : jG} {d : Nat} {M : jMem} {Q : Option Value → jMem → Prop} (hI : jK M) {k p : Int} (hk : 0 ≤ k ∧ k < M 1 8) (hp : jpl M k p) (h : Q none (jlvC M k p))  : ∀ (f : Nat) (i : Int), p < i → i ≤ M 17 (M 10 k) → M 17 (M 10 k) - i < f → jM G mX2_leaveList (d + 2) 15 [.ref (jad G 1), .int (jI k), .int (jI (M 10 k)), .int (jI i)] [] (jblk M 16 (M 10 k * 6 + p) (M 10 k * 6 + i - 1) (fun b => M 16 (b + 1))) Q := by
  intro f
  induction f with
  | zero =>
    intro i h0 h1 hf
    exact absurd hf (by omega)
  | succ f ih =>
    intro i h0 h1 hf
    have hz := jn1 hI
    have hr := (jn3 hI k (by omega) (by omega)).1
    have hs := jn2 hI _ hr.1 hr.2
    have hp0 := hp.1
    have hp1 := hp.2.1
    refine jr_iload_n (n := 16) dX2_leaveList_15 rfl rfl ?_
    refine jr_aload_n (n := 17) dX2_leaveList_16 rfl rfl ?_
    refine jr_getR (n := 20) dX2_leaveList_17 rfl fX2_33 rfl (by decide) (by decide) rfl ?_
    refine jr_iload_n (n := 21) dX2_leaveList_20 rfl rfl ?_
    refine jr_iald (n := 22) dX2_leaveList_21 rfl rfl (by decide) (by omega) (by omega) ?_
    rw [jblk_ne (show (17 : Nat) ≠ 16 by decide)]
    refine jr_icmp_ge (n := 25) (t := 55) dX2_leaveList_22 (by decide) rfl (by omega) (by omega) (fun b22 => ?_) (fun b22 => ?_)
    · refine jr_aload_n (n := 56) dX2_leaveList_55 rfl rfl ?_
      refine jr_getR (n := 59) dX2_leaveList_56 rfl fX2_33 rfl (by decide) (by decide) rfl ?_
      refine jr_iload_n (n := 60) dX2_leaveList_59 rfl rfl ?_
      refine jr_dup2 (n := 61) dX2_leaveList_60 rfl rfl rfl ?_
      refine jr_iald (n := 62) dX2_leaveList_61 rfl rfl (by decide) (by omega) (by omega) ?_
      rw [jblk_ne (show (17 : Nat) ≠ 16 by decide)]
      refine jr_iconst (n := 63) dX2_leaveList_62 rfl ?_
      refine jr_isub (n := 64) dX2_leaveList_63 rfl ?_
      refine jr_iast (n := 65) dX2_leaveList_64 rfl rfl (by decide) (by omega) (by omega) ?_
      refine jr_vret dX2_leaveList_65 rfl ?_
      have e : i = M 17 (M 10 k) := by omega
      subst e
      exact h
    · refine jr_aload_n (n := 26) dX2_leaveList_25 rfl rfl ?_
      refine jr_getR (n := 29) dX2_leaveList_26 rfl fX2_30 rfl (by decide) (by decide) rfl ?_
      refine jr_iload_n (n := 30) dX2_leaveList_29 rfl rfl ?_
      refine jr_bipush (n := 32) dX2_leaveList_30 rfl (by decide) ?_
      refine jr_imul (n := 33) dX2_leaveList_32 rfl ?_
      refine jr_iload_n (n := 34) dX2_leaveList_33 rfl rfl ?_
      refine jr_iadd (n := 35) dX2_leaveList_34 rfl ?_
      refine jr_iconst (n := 36) dX2_leaveList_35 rfl ?_
      refine jr_isub (n := 37) dX2_leaveList_36 rfl ?_
      refine jr_aload_n (n := 38) dX2_leaveList_37 rfl rfl ?_
      refine jr_getR (n := 41) dX2_leaveList_38 rfl fX2_30 rfl (by decide) (by decide) rfl ?_
      refine jr_iload_n (n := 42) dX2_leaveList_41 rfl rfl ?_
      refine jr_bipush (n := 44) dX2_leaveList_42 rfl (by decide) ?_
      refine jr_imul (n := 45) dX2_leaveList_44 rfl ?_
      refine jr_iload_n (n := 46) dX2_leaveList_45 rfl rfl ?_
      refine jr_iadd (n := 47) dX2_leaveList_46 rfl ?_
      refine jr_iald (n := 48) dX2_leaveList_47 rfl rfl (by decide) (by omega) (by omega) ?_
      rw [jblk_out (by omega)]
      refine jr_iast (n := 49) dX2_leaveList_48 rfl rfl (by decide) (by omega) (by omega) ?_
      refine jr_iinc3 (n := 52) dX2_leaveList_49 rfl (by decide) rfl ?_
      refine jr_goto (t := 15) dX2_leaveList_52 (by decide) ?_
      rw [jblk_up _ 16 (fun b => M 16 (b + 1)) (by omega) (by rw [show M 10 k * 6 + i - 1 + 1 = M 10 k * 6 + i by omega]), show M 10 k * 6 + i - 1 + 1 = M 10 k * 6 + (i + 1) - 1 by omega]
      exact ih (i + 1) (by omega) (by omega) (by omega)

theorem c_leaveList {G : jG} {d : Nat} {M : jMem} {Q : Option Value → jMem → Prop} (hI : jK M) {k p : Int} (hk : 0 ≤ k ∧ k < M 1 8) (hp : jpl M k p) (h : Q none (jlvC M k p))  : jN G mX2_leaveList (d + 2) [.ref (jad G 1), .int (jI k)] M Q := by
  show jM G mX2_leaveList (d + 2) 0 [.ref (jad G 1), .int (jI k), .null, .null] [] M Q
  have hz := jn1 hI
  have hr := (jn3 hI k (by omega) (by omega)).1
  have hs := jn2 hI _ hr.1 hr.2
  have hp0 := hp.1
  have hp1 := hp.2.1
  refine jr_aload_n (n := 1) dX2_leaveList_0 rfl rfl ?_
  refine jr_getR (n := 4) dX2_leaveList_1 rfl fX2_9 rfl (by decide) (by decide) rfl ?_
  refine jr_iload_n (n := 5) dX2_leaveList_4 rfl rfl ?_
  refine jr_iald (n := 6) dX2_leaveList_5 rfl rfl (by decide) (by omega) (by omega) ?_
  refine jr_istore2 (n := 7) dX2_leaveList_6 rfl (by decide) rfl ?_
  refine jr_aload_n (n := 8) dX2_leaveList_7 rfl rfl ?_
  refine jr_iload_n (n := 9) dX2_leaveList_8 rfl rfl ?_
  refine jr_cV1 (n := 12) (ci := 2) (ν := mX2_placeOf) dX2_leaveList_9 rfl lX2_48 kX2_placeOf iX2_placeOf rfl ⟨_, rfl, rfl⟩ (by decide) (Nat.le_of_ble_eq_true rfl) (Nat.le_of_ble_eq_true rfl) rfl ?_
  refine c_placeOf (by omega) hr hs.2 (jpl_R hI (by omega) (by omega)) hp ?_
  refine jr_iconst (n := 13) dX2_leaveList_12 rfl ?_
  refine jr_iadd (n := 14) dX2_leaveList_13 rfl ?_
  refine jr_istore3 (n := 15) dX2_leaveList_14 rfl (by decide) rfl ?_
  have k9 := c_leave_l (G := G) (d := d) hI hk hp h ((M 17 (M 10 k)).toNat + 1) (p + 1) (by omega) (by omega) (by omega)
  rw [show M 10 k * 6 + (p + 1) - 1 = M 10 k * 6 + p by omega, jblk_0] at k9
  exact k9

def jpdC (M : jMem) (v k : Int) : Prop := ∃ i, 0 ≤ i ∧ i < M 6 3 ∧ M 33 i = v ∧ M 34 i = k ∧ M 35 i = 0
def jpdE (M : jMem) (v k : Int) : Prop := ∃ i, 0 ≤ i ∧ i < M 8 14 ∧ M 50 i = v ∧ M 51 i = k ∧ M 52 i = 0
def jadC (M : jMem) (v k : Int) : jMem := jup (jup (jup M 33 (M 6 3) v) 34 (M 6 3) k) 6 3 (M 6 3 + 1)
def jadE (M : jMem) (v k : Int) : jMem := jup (jup (jup (jup M 50 (M 8 14) v) 51 (M 8 14) k) 52 (M 8 14) 0) 8 14 (M 8 14 + 1)
noncomputable def jsdC (M : jMem) (v k : Int) : jMem := @ite jMem (M 6 3 < 60 ∧ ¬ jpdC M v k) (Classical.propDecidable _) (jadC M v k) M
noncomputable def jsdE (M : jMem) (v k : Int) : jMem := @ite jMem (M 8 14 < 60 ∧ ¬ jpdE M v k) (Classical.propDecidable _) (jadE M v k) M
noncomputable def jslC (M : jMem) (k : Int) : Nat → jMem
  | 0 => M
  | n + 1 => if jbit (M 13 k) (n : Int) then jsdC (jslC M k n) (n : Int) k else jslC M k n
noncomputable def jslE (M : jMem) (k : Int) : Nat → jMem
  | 0 => M
  | n + 1 => if jbit (M 43 k) (n : Int) then jsdE (jslE M k n) (n : Int) k else jslE M k n
theorem jsdC_ne {M : jMem} {v k : Int} {a : Nat} (h : a ≠ 33 ∧ a ≠ 34 ∧ a ≠ 6) (b : Int) : jsdC M v k a b = M a b := by
  unfold jsdC
  split
  · unfold jadC
    rw [jup_ne h.2.2, jup_ne h.2.1, jup_ne h.1]
  · rfl
theorem jsdE_ne {M : jMem} {v k : Int} {a : Nat} (h : a ≠ 50 ∧ a ≠ 51 ∧ a ≠ 52 ∧ a ≠ 8) (b : Int) : jsdE M v k a b = M a b := by
  unfold jsdE
  split
  · unfold jadE
    rw [jup_ne h.2.2.2, jup_ne h.2.2.1, jup_ne h.2.1, jup_ne h.1]
  · rfl
theorem jsdE_8 {M : jMem} {v k b : Int} (h : b ≠ 14) : jsdE M v k 8 b = M 8 b := by
  unfold jsdE
  split
  · unfold jadE
    rw [jup_off h, jup_ne (by decide), jup_ne (by decide), jup_ne (by decide)]
  · rfl
theorem jslC_ne {M : jMem} {k : Int} {a : Nat} (h : a ≠ 33 ∧ a ≠ 34 ∧ a ≠ 6) : ∀ (n : Nat) (b : Int), jslC M k n a b = M a b
  | 0, b => rfl
  | n + 1, b => by
    unfold jslC
    split
    · rw [jsdC_ne h, jslC_ne h n b]
    · exact jslC_ne h n b
theorem jslE_ne {M : jMem} {k : Int} {a : Nat} (h : a ≠ 50 ∧ a ≠ 51 ∧ a ≠ 52 ∧ a ≠ 8) : ∀ (n : Nat) (b : Int), jslE M k n a b = M a b
  | 0, b => rfl
  | n + 1, b => by
    unfold jslE
    split
    · rw [jsdE_ne h, jslE_ne h n b]
    · exact jslE_ne h n b
theorem jslE_8 {M : jMem} {k b : Int} (h : b ≠ 14) : ∀ n : Nat, jslE M k n 8 b = M 8 b
  | 0 => rfl
  | n + 1 => by
    unfold jslE
    split
    · rw [jsdE_8 h, jslE_8 h n]
    · exact jslE_8 h n
theorem jadN {n p q : Int} {ru co le fo ne fa ca li ls ki wa ap nw nc nr ro si nw2 nc2 : Int → Int} (h : jJn n p q ru co le fo ne fa ca li ls ki wa ap nw nc nr ro si) {v k : Int} (hq : q < 60) (v0 : 0 ≤ v) (v1 : v < 10) (k0 : 0 ≤ k) (k1 : k < 12) (h1 : ∀ b, nw2 b = if b = q then v else nw b) (h2 : ∀ b, nc2 b = if b = q then k else nc b) : jJn n p (q + 1) ru co le fo ne fa ca li ls ki wa ap nw2 nc2 nr ro si := by
  obtain ⟨a1, a2, a3, a4, a5, a6, a7, a8, a9, a10, a11, a12, a13, arest⟩ := h
  refine ⟨⟨a1.1, a1.2.1, by omega⟩, a2, a3, a4, a5, a6, a7, a8, a9, a10, a11, fun i i0 i1 => ?_, fun i hi => a13 i (by omega), arest⟩
  have r := a12 i i0 i1
  rw [h1, h2]
  refine ⟨?_, ?_, r.2.2⟩
  · split
    · exact ⟨v0, v1⟩
    · exact r.1
  · split
    · exact ⟨k0, k1⟩
    · exact r.2.1
theorem jsdC_K {M : jMem} (h : jK M) {v k : Int} (v0 : 0 ≤ v) (v1 : v < 10) (k0 : 0 ≤ k) (k1 : k < 12) : jK (jsdC M v k) := by
  unfold jsdC
  split
  · rename_i hc
    have e1 : jadC M v k 6 3 = M 6 3 + 1 := by unfold jadC; rw [jup_at]
    unfold jK
    rw [e1]
    exact jadN h hc.1 v0 v1 k0 k1 (fun b => by unfold jadC; rw [jup_ne (by decide), jup_ne (by decide)]; unfold jup; simp) (fun b => by unfold jadC; rw [jup_ne (by decide)]; unfold jup; simp)
  · exact h
theorem jsdE_O {M : jMem} (h : jO M) {v k : Int} (v0 : 0 ≤ v) (v1 : v < 10) (k0 : 0 ≤ k) (k1 : k < 12) : jO (jsdE M v k) := by
  unfold jsdE
  split
  · rename_i hc
    have e1 : jadE M v k 8 14 = M 8 14 + 1 := by unfold jadE; rw [jup_at]
    have e2 : jadE M v k 52 = M 52 := by
      funext b
      unfold jadE
      rw [jup_ne (by decide)]
      by_cases z : b = M 8 14
      · subst z; rw [jup_at, jn13 h _ (by omega)]
      · rw [jup_off z, jup_ne (by decide), jup_ne (by decide)]
    unfold jO
    rw [e1, e2]
    exact jadN h hc.1 v0 v1 k0 k1 (fun b => by unfold jadE; rw [jup_ne (by decide), jup_ne (by decide), jup_ne (by decide)]; unfold jup; simp) (fun b => by unfold jadE; rw [jup_ne (by decide), jup_ne (by decide)]; unfold jup; simp)
  · exact h
theorem jslC_K {M : jMem} (h : jK M) {k : Int} (k0 : 0 ≤ k) (k1 : k < 12) : ∀ n : Nat, n ≤ 10 → jK (jslC M k n)
  | 0, _ => h
  | n + 1, hn => by
    unfold jslC
    split
    · exact jsdC_K (jslC_K h k0 k1 n (by omega)) (by omega) (by omega) k0 k1
    · exact jslC_K h k0 k1 n (by omega)
theorem jslE_O {M : jMem} (h : jO M) {k : Int} (k0 : 0 ≤ k) (k1 : k < 12) : ∀ n : Nat, n ≤ 10 → jO (jslE M k n)
  | 0, _ => h
  | n + 1, hn => by
    unfold jslE
    split
    · exact jsdE_O (jslE_O h k0 k1 n (by omega)) (by omega) (by omega) k0 k1
    · exact jslE_O h k0 k1 n (by omega)
theorem c_isPending_l {G : jG} {d : Nat} {M : jMem} {Q : Option Value → jMem → Prop} (hI : jK M) {v k : Int} (hv : 0 ≤ v ∧ v < 10) (hk : 0 ≤ k ∧ k < 12) (h1 : jpdC M v k → Q (some (.int (jI 1))) M) (h0 : ¬ jpdC M v k → Q (some (.int (jI 0))) M)  : ∀ (f : Nat) (i : Int), 0 ≤ i → i ≤ M 6 3 → (∀ j, 0 ≤ j → j < i → ¬ (M 33 j = v ∧ M 34 j = k ∧ M 35 j = 0)) → M 6 3 - i < f → jM G mX3_isPending (d) 2 [.ref (jad G 6), .int (jI v), .int (jI k), .int (jI i)] [] (M) Q := by
  intro f
  induction f with
  | zero =>
    intro i i0 i1 ha hf
    exact absurd hf (by omega)
  | succ f ih =>
    intro i i0 i1 ha hf
    have hz := jn1 hI
    refine jr_iload_n (n := 3) dX3_isPending_2 rfl rfl ?_
    refine jr_aload_n (n := 4) dX3_isPending_3 rfl rfl ?_
    refine jr_getI (n := 7) (i := 3) rfl dX3_isPending_4 rfl fX3_22 rfl (by decide) (by decide) rfl ?_
    refine jr_icmp_ge (n := 10) (t := 47) dX3_isPending_7 (by decide) rfl (by omega) (by omega) (fun b7 => ?_) (fun b7 => ?_)
    · refine jr_iconst (n := 48) dX3_isPending_47 rfl ?_
      refine jr_zret dX3_isPending_48 rfl (by decide) ?_
      first
        | exact h1 ⟨i, i0, by omega, b17, b27, b36⟩
        | exact h0 (fun ⟨j, j0, j1, j2, j3, j4⟩ => ha j j0 (by omega) ⟨j2, j3, j4⟩)
    · have hr := jn12 hI i (by omega) (by omega)
      refine jr_aload_n (n := 11) dX3_isPending_10 rfl rfl ?_
      refine jr_getR (n := 14) dX3_isPending_11 rfl fX3_9 rfl (by decide) (by decide) rfl ?_
      refine jr_iload_n (n := 15) dX3_isPending_14 rfl rfl ?_
      refine jr_iald (n := 16) dX3_isPending_15 rfl rfl (by decide) (by omega) (by omega) ?_
      refine jr_iload_n (n := 17) dX3_isPending_16 rfl rfl ?_
      refine jr_icmp_ne (n := 20) (t := 41) dX3_isPending_17 (by decide) rfl (by omega) (by omega) (fun b17 => ?_) (fun b17 => ?_)
      · refine jr_iinc3 (n := 44) dX3_isPending_41 rfl (by decide) rfl ?_
        refine jr_goto (t := 2) dX3_isPending_44 (by decide) ?_
        exact ih (i + 1) (by omega) (by omega) (fun j j0 j1 => by
          by_cases e : j = i
          · subst e; omega
          · exact ha j j0 (by omega)) (by omega)
      · refine jr_aload_n (n := 21) dX3_isPending_20 rfl rfl ?_
        refine jr_getR (n := 24) dX3_isPending_21 rfl fX3_15 rfl (by decide) (by decide) rfl ?_
        refine jr_iload_n (n := 25) dX3_isPending_24 rfl rfl ?_
        refine jr_iald (n := 26) dX3_isPending_25 rfl rfl (by decide) (by omega) (by omega) ?_
        refine jr_iload_n (n := 27) dX3_isPending_26 rfl rfl ?_
        refine jr_icmp_ne (n := 30) (t := 41) dX3_isPending_27 (by decide) rfl (by omega) (by omega) (fun b27 => ?_) (fun b27 => ?_)
        · refine jr_iinc3 (n := 44) dX3_isPending_41 rfl (by decide) rfl ?_
          refine jr_goto (t := 2) dX3_isPending_44 (by decide) ?_
          exact ih (i + 1) (by omega) (by omega) (fun j j0 j1 => by
            by_cases e : j = i
            · subst e; omega
            · exact ha j j0 (by omega)) (by omega)
        · refine jr_aload_n (n := 31) dX3_isPending_30 rfl rfl ?_
          refine jr_getR (n := 34) dX3_isPending_31 rfl fX3_18 rfl (by decide) (by decide) rfl ?_
          refine jr_iload_n (n := 35) dX3_isPending_34 rfl rfl ?_
          refine jr_zald (n := 36) dX3_isPending_35 rfl rfl (by decide) (by omega) (by omega) ?_
          refine jr_if_ne (n := 39) (t := 41) dX3_isPending_36 (by decide) rfl (by omega) (fun b36 => ?_) (fun b36 => ?_)
          · refine jr_iinc3 (n := 44) dX3_isPending_41 rfl (by decide) rfl ?_
            refine jr_goto (t := 2) dX3_isPending_44 (by decide) ?_
            exact ih (i + 1) (by omega) (by omega) (fun j j0 j1 => by
              by_cases e : j = i
              · subst e; omega
              · exact ha j j0 (by omega)) (by omega)
          · refine jr_iconst (n := 40) dX3_isPending_39 rfl ?_
            refine jr_zret dX3_isPending_40 rfl (by decide) ?_
            first
              | exact h1 ⟨i, i0, by omega, b17, b27, b36⟩
              | exact h0 (fun ⟨j, j0, j1, j2, j3, j4⟩ => ha j j0 (by omega) ⟨j2, j3, j4⟩)

theorem c_isPending {G : jG} {d : Nat} {M : jMem} {Q : Option Value → jMem → Prop} (hI : jK M) {v k : Int} (hv : 0 ≤ v ∧ v < 10) (hk : 0 ≤ k ∧ k < 12) (h1 : jpdC M v k → Q (some (.int (jI 1))) M) (h0 : ¬ jpdC M v k → Q (some (.int (jI 0))) M) : jN G mX3_isPending (d) [.ref (jad G 6), .int (jI v), .int (jI k)] M Q := by
  show jM G mX3_isPending (d) 0 [.ref (jad G 6), .int (jI v), .int (jI k), .null] [] M Q
  have hz := jn1 hI
  refine jr_iconst (n := 1) dX3_isPending_0 rfl ?_
  refine jr_istore3 (n := 2) dX3_isPending_1 rfl (by decide) rfl ?_
  exact c_isPending_l hI hv hk h1 h0 ((M 6 3).toNat + 1) 0 (by omega) (by omega) (fun j j0 j1 => absurd j1 (by omega)) (by omega)

theorem c_send {G : jG} {d : Nat} {M : jMem} {Q : Option Value → jMem → Prop} (hI : jK M) {v k : Int} (hv : 0 ≤ v ∧ v < 10) (hk : 0 ≤ k ∧ k < 12) (h : Q none (jsdC M v k)) : jN G mX3_send (d + 1) [.ref (jad G 6), .int (jI v), .int (jI k)] M Q := by
  show jM G mX3_send (d + 1) 0 [.ref (jad G 6), .int (jI v), .int (jI k)] [] M Q
  have hz := jn1 hI
  unfold jsdC at h
  refine jr_aload_n (n := 1) dX3_send_0 rfl rfl ?_
  refine jr_getI (n := 4) (i := 3) rfl dX3_send_1 rfl fX3_22 rfl (by decide) (by decide) rfl ?_
  refine jr_bipush (n := 6) dX3_send_4 rfl (by decide) ?_
  refine jr_icmp_ge (n := 9) (t := 48) dX3_send_6 (by decide) rfl (by omega) (by omega) (fun b6 => ?_) (fun b6 => ?_)
  · refine jr_vret dX3_send_48 rfl ?_
    first
      | (rw [if_neg (fun z => by omega)] at h; exact h)
      | (rw [if_neg (fun z => z.2 b12)] at h; exact h)
      | (rw [if_pos ⟨by omega, b12⟩] at h; exact h)
  · refine jr_aload_n (n := 10) dX3_send_9 rfl rfl ?_
    refine jr_iload_n (n := 11) dX3_send_10 rfl rfl ?_
    refine jr_iload_n (n := 12) dX3_send_11 rfl rfl ?_
    refine jr_cV2 (n := 15) (ci := 3) (ν := mX3_isPending) dX3_send_12 rfl lX3_26 kX3_isPending iX3_isPending rfl ⟨_, rfl, rfl⟩ (by decide) (Nat.le_of_ble_eq_true rfl) (Nat.le_of_ble_eq_true rfl) rfl ?_
    refine c_isPending hI hv hk (fun b12 => ?_) (fun b12 => ?_)
    · refine jr_ifT_ne (t := 48) dX3_send_15 (by decide) (by decide) (by decide) ?_
      refine jr_vret dX3_send_48 rfl ?_
      first
        | (rw [if_neg (fun z => by omega)] at h; exact h)
        | (rw [if_neg (fun z => z.2 b12)] at h; exact h)
        | (rw [if_pos ⟨by omega, b12⟩] at h; exact h)
    · refine jr_ifF_ne (n := 18) (t := 48) dX3_send_15 rfl (by decide) (by decide) (by decide) ?_
      refine jr_aload_n (n := 19) dX3_send_18 rfl rfl ?_
      refine jr_getR (n := 22) dX3_send_19 rfl fX3_9 rfl (by decide) (by decide) rfl ?_
      refine jr_aload_n (n := 23) dX3_send_22 rfl rfl ?_
      refine jr_getI (n := 26) (i := 3) rfl dX3_send_23 rfl fX3_22 rfl (by decide) (by decide) rfl ?_
      refine jr_iload_n (n := 27) dX3_send_26 rfl rfl ?_
      refine jr_iast (n := 28) dX3_send_27 rfl rfl (by decide) (by omega) (by omega) ?_
      refine jr_aload_n (n := 29) dX3_send_28 rfl rfl ?_
      refine jr_getR (n := 32) dX3_send_29 rfl fX3_15 rfl (by decide) (by decide) rfl ?_
      refine jr_aload_n (n := 33) dX3_send_32 rfl rfl ?_
      refine jr_getI (n := 36) (i := 3) rfl dX3_send_33 rfl fX3_22 rfl (by decide) (by decide) rfl ?_
      rw [jup_ne (show (6 : Nat) ≠ 33 by decide)]
      refine jr_iload_n (n := 37) dX3_send_36 rfl rfl ?_
      refine jr_iast (n := 38) dX3_send_37 rfl rfl (by decide) (by omega) (by omega) ?_
      refine jr_aload_n (n := 39) dX3_send_38 rfl rfl ?_
      refine jr_dup (n := 40) dX3_send_39 rfl rfl ?_
      refine jr_getI (n := 43) (i := 3) rfl dX3_send_40 rfl fX3_22 rfl (by decide) (by decide) rfl ?_
      rw [jup_ne (show (6 : Nat) ≠ 34 by decide)]
      rw [jup_ne (show (6 : Nat) ≠ 33 by decide)]
      refine jr_iconst (n := 44) dX3_send_43 rfl ?_
      refine jr_iadd (n := 45) dX3_send_44 rfl ?_
      refine jr_putI (n := 48) (i := 3) rfl dX3_send_45 rfl fX3_22 wX3_3 rfl (by decide) (by decide) rfl ?_
      refine jr_vret dX3_send_48 rfl ?_
      first
        | (rw [if_neg (fun z => by omega)] at h; exact h)
        | (rw [if_neg (fun z => z.2 b12)] at h; exact h)
        | (rw [if_pos ⟨by omega, b12⟩] at h; exact h)

theorem e_notify_l {G : jG} {d : Nat} {M : jMem} {Q : Option Value → jMem → Prop} (hI : jO M) {v k : Int} (hv : 0 ≤ v ∧ v < 10) (hk : 0 ≤ k ∧ k < 12) (h : Q none (jsdE M v k))  : ∀ (f : Nat) (i : Int), 0 ≤ i → i ≤ M 8 14 → (∀ j, 0 ≤ j → j < i → ¬ (M 50 j = v ∧ M 51 j = k ∧ M 52 j = 0)) → M 8 14 - i < f → jM G mX8_notify (d) 2 [.ref (jad G 8), .int (jI v), .int (jI k), .int (jI i)] [] (M) Q := by
  intro f
  induction f with
  | zero =>
    intro i i0 i1 ha hf
    exact absurd hf (by omega)
  | succ f ih =>
    intro i i0 i1 ha hf
    have hz := jn1 hI
    unfold jsdE at h
    refine jr_iload_n (n := 3) dX8_notify_2 rfl rfl ?_
    refine jr_aload_n (n := 4) dX8_notify_3 rfl rfl ?_
    refine jr_getI (n := 7) (i := 14) rfl dX8_notify_4 rfl fX8_189 rfl (by decide) (by decide) rfl ?_
    refine jr_icmp_ge (n := 10) (t := 46) dX8_notify_7 (by decide) rfl (by omega) (by omega) (fun b7 => ?_) (fun b7 => ?_)
    · refine jr_aload_n (n := 47) dX8_notify_46 rfl rfl ?_
      refine jr_getI (n := 50) (i := 14) rfl dX8_notify_47 rfl fX8_189 rfl (by decide) (by decide) rfl ?_
      refine jr_bipush (n := 52) dX8_notify_50 rfl (by decide) ?_
      refine jr_icmp_ge (n := 55) (t := 95) dX8_notify_52 (by decide) rfl (by omega) (by omega) (fun b52 => ?_) (fun b52 => ?_)
      · refine jr_vret dX8_notify_95 rfl ?_
        first
          | (rw [if_neg (fun z => by omega)] at h; exact h)
          | (rw [if_pos ⟨by omega, fun ⟨j, j0, j1, j2, j3, j4⟩ => ha j j0 (by omega) ⟨j2, j3, j4⟩⟩] at h; exact h)
      · refine jr_aload_n (n := 56) dX8_notify_55 rfl rfl ?_
        refine jr_getR (n := 59) dX8_notify_56 rfl fX8_46 rfl (by decide) (by decide) rfl ?_
        refine jr_aload_n (n := 60) dX8_notify_59 rfl rfl ?_
        refine jr_getI (n := 63) (i := 14) rfl dX8_notify_60 rfl fX8_189 rfl (by decide) (by decide) rfl ?_
        refine jr_iload_n (n := 64) dX8_notify_63 rfl rfl ?_
        refine jr_iast (n := 65) dX8_notify_64 rfl rfl (by decide) (by omega) (by omega) ?_
        refine jr_aload_n (n := 66) dX8_notify_65 rfl rfl ?_
        refine jr_getR (n := 69) dX8_notify_66 rfl fX8_49 rfl (by decide) (by decide) rfl ?_
        refine jr_aload_n (n := 70) dX8_notify_69 rfl rfl ?_
        refine jr_getI (n := 73) (i := 14) rfl dX8_notify_70 rfl fX8_189 rfl (by decide) (by decide) rfl ?_
        rw [jup_ne (show (8 : Nat) ≠ 50 by decide)]
        refine jr_iload_n (n := 74) dX8_notify_73 rfl rfl ?_
        refine jr_iast (n := 75) dX8_notify_74 rfl rfl (by decide) (by omega) (by omega) ?_
        refine jr_aload_n (n := 76) dX8_notify_75 rfl rfl ?_
        refine jr_getR (n := 79) dX8_notify_76 rfl fX8_52 rfl (by decide) (by decide) rfl ?_
        refine jr_aload_n (n := 80) dX8_notify_79 rfl rfl ?_
        refine jr_getI (n := 83) (i := 14) rfl dX8_notify_80 rfl fX8_189 rfl (by decide) (by decide) rfl ?_
        rw [jup_ne (show (8 : Nat) ≠ 51 by decide)]
        rw [jup_ne (show (8 : Nat) ≠ 50 by decide)]
        refine jr_iconst (n := 84) dX8_notify_83 rfl ?_
        refine jr_iast (n := 85) dX8_notify_84 rfl rfl (by decide) (by omega) (by omega) ?_
        refine jr_aload_n (n := 86) dX8_notify_85 rfl rfl ?_
        refine jr_dup (n := 87) dX8_notify_86 rfl rfl ?_
        refine jr_getI (n := 90) (i := 14) rfl dX8_notify_87 rfl fX8_189 rfl (by decide) (by decide) rfl ?_
        rw [jup_ne (show (8 : Nat) ≠ 52 by decide)]
        rw [jup_ne (show (8 : Nat) ≠ 51 by decide)]
        rw [jup_ne (show (8 : Nat) ≠ 50 by decide)]
        refine jr_iconst (n := 91) dX8_notify_90 rfl ?_
        refine jr_iadd (n := 92) dX8_notify_91 rfl ?_
        refine jr_putI (n := 95) (i := 14) rfl dX8_notify_92 rfl fX8_189 wX8_14 rfl (by decide) (by decide) rfl ?_
        refine jr_vret dX8_notify_95 rfl ?_
        first
          | (rw [if_neg (fun z => by omega)] at h; exact h)
          | (rw [if_pos ⟨by omega, fun ⟨j, j0, j1, j2, j3, j4⟩ => ha j j0 (by omega) ⟨j2, j3, j4⟩⟩] at h; exact h)
    · have hr := jn12 hI i (by omega) (by omega)
      refine jr_aload_n (n := 11) dX8_notify_10 rfl rfl ?_
      refine jr_getR (n := 14) dX8_notify_11 rfl fX8_46 rfl (by decide) (by decide) rfl ?_
      refine jr_iload_n (n := 15) dX8_notify_14 rfl rfl ?_
      refine jr_iald (n := 16) dX8_notify_15 rfl rfl (by decide) (by omega) (by omega) ?_
      refine jr_iload_n (n := 17) dX8_notify_16 rfl rfl ?_
      refine jr_icmp_ne (n := 20) (t := 40) dX8_notify_17 (by decide) rfl (by omega) (by omega) (fun b17 => ?_) (fun b17 => ?_)
      · refine jr_iinc3 (n := 43) dX8_notify_40 rfl (by decide) rfl ?_
        refine jr_goto (t := 2) dX8_notify_43 (by decide) ?_
        exact ih (i + 1) (by omega) (by omega) (fun j j0 j1 => by
          by_cases e : j = i
          · subst e; omega
          · exact ha j j0 (by omega)) (by omega)
      · refine jr_aload_n (n := 21) dX8_notify_20 rfl rfl ?_
        refine jr_getR (n := 24) dX8_notify_21 rfl fX8_49 rfl (by decide) (by decide) rfl ?_
        refine jr_iload_n (n := 25) dX8_notify_24 rfl rfl ?_
        refine jr_iald (n := 26) dX8_notify_25 rfl rfl (by decide) (by omega) (by omega) ?_
        refine jr_iload_n (n := 27) dX8_notify_26 rfl rfl ?_
        refine jr_icmp_ne (n := 30) (t := 40) dX8_notify_27 (by decide) rfl (by omega) (by omega) (fun b27 => ?_) (fun b27 => ?_)
        · refine jr_iinc3 (n := 43) dX8_notify_40 rfl (by decide) rfl ?_
          refine jr_goto (t := 2) dX8_notify_43 (by decide) ?_
          exact ih (i + 1) (by omega) (by omega) (fun j j0 j1 => by
            by_cases e : j = i
            · subst e; omega
            · exact ha j j0 (by omega)) (by omega)
        · refine jr_aload_n (n := 31) dX8_notify_30 rfl rfl ?_
          refine jr_getR (n := 34) dX8_notify_31 rfl fX8_52 rfl (by decide) (by decide) rfl ?_
          refine jr_iload_n (n := 35) dX8_notify_34 rfl rfl ?_
          refine jr_iald (n := 36) dX8_notify_35 rfl rfl (by decide) (by omega) (by omega) ?_
          refine jr_if_ne (n := 39) (t := 40) dX8_notify_36 (by decide) rfl (by omega) (fun b36 => ?_) (fun b36 => ?_)
          · refine jr_iinc3 (n := 43) dX8_notify_40 rfl (by decide) rfl ?_
            refine jr_goto (t := 2) dX8_notify_43 (by decide) ?_
            exact ih (i + 1) (by omega) (by omega) (fun j j0 j1 => by
              by_cases e : j = i
              · subst e; omega
              · exact ha j j0 (by omega)) (by omega)
          · refine jr_vret dX8_notify_39 rfl ?_
            rw [if_neg (fun z => z.2 ⟨i, i0, by omega, b17, b27, b36⟩)] at h
            exact h

theorem e_notify {G : jG} {d : Nat} {M : jMem} {Q : Option Value → jMem → Prop} (hI : jO M) {v k : Int} (hv : 0 ≤ v ∧ v < 10) (hk : 0 ≤ k ∧ k < 12) (h : Q none (jsdE M v k)) : jN G mX8_notify (d) [.ref (jad G 8), .int (jI v), .int (jI k)] M Q := by
  show jM G mX8_notify (d) 0 [.ref (jad G 8), .int (jI v), .int (jI k), .null] [] M Q
  have hz := jn1 hI
  refine jr_iconst (n := 1) dX8_notify_0 rfl ?_
  refine jr_istore3 (n := 2) dX8_notify_1 rfl (by decide) rfl ?_
  exact e_notify_l hI hv hk h ((M 8 14).toNat + 1) 0 (by omega) (by omega) (fun j j0 j1 => absurd j1 (by omega)) (by omega)

theorem c_move_l {G : jG} {d : Nat} {Q : Option Value → jMem → Prop} {B : jMem} (hI : jK B) {k c L : Int} (hk : 0 ≤ k ∧ k < B 1 8) (hL : jpl B k L) (h : Q (some (.long (jL L))) (jslC B k (B 2 3).toNat))  : ∀ (f : Nat) (i : Int), 0 ≤ i → i ≤ B 2 3 → B 2 3 - i < f → jM G mX7_move (d + 3) 72 [.ref (jad G 0), .int (jI k), .int (jI c), .int (jI i)] [] (jslC B k i.toNat) Q := by
  intro f
  induction f with
  | zero =>
    intro i h0 h1 hf
    exact absurd hf (by omega)
  | succ f ih =>
    intro i h0 h1 hf
    have hz := jn1 hI
    have hK := jslC_K hI hk.1 (by omega) i.toNat (by omega)
    have hL0 := hL.1
    have hL1 := hL.2.1
    have hr := (jn3 hI k (by omega) (by omega)).1
    have hs := jn2 hI _ hr.1 hr.2
    refine jr_iload_n (n := 73) dX7_move_72 rfl rfl ?_
    refine jr_aload_n (n := 74) dX7_move_73 rfl rfl ?_
    refine jr_getR (n := 77) dX7_move_74 rfl fX7_19 rfl (by decide) (by decide) rfl ?_
    refine jr_getI (n := 80) (i := 3) rfl dX7_move_77 rfl fX7_85 rfl (by decide) (by decide) rfl ?_
    rw [jslC_ne (show (2 : Nat) ≠ 33 ∧ (2 : Nat) ≠ 34 ∧ (2 : Nat) ≠ 6 by decide)]
    refine jr_icmp_ge (n := 83) (t := 110) dX7_move_80 (by decide) rfl (by omega) (by omega) (fun b80 => ?_) (fun b80 => ?_)
    · refine jr_aload_n (n := 111) dX7_move_110 rfl rfl ?_
      refine jr_getR (n := 114) dX7_move_111 rfl fX7_10 rfl (by decide) (by decide) rfl ?_
      refine jr_iload_n (n := 115) dX7_move_114 rfl rfl ?_
      refine jr_cV1 (n := 118) (ci := 2) (ν := mX2_placeOf) dX7_move_115 rfl lX7_120 kX2_placeOf iX2_placeOf rfl ⟨_, rfl, rfl⟩ (by decide) (Nat.le_of_ble_eq_true rfl) (Nat.le_of_ble_eq_true rfl) rfl ?_
      have e : i = B 2 3 := by omega
      subst e
      have n10 : jslC B k (B 2 3).toNat 10 = B 10 := funext (jslC_ne (by decide) _)
      have n16 : jslC B k (B 2 3).toNat 16 = B 16 := funext (jslC_ne (by decide) _)
      have n17 : jslC B k (B 2 3).toNat 17 = B 17 := funext (jslC_ne (by decide) _)
      refine c_placeOf (p := L) (by omega) (by rw [n10]; exact hr) (by rw [n10, n17]; exact hs.2) (by rw [n10, n16, n17]; exact jpl_R hI (by omega) (by omega)) (by unfold jpl; rw [n10, n16, n17]; exact hL) ?_
      refine jr_i2l (n := 119) dX7_move_118 rfl (by omega) ?_
      refine jr_lret dX7_move_119 rfl ?_
      exact h
    · refine jr_aload_n (n := 84) dX7_move_83 rfl rfl ?_
      refine jr_getR (n := 87) dX7_move_84 rfl fX7_10 rfl (by decide) (by decide) rfl ?_
      refine jr_iload_n (n := 88) dX7_move_87 rfl rfl ?_
      refine jr_iload_n (n := 89) dX7_move_88 rfl rfl ?_
      refine jr_cV2 (n := 92) (ci := 2) (ν := mX2_hasNeedOf) dX7_move_89 rfl lX7_163 kX2_hasNeedOf iX2_hasNeedOf rfl ⟨_, rfl, rfl⟩ (by decide) (Nat.le_of_ble_eq_true rfl) (Nat.le_of_ble_eq_true rfl) rfl ?_
      refine c_hasNeedOf (by omega) (fun b89 => ?_) (fun b89 => ?_)
      all_goals rw [jslC_ne (show (13 : Nat) ≠ 33 ∧ (13 : Nat) ≠ 34 ∧ (13 : Nat) ≠ 6 by decide)] at b89
      · refine jr_ifF_eq (n := 95) (t := 104) dX7_move_92 rfl (by decide) (by decide) (by decide) ?_
        refine jr_aload_n (n := 96) dX7_move_95 rfl rfl ?_
        refine jr_getR (n := 99) dX7_move_96 rfl fX7_47 rfl (by decide) (by decide) rfl ?_
        refine jr_iload_n (n := 100) dX7_move_99 rfl rfl ?_
        refine jr_iload_n (n := 101) dX7_move_100 rfl rfl ?_
        refine jr_cV2 (n := 104) (ci := 3) (ν := mX3_send) dX7_move_101 rfl lX7_225 kX3_send iX3_send rfl ⟨_, rfl, rfl⟩ (by decide) (Nat.le_of_ble_eq_true rfl) (Nat.le_of_ble_eq_true rfl) rfl ?_
        refine c_send hK (by omega) (by omega) ?_
        refine jr_iinc3 (n := 107) dX7_move_104 rfl (by decide) rfl ?_
        refine jr_goto (t := 72) dX7_move_107 (by decide) ?_
        have e : (i + 1).toNat = i.toNat + 1 := by omega
        have e2 : ((i.toNat : Nat) : Int) = i := by omega
        have e3 : jslC B k (i + 1).toNat = if jbit (B 13 k) i then jsdC (jslC B k i.toNat) i k else jslC B k i.toNat := by
          rw [e]; show (if jbit (B 13 k) ((i.toNat : Nat) : Int) then jsdC (jslC B k i.toNat) ((i.toNat : Nat) : Int) k else jslC B k i.toNat) = _; rw [e2]
        first
          | (rw [if_pos b89] at e3; rw [← e3]; exact ih (i + 1) (by omega) (by omega) (by omega))
          | (rw [if_neg b89] at e3; rw [← e3]; exact ih (i + 1) (by omega) (by omega) (by omega))
      · refine jr_ifT_eq (t := 104) dX7_move_92 (by decide) (by decide) (by decide) ?_
        refine jr_iinc3 (n := 107) dX7_move_104 rfl (by decide) rfl ?_
        refine jr_goto (t := 72) dX7_move_107 (by decide) ?_
        have e : (i + 1).toNat = i.toNat + 1 := by omega
        have e2 : ((i.toNat : Nat) : Int) = i := by omega
        have e3 : jslC B k (i + 1).toNat = if jbit (B 13 k) i then jsdC (jslC B k i.toNat) i k else jslC B k i.toNat := by
          rw [e]; show (if jbit (B 13 k) ((i.toNat : Nat) : Int) then jsdC (jslC B k i.toNat) ((i.toNat : Nat) : Int) k else jslC B k i.toNat) = _; rw [e2]
        first
          | (rw [if_pos b89] at e3; rw [← e3]; exact ih (i + 1) (by omega) (by omega) (by omega))
          | (rw [if_neg b89] at e3; rw [← e3]; exact ih (i + 1) (by omega) (by omega) (by omega))

theorem jmvC_K {M : jMem} (h : jK M) {k p c : Int} (k0 : 0 ≤ k) (k1 : k < M 1 8) (hp : jpl M k p) (c0 : 0 ≤ c) (c1 : c < 3) (hf : c = M 10 k ∨ M 17 c < 6) :
    jK (jmvC M k p c) ∧ (0 ≤ jlvC M k p 17 c ∧ jlvC M k p 17 c < 6) ∧ jpl (jmvC M k p c) k (jlvC M k p 17 c) := by
  have eL : jlvC M k p 17 c = if c = M 10 k then M 17 (M 10 k) - 1 else M 17 c := by
    unfold jlvC
    by_cases e : c = M 10 k
    · rw [e, jup_at, if_pos rfl]
    · rw [jup_off e, jblk_ne (by decide), if_neg e]
  have hco : ∀ b, jmvC M k p c 10 b = if b = k then c else M 10 b := fun b => by
    unfold jmvC
    by_cases e : b = k
    · rw [e, jup_at, if_pos rfl]
    · rw [jup_off e, jup_ne (by decide), jup_ne (by decide), if_neg e]
      unfold jlvC
      rw [jup_ne (by decide), jblk_ne (by decide)]
  have hls : ∀ b, jmvC M k p c 17 b = if b = c then jlvC M k p 17 c + 1 else if b = M 10 k then M 17 (M 10 k) - 1 else M 17 b := fun b => by
    unfold jmvC
    rw [jup_ne (by decide)]
    by_cases e : b = c
    · rw [e, jup_at, if_pos rfl]
    · rw [jup_off e, jup_ne (by decide), if_neg e]
      unfold jlvC
      by_cases e2 : b = M 10 k
      · rw [e2, jup_at, if_pos rfl]
      · rw [jup_off e2, jblk_ne (by decide), if_neg e2]
  have hli : ∀ b, jmvC M k p c 16 b = if b = 6 * c + jlvC M k p 17 c then k else if 6 * M 10 k + p ≤ b ∧ b < 6 * M 10 k + M 17 (M 10 k) - 1 then M 16 (b + 1) else M 16 b := fun b => by
    unfold jmvC
    rw [jup_ne (by decide), jup_ne (by decide), Int.mul_comm c 6]
    by_cases e : b = 6 * c + jlvC M k p 17 c
    · rw [e, jup_at, if_pos rfl]
    · rw [jup_off e, if_neg e]
      unfold jlvC
      rw [jup_ne (by decide), Int.mul_comm (M 10 k) 6]
      by_cases q : 6 * M 10 k + p ≤ b ∧ b < 6 * M 10 k + M 17 (M 10 k) - 1
      · rw [jblk_in q, if_pos q]
      · rw [jblk_out q, if_neg q]
  obtain ⟨r1, r2, r3, r4, r5, r6⟩ := jmv h k0 k1 c0 c1 hp.1 hp.2.1 hp.2.2.1 eL hf hco hli hls
  refine ⟨r1, ⟨r2, r3⟩, r2, ?_, ?_, ?_⟩
  · rw [hco, if_pos rfl, r4]; omega
  · rw [hco, if_pos rfl]; exact r5
  · rw [hco, if_pos rfl]; exact r6
theorem c_move {G : jG} {d : Nat} {M : jMem} {Q : Option Value → jMem → Prop} (hI : jK M) {k c : Int} (hk : jR k) (hc : jR c) (hB : ¬ ((0 ≤ k ∧ k < M 1 8) ∧ (0 ≤ c ∧ c ≤ 2)) → Q (some (.long (jL (-9000000000000000001)))) M) (hF : 0 ≤ k → k < M 1 8 → 0 ≤ c → c ≤ 2 → c ≠ M 10 k → M 17 c = 6 → Q (some (.long (jL (-9000000000000000003)))) M) (h : 0 ≤ k → k < M 1 8 → 0 ≤ c → c ≤ 2 → (c = M 10 k ∨ M 17 c < 6) → ∀ p, jpl M k p → Q (some (.long (jL (jlvC M k p 17 c)))) (jslC (jmvC M k p c) k (M 2 3).toNat)) : jN G mX7_move (d + 4) [.ref (jad G 0), .int (jI k), .int (jI c)] M Q := by
  show jM G mX7_move (d + 4) 0 [.ref (jad G 0), .int (jI k), .int (jI c), .null] [] M Q
  have hz := jn1 hI
  refine jr_aload_n (n := 1) dX7_move_0 rfl rfl ?_
  refine jr_getR (n := 4) dX7_move_1 rfl fX7_10 rfl (by decide) (by decide) rfl ?_
  refine jr_iload_n (n := 5) dX7_move_4 rfl rfl ?_
  refine jr_cV1 (n := 8) (ci := 2) (ν := mX2_has) dX7_move_5 rfl lX7_99 kX2_has iX2_has rfl ⟨_, rfl, rfl⟩ (by decide) (Nat.le_of_ble_eq_true rfl) (Nat.le_of_ble_eq_true rfl) rfl ?_
  refine c_hasC (by omega) (by omega) (fun b5 b5b => ?_) (fun b5 => ?_)
  · refine jr_ifF_eq (n := 11) (t := 18) dX7_move_8 rfl (by decide) (by decide) (by decide) ?_
    refine jr_iload_n (n := 12) dX7_move_11 rfl rfl ?_
    refine jr_cS1 (n := 15) (ν := mX7_isCourt) dX7_move_12 rfl lX7_62 kX7_isCourt iX7_isCourt (Nat.le_of_ble_eq_true rfl) (Nat.le_of_ble_eq_true rfl) rfl ?_
    refine c_isCourt (by omega) (fun b12 b12b => ?_) (fun b12 => ?_)
    · refine jr_ifT_ne (t := 22) dX7_move_15 (by decide) (by decide) (by decide) ?_
      have hr := (jn3 hI k (by omega) (by omega)).1
      have hs := jn2 hI c (by omega) (by omega)
      refine jr_aload_n (n := 23) dX7_move_22 rfl rfl ?_
      refine jr_getR (n := 26) dX7_move_23 rfl fX7_10 rfl (by decide) (by decide) rfl ?_
      refine jr_getR (n := 29) dX7_move_26 rfl fX7_117 rfl (by decide) (by decide) rfl ?_
      refine jr_iload_n (n := 30) dX7_move_29 rfl rfl ?_
      refine jr_iald (n := 31) dX7_move_30 rfl rfl (by decide) (by omega) (by omega) ?_
      refine jr_iload_n (n := 32) dX7_move_31 rfl rfl ?_
      refine jr_icmp_eq (n := 35) (t := 53) dX7_move_32 (by decide) rfl (by omega) (by omega) (fun b32 => ?_) (fun b32 => ?_)
      · refine jr_aload_n (n := 54) dX7_move_53 rfl rfl ?_
        refine jr_getR (n := 57) dX7_move_54 rfl fX7_10 rfl (by decide) (by decide) rfl ?_
        refine jr_iload_n (n := 58) dX7_move_57 rfl rfl ?_
        refine jr_cV1 (n := 61) (ci := 2) (ν := mX2_leaveList) dX7_move_58 rfl lX7_217 kX2_leaveList iX2_leaveList rfl ⟨_, rfl, rfl⟩ (by decide) (Nat.le_of_ble_eq_true rfl) (Nat.le_of_ble_eq_true rfl) rfl ?_
        obtain ⟨p, hp⟩ := jpl_of hI (k := k) (by omega) (by omega)
        obtain ⟨m1, m2, m3⟩ := jmvC_K hI (k := k) (p := p) (c := c) (by omega) (by omega) hp (by omega) (by omega) (by omega)
        refine c_leaveList hI (by omega) hp ?_
        refine jr_aload_n (n := 62) dX7_move_61 rfl rfl ?_
        refine jr_getR (n := 65) dX7_move_62 rfl fX7_10 rfl (by decide) (by decide) rfl ?_
        refine jr_iload_n (n := 66) dX7_move_65 rfl rfl ?_
        refine jr_iload_n (n := 67) dX7_move_66 rfl rfl ?_
        refine jr_cV2 (n := 70) (ci := 2) (ν := mX2_joinList) dX7_move_67 rfl lX7_221 kX2_joinList iX2_joinList rfl ⟨_, rfl, rfl⟩ (by decide) (Nat.le_of_ble_eq_true rfl) (Nat.le_of_ble_eq_true rfl) rfl ?_
        refine c_joinList (by omega) (by omega) m2 ?_
        refine jr_iconst (n := 71) dX7_move_70 rfl ?_
        refine jr_istore3 (n := 72) dX7_move_71 rfl (by decide) rfl ?_
        exact c_move_l (B := jmvC M k p c) m1 ⟨by omega, by show k < jmvC M k p c 1 8; exact (by omega : k < M 1 8)⟩ m3 (h (by omega) (by omega) (by omega) (by omega) (by omega) p hp) ((M 2 3).toNat + 1) 0 (by omega) (show 0 ≤ M 2 3 by omega) (show M 2 3 - 0 < _ by omega)
      · refine jr_aload_n (n := 36) dX7_move_35 rfl rfl ?_
        refine jr_getR (n := 39) dX7_move_36 rfl fX7_10 rfl (by decide) (by decide) rfl ?_
        refine jr_getR (n := 42) dX7_move_39 rfl fX7_76 rfl (by decide) (by decide) rfl ?_
        refine jr_iload_n (n := 43) dX7_move_42 rfl rfl ?_
        refine jr_iald (n := 44) dX7_move_43 rfl rfl (by decide) (by omega) (by omega) ?_
        refine jr_bipush (n := 46) dX7_move_44 rfl (by decide) ?_
        refine jr_icmp_lt (n := 49) (t := 53) dX7_move_46 (by decide) rfl (by omega) (by omega) (fun b46 => ?_) (fun b46 => ?_)
        · refine jr_aload_n (n := 54) dX7_move_53 rfl rfl ?_
          refine jr_getR (n := 57) dX7_move_54 rfl fX7_10 rfl (by decide) (by decide) rfl ?_
          refine jr_iload_n (n := 58) dX7_move_57 rfl rfl ?_
          refine jr_cV1 (n := 61) (ci := 2) (ν := mX2_leaveList) dX7_move_58 rfl lX7_217 kX2_leaveList iX2_leaveList rfl ⟨_, rfl, rfl⟩ (by decide) (Nat.le_of_ble_eq_true rfl) (Nat.le_of_ble_eq_true rfl) rfl ?_
          obtain ⟨p, hp⟩ := jpl_of hI (k := k) (by omega) (by omega)
          obtain ⟨m1, m2, m3⟩ := jmvC_K hI (k := k) (p := p) (c := c) (by omega) (by omega) hp (by omega) (by omega) (by omega)
          refine c_leaveList hI (by omega) hp ?_
          refine jr_aload_n (n := 62) dX7_move_61 rfl rfl ?_
          refine jr_getR (n := 65) dX7_move_62 rfl fX7_10 rfl (by decide) (by decide) rfl ?_
          refine jr_iload_n (n := 66) dX7_move_65 rfl rfl ?_
          refine jr_iload_n (n := 67) dX7_move_66 rfl rfl ?_
          refine jr_cV2 (n := 70) (ci := 2) (ν := mX2_joinList) dX7_move_67 rfl lX7_221 kX2_joinList iX2_joinList rfl ⟨_, rfl, rfl⟩ (by decide) (Nat.le_of_ble_eq_true rfl) (Nat.le_of_ble_eq_true rfl) rfl ?_
          refine c_joinList (by omega) (by omega) m2 ?_
          refine jr_iconst (n := 71) dX7_move_70 rfl ?_
          refine jr_istore3 (n := 72) dX7_move_71 rfl (by decide) rfl ?_
          exact c_move_l (B := jmvC M k p c) m1 ⟨by omega, by show k < jmvC M k p c 1 8; exact (by omega : k < M 1 8)⟩ m3 (h (by omega) (by omega) (by omega) (by omega) (by omega) p hp) ((M 2 3).toNat + 1) 0 (by omega) (show 0 ≤ M 2 3 by omega) (show M 2 3 - 0 < _ by omega)
        · refine jr_ldc2 (n := 52) dX7_move_49 rfl rfl qX7_79 vX7_79 ?_
          refine jr_lret dX7_move_52 rfl ?_
          first | exact hB (by omega) | exact hF (by omega) (by omega) (by omega) (by omega) (by omega) (by omega)
    · refine jr_ifF_ne (n := 18) (t := 22) dX7_move_15 rfl (by decide) (by decide) (by decide) ?_
      refine jr_ldc2 (n := 21) dX7_move_18 rfl rfl qX7_70 vX7_70 ?_
      refine jr_lret dX7_move_21 rfl ?_
      first | exact hB (by omega) | exact hF (by omega) (by omega) (by omega) (by omega) (by omega) (by omega)
  · refine jr_ifT_eq (t := 18) dX7_move_8 (by decide) (by decide) (by decide) ?_
    refine jr_ldc2 (n := 21) dX7_move_18 rfl rfl qX7_70 vX7_70 ?_
    refine jr_lret dX7_move_21 rfl ?_
    first | exact hB (by omega) | exact hF (by omega) (by omega) (by omega) (by omega) (by omega) (by omega)

theorem jmvE_O {M : jMem} (h : jO M) {k p c : Int} (k0 : 0 ≤ k) (k1 : k < M 8 2) (hp : jplo M k p) (c0 : 0 ≤ c) (c1 : c < 3) (hf : c = M 40 k ∨ M 38 c < 6) :
    jO (jmvE M k p c) ∧ (0 ≤ jlvE M k p 38 c ∧ jlvE M k p 38 c < 6) := by
  have eL : jlvE M k p 38 c = if c = M 40 k then M 38 (M 40 k) - 1 else M 38 c := by
    unfold jlvE
    rw [jblk_ne (by decide)]
    by_cases e : c = M 40 k
    · rw [e, jup_at, if_pos rfl]
    · rw [jup_off e, if_neg e]
  have hco : ∀ b, jmvE M k p c 40 b = if b = k then c else M 40 b := fun b => by
    unfold jmvE
    rw [jup_ne (by decide), jup_ne (by decide)]
    by_cases e : b = k
    · rw [e, jup_at, if_pos rfl]
    · rw [jup_off e, if_neg e]
      unfold jlvE
      rw [jblk_ne (by decide), jup_ne (by decide)]
  have hls : ∀ b, jmvE M k p c 38 b = if b = c then jlvE M k p 38 c + 1 else if b = M 40 k then M 38 (M 40 k) - 1 else M 38 b := fun b => by
    unfold jmvE
    by_cases e : b = c
    · rw [e, jup_at, if_pos rfl]
    · rw [jup_off e, jup_ne (by decide), jup_ne (by decide), if_neg e]
      unfold jlvE
      rw [jblk_ne (by decide)]
      by_cases e2 : b = M 40 k
      · rw [e2, jup_at, if_pos rfl]
      · rw [jup_off e2, if_neg e2]
  have hli : ∀ b, jmvE M k p c 39 b = if b = 6 * c + jlvE M k p 38 c then k else if 6 * M 40 k + p ≤ b ∧ b < 6 * M 40 k + M 38 (M 40 k) - 1 then M 39 (b + 1) else M 39 b := fun b => by
    unfold jmvE
    rw [jup_ne (by decide)]
    by_cases e : b = 6 * c + jlvE M k p 38 c
    · rw [e, jup_at, if_pos rfl]
    · rw [jup_off e, jup_ne (by decide), if_neg e]
      unfold jlvE
      by_cases q : 6 * M 40 k + p ≤ b ∧ b < 6 * M 40 k + M 38 (M 40 k) - 1
      · rw [jblk_in (by omega), if_pos q]
      · rw [jblk_out (by omega), if_neg q, jup_ne (by decide)]
  obtain ⟨r1, r2, r3, r4, r5, r6⟩ := jmv h k0 k1 c0 c1 hp.1 hp.2.1 hp.2.2.1 eL hf hco hli hls
  exact ⟨r1, r2, r3⟩
theorem e_move_l {G : jG} {d : Nat} {Q : Option Value → jMem → Prop} {B : jMem} (hI : jO B) {k c a : Int} (hk : 0 ≤ k ∧ k < B 8 2) (hc : 0 ≤ c ∧ c < 3) (h : Q (some (.long (jL (B 38 c - 1)))) (jslE B k (B 8 8).toNat))  : ∀ (f : Nat) (i : Int), 0 ≤ i → i ≤ B 8 8 → B 8 8 - i < f → jM G mX8_move (d + 2) 120 [.ref (jad G 8), .int (jI k), .int (jI c), .int (jI a), .int (jI i)] [] (jslE B k i.toNat) Q := by
  intro f
  induction f with
  | zero =>
    intro i h0 h1 hf
    exact absurd hf (by omega)
  | succ f ih =>
    intro i h0 h1 hf
    have hz := jn1 hI
    have hK := jslE_O hI hk.1 (by omega) i.toNat (by omega)
    have hs := jn2 hI c hc.1 hc.2
    refine jr_iload (n := 122) dX8_move_120 rfl rfl ?_
    refine jr_aload_n (n := 123) dX8_move_122 rfl rfl ?_
    refine jr_getI (n := 126) (i := 8) rfl dX8_move_123 rfl fX8_100 rfl (by decide) (by decide) rfl ?_
    rw [jslE_8 (show (8 : Int) ≠ 14 by decide)]
    refine jr_icmp_ge (n := 129) (t := 152) dX8_move_126 (by decide) rfl (by omega) (by omega) (fun b126 => ?_) (fun b126 => ?_)
    · refine jr_aload_n (n := 153) dX8_move_152 rfl rfl ?_
      refine jr_getR (n := 156) dX8_move_153 rfl fX8_7 rfl (by decide) (by decide) rfl ?_
      refine jr_iload_n (n := 157) dX8_move_156 rfl rfl ?_
      refine jr_iald (n := 158) dX8_move_157 rfl rfl (by decide) (by omega) (by omega) ?_
      rw [jslE_ne (show (38 : Nat) ≠ 50 ∧ (38 : Nat) ≠ 51 ∧ (38 : Nat) ≠ 52 ∧ (38 : Nat) ≠ 8 by decide)]
      refine jr_iconst (n := 159) dX8_move_158 rfl ?_
      refine jr_isub (n := 160) dX8_move_159 rfl ?_
      refine jr_i2l (n := 161) dX8_move_160 rfl (by omega) ?_
      refine jr_lret dX8_move_161 rfl ?_
      have e : i = B 8 8 := by omega
      subst e
      exact h
    · refine jr_aload_n (n := 130) dX8_move_129 rfl rfl ?_
      refine jr_iload_n (n := 131) dX8_move_130 rfl rfl ?_
      refine jr_iload (n := 133) dX8_move_131 rfl rfl ?_
      refine jr_cV2 (n := 136) (ci := 8) (ν := mX8_needs1) dX8_move_133 rfl lX8_121 kX8_needs1 iX8_needs1 rfl ⟨_, rfl, rfl⟩ (by decide) (Nat.le_of_ble_eq_true rfl) (Nat.le_of_ble_eq_true rfl) rfl ?_
      refine e_needs1 (by omega) (fun b133 => ?_) (fun b133 => ?_)
      all_goals rw [jslE_ne (show (43 : Nat) ≠ 50 ∧ (43 : Nat) ≠ 51 ∧ (43 : Nat) ≠ 52 ∧ (43 : Nat) ≠ 8 by decide)] at b133
      · refine jr_ifF_eq (n := 139) (t := 146) dX8_move_136 rfl (by decide) (by decide) (by decide) ?_
        refine jr_aload_n (n := 140) dX8_move_139 rfl rfl ?_
        refine jr_iload (n := 142) dX8_move_140 rfl rfl ?_
        refine jr_iload_n (n := 143) dX8_move_142 rfl rfl ?_
        refine jr_cV2 (n := 146) (ci := 8) (ν := mX8_notify) dX8_move_143 rfl lX8_192 kX8_notify iX8_notify rfl ⟨_, rfl, rfl⟩ (by decide) (Nat.le_of_ble_eq_true rfl) (Nat.le_of_ble_eq_true rfl) rfl ?_
        refine e_notify hK (by omega) (by omega) ?_
        refine jr_iinc4 (n := 149) dX8_move_146 rfl (by decide) rfl ?_
        refine jr_goto (t := 120) dX8_move_149 (by decide) ?_
        have e : (i + 1).toNat = i.toNat + 1 := by omega
        have e2 : ((i.toNat : Nat) : Int) = i := by omega
        have e3 : jslE B k (i + 1).toNat = if jbit (B 43 k) i then jsdE (jslE B k i.toNat) i k else jslE B k i.toNat := by
          rw [e]; show (if jbit (B 43 k) ((i.toNat : Nat) : Int) then jsdE (jslE B k i.toNat) ((i.toNat : Nat) : Int) k else jslE B k i.toNat) = _; rw [e2]
        first
          | (rw [if_pos b133] at e3; rw [← e3]; exact ih (i + 1) (by omega) (by omega) (by omega))
          | (rw [if_neg b133] at e3; rw [← e3]; exact ih (i + 1) (by omega) (by omega) (by omega))
      · refine jr_ifT_eq (t := 146) dX8_move_136 (by decide) (by decide) (by decide) ?_
        refine jr_iinc4 (n := 149) dX8_move_146 rfl (by decide) rfl ?_
        refine jr_goto (t := 120) dX8_move_149 (by decide) ?_
        have e : (i + 1).toNat = i.toNat + 1 := by omega
        have e2 : ((i.toNat : Nat) : Int) = i := by omega
        have e3 : jslE B k (i + 1).toNat = if jbit (B 43 k) i then jsdE (jslE B k i.toNat) i k else jslE B k i.toNat := by
          rw [e]; show (if jbit (B 43 k) ((i.toNat : Nat) : Int) then jsdE (jslE B k i.toNat) ((i.toNat : Nat) : Int) k else jslE B k i.toNat) = _; rw [e2]
        first
          | (rw [if_pos b133] at e3; rw [← e3]; exact ih (i + 1) (by omega) (by omega) (by omega))
          | (rw [if_neg b133] at e3; rw [← e3]; exact ih (i + 1) (by omega) (by omega) (by omega))

theorem e_leave_l {G : jG} {d : Nat} {M : jMem} {Q : Option Value → jMem → Prop} (hI : jO M) {k p c : Int} (hk : 0 ≤ k ∧ k < M 8 2) (hp : jplo M k p) (h : jM G mX8_move (d + 2) 111 [.ref (jad G 8), .int (jI k), .int (jI c), .int (jI (M 40 k)), .null] [] (jlvE M k p) Q)  : ∀ (f : Nat) (i : Int), p ≤ i → i ≤ M 38 (M 40 k) - 1 → M 38 (M 40 k) - i < f → jM G mX8_move (d + 2) 68 [.ref (jad G 8), .int (jI k), .int (jI c), .int (jI (M 40 k)), .int (jI i)] [] (jblk (jup M 38 (M 40 k) (M 38 (M 40 k) - 1)) 39 (6 * M 40 k + p) (6 * M 40 k + i) (fun b => M 39 (b + 1))) Q := by
  intro f
  induction f with
  | zero =>
    intro i h0 h1 hf
    exact absurd hf (by omega)
  | succ f ih =>
    intro i h0 h1 hf
    have hz := jn1 hI
    have hr := (jn3 hI k (by omega) (by omega)).1
    have hs := jn2 hI _ hr.1 hr.2
    have hp0 := hp.1
    have hp1 := hp.2.1
    refine jr_iload (n := 70) dX8_move_68 rfl rfl ?_
    refine jr_aload_n (n := 71) dX8_move_70 rfl rfl ?_
    refine jr_getR (n := 74) dX8_move_71 rfl fX8_7 rfl (by decide) (by decide) rfl ?_
    refine jr_iload_n (n := 75) dX8_move_74 rfl rfl ?_
    refine jr_iald (n := 76) dX8_move_75 rfl rfl (by decide) (by omega) (by omega) ?_
    rw [jblk_ne (show (38 : Nat) ≠ 39 by decide), jup_at]
    refine jr_icmp_ge (n := 79) (t := 111) dX8_move_76 (by decide) rfl (by omega) (by omega) (fun b76 => ?_) (fun b76 => ?_)
    · have e : i = M 38 (M 40 k) - 1 := by omega
      subst e
      exact jr_drop h ⟨Or.inr rfl, Or.inr rfl, Or.inr rfl, Or.inr rfl, Or.inl rfl, trivial⟩
    · refine jr_aload_n (n := 80) dX8_move_79 rfl rfl ?_
      refine jr_getR (n := 83) dX8_move_80 rfl fX8_13 rfl (by decide) (by decide) rfl ?_
      refine jr_bipush (n := 85) dX8_move_83 rfl (by decide) ?_
      refine jr_iload_n (n := 86) dX8_move_85 rfl rfl ?_
      refine jr_imul (n := 87) dX8_move_86 rfl ?_
      refine jr_iload (n := 89) dX8_move_87 rfl rfl ?_
      refine jr_iadd (n := 90) dX8_move_89 rfl ?_
      refine jr_aload_n (n := 91) dX8_move_90 rfl rfl ?_
      refine jr_getR (n := 94) dX8_move_91 rfl fX8_13 rfl (by decide) (by decide) rfl ?_
      refine jr_bipush (n := 96) dX8_move_94 rfl (by decide) ?_
      refine jr_iload_n (n := 97) dX8_move_96 rfl rfl ?_
      refine jr_imul (n := 98) dX8_move_97 rfl ?_
      refine jr_iload (n := 100) dX8_move_98 rfl rfl ?_
      refine jr_iadd (n := 101) dX8_move_100 rfl ?_
      refine jr_iconst (n := 102) dX8_move_101 rfl ?_
      refine jr_iadd (n := 103) dX8_move_102 rfl ?_
      refine jr_iald (n := 104) dX8_move_103 rfl rfl (by decide) (by omega) (by omega) ?_
      rw [jblk_out (by omega), jup_ne (show (39 : Nat) ≠ 38 by decide)]
      refine jr_iast (n := 105) dX8_move_104 rfl rfl (by decide) (by omega) (by omega) ?_
      refine jr_iinc4 (n := 108) dX8_move_105 rfl (by decide) rfl ?_
      refine jr_goto (t := 68) dX8_move_108 (by decide) ?_
      rw [jblk_up _ 39 (fun b => M 39 (b + 1)) (by omega) rfl, show 6 * M 40 k + i + 1 = 6 * M 40 k + (i + 1) by omega]
      exact ih (i + 1) (by omega) (by omega) (by omega)

theorem e_move {G : jG} {d : Nat} {M : jMem} {Q : Option Value → jMem → Prop} (hI : jO M) {k c : Int} (hk : jR k) (hc : jR c) (hB : ¬ ((0 ≤ k ∧ k < M 8 2) ∧ (0 ≤ c ∧ c ≤ 2)) → Q (some (.long (jL (-9000000000000000001)))) M) (hF : 0 ≤ k → k < M 8 2 → 0 ≤ c → c ≤ 2 → c ≠ M 40 k → M 38 c = 6 → Q (some (.long (jL (-9000000000000000003)))) M) (h : 0 ≤ k → k < M 8 2 → 0 ≤ c → c ≤ 2 → (c = M 40 k ∨ M 38 c < 6) → ∀ p, jplo M k p → Q (some (.long (jL (jmvE M k p c 38 c - 1)))) (jslE (jmvE M k p c) k (M 8 8).toNat)) : jN G mX8_move (d + 2) [.ref (jad G 8), .int (jI k), .int (jI c)] M Q := by
  show jM G mX8_move (d + 2) 0 [.ref (jad G 8), .int (jI k), .int (jI c), .null, .null] [] M Q
  have hz := jn1 hI
  refine jr_aload_n (n := 1) dX8_move_0 rfl rfl ?_
  refine jr_iload_n (n := 2) dX8_move_1 rfl rfl ?_
  refine jr_cV1 (n := 5) (ci := 8) (ν := mX8_isCase) dX8_move_2 rfl lX8_118 kX8_isCase iX8_isCase rfl ⟨_, rfl, rfl⟩ (by decide) (Nat.le_of_ble_eq_true rfl) (Nat.le_of_ble_eq_true rfl) rfl ?_
  refine e_isCase (by omega) (by omega) (fun b2 b2b => ?_) (fun b2 => ?_)
  · refine jr_ifF_eq (n := 8) (t := 15) dX8_move_5 rfl (by decide) (by decide) (by decide) ?_
    refine jr_iload_n (n := 9) dX8_move_8 rfl rfl ?_
    refine jr_cS1 (n := 12) (ν := mX8_isCourt) dX8_move_9 rfl lX8_103 kX8_isCourt iX8_isCourt (Nat.le_of_ble_eq_true rfl) (Nat.le_of_ble_eq_true rfl) rfl ?_
    refine e_isCourt (by omega) (fun b9 b9b => ?_) (fun b9 => ?_)
    · refine jr_ifT_ne (t := 19) dX8_move_12 (by decide) (by decide) (by decide) ?_
      have hr := (jn3 hI k (by omega) (by omega)).1
      have hs := jn2 hI c (by omega) (by omega)
      have hs2 := jn2 hI _ hr.1 hr.2
      refine jr_iload_n (n := 20) dX8_move_19 rfl rfl ?_
      refine jr_aload_n (n := 21) dX8_move_20 rfl rfl ?_
      refine jr_getR (n := 24) dX8_move_21 rfl fX8_16 rfl (by decide) (by decide) rfl ?_
      refine jr_iload_n (n := 25) dX8_move_24 rfl rfl ?_
      refine jr_iald (n := 26) dX8_move_25 rfl rfl (by decide) (by omega) (by omega) ?_
      refine jr_icmp_eq (n := 29) (t := 44) dX8_move_26 (by decide) rfl (by omega) (by omega) (fun b26 => ?_) (fun b26 => ?_)
      · refine jr_aload_n (n := 45) dX8_move_44 rfl rfl ?_
        refine jr_getR (n := 48) dX8_move_45 rfl fX8_16 rfl (by decide) (by decide) rfl ?_
        refine jr_iload_n (n := 49) dX8_move_48 rfl rfl ?_
        refine jr_iald (n := 50) dX8_move_49 rfl rfl (by decide) (by omega) (by omega) ?_
        refine jr_istore3 (n := 51) dX8_move_50 rfl (by decide) rfl ?_
        refine jr_aload_n (n := 52) dX8_move_51 rfl rfl ?_
        refine jr_getR (n := 55) dX8_move_52 rfl fX8_7 rfl (by decide) (by decide) rfl ?_
        refine jr_iload_n (n := 56) dX8_move_55 rfl rfl ?_
        refine jr_dup2 (n := 57) dX8_move_56 rfl rfl rfl ?_
        refine jr_iald (n := 58) dX8_move_57 rfl rfl (by decide) (by omega) (by omega) ?_
        refine jr_iconst (n := 59) dX8_move_58 rfl ?_
        refine jr_isub (n := 60) dX8_move_59 rfl ?_
        refine jr_iast (n := 61) dX8_move_60 rfl rfl (by decide) (by omega) (by omega) ?_
        refine jr_aload_n (n := 62) dX8_move_61 rfl rfl ?_
        refine jr_iload_n (n := 63) dX8_move_62 rfl rfl ?_
        refine jr_cV1 (n := 66) (ci := 8) (ν := mX8_placeOf) dX8_move_63 rfl lX8_125 kX8_placeOf iX8_placeOf rfl ⟨_, rfl, rfl⟩ (by decide) (Nat.le_of_ble_eq_true rfl) (Nat.le_of_ble_eq_true rfl) rfl ?_
        obtain ⟨p, hp⟩ := jplo_of hI (k := k) (by omega) (by omega)
        have hp0 := hp.1
        have hp1 := hp.2.1
        obtain ⟨m1, m2⟩ := jmvE_O hI (k := k) (p := p) (c := c) (by omega) (by omega) hp (by omega) (by omega) (by omega)
        refine e_placeOf (p := p) (by omega) (by rw [jup_ne (show (40 : Nat) ≠ 38 by decide)]; exact hr) (by omega) (fun q q0 q1 => by rw [jup_ne (show (40 : Nat) ≠ 38 by decide), jup_ne (show (39 : Nat) ≠ 38 by decide)]; exact jplo_R hI (by omega) (by omega) q q0 (by omega)) hp0 (by rw [jup_ne (show (40 : Nat) ≠ 38 by decide), jup_ne (show (39 : Nat) ≠ 38 by decide)]; exact hp.2.2.1) (fun q q0 q1 => by rw [jup_ne (show (40 : Nat) ≠ 38 by decide), jup_ne (show (39 : Nat) ≠ 38 by decide)]; exact hp.2.2.2 q q0 q1) ?_
        refine jr_istore4 (n := 68) dX8_move_66 rfl (by decide) rfl ?_
        have k9 := e_leave_l (G := G) (d := d) (Q := Q) (c := c) hI ⟨by omega, by omega⟩ hp ?_ ((M 38 (M 40 k)).toNat + 1) p (by omega) (by omega) (by omega)
        · rw [jblk_0] at k9
          exact k9
        refine jr_aload_n (n := 112) dX8_move_111 rfl rfl ?_
        refine jr_iload_n (n := 113) dX8_move_112 rfl rfl ?_
        refine jr_iload_n (n := 114) dX8_move_113 rfl rfl ?_
        refine jr_cV2 (n := 117) (ci := 8) (ν := mX8_enter) dX8_move_114 rfl lX8_111 kX8_enter iX8_enter rfl ⟨_, rfl, rfl⟩ (by decide) (Nat.le_of_ble_eq_true rfl) (Nat.le_of_ble_eq_true rfl) rfl ?_
        refine e_enter (by omega) (by omega) m2 ?_
        refine jr_iconst (n := 118) dX8_move_117 rfl ?_
        refine jr_istore4 (n := 120) dX8_move_118 rfl (by decide) rfl ?_
        exact e_move_l (B := jmvE M k p c) m1 ⟨by omega, by show k < jmvE M k p c 8 2; exact (by omega : k < M 8 2)⟩ (by omega) (h (by omega) (by omega) (by omega) (by omega) (by omega) p hp) ((M 8 8).toNat + 1) 0 (by omega) (show 0 ≤ M 8 8 by omega) (show M 8 8 - 0 < _ by omega)
      · refine jr_aload_n (n := 30) dX8_move_29 rfl rfl ?_
        refine jr_getR (n := 33) dX8_move_30 rfl fX8_7 rfl (by decide) (by decide) rfl ?_
        refine jr_iload_n (n := 34) dX8_move_33 rfl rfl ?_
        refine jr_iald (n := 35) dX8_move_34 rfl rfl (by decide) (by omega) (by omega) ?_
        refine jr_bipush (n := 37) dX8_move_35 rfl (by decide) ?_
        refine jr_icmp_ne (n := 40) (t := 44) dX8_move_37 (by decide) rfl (by omega) (by omega) (fun b37 => ?_) (fun b37 => ?_)
        · refine jr_aload_n (n := 45) dX8_move_44 rfl rfl ?_
          refine jr_getR (n := 48) dX8_move_45 rfl fX8_16 rfl (by decide) (by decide) rfl ?_
          refine jr_iload_n (n := 49) dX8_move_48 rfl rfl ?_
          refine jr_iald (n := 50) dX8_move_49 rfl rfl (by decide) (by omega) (by omega) ?_
          refine jr_istore3 (n := 51) dX8_move_50 rfl (by decide) rfl ?_
          refine jr_aload_n (n := 52) dX8_move_51 rfl rfl ?_
          refine jr_getR (n := 55) dX8_move_52 rfl fX8_7 rfl (by decide) (by decide) rfl ?_
          refine jr_iload_n (n := 56) dX8_move_55 rfl rfl ?_
          refine jr_dup2 (n := 57) dX8_move_56 rfl rfl rfl ?_
          refine jr_iald (n := 58) dX8_move_57 rfl rfl (by decide) (by omega) (by omega) ?_
          refine jr_iconst (n := 59) dX8_move_58 rfl ?_
          refine jr_isub (n := 60) dX8_move_59 rfl ?_
          refine jr_iast (n := 61) dX8_move_60 rfl rfl (by decide) (by omega) (by omega) ?_
          refine jr_aload_n (n := 62) dX8_move_61 rfl rfl ?_
          refine jr_iload_n (n := 63) dX8_move_62 rfl rfl ?_
          refine jr_cV1 (n := 66) (ci := 8) (ν := mX8_placeOf) dX8_move_63 rfl lX8_125 kX8_placeOf iX8_placeOf rfl ⟨_, rfl, rfl⟩ (by decide) (Nat.le_of_ble_eq_true rfl) (Nat.le_of_ble_eq_true rfl) rfl ?_
          obtain ⟨p, hp⟩ := jplo_of hI (k := k) (by omega) (by omega)
          have hp0 := hp.1
          have hp1 := hp.2.1
          obtain ⟨m1, m2⟩ := jmvE_O hI (k := k) (p := p) (c := c) (by omega) (by omega) hp (by omega) (by omega) (by omega)
          refine e_placeOf (p := p) (by omega) (by rw [jup_ne (show (40 : Nat) ≠ 38 by decide)]; exact hr) (by omega) (fun q q0 q1 => by rw [jup_ne (show (40 : Nat) ≠ 38 by decide), jup_ne (show (39 : Nat) ≠ 38 by decide)]; exact jplo_R hI (by omega) (by omega) q q0 (by omega)) hp0 (by rw [jup_ne (show (40 : Nat) ≠ 38 by decide), jup_ne (show (39 : Nat) ≠ 38 by decide)]; exact hp.2.2.1) (fun q q0 q1 => by rw [jup_ne (show (40 : Nat) ≠ 38 by decide), jup_ne (show (39 : Nat) ≠ 38 by decide)]; exact hp.2.2.2 q q0 q1) ?_
          refine jr_istore4 (n := 68) dX8_move_66 rfl (by decide) rfl ?_
          have k9 := e_leave_l (G := G) (d := d) (Q := Q) (c := c) hI ⟨by omega, by omega⟩ hp ?_ ((M 38 (M 40 k)).toNat + 1) p (by omega) (by omega) (by omega)
          · rw [jblk_0] at k9
            exact k9
          refine jr_aload_n (n := 112) dX8_move_111 rfl rfl ?_
          refine jr_iload_n (n := 113) dX8_move_112 rfl rfl ?_
          refine jr_iload_n (n := 114) dX8_move_113 rfl rfl ?_
          refine jr_cV2 (n := 117) (ci := 8) (ν := mX8_enter) dX8_move_114 rfl lX8_111 kX8_enter iX8_enter rfl ⟨_, rfl, rfl⟩ (by decide) (Nat.le_of_ble_eq_true rfl) (Nat.le_of_ble_eq_true rfl) rfl ?_
          refine e_enter (by omega) (by omega) m2 ?_
          refine jr_iconst (n := 118) dX8_move_117 rfl ?_
          refine jr_istore4 (n := 120) dX8_move_118 rfl (by decide) rfl ?_
          exact e_move_l (B := jmvE M k p c) m1 ⟨by omega, by show k < jmvE M k p c 8 2; exact (by omega : k < M 8 2)⟩ (by omega) (h (by omega) (by omega) (by omega) (by omega) (by omega) p hp) ((M 8 8).toNat + 1) 0 (by omega) (show 0 ≤ M 8 8 by omega) (show M 8 8 - 0 < _ by omega)
        · refine jr_ldc2 (n := 43) dX8_move_40 rfl rfl qX8_109 vX8_109 ?_
          refine jr_lret dX8_move_43 rfl ?_
          first | exact hB (by omega) | exact hF (by omega) (by omega) (by omega) (by omega) (by omega) (by omega)
    · refine jr_ifF_ne (n := 15) (t := 19) dX8_move_12 rfl (by decide) (by decide) (by decide) ?_
      refine jr_ldc2 (n := 18) dX8_move_15 rfl rfl qX8_107 vX8_107 ?_
      refine jr_lret dX8_move_18 rfl ?_
      first | exact hB (by omega) | exact hF (by omega) (by omega) (by omega) (by omega) (by omega) (by omega)
  · refine jr_ifT_eq (t := 15) dX8_move_5 (by decide) (by decide) (by decide) ?_
    refine jr_ldc2 (n := 18) dX8_move_15 rfl rfl qX8_107 vX8_107 ?_
    refine jr_lret dX8_move_18 rfl ?_
    first | exact hB (by omega) | exact hF (by omega) (by omega) (by omega) (by omega) (by omega) (by omega)

