theorem e_waitedFor_l {G : jG} {d : Nat} {M : jMem} {Q : Option Value → jMem → Prop} (hI : jO M) {N : jMem} {σ : jS} {v k s m : Int} (hv : 0 ≤ v ∧ v < 10) (hk : 0 ≤ k ∧ k < M 8 2) (hb : jbit (M 43 k) v) (hD : jDE M N σ) (hV : jIv (M 8 2) (M 39) (M 38) (M 43) s m σ) {z : Int} (hz : z = jto σ k) (h : Q (some (.int (jI (jwc (M 8 2) (M 43) σ v k (jclE M k v))))) N)  : ∀ (f : Nat) (i : Int), 0 ≤ i → (i = 0 ∨ jclE M k v + i ≤ z) → 300 - i < f → jM G mX8_waitedFor (d + 2) 38 [.ref (jad G 8), .int (jI v), .int (jI k), .int (jI z), .int (jI (jsum (fun i => jbz (M 8 2) (M 43) σ v k (jclE M k v + i)) i.toNat)), .int (jI (jclE M k v + i))] [] (N) Q := by
  intro f
  induction f with
  | zero =>
    intro i h0 h1 hf
    exact absurd hf (by have ha := jclE_0 hI k v; have hkb := hV.2.1 k hk.1 hk.2; have hz2 : z ≤ 200 := by { rw [hz]; unfold jto; split <;> omega }; omega)
  | succ f ih =>
    intro i h0 h1 hf
    have hs := jn1 hI
    have ha := jclE_0 hI k v
    have hkb := hV.2.1 k hk.1 hk.2
    have hz2 : 0 ≤ z ∧ z ≤ 200 := by rw [hz]; unfold jto; split <;> omega
    refine jr_iload (n := 40) dX8_waitedFor_38 rfl rfl ?_
    refine jr_iload_n (n := 41) dX8_waitedFor_40 rfl rfl ?_
    refine jr_icmp_ge (n := 44) (t := 71) dX8_waitedFor_41 (by decide) rfl (by omega) (by omega) (fun b41 => ?_) (fun b41 => ?_)
    · refine jr_iload (n := 73) dX8_waitedFor_71 rfl rfl ?_
      refine jr_iret dX8_waitedFor_73 rfl ?_
      unfold jwc at h
      rw [← hz, show (z - jclE M k v).toNat = i.toNat by omega] at h
      exact h
    · refine jr_iload (n := 46) dX8_waitedFor_44 rfl rfl ?_
      refine jr_aload_n (n := 47) dX8_waitedFor_46 rfl rfl ?_
      refine jr_iload_n (n := 48) dX8_waitedFor_47 rfl rfl ?_
      refine jr_iload (n := 50) dX8_waitedFor_48 rfl rfl ?_
      refine jr_iload_n (n := 51) dX8_waitedFor_50 rfl rfl ?_
      refine jr_cV3 (n := 54) (ci := 8) (ν := mX8_isBusy) dX8_waitedFor_51 rfl lX8_150 kX8_isBusy iX8_isBusy rfl ⟨_, rfl, rfl⟩ (by decide) (Nat.le_of_ble_eq_true rfl) (Nat.le_of_ble_eq_true rfl) rfl ?_
      refine e_isBusy hI (by omega) (by omega) hD hV (fun b51 => ?_) (fun b51 => ?_)
      · refine jr_ifF_eq (n := 57) (t := 61) dX8_waitedFor_54 rfl (by decide) (by decide) (by decide) ?_
        refine jr_iconst (n := 58) dX8_waitedFor_57 rfl ?_
        refine jr_goto (t := 62) dX8_waitedFor_58 (by decide) ?_
        refine jr_iadd (n := 63) dX8_waitedFor_62 rfl ?_
        refine jr_istore4 (n := 65) dX8_waitedFor_63 rfl (by decide) rfl ?_
        refine jr_iinc5 (n := 68) dX8_waitedFor_65 rfl (by decide) rfl ?_
        refine jr_goto (t := 38) dX8_waitedFor_68 (by decide) ?_
        have e := jsum_s (fun i => jbz (M 8 2) (M 43) σ v k (jclE M k v + i)) h0
        first
          | (rw [show jbz (M 8 2) (M 43) σ v k (jclE M k v + i) = 0 from if_pos b51] at e; rw [← e, Int.add_assoc]; exact ih (i + 1) (by omega) (by omega) (by omega))
          | (rw [show jbz (M 8 2) (M 43) σ v k (jclE M k v + i) = 1 from if_neg b51] at e; rw [← e, Int.add_assoc]; exact ih (i + 1) (by omega) (by omega) (by omega))
      · refine jr_ifT_eq (t := 61) dX8_waitedFor_54 (by decide) (by decide) (by decide) ?_
        refine jr_iconst (n := 62) dX8_waitedFor_61 rfl ?_
        refine jr_iadd (n := 63) dX8_waitedFor_62 rfl ?_
        refine jr_istore4 (n := 65) dX8_waitedFor_63 rfl (by decide) rfl ?_
        refine jr_iinc5 (n := 68) dX8_waitedFor_65 rfl (by decide) rfl ?_
        refine jr_goto (t := 38) dX8_waitedFor_68 (by decide) ?_
        have e := jsum_s (fun i => jbz (M 8 2) (M 43) σ v k (jclE M k v + i)) h0
        first
          | (rw [show jbz (M 8 2) (M 43) σ v k (jclE M k v + i) = 0 from if_pos b51] at e; rw [← e, Int.add_assoc]; exact ih (i + 1) (by omega) (by omega) (by omega))
          | (rw [show jbz (M 8 2) (M 43) σ v k (jclE M k v + i) = 1 from if_neg b51] at e; rw [← e, Int.add_assoc]; exact ih (i + 1) (by omega) (by omega) (by omega))

theorem e_waitedFor {G : jG} {d : Nat} {M : jMem} {Q : Option Value → jMem → Prop} (hI : jO M) {N : jMem} {σ : jS} {v k s m : Int} (hv : 0 ≤ v ∧ v < 10) (hk : 0 ≤ k ∧ k < M 8 2) (hb : jbit (M 43 k) v) (hD : jDE M N σ) (hV : jIv (M 8 2) (M 39) (M 38) (M 43) s m σ) (h : Q (some (.int (jI (jwc (M 8 2) (M 43) σ v k (jclE M k v))))) N) : jN G mX8_waitedFor (d + 2) [.ref (jad G 8), .int (jI v), .int (jI k)] N Q := by
  show jM G mX8_waitedFor (d + 2) 0 [.ref (jad G 8), .int (jI v), .int (jI k), .null, .null, .null] [] N Q
  have hs := jn1 hI
  have ha := jclE_0 hI k v
  have hkb := hV.2.1 k hk.1 hk.2
  have hq := hD.2.1 k hk.1 (by omega)
  have n48 := hD.1.1 48 (by decide) (by decide)
  have hcl := jclE_at (M := M) (k := k) (v := v) (by omega) hv hb
  refine jr_aload_n (n := 1) dX8_waitedFor_0 rfl rfl ?_
  refine jr_getR (n := 4) dX8_waitedFor_1 rfl fX8_68 rfl (by decide) (by decide) rfl ?_
  refine jr_iload_n (n := 5) dX8_waitedFor_4 rfl rfl ?_
  refine jr_iald (n := 6) dX8_waitedFor_5 rfl rfl (by decide) (by omega) (by omega) ?_
  rw [hq.1]
  refine jr_if_ge (n := 9) (t := 15) dX8_waitedFor_6 (by decide) rfl (by omega) (fun b6 => ?_) (fun b6 => ?_)
  · refine jr_aload_n (n := 16) dX8_waitedFor_15 rfl rfl ?_
    refine jr_getR (n := 19) dX8_waitedFor_16 rfl fX8_68 rfl (by decide) (by decide) rfl ?_
    refine jr_iload_n (n := 20) dX8_waitedFor_19 rfl rfl ?_
    refine jr_iald (n := 21) dX8_waitedFor_20 rfl rfl (by decide) (by omega) (by omega) ?_
    rw [hq.1]
    refine jr_istore3 (n := 22) dX8_waitedFor_21 rfl (by decide) rfl ?_
    refine jr_iconst (n := 23) dX8_waitedFor_22 rfl ?_
    refine jr_istore4 (n := 25) dX8_waitedFor_23 rfl (by decide) rfl ?_
    refine jr_aload_n (n := 26) dX8_waitedFor_25 rfl rfl ?_
    refine jr_getR (n := 29) dX8_waitedFor_26 rfl fX8_40 rfl (by decide) (by decide) rfl ?_
    refine jr_bipush (n := 31) dX8_waitedFor_29 rfl (by decide) ?_
    refine jr_iload_n (n := 32) dX8_waitedFor_31 rfl rfl ?_
    refine jr_imul (n := 33) dX8_waitedFor_32 rfl ?_
    refine jr_iload_n (n := 34) dX8_waitedFor_33 rfl rfl ?_
    refine jr_iadd (n := 35) dX8_waitedFor_34 rfl ?_
    refine jr_iald (n := 36) dX8_waitedFor_35 rfl rfl (by decide) (by omega) (by omega) ?_
    rw [n48, ← hcl]
    refine jr_istore5 (n := 38) dX8_waitedFor_36 rfl (by decide) rfl ?_
    first
      | (have k9 := e_waitedFor_l (G := G) (d := d) hI hv hk hb hD hV (z := 200) (by unfold jto; rw [if_pos (by omega)]) h 301 0 (by omega) (by omega) (by omega)
         rw [Int.add_zero] at k9; exact k9)
      | (have k9 := e_waitedFor_l (G := G) (d := d) hI hv hk hb hD hV (z := σ.1 k) (by unfold jto; rw [if_neg (by omega)]) h 301 0 (by omega) (by omega) (by omega)
         rw [Int.add_zero] at k9; exact k9)
  · refine jr_sipush (n := 12) dX8_waitedFor_9 rfl (by decide) ?_
    refine jr_goto (t := 21) dX8_waitedFor_12 (by decide) ?_
    refine jr_istore3 (n := 22) dX8_waitedFor_21 rfl (by decide) rfl ?_
    refine jr_iconst (n := 23) dX8_waitedFor_22 rfl ?_
    refine jr_istore4 (n := 25) dX8_waitedFor_23 rfl (by decide) rfl ?_
    refine jr_aload_n (n := 26) dX8_waitedFor_25 rfl rfl ?_
    refine jr_getR (n := 29) dX8_waitedFor_26 rfl fX8_40 rfl (by decide) (by decide) rfl ?_
    refine jr_bipush (n := 31) dX8_waitedFor_29 rfl (by decide) ?_
    refine jr_iload_n (n := 32) dX8_waitedFor_31 rfl rfl ?_
    refine jr_imul (n := 33) dX8_waitedFor_32 rfl ?_
    refine jr_iload_n (n := 34) dX8_waitedFor_33 rfl rfl ?_
    refine jr_iadd (n := 35) dX8_waitedFor_34 rfl ?_
    refine jr_iald (n := 36) dX8_waitedFor_35 rfl rfl (by decide) (by omega) (by omega) ?_
    rw [n48, ← hcl]
    refine jr_istore5 (n := 38) dX8_waitedFor_36 rfl (by decide) rfl ?_
    first
      | (have k9 := e_waitedFor_l (G := G) (d := d) hI hv hk hb hD hV (z := 200) (by unfold jto; rw [if_pos (by omega)]) h 301 0 (by omega) (by omega) (by omega)
         rw [Int.add_zero] at k9; exact k9)
      | (have k9 := e_waitedFor_l (G := G) (d := d) hI hv hk hb hD hV (z := σ.1 k) (by unfold jto; rw [if_neg (by omega)]) h 301 0 (by omega) (by omega) (by omega)
         rw [Int.add_zero] at k9; exact k9)

theorem e_waitedIn_l {G : jG} {d : Nat} {M : jMem} {Q : Option Value → jMem → Prop} (hI : jO M) {N : jMem} {σ : jS} {v s m : Int} (hv : 0 ≤ v ∧ v < 10) (hD : jDE M N σ) (hV : jIv (M 8 2) (M 39) (M 38) (M 43) s m σ) (h : Q (some (.int (jI (jwo (M 8 2) (M 43) (jclE M) σ v)))) N)  : ∀ (f : Nat) (i : Int), 0 ≤ i → i ≤ M 8 2 → M 8 2 - i < f → jM G mX8_waitedIn (d + 3) 4 [.ref (jad G 8), .int (jI v), .int (jI (jsum (jwn (M 8 2) (M 43) (jclE M) σ v) i.toNat)), .int (jI i)] [] (N) Q := by
  intro f
  induction f with
  | zero =>
    intro i h0 h1 hf
    exact absurd hf (by omega)
  | succ f ih =>
    intro i h0 h1 hf
    have hs := jn1 hI
    have n8 := hD.1.2 2 (by decide)
    have n43 := hD.1.1 43 (by decide) (by decide)
    refine jr_iload_n (n := 5) dX8_waitedIn_4 rfl rfl ?_
    refine jr_aload_n (n := 6) dX8_waitedIn_5 rfl rfl ?_
    refine jr_getI (n := 9) (i := 2) rfl dX8_waitedIn_6 rfl fX8_96 rfl (by decide) (by decide) rfl ?_
    rw [n8]
    refine jr_icmp_ge (n := 12) (t := 40) dX8_waitedIn_9 (by decide) rfl (by omega) (by omega) (fun b9 => ?_) (fun b9 => ?_)
    · refine jr_iload_n (n := 41) dX8_waitedIn_40 rfl rfl ?_
      refine jr_iret dX8_waitedIn_41 rfl ?_
      have e : i = M 8 2 := by omega
      subst e
      exact h
    · refine jr_iload_n (n := 13) dX8_waitedIn_12 rfl rfl ?_
      refine jr_aload_n (n := 14) dX8_waitedIn_13 rfl rfl ?_
      refine jr_iload_n (n := 15) dX8_waitedIn_14 rfl rfl ?_
      refine jr_iload_n (n := 16) dX8_waitedIn_15 rfl rfl ?_
      refine jr_cV2 (n := 19) (ci := 8) (ν := mX8_needs1) dX8_waitedIn_16 rfl lX8_121 kX8_needs1 iX8_needs1 rfl ⟨_, rfl, rfl⟩ (by decide) (Nat.le_of_ble_eq_true rfl) (Nat.le_of_ble_eq_true rfl) rfl ?_
      refine e_needs1 (by omega) (fun b16 => ?_) (fun b16 => ?_)
      all_goals rw [n43] at b16
      · refine jr_ifF_eq (n := 22) (t := 31) dX8_waitedIn_19 rfl (by decide) (by decide) (by decide) ?_
        refine jr_aload_n (n := 23) dX8_waitedIn_22 rfl rfl ?_
        refine jr_iload_n (n := 24) dX8_waitedIn_23 rfl rfl ?_
        refine jr_iload_n (n := 25) dX8_waitedIn_24 rfl rfl ?_
        refine jr_cV2 (n := 28) (ci := 8) (ν := mX8_waitedFor) dX8_waitedIn_25 rfl lX8_169 kX8_waitedFor iX8_waitedFor rfl ⟨_, rfl, rfl⟩ (by decide) (Nat.le_of_ble_eq_true rfl) (Nat.le_of_ble_eq_true rfl) rfl ?_
        refine e_waitedFor hI hv (by omega) b16 hD hV ?_
        refine jr_goto (t := 32) dX8_waitedIn_28 (by decide) ?_
        refine jr_iadd (n := 33) dX8_waitedIn_32 rfl ?_
        refine jr_istore2 (n := 34) dX8_waitedIn_33 rfl (by decide) rfl ?_
        refine jr_iinc3 (n := 37) dX8_waitedIn_34 rfl (by decide) rfl ?_
        refine jr_goto (t := 4) dX8_waitedIn_37 (by decide) ?_
        have e := jsum_s (jwn (M 8 2) (M 43) (jclE M) σ v) h0
        first
          | (rw [show (jwn (M 8 2) (M 43) (jclE M) σ v) i = jwc (M 8 2) (M 43) σ v i (jclE M i v) from if_pos b16] at e; rw [← e]; exact ih (i + 1) (by omega) (by omega) (by omega))
          | (rw [show (jwn (M 8 2) (M 43) (jclE M) σ v) i = 0 from if_neg b16] at e; rw [← e]; exact ih (i + 1) (by omega) (by omega) (by omega))
      · refine jr_ifT_eq (t := 31) dX8_waitedIn_19 (by decide) (by decide) (by decide) ?_
        refine jr_iconst (n := 32) dX8_waitedIn_31 rfl ?_
        refine jr_iadd (n := 33) dX8_waitedIn_32 rfl ?_
        refine jr_istore2 (n := 34) dX8_waitedIn_33 rfl (by decide) rfl ?_
        refine jr_iinc3 (n := 37) dX8_waitedIn_34 rfl (by decide) rfl ?_
        refine jr_goto (t := 4) dX8_waitedIn_37 (by decide) ?_
        have e := jsum_s (jwn (M 8 2) (M 43) (jclE M) σ v) h0
        first
          | (rw [show (jwn (M 8 2) (M 43) (jclE M) σ v) i = jwc (M 8 2) (M 43) σ v i (jclE M i v) from if_pos b16] at e; rw [← e]; exact ih (i + 1) (by omega) (by omega) (by omega))
          | (rw [show (jwn (M 8 2) (M 43) (jclE M) σ v) i = 0 from if_neg b16] at e; rw [← e]; exact ih (i + 1) (by omega) (by omega) (by omega))

theorem e_waitedIn {G : jG} {d : Nat} {M : jMem} {Q : Option Value → jMem → Prop} (hI : jO M) {N : jMem} {σ : jS} {v s m : Int} (hv : 0 ≤ v ∧ v < 10) (hD : jDE M N σ) (hV : jIv (M 8 2) (M 39) (M 38) (M 43) s m σ) (h : Q (some (.int (jI (jwo (M 8 2) (M 43) (jclE M) σ v)))) N) : jN G mX8_waitedIn (d + 3) [.ref (jad G 8), .int (jI v)] N Q := by
  show jM G mX8_waitedIn (d + 3) 0 [.ref (jad G 8), .int (jI v), .null, .null] [] N Q
  have hs := jn1 hI
  refine jr_iconst (n := 1) dX8_waitedIn_0 rfl ?_
  refine jr_istore2 (n := 2) dX8_waitedIn_1 rfl (by decide) rfl ?_
  refine jr_iconst (n := 3) dX8_waitedIn_2 rfl ?_
  refine jr_istore3 (n := 4) dX8_waitedIn_3 rfl (by decide) rfl ?_
  exact e_waitedIn_l hI hv hD hV h ((M 8 2).toNat + 1) 0 (by omega) (by omega) (by omega)

theorem e_isCalled_l {G : jG} {d : Nat} {M : jMem} {Q : Option Value → jMem → Prop} (hI : jO M) {v : Int} (h1 : jcld (M 8 2) (M 43) v → Q (some (.int (jI 1))) M) (h0 : ¬ jcld (M 8 2) (M 43) v → Q (some (.int (jI 0))) M)  : ∀ (f : Nat) (i z : Int), 0 ≤ i → i ≤ M 8 2 → ((z = 1 ∧ ∃ j, 0 ≤ j ∧ j < i ∧ jbit (M 43 j) v) ∨ (z = 0 ∧ ∀ j, 0 ≤ j → j < i → ¬ jbit (M 43 j) v)) → M 8 2 - i < f → jM G mX8_isCalled (d + 1) 4 [.ref (jad G 8), .int (jI v), .int (jI z), .int (jI i)] [] (M) Q := by
  intro f
  induction f with
  | zero =>
    intro i z i0 i1 ha hf
    exact absurd hf (by omega)
  | succ f ih =>
    intro i z i0 i1 ha hf
    have hs := jn1 hI
    refine jr_iload_n (n := 5) dX8_isCalled_4 rfl rfl ?_
    refine jr_aload_n (n := 6) dX8_isCalled_5 rfl rfl ?_
    refine jr_getI (n := 9) (i := 2) rfl dX8_isCalled_6 rfl fX8_96 rfl (by decide) (by decide) rfl ?_
    refine jr_icmp_ge (n := 12) (t := 37) dX8_isCalled_9 (by decide) rfl (by omega) (by omega) (fun b9 => ?_) (fun b9 => ?_)
    · refine jr_iload_n (n := 38) dX8_isCalled_37 rfl rfl ?_
      refine jr_zret dX8_isCalled_38 rfl (by omega) ?_
      have e : i = M 8 2 := by omega
      rcases ha with ⟨rfl, j, j0, j1, j2⟩ | ⟨rfl, ha⟩
      · exact h1 ⟨j, j0, by omega, j2⟩
      · exact h0 (fun ⟨j, j0, j1, j2⟩ => ha j j0 (by omega) j2)
    · refine jr_iload_n (n := 13) dX8_isCalled_12 rfl rfl ?_
      refine jr_if_ne (n := 16) (t := 25) dX8_isCalled_13 (by decide) rfl (by omega) (fun b13 => ?_) (fun b13 => ?_)
      · refine jr_iconst (n := 26) dX8_isCalled_25 rfl ?_
        refine jr_goto (t := 30) dX8_isCalled_26 (by decide) ?_
        refine jr_istore2 (n := 31) dX8_isCalled_30 rfl (by decide) rfl ?_
        refine jr_iinc3 (n := 34) dX8_isCalled_31 rfl (by decide) rfl ?_
        refine jr_goto (t := 4) dX8_isCalled_34 (by decide) ?_
        exact ih (i + 1) 1 (by omega) (by omega) (Or.inl ⟨rfl, by
          rcases ha with ⟨e1, j, j0, j1, j2⟩ | ⟨e1, ha⟩
          · exact ⟨j, j0, by omega, j2⟩
          · first | (exfalso; omega) | exact ⟨i, i0, by omega, b19⟩⟩) (by omega)
      · refine jr_aload_n (n := 17) dX8_isCalled_16 rfl rfl ?_
        refine jr_iload_n (n := 18) dX8_isCalled_17 rfl rfl ?_
        refine jr_iload_n (n := 19) dX8_isCalled_18 rfl rfl ?_
        refine jr_cV2 (n := 22) (ci := 8) (ν := mX8_needs1) dX8_isCalled_19 rfl lX8_121 kX8_needs1 iX8_needs1 rfl ⟨_, rfl, rfl⟩ (by decide) (Nat.le_of_ble_eq_true rfl) (Nat.le_of_ble_eq_true rfl) rfl ?_
        refine e_needs1 (by omega) (fun b19 => ?_) (fun b19 => ?_)
        · refine jr_ifF_eq (n := 25) (t := 29) dX8_isCalled_22 rfl (by decide) (by decide) (by decide) ?_
          refine jr_iconst (n := 26) dX8_isCalled_25 rfl ?_
          refine jr_goto (t := 30) dX8_isCalled_26 (by decide) ?_
          refine jr_istore2 (n := 31) dX8_isCalled_30 rfl (by decide) rfl ?_
          refine jr_iinc3 (n := 34) dX8_isCalled_31 rfl (by decide) rfl ?_
          refine jr_goto (t := 4) dX8_isCalled_34 (by decide) ?_
          exact ih (i + 1) 1 (by omega) (by omega) (Or.inl ⟨rfl, by
            rcases ha with ⟨e1, j, j0, j1, j2⟩ | ⟨e1, ha⟩
            · exact ⟨j, j0, by omega, j2⟩
            · first | (exfalso; omega) | exact ⟨i, i0, by omega, b19⟩⟩) (by omega)
        · refine jr_ifT_eq (t := 29) dX8_isCalled_22 (by decide) (by decide) (by decide) ?_
          refine jr_iconst (n := 30) dX8_isCalled_29 rfl ?_
          refine jr_istore2 (n := 31) dX8_isCalled_30 rfl (by decide) rfl ?_
          refine jr_iinc3 (n := 34) dX8_isCalled_31 rfl (by decide) rfl ?_
          refine jr_goto (t := 4) dX8_isCalled_34 (by decide) ?_
          exact ih (i + 1) 0 (by omega) (by omega) (Or.inr ⟨rfl, by
            rcases ha with ⟨e1, j, j0, j1, j2⟩ | ⟨e1, ha⟩
            · exfalso; omega
            · exact fun j j0 j1 => by
                by_cases e : j = i
                · subst e; exact b19
                · exact ha j j0 (by omega)⟩) (by omega)

theorem e_isCalled {G : jG} {d : Nat} {M : jMem} {Q : Option Value → jMem → Prop} (hI : jO M) {v : Int} (h1 : jcld (M 8 2) (M 43) v → Q (some (.int (jI 1))) M) (h0 : ¬ jcld (M 8 2) (M 43) v → Q (some (.int (jI 0))) M) : jN G mX8_isCalled (d + 1) [.ref (jad G 8), .int (jI v)] M Q := by
  show jM G mX8_isCalled (d + 1) 0 [.ref (jad G 8), .int (jI v), .null, .null] [] M Q
  have hs := jn1 hI
  refine jr_iconst (n := 1) dX8_isCalled_0 rfl ?_
  refine jr_istore2 (n := 2) dX8_isCalled_1 rfl (by decide) rfl ?_
  refine jr_iconst (n := 3) dX8_isCalled_2 rfl ?_
  refine jr_istore3 (n := 4) dX8_isCalled_3 rfl (by decide) rfl ?_
  exact e_isCalled_l hI h1 h0 ((M 8 2).toNat + 1) 0 0 (by omega) (by omega) (Or.inr ⟨rfl, fun j j0 j1 => absurd j1 (by omega)⟩) (by omega)

theorem e_begins {G : jG} {d : Nat} {M : jMem} {Q : Option Value → jMem → Prop} (hI : jO M) {k v : Int} (hk : jR k) (hv : jR v) (hB : ¬ ((0 ≤ k ∧ k < M 8 2) ∧ (0 ≤ v ∧ v ≤ 2)) → Q (some (.long (jL (-9000000000000000001)))) M) (hN : 0 ≤ k → k < M 8 2 → 0 ≤ v → v ≤ 2 → (jdy (M 8 2) (M 8 8) (M 39) (M 38) (M 43) (M 44) (M 41) (jclE M) 200).1 k = -1 → ∀ N, jFE M N → Q (some (.long (jL (-9000000000000000005)))) N) (h0 : 0 ≤ k → k < M 8 2 → (jdy (M 8 2) (M 8 8) (M 39) (M 38) (M 43) (M 44) (M 41) (jclE M) 200).1 k ≠ -1 → v = 0 → ∀ N, jFE M N → Q (some (.long (jL ((jdy (M 8 2) (M 8 8) (M 39) (M 38) (M 43) (M 44) (M 41) (jclE M) 200).1 k)))) N) (h1 : 0 ≤ k → k < M 8 2 → (jdy (M 8 2) (M 8 8) (M 39) (M 38) (M 43) (M 44) (M 41) (jclE M) 200).1 k ≠ -1 → v = 1 → ∀ N, jFE M N → Q (some (.long (jL ((jdy (M 8 2) (M 8 8) (M 39) (M 38) (M 43) (M 44) (M 41) (jclE M) 200).2.1 k)))) N) (h2 : 0 ≤ k → k < M 8 2 → (jdy (M 8 2) (M 8 8) (M 39) (M 38) (M 43) (M 44) (M 41) (jclE M) 200).1 k ≠ -1 → v = 2 → M 44 k = 0 → ∀ N, jFE M N → Q (some (.long (jL 1))) N) (h3 : 0 ≤ k → k < M 8 2 → (jdy (M 8 2) (M 8 8) (M 39) (M 38) (M 43) (M 44) (M 41) (jclE M) 200).1 k ≠ -1 → v = 2 → M 44 k ≠ 0 → ∀ N, jFE M N → Q (some (.long (jL 0))) N) : jN G mX8_begins (d + 5) [.ref (jad G 8), .int (jI k), .int (jI v)] M Q := by
  show jM G mX8_begins (d + 5) 0 [.ref (jad G 8), .int (jI k), .int (jI v)] [] M Q
  have hz := jn1 hI
  generalize hσ : jdy (M 8 2) (M 8 8) (M 39) (M 38) (M 43) (M 44) (M 41) (jclE M) 200 = σ at hN h0 h1 h2 h3
  refine jr_aload_n (n := 1) dX8_begins_0 rfl rfl ?_
  refine jr_iload_n (n := 2) dX8_begins_1 rfl rfl ?_
  refine jr_cV1 (n := 5) (ci := 8) (ν := mX8_isCase) dX8_begins_2 rfl lX8_118 kX8_isCase iX8_isCase rfl ⟨_, rfl, rfl⟩ (by decide) (Nat.le_of_ble_eq_true rfl) (Nat.le_of_ble_eq_true rfl) rfl ?_
  refine e_isCase (by omega) (by omega) (fun b2 b2b => ?_) (fun b2 => ?_)
  · refine jr_ifF_eq (n := 8) (t := 17) dX8_begins_5 rfl (by decide) (by decide) (by decide) ?_
    refine jr_iload_n (n := 9) dX8_begins_8 rfl rfl ?_
    refine jr_iconst (n := 10) dX8_begins_9 rfl ?_
    refine jr_iconst (n := 11) dX8_begins_10 rfl ?_
    refine jr_cS3 (n := 14) (ν := mX8_isIn) dX8_begins_11 rfl lX8_92 kX8_isIn iX8_isIn (Nat.le_of_ble_eq_true rfl) (Nat.le_of_ble_eq_true rfl) rfl ?_
    refine e_isIn (by omega) (by omega) (by omega) (fun b11 b11b => ?_) (fun b11 => ?_)
    · refine jr_ifT_ne (t := 21) dX8_begins_14 (by decide) (by decide) (by decide) ?_
      refine jr_aload_n (n := 22) dX8_begins_21 rfl rfl ?_
      refine jr_cV0 (n := 25) (ci := 8) (ν := mX8_runDay) dX8_begins_22 rfl lX8_166 kX8_runDay iX8_runDay rfl ⟨_, rfl, rfl⟩ (by decide) (Nat.le_of_ble_eq_true rfl) (Nat.le_of_ble_eq_true rfl) rfl ?_
      refine e_runDay hI (fun N hD => ?_)
      rw [hσ] at hD
      have hV := jIv_dy (cl := jclE M) (jSD_of hI) 200 (by omega)
      rw [hσ] at hV
      have hq := hD.2.1 k (by omega) (by omega)
      have hq2 := hV.2.1 k (by omega) (by omega)
      have n44 := hD.1.1 44 (by decide) (by decide)
      have hfa := (jn3 hI k (by omega) (by omega)).2.2.2.2
      refine jr_aload_n (n := 26) dX8_begins_25 rfl rfl ?_
      refine jr_getR (n := 29) dX8_begins_26 rfl fX8_68 rfl (by decide) (by decide) rfl ?_
      refine jr_iload_n (n := 30) dX8_begins_29 rfl rfl ?_
      refine jr_iald (n := 31) dX8_begins_30 rfl rfl (by decide) (by omega) (by omega) ?_
      rw [hq.1]
      refine jr_if_ge (n := 34) (t := 38) dX8_begins_31 (by decide) rfl (by omega) (fun b31 => ?_) (fun b31 => ?_)
      · refine jr_iload_n (n := 39) dX8_begins_38 rfl rfl ?_
        refine jr_if_ne (n := 42) (t := 52) dX8_begins_39 (by decide) rfl (by omega) (fun b39 => ?_) (fun b39 => ?_)
        · refine jr_iload_n (n := 53) dX8_begins_52 rfl rfl ?_
          refine jr_iconst (n := 54) dX8_begins_53 rfl ?_
          refine jr_icmp_ne (n := 57) (t := 67) dX8_begins_54 (by decide) rfl (by omega) (by omega) (fun b54 => ?_) (fun b54 => ?_)
          · refine jr_aload_n (n := 68) dX8_begins_67 rfl rfl ?_
            refine jr_iload_n (n := 69) dX8_begins_68 rfl rfl ?_
            refine jr_cV1 (n := 72) (ci := 8) (ν := mX8_isFolded) dX8_begins_69 rfl lX8_153 kX8_isFolded iX8_isFolded rfl ⟨_, rfl, rfl⟩ (by decide) (Nat.le_of_ble_eq_true rfl) (Nat.le_of_ble_eq_true rfl) rfl ?_
            refine e_isFolded (by omega) (by rw [n44]; omega) (fun b69 => ?_) (fun b69 => ?_)
            all_goals rw [n44] at b69
            · refine jr_ifF_eq (n := 75) (t := 79) dX8_begins_72 rfl (by decide) (by decide) (by decide) ?_
              refine jr_lconst (n := 76) (x := 1) dX8_begins_75 rfl (by decide) ?_
              refine jr_goto (t := 80) dX8_begins_76 (by decide) ?_
              refine jr_lret dX8_begins_80 rfl ?_
              first | exact hB (by omega) | exact hN (by omega) (by omega) (by omega) (by omega) (by omega) N hD.1 | exact h0 (by omega) (by omega) (by omega) (by omega) N hD.1 | exact h1 (by omega) (by omega) (by omega) (by omega) N hD.1 | exact h2 (by omega) (by omega) (by omega) (by omega) b69 N hD.1 | exact h3 (by omega) (by omega) (by omega) (by omega) b69 N hD.1
            · refine jr_ifT_eq (t := 79) dX8_begins_72 (by decide) (by decide) (by decide) ?_
              refine jr_lconst (n := 80) (x := 0) dX8_begins_79 rfl (by decide) ?_
              refine jr_lret dX8_begins_80 rfl ?_
              first | exact hB (by omega) | exact hN (by omega) (by omega) (by omega) (by omega) (by omega) N hD.1 | exact h0 (by omega) (by omega) (by omega) (by omega) N hD.1 | exact h1 (by omega) (by omega) (by omega) (by omega) N hD.1 | exact h2 (by omega) (by omega) (by omega) (by omega) b69 N hD.1 | exact h3 (by omega) (by omega) (by omega) (by omega) b69 N hD.1
          · refine jr_aload_n (n := 58) dX8_begins_57 rfl rfl ?_
            refine jr_getR (n := 61) dX8_begins_58 rfl fX8_71 rfl (by decide) (by decide) rfl ?_
            refine jr_iload_n (n := 62) dX8_begins_61 rfl rfl ?_
            refine jr_iald (n := 63) dX8_begins_62 rfl rfl (by decide) (by omega) (by omega) ?_
            rw [hq.2]
            refine jr_i2l (n := 64) dX8_begins_63 rfl (by omega) ?_
            refine jr_goto (t := 80) dX8_begins_64 (by decide) ?_
            refine jr_lret dX8_begins_80 rfl ?_
            first | exact hB (by omega) | exact hN (by omega) (by omega) (by omega) (by omega) (by omega) N hD.1 | exact h0 (by omega) (by omega) (by omega) (by omega) N hD.1 | exact h1 (by omega) (by omega) (by omega) (by omega) N hD.1 | exact h2 (by omega) (by omega) (by omega) (by omega) b69 N hD.1 | exact h3 (by omega) (by omega) (by omega) (by omega) b69 N hD.1
        · refine jr_aload_n (n := 43) dX8_begins_42 rfl rfl ?_
          refine jr_getR (n := 46) dX8_begins_43 rfl fX8_68 rfl (by decide) (by decide) rfl ?_
          refine jr_iload_n (n := 47) dX8_begins_46 rfl rfl ?_
          refine jr_iald (n := 48) dX8_begins_47 rfl rfl (by decide) (by omega) (by omega) ?_
          rw [hq.1]
          refine jr_i2l (n := 49) dX8_begins_48 rfl (by omega) ?_
          refine jr_goto (t := 80) dX8_begins_49 (by decide) ?_
          refine jr_lret dX8_begins_80 rfl ?_
          first | exact hB (by omega) | exact hN (by omega) (by omega) (by omega) (by omega) (by omega) N hD.1 | exact h0 (by omega) (by omega) (by omega) (by omega) N hD.1 | exact h1 (by omega) (by omega) (by omega) (by omega) N hD.1 | exact h2 (by omega) (by omega) (by omega) (by omega) b69 N hD.1 | exact h3 (by omega) (by omega) (by omega) (by omega) b69 N hD.1
      · refine jr_ldc2 (n := 37) dX8_begins_34 rfl rfl qX8_129 vX8_129 ?_
        refine jr_lret dX8_begins_37 rfl ?_
        first | exact hB (by omega) | exact hN (by omega) (by omega) (by omega) (by omega) (by omega) N hD.1 | exact h0 (by omega) (by omega) (by omega) (by omega) N hD.1 | exact h1 (by omega) (by omega) (by omega) (by omega) N hD.1 | exact h2 (by omega) (by omega) (by omega) (by omega) b69 N hD.1 | exact h3 (by omega) (by omega) (by omega) (by omega) b69 N hD.1
    · refine jr_ifF_ne (n := 17) (t := 21) dX8_begins_14 rfl (by decide) (by decide) (by decide) ?_
      refine jr_ldc2 (n := 20) dX8_begins_17 rfl rfl qX8_107 vX8_107 ?_
      refine jr_lret dX8_begins_20 rfl ?_
      first | exact hB (by omega) | exact hN (by omega) (by omega) (by omega) (by omega) (by omega) N hD.1 | exact h0 (by omega) (by omega) (by omega) (by omega) N hD.1 | exact h1 (by omega) (by omega) (by omega) (by omega) N hD.1 | exact h2 (by omega) (by omega) (by omega) (by omega) b69 N hD.1 | exact h3 (by omega) (by omega) (by omega) (by omega) b69 N hD.1
  · refine jr_ifT_eq (t := 17) dX8_begins_5 (by decide) (by decide) (by decide) ?_
    refine jr_ldc2 (n := 20) dX8_begins_17 rfl rfl qX8_107 vX8_107 ?_
    refine jr_lret dX8_begins_20 rfl ?_
    first | exact hB (by omega) | exact hN (by omega) (by omega) (by omega) (by omega) (by omega) N hD.1 | exact h0 (by omega) (by omega) (by omega) (by omega) N hD.1 | exact h1 (by omega) (by omega) (by omega) (by omega) N hD.1 | exact h2 (by omega) (by omega) (by omega) (by omega) b69 N hD.1 | exact h3 (by omega) (by omega) (by omega) (by omega) b69 N hD.1

theorem e_waited {G : jG} {d : Nat} {M : jMem} {Q : Option Value → jMem → Prop} (hI : jO M) {v k : Int} (hv : jR v) (hk : jR k) (hB : ¬ ((0 ≤ v ∧ v < M 8 8) ∧ (0 ≤ k ∧ k < M 8 2)) → Q (some (.long (jL (-9000000000000000001)))) M) (hN : 0 ≤ v → v < M 8 8 → 0 ≤ k → k < M 8 2 → ¬ jbit (M 43 k) v → Q (some (.long (jL (-9000000000000000002)))) M) (h : 0 ≤ v → v < M 8 8 → 0 ≤ k → k < M 8 2 → jbit (M 43 k) v → ∀ N, jFE M N → Q (some (.long (jL (jwc (M 8 2) (M 43) (jdy (M 8 2) (M 8 8) (M 39) (M 38) (M 43) (M 44) (M 41) (jclE M) 200) v k (jclE M k v))))) N) : jN G mX8_waited (d + 5) [.ref (jad G 8), .int (jI v), .int (jI k)] M Q := by
  show jM G mX8_waited (d + 5) 0 [.ref (jad G 8), .int (jI v), .int (jI k)] [] M Q
  have hz := jn1 hI
  generalize hσ : jdy (M 8 2) (M 8 8) (M 39) (M 38) (M 43) (M 44) (M 41) (jclE M) 200 = σ at h
  refine jr_aload_n (n := 1) dX8_waited_0 rfl rfl ?_
  refine jr_iload_n (n := 2) dX8_waited_1 rfl rfl ?_
  refine jr_cV1 (n := 5) (ci := 8) (ν := mX8_isWitness) dX8_waited_2 rfl lX8_115 kX8_isWitness iX8_isWitness rfl ⟨_, rfl, rfl⟩ (by decide) (Nat.le_of_ble_eq_true rfl) (Nat.le_of_ble_eq_true rfl) rfl ?_
  refine e_isWitness (by omega) (by omega) (fun b2 b2b => ?_) (fun b2 => ?_)
  · refine jr_ifF_eq (n := 8) (t := 16) dX8_waited_5 rfl (by decide) (by decide) (by decide) ?_
    refine jr_aload_n (n := 9) dX8_waited_8 rfl rfl ?_
    refine jr_iload_n (n := 10) dX8_waited_9 rfl rfl ?_
    refine jr_cV1 (n := 13) (ci := 8) (ν := mX8_isCase) dX8_waited_10 rfl lX8_118 kX8_isCase iX8_isCase rfl ⟨_, rfl, rfl⟩ (by decide) (Nat.le_of_ble_eq_true rfl) (Nat.le_of_ble_eq_true rfl) rfl ?_
    refine e_isCase (by omega) (by omega) (fun b10 b10b => ?_) (fun b10 => ?_)
    · refine jr_ifT_ne (t := 20) dX8_waited_13 (by decide) (by decide) (by decide) ?_
      refine jr_aload_n (n := 21) dX8_waited_20 rfl rfl ?_
      refine jr_iload_n (n := 22) dX8_waited_21 rfl rfl ?_
      refine jr_iload_n (n := 23) dX8_waited_22 rfl rfl ?_
      refine jr_cV2 (n := 26) (ci := 8) (ν := mX8_needs1) dX8_waited_23 rfl lX8_121 kX8_needs1 iX8_needs1 rfl ⟨_, rfl, rfl⟩ (by decide) (Nat.le_of_ble_eq_true rfl) (Nat.le_of_ble_eq_true rfl) rfl ?_
      refine e_needs1 (by omega) (fun b23 => ?_) (fun b23 => ?_)
      · refine jr_ifT_ne (t := 33) dX8_waited_26 (by decide) (by decide) (by decide) ?_
        refine jr_aload_n (n := 34) dX8_waited_33 rfl rfl ?_
        refine jr_cV0 (n := 37) (ci := 8) (ν := mX8_runDay) dX8_waited_34 rfl lX8_166 kX8_runDay iX8_runDay rfl ⟨_, rfl, rfl⟩ (by decide) (Nat.le_of_ble_eq_true rfl) (Nat.le_of_ble_eq_true rfl) rfl ?_
        refine e_runDay hI (fun N hD => ?_)
        rw [hσ] at hD
        have hV := jIv_dy (cl := jclE M) (jSD_of hI) 200 (by omega)
        rw [hσ] at hV
        have hw := jwc_b hV (v := v) (k := k) (a := jclE M k v) (by omega) (by omega) (jclE_0 hI k v).1
        refine jr_aload_n (n := 38) dX8_waited_37 rfl rfl ?_
        refine jr_iload_n (n := 39) dX8_waited_38 rfl rfl ?_
        refine jr_iload_n (n := 40) dX8_waited_39 rfl rfl ?_
        refine jr_cV2 (n := 43) (ci := 8) (ν := mX8_waitedFor) dX8_waited_40 rfl lX8_169 kX8_waitedFor iX8_waitedFor rfl ⟨_, rfl, rfl⟩ (by decide) (Nat.le_of_ble_eq_true rfl) (Nat.le_of_ble_eq_true rfl) rfl ?_
        refine e_waitedFor hI (by omega) (by omega) b23 hD hV ?_
        refine jr_i2l (n := 44) dX8_waited_43 rfl (by omega) ?_
        refine jr_lret dX8_waited_44 rfl ?_
        first | exact hB (by omega) | exact hN (by omega) (by omega) (by omega) (by omega) b23 | exact h (by omega) (by omega) (by omega) (by omega) b23 N hD.1
      · refine jr_ifF_ne (n := 29) (t := 33) dX8_waited_26 rfl (by decide) (by decide) (by decide) ?_
        refine jr_ldc2 (n := 32) dX8_waited_29 rfl rfl qX8_145 vX8_145 ?_
        refine jr_lret dX8_waited_32 rfl ?_
        first | exact hB (by omega) | exact hN (by omega) (by omega) (by omega) (by omega) b23 | exact h (by omega) (by omega) (by omega) (by omega) b23 N hD.1
    · refine jr_ifF_ne (n := 16) (t := 20) dX8_waited_13 rfl (by decide) (by decide) (by decide) ?_
      refine jr_ldc2 (n := 19) dX8_waited_16 rfl rfl qX8_107 vX8_107 ?_
      refine jr_lret dX8_waited_19 rfl ?_
      first | exact hB (by omega) | exact hN (by omega) (by omega) (by omega) (by omega) b23 | exact h (by omega) (by omega) (by omega) (by omega) b23 N hD.1
  · refine jr_ifT_eq (t := 16) dX8_waited_5 (by decide) (by decide) (by decide) ?_
    refine jr_ldc2 (n := 19) dX8_waited_16 rfl rfl qX8_107 vX8_107 ?_
    refine jr_lret dX8_waited_19 rfl ?_
    first | exact hB (by omega) | exact hN (by omega) (by omega) (by omega) (by omega) b23 | exact h (by omega) (by omega) (by omega) (by omega) b23 N hD.1

theorem e_idle {G : jG} {d : Nat} {M : jMem} {Q : Option Value → jMem → Prop} (hI : jO M) {c v : Int} (hc : jR c) (hv : jR v) (hB : ¬ ((0 ≤ c ∧ c ≤ 2) ∧ (0 ≤ v ∧ v ≤ 1)) → Q (some (.long (jL (-9000000000000000001)))) M) (h : 0 ≤ c → c ≤ 2 → 0 ≤ v → v ≤ 1 → ∀ N, jFE M N → Q (some (.long (jL ((jdy (M 8 2) (M 8 8) (M 39) (M 38) (M 43) (M 44) (M 41) (jclE M) 200).2.2.1 (2 * c + v))))) N) : jN G mX8_idle (d + 5) [.ref (jad G 8), .int (jI c), .int (jI v)] M Q := by
  show jM G mX8_idle (d + 5) 0 [.ref (jad G 8), .int (jI c), .int (jI v)] [] M Q
  generalize hσ : jdy (M 8 2) (M 8 8) (M 39) (M 38) (M 43) (M 44) (M 41) (jclE M) 200 = σ at h
  refine jr_iload_n (n := 1) dX8_idle_0 rfl rfl ?_
  refine jr_cS1 (n := 4) (ν := mX8_isCourt) dX8_idle_1 rfl lX8_103 kX8_isCourt iX8_isCourt (Nat.le_of_ble_eq_true rfl) (Nat.le_of_ble_eq_true rfl) rfl ?_
  refine e_isCourt (by omega) (fun b1 b1b => ?_) (fun b1 => ?_)
  · refine jr_ifF_eq (n := 7) (t := 16) dX8_idle_4 rfl (by decide) (by decide) (by decide) ?_
    refine jr_iload_n (n := 8) dX8_idle_7 rfl rfl ?_
    refine jr_iconst (n := 9) dX8_idle_8 rfl ?_
    refine jr_iconst (n := 10) dX8_idle_9 rfl ?_
    refine jr_cS3 (n := 13) (ν := mX8_isIn) dX8_idle_10 rfl lX8_92 kX8_isIn iX8_isIn (Nat.le_of_ble_eq_true rfl) (Nat.le_of_ble_eq_true rfl) rfl ?_
    refine e_isIn (by omega) (by omega) (by omega) (fun b10 b10b => ?_) (fun b10 => ?_)
    · refine jr_ifT_ne (t := 20) dX8_idle_13 (by decide) (by decide) (by decide) ?_
      refine jr_aload_n (n := 21) dX8_idle_20 rfl rfl ?_
      refine jr_cV0 (n := 24) (ci := 8) (ν := mX8_runDay) dX8_idle_21 rfl lX8_166 kX8_runDay iX8_runDay rfl ⟨_, rfl, rfl⟩ (by decide) (Nat.le_of_ble_eq_true rfl) (Nat.le_of_ble_eq_true rfl) rfl ?_
      refine e_runDay hI (fun N hD => ?_)
      rw [hσ] at hD
      have hV := jIv_dy (cl := jclE M) (jSD_of hI) 200 (by omega)
      rw [hσ] at hV
      have hx := hV.2.2.2.1 (2 * c + v)
      refine jr_aload_n (n := 25) dX8_idle_24 rfl rfl ?_
      refine jr_getR (n := 28) dX8_idle_25 rfl fX8_74 rfl (by decide) (by decide) rfl ?_
      refine jr_iconst (n := 29) dX8_idle_28 rfl ?_
      refine jr_iload_n (n := 30) dX8_idle_29 rfl rfl ?_
      refine jr_imul (n := 31) dX8_idle_30 rfl ?_
      refine jr_iload_n (n := 32) dX8_idle_31 rfl rfl ?_
      refine jr_iadd (n := 33) dX8_idle_32 rfl ?_
      refine jr_iald (n := 34) dX8_idle_33 rfl rfl (by decide) (by omega) (by omega) ?_
      rw [hD.2.2.1 _ (by omega) (by omega)]
      refine jr_i2l (n := 35) dX8_idle_34 rfl (by omega) ?_
      refine jr_lret dX8_idle_35 rfl ?_
      first | exact hB (by omega) | exact h (by omega) (by omega) (by omega) (by omega) N hD.1
    · refine jr_ifF_ne (n := 16) (t := 20) dX8_idle_13 rfl (by decide) (by decide) (by decide) ?_
      refine jr_ldc2 (n := 19) dX8_idle_16 rfl rfl qX8_107 vX8_107 ?_
      refine jr_lret dX8_idle_19 rfl ?_
      first | exact hB (by omega) | exact h (by omega) (by omega) (by omega) (by omega) N hD.1
  · refine jr_ifT_eq (t := 16) dX8_idle_4 (by decide) (by decide) (by decide) ?_
    refine jr_ldc2 (n := 19) dX8_idle_16 rfl rfl qX8_107 vX8_107 ?_
    refine jr_lret dX8_idle_19 rfl ?_
    first | exact hB (by omega) | exact h (by omega) (by omega) (by omega) (by omega) N hD.1

theorem e_waits_l {G : jG} {d : Nat} {M : jMem} {Q : Option Value → jMem → Prop} (hI : jO M) {N : jMem} {σ : jS} {s m : Int} (hD : jDE M N σ) (hV : jIv (M 8 2) (M 39) (M 38) (M 43) s m σ) (h : Q (some (.long (jL (jsum (fun u => jwo (M 8 2) (M 43) (jclE M) σ u) (M 8 8).toNat)))) N)  : ∀ (f : Nat) (i : Int), 0 ≤ i → i ≤ M 8 8 → M 8 8 - i < f → jM G mX8_waits (d + 5) 8 [.ref (jad G 8), .long (jL (jsum (fun u => jwo (M 8 2) (M 43) (jclE M) σ u) i.toNat)), .null, .int (jI i)] [] (N) Q := by
  intro f
  induction f with
  | zero =>
    intro i h0 h1 hf
    exact absurd hf (by omega)
  | succ f ih =>
    intro i h0 h1 hf
    have hs := jn1 hI
    have n8 := hD.1.2 8 (by decide)
    refine jr_iload_n (n := 9) dX8_waits_8 rfl rfl ?_
    refine jr_aload_n (n := 10) dX8_waits_9 rfl rfl ?_
    refine jr_getI (n := 13) (i := 8) rfl dX8_waits_10 rfl fX8_100 rfl (by decide) (by decide) rfl ?_
    rw [n8]
    refine jr_icmp_ge (n := 16) (t := 31) dX8_waits_13 (by decide) rfl (by omega) (by omega) (fun b13 => ?_) (fun b13 => ?_)
    · refine jr_lload_n (n := 32) dX8_waits_31 rfl rfl ?_
      refine jr_lret dX8_waits_32 rfl ?_
      have e : i = M 8 8 := by omega
      subst e
      exact h
    · refine jr_lload_n (n := 17) dX8_waits_16 rfl rfl ?_
      refine jr_aload_n (n := 18) dX8_waits_17 rfl rfl ?_
      refine jr_iload_n (n := 19) dX8_waits_18 rfl rfl ?_
      refine jr_cV1 (n := 22) (ci := 8) (ν := mX8_waitedIn) dX8_waits_19 rfl lX8_172 kX8_waitedIn iX8_waitedIn rfl ⟨_, rfl, rfl⟩ (by decide) (Nat.le_of_ble_eq_true rfl) (Nat.le_of_ble_eq_true rfl) rfl ?_
      refine e_waitedIn hI (by omega) hD hV ?_
      have hw := jwn_b (v := i) (i := (M 8 2).toNat) hV (fun k u => (jclE_0 hI k u).1) (by omega)
      refine jr_i2l (n := 23) dX8_waits_22 rfl (by unfold jwo; omega) ?_
      refine jr_ladd (n := 24) dX8_waits_23 rfl ?_
      refine jr_lstore1 (n := 25) dX8_waits_24 rfl (by decide) rfl ?_
      refine jr_iinc3 (n := 28) dX8_waits_25 rfl (by decide) rfl ?_
      refine jr_goto (t := 8) dX8_waits_28 (by decide) ?_
      have e := jsum_s (fun u => jwo (M 8 2) (M 43) (jclE M) σ u) h0
      rw [← e]
      exact ih (i + 1) (by omega) (by omega) (by omega)

theorem e_waits {G : jG} {d : Nat} {M : jMem} {Q : Option Value → jMem → Prop} (hI : jO M) (h : ∀ N, jFE M N → Q (some (.long (jL (jsum (fun u => jwo (M 8 2) (M 43) (jclE M) (jdy (M 8 2) (M 8 8) (M 39) (M 38) (M 43) (M 44) (M 41) (jclE M) 200) u) (M 8 8).toNat)))) N) : jN G mX8_waits (d + 5) [.ref (jad G 8)] M Q := by
  show jM G mX8_waits (d + 5) 0 [.ref (jad G 8), .null, .null, .null] [] M Q
  have hs := jn1 hI
  generalize hσ : jdy (M 8 2) (M 8 8) (M 39) (M 38) (M 43) (M 44) (M 41) (jclE M) 200 = σ at h
  refine jr_aload_n (n := 1) dX8_waits_0 rfl rfl ?_
  refine jr_cV0 (n := 4) (ci := 8) (ν := mX8_runDay) dX8_waits_1 rfl lX8_166 kX8_runDay iX8_runDay rfl ⟨_, rfl, rfl⟩ (by decide) (Nat.le_of_ble_eq_true rfl) (Nat.le_of_ble_eq_true rfl) rfl ?_
  refine e_runDay hI (fun N hD => ?_)
  rw [hσ] at hD
  have hV := jIv_dy (cl := jclE M) (jSD_of hI) 200 (by omega)
  rw [hσ] at hV
  refine jr_lconst (n := 5) (x := 0) dX8_waits_4 rfl (by decide) ?_
  refine jr_lstore1 (n := 6) dX8_waits_5 rfl (by decide) rfl ?_
  refine jr_iconst (n := 7) dX8_waits_6 rfl ?_
  refine jr_istore3 (n := 8) dX8_waits_7 rfl (by decide) rfl ?_
  exact e_waits_l hI hD hV (h N hD.1) ((M 8 8).toNat + 1) 0 (by omega) (by omega) (by omega)

theorem e_pay_l {G : jG} {d : Nat} {M : jMem} {Q : Option Value → jMem → Prop} (hI : jO M) {N : jMem} {σ : jS} {v s m a j : Int} (hv : 0 ≤ v ∧ v < 10) (hD : jDE M N σ) (hV : jIv (M 8 2) (M 39) (M 38) (M 43) s m σ) (hk2 : M 45 v = 2) (h : Q (some (.long (jL (a + jsum (jhn (M 43) (M 44) σ v) (M 8 2).toNat * M 49 4)))) N)  : ∀ (f : Nat) (i : Int), 0 ≤ i → i ≤ M 8 2 → M 8 2 - i < f → jM G mX8_pay (d + 5) 91 [.ref (jad G 8), .int (jI v), .long (jL j), .null, .long (jL (a + jsum (jhn (M 43) (M 44) σ v) i.toNat * M 49 4)), .null, .int (jI i)] [] (N) Q := by
  intro f
  induction f with
  | zero =>
    intro i h0 h1 hf
    exact absurd hf (by omega)
  | succ f ih =>
    intro i h0 h1 hf
    have hs := jn1 hI
    have n8 := hD.1.2 2 (by decide)
    have n43 := hD.1.1 43 (by decide) (by decide)
    have n44 := hD.1.1 44 (by decide) (by decide)
    have n45 := hD.1.1 45 (by decide) (by decide)
    have n49 := hD.1.1 49 (by decide) (by decide)
    have u4 := jn11 hI 4 (by omega) (by omega)
    refine jr_iload (n := 93) dX8_pay_91 rfl rfl ?_
    refine jr_aload_n (n := 94) dX8_pay_93 rfl rfl ?_
    refine jr_getI (n := 97) (i := 2) rfl dX8_pay_94 rfl fX8_96 rfl (by decide) (by decide) rfl ?_
    rw [n8]
    refine jr_icmp_ge (n := 100) (t := 161) dX8_pay_97 (by decide) rfl (by omega) (by omega) (fun b97 => ?_) (fun b97 => ?_)
    · refine jr_lload (n := 163) dX8_pay_161 rfl rfl ?_
      refine jr_lret dX8_pay_163 rfl ?_
      have e : i = M 8 2 := by omega
      subst e
      exact h
    · refine jr_aload_n (n := 101) dX8_pay_100 rfl rfl ?_
      refine jr_getR (n := 104) dX8_pay_101 rfl fX8_31 rfl (by decide) (by decide) rfl ?_
      refine jr_iload_n (n := 105) dX8_pay_104 rfl rfl ?_
      refine jr_iald (n := 106) dX8_pay_105 rfl rfl (by decide) (by omega) (by omega) ?_
      rw [n45]
      refine jr_iconst (n := 107) dX8_pay_106 rfl ?_
      refine jr_icmp_ne (n := 110) (t := 161) dX8_pay_107 (by decide) rfl (by omega) (by omega) (fun b107 => ?_) (fun b107 => ?_)
      · exact absurd b107 (by omega)
      · have hq := hD.2.1 i h0 (by omega)
        have hq2 := hV.2.1 i h0 (by omega)
        have hfa := (jn3 hI i h0 (by omega)).2.2.2.2
        refine jr_lload (n := 112) dX8_pay_110 rfl rfl ?_
        refine jr_aload_n (n := 113) dX8_pay_112 rfl rfl ?_
        refine jr_iload (n := 115) dX8_pay_113 rfl rfl ?_
        refine jr_iload_n (n := 116) dX8_pay_115 rfl rfl ?_
        refine jr_cV2 (n := 119) (ci := 8) (ν := mX8_needs1) dX8_pay_116 rfl lX8_121 kX8_needs1 iX8_needs1 rfl ⟨_, rfl, rfl⟩ (by decide) (Nat.le_of_ble_eq_true rfl) (Nat.le_of_ble_eq_true rfl) rfl ?_
        refine e_needs1 (by omega) (fun b116 => ?_) (fun b116 => ?_)
        all_goals rw [n43] at b116
        · refine jr_ifF_eq (n := 122) (t := 151) dX8_pay_119 rfl (by decide) (by decide) (by decide) ?_
          refine jr_aload_n (n := 123) dX8_pay_122 rfl rfl ?_
          refine jr_getR (n := 126) dX8_pay_123 rfl fX8_68 rfl (by decide) (by decide) rfl ?_
          refine jr_iload (n := 128) dX8_pay_126 rfl rfl ?_
          refine jr_iald (n := 129) dX8_pay_128 rfl rfl (by decide) (by omega) (by omega) ?_
          rw [hq.1]
          refine jr_if_lt (n := 132) (t := 151) dX8_pay_129 (by decide) rfl (by omega) (fun b129 => ?_) (fun b129 => ?_)
          · refine jr_lconst (n := 152) (x := 0) dX8_pay_151 rfl (by decide) ?_
            refine jr_ladd (n := 153) dX8_pay_152 rfl ?_
            refine jr_lstore4 (n := 155) dX8_pay_153 rfl (by decide) rfl ?_
            refine jr_iinc6 (n := 158) dX8_pay_155 rfl (by decide) rfl ?_
            refine jr_goto (t := 91) dX8_pay_158 (by decide) ?_
            have e := jsum_s (jhn (M 43) (M 44) σ v) h0
            first
              | (rw [show (jhn (M 43) (M 44) σ v) i = 1 from if_pos ⟨b116, by omega, b135⟩] at e
                 rw [Int.add_assoc, show jsum (jhn (M 43) (M 44) σ v) i.toNat * M 49 4 + M 49 4 = jsum (jhn (M 43) (M 44) σ v) (i + 1).toNat * M 49 4 by rw [e, Int.add_mul, Int.one_mul]]
                 exact ih (i + 1) (by omega) (by omega) (by omega))
              | (rw [show (jhn (M 43) (M 44) σ v) i = 0 from if_neg (fun q => by first | exact q.2.2 b135 | exact q.2.1 (by omega) | exact b116 q.1), Int.add_zero] at e; rw [Int.add_zero, ← e]; exact ih (i + 1) (by omega) (by omega) (by omega))
          · refine jr_aload_n (n := 133) dX8_pay_132 rfl rfl ?_
            refine jr_iload (n := 135) dX8_pay_133 rfl rfl ?_
            refine jr_cV1 (n := 138) (ci := 8) (ν := mX8_isFolded) dX8_pay_135 rfl lX8_153 kX8_isFolded iX8_isFolded rfl ⟨_, rfl, rfl⟩ (by decide) (Nat.le_of_ble_eq_true rfl) (Nat.le_of_ble_eq_true rfl) rfl ?_
            refine e_isFolded (by omega) (by rw [n44]; omega) (fun b135 => ?_) (fun b135 => ?_)
            all_goals rw [n44] at b135
            · refine jr_ifT_ne (t := 151) dX8_pay_138 (by decide) (by decide) (by decide) ?_
              refine jr_lconst (n := 152) (x := 0) dX8_pay_151 rfl (by decide) ?_
              refine jr_ladd (n := 153) dX8_pay_152 rfl ?_
              refine jr_lstore4 (n := 155) dX8_pay_153 rfl (by decide) rfl ?_
              refine jr_iinc6 (n := 158) dX8_pay_155 rfl (by decide) rfl ?_
              refine jr_goto (t := 91) dX8_pay_158 (by decide) ?_
              have e := jsum_s (jhn (M 43) (M 44) σ v) h0
              first
                | (rw [show (jhn (M 43) (M 44) σ v) i = 1 from if_pos ⟨b116, by omega, b135⟩] at e
                   rw [Int.add_assoc, show jsum (jhn (M 43) (M 44) σ v) i.toNat * M 49 4 + M 49 4 = jsum (jhn (M 43) (M 44) σ v) (i + 1).toNat * M 49 4 by rw [e, Int.add_mul, Int.one_mul]]
                   exact ih (i + 1) (by omega) (by omega) (by omega))
                | (rw [show (jhn (M 43) (M 44) σ v) i = 0 from if_neg (fun q => by first | exact q.2.2 b135 | exact q.2.1 (by omega) | exact b116 q.1), Int.add_zero] at e; rw [Int.add_zero, ← e]; exact ih (i + 1) (by omega) (by omega) (by omega))
            · refine jr_ifF_ne (n := 141) (t := 151) dX8_pay_138 rfl (by decide) (by decide) (by decide) ?_
              refine jr_aload_n (n := 142) dX8_pay_141 rfl rfl ?_
              refine jr_getR (n := 145) dX8_pay_142 rfl fX8_43 rfl (by decide) (by decide) rfl ?_
              refine jr_iconst (n := 146) dX8_pay_145 rfl ?_
              refine jr_iald (n := 147) dX8_pay_146 rfl rfl (by decide) (by omega) (by omega) ?_
              rw [n49]
              refine jr_i2l (n := 148) dX8_pay_147 rfl (by omega) ?_
              refine jr_goto (t := 152) dX8_pay_148 (by decide) ?_
              refine jr_ladd (n := 153) dX8_pay_152 rfl ?_
              refine jr_lstore4 (n := 155) dX8_pay_153 rfl (by decide) rfl ?_
              refine jr_iinc6 (n := 158) dX8_pay_155 rfl (by decide) rfl ?_
              refine jr_goto (t := 91) dX8_pay_158 (by decide) ?_
              have e := jsum_s (jhn (M 43) (M 44) σ v) h0
              first
                | (rw [show (jhn (M 43) (M 44) σ v) i = 1 from if_pos ⟨b116, by omega, b135⟩] at e
                   rw [Int.add_assoc, show jsum (jhn (M 43) (M 44) σ v) i.toNat * M 49 4 + M 49 4 = jsum (jhn (M 43) (M 44) σ v) (i + 1).toNat * M 49 4 by rw [e, Int.add_mul, Int.one_mul]]
                   exact ih (i + 1) (by omega) (by omega) (by omega))
                | (rw [show (jhn (M 43) (M 44) σ v) i = 0 from if_neg (fun q => by first | exact q.2.2 b135 | exact q.2.1 (by omega) | exact b116 q.1), Int.add_zero] at e; rw [Int.add_zero, ← e]; exact ih (i + 1) (by omega) (by omega) (by omega))
        · refine jr_ifT_eq (t := 151) dX8_pay_119 (by decide) (by decide) (by decide) ?_
          refine jr_lconst (n := 152) (x := 0) dX8_pay_151 rfl (by decide) ?_
          refine jr_ladd (n := 153) dX8_pay_152 rfl ?_
          refine jr_lstore4 (n := 155) dX8_pay_153 rfl (by decide) rfl ?_
          refine jr_iinc6 (n := 158) dX8_pay_155 rfl (by decide) rfl ?_
          refine jr_goto (t := 91) dX8_pay_158 (by decide) ?_
          have e := jsum_s (jhn (M 43) (M 44) σ v) h0
          first
            | (rw [show (jhn (M 43) (M 44) σ v) i = 1 from if_pos ⟨b116, by omega, b135⟩] at e
               rw [Int.add_assoc, show jsum (jhn (M 43) (M 44) σ v) i.toNat * M 49 4 + M 49 4 = jsum (jhn (M 43) (M 44) σ v) (i + 1).toNat * M 49 4 by rw [e, Int.add_mul, Int.one_mul]]
               exact ih (i + 1) (by omega) (by omega) (by omega))
            | (rw [show (jhn (M 43) (M 44) σ v) i = 0 from if_neg (fun q => by first | exact q.2.2 b135 | exact q.2.1 (by omega) | exact b116 q.1), Int.add_zero] at e; rw [Int.add_zero, ← e]; exact ih (i + 1) (by omega) (by omega) (by omega))

theorem e_pay {G : jG} {d : Nat} {M : jMem} {Q : Option Value → jMem → Prop} (hI : jO M) {v : Int} (hv : jR v) (hB : ¬ (0 ≤ v ∧ v < M 8 8) → Q (some (.long (jL (-9000000000000000001)))) M) (h0 : 0 ≤ v → v < M 8 8 → (M 45 v = 1 ∨ ¬ jcld (M 8 2) (M 43) v) → Q (some (.long (jL 0))) M) (h1 : 0 ≤ v → v < M 8 8 → 3 ≤ M 45 v → jcld (M 8 2) (M 43) v → Q (some (.long (jL (2 * M 46 v * M 49 3)))) M) (h2 : 0 ≤ v → v < M 8 8 → M 45 v = 2 → jcld (M 8 2) (M 43) v → ∀ N, jFE M N → Q (some (.long (jL ((2 * M 46 v * M 49 3) + (jdiv (jwo (M 8 2) (M 43) (jclE M) (jdy (M 8 2) (M 8 8) (M 39) (M 38) (M 43) (M 44) (M 41) (jclE M) 200) v) 4) * M 49 2 + (jsum (jhn (M 43) (M 44) (jdy (M 8 2) (M 8 8) (M 39) (M 38) (M 43) (M 44) (M 41) (jclE M) 200) v) (M 8 2).toNat) * M 49 4)))) N) (h3 : 0 ≤ v → v < M 8 8 → M 45 v = 0 → jcld (M 8 2) (M 43) v → ∀ N, jFE M N → Q (some (.long (jL ((2 * M 46 v * M 49 3) + (jdiv (jwo (M 8 2) (M 43) (jclE M) (jdy (M 8 2) (M 8 8) (M 39) (M 38) (M 43) (M 44) (M 41) (jclE M) 200) v) 4) * M 49 2)))) N) : jN G mX8_pay (d + 5) [.ref (jad G 8), .int (jI v)] M Q := by
  show jM G mX8_pay (d + 5) 0 [.ref (jad G 8), .int (jI v), .null, .null, .null, .null, .null] [] M Q
  have hz := jn1 hI
  generalize hσ : jdy (M 8 2) (M 8 8) (M 39) (M 38) (M 43) (M 44) (M 41) (jclE M) 200 = σ at h2 h3
  refine jr_aload_n (n := 1) dX8_pay_0 rfl rfl ?_
  refine jr_iload_n (n := 2) dX8_pay_1 rfl rfl ?_
  refine jr_cV1 (n := 5) (ci := 8) (ν := mX8_isWitness) dX8_pay_2 rfl lX8_115 kX8_isWitness iX8_isWitness rfl ⟨_, rfl, rfl⟩ (by decide) (Nat.le_of_ble_eq_true rfl) (Nat.le_of_ble_eq_true rfl) rfl ?_
  refine e_isWitness (by omega) (by omega) (fun b2 b2b => ?_) (fun b2 => ?_)
  · refine jr_ifT_ne (t := 12) dX8_pay_5 (by decide) (by decide) (by decide) ?_
    have hr := jn9 hI v (by omega) (by omega)
    have u2 := jn11 hI 2 (by omega) (by omega)
    have u3 := jn11 hI 3 (by omega) (by omega)
    have u4 := jn11 hI 4 (by omega) (by omega)
    refine jr_aload_n (n := 13) dX8_pay_12 rfl rfl ?_
    refine jr_iload_n (n := 14) dX8_pay_13 rfl rfl ?_
    refine jr_cV1 (n := 17) (ci := 8) (ν := mX8_isCalled) dX8_pay_14 rfl lX8_175 kX8_isCalled iX8_isCalled rfl ⟨_, rfl, rfl⟩ (by decide) (Nat.le_of_ble_eq_true rfl) (Nat.le_of_ble_eq_true rfl) rfl ?_
    refine e_isCalled hI (fun b14 => ?_) (fun b14 => ?_)
    · refine jr_ifF_eq (n := 20) (t := 30) dX8_pay_17 rfl (by decide) (by decide) (by decide) ?_
      refine jr_aload_n (n := 21) dX8_pay_20 rfl rfl ?_
      refine jr_getR (n := 24) dX8_pay_21 rfl fX8_31 rfl (by decide) (by decide) rfl ?_
      refine jr_iload_n (n := 25) dX8_pay_24 rfl rfl ?_
      refine jr_iald (n := 26) dX8_pay_25 rfl rfl (by decide) (by omega) (by omega) ?_
      refine jr_iconst (n := 27) dX8_pay_26 rfl ?_
      refine jr_icmp_ne (n := 30) (t := 32) dX8_pay_27 (by decide) rfl (by omega) (by omega) (fun b27 => ?_) (fun b27 => ?_)
      · refine jr_ldc2 (n := 35) dX8_pay_32 rfl rfl qX8_178 vX8_178 ?_
        refine jr_aload_n (n := 36) dX8_pay_35 rfl rfl ?_
        refine jr_getR (n := 39) dX8_pay_36 rfl fX8_34 rfl (by decide) (by decide) rfl ?_
        refine jr_iload_n (n := 40) dX8_pay_39 rfl rfl ?_
        refine jr_iald (n := 41) dX8_pay_40 rfl rfl (by decide) (by omega) (by omega) ?_
        refine jr_i2l (n := 42) dX8_pay_41 rfl (by omega) ?_
        refine jr_lmul (n := 43) dX8_pay_42 rfl ?_
        refine jr_aload_n (n := 44) dX8_pay_43 rfl rfl ?_
        refine jr_getR (n := 47) dX8_pay_44 rfl fX8_43 rfl (by decide) (by decide) rfl ?_
        refine jr_iconst (n := 48) dX8_pay_47 rfl ?_
        refine jr_iald (n := 49) dX8_pay_48 rfl rfl (by decide) (by omega) (by omega) ?_
        refine jr_i2l (n := 50) dX8_pay_49 rfl (by omega) ?_
        refine jr_lmul (n := 51) dX8_pay_50 rfl ?_
        refine jr_lstore2 (n := 52) dX8_pay_51 rfl (by decide) rfl ?_
        refine jr_aload_n (n := 53) dX8_pay_52 rfl rfl ?_
        refine jr_getR (n := 56) dX8_pay_53 rfl fX8_31 rfl (by decide) (by decide) rfl ?_
        refine jr_iload_n (n := 57) dX8_pay_56 rfl rfl ?_
        refine jr_iald (n := 58) dX8_pay_57 rfl rfl (by decide) (by omega) (by omega) ?_
        refine jr_iconst (n := 59) dX8_pay_58 rfl ?_
        refine jr_icmp_lt (n := 62) (t := 64) dX8_pay_59 (by decide) rfl (by omega) (by omega) (fun b59 => ?_) (fun b59 => ?_)
        · refine jr_aload_n (n := 65) dX8_pay_64 rfl rfl ?_
          refine jr_cV0 (n := 68) (ci := 8) (ν := mX8_runDay) dX8_pay_65 rfl lX8_166 kX8_runDay iX8_runDay rfl ⟨_, rfl, rfl⟩ (by decide) (Nat.le_of_ble_eq_true rfl) (Nat.le_of_ble_eq_true rfl) rfl ?_
          refine e_runDay hI (fun N hD => ?_)
          rw [hσ] at hD
          have hV := jIv_dy (cl := jclE M) (jSD_of hI) 200 (by omega)
          rw [hσ] at hV
          have n8 := hD.1.2 2 (by decide)
          have n45 := hD.1.1 45 (by decide) (by decide)
          have n49 := hD.1.1 49 (by decide) (by decide)
          refine jr_lload_n (n := 69) dX8_pay_68 rfl rfl ?_
          refine jr_aload_n (n := 70) dX8_pay_69 rfl rfl ?_
          refine jr_iload_n (n := 71) dX8_pay_70 rfl rfl ?_
          refine jr_cV1 (n := 74) (ci := 8) (ν := mX8_waitedIn) dX8_pay_71 rfl lX8_172 kX8_waitedIn iX8_waitedIn rfl ⟨_, rfl, rfl⟩ (by decide) (Nat.le_of_ble_eq_true rfl) (Nat.le_of_ble_eq_true rfl) rfl ?_
          refine e_waitedIn hI (by omega) hD hV ?_
          refine jr_iconst (n := 75) dX8_pay_74 rfl ?_
          refine jr_idiv (n := 76) dX8_pay_75 rfl (by decide) ?_
          refine jr_i2l (n := 77) dX8_pay_76 rfl (jI_R _) ?_
          refine jr_aload_n (n := 78) dX8_pay_77 rfl rfl ?_
          refine jr_getR (n := 81) dX8_pay_78 rfl fX8_43 rfl (by decide) (by decide) rfl ?_
          refine jr_iconst (n := 82) dX8_pay_81 rfl ?_
          refine jr_iald (n := 83) dX8_pay_82 rfl rfl (by decide) (by omega) (by omega) ?_
          rw [n49]
          refine jr_i2l (n := 84) dX8_pay_83 rfl (by omega) ?_
          refine jr_lmul (n := 85) dX8_pay_84 rfl ?_
          refine jr_ladd (n := 86) dX8_pay_85 rfl ?_
          refine jr_lstore4 (n := 88) dX8_pay_86 rfl (by decide) rfl ?_
          refine jr_iconst (n := 89) dX8_pay_88 rfl ?_
          refine jr_istore6 (n := 91) dX8_pay_89 rfl (by decide) rfl ?_
          by_cases hk2 : M 45 v = 2
          · have k9 := e_pay_l (G := G) (d := d) (Q := Q) (j := 2 * M 46 v * M 49 3) (a := 2 * M 46 v * M 49 3 + jdiv (jwo (M 8 2) (M 43) (jclE M) σ v) 4 * M 49 2) hI (by omega) hD hV hk2 (h2 (by omega) (by omega) hk2 b14 N hD.1) ((M 8 2).toNat + 1) 0 (by omega) (by omega) (by omega)
            rw [show jsum (jhn (M 43) (M 44) σ v) (0 : Int).toNat = 0 from rfl, Int.zero_mul, Int.add_zero] at k9
            exact k9
          · have h9 := h3 (by omega) (by omega) (by omega) b14 N hD.1
            refine jr_iload (n := 93) dX8_pay_91 rfl rfl ?_
            refine jr_aload_n (n := 94) dX8_pay_93 rfl rfl ?_
            refine jr_getI (n := 97) (i := 2) rfl dX8_pay_94 rfl fX8_96 rfl (by decide) (by decide) rfl ?_
            rw [n8]
            refine jr_icmp_ge (n := 100) (t := 161) dX8_pay_97 (by decide) rfl (by omega) (by omega) (fun b97 => ?_) (fun b97 => ?_)
            · refine jr_lload (n := 163) dX8_pay_161 rfl rfl ?_
              refine jr_lret dX8_pay_163 rfl ?_
              exact h9
            · refine jr_aload_n (n := 101) dX8_pay_100 rfl rfl ?_
              refine jr_getR (n := 104) dX8_pay_101 rfl fX8_31 rfl (by decide) (by decide) rfl ?_
              refine jr_iload_n (n := 105) dX8_pay_104 rfl rfl ?_
              refine jr_iald (n := 106) dX8_pay_105 rfl rfl (by decide) (by omega) (by omega) ?_
              rw [n45]
              refine jr_iconst (n := 107) dX8_pay_106 rfl ?_
              refine jr_icmp_ne (n := 110) (t := 161) dX8_pay_107 (by decide) rfl (by omega) (by omega) (fun b107 => ?_) (fun b107 => absurd b107 hk2)
              refine jr_lload (n := 163) dX8_pay_161 rfl rfl ?_
              refine jr_lret dX8_pay_163 rfl ?_
              exact h9
        · refine jr_lload_n (n := 63) dX8_pay_62 rfl rfl ?_
          refine jr_lret dX8_pay_63 rfl ?_
          first | exact hB (by omega) | exact h0 (by omega) (by omega) (Or.inl (by omega)) | exact h0 (by omega) (by omega) (Or.inr b14) | exact h1 (by omega) (by omega) (by omega) b14
      · refine jr_lconst (n := 31) (x := 0) dX8_pay_30 rfl (by decide) ?_
        refine jr_lret dX8_pay_31 rfl ?_
        first | exact hB (by omega) | exact h0 (by omega) (by omega) (Or.inl (by omega)) | exact h0 (by omega) (by omega) (Or.inr b14) | exact h1 (by omega) (by omega) (by omega) b14
    · refine jr_ifT_eq (t := 30) dX8_pay_17 (by decide) (by decide) (by decide) ?_
      refine jr_lconst (n := 31) (x := 0) dX8_pay_30 rfl (by decide) ?_
      refine jr_lret dX8_pay_31 rfl ?_
      first | exact hB (by omega) | exact h0 (by omega) (by omega) (Or.inl (by omega)) | exact h0 (by omega) (by omega) (Or.inr b14) | exact h1 (by omega) (by omega) (by omega) b14
  · refine jr_ifF_ne (n := 8) (t := 12) dX8_pay_5 rfl (by decide) (by decide) (by decide) ?_
    refine jr_ldc2 (n := 11) dX8_pay_8 rfl rfl qX8_107 vX8_107 ?_
    refine jr_lret dX8_pay_11 rfl ?_
    first | exact hB (by omega) | exact h0 (by omega) (by omega) (Or.inl (by omega)) | exact h0 (by omega) (by omega) (Or.inr b14) | exact h1 (by omega) (by omega) (by omega) b14

