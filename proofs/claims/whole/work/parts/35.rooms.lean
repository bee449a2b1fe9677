theorem jla_none {ne : Int → Int} {cl : Int → Int → Int} {σ : jS} {v : Int} {n : Int} {li ls : Int → Int} {s m : Int} (hV : jIv n li ls ne s m σ) : ∀ i : Nat, (i : Int) ≤ n → jla ne σ v i = -1 → jfr ne cl v i = 200
  | 0, _, _ => rfl
  | i + 1, hi, h => by
    have h1 := jla_b hV (v := v) i (by omega)
    have h2 := hV.2.1 i (by omega) (by omega)
    have h3 : 0 ≤ jto σ i := by unfold jto; split <;> omega
    unfold jla at h
    unfold jfr
    by_cases q : jbit (ne (i : Int)) v
    · rw [if_pos q] at h; omega
    · rw [if_neg q] at h ⊢; exact jla_none hV i (by omega) h
theorem jfA_iff {n : Int} {li ls ne : Int → Int} {cl : Int → Int → Int} {s m : Int} {σ : jS} (hn : 0 ≤ n) (hV : jIv n li ls ne s m σ) (hc : ∀ k u, 0 ≤ cl k u ∧ cl k u ≤ 48) (v : Int) : (jfA n ne cl σ v < 0 ↔ jfU n ne cl σ v = -1) ∧ (-1 ≤ jfA n ne cl σ v ∧ jfA n ne cl σ v ≤ 200) ∧ (-1 ≤ jfU n ne cl σ v ∧ jfU n ne cl σ v ≤ 200) ∧ (0 ≤ jfF n ne cl v ∧ jfF n ne cl v ≤ 200) ∧ (0 ≤ jfA n ne cl σ v → jfF n ne cl v = jfA n ne cl σ v) := by
  have h1 := jfr_b (ne := ne) (v := v) hc n.toNat
  have h2 := jla_b hV (v := v) n.toNat (by omega)
  have h1' : 0 ≤ jfF n ne cl v ∧ jfF n ne cl v ≤ 200 := h1
  by_cases q : jla ne σ v n.toNat = -1
  · have eA : jfA n ne cl σ v = -1 := if_pos q
    have eU : jfU n ne cl σ v = -1 := if_pos q
    rw [eA, eU]
    exact ⟨⟨fun _ => rfl, fun _ => by omega⟩, by omega, by omega, h1', fun z => absurd z (by omega)⟩
  · have eA : jfA n ne cl σ v = jfF n ne cl v := if_neg q
    have eU : jfU n ne cl σ v = max (jfF n ne cl v) (jla ne σ v n.toNat) := if_neg q
    rw [eA, eU]
    exact ⟨⟨fun z => absurd z (by omega), fun z => absurd z (by omega)⟩, by omega, by omega, h1', fun _ => rfl⟩
theorem c_give_l {G : jG} {d : Nat} {M : jMem} {Q : Option Value → jMem → Prop} (hI : jK M) {N : jMem} {σ : jS} {s m : Int} (hD : jDC M N σ) (hV : jIv (M 1 8) (M 16) (M 17) (M 13) s m σ) (h1 : ∀ rm N', jgr (M 2 3) (M 18) (jfA (M 1 8) (M 13) (jclC M) σ) (jfU (M 1 8) (M 13) (jclC M) σ) (M 20) (M 2 3).toNat (fun _ => -1) = some rm → jFC M N' → (∀ v, 0 ≤ v → v < M 2 3 → (N' 28 v = if 0 ≤ jfA (M 1 8) (M 13) (jclC M) σ v then rm v else -1) ∧ (0 ≤ jfA (M 1 8) (M 13) (jclC M) σ v → 0 ≤ rm v ∧ rm v < 3)) → Q (some (.int (jI 1))) N') (h0 : ∀ N', jgr (M 2 3) (M 18) (jfA (M 1 8) (M 13) (jclC M) σ) (jfU (M 1 8) (M 13) (jclC M) σ) (M 20) (M 2 3).toNat (fun _ => -1) = none → jFC M N' → Q (some (.int (jI 0))) N')  : ∀ (f : Nat) (i : Int) (N' : jMem), 0 ≤ i → i ≤ M 2 3 → jFC M N' → (∀ k, 0 ≤ k → k < 12 → N' 22 k = σ.1 k) → (∀ u, 0 ≤ u → u < 10 → N' 28 u = -1) → (∀ z, 0 ≤ z → z < 3 → N' 32 z = 0) → jFo (M 20) (jfF (M 1 8) (M 13) (jclC M)) (jfU (M 1 8) (M 13) (jclC M) σ) N' i → M 2 3 - i < f → jM G mX5_give (d + 12) 19 [.ref (jad G 5), .ref (jad G 2), .ref (jad G 1), .ref (jad G 4), .int (jI i)] [] (N') Q := by
  intro f
  induction f with
  | zero =>
    intro i N' i0 i1 hN hb hr hm hF hf
    exact absurd hf (by omega)
  | succ f ih =>
    intro i N' i0 i1 hN hb hr hm hF hf
    have hs := jn1 hI
    have n2 := congrFun (hN 2 (by decide) (by decide)) 3
    have hai := fun v => jfA_iff hs.1.1 hV (jclC_0 hI) v
    refine jr_iload (n := 21) dX5_give_19 rfl rfl ?_
    refine jr_aload_n (n := 22) dX5_give_21 rfl rfl ?_
    refine jr_getI (n := 25) (i := 3) rfl dX5_give_22 rfl fX5_33 rfl (by decide) (by decide) rfl ?_
    rw [n2]
    refine jr_icmp_ge (n := 28) (t := 49) dX5_give_25 (by decide) rfl (by omega) (by omega) (fun b25 => ?_) (fun b25 => ?_)
    · refine jr_aload_n (n := 50) dX5_give_49 rfl rfl ?_
      refine jr_aload_n (n := 51) dX5_give_50 rfl rfl ?_
      refine jr_iconst (n := 52) dX5_give_51 rfl ?_
      refine jr_cS3 (n := 55) (ν := mX5_settle) dX5_give_52 rfl lX5_47 kX5_settle iX5_settle (Nat.le_of_ble_eq_true rfl) (Nat.le_of_ble_eq_true rfl) rfl ?_
      have e : i = M 2 3 := by omega
      subst e
      rw [show d + 11 = d + (10 - (M 2 3).toNat) + (M 2 3).toNat + 1 by omega]
      refine c_settle hI (fA := jfA (M 1 8) (M 13) (jclC M) σ) (fU := jfU (M 1 8) (M 13) (jclC M) σ) (F := jfF (M 1 8) (M 13) (jclC M)) (fun u _ _ => ⟨(hai u).1, by have := hai u; omega⟩) (fun u _ _ q => (hai u).2.2.2.2 q) (M 2 3).toNat (d + (10 - (M 2 3).toNat)) N' (fun _ => -1) _ 0 (by omega) (by omega) hN hF ⟨fun u u0 u1 => ?_, fun z z0 z1 u u0 u1 => ?_, fun u u0 u1 => absurd u1 (by omega)⟩ (fun rm N2 hg hR hre => ?_) (fun N2 hg hR hre => ?_)
      · rw [hr u u0 u1, if_neg (by omega)]
      · rw [hm z z0 z1]; exact ⟨fun q => absurd q (jbit_0 u0 u1), fun q => absurd q.1 (by omega)⟩
      · refine jr_zret dX5_give_55 rfl (by decide) ?_
        refine h1 rm N2 hg (fun a q1 q2 => by rw [hre a (by omega) (by omega)]; exact hN a q1 q2) (fun v v0 v1 => ⟨?_, fun q => hR.2.2 v v0 v1 q⟩)
        rw [hR.1 v v0 (by omega)]
        by_cases q : 0 ≤ jfA (M 1 8) (M 13) (jclC M) σ v
        · rw [if_pos ⟨v1, q⟩, if_pos q]
        · rw [if_neg (fun z => q z.2), if_neg q]
      · refine jr_zret dX5_give_55 rfl (by decide) ?_
        exact h0 N2 hg (fun a q1 q2 => by rw [hre a (by omega) (by omega)]; exact hN a q1 q2)
    · refine jr_aload_n (n := 29) dX5_give_28 rfl rfl ?_
      refine jr_aload_n (n := 30) dX5_give_29 rfl rfl ?_
      refine jr_aload_n (n := 31) dX5_give_30 rfl rfl ?_
      refine jr_iload (n := 33) dX5_give_31 rfl rfl ?_
      refine jr_cV3 (n := 36) (ci := 5) (ν := mX5_measureStay) dX5_give_33 rfl lX5_39 kX5_measureStay iX5_measureStay rfl ⟨_, rfl, rfl⟩ (by decide) (Nat.le_of_ble_eq_true rfl) (Nat.le_of_ble_eq_true rfl) rfl ?_
      refine c_measure hI hN hb hV (by omega) ?_
      refine jr_aload_n (n := 37) dX5_give_36 rfl rfl ?_
      refine jr_aload_n (n := 38) dX5_give_37 rfl rfl ?_
      refine jr_iload (n := 40) dX5_give_38 rfl rfl ?_
      refine jr_cV2 (n := 43) (ci := 5) (ν := mX5_findFoes) dX5_give_40 rfl lX5_43 kX5_findFoes iX5_findFoes rfl ⟨_, rfl, rfl⟩ (by decide) (Nat.le_of_ble_eq_true rfl) (Nat.le_of_ble_eq_true rfl) rfl ?_
      have hN2 : jFC M (jup (jup N' 29 i (jfF (M 1 8) (M 13) (jclC M) i)) 30 i (jfU (M 1 8) (M 13) (jclC M) σ i)) := (hN.up (by decide)).up (by decide)
      refine c_foes hI (F := jfF (M 1 8) (M 13) (jclC M)) (fU := jfU (M 1 8) (M 13) (jclC M) σ) (by omega) hN2 (fun u u0 u1 => ?_) (fun N2 ha ho hx => ?_)
      · have hau := hai u
        by_cases e : u = i
        · subst e
          refine ⟨?_, ?_, by omega, by omega⟩
          · rw [jup_ne (by decide), jup_at]
          · rw [jup_at]
        · have := hF u u0 (by omega)
          refine ⟨?_, ?_, by omega, by omega⟩
          · rw [jup_ne (by decide), jup_off e]; exact this.1
          · rw [jup_off e, jup_ne (by decide)]; exact this.2.1
      refine jr_iinc4 (n := 46) dX5_give_43 rfl (by decide) rfl ?_
      refine jr_goto (t := 19) dX5_give_46 (by decide) ?_
      refine ih (i + 1) N2 (by omega) (by omega) (fun a q1 q2 => by rw [ha a (by omega)]; exact hN2 a q1 q2) (fun k k0 k1 => by rw [ha 22 (by decide), jup_ne (by decide), jup_ne (by decide)]; exact hb k k0 k1) (fun u u0 u1 => by rw [ha 28 (by decide), jup_ne (by decide), jup_ne (by decide)]; exact hr u u0 u1) (fun z z0 z1 => by rw [ha 32 (by decide), jup_ne (by decide), jup_ne (by decide)]; exact hm z z0 z1) (fun u u0 u1 => ?_) (by omega)
      rw [ha 29 (by decide), ha 30 (by decide)]
      by_cases e : u = i
      · subst e
        refine ⟨?_, ?_, hx⟩
        · rw [jup_ne (by decide), jup_at]
        · rw [jup_at]
      · have := hF u u0 (by omega)
        refine ⟨?_, ?_, ?_⟩
        · rw [jup_ne (by decide), jup_off e]; exact this.1
        · rw [jup_off e, jup_ne (by decide)]; exact this.2.1
        · rw [ho u e, jup_ne (by decide), jup_ne (by decide)]; exact this.2.2

theorem c_give {G : jG} {d : Nat} {M : jMem} {Q : Option Value → jMem → Prop} (hI : jK M) {N : jMem} {σ : jS} {s m : Int} (hD : jDC M N σ) (hV : jIv (M 1 8) (M 16) (M 17) (M 13) s m σ) (h1 : ∀ rm N', jgr (M 2 3) (M 18) (jfA (M 1 8) (M 13) (jclC M) σ) (jfU (M 1 8) (M 13) (jclC M) σ) (M 20) (M 2 3).toNat (fun _ => -1) = some rm → jFC M N' → (∀ v, 0 ≤ v → v < M 2 3 → (N' 28 v = if 0 ≤ jfA (M 1 8) (M 13) (jclC M) σ v then rm v else -1) ∧ (0 ≤ jfA (M 1 8) (M 13) (jclC M) σ v → 0 ≤ rm v ∧ rm v < 3)) → Q (some (.int (jI 1))) N') (h0 : ∀ N', jgr (M 2 3) (M 18) (jfA (M 1 8) (M 13) (jclC M) σ) (jfU (M 1 8) (M 13) (jclC M) σ) (M 20) (M 2 3).toNat (fun _ => -1) = none → jFC M N' → Q (some (.int (jI 0))) N')  : jN G mX5_give (d + 12) [.ref (jad G 5), .ref (jad G 2), .ref (jad G 1), .ref (jad G 4)] N Q := by
  show jM G mX5_give (d + 12) 0 [.ref (jad G 5), .ref (jad G 2), .ref (jad G 1), .ref (jad G 4), .null] [] N Q
  have hs := jn1 hI
  refine jr_aload_n (n := 1) dX5_give_0 rfl rfl ?_
  refine jr_getR (n := 4) dX5_give_1 rfl fX5_9 rfl (by decide) (by decide) rfl ?_
  refine jr_iconst (n := 5) dX5_give_4 rfl ?_
  refine jr_cS2 (n := 8) (ν := mJ7_fill_53178) dX5_give_5 rfl lX5_27 kJ7_fill_53178 iJ7_fill_53178 (Nat.le_of_ble_eq_true rfl) (Nat.le_of_ble_eq_true rfl) rfl ?_
  refine c_fillI rfl (by decide) ?_
  refine jr_aload_n (n := 9) dX5_give_8 rfl rfl ?_
  refine jr_getR (n := 12) dX5_give_9 rfl fX5_24 rfl (by decide) (by decide) rfl ?_
  refine jr_iconst (n := 13) dX5_give_12 rfl ?_
  refine jr_cS2 (n := 16) (ν := mJ7_fill_53178) dX5_give_13 rfl lX5_27 kJ7_fill_53178 iJ7_fill_53178 (Nat.le_of_ble_eq_true rfl) (Nat.le_of_ble_eq_true rfl) rfl ?_
  refine c_fillI rfl (by decide) ?_
  refine jr_iconst (n := 17) dX5_give_16 rfl ?_
  refine jr_istore4 (n := 19) dX5_give_17 rfl (by decide) rfl ?_
  refine c_give_l hI hD hV h1 h0 ((M 2 3).toNat + 1) 0 _ (by omega) (by omega) ((hD.1.blk (by omega) (by omega)).blk (by omega) (by omega)) (fun k k0 k1 => ?_) (fun u u0 u1 => ?_) (fun z z0 z1 => ?_) (fun u u0 u1 => absurd u1 (by omega)) (by omega)
  · rw [jblk_ne (by decide), jblk_ne (by decide)]; exact (hD.2.1 k k0 k1).1
  · rw [jblk_ne (by decide), jblk_in (by omega)]
  · rw [jblk_in (by omega)]

theorem c_room {G : jG} {d : Nat} {M : jMem} {Q : Option Value → jMem → Prop} (hI : jK M) {v : Int} (hv : jR v) (hB : ¬ (0 ≤ v ∧ v < M 2 3) → Q (some (.long (jL (-9000000000000000001)))) M) (hN : 0 ≤ v → v < M 2 3 → jgr (M 2 3) (M 18) (jfA (M 1 8) (M 13) (jclC M) (jdy (M 1 8) (M 2 3) (M 16) (M 17) (M 13) (M 14) (M 11) (jclC M) 200)) (jfU (M 1 8) (M 13) (jclC M) (jdy (M 1 8) (M 2 3) (M 16) (M 17) (M 13) (M 14) (M 11) (jclC M) 200)) (M 20) (M 2 3).toNat (fun _ => -1) = none → ∀ N, jFC M N → Q (some (.long (jL (-9000000000000000002)))) N) (h0 : 0 ≤ v → v < M 2 3 → ∀ rm, jgr (M 2 3) (M 18) (jfA (M 1 8) (M 13) (jclC M) (jdy (M 1 8) (M 2 3) (M 16) (M 17) (M 13) (M 14) (M 11) (jclC M) 200)) (jfU (M 1 8) (M 13) (jclC M) (jdy (M 1 8) (M 2 3) (M 16) (M 17) (M 13) (M 14) (M 11) (jclC M) 200)) (M 20) (M 2 3).toNat (fun _ => -1) = some rm → jfA (M 1 8) (M 13) (jclC M) (jdy (M 1 8) (M 2 3) (M 16) (M 17) (M 13) (M 14) (M 11) (jclC M) 200) v < 0 → ∀ N, jFC M N → Q (some (.long (jL (-9000000000000000005)))) N) (h1 : 0 ≤ v → v < M 2 3 → ∀ rm, jgr (M 2 3) (M 18) (jfA (M 1 8) (M 13) (jclC M) (jdy (M 1 8) (M 2 3) (M 16) (M 17) (M 13) (M 14) (M 11) (jclC M) 200)) (jfU (M 1 8) (M 13) (jclC M) (jdy (M 1 8) (M 2 3) (M 16) (M 17) (M 13) (M 14) (M 11) (jclC M) 200)) (M 20) (M 2 3).toNat (fun _ => -1) = some rm → 0 ≤ jfA (M 1 8) (M 13) (jclC M) (jdy (M 1 8) (M 2 3) (M 16) (M 17) (M 13) (M 14) (M 11) (jclC M) 200) v → ∀ N, jFC M N → Q (some (.long (jL (rm v)))) N) : jN G mX7_room (d + 13) [.ref (jad G 0), .int (jI v)] M Q := by
  show jM G mX7_room (d + 13) 0 [.ref (jad G 0), .int (jI v)] [] M Q
  have hz := jn1 hI
  generalize hσ : jdy (M 1 8) (M 2 3) (M 16) (M 17) (M 13) (M 14) (M 11) (jclC M) 200 = σ at hN h0 h1
  refine jr_aload_n (n := 1) dX7_room_0 rfl rfl ?_
  refine jr_getR (n := 4) dX7_room_1 rfl fX7_19 rfl (by decide) (by decide) rfl ?_
  refine jr_iload_n (n := 5) dX7_room_4 rfl rfl ?_
  refine jr_cV1 (n := 8) (ci := 4) (ν := mX4_has) dX7_room_5 rfl lX7_89 kX4_has iX4_has rfl ⟨_, rfl, rfl⟩ (by decide) (Nat.le_of_ble_eq_true rfl) (Nat.le_of_ble_eq_true rfl) rfl ?_
  refine c_hasW (by omega) (by omega) (fun b5 b5b => ?_) (fun b5 => ?_)
  · refine jr_ifT_ne (t := 15) dX7_room_8 (by decide) (by decide) (by decide) ?_
    refine jr_aload_n (n := 16) dX7_room_15 rfl rfl ?_
    refine jr_getR (n := 19) dX7_room_16 rfl fX7_33 rfl (by decide) (by decide) rfl ?_
    refine jr_aload_n (n := 20) dX7_room_19 rfl rfl ?_
    refine jr_getR (n := 23) dX7_room_20 rfl fX7_10 rfl (by decide) (by decide) rfl ?_
    refine jr_cV1 (n := 26) (ci := 1) (ν := mX1_run) dX7_room_23 rfl lX7_171 kX1_run iX1_run rfl ⟨_, rfl, rfl⟩ (by decide) (Nat.le_of_ble_eq_true rfl) (Nat.le_of_ble_eq_true rfl) rfl ?_
    refine c_run hI (fun N hD => ?_)
    rw [hσ] at hD
    have hV := jIv_dy (cl := jclC M) (jSD_of hI) 200 (by omega)
    rw [hσ] at hV
    refine jr_aload_n (n := 27) dX7_room_26 rfl rfl ?_
    refine jr_getR (n := 30) dX7_room_27 rfl fX7_40 rfl (by decide) (by decide) rfl ?_
    refine jr_aload_n (n := 31) dX7_room_30 rfl rfl ?_
    refine jr_getR (n := 34) dX7_room_31 rfl fX7_19 rfl (by decide) (by decide) rfl ?_
    refine jr_aload_n (n := 35) dX7_room_34 rfl rfl ?_
    refine jr_getR (n := 38) dX7_room_35 rfl fX7_10 rfl (by decide) (by decide) rfl ?_
    refine jr_aload_n (n := 39) dX7_room_38 rfl rfl ?_
    refine jr_getR (n := 42) dX7_room_39 rfl fX7_33 rfl (by decide) (by decide) rfl ?_
    refine jr_cV3 (n := 45) (ci := 5) (ν := mX5_give) dX7_room_42 rfl lX7_210 kX5_give iX5_give rfl ⟨_, rfl, rfl⟩ (by decide) (Nat.le_of_ble_eq_true rfl) (Nat.le_of_ble_eq_true rfl) rfl ?_
    refine c_give hI hD hV (fun rm N' hg hN' hr => ?_) (fun N' hg hN' => ?_)
    · refine jr_ifT_ne (t := 52) dX7_room_45 (by decide) (by decide) (by decide) ?_
      have hrv := hr v (by omega) (by omega)
      have hai := jfA_iff hz.1.1 hV (jclC_0 hI) v
      have hcase : (0 ≤ jfA (M 1 8) (M 13) (jclC M) σ v ∧ N' 28 v = rm v ∧ 0 ≤ rm v ∧ rm v < 3) ∨ (jfA (M 1 8) (M 13) (jclC M) σ v < 0 ∧ N' 28 v = -1) := by
        by_cases q : 0 ≤ jfA (M 1 8) (M 13) (jclC M) σ v
        · have := hrv.1; rw [if_pos q] at this; exact Or.inl ⟨q, this, hrv.2 q⟩
        · have := hrv.1; rw [if_neg q] at this; exact Or.inr ⟨by omega, this⟩
      refine jr_aload_n (n := 53) dX7_room_52 rfl rfl ?_
      refine jr_getR (n := 56) dX7_room_53 rfl fX7_40 rfl (by decide) (by decide) rfl ?_
      refine jr_getR (n := 59) dX7_room_56 rfl fX7_214 rfl (by decide) (by decide) rfl ?_
      refine jr_iload_n (n := 60) dX7_room_59 rfl rfl ?_
      refine jr_iald (n := 61) dX7_room_60 rfl rfl (by decide) (by omega) (by omega) ?_
      refine jr_iconst (n := 62) dX7_room_61 rfl ?_
      refine jr_icmp_ne (n := 65) (t := 71) dX7_room_62 (by decide) rfl (by omega) (by omega) (fun b62 => ?_) (fun b62 => ?_)
      · refine jr_aload_n (n := 72) dX7_room_71 rfl rfl ?_
        refine jr_getR (n := 75) dX7_room_72 rfl fX7_40 rfl (by decide) (by decide) rfl ?_
        refine jr_getR (n := 78) dX7_room_75 rfl fX7_214 rfl (by decide) (by decide) rfl ?_
        refine jr_iload_n (n := 79) dX7_room_78 rfl rfl ?_
        refine jr_iald (n := 80) dX7_room_79 rfl rfl (by decide) (by omega) (by omega) ?_
        refine jr_i2l (n := 81) dX7_room_80 rfl (by omega) ?_
        refine jr_lret dX7_room_81 rfl ?_
        first
          | exact hN (by omega) (by omega) hg N' hN'
          | exact h0 (by omega) (by omega) rm hg (by omega) N' hN'
          | (have k9 := h1 (by omega) (by omega) rm hg (by omega) N' hN'
             rw [show rm v = N' 28 v by omega] at k9; exact k9)
      · refine jr_ldc2 (n := 68) dX7_room_65 rfl rfl qX7_130 vX7_130 ?_
        refine jr_goto (t := 81) dX7_room_68 (by decide) ?_
        refine jr_lret dX7_room_81 rfl ?_
        first
          | exact hN (by omega) (by omega) hg N' hN'
          | exact h0 (by omega) (by omega) rm hg (by omega) N' hN'
          | (have k9 := h1 (by omega) (by omega) rm hg (by omega) N' hN'
             rw [show rm v = N' 28 v by omega] at k9; exact k9)
    · refine jr_ifF_ne (n := 48) (t := 52) dX7_room_45 rfl (by decide) (by decide) (by decide) ?_
      refine jr_ldc2 (n := 51) dX7_room_48 rfl rfl qX7_166 vX7_166 ?_
      refine jr_lret dX7_room_51 rfl ?_
      first
        | exact hN (by omega) (by omega) hg N' hN'
        | exact h0 (by omega) (by omega) rm hg (by omega) N' hN'
        | (have k9 := h1 (by omega) (by omega) rm hg (by omega) N' hN'
           rw [show rm v = N' 28 v by omega] at k9; exact k9)
  · refine jr_ifF_ne (n := 11) (t := 15) dX7_room_8 rfl (by decide) (by decide) (by decide) ?_
    refine jr_ldc2 (n := 14) dX7_room_11 rfl rfl qX7_70 vX7_70 ?_
    refine jr_lret dX7_room_14 rfl ?_
    exact hB (by omega)

theorem e_span_l {G : jG} {d : Nat} {M : jMem} {Q : Option Value → jMem → Prop} (hI : jO M) {N : jMem} {σ : jS} {v s m : Int} (hN : jFE M N) (hb : ∀ k, 0 ≤ k → k < M 8 2 → N 57 k = σ.1 k) (hV : jIv (M 8 2) (M 39) (M 38) (M 43) s m σ) (hv : 0 ≤ v ∧ v < 10) (h : ∀ N', (∀ a, a ≠ 61 → a ≠ 62 → N' a = N a) → (∀ u, u ≠ v → N' 61 u = N 61 u ∧ N' 62 u = N 62 u) → N' 61 v = jfA (M 8 2) (M 43) (jclE M) σ v → N' 62 v = jfU (M 8 2) (M 43) (jclE M) σ v → Q none N')  : ∀ (f : Nat) (i : Int) (N' : jMem), 0 ≤ i → i ≤ M 8 2 → (∀ a, a ≠ 61 → a ≠ 62 → N' a = N a) → (∀ u, u ≠ v → N' 61 u = N 61 u ∧ N' 62 u = N 62 u) → N' 61 v = (if jla (M 43) σ v i.toNat = -1 then -1 else jfr (M 43) (jclE M) v i.toNat) → N' 62 v = jla (M 43) σ v i.toNat → M 8 2 - i < f → jM G mX8_span (d + 1) 16 [.ref (jad G 8), .int (jI v), .int (jI i), .null, .null] [] (N') Q := by
  intro f
  induction f with
  | zero =>
    intro i N' i0 i1 ha ho h61 h62 hf
    exact absurd hf (by omega)
  | succ f ih =>
    intro i N' i0 i1 ha ho h61 h62 hf
    have hs := jn1 hI
    have f1 := jfr_b (ne := M 43) (v := v) (jclE_0 hI) i.toNat
    have f2 := jla_b hV (v := v) i.toNat (by omega)
    have f3 := jla_none (cl := jclE M) hV (v := v) i.toNat (by omega)
    have n8 : N' 8 2 = M 8 2 := by rw [ha 8 (by decide) (by decide)]; exact hN.2 2 (by decide)
    have n43 : N' 43 = M 43 := (ha 43 (by decide) (by decide)).trans (hN.1 43 (by decide) (by decide))
    have n48 : N' 48 = M 48 := (ha 48 (by decide) (by decide)).trans (hN.1 48 (by decide) (by decide))
    have r61 : -1 ≤ N' 61 v ∧ N' 61 v ≤ 200 := by rw [h61]; split <;> omega
    have r62 : -1 ≤ N' 62 v ∧ N' 62 v ≤ 200 := by rw [h62]; omega
    have c61 : (jla (M 43) σ v i.toNat = -1 ∧ N' 61 v = -1) ∨ (jla (M 43) σ v i.toNat ≠ -1 ∧ N' 61 v = jfr (M 43) (jclE M) v i.toNat) := by
      by_cases q : jla (M 43) σ v i.toNat = -1
      · rw [if_pos q] at h61; exact Or.inl ⟨q, h61⟩
      · rw [if_neg q] at h61; exact Or.inr ⟨q, h61⟩
    refine jr_iload_n (n := 17) dX8_span_16 rfl rfl ?_
    refine jr_aload_n (n := 18) dX8_span_17 rfl rfl ?_
    refine jr_getI (n := 21) (i := 2) rfl dX8_span_18 rfl fX8_96 rfl (by decide) (by decide) rfl ?_
    rw [n8]
    refine jr_icmp_ge (n := 24) (t := 140) dX8_span_21 (by decide) rfl (by omega) (by omega) (fun b21 => ?_) (fun b21 => ?_)
    · refine jr_aload_n (n := 141) dX8_span_140 rfl rfl ?_
      refine jr_getR (n := 144) dX8_span_141 rfl fX8_83 rfl (by decide) (by decide) rfl ?_
      refine jr_iload_n (n := 145) dX8_span_144 rfl rfl ?_
      refine jr_aload_n (n := 146) dX8_span_145 rfl rfl ?_
      refine jr_getR (n := 149) dX8_span_146 rfl fX8_83 rfl (by decide) (by decide) rfl ?_
      refine jr_iload_n (n := 150) dX8_span_149 rfl rfl ?_
      refine jr_iald (n := 151) dX8_span_150 rfl rfl (by decide) (by omega) (by omega) ?_
      refine jr_aload_n (n := 152) dX8_span_151 rfl rfl ?_
      refine jr_getR (n := 155) dX8_span_152 rfl fX8_80 rfl (by decide) (by decide) rfl ?_
      refine jr_iload_n (n := 156) dX8_span_155 rfl rfl ?_
      refine jr_iald (n := 157) dX8_span_156 rfl rfl (by decide) (by omega) (by omega) ?_
      refine jr_icmp_ge (n := 160) (t := 169) dX8_span_157 (by decide) rfl (by omega) (by omega) (fun b157 => ?_) (fun b157 => ?_)
      · refine jr_aload_n (n := 170) dX8_span_169 rfl rfl ?_
        refine jr_getR (n := 173) dX8_span_170 rfl fX8_83 rfl (by decide) (by decide) rfl ?_
        refine jr_iload_n (n := 174) dX8_span_173 rfl rfl ?_
        refine jr_iald (n := 175) dX8_span_174 rfl rfl (by decide) (by omega) (by omega) ?_
        refine jr_iast (n := 176) dX8_span_175 rfl rfl (by decide) (by omega) (by omega) ?_
        refine jr_vret dX8_span_176 rfl ?_
        have e : i = M 8 2 := by omega
        subst e
        refine h _ (fun a q1 q2 => by rw [← ha a q1 q2]; funext b; exact jup_ne q2 b) (fun u q => by rw [jup_ne (show (61 : Nat) ≠ 62 by decide), jup_off q]; exact ho u q) ?_ ?_
        · rw [jup_ne (show (61 : Nat) ≠ 62 by decide)]
          unfold jfA
          exact h61
        · rw [jup_at]
          unfold jfU
          by_cases q : jla (M 43) σ v (M 8 2).toNat = -1
          · rw [if_pos q]; omega
          · rw [if_neg q]; omega
      · refine jr_aload_n (n := 161) dX8_span_160 rfl rfl ?_
        refine jr_getR (n := 164) dX8_span_161 rfl fX8_80 rfl (by decide) (by decide) rfl ?_
        refine jr_iload_n (n := 165) dX8_span_164 rfl rfl ?_
        refine jr_iald (n := 166) dX8_span_165 rfl rfl (by decide) (by omega) (by omega) ?_
        refine jr_goto (t := 175) dX8_span_166 (by decide) ?_
        refine jr_iast (n := 176) dX8_span_175 rfl rfl (by decide) (by omega) (by omega) ?_
        refine jr_vret dX8_span_176 rfl ?_
        have e : i = M 8 2 := by omega
        subst e
        refine h _ (fun a q1 q2 => by rw [← ha a q1 q2]; funext b; exact jup_ne q2 b) (fun u q => by rw [jup_ne (show (61 : Nat) ≠ 62 by decide), jup_off q]; exact ho u q) ?_ ?_
        · rw [jup_ne (show (61 : Nat) ≠ 62 by decide)]
          unfold jfA
          exact h61
        · rw [jup_at]
          unfold jfU
          by_cases q : jla (M 43) σ v (M 8 2).toNat = -1
          · rw [if_pos q]; omega
          · rw [if_neg q]; omega
    · refine jr_aload_n (n := 25) dX8_span_24 rfl rfl ?_
      refine jr_iload_n (n := 26) dX8_span_25 rfl rfl ?_
      refine jr_iload_n (n := 27) dX8_span_26 rfl rfl ?_
      refine jr_cV2 (n := 30) (ci := 8) (ν := mX8_needs1) dX8_span_27 rfl lX8_121 kX8_needs1 iX8_needs1 rfl ⟨_, rfl, rfl⟩ (by decide) (Nat.le_of_ble_eq_true rfl) (Nat.le_of_ble_eq_true rfl) rfl ?_
      refine e_needs1 (by omega) (fun b27 => ?_) (fun b27 => ?_)
      all_goals rw [n43] at b27
      · refine jr_ifT_ne (t := 36) dX8_span_30 (by decide) (by decide) (by decide) ?_
        have hq : N' 57 i = σ.1 i := by rw [ha 57 (by decide) (by decide)]; exact hb i i0 (by omega)
        have hq2 := hV.2.1 i i0 (by omega)
        have hcl := jclE_at (M := M) (k := i) (v := v) (by omega) hv b27
        have hca := jclE_0 hI i v
        refine jr_aload_n (n := 37) dX8_span_36 rfl rfl ?_
        refine jr_getR (n := 40) dX8_span_37 rfl fX8_40 rfl (by decide) (by decide) rfl ?_
        refine jr_bipush (n := 42) dX8_span_40 rfl (by decide) ?_
        refine jr_iload_n (n := 43) dX8_span_42 rfl rfl ?_
        refine jr_imul (n := 44) dX8_span_43 rfl ?_
        refine jr_iload_n (n := 45) dX8_span_44 rfl rfl ?_
        refine jr_iadd (n := 46) dX8_span_45 rfl ?_
        refine jr_iald (n := 47) dX8_span_46 rfl rfl (by decide) (by omega) (by omega) ?_
        rw [n48, ← hcl]
        refine jr_istore3 (n := 48) dX8_span_47 rfl (by decide) rfl ?_
        refine jr_aload_n (n := 49) dX8_span_48 rfl rfl ?_
        refine jr_getR (n := 52) dX8_span_49 rfl fX8_68 rfl (by decide) (by decide) rfl ?_
        refine jr_iload_n (n := 53) dX8_span_52 rfl rfl ?_
        refine jr_iald (n := 54) dX8_span_53 rfl rfl (by decide) (by omega) (by omega) ?_
        rw [hq]
        refine jr_if_ge (n := 57) (t := 63) dX8_span_54 (by decide) rfl (by omega) (fun b54 => ?_) (fun b54 => ?_)
        · refine jr_aload_n (n := 64) dX8_span_63 rfl rfl ?_
          refine jr_getR (n := 67) dX8_span_64 rfl fX8_68 rfl (by decide) (by decide) rfl ?_
          refine jr_iload_n (n := 68) dX8_span_67 rfl rfl ?_
          refine jr_iald (n := 69) dX8_span_68 rfl rfl (by decide) (by omega) (by omega) ?_
          rw [hq]
          refine jr_istore4 (n := 71) dX8_span_69 rfl (by decide) rfl ?_
          refine jr_aload_n (n := 72) dX8_span_71 rfl rfl ?_
          refine jr_getR (n := 75) dX8_span_72 rfl fX8_80 rfl (by decide) (by decide) rfl ?_
          refine jr_iload_n (n := 76) dX8_span_75 rfl rfl ?_
          refine jr_aload_n (n := 77) dX8_span_76 rfl rfl ?_
          refine jr_getR (n := 80) dX8_span_77 rfl fX8_80 rfl (by decide) (by decide) rfl ?_
          refine jr_iload_n (n := 81) dX8_span_80 rfl rfl ?_
          refine jr_iald (n := 82) dX8_span_81 rfl rfl (by decide) (by omega) (by omega) ?_
          refine jr_if_lt (n := 85) (t := 95) dX8_span_82 (by decide) rfl (by omega) (fun b82 => ?_) (fun b82 => ?_)
          · refine jr_iload_n (n := 96) dX8_span_95 rfl rfl ?_
            refine jr_goto (t := 105) dX8_span_96 (by decide) ?_
            refine jr_iast (n := 106) dX8_span_105 rfl rfl (by decide) (by omega) (by omega) ?_
            refine jr_aload_n (n := 107) dX8_span_106 rfl rfl ?_
            refine jr_getR (n := 110) dX8_span_107 rfl fX8_83 rfl (by decide) (by decide) rfl ?_
            refine jr_iload_n (n := 111) dX8_span_110 rfl rfl ?_
            refine jr_iload (n := 113) dX8_span_111 rfl rfl ?_
            refine jr_aload_n (n := 114) dX8_span_113 rfl rfl ?_
            refine jr_getR (n := 117) dX8_span_114 rfl fX8_83 rfl (by decide) (by decide) rfl ?_
            refine jr_iload_n (n := 118) dX8_span_117 rfl rfl ?_
            refine jr_iald (n := 119) dX8_span_118 rfl rfl (by decide) (by omega) (by omega) ?_
            rw [jup_ne (show (62 : Nat) ≠ 61 by decide)]
            refine jr_icmp_le (n := 122) (t := 127) dX8_span_119 (by decide) rfl (by omega) (by omega) (fun b119 => ?_) (fun b119 => ?_)
            · refine jr_aload_n (n := 128) dX8_span_127 rfl rfl ?_
              refine jr_getR (n := 131) dX8_span_128 rfl fX8_83 rfl (by decide) (by decide) rfl ?_
              refine jr_iload_n (n := 132) dX8_span_131 rfl rfl ?_
              refine jr_iald (n := 133) dX8_span_132 rfl rfl (by decide) (by omega) (by omega) ?_
              rw [jup_ne (show (62 : Nat) ≠ 61 by decide)]
              refine jr_iast (n := 134) dX8_span_133 rfl rfl (by decide) (by omega) (by omega) ?_
              refine jr_iinc2 (n := 137) dX8_span_134 rfl (by decide) rfl ?_
              refine jr_goto (t := 16) dX8_span_137 (by decide) ?_
              have e1 := jfr_s (M 43) (jclE M) v i0
              have e2 := jla_s (M 43) σ v i0
              first
                | (rw [if_neg b27] at e1 e2
                   exact jr_drop (ih (i + 1) N' (by omega) (by omega) ha ho (by rw [e1, e2]; exact h61) (by rw [e2]; exact h62) (by omega)) ⟨Or.inr rfl, Or.inr rfl, Or.inr rfl, Or.inl rfl, Or.inl rfl, trivial⟩)
                | (rw [if_pos b27] at e1 e2
                   have hto : jto σ i = 200 ∨ jto σ i = σ.1 i := by unfold jto; split <;> simp
                   have hto2 : (σ.1 i = -1 → jto σ i = 200) ∧ (σ.1 i ≠ -1 → jto σ i = σ.1 i) := ⟨fun q => if_pos q, fun q => if_neg q⟩
                   refine jr_drop (ih (i + 1) _ (by omega) (by omega) (fun a q1 q2 => by rw [← ha a q1 q2]; funext b; rw [jup_ne q2, jup_ne q1]) (fun u q => by rw [jup_ne (show (61 : Nat) ≠ 62 by decide), jup_off q, jup_off q, jup_ne (show (62 : Nat) ≠ 61 by decide)]; exact ho u q) ?_ ?_ (by omega)) ⟨Or.inr rfl, Or.inr rfl, Or.inr rfl, Or.inl rfl, Or.inl rfl, trivial⟩
                   · rw [jup_ne (show (61 : Nat) ≠ 62 by decide), jup_at, e1, e2, if_neg (by omega)]
                     omega
                   · rw [jup_at, e2]
                     omega)
            · refine jr_iload (n := 124) dX8_span_122 rfl rfl ?_
              refine jr_goto (t := 133) dX8_span_124 (by decide) ?_
              refine jr_iast (n := 134) dX8_span_133 rfl rfl (by decide) (by omega) (by omega) ?_
              refine jr_iinc2 (n := 137) dX8_span_134 rfl (by decide) rfl ?_
              refine jr_goto (t := 16) dX8_span_137 (by decide) ?_
              have e1 := jfr_s (M 43) (jclE M) v i0
              have e2 := jla_s (M 43) σ v i0
              first
                | (rw [if_neg b27] at e1 e2
                   exact jr_drop (ih (i + 1) N' (by omega) (by omega) ha ho (by rw [e1, e2]; exact h61) (by rw [e2]; exact h62) (by omega)) ⟨Or.inr rfl, Or.inr rfl, Or.inr rfl, Or.inl rfl, Or.inl rfl, trivial⟩)
                | (rw [if_pos b27] at e1 e2
                   have hto : jto σ i = 200 ∨ jto σ i = σ.1 i := by unfold jto; split <;> simp
                   have hto2 : (σ.1 i = -1 → jto σ i = 200) ∧ (σ.1 i ≠ -1 → jto σ i = σ.1 i) := ⟨fun q => if_pos q, fun q => if_neg q⟩
                   refine jr_drop (ih (i + 1) _ (by omega) (by omega) (fun a q1 q2 => by rw [← ha a q1 q2]; funext b; rw [jup_ne q2, jup_ne q1]) (fun u q => by rw [jup_ne (show (61 : Nat) ≠ 62 by decide), jup_off q, jup_off q, jup_ne (show (62 : Nat) ≠ 61 by decide)]; exact ho u q) ?_ ?_ (by omega)) ⟨Or.inr rfl, Or.inr rfl, Or.inr rfl, Or.inl rfl, Or.inl rfl, trivial⟩
                   · rw [jup_ne (show (61 : Nat) ≠ 62 by decide), jup_at, e1, e2, if_neg (by omega)]
                     omega
                   · rw [jup_at, e2]
                     omega)
          · refine jr_iload_n (n := 86) dX8_span_85 rfl rfl ?_
            refine jr_aload_n (n := 87) dX8_span_86 rfl rfl ?_
            refine jr_getR (n := 90) dX8_span_87 rfl fX8_80 rfl (by decide) (by decide) rfl ?_
            refine jr_iload_n (n := 91) dX8_span_90 rfl rfl ?_
            refine jr_iald (n := 92) dX8_span_91 rfl rfl (by decide) (by omega) (by omega) ?_
            refine jr_icmp_ge (n := 95) (t := 99) dX8_span_92 (by decide) rfl (by omega) (by omega) (fun b92 => ?_) (fun b92 => ?_)
            · refine jr_aload_n (n := 100) dX8_span_99 rfl rfl ?_
              refine jr_getR (n := 103) dX8_span_100 rfl fX8_80 rfl (by decide) (by decide) rfl ?_
              refine jr_iload_n (n := 104) dX8_span_103 rfl rfl ?_
              refine jr_iald (n := 105) dX8_span_104 rfl rfl (by decide) (by omega) (by omega) ?_
              refine jr_iast (n := 106) dX8_span_105 rfl rfl (by decide) (by omega) (by omega) ?_
              refine jr_aload_n (n := 107) dX8_span_106 rfl rfl ?_
              refine jr_getR (n := 110) dX8_span_107 rfl fX8_83 rfl (by decide) (by decide) rfl ?_
              refine jr_iload_n (n := 111) dX8_span_110 rfl rfl ?_
              refine jr_iload (n := 113) dX8_span_111 rfl rfl ?_
              refine jr_aload_n (n := 114) dX8_span_113 rfl rfl ?_
              refine jr_getR (n := 117) dX8_span_114 rfl fX8_83 rfl (by decide) (by decide) rfl ?_
              refine jr_iload_n (n := 118) dX8_span_117 rfl rfl ?_
              refine jr_iald (n := 119) dX8_span_118 rfl rfl (by decide) (by omega) (by omega) ?_
              rw [jup_ne (show (62 : Nat) ≠ 61 by decide)]
              refine jr_icmp_le (n := 122) (t := 127) dX8_span_119 (by decide) rfl (by omega) (by omega) (fun b119 => ?_) (fun b119 => ?_)
              · refine jr_aload_n (n := 128) dX8_span_127 rfl rfl ?_
                refine jr_getR (n := 131) dX8_span_128 rfl fX8_83 rfl (by decide) (by decide) rfl ?_
                refine jr_iload_n (n := 132) dX8_span_131 rfl rfl ?_
                refine jr_iald (n := 133) dX8_span_132 rfl rfl (by decide) (by omega) (by omega) ?_
                rw [jup_ne (show (62 : Nat) ≠ 61 by decide)]
                refine jr_iast (n := 134) dX8_span_133 rfl rfl (by decide) (by omega) (by omega) ?_
                refine jr_iinc2 (n := 137) dX8_span_134 rfl (by decide) rfl ?_
                refine jr_goto (t := 16) dX8_span_137 (by decide) ?_
                have e1 := jfr_s (M 43) (jclE M) v i0
                have e2 := jla_s (M 43) σ v i0
                first
                  | (rw [if_neg b27] at e1 e2
                     exact jr_drop (ih (i + 1) N' (by omega) (by omega) ha ho (by rw [e1, e2]; exact h61) (by rw [e2]; exact h62) (by omega)) ⟨Or.inr rfl, Or.inr rfl, Or.inr rfl, Or.inl rfl, Or.inl rfl, trivial⟩)
                  | (rw [if_pos b27] at e1 e2
                     have hto : jto σ i = 200 ∨ jto σ i = σ.1 i := by unfold jto; split <;> simp
                     have hto2 : (σ.1 i = -1 → jto σ i = 200) ∧ (σ.1 i ≠ -1 → jto σ i = σ.1 i) := ⟨fun q => if_pos q, fun q => if_neg q⟩
                     refine jr_drop (ih (i + 1) _ (by omega) (by omega) (fun a q1 q2 => by rw [← ha a q1 q2]; funext b; rw [jup_ne q2, jup_ne q1]) (fun u q => by rw [jup_ne (show (61 : Nat) ≠ 62 by decide), jup_off q, jup_off q, jup_ne (show (62 : Nat) ≠ 61 by decide)]; exact ho u q) ?_ ?_ (by omega)) ⟨Or.inr rfl, Or.inr rfl, Or.inr rfl, Or.inl rfl, Or.inl rfl, trivial⟩
                     · rw [jup_ne (show (61 : Nat) ≠ 62 by decide), jup_at, e1, e2, if_neg (by omega)]
                       omega
                     · rw [jup_at, e2]
                       omega)
              · refine jr_iload (n := 124) dX8_span_122 rfl rfl ?_
                refine jr_goto (t := 133) dX8_span_124 (by decide) ?_
                refine jr_iast (n := 134) dX8_span_133 rfl rfl (by decide) (by omega) (by omega) ?_
                refine jr_iinc2 (n := 137) dX8_span_134 rfl (by decide) rfl ?_
                refine jr_goto (t := 16) dX8_span_137 (by decide) ?_
                have e1 := jfr_s (M 43) (jclE M) v i0
                have e2 := jla_s (M 43) σ v i0
                first
                  | (rw [if_neg b27] at e1 e2
                     exact jr_drop (ih (i + 1) N' (by omega) (by omega) ha ho (by rw [e1, e2]; exact h61) (by rw [e2]; exact h62) (by omega)) ⟨Or.inr rfl, Or.inr rfl, Or.inr rfl, Or.inl rfl, Or.inl rfl, trivial⟩)
                  | (rw [if_pos b27] at e1 e2
                     have hto : jto σ i = 200 ∨ jto σ i = σ.1 i := by unfold jto; split <;> simp
                     have hto2 : (σ.1 i = -1 → jto σ i = 200) ∧ (σ.1 i ≠ -1 → jto σ i = σ.1 i) := ⟨fun q => if_pos q, fun q => if_neg q⟩
                     refine jr_drop (ih (i + 1) _ (by omega) (by omega) (fun a q1 q2 => by rw [← ha a q1 q2]; funext b; rw [jup_ne q2, jup_ne q1]) (fun u q => by rw [jup_ne (show (61 : Nat) ≠ 62 by decide), jup_off q, jup_off q, jup_ne (show (62 : Nat) ≠ 61 by decide)]; exact ho u q) ?_ ?_ (by omega)) ⟨Or.inr rfl, Or.inr rfl, Or.inr rfl, Or.inl rfl, Or.inl rfl, trivial⟩
                     · rw [jup_ne (show (61 : Nat) ≠ 62 by decide), jup_at, e1, e2, if_neg (by omega)]
                       omega
                     · rw [jup_at, e2]
                       omega)
            · refine jr_iload_n (n := 96) dX8_span_95 rfl rfl ?_
              refine jr_goto (t := 105) dX8_span_96 (by decide) ?_
              refine jr_iast (n := 106) dX8_span_105 rfl rfl (by decide) (by omega) (by omega) ?_
              refine jr_aload_n (n := 107) dX8_span_106 rfl rfl ?_
              refine jr_getR (n := 110) dX8_span_107 rfl fX8_83 rfl (by decide) (by decide) rfl ?_
              refine jr_iload_n (n := 111) dX8_span_110 rfl rfl ?_
              refine jr_iload (n := 113) dX8_span_111 rfl rfl ?_
              refine jr_aload_n (n := 114) dX8_span_113 rfl rfl ?_
              refine jr_getR (n := 117) dX8_span_114 rfl fX8_83 rfl (by decide) (by decide) rfl ?_
              refine jr_iload_n (n := 118) dX8_span_117 rfl rfl ?_
              refine jr_iald (n := 119) dX8_span_118 rfl rfl (by decide) (by omega) (by omega) ?_
              rw [jup_ne (show (62 : Nat) ≠ 61 by decide)]
              refine jr_icmp_le (n := 122) (t := 127) dX8_span_119 (by decide) rfl (by omega) (by omega) (fun b119 => ?_) (fun b119 => ?_)
              · refine jr_aload_n (n := 128) dX8_span_127 rfl rfl ?_
                refine jr_getR (n := 131) dX8_span_128 rfl fX8_83 rfl (by decide) (by decide) rfl ?_
                refine jr_iload_n (n := 132) dX8_span_131 rfl rfl ?_
                refine jr_iald (n := 133) dX8_span_132 rfl rfl (by decide) (by omega) (by omega) ?_
                rw [jup_ne (show (62 : Nat) ≠ 61 by decide)]
                refine jr_iast (n := 134) dX8_span_133 rfl rfl (by decide) (by omega) (by omega) ?_
                refine jr_iinc2 (n := 137) dX8_span_134 rfl (by decide) rfl ?_
                refine jr_goto (t := 16) dX8_span_137 (by decide) ?_
                have e1 := jfr_s (M 43) (jclE M) v i0
                have e2 := jla_s (M 43) σ v i0
                first
                  | (rw [if_neg b27] at e1 e2
                     exact jr_drop (ih (i + 1) N' (by omega) (by omega) ha ho (by rw [e1, e2]; exact h61) (by rw [e2]; exact h62) (by omega)) ⟨Or.inr rfl, Or.inr rfl, Or.inr rfl, Or.inl rfl, Or.inl rfl, trivial⟩)
                  | (rw [if_pos b27] at e1 e2
                     have hto : jto σ i = 200 ∨ jto σ i = σ.1 i := by unfold jto; split <;> simp
                     have hto2 : (σ.1 i = -1 → jto σ i = 200) ∧ (σ.1 i ≠ -1 → jto σ i = σ.1 i) := ⟨fun q => if_pos q, fun q => if_neg q⟩
                     refine jr_drop (ih (i + 1) _ (by omega) (by omega) (fun a q1 q2 => by rw [← ha a q1 q2]; funext b; rw [jup_ne q2, jup_ne q1]) (fun u q => by rw [jup_ne (show (61 : Nat) ≠ 62 by decide), jup_off q, jup_off q, jup_ne (show (62 : Nat) ≠ 61 by decide)]; exact ho u q) ?_ ?_ (by omega)) ⟨Or.inr rfl, Or.inr rfl, Or.inr rfl, Or.inl rfl, Or.inl rfl, trivial⟩
                     · rw [jup_ne (show (61 : Nat) ≠ 62 by decide), jup_at, e1, e2, if_neg (by omega)]
                       omega
                     · rw [jup_at, e2]
                       omega)
              · refine jr_iload (n := 124) dX8_span_122 rfl rfl ?_
                refine jr_goto (t := 133) dX8_span_124 (by decide) ?_
                refine jr_iast (n := 134) dX8_span_133 rfl rfl (by decide) (by omega) (by omega) ?_
                refine jr_iinc2 (n := 137) dX8_span_134 rfl (by decide) rfl ?_
                refine jr_goto (t := 16) dX8_span_137 (by decide) ?_
                have e1 := jfr_s (M 43) (jclE M) v i0
                have e2 := jla_s (M 43) σ v i0
                first
                  | (rw [if_neg b27] at e1 e2
                     exact jr_drop (ih (i + 1) N' (by omega) (by omega) ha ho (by rw [e1, e2]; exact h61) (by rw [e2]; exact h62) (by omega)) ⟨Or.inr rfl, Or.inr rfl, Or.inr rfl, Or.inl rfl, Or.inl rfl, trivial⟩)
                  | (rw [if_pos b27] at e1 e2
                     have hto : jto σ i = 200 ∨ jto σ i = σ.1 i := by unfold jto; split <;> simp
                     have hto2 : (σ.1 i = -1 → jto σ i = 200) ∧ (σ.1 i ≠ -1 → jto σ i = σ.1 i) := ⟨fun q => if_pos q, fun q => if_neg q⟩
                     refine jr_drop (ih (i + 1) _ (by omega) (by omega) (fun a q1 q2 => by rw [← ha a q1 q2]; funext b; rw [jup_ne q2, jup_ne q1]) (fun u q => by rw [jup_ne (show (61 : Nat) ≠ 62 by decide), jup_off q, jup_off q, jup_ne (show (62 : Nat) ≠ 61 by decide)]; exact ho u q) ?_ ?_ (by omega)) ⟨Or.inr rfl, Or.inr rfl, Or.inr rfl, Or.inl rfl, Or.inl rfl, trivial⟩
                     · rw [jup_ne (show (61 : Nat) ≠ 62 by decide), jup_at, e1, e2, if_neg (by omega)]
                       omega
                     · rw [jup_at, e2]
                       omega)
        · refine jr_sipush (n := 60) dX8_span_57 rfl (by decide) ?_
          refine jr_goto (t := 69) dX8_span_60 (by decide) ?_
          refine jr_istore4 (n := 71) dX8_span_69 rfl (by decide) rfl ?_
          refine jr_aload_n (n := 72) dX8_span_71 rfl rfl ?_
          refine jr_getR (n := 75) dX8_span_72 rfl fX8_80 rfl (by decide) (by decide) rfl ?_
          refine jr_iload_n (n := 76) dX8_span_75 rfl rfl ?_
          refine jr_aload_n (n := 77) dX8_span_76 rfl rfl ?_
          refine jr_getR (n := 80) dX8_span_77 rfl fX8_80 rfl (by decide) (by decide) rfl ?_
          refine jr_iload_n (n := 81) dX8_span_80 rfl rfl ?_
          refine jr_iald (n := 82) dX8_span_81 rfl rfl (by decide) (by omega) (by omega) ?_
          refine jr_if_lt (n := 85) (t := 95) dX8_span_82 (by decide) rfl (by omega) (fun b82 => ?_) (fun b82 => ?_)
          · refine jr_iload_n (n := 96) dX8_span_95 rfl rfl ?_
            refine jr_goto (t := 105) dX8_span_96 (by decide) ?_
            refine jr_iast (n := 106) dX8_span_105 rfl rfl (by decide) (by omega) (by omega) ?_
            refine jr_aload_n (n := 107) dX8_span_106 rfl rfl ?_
            refine jr_getR (n := 110) dX8_span_107 rfl fX8_83 rfl (by decide) (by decide) rfl ?_
            refine jr_iload_n (n := 111) dX8_span_110 rfl rfl ?_
            refine jr_iload (n := 113) dX8_span_111 rfl rfl ?_
            refine jr_aload_n (n := 114) dX8_span_113 rfl rfl ?_
            refine jr_getR (n := 117) dX8_span_114 rfl fX8_83 rfl (by decide) (by decide) rfl ?_
            refine jr_iload_n (n := 118) dX8_span_117 rfl rfl ?_
            refine jr_iald (n := 119) dX8_span_118 rfl rfl (by decide) (by omega) (by omega) ?_
            rw [jup_ne (show (62 : Nat) ≠ 61 by decide)]
            refine jr_icmp_le (n := 122) (t := 127) dX8_span_119 (by decide) rfl (by omega) (by omega) (fun b119 => ?_) (fun b119 => ?_)
            · refine jr_aload_n (n := 128) dX8_span_127 rfl rfl ?_
              refine jr_getR (n := 131) dX8_span_128 rfl fX8_83 rfl (by decide) (by decide) rfl ?_
              refine jr_iload_n (n := 132) dX8_span_131 rfl rfl ?_
              refine jr_iald (n := 133) dX8_span_132 rfl rfl (by decide) (by omega) (by omega) ?_
              rw [jup_ne (show (62 : Nat) ≠ 61 by decide)]
              refine jr_iast (n := 134) dX8_span_133 rfl rfl (by decide) (by omega) (by omega) ?_
              refine jr_iinc2 (n := 137) dX8_span_134 rfl (by decide) rfl ?_
              refine jr_goto (t := 16) dX8_span_137 (by decide) ?_
              have e1 := jfr_s (M 43) (jclE M) v i0
              have e2 := jla_s (M 43) σ v i0
              first
                | (rw [if_neg b27] at e1 e2
                   exact jr_drop (ih (i + 1) N' (by omega) (by omega) ha ho (by rw [e1, e2]; exact h61) (by rw [e2]; exact h62) (by omega)) ⟨Or.inr rfl, Or.inr rfl, Or.inr rfl, Or.inl rfl, Or.inl rfl, trivial⟩)
                | (rw [if_pos b27] at e1 e2
                   have hto : jto σ i = 200 ∨ jto σ i = σ.1 i := by unfold jto; split <;> simp
                   have hto2 : (σ.1 i = -1 → jto σ i = 200) ∧ (σ.1 i ≠ -1 → jto σ i = σ.1 i) := ⟨fun q => if_pos q, fun q => if_neg q⟩
                   refine jr_drop (ih (i + 1) _ (by omega) (by omega) (fun a q1 q2 => by rw [← ha a q1 q2]; funext b; rw [jup_ne q2, jup_ne q1]) (fun u q => by rw [jup_ne (show (61 : Nat) ≠ 62 by decide), jup_off q, jup_off q, jup_ne (show (62 : Nat) ≠ 61 by decide)]; exact ho u q) ?_ ?_ (by omega)) ⟨Or.inr rfl, Or.inr rfl, Or.inr rfl, Or.inl rfl, Or.inl rfl, trivial⟩
                   · rw [jup_ne (show (61 : Nat) ≠ 62 by decide), jup_at, e1, e2, if_neg (by omega)]
                     omega
                   · rw [jup_at, e2]
                     omega)
            · refine jr_iload (n := 124) dX8_span_122 rfl rfl ?_
              refine jr_goto (t := 133) dX8_span_124 (by decide) ?_
              refine jr_iast (n := 134) dX8_span_133 rfl rfl (by decide) (by omega) (by omega) ?_
              refine jr_iinc2 (n := 137) dX8_span_134 rfl (by decide) rfl ?_
              refine jr_goto (t := 16) dX8_span_137 (by decide) ?_
              have e1 := jfr_s (M 43) (jclE M) v i0
              have e2 := jla_s (M 43) σ v i0
              first
                | (rw [if_neg b27] at e1 e2
                   exact jr_drop (ih (i + 1) N' (by omega) (by omega) ha ho (by rw [e1, e2]; exact h61) (by rw [e2]; exact h62) (by omega)) ⟨Or.inr rfl, Or.inr rfl, Or.inr rfl, Or.inl rfl, Or.inl rfl, trivial⟩)
                | (rw [if_pos b27] at e1 e2
                   have hto : jto σ i = 200 ∨ jto σ i = σ.1 i := by unfold jto; split <;> simp
                   have hto2 : (σ.1 i = -1 → jto σ i = 200) ∧ (σ.1 i ≠ -1 → jto σ i = σ.1 i) := ⟨fun q => if_pos q, fun q => if_neg q⟩
                   refine jr_drop (ih (i + 1) _ (by omega) (by omega) (fun a q1 q2 => by rw [← ha a q1 q2]; funext b; rw [jup_ne q2, jup_ne q1]) (fun u q => by rw [jup_ne (show (61 : Nat) ≠ 62 by decide), jup_off q, jup_off q, jup_ne (show (62 : Nat) ≠ 61 by decide)]; exact ho u q) ?_ ?_ (by omega)) ⟨Or.inr rfl, Or.inr rfl, Or.inr rfl, Or.inl rfl, Or.inl rfl, trivial⟩
                   · rw [jup_ne (show (61 : Nat) ≠ 62 by decide), jup_at, e1, e2, if_neg (by omega)]
                     omega
                   · rw [jup_at, e2]
                     omega)
          · refine jr_iload_n (n := 86) dX8_span_85 rfl rfl ?_
            refine jr_aload_n (n := 87) dX8_span_86 rfl rfl ?_
            refine jr_getR (n := 90) dX8_span_87 rfl fX8_80 rfl (by decide) (by decide) rfl ?_
            refine jr_iload_n (n := 91) dX8_span_90 rfl rfl ?_
            refine jr_iald (n := 92) dX8_span_91 rfl rfl (by decide) (by omega) (by omega) ?_
            refine jr_icmp_ge (n := 95) (t := 99) dX8_span_92 (by decide) rfl (by omega) (by omega) (fun b92 => ?_) (fun b92 => ?_)
            · refine jr_aload_n (n := 100) dX8_span_99 rfl rfl ?_
              refine jr_getR (n := 103) dX8_span_100 rfl fX8_80 rfl (by decide) (by decide) rfl ?_
              refine jr_iload_n (n := 104) dX8_span_103 rfl rfl ?_
              refine jr_iald (n := 105) dX8_span_104 rfl rfl (by decide) (by omega) (by omega) ?_
              refine jr_iast (n := 106) dX8_span_105 rfl rfl (by decide) (by omega) (by omega) ?_
              refine jr_aload_n (n := 107) dX8_span_106 rfl rfl ?_
              refine jr_getR (n := 110) dX8_span_107 rfl fX8_83 rfl (by decide) (by decide) rfl ?_
              refine jr_iload_n (n := 111) dX8_span_110 rfl rfl ?_
              refine jr_iload (n := 113) dX8_span_111 rfl rfl ?_
              refine jr_aload_n (n := 114) dX8_span_113 rfl rfl ?_
              refine jr_getR (n := 117) dX8_span_114 rfl fX8_83 rfl (by decide) (by decide) rfl ?_
              refine jr_iload_n (n := 118) dX8_span_117 rfl rfl ?_
              refine jr_iald (n := 119) dX8_span_118 rfl rfl (by decide) (by omega) (by omega) ?_
              rw [jup_ne (show (62 : Nat) ≠ 61 by decide)]
              refine jr_icmp_le (n := 122) (t := 127) dX8_span_119 (by decide) rfl (by omega) (by omega) (fun b119 => ?_) (fun b119 => ?_)
              · refine jr_aload_n (n := 128) dX8_span_127 rfl rfl ?_
                refine jr_getR (n := 131) dX8_span_128 rfl fX8_83 rfl (by decide) (by decide) rfl ?_
                refine jr_iload_n (n := 132) dX8_span_131 rfl rfl ?_
                refine jr_iald (n := 133) dX8_span_132 rfl rfl (by decide) (by omega) (by omega) ?_
                rw [jup_ne (show (62 : Nat) ≠ 61 by decide)]
                refine jr_iast (n := 134) dX8_span_133 rfl rfl (by decide) (by omega) (by omega) ?_
                refine jr_iinc2 (n := 137) dX8_span_134 rfl (by decide) rfl ?_
                refine jr_goto (t := 16) dX8_span_137 (by decide) ?_
                have e1 := jfr_s (M 43) (jclE M) v i0
                have e2 := jla_s (M 43) σ v i0
                first
                  | (rw [if_neg b27] at e1 e2
                     exact jr_drop (ih (i + 1) N' (by omega) (by omega) ha ho (by rw [e1, e2]; exact h61) (by rw [e2]; exact h62) (by omega)) ⟨Or.inr rfl, Or.inr rfl, Or.inr rfl, Or.inl rfl, Or.inl rfl, trivial⟩)
                  | (rw [if_pos b27] at e1 e2
                     have hto : jto σ i = 200 ∨ jto σ i = σ.1 i := by unfold jto; split <;> simp
                     have hto2 : (σ.1 i = -1 → jto σ i = 200) ∧ (σ.1 i ≠ -1 → jto σ i = σ.1 i) := ⟨fun q => if_pos q, fun q => if_neg q⟩
                     refine jr_drop (ih (i + 1) _ (by omega) (by omega) (fun a q1 q2 => by rw [← ha a q1 q2]; funext b; rw [jup_ne q2, jup_ne q1]) (fun u q => by rw [jup_ne (show (61 : Nat) ≠ 62 by decide), jup_off q, jup_off q, jup_ne (show (62 : Nat) ≠ 61 by decide)]; exact ho u q) ?_ ?_ (by omega)) ⟨Or.inr rfl, Or.inr rfl, Or.inr rfl, Or.inl rfl, Or.inl rfl, trivial⟩
                     · rw [jup_ne (show (61 : Nat) ≠ 62 by decide), jup_at, e1, e2, if_neg (by omega)]
                       omega
                     · rw [jup_at, e2]
                       omega)
              · refine jr_iload (n := 124) dX8_span_122 rfl rfl ?_
                refine jr_goto (t := 133) dX8_span_124 (by decide) ?_
                refine jr_iast (n := 134) dX8_span_133 rfl rfl (by decide) (by omega) (by omega) ?_
                refine jr_iinc2 (n := 137) dX8_span_134 rfl (by decide) rfl ?_
                refine jr_goto (t := 16) dX8_span_137 (by decide) ?_
                have e1 := jfr_s (M 43) (jclE M) v i0
                have e2 := jla_s (M 43) σ v i0
                first
                  | (rw [if_neg b27] at e1 e2
                     exact jr_drop (ih (i + 1) N' (by omega) (by omega) ha ho (by rw [e1, e2]; exact h61) (by rw [e2]; exact h62) (by omega)) ⟨Or.inr rfl, Or.inr rfl, Or.inr rfl, Or.inl rfl, Or.inl rfl, trivial⟩)
                  | (rw [if_pos b27] at e1 e2
                     have hto : jto σ i = 200 ∨ jto σ i = σ.1 i := by unfold jto; split <;> simp
                     have hto2 : (σ.1 i = -1 → jto σ i = 200) ∧ (σ.1 i ≠ -1 → jto σ i = σ.1 i) := ⟨fun q => if_pos q, fun q => if_neg q⟩
                     refine jr_drop (ih (i + 1) _ (by omega) (by omega) (fun a q1 q2 => by rw [← ha a q1 q2]; funext b; rw [jup_ne q2, jup_ne q1]) (fun u q => by rw [jup_ne (show (61 : Nat) ≠ 62 by decide), jup_off q, jup_off q, jup_ne (show (62 : Nat) ≠ 61 by decide)]; exact ho u q) ?_ ?_ (by omega)) ⟨Or.inr rfl, Or.inr rfl, Or.inr rfl, Or.inl rfl, Or.inl rfl, trivial⟩
                     · rw [jup_ne (show (61 : Nat) ≠ 62 by decide), jup_at, e1, e2, if_neg (by omega)]
                       omega
                     · rw [jup_at, e2]
                       omega)
            · refine jr_iload_n (n := 96) dX8_span_95 rfl rfl ?_
              refine jr_goto (t := 105) dX8_span_96 (by decide) ?_
              refine jr_iast (n := 106) dX8_span_105 rfl rfl (by decide) (by omega) (by omega) ?_
              refine jr_aload_n (n := 107) dX8_span_106 rfl rfl ?_
              refine jr_getR (n := 110) dX8_span_107 rfl fX8_83 rfl (by decide) (by decide) rfl ?_
              refine jr_iload_n (n := 111) dX8_span_110 rfl rfl ?_
              refine jr_iload (n := 113) dX8_span_111 rfl rfl ?_
              refine jr_aload_n (n := 114) dX8_span_113 rfl rfl ?_
              refine jr_getR (n := 117) dX8_span_114 rfl fX8_83 rfl (by decide) (by decide) rfl ?_
              refine jr_iload_n (n := 118) dX8_span_117 rfl rfl ?_
              refine jr_iald (n := 119) dX8_span_118 rfl rfl (by decide) (by omega) (by omega) ?_
              rw [jup_ne (show (62 : Nat) ≠ 61 by decide)]
              refine jr_icmp_le (n := 122) (t := 127) dX8_span_119 (by decide) rfl (by omega) (by omega) (fun b119 => ?_) (fun b119 => ?_)
              · refine jr_aload_n (n := 128) dX8_span_127 rfl rfl ?_
                refine jr_getR (n := 131) dX8_span_128 rfl fX8_83 rfl (by decide) (by decide) rfl ?_
                refine jr_iload_n (n := 132) dX8_span_131 rfl rfl ?_
                refine jr_iald (n := 133) dX8_span_132 rfl rfl (by decide) (by omega) (by omega) ?_
                rw [jup_ne (show (62 : Nat) ≠ 61 by decide)]
                refine jr_iast (n := 134) dX8_span_133 rfl rfl (by decide) (by omega) (by omega) ?_
                refine jr_iinc2 (n := 137) dX8_span_134 rfl (by decide) rfl ?_
                refine jr_goto (t := 16) dX8_span_137 (by decide) ?_
                have e1 := jfr_s (M 43) (jclE M) v i0
                have e2 := jla_s (M 43) σ v i0
                first
                  | (rw [if_neg b27] at e1 e2
                     exact jr_drop (ih (i + 1) N' (by omega) (by omega) ha ho (by rw [e1, e2]; exact h61) (by rw [e2]; exact h62) (by omega)) ⟨Or.inr rfl, Or.inr rfl, Or.inr rfl, Or.inl rfl, Or.inl rfl, trivial⟩)
                  | (rw [if_pos b27] at e1 e2
                     have hto : jto σ i = 200 ∨ jto σ i = σ.1 i := by unfold jto; split <;> simp
                     have hto2 : (σ.1 i = -1 → jto σ i = 200) ∧ (σ.1 i ≠ -1 → jto σ i = σ.1 i) := ⟨fun q => if_pos q, fun q => if_neg q⟩
                     refine jr_drop (ih (i + 1) _ (by omega) (by omega) (fun a q1 q2 => by rw [← ha a q1 q2]; funext b; rw [jup_ne q2, jup_ne q1]) (fun u q => by rw [jup_ne (show (61 : Nat) ≠ 62 by decide), jup_off q, jup_off q, jup_ne (show (62 : Nat) ≠ 61 by decide)]; exact ho u q) ?_ ?_ (by omega)) ⟨Or.inr rfl, Or.inr rfl, Or.inr rfl, Or.inl rfl, Or.inl rfl, trivial⟩
                     · rw [jup_ne (show (61 : Nat) ≠ 62 by decide), jup_at, e1, e2, if_neg (by omega)]
                       omega
                     · rw [jup_at, e2]
                       omega)
              · refine jr_iload (n := 124) dX8_span_122 rfl rfl ?_
                refine jr_goto (t := 133) dX8_span_124 (by decide) ?_
                refine jr_iast (n := 134) dX8_span_133 rfl rfl (by decide) (by omega) (by omega) ?_
                refine jr_iinc2 (n := 137) dX8_span_134 rfl (by decide) rfl ?_
                refine jr_goto (t := 16) dX8_span_137 (by decide) ?_
                have e1 := jfr_s (M 43) (jclE M) v i0
                have e2 := jla_s (M 43) σ v i0
                first
                  | (rw [if_neg b27] at e1 e2
                     exact jr_drop (ih (i + 1) N' (by omega) (by omega) ha ho (by rw [e1, e2]; exact h61) (by rw [e2]; exact h62) (by omega)) ⟨Or.inr rfl, Or.inr rfl, Or.inr rfl, Or.inl rfl, Or.inl rfl, trivial⟩)
                  | (rw [if_pos b27] at e1 e2
                     have hto : jto σ i = 200 ∨ jto σ i = σ.1 i := by unfold jto; split <;> simp
                     have hto2 : (σ.1 i = -1 → jto σ i = 200) ∧ (σ.1 i ≠ -1 → jto σ i = σ.1 i) := ⟨fun q => if_pos q, fun q => if_neg q⟩
                     refine jr_drop (ih (i + 1) _ (by omega) (by omega) (fun a q1 q2 => by rw [← ha a q1 q2]; funext b; rw [jup_ne q2, jup_ne q1]) (fun u q => by rw [jup_ne (show (61 : Nat) ≠ 62 by decide), jup_off q, jup_off q, jup_ne (show (62 : Nat) ≠ 61 by decide)]; exact ho u q) ?_ ?_ (by omega)) ⟨Or.inr rfl, Or.inr rfl, Or.inr rfl, Or.inl rfl, Or.inl rfl, trivial⟩
                     · rw [jup_ne (show (61 : Nat) ≠ 62 by decide), jup_at, e1, e2, if_neg (by omega)]
                       omega
                     · rw [jup_at, e2]
                       omega)
      · refine jr_ifF_ne (n := 33) (t := 36) dX8_span_30 rfl (by decide) (by decide) (by decide) ?_
        refine jr_goto (t := 134) dX8_span_33 (by decide) ?_
        refine jr_iinc2 (n := 137) dX8_span_134 rfl (by decide) rfl ?_
        refine jr_goto (t := 16) dX8_span_137 (by decide) ?_
        have e1 := jfr_s (M 43) (jclE M) v i0
        have e2 := jla_s (M 43) σ v i0
        first
          | (rw [if_neg b27] at e1 e2
             exact jr_drop (ih (i + 1) N' (by omega) (by omega) ha ho (by rw [e1, e2]; exact h61) (by rw [e2]; exact h62) (by omega)) ⟨Or.inr rfl, Or.inr rfl, Or.inr rfl, Or.inl rfl, Or.inl rfl, trivial⟩)
          | (rw [if_pos b27] at e1 e2
             have hto : jto σ i = 200 ∨ jto σ i = σ.1 i := by unfold jto; split <;> simp
             have hto2 : (σ.1 i = -1 → jto σ i = 200) ∧ (σ.1 i ≠ -1 → jto σ i = σ.1 i) := ⟨fun q => if_pos q, fun q => if_neg q⟩
             refine jr_drop (ih (i + 1) _ (by omega) (by omega) (fun a q1 q2 => by rw [← ha a q1 q2]; funext b; rw [jup_ne q2, jup_ne q1]) (fun u q => by rw [jup_ne (show (61 : Nat) ≠ 62 by decide), jup_off q, jup_off q, jup_ne (show (62 : Nat) ≠ 61 by decide)]; exact ho u q) ?_ ?_ (by omega)) ⟨Or.inr rfl, Or.inr rfl, Or.inr rfl, Or.inl rfl, Or.inl rfl, trivial⟩
             · rw [jup_ne (show (61 : Nat) ≠ 62 by decide), jup_at, e1, e2, if_neg (by omega)]
               omega
             · rw [jup_at, e2]
               omega)

theorem e_span {G : jG} {d : Nat} {M : jMem} {Q : Option Value → jMem → Prop} (hI : jO M) {N : jMem} {σ : jS} {v s m : Int} (hN : jFE M N) (hb : ∀ k, 0 ≤ k → k < M 8 2 → N 57 k = σ.1 k) (hV : jIv (M 8 2) (M 39) (M 38) (M 43) s m σ) (hv : 0 ≤ v ∧ v < 10) (h : ∀ N', (∀ a, a ≠ 61 → a ≠ 62 → N' a = N a) → (∀ u, u ≠ v → N' 61 u = N 61 u ∧ N' 62 u = N 62 u) → N' 61 v = jfA (M 8 2) (M 43) (jclE M) σ v → N' 62 v = jfU (M 8 2) (M 43) (jclE M) σ v → Q none N')  : jN G mX8_span (d + 1) [.ref (jad G 8), .int (jI v)] N Q := by
  show jM G mX8_span (d + 1) 0 [.ref (jad G 8), .int (jI v), .null, .null, .null] [] N Q
  have hs := jn1 hI
  refine jr_aload_n (n := 1) dX8_span_0 rfl rfl ?_
  refine jr_getR (n := 4) dX8_span_1 rfl fX8_80 rfl (by decide) (by decide) rfl ?_
  refine jr_iload_n (n := 5) dX8_span_4 rfl rfl ?_
  refine jr_iconst (n := 6) dX8_span_5 rfl ?_
  refine jr_iast (n := 7) dX8_span_6 rfl rfl (by decide) (by omega) (by omega) ?_
  refine jr_aload_n (n := 8) dX8_span_7 rfl rfl ?_
  refine jr_getR (n := 11) dX8_span_8 rfl fX8_83 rfl (by decide) (by decide) rfl ?_
  refine jr_iload_n (n := 12) dX8_span_11 rfl rfl ?_
  refine jr_iconst (n := 13) dX8_span_12 rfl ?_
  refine jr_iast (n := 14) dX8_span_13 rfl rfl (by decide) (by omega) (by omega) ?_
  refine jr_iconst (n := 15) dX8_span_14 rfl ?_
  refine jr_istore2 (n := 16) dX8_span_15 rfl (by decide) rfl ?_
  refine e_span_l hI hN hb hV hv h ((M 8 2).toNat + 1) 0 _ (by omega) (by omega) (fun a q1 q2 => funext fun b => by rw [jup_ne q2, jup_ne q1]) (fun u q => by rw [jup_ne (show (61 : Nat) ≠ 62 by decide), jup_off q, jup_off q, jup_ne (show (62 : Nat) ≠ 61 by decide)]; exact ⟨rfl, rfl⟩) ?_ ?_ (by omega)
  · rw [jup_ne (show (61 : Nat) ≠ 62 by decide), jup_at]; rfl
  · rw [jup_at]; rfl

theorem e_mayBe_l {G : jG} {d : Nat} {M : jMem} {Q : Option Value → jMem → Prop} (hI : jO M) {N : jMem} {fA fU rm : Int → Int} {v z : Int} (hv : 0 ≤ v ∧ v < 10) (hz : 0 ≤ z ∧ z < 3) (hN : jFE M N) (h9 : ∀ u, 0 ≤ u → u ≤ v → N 61 u = fA u ∧ N 62 u = fU u ∧ jR (fA u) ∧ jR (fU u)) (hrm : ∀ u, 0 ≤ u → u < v → 0 ≤ fA u → N 63 u = rm u ∧ 0 ≤ rm u ∧ rm u < 3) (h1 : jok (M 45) fA fU (M 47) rm v z → Q (some (.int (jI 1))) N) (h0 : ¬ jok (M 45) fA fU (M 47) rm v z → Q (some (.int (jI 0))) N) (hk : M 45 v = 4 → z = 2)  : ∀ (f : Nat) (i : Int), 0 ≤ i → i ≤ v → (∀ u, 0 ≤ u → u < i → ¬ (0 ≤ fA u ∧ rm u = z ∧ fA u ≤ fU v ∧ fA v ≤ fU u ∧ jbit (M 47 v) u)) → v - i < f → jM G mX8_mayBe (d) 19 [.ref (jad G 8), .int (jI v), .int (jI z), .int (jI i), .null] [] (N) Q := by
  intro f
  induction f with
  | zero =>
    intro i i0 i1 ha hf
    exact absurd hf (by omega)
  | succ f ih =>
    intro i i0 i1 ha hf
    have gv := h9 v hv.1 (by omega)
    have gi := h9 i i0 i1
    have n47 := hN.1 47 (by decide) (by decide)
    refine jr_iload_n (n := 20) dX8_mayBe_19 rfl rfl ?_
    refine jr_iload_n (n := 21) dX8_mayBe_20 rfl rfl ?_
    refine jr_icmp_ge (n := 24) (t := 107) dX8_mayBe_21 (by decide) rfl (by omega) (by omega) (fun b21 => ?_) (fun b21 => ?_)
    · refine jr_iconst (n := 108) dX8_mayBe_107 rfl ?_
      refine jr_zret dX8_mayBe_108 rfl (by decide) ?_
      exact h1 ⟨hk, fun u u0 u1 => ha u u0 (by omega)⟩
    · refine jr_aload_n (n := 25) dX8_mayBe_24 rfl rfl ?_
      refine jr_getR (n := 28) dX8_mayBe_25 rfl fX8_80 rfl (by decide) (by decide) rfl ?_
      refine jr_iload_n (n := 29) dX8_mayBe_28 rfl rfl ?_
      refine jr_iald (n := 30) dX8_mayBe_29 rfl rfl (by decide) (by omega) (by omega) ?_
      rw [gi.1]
      refine jr_if_lt (n := 33) (t := 77) dX8_mayBe_30 (by decide) rfl (by omega) (fun b30 => ?_) (fun b30 => ?_)
      · refine jr_iconst (n := 78) dX8_mayBe_77 rfl ?_
        refine jr_istore4 (n := 80) dX8_mayBe_78 rfl (by decide) rfl ?_
        refine jr_iload (n := 82) dX8_mayBe_80 rfl rfl ?_
        refine jr_ifT_eq (t := 101) dX8_mayBe_82 (by decide) (by decide) (by decide) ?_
        refine jr_iinc3 (n := 104) dX8_mayBe_101 rfl (by decide) rfl ?_
        refine jr_goto (t := 19) dX8_mayBe_104 (by decide) ?_
        refine jr_drop (ih (i + 1) (by omega) (by omega) (fun u u0 u1 => ?_) (by omega)) ⟨Or.inr rfl, Or.inr rfl, Or.inr rfl, Or.inr rfl, Or.inl rfl, trivial⟩
        by_cases e : u = i
        · subst e
          intro q
          first
            | exact b96 (jbit1.mp q.2.2.2.2)
            | exact b40 q.2.1
            | omega
        · exact ha u u0 (by omega)
      · have gr := hrm i i0 (by omega) b30
        refine jr_aload_n (n := 34) dX8_mayBe_33 rfl rfl ?_
        refine jr_getR (n := 37) dX8_mayBe_34 rfl fX8_86 rfl (by decide) (by decide) rfl ?_
        refine jr_iload_n (n := 38) dX8_mayBe_37 rfl rfl ?_
        refine jr_iald (n := 39) dX8_mayBe_38 rfl rfl (by decide) (by omega) (by omega) ?_
        rw [gr.1]
        refine jr_iload_n (n := 40) dX8_mayBe_39 rfl rfl ?_
        refine jr_icmp_ne (n := 43) (t := 77) dX8_mayBe_40 (by decide) rfl (by omega) (by omega) (fun b40 => ?_) (fun b40 => ?_)
        · refine jr_iconst (n := 78) dX8_mayBe_77 rfl ?_
          refine jr_istore4 (n := 80) dX8_mayBe_78 rfl (by decide) rfl ?_
          refine jr_iload (n := 82) dX8_mayBe_80 rfl rfl ?_
          refine jr_ifT_eq (t := 101) dX8_mayBe_82 (by decide) (by decide) (by decide) ?_
          refine jr_iinc3 (n := 104) dX8_mayBe_101 rfl (by decide) rfl ?_
          refine jr_goto (t := 19) dX8_mayBe_104 (by decide) ?_
          refine jr_drop (ih (i + 1) (by omega) (by omega) (fun u u0 u1 => ?_) (by omega)) ⟨Or.inr rfl, Or.inr rfl, Or.inr rfl, Or.inr rfl, Or.inl rfl, trivial⟩
          by_cases e : u = i
          · subst e
            intro q
            first
              | exact b96 (jbit1.mp q.2.2.2.2)
              | exact b40 q.2.1
              | omega
          · exact ha u u0 (by omega)
        · refine jr_aload_n (n := 44) dX8_mayBe_43 rfl rfl ?_
          refine jr_getR (n := 47) dX8_mayBe_44 rfl fX8_80 rfl (by decide) (by decide) rfl ?_
          refine jr_iload_n (n := 48) dX8_mayBe_47 rfl rfl ?_
          refine jr_iald (n := 49) dX8_mayBe_48 rfl rfl (by decide) (by omega) (by omega) ?_
          rw [gi.1]
          refine jr_aload_n (n := 50) dX8_mayBe_49 rfl rfl ?_
          refine jr_getR (n := 53) dX8_mayBe_50 rfl fX8_83 rfl (by decide) (by decide) rfl ?_
          refine jr_iload_n (n := 54) dX8_mayBe_53 rfl rfl ?_
          refine jr_iald (n := 55) dX8_mayBe_54 rfl rfl (by decide) (by omega) (by omega) ?_
          rw [gv.2.1]
          refine jr_icmp_gt (n := 58) (t := 77) dX8_mayBe_55 (by decide) rfl (by omega) (by omega) (fun b55 => ?_) (fun b55 => ?_)
          · refine jr_iconst (n := 78) dX8_mayBe_77 rfl ?_
            refine jr_istore4 (n := 80) dX8_mayBe_78 rfl (by decide) rfl ?_
            refine jr_iload (n := 82) dX8_mayBe_80 rfl rfl ?_
            refine jr_ifT_eq (t := 101) dX8_mayBe_82 (by decide) (by decide) (by decide) ?_
            refine jr_iinc3 (n := 104) dX8_mayBe_101 rfl (by decide) rfl ?_
            refine jr_goto (t := 19) dX8_mayBe_104 (by decide) ?_
            refine jr_drop (ih (i + 1) (by omega) (by omega) (fun u u0 u1 => ?_) (by omega)) ⟨Or.inr rfl, Or.inr rfl, Or.inr rfl, Or.inr rfl, Or.inl rfl, trivial⟩
            by_cases e : u = i
            · subst e
              intro q
              first
                | exact b96 (jbit1.mp q.2.2.2.2)
                | exact b40 q.2.1
                | omega
            · exact ha u u0 (by omega)
          · refine jr_aload_n (n := 59) dX8_mayBe_58 rfl rfl ?_
            refine jr_getR (n := 62) dX8_mayBe_59 rfl fX8_80 rfl (by decide) (by decide) rfl ?_
            refine jr_iload_n (n := 63) dX8_mayBe_62 rfl rfl ?_
            refine jr_iald (n := 64) dX8_mayBe_63 rfl rfl (by decide) (by omega) (by omega) ?_
            rw [gv.1]
            refine jr_aload_n (n := 65) dX8_mayBe_64 rfl rfl ?_
            refine jr_getR (n := 68) dX8_mayBe_65 rfl fX8_83 rfl (by decide) (by decide) rfl ?_
            refine jr_iload_n (n := 69) dX8_mayBe_68 rfl rfl ?_
            refine jr_iald (n := 70) dX8_mayBe_69 rfl rfl (by decide) (by omega) (by omega) ?_
            rw [gi.2.1]
            refine jr_icmp_gt (n := 73) (t := 77) dX8_mayBe_70 (by decide) rfl (by omega) (by omega) (fun b70 => ?_) (fun b70 => ?_)
            · refine jr_iconst (n := 78) dX8_mayBe_77 rfl ?_
              refine jr_istore4 (n := 80) dX8_mayBe_78 rfl (by decide) rfl ?_
              refine jr_iload (n := 82) dX8_mayBe_80 rfl rfl ?_
              refine jr_ifT_eq (t := 101) dX8_mayBe_82 (by decide) (by decide) (by decide) ?_
              refine jr_iinc3 (n := 104) dX8_mayBe_101 rfl (by decide) rfl ?_
              refine jr_goto (t := 19) dX8_mayBe_104 (by decide) ?_
              refine jr_drop (ih (i + 1) (by omega) (by omega) (fun u u0 u1 => ?_) (by omega)) ⟨Or.inr rfl, Or.inr rfl, Or.inr rfl, Or.inr rfl, Or.inl rfl, trivial⟩
              by_cases e : u = i
              · subst e
                intro q
                first
                  | exact b96 (jbit1.mp q.2.2.2.2)
                  | exact b40 q.2.1
                  | omega
              · exact ha u u0 (by omega)
            · refine jr_iconst (n := 74) dX8_mayBe_73 rfl ?_
              refine jr_goto (t := 78) dX8_mayBe_74 (by decide) ?_
              refine jr_istore4 (n := 80) dX8_mayBe_78 rfl (by decide) rfl ?_
              refine jr_iload (n := 82) dX8_mayBe_80 rfl rfl ?_
              refine jr_ifF_eq (n := 85) (t := 101) dX8_mayBe_82 rfl (by decide) (by decide) (by decide) ?_
              refine jr_aload_n (n := 86) dX8_mayBe_85 rfl rfl ?_
              refine jr_getR (n := 89) dX8_mayBe_86 rfl fX8_37 rfl (by decide) (by decide) rfl ?_
              refine jr_iload_n (n := 90) dX8_mayBe_89 rfl rfl ?_
              refine jr_iald (n := 91) dX8_mayBe_90 rfl rfl (by decide) (by omega) (by omega) ?_
              rw [n47]
              refine jr_iload_n (n := 92) dX8_mayBe_91 rfl rfl ?_
              refine jr_ishr (n := 93) dX8_mayBe_92 rfl ?_
              refine jr_iconst (n := 94) dX8_mayBe_93 rfl ?_
              refine jr_iand (n := 95) dX8_mayBe_94 rfl ?_
              refine jr_iconst (n := 96) dX8_mayBe_95 rfl ?_
              refine jr_icmp_ne (n := 99) (t := 101) dX8_mayBe_96 (by decide) rfl (jand_R _ _) (by decide) (fun b96 => ?_) (fun b96 => ?_)
              · refine jr_iinc3 (n := 104) dX8_mayBe_101 rfl (by decide) rfl ?_
                refine jr_goto (t := 19) dX8_mayBe_104 (by decide) ?_
                refine jr_drop (ih (i + 1) (by omega) (by omega) (fun u u0 u1 => ?_) (by omega)) ⟨Or.inr rfl, Or.inr rfl, Or.inr rfl, Or.inr rfl, Or.inl rfl, trivial⟩
                by_cases e : u = i
                · subst e
                  intro q
                  first
                    | exact b96 (jbit1.mp q.2.2.2.2)
                    | exact b40 q.2.1
                    | omega
                · exact ha u u0 (by omega)
              · refine jr_iconst (n := 100) dX8_mayBe_99 rfl ?_
                refine jr_zret dX8_mayBe_100 rfl (by decide) ?_
                exact h0 (fun q => q.2 i i0 (by omega) ⟨b30, b40, b55, b70, jbit1.mpr b96⟩)

theorem e_mayBe {G : jG} {d : Nat} {M : jMem} {Q : Option Value → jMem → Prop} (hI : jO M) {N : jMem} {fA fU rm : Int → Int} {v z : Int} (hv : 0 ≤ v ∧ v < 10) (hz : 0 ≤ z ∧ z < 3) (hN : jFE M N) (h9 : ∀ u, 0 ≤ u → u ≤ v → N 61 u = fA u ∧ N 62 u = fU u ∧ jR (fA u) ∧ jR (fU u)) (hrm : ∀ u, 0 ≤ u → u < v → 0 ≤ fA u → N 63 u = rm u ∧ 0 ≤ rm u ∧ rm u < 3) (h1 : jok (M 45) fA fU (M 47) rm v z → Q (some (.int (jI 1))) N) (h0 : ¬ jok (M 45) fA fU (M 47) rm v z → Q (some (.int (jI 0))) N)  : jN G mX8_mayBe (d) [.ref (jad G 8), .int (jI v), .int (jI z)] N Q := by
  show jM G mX8_mayBe (d) 0 [.ref (jad G 8), .int (jI v), .int (jI z), .null, .null] [] N Q
  have n45 := hN.1 45 (by decide) (by decide)
  have hk9 := (jn9 hI v hv.1 hv.2).1
  refine jr_aload_n (n := 1) dX8_mayBe_0 rfl rfl ?_
  refine jr_getR (n := 4) dX8_mayBe_1 rfl fX8_31 rfl (by decide) (by decide) rfl ?_
  refine jr_iload_n (n := 5) dX8_mayBe_4 rfl rfl ?_
  refine jr_iald (n := 6) dX8_mayBe_5 rfl rfl (by decide) (by omega) (by omega) ?_
  rw [n45]
  refine jr_iconst (n := 7) dX8_mayBe_6 rfl ?_
  refine jr_icmp_ne (n := 10) (t := 17) dX8_mayBe_7 (by decide) rfl (by omega) (by omega) (fun b7 => ?_) (fun b7 => ?_)
  · refine jr_iconst (n := 18) dX8_mayBe_17 rfl ?_
    refine jr_istore3 (n := 19) dX8_mayBe_18 rfl (by decide) rfl ?_
    exact e_mayBe_l hI hv hz hN h9 hrm h1 h0 (fun q => by omega) (v.toNat + 1) 0 (by omega) (by omega) (fun u u0 u1 => absurd u1 (by omega)) (by omega)
  · refine jr_iload_n (n := 11) dX8_mayBe_10 rfl rfl ?_
    refine jr_iconst (n := 12) dX8_mayBe_11 rfl ?_
    refine jr_icmp_eq (n := 15) (t := 17) dX8_mayBe_12 (by decide) rfl (by omega) (by omega) (fun b12 => ?_) (fun b12 => ?_)
    · refine jr_iconst (n := 18) dX8_mayBe_17 rfl ?_
      refine jr_istore3 (n := 19) dX8_mayBe_18 rfl (by decide) rfl ?_
      exact e_mayBe_l hI hv hz hN h9 hrm h1 h0 (fun q => by omega) (v.toNat + 1) 0 (by omega) (by omega) (fun u u0 u1 => absurd u1 (by omega)) (by omega)
    · refine jr_iconst (n := 16) dX8_mayBe_15 rfl ?_
      refine jr_zret dX8_mayBe_16 rfl (by decide) ?_
      exact h0 (fun q => by have := q.1 (by omega); omega)

def jEr (fA : Int → Int) (N : jMem) (v : Int) (rm : Int → Int) : Prop := ∀ u, 0 ≤ u → u < v → 0 ≤ fA u → N 63 u = rm u ∧ 0 ≤ rm u ∧ rm u < 3
def jre3 (N N' : jMem) : Prop := ∀ a, a ≠ 63 → N' a = N a
theorem e_give_l {G : jG} {M : jMem} (hI : jO M) {fA fU : Int → Int} (hAU : ∀ u, 0 ≤ u → u < 10 → jR (fA u) ∧ jR (fU u)) {r : Nat} (IH : ∀ (d : Nat) (N : jMem) (rm : Int → Int) (Q : Option Value → jMem → Prop) (v : Int), v = M 8 8 - (r : Int) → 0 ≤ v → jFE M N → (∀ u, 0 ≤ u → u < M 8 8 → N 61 u = fA u ∧ N 62 u = fU u) → jEr fA N v rm → (∀ rm' N', jgr (M 8 8) (M 45) fA fU (M 47) r rm = some rm' → jEr fA N' (M 8 8) rm' → jre3 N N' → Q (some (.int (jI 1))) N') → (∀ N', jgr (M 8 8) (M 45) fA fU (M 47) r rm = none → (∀ u, 0 ≤ u → u < v → N' 63 u = N 63 u) → jre3 N N' → Q (some (.int (jI 0))) N') → jN G mX8_giveRooms (d + r + 1) [.ref (jad G 8), .int (jI v)] N Q) {d : Nat} {Q : Option Value → jMem → Prop} {rm : Int → Int} {v : Int} (hv : v = M 8 8 - ((r : Int) + 1)) (v0 : 0 ≤ v) (hva : 0 ≤ fA v) : ∀ (f : Nat) (z : Int) (N : jMem), 0 ≤ z → z ≤ 3 → jFE M N → (∀ u, 0 ≤ u → u < M 8 8 → N 61 u = fA u ∧ N 62 u = fU u) → jEr fA N v rm → (∀ rm' N', jtry (M 45) fA fU (M 47) (jgr (M 8 8) (M 45) fA fU (M 47) r) v rm f z = some rm' → jEr fA N' (M 8 8) rm' → jre3 N N' → Q (some (.int (jI 1))) N') → (∀ N', jtry (M 45) fA fU (M 47) (jgr (M 8 8) (M 45) fA fU (M 47) r) v rm f z = none → (∀ u, 0 ≤ u → u < v → N' 63 u = N 63 u) → jre3 N N' → Q (some (.int (jI 0))) N') → 3 - z = f → jM G mX8_giveRooms (d + r + 1 + 1) 29 [.ref (jad G 8), .int (jI v), .int (jI z)] [] N Q := by
  have hs := jn1 hI
  have hv10 : v < 10 := by omega
  intro f
  induction f with
  | zero =>
    intro z N z0 z1 hN hF hR h1 h0 hf
    refine jr_iload_n (n := 30) dX8_giveRooms_29 rfl rfl ?_
    refine jr_iconst (n := 31) dX8_giveRooms_30 rfl ?_
    refine jr_icmp_ge (n := 34) (t := 68) dX8_giveRooms_31 (by decide) rfl (by omega) (by omega) (fun b31 => ?_) (fun b31 => ?_)
    · refine jr_iconst (n := 69) dX8_giveRooms_68 rfl ?_
      refine jr_zret dX8_giveRooms_69 rfl (by decide) ?_
      exact h0 N rfl (fun _ _ _ => rfl) (fun _ _ => rfl)
    · exact absurd b31 (by omega)
  | succ f ih =>
    intro z N z0 z1 hN hF hR h1 h0 hf
    unfold jtry at h1 h0
    refine jr_iload_n (n := 30) dX8_giveRooms_29 rfl rfl ?_
    refine jr_iconst (n := 31) dX8_giveRooms_30 rfl ?_
    refine jr_icmp_ge (n := 34) (t := 68) dX8_giveRooms_31 (by decide) rfl (by omega) (by omega) (fun b31 => ?_) (fun b31 => ?_)
    · exact absurd b31 (by omega)
    · refine jr_aload_n (n := 35) dX8_giveRooms_34 rfl rfl ?_
      refine jr_iload_n (n := 36) dX8_giveRooms_35 rfl rfl ?_
      refine jr_iload_n (n := 37) dX8_giveRooms_36 rfl rfl ?_
      refine jr_cV2 (n := 40) (ci := 8) (ν := mX8_mayBe) dX8_giveRooms_37 rfl lX8_183 kX8_mayBe iX8_mayBe rfl ⟨_, rfl, rfl⟩ (by decide) (Nat.le_of_ble_eq_true rfl) (Nat.le_of_ble_eq_true rfl) rfl ?_
      refine e_mayBe hI (rm := rm) (fA := fA) (fU := fU) (by omega) (by omega) hN (fun u u0 u1 => ⟨(hF u u0 (by omega)).1, (hF u u0 (by omega)).2, (hAU u u0 (by omega)).1, (hAU u u0 (by omega)).2⟩) hR (fun b37 => ?_) (fun b37 => ?_)
      · refine jr_ifF_eq (n := 43) (t := 62) dX8_giveRooms_40 rfl (by decide) (by decide) (by decide) ?_
        refine jr_aload_n (n := 44) dX8_giveRooms_43 rfl rfl ?_
        refine jr_getR (n := 47) dX8_giveRooms_44 rfl fX8_86 rfl (by decide) (by decide) rfl ?_
        refine jr_iload_n (n := 48) dX8_giveRooms_47 rfl rfl ?_
        refine jr_iload_n (n := 49) dX8_giveRooms_48 rfl rfl ?_
        refine jr_iast (n := 50) dX8_giveRooms_49 rfl rfl (by decide) (by omega) (by omega) ?_
        refine jr_aload_n (n := 51) dX8_giveRooms_50 rfl rfl ?_
        refine jr_iload_n (n := 52) dX8_giveRooms_51 rfl rfl ?_
        refine jr_iconst (n := 53) dX8_giveRooms_52 rfl ?_
        refine jr_iadd (n := 54) dX8_giveRooms_53 rfl ?_
        refine jr_cV1 (n := 57) (ci := 8) (ν := mX8_giveRooms) dX8_giveRooms_54 rfl lX8_180 kX8_giveRooms iX8_giveRooms rfl ⟨_, rfl, rfl⟩ (by decide) (Nat.le_of_ble_eq_true rfl) (Nat.le_of_ble_eq_true rfl) rfl ?_
        rw [if_pos b37] at h1 h0
        refine IH d _ (jfu rm v z) _ (v + 1) (by omega) (by omega) (hN.up (by omega)) (fun u u0 u1 => by rw [jup_ne (by decide), jup_ne (by decide)]; exact hF u u0 u1) (fun u u0 u1 hu => ?_) (fun rm' N' hg hR' hr' => ?_) (fun N' hg hR' hr' => ?_)
        · by_cases e : u = v
          · subst e; rw [jup_at, jfu_at]; exact ⟨rfl, z0, by omega⟩
          · rw [jup_off e, jfu_off e]; exact hR u u0 (by omega) hu
        · refine jr_ifF_eq (n := 60) (t := 62) dX8_giveRooms_57 rfl (by decide) (by decide) (by decide) ?_
          refine jr_iconst (n := 61) dX8_giveRooms_60 rfl ?_
          refine jr_zret dX8_giveRooms_61 rfl (by decide) ?_
          exact h1 rm' N' (by rw [hg]; rfl) hR' (fun a q => by rw [hr' a q]; funext b; exact jup_ne q b)
        · refine jr_ifT_eq (t := 62) dX8_giveRooms_57 (by decide) (by decide) (by decide) ?_
          refine jr_iinc2 (n := 65) dX8_giveRooms_62 rfl (by decide) rfl ?_
          refine jr_goto (t := 29) dX8_giveRooms_65 (by decide) ?_
          first
            | (rw [if_neg b37] at h1 h0
               exact ih (z + 1) N (by omega) (by omega) hN hF hR h1 h0 (by omega))
            | (rw [hg] at h1 h0
               have hU : jre3 N N' := fun a q => by rw [hr' a q]; funext b; exact jup_ne q b
               have hk : ∀ u, 0 ≤ u → u < v → N' 63 u = N 63 u := fun u u0 u1 => by rw [hR' u u0 (by omega), jup_off (by omega)]
               exact ih (z + 1) N' (by omega) (by omega) ⟨fun a q1 q2 => by rw [hU a (by omega)]; exact hN.1 a q1 q2, fun b q => by rw [hU 8 (by decide)]; exact hN.2 b q⟩ (fun u u0 u1 => by rw [hU 61 (by decide), hU 62 (by decide)]; exact hF u u0 u1) (fun u u0 u1 hu => by rw [hk u u0 u1]; exact hR u u0 u1 hu) (fun rm2 N2 g2 r2 s2 => h1 rm2 N2 g2 r2 (fun a q => (s2 a q).trans (hU a q))) (fun N2 g2 r2 s2 => h0 N2 g2 (fun u u0 u1 => (r2 u u0 u1).trans (hk u u0 u1)) (fun a q => (s2 a q).trans (hU a q))) (by omega))
      · refine jr_ifT_eq (t := 62) dX8_giveRooms_40 (by decide) (by decide) (by decide) ?_
        refine jr_iinc2 (n := 65) dX8_giveRooms_62 rfl (by decide) rfl ?_
        refine jr_goto (t := 29) dX8_giveRooms_65 (by decide) ?_
        first
          | (rw [if_neg b37] at h1 h0
             exact ih (z + 1) N (by omega) (by omega) hN hF hR h1 h0 (by omega))
          | (rw [hg] at h1 h0
             have hU : jre3 N N' := fun a q => by rw [hr' a q]; funext b; exact jup_ne q b
             have hk : ∀ u, 0 ≤ u → u < v → N' 63 u = N 63 u := fun u u0 u1 => by rw [hR' u u0 (by omega), jup_off (by omega)]
             exact ih (z + 1) N' (by omega) (by omega) ⟨fun a q1 q2 => by rw [hU a (by omega)]; exact hN.1 a q1 q2, fun b q => by rw [hU 8 (by decide)]; exact hN.2 b q⟩ (fun u u0 u1 => by rw [hU 61 (by decide), hU 62 (by decide)]; exact hF u u0 u1) (fun u u0 u1 hu => by rw [hk u u0 u1]; exact hR u u0 u1 hu) (fun rm2 N2 g2 r2 s2 => h1 rm2 N2 g2 r2 (fun a q => (s2 a q).trans (hU a q))) (fun N2 g2 r2 s2 => h0 N2 g2 (fun u u0 u1 => (r2 u u0 u1).trans (hk u u0 u1)) (fun a q => (s2 a q).trans (hU a q))) (by omega))

theorem e_giveRooms {G : jG} {M : jMem} (hI : jO M) {fA fU : Int → Int} (hAU : ∀ u, 0 ≤ u → u < 10 → jR (fA u) ∧ jR (fU u)) : ∀ (r : Nat), ∀ (d : Nat) (N : jMem) (rm : Int → Int) (Q : Option Value → jMem → Prop) (v : Int), v = M 8 8 - (r : Int) → 0 ≤ v → jFE M N → (∀ u, 0 ≤ u → u < M 8 8 → N 61 u = fA u ∧ N 62 u = fU u) → jEr fA N v rm → (∀ rm' N', jgr (M 8 8) (M 45) fA fU (M 47) r rm = some rm' → jEr fA N' (M 8 8) rm' → jre3 N N' → Q (some (.int (jI 1))) N') → (∀ N', jgr (M 8 8) (M 45) fA fU (M 47) r rm = none → (∀ u, 0 ≤ u → u < v → N' 63 u = N 63 u) → jre3 N N' → Q (some (.int (jI 0))) N') → jN G mX8_giveRooms (d + r + 1) [.ref (jad G 8), .int (jI v)] N Q
  | 0, d, N, rm, Q, v, hv, v0, hN, hF, hR, h1, h0 => by
    show jM G mX8_giveRooms (d + 0 + 1) 0 [.ref (jad G 8), .int (jI v), .null] [] N Q
    have hs := jn1 hI
    have n8 := hN.2 8 (by decide)
    refine jr_iload_n (n := 1) dX8_giveRooms_0 rfl rfl ?_
    refine jr_aload_n (n := 2) dX8_giveRooms_1 rfl rfl ?_
    refine jr_getI (n := 5) (i := 8) rfl dX8_giveRooms_2 rfl fX8_100 rfl (by decide) (by decide) rfl ?_
    rw [n8]
    refine jr_icmp_ne (n := 8) (t := 10) dX8_giveRooms_5 (by decide) rfl (by omega) (by omega) (fun b5 => ?_) (fun b5 => ?_)
    · exact absurd b5 (by omega)
    · refine jr_iconst (n := 9) dX8_giveRooms_8 rfl ?_
      refine jr_zret dX8_giveRooms_9 rfl (by decide) ?_
      have e : v = M 8 8 := by omega
      subst e
      exact h1 rm N rfl hR (fun _ _ => rfl)
  | r + 1, d, N, rm, Q, v, hv, v0, hN, hF, hR, h1, h0 => by
    show jM G mX8_giveRooms (d + r + 1 + 1) 0 [.ref (jad G 8), .int (jI v), .null] [] N Q
    have hs := jn1 hI
    have n8 := hN.2 8 (by decide)
    have hv' : v = M 8 8 - ((r : Int) + 1) := by omega
    have hau := hAU v v0 (by omega)
    unfold jgr at h1 h0
    rw [← hv'] at h1 h0
    refine jr_iload_n (n := 1) dX8_giveRooms_0 rfl rfl ?_
    refine jr_aload_n (n := 2) dX8_giveRooms_1 rfl rfl ?_
    refine jr_getI (n := 5) (i := 8) rfl dX8_giveRooms_2 rfl fX8_100 rfl (by decide) (by decide) rfl ?_
    rw [n8]
    refine jr_icmp_ne (n := 8) (t := 10) dX8_giveRooms_5 (by decide) rfl (by omega) (by omega) (fun b5 => ?_) (fun b5 => ?_)
    · refine jr_aload_n (n := 11) dX8_giveRooms_10 rfl rfl ?_
      refine jr_getR (n := 14) dX8_giveRooms_11 rfl fX8_80 rfl (by decide) (by decide) rfl ?_
      refine jr_iload_n (n := 15) dX8_giveRooms_14 rfl rfl ?_
      refine jr_iald (n := 16) dX8_giveRooms_15 rfl rfl (by decide) (by omega) (by omega) ?_
      rw [(hF v v0 (by omega)).1]
      refine jr_if_ge (n := 19) (t := 27) dX8_giveRooms_16 (by decide) rfl (by omega) (fun b16 => ?_) (fun b16 => ?_)
      · refine jr_iconst (n := 28) dX8_giveRooms_27 rfl ?_
        refine jr_istore2 (n := 29) dX8_giveRooms_28 rfl (by decide) rfl ?_
        rw [if_neg (by omega)] at h1 h0
        exact e_give_l hI hAU (fun d N rm Q v => e_giveRooms hI hAU r d N rm Q v) hv' v0 (by omega) 3 0 N (by omega) (by omega) hN hF hR h1 h0 (by omega)
      · refine jr_aload_n (n := 20) dX8_giveRooms_19 rfl rfl ?_
        refine jr_iload_n (n := 21) dX8_giveRooms_20 rfl rfl ?_
        refine jr_iconst (n := 22) dX8_giveRooms_21 rfl ?_
        refine jr_iadd (n := 23) dX8_giveRooms_22 rfl ?_
        refine jr_cV1 (n := 26) (ci := 8) (ν := mX8_giveRooms) dX8_giveRooms_23 rfl lX8_180 kX8_giveRooms iX8_giveRooms rfl ⟨_, rfl, rfl⟩ (by decide) (Nat.le_of_ble_eq_true rfl) (Nat.le_of_ble_eq_true rfl) rfl ?_
        rw [if_pos (by omega)] at h1 h0
        refine e_giveRooms hI hAU r d N rm _ (v + 1) (by omega) (by omega) hN hF (fun u u0 u1 hu => hR u u0 (by rcases Int.lt_or_eq_of_le (show u ≤ v by omega) with z | z; exact z; rw [z] at hu; omega) hu) (fun rm' N' hg hR' hr' => ?_) (fun N' hg hR' hr' => ?_)
        · refine jr_zret dX8_giveRooms_26 rfl (by decide) ?_
          exact h1 rm' N' hg hR' hr'
        · refine jr_zret dX8_giveRooms_26 rfl (by decide) ?_
          exact h0 N' hg (fun u u0 u1 => hR' u u0 (by omega)) hr'
    · exact absurd b5 (by omega)

theorem e_room_l {G : jG} {d : Nat} {M : jMem} {Q : Option Value → jMem → Prop} (hI : jO M) {N : jMem} {σ : jS} {v s m : Int} (hv : 0 ≤ v ∧ v < M 8 8) (hD : jDE M N σ) (hV : jIv (M 8 2) (M 39) (M 38) (M 43) s m σ) (hG : ∀ N', jFE M N' → (∀ u, 0 ≤ u → u < M 8 8 → N' 61 u = jfA (M 8 2) (M 43) (jclE M) σ u ∧ N' 62 u = jfU (M 8 2) (M 43) (jclE M) σ u) → jM G mX8_room (d + 13) 37 [.ref (jad G 8), .int (jI v), .null] [] N' Q)  : ∀ (f : Nat) (i : Int) (N' : jMem), 0 ≤ i → i ≤ M 8 8 → jFE M N' → (∀ k, 0 ≤ k → k < M 8 2 → N' 57 k = σ.1 k) → (∀ u, 0 ≤ u → u < i → N' 61 u = jfA (M 8 2) (M 43) (jclE M) σ u ∧ N' 62 u = jfU (M 8 2) (M 43) (jclE M) σ u) → M 8 8 - i < f → jM G mX8_room (d + 13) 18 [.ref (jad G 8), .int (jI v), .int (jI i)] [] (N') Q := by
  intro f
  induction f with
  | zero =>
    intro i N' i0 i1 hN hb hF hf
    exact absurd hf (by omega)
  | succ f ih =>
    intro i N' i0 i1 hN hb hF hf
    have hs := jn1 hI
    have n8 := hN.2 8 (by decide)
    refine jr_iload_n (n := 19) dX8_room_18 rfl rfl ?_
    refine jr_aload_n (n := 20) dX8_room_19 rfl rfl ?_
    refine jr_getI (n := 23) (i := 8) rfl dX8_room_20 rfl fX8_100 rfl (by decide) (by decide) rfl ?_
    rw [n8]
    refine jr_icmp_ge (n := 26) (t := 37) dX8_room_23 (by decide) rfl (by omega) (by omega) (fun b23 => ?_) (fun b23 => ?_)
    · exact jr_drop (hG N' hN (fun u u0 u1 => hF u u0 (by omega))) ⟨Or.inr rfl, Or.inr rfl, Or.inl rfl, trivial⟩
    · refine jr_aload_n (n := 27) dX8_room_26 rfl rfl ?_
      refine jr_iload_n (n := 28) dX8_room_27 rfl rfl ?_
      refine jr_cV1 (n := 31) (ci := 8) (ν := mX8_span) dX8_room_28 rfl lX8_186 kX8_span iX8_span rfl ⟨_, rfl, rfl⟩ (by decide) (Nat.le_of_ble_eq_true rfl) (Nat.le_of_ble_eq_true rfl) rfl ?_
      refine e_span hI hN hb hV (by omega) (fun N2 ha ho g1 g2 => ?_)
      refine jr_iinc2 (n := 34) dX8_room_31 rfl (by decide) rfl ?_
      refine jr_goto (t := 18) dX8_room_34 (by decide) ?_
      refine ih (i + 1) N2 (by omega) (by omega) ⟨fun a q1 q2 => by rw [ha a (by omega) (by omega)]; exact hN.1 a q1 q2, fun b q => by rw [ha 8 (by decide) (by decide)]; exact hN.2 b q⟩ (fun k k0 k1 => by rw [ha 57 (by decide) (by decide)]; exact hb k k0 k1) (fun u u0 u1 => ?_) (by omega)
      by_cases e : u = i
      · subst e; exact ⟨g1, g2⟩
      · rw [(ho u e).1, (ho u e).2]; exact hF u u0 (by omega)

theorem e_room {G : jG} {d : Nat} {M : jMem} {Q : Option Value → jMem → Prop} (hI : jO M) {v : Int} (hv : jR v) (hB : ¬ (0 ≤ v ∧ v < M 8 8) → Q (some (.long (jL (-9000000000000000001)))) M) (hN : 0 ≤ v → v < M 8 8 → jgr (M 8 8) (M 45) (jfA (M 8 2) (M 43) (jclE M) (jdy (M 8 2) (M 8 8) (M 39) (M 38) (M 43) (M 44) (M 41) (jclE M) 200)) (jfU (M 8 2) (M 43) (jclE M) (jdy (M 8 2) (M 8 8) (M 39) (M 38) (M 43) (M 44) (M 41) (jclE M) 200)) (M 47) (M 8 8).toNat (fun _ => -1) = none → ∀ N, jFE M N → Q (some (.long (jL (-9000000000000000002)))) N) (h0 : 0 ≤ v → v < M 8 8 → ∀ rm, jgr (M 8 8) (M 45) (jfA (M 8 2) (M 43) (jclE M) (jdy (M 8 2) (M 8 8) (M 39) (M 38) (M 43) (M 44) (M 41) (jclE M) 200)) (jfU (M 8 2) (M 43) (jclE M) (jdy (M 8 2) (M 8 8) (M 39) (M 38) (M 43) (M 44) (M 41) (jclE M) 200)) (M 47) (M 8 8).toNat (fun _ => -1) = some rm → jfA (M 8 2) (M 43) (jclE M) (jdy (M 8 2) (M 8 8) (M 39) (M 38) (M 43) (M 44) (M 41) (jclE M) 200) v < 0 → ∀ N, jFE M N → Q (some (.long (jL (-9000000000000000005)))) N) (h1 : 0 ≤ v → v < M 8 8 → ∀ rm, jgr (M 8 8) (M 45) (jfA (M 8 2) (M 43) (jclE M) (jdy (M 8 2) (M 8 8) (M 39) (M 38) (M 43) (M 44) (M 41) (jclE M) 200)) (jfU (M 8 2) (M 43) (jclE M) (jdy (M 8 2) (M 8 8) (M 39) (M 38) (M 43) (M 44) (M 41) (jclE M) 200)) (M 47) (M 8 8).toNat (fun _ => -1) = some rm → 0 ≤ jfA (M 8 2) (M 43) (jclE M) (jdy (M 8 2) (M 8 8) (M 39) (M 38) (M 43) (M 44) (M 41) (jclE M) 200) v → ∀ N, jFE M N → Q (some (.long (jL (rm v)))) N) : jN G mX8_room (d + 13) [.ref (jad G 8), .int (jI v)] M Q := by
  show jM G mX8_room (d + 13) 0 [.ref (jad G 8), .int (jI v), .null] [] M Q
  have hz := jn1 hI
  generalize hσ : jdy (M 8 2) (M 8 8) (M 39) (M 38) (M 43) (M 44) (M 41) (jclE M) 200 = σ at hN h0 h1
  refine jr_aload_n (n := 1) dX8_room_0 rfl rfl ?_
  refine jr_iload_n (n := 2) dX8_room_1 rfl rfl ?_
  refine jr_cV1 (n := 5) (ci := 8) (ν := mX8_isWitness) dX8_room_2 rfl lX8_115 kX8_isWitness iX8_isWitness rfl ⟨_, rfl, rfl⟩ (by decide) (Nat.le_of_ble_eq_true rfl) (Nat.le_of_ble_eq_true rfl) rfl ?_
  refine e_isWitness (by omega) (by omega) (fun b2 b2b => ?_) (fun b2 => ?_)
  · refine jr_ifT_ne (t := 12) dX8_room_5 (by decide) (by decide) (by decide) ?_
    refine jr_aload_n (n := 13) dX8_room_12 rfl rfl ?_
    refine jr_cV0 (n := 16) (ci := 8) (ν := mX8_runDay) dX8_room_13 rfl lX8_166 kX8_runDay iX8_runDay rfl ⟨_, rfl, rfl⟩ (by decide) (Nat.le_of_ble_eq_true rfl) (Nat.le_of_ble_eq_true rfl) rfl ?_
    refine e_runDay hI (fun N hD => ?_)
    rw [hσ] at hD
    have hV := jIv_dy (cl := jclE M) (jSD_of hI) 200 (by omega)
    rw [hσ] at hV
    have hai := fun u => jfA_iff hz.1.1 hV (jclE_0 hI) u
    refine jr_iconst (n := 17) dX8_room_16 rfl ?_
    refine jr_istore2 (n := 18) dX8_room_17 rfl (by decide) rfl ?_
    refine e_room_l hI ⟨by omega, by omega⟩ hD hV (fun N' hN' hF => ?_) ((M 8 8).toNat + 1) 0 N (by omega) (by omega) hD.1 (fun k k0 k1 => (hD.2.1 k k0 k1).1) (fun u u0 u1 => absurd u1 (by omega)) (by omega)
    refine jr_aload_n (n := 38) dX8_room_37 rfl rfl ?_
    refine jr_iconst (n := 39) dX8_room_38 rfl ?_
    refine jr_cV1 (n := 42) (ci := 8) (ν := mX8_giveRooms) dX8_room_39 rfl lX8_180 kX8_giveRooms iX8_giveRooms rfl ⟨_, rfl, rfl⟩ (by decide) (Nat.le_of_ble_eq_true rfl) (Nat.le_of_ble_eq_true rfl) rfl ?_
    rw [show d + 12 = (d + 1 + (10 - (M 8 8).toNat)) + (M 8 8).toNat + 1 by omega]
    refine e_giveRooms hI (fA := jfA (M 8 2) (M 43) (jclE M) σ) (fU := jfU (M 8 2) (M 43) (jclE M) σ) (fun u _ _ => ⟨by have := hai u; omega, by have := hai u; omega⟩) (M 8 8).toNat (d + 1 + (10 - (M 8 8).toNat)) N' (fun _ => -1) _ 0 (by omega) (by omega) hN' hF (fun u u0 u1 => absurd u1 (by omega)) (fun rm N2 hg hR hre => ?_) (fun N2 hg hR hre => ?_)
    all_goals have hN2 : jFE M N2 := ⟨fun a q1 q2 => by rw [hre a (by omega)]; exact hN'.1 a q1 q2, fun b q => by rw [hre 8 (by decide)]; exact hN'.2 b q⟩
    · refine jr_ifT_ne (t := 49) dX8_room_42 (by decide) (by decide) (by decide) ?_
      have g61 : N2 61 v = jfA (M 8 2) (M 43) (jclE M) σ v := by rw [hre 61 (by decide)]; exact (hF v (by omega) (by omega)).1
      have hav := hai v
      refine jr_aload_n (n := 50) dX8_room_49 rfl rfl ?_
      refine jr_getR (n := 53) dX8_room_50 rfl fX8_80 rfl (by decide) (by decide) rfl ?_
      refine jr_iload_n (n := 54) dX8_room_53 rfl rfl ?_
      refine jr_iald (n := 55) dX8_room_54 rfl rfl (by decide) (by omega) (by omega) ?_
      rw [g61]
      refine jr_if_ge (n := 58) (t := 64) dX8_room_55 (by decide) rfl (by omega) (fun b55 => ?_) (fun b55 => ?_)
      · have g63 := hR v (by omega) (by omega) (by omega)
        refine jr_aload_n (n := 65) dX8_room_64 rfl rfl ?_
        refine jr_getR (n := 68) dX8_room_65 rfl fX8_86 rfl (by decide) (by decide) rfl ?_
        refine jr_iload_n (n := 69) dX8_room_68 rfl rfl ?_
        refine jr_iald (n := 70) dX8_room_69 rfl rfl (by decide) (by omega) (by omega) ?_
        rw [g63.1]
        refine jr_i2l (n := 71) dX8_room_70 rfl (by omega) ?_
        refine jr_lret dX8_room_71 rfl ?_
        first
          | exact hN (by omega) (by omega) hg N2 hN2
          | exact h0 (by omega) (by omega) rm hg (by omega) N2 hN2
          | exact h1 (by omega) (by omega) rm hg (by omega) N2 hN2
      · refine jr_ldc2 (n := 61) dX8_room_58 rfl rfl qX8_129 vX8_129 ?_
        refine jr_goto (t := 71) dX8_room_61 (by decide) ?_
        refine jr_lret dX8_room_71 rfl ?_
        first
          | exact hN (by omega) (by omega) hg N2 hN2
          | exact h0 (by omega) (by omega) rm hg (by omega) N2 hN2
          | exact h1 (by omega) (by omega) rm hg (by omega) N2 hN2
    · refine jr_ifF_ne (n := 45) (t := 49) dX8_room_42 rfl (by decide) (by decide) (by decide) ?_
      refine jr_ldc2 (n := 48) dX8_room_45 rfl rfl qX8_145 vX8_145 ?_
      refine jr_lret dX8_room_48 rfl ?_
      first
        | exact hN (by omega) (by omega) hg N2 hN2
        | exact h0 (by omega) (by omega) rm hg (by omega) N2 hN2
        | exact h1 (by omega) (by omega) rm hg (by omega) N2 hN2
  · refine jr_ifF_ne (n := 8) (t := 12) dX8_room_5 rfl (by decide) (by decide) (by decide) ?_
    refine jr_ldc2 (n := 11) dX8_room_8 rfl rfl qX8_107 vX8_107 ?_
    refine jr_lret dX8_room_11 rfl ?_
    exact hB (by omega)

