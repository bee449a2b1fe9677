theorem jpd_eq {A B : jMem} (q : B 8 14 = A 6 3) (a : B 50 = A 33) (b : B 51 = A 34) (c : B 52 = A 35) {v k : Int} : jpdE B v k ↔ jpdC A v k := by
  unfold jpdE jpdC
  rw [q, a, b, c]
theorem jsd_eq {A B : jMem} (hK : jK A) (q : B 8 14 = A 6 3) (a : B 50 = A 33) (b : B 51 = A 34) (c : B 52 = A 35) (v k : Int) :
    jsdE B v k 8 14 = jsdC A v k 6 3 ∧ jsdE B v k 50 = jsdC A v k 33 ∧ jsdE B v k 51 = jsdC A v k 34 ∧ jsdE B v k 52 = jsdC A v k 35 := by
  have hp : (B 8 14 < 60 ∧ ¬ jpdE B v k) ↔ (A 6 3 < 60 ∧ ¬ jpdC A v k) := by rw [q, jpd_eq q a b c]
  unfold jsdE jsdC
  by_cases e : A 6 3 < 60 ∧ ¬ jpdC A v k
  · rw [if_pos e, if_pos (hp.mpr e)]
    unfold jadE jadC
    simp (disch := decide) only [jup_r, jup_s, jblk_r, jblk_s, jcb_r, jcb_s, jcpy_r, jcpy_s, jfu_s, jfu_o]
    rw [q, a, b, c]
    refine ⟨rfl, rfl, rfl, ?_⟩
    funext x
    by_cases h : x = A 6 3
    · subst h
      rw [jfu_s]
      exact (jn13 hK _ (by omega)).symm
    · rw [jfu_o h]
  · rw [if_neg e, if_neg (fun z => e (hp.mp z))]
    exact ⟨q, a, b, c⟩
theorem jsl_eq {A B : jMem} (hK : jK A) (q : B 8 14 = A 6 3) (a : B 50 = A 33) (b : B 51 = A 34) (c : B 52 = A 35) {k : Int} (hne : B 43 k = A 13 k) (k0 : 0 ≤ k) (k1 : k < 12) : ∀ n : Nat, n ≤ 10 →
    jslE B k n 8 14 = jslC A k n 6 3 ∧ jslE B k n 50 = jslC A k n 33 ∧ jslE B k n 51 = jslC A k n 34 ∧ jslE B k n 52 = jslC A k n 35
  | 0, _ => ⟨q, a, b, c⟩
  | n + 1, h => by
    have ih := jsl_eq hK q a b c hne k0 k1 n (by omega)
    unfold jslE jslC
    rw [hne]
    by_cases e : jbit (A 13 k) (n : Int)
    · rw [if_pos e, if_pos e]
      exact jsd_eq (jslC_K hK k0 k1 n (by omega)) ih.1 ih.2.1 ih.2.2.1 ih.2.2.2 _ _
    · rw [if_neg e, if_neg e]
      exact ih
theorem jmv_rows {M M1 : jMem} {k p c : Int} (hE : jEq M) (f40 : M1 40 = M 40) (f38 : M1 38 = M 38) (f39 : M1 39 = M 39) :
    jmvE M1 k p c 40 = jmvC M k p c 10 ∧ jmvE M1 k p c 39 = jmvC M k p c 16 ∧ jmvE M1 k p c 38 = jmvC M k p c 17 ∧ jmvE M1 k p c 38 c - 1 = jlvC M k p 17 c := by
  have a1 : jlvE M1 k p 38 = jlvC M k p 17 := by
    unfold jlvE jlvC
    simp (disch := decide) only [jup_r, jup_s, jblk_r, jblk_s, jcb_r, jcb_s, jcpy_r, jcpy_s, jfu_s, jfu_o]
    rw [f38, f40, jq_many hE, jq_court hE]
  have a2 : jlvE M1 k p 39 = jlvC M k p 16 := by
    unfold jlvE jlvC
    simp (disch := decide) only [jup_r, jup_s, jblk_r, jblk_s, jcb_r, jcb_s, jcpy_r, jcpy_s, jfu_s, jfu_o]
    rw [f38, f39, f40, jq_many hE, jq_court hE, jq_list hE, Int.mul_comm (M 10 k) 6, Int.add_sub_assoc]
  have a3 : jlvE M1 k p 40 = jlvC M k p 10 := by
    unfold jlvE jlvC
    simp (disch := decide) only [jup_r, jup_s, jblk_r, jblk_s, jcb_r, jcb_s, jcpy_r, jcpy_s, jfu_s, jfu_o]
    rw [f40, jq_court hE]
  have a4 : jmvE M1 k p c 38 = jfu (jlvE M1 k p 38) c (jlvE M1 k p 38 c + 1) := by
    unfold jmvE
    simp (disch := decide) only [jup_r, jup_s, jblk_r, jblk_s, jcb_r, jcb_s, jcpy_r, jcpy_s, jfu_s, jfu_o]
  refine ⟨?_, ?_, ?_, ?_⟩
  · unfold jmvE jmvC
    simp (disch := decide) only [jup_r, jup_s, jblk_r, jblk_s, jcb_r, jcb_s, jcpy_r, jcpy_s, jfu_s, jfu_o]
    rw [a3]
  · unfold jmvE jmvC
    simp (disch := decide) only [jup_r, jup_s, jblk_r, jblk_s, jcb_r, jcb_s, jcpy_r, jcpy_s, jfu_s, jfu_o]
    rw [a2, a1, Int.mul_comm c 6]
  · rw [a4, a1]
    unfold jmvC
    simp (disch := decide) only [jup_r, jup_s, jblk_r, jblk_s, jcb_r, jcb_s, jcpy_r, jcpy_s, jfu_s, jfu_o]
  · rw [a4, jfu_s, a1]
    omega
theorem jmvC_r {M : jMem} {k p c : Int} {a : Nat} (h : a ≠ 10 ∧ a ≠ 16 ∧ a ≠ 17) : jmvC M k p c a = M a := by
  unfold jmvC jlvC
  rw [jup_r h.1, jup_r h.2.2, jup_r h.2.1, jup_r h.2.2, jblk_r h.2.1]
theorem jmvE_r {M : jMem} {k p c : Int} {a : Nat} (h : a ≠ 40 ∧ a ≠ 39 ∧ a ≠ 38) : jmvE M k p c a = M a := by
  unfold jmvE jlvE
  rw [jup_r h.2.2, jup_r h.2.1, jup_r h.1, jblk_r h.2.1, jup_r h.2.2]
theorem jslC_r {M : jMem} {k : Int} {a : Nat} (n : Nat) (h : a ≠ 33 ∧ a ≠ 34 ∧ a ≠ 6) : jslC M k n a = M a := funext (jslC_ne h n)
theorem jslE_r {M : jMem} {k : Int} {a : Nat} (n : Nat) (h : a ≠ 50 ∧ a ≠ 51 ∧ a ≠ 52 ∧ a ≠ 8) : jslE M k n a = M a := funext (jslE_ne h n)
theorem jsl_ne1 {M : jMem} {k p c : Int} {n : Nat} {a : Nat} (h : a ≠ 33 ∧ a ≠ 34 ∧ a ≠ 6) (h2 : a ≠ 10 ∧ a ≠ 16 ∧ a ≠ 17) : jslC (jmvC M k p c) k n a = M a := (jslC_r n h).trans (jmvC_r h2)
theorem jJ_move {M : jMem} {k p c : Int} (hJ : jJ M) (k0 : 0 ≤ k) (k1 : k < M 1 8) (c0 : 0 ≤ c) (c1 : c ≤ 2) (hf : c = M 10 k ∨ M 17 c < 6) (hp : jpl M k p) :
    jJ (jslE (jmvE (jslC (jmvC M k p c) k (M 2 3).toNat) k p c) k (M 8 8).toNat) := by
  have hK := hJ.1
  have hE := hJ.2.1
  have hz := jn1 hK
  have hKA := (jmvC_K hK k0 k1 hp c0 (by omega) hf).1
  have hK1 : jK (jslC (jmvC M k p c) k (M 2 3).toNat) := jslC_K hKA k0 (by omega) _ (by omega)
  have m1 : ∀ a, (a ≠ 33 ∧ a ≠ 34 ∧ a ≠ 6) → (a ≠ 10 ∧ a ≠ 16 ∧ a ≠ 17) → jslC (jmvC M k p c) k (M 2 3).toNat a = M a := fun a h h2 => jsl_ne1 h h2
  have mr := jmv_rows (k := k) (p := p) (c := c) hE (m1 40 (by decide) (by decide)) (m1 38 (by decide) (by decide)) (m1 39 (by decide) (by decide))
  have hp2 : (M 8 8).toNat = (M 2 3).toNat := by rw [jq_witnesses hE]
  have nn := jsl_eq (k := k) (B := jmvE (jslC (jmvC M k p c) k (M 2 3).toNat) k p c) hKA
    ((congrFun (jmvE_r (by decide)) 14).trans ((congrFun (m1 8 (by decide) (by decide)) 14).trans ((jq_notices hE).trans (congrFun (jmvC_r (by decide)) 3).symm)))
    ((jmvE_r (by decide)).trans ((m1 50 (by decide) (by decide)).trans ((jq_nWho hE).trans (jmvC_r (by decide)).symm)))
    ((jmvE_r (by decide)).trans ((m1 51 (by decide) (by decide)).trans ((jq_nCase hE).trans (jmvC_r (by decide)).symm)))
    ((jmvE_r (by decide)).trans ((m1 52 (by decide) (by decide)).trans ((jq_nRead hE).trans (jmvC_r (by decide)).symm)))
    (congrFun ((jmvE_r (by decide)).trans ((m1 43 (by decide) (by decide)).trans ((jq_sets hE).trans (jmvC_r (by decide)).symm))) k) k0 (by omega) (M 2 3).toNat (by omega)
  rw [hp2]
  have xr : ∀ a, ((a ≠ 50 ∧ a ≠ 51 ∧ a ≠ 52 ∧ a ≠ 8) ∧ (a ≠ 40 ∧ a ≠ 39 ∧ a ≠ 38)) → jslE (jmvE (jslC (jmvC M k p c) k (M 2 3).toNat) k p c) k (M 2 3).toNat a = jslC (jmvC M k p c) k (M 2 3).toNat a := fun a h => (jslE_r _ h.1).trans (jmvE_r h.2)
  have hE2 := hE
  unfold jEq at hE2
  obtain ⟨e1, e2, e3, e4, e5, e6, e7, e8, e9, e10, e11, e12, e13, e14, e15, e16, e17, e18, e19, ec⟩ := hE2
  refine ⟨?_, ?_, ?_⟩
  · unfold jK
    rw [xr 1 (by decide), xr 2 (by decide), xr 6 (by decide), xr 9 (by decide), xr 10 (by decide), xr 11 (by decide), xr 12 (by decide), xr 13 (by decide), xr 14 (by decide), xr 15 (by decide), xr 16 (by decide), xr 17 (by decide), xr 18 (by decide), xr 19 (by decide), xr 20 (by decide), xr 33 (by decide), xr 34 (by decide), xr 35 (by decide), xr 36 (by decide), xr 37 (by decide)]
    exact hK1
  · refine ⟨(jslE_8 (by decide) _).trans ((congrFun (jmvE_r (by decide)) 2).trans ((congrFun (m1 8 (by decide) (by decide)) 2).trans (e1.trans (congrFun ((xr 1 (by decide)).trans (m1 1 (by decide) (by decide))) 8).symm))),
      (jslE_8 (by decide) _).trans ((congrFun (jmvE_r (by decide)) 8).trans ((congrFun (m1 8 (by decide) (by decide)) 8).trans (e2.trans (congrFun ((xr 2 (by decide)).trans (m1 2 (by decide) (by decide))) 3).symm))),
      nn.1.trans (congrFun (xr 6 (by decide)) 3).symm,
      (jslE_r _ (by decide)).trans ((jmvE_r (by decide)).trans ((m1 49 (by decide) (by decide)).trans (e4.trans ((xr 9 (by decide)).trans (m1 9 (by decide) (by decide))).symm))),
      (jslE_r _ (by decide)).trans (mr.1.trans ((jslC_r _ (by decide)).symm.trans (xr 10 (by decide)).symm)),
      (jslE_r _ (by decide)).trans ((jmvE_r (by decide)).trans ((m1 41 (by decide) (by decide)).trans (e6.trans ((xr 11 (by decide)).trans (m1 11 (by decide) (by decide))).symm))),
      (jslE_r _ (by decide)).trans ((jmvE_r (by decide)).trans ((m1 42 (by decide) (by decide)).trans (e7.trans ((xr 12 (by decide)).trans (m1 12 (by decide) (by decide))).symm))),
      (jslE_r _ (by decide)).trans ((jmvE_r (by decide)).trans ((m1 43 (by decide) (by decide)).trans (e8.trans ((xr 13 (by decide)).trans (m1 13 (by decide) (by decide))).symm))),
      (jslE_r _ (by decide)).trans ((jmvE_r (by decide)).trans ((m1 44 (by decide) (by decide)).trans (e9.trans ((xr 14 (by decide)).trans (m1 14 (by decide) (by decide))).symm))),
      (jslE_r _ (by decide)).trans (mr.2.1.trans ((jslC_r _ (by decide)).symm.trans (xr 16 (by decide)).symm)),
      (jslE_r _ (by decide)).trans (mr.2.2.1.trans ((jslC_r _ (by decide)).symm.trans (xr 17 (by decide)).symm)),
      (jslE_r _ (by decide)).trans ((jmvE_r (by decide)).trans ((m1 45 (by decide) (by decide)).trans (e12.trans ((xr 18 (by decide)).trans (m1 18 (by decide) (by decide))).symm))),
      (jslE_r _ (by decide)).trans ((jmvE_r (by decide)).trans ((m1 46 (by decide) (by decide)).trans (e13.trans ((xr 19 (by decide)).trans (m1 19 (by decide) (by decide))).symm))),
      (jslE_r _ (by decide)).trans ((jmvE_r (by decide)).trans ((m1 47 (by decide) (by decide)).trans (e14.trans ((xr 20 (by decide)).trans (m1 20 (by decide) (by decide))).symm))),
      nn.2.1.trans (xr 33 (by decide)).symm,
      nn.2.2.1.trans (xr 34 (by decide)).symm,
      nn.2.2.2.trans (xr 35 (by decide)).symm,
      (jslE_r _ (by decide)).trans ((jmvE_r (by decide)).trans ((m1 54 (by decide) (by decide)).trans (e18.trans ((xr 36 (by decide)).trans (m1 36 (by decide) (by decide))).symm))),
      (jslE_r _ (by decide)).trans ((jmvE_r (by decide)).trans ((m1 53 (by decide) (by decide)).trans (e19.trans ((xr 37 (by decide)).trans (m1 37 (by decide) (by decide))).symm))), ?_⟩
    rw [xr 13 (by decide), xr 15 (by decide), m1 13 (by decide) (by decide), m1 15 (by decide) (by decide), show jslE (jmvE (jslC (jmvC M k p c) k (M 2 3).toNat) k p c) k (M 2 3).toNat 48 = M 48 from (jslE_r _ (by decide)).trans ((jmvE_r (by decide)).trans (m1 48 (by decide) (by decide)))]
    exact ec
  · rw [show jslE (jmvE (jslC (jmvC M k p c) k (M 2 3).toNat) k p c) k (M 2 3).toNat 48 = M 48 from (jslE_r _ (by decide)).trans ((jmvE_r (by decide)).trans (m1 48 (by decide) (by decide)))]
    exact hJ.2.2
theorem g_move {G : jG} {M : jMem} {k c : Int} (hJ : jJ M) (r0 : jR k) (r1 : jR c) : jN G mX7_move 30 [.ref (jad G 0), .int (jI k), .int (jI c)] M (fun v9 M9 => jN G mX8_move 30 [.ref (jad G 8), .int (jI k), .int (jI c)] M9 (jP v9)) := by
  have hE := hJ.2.1
  have hO := jJ_O hJ
  have q1 := jq_cases hE
  have q2 := jq_witnesses hE
  have q3 := jq_notices hE
  have hz := jn1 hJ.1
  refine c_move hJ.1 r0 r1 ?_ ?_ ?_
  · intro h
    refine e_move hO r0 r1 (fun _ => ⟨_, rfl, rfl, hJ⟩) ?_ ?_
    all_goals (intros; exfalso; omega)
  · intro x0 x1 x2 x3 x4 x5
    refine e_move hO r0 r1 ?_ (fun _ _ _ _ _ _ => ⟨_, rfl, rfl, hJ⟩) ?_
    · intro y; exfalso; omega
    · rw [jq_court hE, jq_many hE]
      intros; exfalso; omega
  · intro x0 x1 x2 x3 x4 p hp
    have m1 : ∀ a, (a ≠ 33 ∧ a ≠ 34 ∧ a ≠ 6) → (a ≠ 10 ∧ a ≠ 16 ∧ a ≠ 17) → jslC (jmvC M k p c) k (M 2 3).toNat a = M a := fun a h h2 => jsl_ne1 h h2
    have hO1 : jO (jslC (jmvC M k p c) k (M 2 3).toNat) := by
      unfold jO
      rw [m1 8 (by decide) (by decide), m1 38 (by decide) (by decide), m1 39 (by decide) (by decide), m1 40 (by decide) (by decide), m1 41 (by decide) (by decide), m1 42 (by decide) (by decide), m1 43 (by decide) (by decide), m1 44 (by decide) (by decide), m1 45 (by decide) (by decide), m1 46 (by decide) (by decide), m1 47 (by decide) (by decide), m1 48 (by decide) (by decide), m1 49 (by decide) (by decide), m1 50 (by decide) (by decide), m1 51 (by decide) (by decide), m1 52 (by decide) (by decide), m1 53 (by decide) (by decide), m1 54 (by decide) (by decide)]
      exact hO
    have b8 := m1 8 (by decide) (by decide)
    have b38 := m1 38 (by decide) (by decide)
    have b39 := m1 39 (by decide) (by decide)
    have b40 := m1 40 (by decide) (by decide)
    refine e_move hO1 r0 r1 ?_ ?_ ?_
    · rw [b8]
      intro y; exfalso; omega
    · rw [b8, b38, b40, jq_court hE, jq_many hE]
      intros; exfalso; omega
    · rw [b8]
      intro y0 y1 y2 y3 y4 p2 hp2
      have hpp : p = p2 := by
        refine jpl_u hp ((jpl_E hE).mp ?_)
        unfold jplo at hp2 ⊢
        rw [b38, b39, b40] at hp2
        exact hp2
      subst hpp
      have mr := jmv_rows (k := k) (p := p) (c := c) hE b40 b38 b39
      exact ⟨_, rfl, by rw [mr.2.2.2], jJ_move hJ x0 x1 x2 x3 x4 hp⟩
