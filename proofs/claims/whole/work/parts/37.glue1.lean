theorem g_waited {G : jG} {M : jMem} {v k : Int} (hJ : jJ M) (r0 : jR v) (r1 : jR k) : jN G mX7_waited 30 [.ref (jad G 0), .int (jI v), .int (jI k)] M (fun v9 M9 => jN G mX8_waited 30 [.ref (jad G 8), .int (jI v), .int (jI k)] M9 (jP v9)) := by
  have hE := hJ.2.1
  have hO := jJ_O hJ
  have q1 := jq_cases hE
  have q2 := jq_witnesses hE
  have q3 := jq_notices hE
  have fin : ∀ (N : jMem) (_ : jFC M N) (x : Int), (∀ (Q : Option Value → jMem → Prop), (∀ N2, jFE N N2 → Q (some (.long (jL x))) N2) → jN G mX8_waited 30 [.ref (jad G 8), .int (jI v), .int (jI k)] N Q) → jN G mX8_waited 30 [.ref (jad G 8), .int (jI v), .int (jI k)] N (jP (some (.long (jL x)))) := fun N hN x h => h _ (fun N2 h2 => ⟨x, rfl, rfl, jJ_E h2 (jJ_C hN hJ)⟩)
  refine c_waited hJ.1 r0 r1 ?_ ?_ ?_
  · intro h
    refine e_waited hO r0 r1 ?_ ?_ ?_
    all_goals first
      | (intros; exfalso; omega)
      | (intros; exact ⟨_, rfl, rfl, hJ⟩)
  · intro x0 x1 x2 x3 xb
    refine e_waited hO r0 r1 ?_ ?_ ?_
    all_goals try rw [jq_sets hE]
    all_goals first
      | (intros; exfalso; omega)
      | (intros; contradiction)
      | (intros; exact ⟨_, rfl, rfl, hJ⟩)
  · intro x0 x1 x2 x3 xb N hN
    have hJN := jJ_C hN hJ
    have hEN := hJN.2.1
    have hON := jJ_O hJN
    have k1 := jq_cases hEN
    have k2 := jq_witnesses hEN
    have n1 := congrFun (hN 1 (by decide) (by decide)) 8
    have n2 := congrFun (hN 2 (by decide) (by decide)) 3
    have hday : jdy (N 8 2) (N 8 8) (N 39) (N 38) (N 43) (N 44) (N 41) (jclE N) 200 = jdy (M 1 8) (M 2 3) (M 16) (M 17) (M 13) (M 14) (M 11) (jclC M) 200 := by
      rw [jcl_eq hEN, jcl_C hN, jq_list hEN, jq_many hEN, jq_sets hEN, jq_fates hEN, jq_length hEN, k1, k2, n1, n2, hN 16 (by decide) (by decide), hN 17 (by decide) (by decide), hN 13 (by decide) (by decide), hN 14 (by decide) (by decide), hN 11 (by decide) (by decide)]
    have f44 : N 44 = M 14 := (jq_fates hEN).trans (hN 14 (by decide) (by decide))
    have f43 : N 43 = M 13 := (jq_sets hEN).trans (hN 13 (by decide) (by decide))
    have fcl : jclE N = jclC M := (jcl_eq hEN).trans (jcl_C hN)
    refine fin N hN _ (fun Q hq => ?_)
    refine e_waited hON r0 r1 ?_ ?_ ?_
    all_goals try rw [hday]
    all_goals try rw [fcl]
    all_goals try rw [f43]
    all_goals try rw [f44]
    all_goals try rw [k1, n1]
    all_goals try rw [k2, n2]
    all_goals generalize jdy (M 1 8) (M 2 3) (M 16) (M 17) (M 13) (M 14) (M 11) (jclC M) 200 = σ at *
    all_goals first
      | (intros; apply hq; assumption)
      | (intros; exfalso; omega)
      | (intros; contradiction)

theorem g_idle {G : jG} {M : jMem} {c v : Int} (hJ : jJ M) (r0 : jR c) (r1 : jR v) : jN G mX7_idle 30 [.ref (jad G 0), .int (jI c), .int (jI v)] M (fun v9 M9 => jN G mX8_idle 30 [.ref (jad G 8), .int (jI c), .int (jI v)] M9 (jP v9)) := by
  have hE := hJ.2.1
  have hO := jJ_O hJ
  have q1 := jq_cases hE
  have q2 := jq_witnesses hE
  have q3 := jq_notices hE
  have fin : ∀ (N : jMem) (_ : jFC M N) (x : Int), (∀ (Q : Option Value → jMem → Prop), (∀ N2, jFE N N2 → Q (some (.long (jL x))) N2) → jN G mX8_idle 30 [.ref (jad G 8), .int (jI c), .int (jI v)] N Q) → jN G mX8_idle 30 [.ref (jad G 8), .int (jI c), .int (jI v)] N (jP (some (.long (jL x)))) := fun N hN x h => h _ (fun N2 h2 => ⟨x, rfl, rfl, jJ_E h2 (jJ_C hN hJ)⟩)
  refine c_idle hJ.1 r0 r1 ?_ ?_
  · intro h
    refine e_idle hO r0 r1 ?_ ?_
    all_goals first
      | (intros; exfalso; omega)
      | (intros; exact ⟨_, rfl, rfl, hJ⟩)
  · intro x0 x1 x2 x3 N hN
    have hJN := jJ_C hN hJ
    have hEN := hJN.2.1
    have hON := jJ_O hJN
    have k1 := jq_cases hEN
    have k2 := jq_witnesses hEN
    have n1 := congrFun (hN 1 (by decide) (by decide)) 8
    have n2 := congrFun (hN 2 (by decide) (by decide)) 3
    have hday : jdy (N 8 2) (N 8 8) (N 39) (N 38) (N 43) (N 44) (N 41) (jclE N) 200 = jdy (M 1 8) (M 2 3) (M 16) (M 17) (M 13) (M 14) (M 11) (jclC M) 200 := by
      rw [jcl_eq hEN, jcl_C hN, jq_list hEN, jq_many hEN, jq_sets hEN, jq_fates hEN, jq_length hEN, k1, k2, n1, n2, hN 16 (by decide) (by decide), hN 17 (by decide) (by decide), hN 13 (by decide) (by decide), hN 14 (by decide) (by decide), hN 11 (by decide) (by decide)]
    have f44 : N 44 = M 14 := (jq_fates hEN).trans (hN 14 (by decide) (by decide))
    have f43 : N 43 = M 13 := (jq_sets hEN).trans (hN 13 (by decide) (by decide))
    have fcl : jclE N = jclC M := (jcl_eq hEN).trans (jcl_C hN)
    refine fin N hN _ (fun Q hq => ?_)
    refine e_idle hON r0 r1 ?_ ?_
    all_goals try rw [hday]
    all_goals try rw [fcl]
    all_goals try rw [f43]
    all_goals try rw [f44]
    all_goals try rw [k1, n1]
    all_goals try rw [k2, n2]
    all_goals generalize jdy (M 1 8) (M 2 3) (M 16) (M 17) (M 13) (M 14) (M 11) (jclC M) 200 = σ at *
    all_goals first
      | (intros; apply hq; assumption)
      | (intros; exfalso; omega)

theorem g_waits {G : jG} {M : jMem} (hJ : jJ M)  : jN G mX7_waits 30 [.ref (jad G 0)] M (fun v9 M9 => jN G mX8_waits 30 [.ref (jad G 8)] M9 (jP v9)) := by
  have hE := hJ.2.1
  have hO := jJ_O hJ
  have q1 := jq_cases hE
  have q2 := jq_witnesses hE
  have q3 := jq_notices hE
  have fin : ∀ (N : jMem) (_ : jFC M N) (x : Int), (∀ (Q : Option Value → jMem → Prop), (∀ N2, jFE N N2 → Q (some (.long (jL x))) N2) → jN G mX8_waits 30 [.ref (jad G 8)] N Q) → jN G mX8_waits 30 [.ref (jad G 8)] N (jP (some (.long (jL x)))) := fun N hN x h => h _ (fun N2 h2 => ⟨x, rfl, rfl, jJ_E h2 (jJ_C hN hJ)⟩)
  refine c_waits hJ.1  ?_
  · intro N hN
    have hJN := jJ_C hN hJ
    have hEN := hJN.2.1
    have hON := jJ_O hJN
    have k1 := jq_cases hEN
    have k2 := jq_witnesses hEN
    have n1 := congrFun (hN 1 (by decide) (by decide)) 8
    have n2 := congrFun (hN 2 (by decide) (by decide)) 3
    have hday : jdy (N 8 2) (N 8 8) (N 39) (N 38) (N 43) (N 44) (N 41) (jclE N) 200 = jdy (M 1 8) (M 2 3) (M 16) (M 17) (M 13) (M 14) (M 11) (jclC M) 200 := by
      rw [jcl_eq hEN, jcl_C hN, jq_list hEN, jq_many hEN, jq_sets hEN, jq_fates hEN, jq_length hEN, k1, k2, n1, n2, hN 16 (by decide) (by decide), hN 17 (by decide) (by decide), hN 13 (by decide) (by decide), hN 14 (by decide) (by decide), hN 11 (by decide) (by decide)]
    have f44 : N 44 = M 14 := (jq_fates hEN).trans (hN 14 (by decide) (by decide))
    have f43 : N 43 = M 13 := (jq_sets hEN).trans (hN 13 (by decide) (by decide))
    have fcl : jclE N = jclC M := (jcl_eq hEN).trans (jcl_C hN)
    refine fin N hN _ (fun Q hq => ?_)
    refine e_waits hON  ?_
    all_goals try rw [hday]
    all_goals try rw [fcl]
    all_goals try rw [f43]
    all_goals try rw [f44]
    all_goals try rw [k1, n1]
    all_goals try rw [k2, n2]
    all_goals generalize jdy (M 1 8) (M 2 3) (M 16) (M 17) (M 13) (M 14) (M 11) (jclC M) 200 = σ at *
    all_goals first
      | (intros; apply hq; assumption)
      | (intros; exfalso; omega)

