theorem jO_C {M N : jMem} (f : jFC M N) (h : jO M) : jO N := jO_cong (congrFun (f 8 (by decide) (by decide)) 2) (congrFun (f 8 (by decide) (by decide)) 8) (congrFun (f 8 (by decide) (by decide)) 14) (f 49 (by decide) (by decide)) (f 40 (by decide) (by decide)) (f 41 (by decide) (by decide)) (f 42 (by decide) (by decide)) (f 43 (by decide) (by decide)) (f 44 (by decide) (by decide)) (f 48 (by decide) (by decide)) (f 39 (by decide) (by decide)) (f 38 (by decide) (by decide)) (f 45 (by decide) (by decide)) (f 46 (by decide) (by decide)) (f 47 (by decide) (by decide)) (f 50 (by decide) (by decide)) (f 51 (by decide) (by decide)) (f 52 (by decide) (by decide)) (f 54 (by decide) (by decide)) (f 53 (by decide) (by decide)) h
theorem jK_E {M N : jMem} (f : jFE M N) (h : jK M) : jK N := jK_cong (congrFun (f.1 1 (by decide) (by decide)) 8) (congrFun (f.1 2 (by decide) (by decide)) 3) (congrFun (f.1 6 (by decide) (by decide)) 3) (f.1 9 (by decide) (by decide)) (f.1 10 (by decide) (by decide)) (f.1 11 (by decide) (by decide)) (f.1 12 (by decide) (by decide)) (f.1 13 (by decide) (by decide)) (f.1 14 (by decide) (by decide)) (f.1 15 (by decide) (by decide)) (f.1 16 (by decide) (by decide)) (f.1 17 (by decide) (by decide)) (f.1 18 (by decide) (by decide)) (f.1 19 (by decide) (by decide)) (f.1 20 (by decide) (by decide)) (f.1 33 (by decide) (by decide)) (f.1 34 (by decide) (by decide)) (f.1 35 (by decide) (by decide)) (f.1 36 (by decide) (by decide)) (f.1 37 (by decide) (by decide)) h
theorem jEq_C {M N : jMem} (f : jFC M N) (h : jEq M) : jEq N := by
  obtain ⟨e1, e2, e3, e4, e5, e6, e7, e8, e9, e10, e11, e12, e13, e14, e15, e16, e17, e18, e19, ec⟩ := h
  refine ⟨(congrFun (f 8 (by decide) (by decide)) 2).trans (e1.trans (congrFun (f 1 (by decide) (by decide)) 8).symm), (congrFun (f 8 (by decide) (by decide)) 8).trans (e2.trans (congrFun (f 2 (by decide) (by decide)) 3).symm), (congrFun (f 8 (by decide) (by decide)) 14).trans (e3.trans (congrFun (f 6 (by decide) (by decide)) 3).symm), (f 49 (by decide) (by decide)).trans (e4.trans (f 9 (by decide) (by decide)).symm), (f 40 (by decide) (by decide)).trans (e5.trans (f 10 (by decide) (by decide)).symm), (f 41 (by decide) (by decide)).trans (e6.trans (f 11 (by decide) (by decide)).symm), (f 42 (by decide) (by decide)).trans (e7.trans (f 12 (by decide) (by decide)).symm), (f 43 (by decide) (by decide)).trans (e8.trans (f 13 (by decide) (by decide)).symm), (f 44 (by decide) (by decide)).trans (e9.trans (f 14 (by decide) (by decide)).symm), (f 39 (by decide) (by decide)).trans (e10.trans (f 16 (by decide) (by decide)).symm), (f 38 (by decide) (by decide)).trans (e11.trans (f 17 (by decide) (by decide)).symm), (f 45 (by decide) (by decide)).trans (e12.trans (f 18 (by decide) (by decide)).symm), (f 46 (by decide) (by decide)).trans (e13.trans (f 19 (by decide) (by decide)).symm), (f 47 (by decide) (by decide)).trans (e14.trans (f 20 (by decide) (by decide)).symm), (f 50 (by decide) (by decide)).trans (e15.trans (f 33 (by decide) (by decide)).symm), (f 51 (by decide) (by decide)).trans (e16.trans (f 34 (by decide) (by decide)).symm), (f 52 (by decide) (by decide)).trans (e17.trans (f 35 (by decide) (by decide)).symm), (f 54 (by decide) (by decide)).trans (e18.trans (f 36 (by decide) (by decide)).symm), (f 53 (by decide) (by decide)).trans (e19.trans (f 37 (by decide) (by decide)).symm), fun k v k0 k1 v0 v1 hb => ?_⟩
  rw [f 13 (by decide) (by decide)] at hb
  rw [f 48 (by decide) (by decide), f 15 (by decide) (by decide)]
  exact ec k v k0 k1 v0 v1 hb
theorem jEq_E {M N : jMem} (f : jFE M N) (h : jEq M) : jEq N := by
  obtain ⟨e1, e2, e3, e4, e5, e6, e7, e8, e9, e10, e11, e12, e13, e14, e15, e16, e17, e18, e19, ec⟩ := h
  refine ⟨(f.2 2 (by decide)).trans (e1.trans (congrFun (f.1 1 (by decide) (by decide)) 8).symm), (f.2 8 (by decide)).trans (e2.trans (congrFun (f.1 2 (by decide) (by decide)) 3).symm), (f.2 14 (by decide)).trans (e3.trans (congrFun (f.1 6 (by decide) (by decide)) 3).symm), (f.1 49 (by decide) (by decide)).trans (e4.trans (f.1 9 (by decide) (by decide)).symm), (f.1 40 (by decide) (by decide)).trans (e5.trans (f.1 10 (by decide) (by decide)).symm), (f.1 41 (by decide) (by decide)).trans (e6.trans (f.1 11 (by decide) (by decide)).symm), (f.1 42 (by decide) (by decide)).trans (e7.trans (f.1 12 (by decide) (by decide)).symm), (f.1 43 (by decide) (by decide)).trans (e8.trans (f.1 13 (by decide) (by decide)).symm), (f.1 44 (by decide) (by decide)).trans (e9.trans (f.1 14 (by decide) (by decide)).symm), (f.1 39 (by decide) (by decide)).trans (e10.trans (f.1 16 (by decide) (by decide)).symm), (f.1 38 (by decide) (by decide)).trans (e11.trans (f.1 17 (by decide) (by decide)).symm), (f.1 45 (by decide) (by decide)).trans (e12.trans (f.1 18 (by decide) (by decide)).symm), (f.1 46 (by decide) (by decide)).trans (e13.trans (f.1 19 (by decide) (by decide)).symm), (f.1 47 (by decide) (by decide)).trans (e14.trans (f.1 20 (by decide) (by decide)).symm), (f.1 50 (by decide) (by decide)).trans (e15.trans (f.1 33 (by decide) (by decide)).symm), (f.1 51 (by decide) (by decide)).trans (e16.trans (f.1 34 (by decide) (by decide)).symm), (f.1 52 (by decide) (by decide)).trans (e17.trans (f.1 35 (by decide) (by decide)).symm), (f.1 54 (by decide) (by decide)).trans (e18.trans (f.1 36 (by decide) (by decide)).symm), (f.1 53 (by decide) (by decide)).trans (e19.trans (f.1 37 (by decide) (by decide)).symm), fun k v k0 k1 v0 v1 hb => ?_⟩
  rw [f.1 13 (by decide) (by decide)] at hb
  rw [f.1 48 (by decide) (by decide), f.1 15 (by decide) (by decide)]
  exact ec k v k0 k1 v0 v1 hb
theorem jJ_C {M N : jMem} (f : jFC M N) (h : jJ M) : jJ N := ⟨jK_C f h.1, jEq_C f h.2.1, by rw [f 48 (by decide) (by decide)]; exact h.2.2⟩
theorem jJ_E {M N : jMem} (f : jFE M N) (h : jJ M) : jJ N := ⟨jK_E f h.1, jEq_E f h.2.1, by rw [f.1 48 (by decide) (by decide)]; exact h.2.2⟩
theorem jcl_eq {M : jMem} (h : jEq M) : jclE M = jclC M := by
  funext k v
  unfold jclE jclC
  rw [jq_sets h]
  by_cases q : (0 ≤ k ∧ k < 12) ∧ (0 ≤ v ∧ v < 10) ∧ jbit (M 13 k) v
  · rw [if_pos q, if_pos q]; exact jq_calls h k v q.1.1 q.1.2 q.2.1.1 q.2.1.2 q.2.2
  · rw [if_neg q, if_neg q]
theorem jcl_C {M N : jMem} (f : jFC M N) : jclC N = jclC M := by
  funext k v
  unfold jclC
  rw [f 13 (by decide) (by decide), f 15 (by decide) (by decide)]
theorem jpl_E {M : jMem} (h : jEq M) {k p : Int} : jplo M k p ↔ jpl M k p := by
  unfold jplo jpl
  rw [jq_many h, jq_court h, jq_list h]
theorem jpl_C {M N : jMem} (f : jFC M N) {k p : Int} : jpl N k p ↔ jpl M k p := by
  unfold jpl
  rw [f 10 (by decide) (by decide), f 16 (by decide) (by decide), f 17 (by decide) (by decide)]
theorem jpl_u {M : jMem} {k p q : Int} (h : jpl M k p) (g : jpl M k q) : p = q := by
  by_cases e : p = q
  · exact e
  · by_cases l : p < q
    · exact absurd h.2.2.1 (g.2.2.2 p h.1 l)
    · exact absurd g.2.2.1 (h.2.2.2 q g.1 (by omega))
theorem g_isOf {G : jG} {M : jMem} {k v : Int} (hJ : jJ M) (r0 : jR k) (r1 : jR v) : jN G mX7_isOf 30 [.ref (jad G 0), .int (jI k), .int (jI v)] M (fun v9 M9 => jN G mX8_isOf 30 [.ref (jad G 8), .int (jI k), .int (jI v)] M9 (jP v9)) := by
  have hE := hJ.2.1
  have hO := jJ_O hJ
  have q1 := jq_cases hE
  have q2 := jq_witnesses hE
  have q3 := jq_notices hE
  refine c_isOf hJ.1 r0 r1 ?_ ?_
  · intro h
    refine e_isOf hO r0 r1 ?_ ?_
    · intro h2
      exact ⟨_, rfl, rfl, hJ⟩
    · intro y0 y1 y2 y3
      exfalso; omega
  · intro x0 x1 x2 x3
    refine e_isOf hO r0 r1 ?_ ?_
    · intro h2
      exfalso; omega
    · intro y0 y1 y2 y3
      refine ⟨_, rfl, ?_, hJ⟩
      simp only [jq_kind hE]

theorem g_called {G : jG} {M : jMem} {v k : Int} (hJ : jJ M) (r0 : jR v) (r1 : jR k) : jN G mX7_called 30 [.ref (jad G 0), .int (jI v), .int (jI k)] M (fun v9 M9 => jN G mX8_called 30 [.ref (jad G 8), .int (jI v), .int (jI k)] M9 (jP v9)) := by
  have hE := hJ.2.1
  have hO := jJ_O hJ
  have q1 := jq_cases hE
  have q2 := jq_witnesses hE
  have q3 := jq_notices hE
  refine c_called hJ.1 r0 r1 ?_ ?_ ?_
  · intro h
    refine e_called hO r0 r1 ?_ ?_ ?_
    · intro h2
      exact ⟨_, rfl, rfl, hJ⟩
    · intro y0 y1 y2 y3 yb
      first
        | (exfalso; omega)
        | (rw [jq_sets hE] at yb; exact absurd xb yb)
    · intro y0 y1 y2 y3 yb
      first
        | (exfalso; omega)
        | (rw [jq_sets hE] at yb; exact absurd yb xb)
  · intro x0 x1 x2 x3 xb
    refine e_called hO r0 r1 ?_ ?_ ?_
    · intro h2
      exfalso; omega
    · intro y0 y1 y2 y3 yb
      exact ⟨_, rfl, rfl, hJ⟩
    · intro y0 y1 y2 y3 yb
      first
        | (exfalso; omega)
        | (rw [jq_sets hE] at yb; exact absurd yb xb)
  · intro x0 x1 x2 x3 xb
    refine e_called hO r0 r1 ?_ ?_ ?_
    · intro h2
      exfalso; omega
    · intro y0 y1 y2 y3 yb
      first
        | (exfalso; omega)
        | (rw [jq_sets hE] at yb; exact absurd xb yb)
    · intro y0 y1 y2 y3 yb
      have hz := jn1 hJ.1
      refine ⟨_, rfl, ?_, hJ⟩
      rw [jq_calls hE k v x2 (by omega) x0 (by omega) xb]

theorem g_told {G : jG} {M : jMem} {k v : Int} (hJ : jJ M) (r0 : jR k) (r1 : jR v) : jN G mX7_told 30 [.ref (jad G 0), .int (jI k), .int (jI v)] M (fun v9 M9 => jN G mX8_told 30 [.ref (jad G 8), .int (jI k), .int (jI v)] M9 (jP v9)) := by
  have hE := hJ.2.1
  have hO := jJ_O hJ
  have q1 := jq_cases hE
  have q2 := jq_witnesses hE
  have q3 := jq_notices hE
  refine c_told hJ.1 r0 r1 ?_ ?_ ?_ ?_ ?_ ?_ ?_ ?_
  · intro h
    refine e_told hO r0 r1 ?_ ?_ ?_ ?_ ?_ ?_ ?_ ?_
    · intro h2
      exact ⟨_, rfl, rfl, hJ⟩
    · intro w0 w1 y1
      exfalso; omega
    · intro w0 w1 y1 p2 hp2
      exfalso; omega
    · intro w0 w1 y1
      exfalso; omega
    · intro w0 w1 y1
      exfalso; omega
    · intro w0 w1 y1
      exfalso; omega
    · intro w0 w1 y1 y2
      exfalso; rw [jq_fates hE] at y2; omega
    · intro w0 w1 y1 y2
      exfalso; rw [jq_fates hE] at y2; omega
  · intro z0 z1 x1
    refine e_told hO r0 r1 ?_ ?_ ?_ ?_ ?_ ?_ ?_ ?_
    · intro h2
      exfalso; omega
    · intro w0 w1 y1
      exact ⟨_, rfl, by rw [jq_court hE], hJ⟩
    · intro w0 w1 y1 p2 hp2
      exfalso; omega
    · intro w0 w1 y1
      exfalso; omega
    · intro w0 w1 y1
      exfalso; omega
    · intro w0 w1 y1
      exfalso; omega
    · intro w0 w1 y1 y2
      exfalso; rw [jq_fates hE] at y2; omega
    · intro w0 w1 y1 y2
      exfalso; rw [jq_fates hE] at y2; omega
  · intro z0 z1 x1 p hp
    refine e_told hO r0 r1 ?_ ?_ ?_ ?_ ?_ ?_ ?_ ?_
    · intro h2
      exfalso; omega
    · intro w0 w1 y1
      exfalso; omega
    · intro w0 w1 y1 p2 hp2
      exact ⟨_, rfl, by rw [jpl_u hp ((jpl_E hE).mp hp2)], hJ⟩
    · intro w0 w1 y1
      exfalso; omega
    · intro w0 w1 y1
      exfalso; omega
    · intro w0 w1 y1
      exfalso; omega
    · intro w0 w1 y1 y2
      exfalso; rw [jq_fates hE] at y2; omega
    · intro w0 w1 y1 y2
      exfalso; rw [jq_fates hE] at y2; omega
  · intro z0 z1 x1
    refine e_told hO r0 r1 ?_ ?_ ?_ ?_ ?_ ?_ ?_ ?_
    · intro h2
      exfalso; omega
    · intro w0 w1 y1
      exfalso; omega
    · intro w0 w1 y1 p2 hp2
      exfalso; omega
    · intro w0 w1 y1
      exact ⟨_, rfl, by rw [jq_length hE], hJ⟩
    · intro w0 w1 y1
      exfalso; omega
    · intro w0 w1 y1
      exfalso; omega
    · intro w0 w1 y1 y2
      exfalso; rw [jq_fates hE] at y2; omega
    · intro w0 w1 y1 y2
      exfalso; rw [jq_fates hE] at y2; omega
  · intro z0 z1 x1
    refine e_told hO r0 r1 ?_ ?_ ?_ ?_ ?_ ?_ ?_ ?_
    · intro h2
      exfalso; omega
    · intro w0 w1 y1
      exfalso; omega
    · intro w0 w1 y1 p2 hp2
      exfalso; omega
    · intro w0 w1 y1
      exfalso; omega
    · intro w0 w1 y1
      exact ⟨_, rfl, by rw [jq_folds hE], hJ⟩
    · intro w0 w1 y1
      exfalso; omega
    · intro w0 w1 y1 y2
      exfalso; rw [jq_fates hE] at y2; omega
    · intro w0 w1 y1 y2
      exfalso; rw [jq_fates hE] at y2; omega
  · intro z0 z1 x1
    refine e_told hO r0 r1 ?_ ?_ ?_ ?_ ?_ ?_ ?_ ?_
    · intro h2
      exfalso; omega
    · intro w0 w1 y1
      exfalso; omega
    · intro w0 w1 y1 p2 hp2
      exfalso; omega
    · intro w0 w1 y1
      exfalso; omega
    · intro w0 w1 y1
      exfalso; omega
    · intro w0 w1 y1
      exact ⟨_, rfl, by rw [jq_sets hE], hJ⟩
    · intro w0 w1 y1 y2
      exfalso; rw [jq_fates hE] at y2; omega
    · intro w0 w1 y1 y2
      exfalso; rw [jq_fates hE] at y2; omega
  · intro z0 z1 x1 x2
    refine e_told hO r0 r1 ?_ ?_ ?_ ?_ ?_ ?_ ?_ ?_
    · intro h2
      exfalso; omega
    · intro w0 w1 y1
      exfalso; omega
    · intro w0 w1 y1 p2 hp2
      exfalso; omega
    · intro w0 w1 y1
      exfalso; omega
    · intro w0 w1 y1
      exfalso; omega
    · intro w0 w1 y1
      exfalso; omega
    · intro w0 w1 y1 y2
      exact ⟨_, rfl, rfl, hJ⟩
    · intro w0 w1 y1 y2
      exfalso; rw [jq_fates hE] at y2; omega
  · intro z0 z1 x1 x2
    refine e_told hO r0 r1 ?_ ?_ ?_ ?_ ?_ ?_ ?_ ?_
    · intro h2
      exfalso; omega
    · intro w0 w1 y1
      exfalso; omega
    · intro w0 w1 y1 p2 hp2
      exfalso; omega
    · intro w0 w1 y1
      exfalso; omega
    · intro w0 w1 y1
      exfalso; omega
    · intro w0 w1 y1
      exfalso; omega
    · intro w0 w1 y1 y2
      exfalso; rw [jq_fates hE] at y2; omega
    · intro w0 w1 y1 y2
      exact ⟨_, rfl, by rw [jq_fates hE], hJ⟩

theorem g_inList {G : jG} {M : jMem} {c p : Int} (hJ : jJ M) (r0 : jR c) (r1 : jR p) : jN G mX7_inList 30 [.ref (jad G 0), .int (jI c), .int (jI p)] M (fun v9 M9 => jN G mX8_inList 30 [.ref (jad G 8), .int (jI c), .int (jI p)] M9 (jP v9)) := by
  have hE := hJ.2.1
  have hO := jJ_O hJ
  have q1 := jq_cases hE
  have q2 := jq_witnesses hE
  have q3 := jq_notices hE
  refine c_inList hJ.1 r0 r1 ?_ ?_ ?_
  · intro h
    refine e_inList hO r0 r1 ?_ ?_ ?_
    · intro h2
      exact ⟨_, rfl, rfl, hJ⟩
    · intro y0 y1 y2 y3
      exfalso; rw [jq_many hE] at y3; omega
    · intro y0 y1 y2 y3
      exfalso; rw [jq_many hE] at y3; omega
  · intro x0 x1 x2 x3
    refine e_inList hO r0 r1 ?_ ?_ ?_
    · intro h2
      exfalso; omega
    · intro y0 y1 y2 y3
      exact ⟨_, rfl, rfl, hJ⟩
    · intro y0 y1 y2 y3
      exfalso; rw [jq_many hE] at y3; omega
  · intro x0 x1 x2 x3
    refine e_inList hO r0 r1 ?_ ?_ ?_
    · intro h2
      exfalso; omega
    · intro y0 y1 y2 y3
      exfalso; rw [jq_many hE] at y3; omega
    · intro y0 y1 y2 y3
      exact ⟨_, rfl, by rw [jq_list hE], hJ⟩

theorem g_notice {G : jG} {M : jMem} {i v : Int} (hJ : jJ M) (r0 : jR i) (r1 : jR v) : jN G mX7_notice 30 [.ref (jad G 0), .int (jI i), .int (jI v)] M (fun v9 M9 => jN G mX8_notice 30 [.ref (jad G 8), .int (jI i), .int (jI v)] M9 (jP v9)) := by
  have hE := hJ.2.1
  have hO := jJ_O hJ
  have q1 := jq_cases hE
  have q2 := jq_witnesses hE
  have q3 := jq_notices hE
  refine c_notice hJ.1 r0 r1 ?_ ?_ ?_ ?_
  · intro h
    refine e_notice hO r0 r1 ?_ ?_ ?_ ?_
    · intro h2
      exact ⟨_, rfl, rfl, hJ⟩
    · intro y0 y1 y2
      exfalso; omega
    · intro y0 y1 y2
      exfalso; omega
    · intro y0 y1 y2
      exfalso; omega
  · intro x0 x1 x2
    refine e_notice hO r0 r1 ?_ ?_ ?_ ?_
    · intro h2
      exfalso; omega
    · intro y0 y1 y2
      exact ⟨_, rfl, by rw [jq_nWho hE], hJ⟩
    · intro y0 y1 y2
      exfalso; omega
    · intro y0 y1 y2
      exfalso; omega
  · intro x0 x1 x2
    refine e_notice hO r0 r1 ?_ ?_ ?_ ?_
    · intro h2
      exfalso; omega
    · intro y0 y1 y2
      exfalso; omega
    · intro y0 y1 y2
      exact ⟨_, rfl, by rw [jq_nCase hE], hJ⟩
    · intro y0 y1 y2
      exfalso; omega
  · intro x0 x1 x2
    refine e_notice hO r0 r1 ?_ ?_ ?_ ?_
    · intro h2
      exfalso; omega
    · intro y0 y1 y2
      exfalso; omega
    · intro y0 y1 y2
      exfalso; omega
    · intro y0 y1 y2
      exact ⟨_, rfl, by rw [jq_nRead hE], hJ⟩

theorem g_weight {G : jG} {M : jMem} {k q : Int} (hJ : jJ M) (r0 : jR k) (r1 : jR q) : jN G mX7_weight 30 [.ref (jad G 0), .int (jI k), .int (jI q)] M (fun v9 M9 => jN G mX8_weight 30 [.ref (jad G 8), .int (jI k), .int (jI q)] M9 (jP v9)) := by
  have hE := hJ.2.1
  have hO := jJ_O hJ
  have q1 := jq_cases hE
  have q2 := jq_witnesses hE
  have q3 := jq_notices hE
  refine c_weight hJ.1 r0 r1 ?_ ?_
  · intro h
    refine e_weight hO r0 r1 ?_ ?_
    · intro h2
      exact ⟨_, rfl, rfl, hJ⟩
    · intro y0 y1 y2 y3 p2 N2 hp2 hN2
      exfalso; omega
  · intro x0 x1 x2 x3 p N hp hN
    have hJN := jJ_C hN hJ
    have hEN := hJN.2.1
    have hON := jJ_O hJN
    have k1 := jq_cases hEN
    have k2 := jq_witnesses hEN
    have n1 := congrFun (hN 1 (by decide) (by decide)) 8
    have n2 := congrFun (hN 2 (by decide) (by decide)) 3
    refine e_weight hON r0 r1 ?_ ?_
    · intro h2
      exfalso; omega
    · intro y0 y1 y2 y3 p2 N2 hp2 hN2
      have hpp := jpl_u hp ((jpl_C hN).mp ((jpl_E hEN).mp hp2))
      subst hpp
      refine ⟨_, rfl, ?_, jJ_E hN2 hJN⟩
      rw [jq_list hEN, jq_length hEN, jq_folds hEN, jq_court hEN, hN 16 (by decide) (by decide), hN 11 (by decide) (by decide), hN 12 (by decide) (by decide), hN 10 (by decide) (by decide)]

theorem g_cost {G : jG} {M : jMem} {k q : Int} (hJ : jJ M) (r0 : jR k) (r1 : jR q) : jN G mX7_cost 30 [.ref (jad G 0), .int (jI k), .int (jI q)] M (fun v9 M9 => jN G mX8_cost 30 [.ref (jad G 8), .int (jI k), .int (jI q)] M9 (jP v9)) := by
  have hE := hJ.2.1
  have hO := jJ_O hJ
  have q1 := jq_cases hE
  have q2 := jq_witnesses hE
  have q3 := jq_notices hE
  refine c_cost hJ.1 r0 r1 ?_ ?_
  · intro h
    refine e_cost hO r0 r1 ?_ ?_
    · intro h2
      exact ⟨_, rfl, rfl, hJ⟩
    · intro y0 y1 y2 y3 p2 N2 hp2 hN2
      exfalso; omega
  · intro x0 x1 x2 x3 p N hp hN
    have hJN := jJ_C hN hJ
    have hEN := hJN.2.1
    have hON := jJ_O hJN
    have k1 := jq_cases hEN
    have k2 := jq_witnesses hEN
    have n1 := congrFun (hN 1 (by decide) (by decide)) 8
    have n2 := congrFun (hN 2 (by decide) (by decide)) 3
    refine e_cost hON r0 r1 ?_ ?_
    · intro h2
      exfalso; omega
    · intro y0 y1 y2 y3 p2 N2 hp2 hN2
      have hpp := jpl_u hp ((jpl_C hN).mp ((jpl_E hEN).mp hp2))
      subst hpp
      refine ⟨_, rfl, ?_, jJ_E hN2 hJN⟩
      rw [jq_list hEN, jq_length hEN, jq_folds hEN, jq_court hEN, hN 16 (by decide) (by decide), hN 11 (by decide) (by decide), hN 12 (by decide) (by decide), hN 10 (by decide) (by decide), jq_sets hEN, jq_kind hEN, jq_rules hEN, jq_witnesses hEN, hN 13 (by decide) (by decide), hN 18 (by decide) (by decide), hN 9 (by decide) (by decide), n2]

theorem g_best {G : jG} {M : jMem} {k : Int} (hJ : jJ M) (r0 : jR k) : jN G mX7_best 30 [.ref (jad G 0), .int (jI k)] M (fun v9 M9 => jN G mX8_best 30 [.ref (jad G 8), .int (jI k)] M9 (jP v9)) := by
  have hE := hJ.2.1
  have hO := jJ_O hJ
  have q1 := jq_cases hE
  have q2 := jq_witnesses hE
  have q3 := jq_notices hE
  refine c_best hJ.1 r0 ?_ ?_
  · intro h
    refine e_best hO r0 ?_ ?_
    · intro h2
      exact ⟨_, rfl, rfl, hJ⟩
    · intro y0 y1 p2 N2 hp2 hN2
      exfalso; omega
  · intro x0 x1 p N hp hN
    have hJN := jJ_C hN hJ
    have hEN := hJN.2.1
    have hON := jJ_O hJN
    have k1 := jq_cases hEN
    have k2 := jq_witnesses hEN
    have n1 := congrFun (hN 1 (by decide) (by decide)) 8
    have n2 := congrFun (hN 2 (by decide) (by decide)) 3
    refine e_best hON r0 ?_ ?_
    · intro h2
      exfalso; omega
    · intro y0 y1 p2 N2 hp2 hN2
      have hpp := jpl_u hp ((jpl_C hN).mp ((jpl_E hEN).mp hp2))
      subst hpp
      refine ⟨_, rfl, ?_, jJ_E hN2 hJN⟩
      rw [jq_list hEN, jq_length hEN, jq_folds hEN, jq_court hEN, hN 16 (by decide) (by decide), hN 11 (by decide) (by decide), hN 12 (by decide) (by decide), hN 10 (by decide) (by decide), jq_sets hEN, jq_kind hEN, jq_rules hEN, jq_way hEN, jq_witnesses hEN, hN 13 (by decide) (by decide), hN 18 (by decide) (by decide), hN 19 (by decide) (by decide), hN 9 (by decide) (by decide), n2]

theorem g_begins {G : jG} {M : jMem} {k v : Int} (hJ : jJ M) (r0 : jR k) (r1 : jR v) : jN G mX7_begins 30 [.ref (jad G 0), .int (jI k), .int (jI v)] M (fun v9 M9 => jN G mX8_begins 30 [.ref (jad G 8), .int (jI k), .int (jI v)] M9 (jP v9)) := by
  have hE := hJ.2.1
  have hO := jJ_O hJ
  have q1 := jq_cases hE
  have fin : ∀ (N : jMem) (hN : jFC M N) (x : Int), (∀ (Q : Option Value → jMem → Prop), (∀ N2, jFE N N2 → Q (some (.long (jL x))) N2) → jN G mX8_begins 30 [.ref (jad G 8), .int (jI k), .int (jI v)] N Q) → jN G mX8_begins 30 [.ref (jad G 8), .int (jI k), .int (jI v)] N (jP (some (.long (jL x)))) := fun N hN x h => h _ (fun N2 h2 => ⟨x, rfl, rfl, jJ_E h2 (jJ_C hN hJ)⟩)
  refine c_begins hJ.1 r0 r1 ?_ ?_ ?_ ?_ ?_ ?_
  · intro h
    refine e_begins hO r0 r1 (fun _ => ⟨_, rfl, rfl, hJ⟩) ?_ ?_ ?_ ?_ ?_
    all_goals (intros; exfalso; omega)
  · intro x0 x1 y0 y1 x2 N hN
    have hJN := jJ_C hN hJ
    have hEN := hJN.2.1
    have hON := jJ_O hJN
    have k1 := jq_cases hEN
    have k2 := jq_witnesses hEN
    have n1 := congrFun (hN 1 (by decide) (by decide)) 8
    have n2 := congrFun (hN 2 (by decide) (by decide)) 3
    have hday : jdy (N 8 2) (N 8 8) (N 39) (N 38) (N 43) (N 44) (N 41) (jclE N) 200 = jdy (M 1 8) (M 2 3) (M 16) (M 17) (M 13) (M 14) (M 11) (jclC M) 200 := by
      rw [jcl_eq hEN, jcl_C hN, jq_list hEN, jq_many hEN, jq_sets hEN, jq_fates hEN, jq_length hEN, k1, k2, n1, n2, hN 16 (by decide) (by decide), hN 17 (by decide) (by decide), hN 13 (by decide) (by decide), hN 14 (by decide) (by decide), hN 11 (by decide) (by decide)]
    have f44 : N 44 = M 14 := (jq_fates hEN).trans (hN 14 (by decide) (by decide))
    have f43 : N 43 = M 13 := (jq_sets hEN).trans (hN 13 (by decide) (by decide))
    have fcl : jclE N = jclC M := (jcl_eq hEN).trans (jcl_C hN)
    refine fin N hN _ (fun Q hq => ?_)
    refine e_begins hON r0 r1 ?_ ?_ ?_ ?_ ?_ ?_
    all_goals try rw [hday]
    all_goals generalize jdy (M 1 8) (M 2 3) (M 16) (M 17) (M 13) (M 14) (M 11) (jclC M) 200 = σ at *
    all_goals try rw [f44]
    all_goals first
      | (intros; exfalso; omega)
      | (intros; apply hq; assumption)
  · intro x0 x1 x2 x3 N hN
    have hJN := jJ_C hN hJ
    have hEN := hJN.2.1
    have hON := jJ_O hJN
    have k1 := jq_cases hEN
    have k2 := jq_witnesses hEN
    have n1 := congrFun (hN 1 (by decide) (by decide)) 8
    have n2 := congrFun (hN 2 (by decide) (by decide)) 3
    have hday : jdy (N 8 2) (N 8 8) (N 39) (N 38) (N 43) (N 44) (N 41) (jclE N) 200 = jdy (M 1 8) (M 2 3) (M 16) (M 17) (M 13) (M 14) (M 11) (jclC M) 200 := by
      rw [jcl_eq hEN, jcl_C hN, jq_list hEN, jq_many hEN, jq_sets hEN, jq_fates hEN, jq_length hEN, k1, k2, n1, n2, hN 16 (by decide) (by decide), hN 17 (by decide) (by decide), hN 13 (by decide) (by decide), hN 14 (by decide) (by decide), hN 11 (by decide) (by decide)]
    have f44 : N 44 = M 14 := (jq_fates hEN).trans (hN 14 (by decide) (by decide))
    have f43 : N 43 = M 13 := (jq_sets hEN).trans (hN 13 (by decide) (by decide))
    have fcl : jclE N = jclC M := (jcl_eq hEN).trans (jcl_C hN)
    refine fin N hN _ (fun Q hq => ?_)
    refine e_begins hON r0 r1 ?_ ?_ ?_ ?_ ?_ ?_
    all_goals try rw [hday]
    all_goals generalize jdy (M 1 8) (M 2 3) (M 16) (M 17) (M 13) (M 14) (M 11) (jclC M) 200 = σ at *
    all_goals try rw [f44]
    all_goals first
      | (intros; exfalso; omega)
      | (intros; apply hq; assumption)
  · intro x0 x1 x2 x3 N hN
    have hJN := jJ_C hN hJ
    have hEN := hJN.2.1
    have hON := jJ_O hJN
    have k1 := jq_cases hEN
    have k2 := jq_witnesses hEN
    have n1 := congrFun (hN 1 (by decide) (by decide)) 8
    have n2 := congrFun (hN 2 (by decide) (by decide)) 3
    have hday : jdy (N 8 2) (N 8 8) (N 39) (N 38) (N 43) (N 44) (N 41) (jclE N) 200 = jdy (M 1 8) (M 2 3) (M 16) (M 17) (M 13) (M 14) (M 11) (jclC M) 200 := by
      rw [jcl_eq hEN, jcl_C hN, jq_list hEN, jq_many hEN, jq_sets hEN, jq_fates hEN, jq_length hEN, k1, k2, n1, n2, hN 16 (by decide) (by decide), hN 17 (by decide) (by decide), hN 13 (by decide) (by decide), hN 14 (by decide) (by decide), hN 11 (by decide) (by decide)]
    have f44 : N 44 = M 14 := (jq_fates hEN).trans (hN 14 (by decide) (by decide))
    have f43 : N 43 = M 13 := (jq_sets hEN).trans (hN 13 (by decide) (by decide))
    have fcl : jclE N = jclC M := (jcl_eq hEN).trans (jcl_C hN)
    refine fin N hN _ (fun Q hq => ?_)
    refine e_begins hON r0 r1 ?_ ?_ ?_ ?_ ?_ ?_
    all_goals try rw [hday]
    all_goals generalize jdy (M 1 8) (M 2 3) (M 16) (M 17) (M 13) (M 14) (M 11) (jclC M) 200 = σ at *
    all_goals try rw [f44]
    all_goals first
      | (intros; exfalso; omega)
      | (intros; apply hq; assumption)
  · intro x0 x1 x2 x3 x4 N hN
    have hJN := jJ_C hN hJ
    have hEN := hJN.2.1
    have hON := jJ_O hJN
    have k1 := jq_cases hEN
    have k2 := jq_witnesses hEN
    have n1 := congrFun (hN 1 (by decide) (by decide)) 8
    have n2 := congrFun (hN 2 (by decide) (by decide)) 3
    have hday : jdy (N 8 2) (N 8 8) (N 39) (N 38) (N 43) (N 44) (N 41) (jclE N) 200 = jdy (M 1 8) (M 2 3) (M 16) (M 17) (M 13) (M 14) (M 11) (jclC M) 200 := by
      rw [jcl_eq hEN, jcl_C hN, jq_list hEN, jq_many hEN, jq_sets hEN, jq_fates hEN, jq_length hEN, k1, k2, n1, n2, hN 16 (by decide) (by decide), hN 17 (by decide) (by decide), hN 13 (by decide) (by decide), hN 14 (by decide) (by decide), hN 11 (by decide) (by decide)]
    have f44 : N 44 = M 14 := (jq_fates hEN).trans (hN 14 (by decide) (by decide))
    have f43 : N 43 = M 13 := (jq_sets hEN).trans (hN 13 (by decide) (by decide))
    have fcl : jclE N = jclC M := (jcl_eq hEN).trans (jcl_C hN)
    refine fin N hN _ (fun Q hq => ?_)
    refine e_begins hON r0 r1 ?_ ?_ ?_ ?_ ?_ ?_
    all_goals try rw [hday]
    all_goals generalize jdy (M 1 8) (M 2 3) (M 16) (M 17) (M 13) (M 14) (M 11) (jclC M) 200 = σ at *
    all_goals try rw [f44]
    all_goals first
      | (intros; exfalso; omega)
      | (intros; apply hq; assumption)
  · intro x0 x1 x2 x3 x4 N hN
    have hJN := jJ_C hN hJ
    have hEN := hJN.2.1
    have hON := jJ_O hJN
    have k1 := jq_cases hEN
    have k2 := jq_witnesses hEN
    have n1 := congrFun (hN 1 (by decide) (by decide)) 8
    have n2 := congrFun (hN 2 (by decide) (by decide)) 3
    have hday : jdy (N 8 2) (N 8 8) (N 39) (N 38) (N 43) (N 44) (N 41) (jclE N) 200 = jdy (M 1 8) (M 2 3) (M 16) (M 17) (M 13) (M 14) (M 11) (jclC M) 200 := by
      rw [jcl_eq hEN, jcl_C hN, jq_list hEN, jq_many hEN, jq_sets hEN, jq_fates hEN, jq_length hEN, k1, k2, n1, n2, hN 16 (by decide) (by decide), hN 17 (by decide) (by decide), hN 13 (by decide) (by decide), hN 14 (by decide) (by decide), hN 11 (by decide) (by decide)]
    have f44 : N 44 = M 14 := (jq_fates hEN).trans (hN 14 (by decide) (by decide))
    have f43 : N 43 = M 13 := (jq_sets hEN).trans (hN 13 (by decide) (by decide))
    have fcl : jclE N = jclC M := (jcl_eq hEN).trans (jcl_C hN)
    refine fin N hN _ (fun Q hq => ?_)
    refine e_begins hON r0 r1 ?_ ?_ ?_ ?_ ?_ ?_
    all_goals try rw [hday]
    all_goals generalize jdy (M 1 8) (M 2 3) (M 16) (M 17) (M 13) (M 14) (M 11) (jclC M) 200 = σ at *
    all_goals try rw [f44]
    all_goals first
      | (intros; exfalso; omega)
      | (intros; apply hq; assumption)

