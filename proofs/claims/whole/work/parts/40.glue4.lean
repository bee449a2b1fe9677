theorem g_fold {G : jG} {M : jMem} {k v : Int} (hJ : jJ M) (r0 : jR k) (r1 : jR v) : jN G mX7_fold 30 [.ref (jad G 0), .int (jI k), .int (jI v)] M (fun v9 M9 => jN G mX8_fold 30 [.ref (jad G 8), .int (jI k), .int (jI v)] M9 (jP v9)) := by
  have hE := hJ.2.1
  have hO := jJ_O hJ
  have q1 := jq_cases hE
  have q2 := jq_witnesses hE
  have q3 := jq_notices hE
  have hz := jn1 hJ.1
  refine c_fold hJ.1 r0 r1 ?_ ?_
  · intro h
    refine e_fold hO r0 r1 ?_ ?_
    · intro h2
      exact ⟨_, rfl, rfl, hJ⟩
    · intro y0 y1 y2 y3
      exfalso; omega
  · intro x0 x1 x2 x3
    have hO1 : jO (jup M 12 k v) := by
      unfold jO
      simp (disch := decide) only [jup_r, jup_s, jblk_r, jblk_s, jcb_r, jcb_s, jcpy_r, jcpy_s, jfu_s, jfu_o]
      exact hO
    refine e_fold hO1 r0 r1 ?_ ?_
    all_goals try simp (disch := decide) only [jup_r, jup_s, jblk_r, jblk_s, jcb_r, jcb_s, jcpy_r, jcpy_s, jfu_s, jfu_o]
    · intro h2
      exfalso; omega
    · intro y0 y1 y2 y3
      exact ⟨_, rfl, by rw [jq_folds hE], jJ_fold hJ x0 x1 x2 x3⟩

theorem g_fate {G : jG} {M : jMem} {k v : Int} (hJ : jJ M) (r0 : jR k) (r1 : jR v) : jN G mX7_fate 30 [.ref (jad G 0), .int (jI k), .int (jI v)] M (fun v9 M9 => jN G mX8_fate 30 [.ref (jad G 8), .int (jI k), .int (jI v)] M9 (jP v9)) := by
  have hE := hJ.2.1
  have hO := jJ_O hJ
  have q1 := jq_cases hE
  have q2 := jq_witnesses hE
  have q3 := jq_notices hE
  have hz := jn1 hJ.1
  refine c_fate hJ.1 r0 r1 ?_ ?_
  · intro h
    refine e_fate hO r0 r1 ?_ ?_
    · intro h2
      exact ⟨_, rfl, rfl, hJ⟩
    · intro y0 y1 y2 y3
      exfalso; omega
  · intro x0 x1 x2 x3
    have hO1 : jO (jup M 14 k v) := by
      unfold jO
      simp (disch := decide) only [jup_r, jup_s, jblk_r, jblk_s, jcb_r, jcb_s, jcpy_r, jcpy_s, jfu_s, jfu_o]
      exact hO
    refine e_fate hO1 r0 r1 ?_ ?_
    all_goals try simp (disch := decide) only [jup_r, jup_s, jblk_r, jblk_s, jcb_r, jcb_s, jcpy_r, jcpy_s, jfu_s, jfu_o]
    · intro h2
      exfalso; omega
    · intro y0 y1 y2 y3
      exact ⟨_, rfl, by rw [jq_fates hE], jJ_fate hJ x0 x1 x2 x3⟩

theorem g_rule {G : jG} {M : jMem} {v z : Int} (hJ : jJ M) (r0 : jR v) (r1 : jR z) : jN G mX7_rule 30 [.ref (jad G 0), .int (jI v), .int (jI z)] M (fun v9 M9 => jN G mX8_rule 30 [.ref (jad G 8), .int (jI v), .int (jI z)] M9 (jP v9)) := by
  have hE := hJ.2.1
  have hO := jJ_O hJ
  have q1 := jq_cases hE
  have q2 := jq_witnesses hE
  have q3 := jq_notices hE
  have hz := jn1 hJ.1
  refine c_rule hJ.1 r0 r1 ?_ ?_
  · intro h
    refine e_rule hO r0 r1 ?_ ?_
    · intro h2
      exact ⟨_, rfl, rfl, hJ⟩
    · intro y0 y1 y2 y3
      exfalso; omega
  · intro x0 x1 x2 x3
    have hO1 : jO (jup M 9 v z) := by
      unfold jO
      simp (disch := decide) only [jup_r, jup_s, jblk_r, jblk_s, jcb_r, jcb_s, jcpy_r, jcpy_s, jfu_s, jfu_o]
      exact hO
    refine e_rule hO1 r0 r1 ?_ ?_
    all_goals try simp (disch := decide) only [jup_r, jup_s, jblk_r, jblk_s, jcb_r, jcb_s, jcpy_r, jcpy_s, jfu_s, jfu_o]
    · intro h2
      exfalso; omega
    · intro y0 y1 y2 y3
      exact ⟨_, rfl, by rw [jq_rules hE], jJ_rule hJ x0 x1 x2 x3⟩

theorem g_call {G : jG} {M : jMem} {v k z : Int} (hJ : jJ M) (r0 : jR v) (r1 : jR k) (r2 : jR z) : jN G mX7_call 30 [.ref (jad G 0), .int (jI v), .int (jI k), .int (jI z)] M (fun v9 M9 => jN G mX8_call 30 [.ref (jad G 8), .int (jI v), .int (jI k), .int (jI z)] M9 (jP v9)) := by
  have hE := hJ.2.1
  have hO := jJ_O hJ
  have q1 := jq_cases hE
  have q2 := jq_witnesses hE
  have q3 := jq_notices hE
  have hz := jn1 hJ.1
  refine c_call hJ.1 r0 r1 r2 ?_ ?_ ?_
  · intro h
    refine e_call hO r0 r1 r2 ?_ ?_ ?_
    · intro h2
      exact ⟨_, rfl, rfl, hJ⟩
    · intro y0 y1 y2 y3 y4 y5 y6
      exfalso; omega
    · intro y0 y1 y2 y3 y4 y5 y6 y7
      exfalso; omega
  · intro x0 x1 x2 x3 x4 x5 x6
    refine e_call hO r0 r1 r2 ?_ ?_ ?_
    · intro h2
      exfalso; omega
    · intro y0 y1 y2 y3 y4 y5 y6
      exact ⟨_, rfl, rfl, hJ⟩
    · intro y0 y1 y2 y3 y4 y5 y6 y7
      rw [jq_sets hE] at y6
      rw [jq_way hE] at y7
      exact absurd ⟨y6, y7⟩ x6
  · intro x0 x1 x2 x3 x4 x5 x6 x7
    have hO1 : jO (jup M 15 (k * 10 + v) z) := by
      unfold jO
      simp (disch := decide) only [jup_r, jup_s, jblk_r, jblk_s, jcb_r, jcb_s, jcpy_r, jcpy_s, jfu_s, jfu_o]
      exact hO
    refine e_call hO1 r0 r1 r2 ?_ ?_ ?_
    all_goals try simp (disch := decide) only [jup_r, jup_s, jblk_r, jblk_s, jcb_r, jcb_s, jcpy_r, jcpy_s, jfu_s, jfu_o]
    · intro h2
      exfalso; omega
    · intro y0 y1 y2 y3 y4 y5 y6
      rw [jq_sets hE, jq_way hE] at y6
      exact absurd ⟨x6, x7⟩ y6
    · intro y0 y1 y2 y3 y4 y5 y6 y7
      exact ⟨_, rfl, by rw [jq_calls hE k v x2 (by omega) x0 (by omega) x6], jJ_call hJ x2 x3 x0 x1 x4 x5⟩

theorem g_mark {G : jG} {M : jMem} {s p v : Int} (hJ : jJ M) (r0 : jR s) (r1 : jR p) (r2 : jR v) : jN G mX7_mark 30 [.ref (jad G 0), .int (jI s), .int (jI p), .int (jI v)] M (fun v9 M9 => jN G mX8_mark 30 [.ref (jad G 8), .int (jI s), .int (jI p), .int (jI v)] M9 (jP v9)) := by
  have hE := hJ.2.1
  have hO := jJ_O hJ
  have q1 := jq_cases hE
  have q2 := jq_witnesses hE
  have q3 := jq_notices hE
  have q4 := congrFun (jq_places hE) s
  have hz := jn1 hJ.1
  refine c_mark hJ.1 r0 r1 r2 ?_ ?_ ?_ ?_
  · intro h
    refine e_mark hO r0 r1 r2 ?_ ?_ ?_ ?_
    · intro h2
      exact ⟨_, rfl, rfl, hJ⟩
    · intro y0 y1 y2
      exfalso; omega
    · intro y0 y1 y2 y3
      exfalso; omega
    · intro y0 y1 y2 y3
      exfalso; omega
  · intro x0 x1 x2
    refine e_mark hO r0 r1 r2 ?_ ?_ ?_ ?_
    · intro h2
      exfalso; omega
    · intro y0 y1 y2
      exact ⟨_, rfl, rfl, hJ⟩
    · intro y0 y1 y2 y3
      exfalso; omega
    · intro y0 y1 y2 y3
      exfalso; omega
  · intro x0 x1 x2 x3
    refine e_mark hO r0 r1 r2 ?_ ?_ ?_ ?_
    · intro h2
      exfalso; omega
    · intro y0 y1 y2
      exfalso; omega
    · intro y0 y1 y2 y3
      exact ⟨_, rfl, rfl, hJ⟩
    · intro y0 y1 y2 y3
      exfalso; omega
  · intro x0 x1 x2 x3
    have hO1 : jO (jup M 36 (s * 12 + p) (jbyt v)) := by
      unfold jO
      simp (disch := decide) only [jup_r, jup_s, jblk_r, jblk_s, jcb_r, jcb_s, jcpy_r, jcpy_s, jfu_s, jfu_o]
      exact hO
    refine e_mark hO1 r0 r1 r2 ?_ ?_ ?_ ?_
    all_goals try simp (disch := decide) only [jup_r, jup_s, jblk_r, jblk_s, jcb_r, jcb_s, jcpy_r, jcpy_s, jfu_s, jfu_o]
    · intro h2
      exfalso; omega
    · intro y0 y1 y2
      exfalso; omega
    · intro y0 y1 y2 y3
      exfalso; omega
    · intro y0 y1 y2 y3
      exact ⟨_, rfl, by rw [jq_numbers hE, Int.mul_comm s 12], jJ_mark hJ⟩

theorem g_sheet {G : jG} {M : jMem} {s n : Int} (hJ : jJ M) (r0 : jR s) (r1 : jR n) : jN G mX7_sheet 30 [.ref (jad G 0), .int (jI s), .int (jI n)] M (fun v9 M9 => jN G mX8_sheet 30 [.ref (jad G 8), .int (jI s), .int (jI n)] M9 (jP v9)) := by
  have hE := hJ.2.1
  have hO := jJ_O hJ
  have q1 := jq_cases hE
  have q2 := jq_witnesses hE
  have q3 := jq_notices hE
  have hz := jn1 hJ.1
  refine c_sheet r0 r1 ?_ ?_ ?_
  · intro h
    refine e_sheet r0 r1 ?_ ?_ ?_
    · intro h2
      exact ⟨_, rfl, rfl, hJ⟩
    · intro y0 y1 y2
      exfalso; omega
    · intro y0 y1 y2 y3
      exfalso; omega
  · intro x0 x1 x2
    refine e_sheet r0 r1 ?_ ?_ ?_
    · intro h2
      exfalso; omega
    · intro y0 y1 y2
      exact ⟨_, rfl, rfl, hJ⟩
    · intro y0 y1 y2 y3
      exfalso; omega
  · intro x0 x1 x2 x3
    have hO1 : jO (jup (jblk M 36 (s * 12) (s * 12 + n) (fun _ => 0)) 37 s n) := by
      unfold jO
      simp (disch := decide) only [jup_r, jup_s, jblk_r, jblk_s, jcb_r, jcb_s, jcpy_r, jcpy_s, jfu_s, jfu_o]
      exact hO
    refine e_sheet r0 r1 ?_ ?_ ?_
    all_goals try simp (disch := decide) only [jup_r, jup_s, jblk_r, jblk_s, jcb_r, jcb_s, jcpy_r, jcpy_s, jfu_s, jfu_o]
    · intro h2
      exfalso; omega
    · intro y0 y1 y2
      exfalso; omega
    · intro y0 y1 y2 y3
      exact ⟨_, rfl, rfl, jJ_sheet hJ x2 x3⟩

theorem g_take {G : jG} {M : jMem} {s : Int} (hJ : jJ M) (r0 : jR s) : jN G mX7_take 30 [.ref (jad G 0), .int (jI s)] M (fun v9 M9 => jN G mX8_take 30 [.ref (jad G 8), .int (jI s)] M9 (jP v9)) := by
  have hE := hJ.2.1
  have hO := jJ_O hJ
  have q1 := jq_cases hE
  have q2 := jq_witnesses hE
  have q3 := jq_notices hE
  have q4 := congrFun (jq_places hE) s
  have q5 : ∀ i, M 54 (12 * s + i) = M 36 (s * 12 + i) := fun i => by rw [jq_numbers hE, Int.mul_comm s 12]
  have hz := jn1 hJ.1
  refine c_take hJ.1 r0 ?_ ?_ ?_ ?_
  · intro h
    refine e_take hO r0 ?_ ?_ ?_ ?_
    · intro h2
      exact ⟨_, rfl, rfl, hJ⟩
    · intro y0 y1 y2
      exfalso; omega
    · intro y0 y1 y2 y3
      exfalso; omega
    · intro y0 y1 y2 y3
      exfalso; omega
  · intro x0 x1 x2
    refine e_take hO r0 ?_ ?_ ?_ ?_
    · intro h2
      exfalso; omega
    · intro y0 y1 y2
      exact ⟨_, rfl, rfl, hJ⟩
    · intro y0 y1 y2 y3
      exfalso; omega
    · intro y0 y1 y2 y3
      exfalso; omega
  · intro x0 x1 x2 x3
    refine e_take hO r0 ?_ ?_ ?_ ?_
    · intro h2
      exfalso; omega
    · intro y0 y1 y2
      exfalso; omega
    · intro y0 y1 y2 y3
      exact ⟨_, rfl, rfl, hJ⟩
    · intro y0 y1 y2 y3
      obtain ⟨i, i0, i1, i2⟩ := x3
      have := y3 i i0 (by omega)
      rw [q5 i] at this
      exact absurd this i2
  · intro x0 x1 x2 x3
    have hO1 : jO (jblk M 12 0 (min (M 37 s) (M 1 8)) (fun i => M 36 (s * 12 + i))) := by
      unfold jO
      simp (disch := decide) only [jup_r, jup_s, jblk_r, jblk_s, jcb_r, jcb_s, jcpy_r, jcpy_s, jfu_s, jfu_o]
      exact hO
    refine e_take hO1 r0 ?_ ?_ ?_ ?_
    all_goals try simp (disch := decide) only [jup_r, jup_s, jblk_r, jblk_s, jcb_r, jcb_s, jcpy_r, jcpy_s, jfu_s, jfu_o]
    · intro h2
      exfalso; omega
    · intro y0 y1 y2
      exfalso; omega
    · intro y0 y1 y2 y3
      obtain ⟨i, i0, i1, i2⟩ := y3
      have := x3 i i0 (by omega)
      rw [q5 i] at i2
      exact absurd this i2
    · intro y0 y1 y2 y3
      rw [q1, q4]
      exact ⟨_, rfl, rfl, jJ_take hJ x3⟩

theorem g_copy {G : jG} {M : jMem} {a p c q n : Int} (hJ : jJ M) (r0 : jR a) (r1 : jR p) (r2 : jR c) (r3 : jR q) (r4 : jR n) : jN G mX7_copy 30 [.ref (jad G 0), .int (jI a), .int (jI p), .int (jI c), .int (jI q), .int (jI n)] M (fun v9 M9 => jN G mX8_copy 30 [.ref (jad G 8), .int (jI a), .int (jI p), .int (jI c), .int (jI q), .int (jI n)] M9 (jP v9)) := by
  have hE := hJ.2.1
  have hO := jJ_O hJ
  have q1 := jq_cases hE
  have q2 := jq_witnesses hE
  have q3 := jq_notices hE
  have q4 := congrFun (jq_places hE) a
  have q5 := congrFun (jq_places hE) c
  have hz := jn1 hJ.1
  refine c_copy hJ.1 r0 r1 r2 r3 r4 ?_ ?_ ?_ ?_
  · intro h
    refine e_copy hO r0 r1 r2 r3 r4 ?_ ?_ ?_ ?_
    · intro h2
      exact ⟨_, rfl, rfl, hJ⟩
    · intro y0 y1 y2 y3 y4
      exfalso; omega
    · intro y0 y1 y2 y3 y4 y5 y6
      exfalso; omega
    · intro y0 y1 y2 y3 y4 y5 y6 y7 y8
      exfalso; omega
  · intro x0 x1 x2 x3 x4
    refine e_copy hO r0 r1 r2 r3 r4 ?_ ?_ ?_ ?_
    · intro h2
      exfalso; omega
    · intro y0 y1 y2 y3 y4
      exact ⟨_, rfl, rfl, hJ⟩
    · intro y0 y1 y2 y3 y4 y5 y6
      exfalso; omega
    · intro y0 y1 y2 y3 y4 y5 y6 y7 y8
      exfalso; omega
  · intro x0 x1 x2 x3 x4 x5 x6
    refine e_copy hO r0 r1 r2 r3 r4 ?_ ?_ ?_ ?_
    · intro h2
      exfalso; omega
    · intro y0 y1 y2 y3 y4
      exfalso; omega
    · intro y0 y1 y2 y3 y4 y5 y6
      exact ⟨_, rfl, rfl, hJ⟩
    · intro y0 y1 y2 y3 y4 y5 y6 y7 y8
      exfalso; omega
  · intro x0 x1 x2 x3 x4 x5 x6 x7 x8
    have hO1 : jO (jcpy M 36 (a * 12 + p) (c * 12 + q) n) := by
      unfold jO
      simp (disch := decide) only [jup_r, jup_s, jblk_r, jblk_s, jcb_r, jcb_s, jcpy_r, jcpy_s, jfu_s, jfu_o]
      exact hO
    refine e_copy hO1 r0 r1 r2 r3 r4 ?_ ?_ ?_ ?_
    all_goals try simp (disch := decide) only [jup_r, jup_s, jblk_r, jblk_s, jcb_r, jcb_s, jcpy_r, jcpy_s, jfu_s, jfu_o]
    · intro h2
      exfalso; omega
    · intro y0 y1 y2 y3 y4
      exfalso; omega
    · intro y0 y1 y2 y3 y4 y5 y6
      exfalso; omega
    · intro y0 y1 y2 y3 y4 y5 y6 y7 y8
      exact ⟨_, rfl, rfl, jJ_copy hJ⟩

theorem g_read {G : jG} {M : jMem} {v : Int} (hJ : jJ M) (r0 : jR v) : jN G mX7_read 30 [.ref (jad G 0), .int (jI v)] M (fun v9 M9 => jN G mX8_read 30 [.ref (jad G 8), .int (jI v)] M9 (jP v9)) := by
  have hE := hJ.2.1
  have hO := jJ_O hJ
  have q1 := jq_cases hE
  have q2 := jq_witnesses hE
  have q3 := jq_notices hE
  have hz := jn1 hJ.1
  refine c_read hJ.1 r0 ?_ ?_
  · intro h
    refine e_read hO r0 ?_ ?_
    · intro h2
      exact ⟨_, rfl, rfl, hJ⟩
    · intro y0 y1
      exfalso; omega
  · intro x0 x1
    have hO1 : jO (jrdC M v (M 6 3)) := by
      unfold jO jrdC
      simp (disch := decide) only [jup_r, jup_s, jblk_r, jblk_s, jcb_r, jcb_s, jcpy_r, jcpy_s, jfu_s, jfu_o]
      exact hO
    refine e_read hO1 r0 ?_ ?_
    all_goals try rw [show jrdC M v (M 6 3) 8 = M 8 from jcb_r (by decide)]
    all_goals try rw [show jrdC M v (M 6 3) 50 = M 50 from jcb_r (by decide), show jrdC M v (M 6 3) 52 = M 52 from jcb_r (by decide)]
    all_goals try simp (disch := decide) only [jup_r, jup_s, jblk_r, jblk_s, jcb_r, jcb_s, jcpy_r, jcpy_s, jfu_s, jfu_o]
    · intro h2
      exfalso; omega
    · intro y0 y1
      have := jJ_read (v := v) hJ
      rw [q3] at this ⊢
      exact ⟨_, rfl, by rw [jq_nWho hE, jq_nRead hE], this⟩

theorem g_witness {G : jG} {M : jMem} {a b : Int} (hJ : jJ M) (r0 : jR a) (r1 : jR b) : jN G mX7_witness 30 [.ref (jad G 0), .int (jI a), .int (jI b)] M (fun v9 M9 => jN G mX8_witness 30 [.ref (jad G 8), .int (jI a), .int (jI b)] M9 (jP v9)) := by
  have hE := hJ.2.1
  have hO := jJ_O hJ
  have q1 := jq_cases hE
  have q2 := jq_witnesses hE
  have q3 := jq_notices hE
  have hz := jn1 hJ.1
  refine c_witness hJ.1 r0 r1 ?_ ?_ ?_
  · intro h
    refine e_witness hO r0 r1 ?_ ?_ ?_
    · intro h2
      exact ⟨_, rfl, rfl, hJ⟩
    · intro y4 y5
      exfalso; omega
    · intro y0 y1 y2 y3 y4
      exfalso; omega
  · intro x4 x5
    refine e_witness hO r0 r1 ?_ ?_ ?_
    · intro h2
      exfalso; omega
    · intro y4 y5
      exact ⟨_, rfl, rfl, hJ⟩
    · intro y0 y1 y2 y3 y4
      exfalso; omega
  · intro x0 x1 x2 x3 x4
    have hO1 : jO (jup (jup (jup M 2 3 (M 2 3 + 1)) 18 (M 2 3) a) 19 (M 2 3) b) := by
      unfold jO
      simp (disch := decide) only [jup_r, jup_s, jblk_r, jblk_s, jcb_r, jcb_s, jcpy_r, jcpy_s, jfu_s, jfu_o]
      exact hO
    refine e_witness hO1 r0 r1 ?_ ?_ ?_
    all_goals try simp (disch := decide) only [jup_r, jup_s, jblk_r, jblk_s, jcb_r, jcb_s, jcpy_r, jcpy_s, jfu_s, jfu_o]
    · intro h2
      exfalso; omega
    · intro y4 y5
      exfalso; omega
    · intro y0 y1 y2 y3 y4
      exact ⟨_, rfl, by rw [q2, Int.add_sub_cancel], jJ_witness hJ x0 x1 x2 x3 x4⟩

theorem g_newCase {G : jG} {M : jMem} {a b e : Int} (hJ : jJ M) (r0 : jR a) (r1 : jR b) (r2 : jR e) : jN G mX7_newCase 30 [.ref (jad G 0), .int (jI a), .int (jI b), .int (jI e)] M (fun v9 M9 => jN G mX8_newCase 30 [.ref (jad G 8), .int (jI a), .int (jI b), .int (jI e)] M9 (jP v9)) := by
  have hE := hJ.2.1
  have hO := jJ_O hJ
  have q1 := jq_cases hE
  have q2 := jq_witnesses hE
  have q3 := jq_notices hE
  have q4 := congrFun (jq_many hE) a
  have hz := jn1 hJ.1
  refine c_newCase hJ.1 r0 r1 r2 ?_ ?_ ?_
  · intro h
    refine e_newCase hO r0 r1 r2 ?_ ?_ ?_
    · intro h2
      exact ⟨_, rfl, rfl, hJ⟩
    · intro y4 y5
      exfalso; omega
    · intro y0 y1 y2 y3 y4 y5 y6 y7
      exfalso; omega
  · intro x4 x5
    refine e_newCase hO r0 r1 r2 ?_ ?_ ?_
    · intro h2
      exfalso; omega
    · intro y4 y5
      exact ⟨_, rfl, rfl, hJ⟩
    · intro y0 y1 y2 y3 y4 y5 y6 y7
      exfalso; omega
  · intro x0 x1 x2 x3 x4 x5 x6 x7
    have hO1 : jO (jup (jup (jup (jup (jup (jup (jup M 1 8 (M 1 8 + 1)) 11 (M 1 8) b) 12 (M 1 8) e) 14 (M 1 8) (-1)) 16 (a * 6 + M 17 a) (M 1 8)) 17 a (M 17 a + 1)) 10 (M 1 8) a) := by
      unfold jO
      simp (disch := decide) only [jup_r, jup_s, jblk_r, jblk_s, jcb_r, jcb_s, jcpy_r, jcpy_s, jfu_s, jfu_o]
      exact hO
    refine e_newCase hO1 r0 r1 r2 ?_ ?_ ?_
    all_goals try simp (disch := decide) only [jup_r, jup_s, jblk_r, jblk_s, jcb_r, jcb_s, jcpy_r, jcpy_s, jfu_s, jfu_o]
    · intro h2
      exfalso; omega
    · intro y4 y5
      exfalso; omega
    · intro y0 y1 y2 y3 y4 y5 y6 y7
      exact ⟨_, rfl, by rw [q1, Int.add_sub_cancel], jJ_newCase hJ x0 x1 x2 x3 x4 x5 x6 x7⟩

