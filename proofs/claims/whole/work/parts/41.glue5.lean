theorem jJ_needs {M : jMem} {k s : Int} (hJ : jJ M) (k0 : 0 ≤ k) (k1 : k < M 1 8) (s0 : 0 ≤ s) (s1 : s ≤ jshl 1 (M 2 3) - 1) : jJ (jup (jnE (jup (jnC M k s (M 2 3)) 13 k s) k (M 8 8)) 43 k s) := by
  have hK := hJ.1
  have hE := hJ.2.1
  have hz := jn1 hK
  unfold jEq at hE
  obtain ⟨e1, e2, e3, e4, e5, e6, e7, e8, e9, e10, e11, e12, e13, e14, e15, e16, e17, e18, e19, ec⟩ := hE
  refine ⟨?_, ?_, ?_⟩
  · unfold jK jnE jnC
    simp (disch := decide) only [jup_r, jup_s, jblk_r, jblk_s, jcb_r, jcb_s, jcpy_r, jcpy_s, jfu_s, jfu_o]
    have hb := jset_bits hz.2.1 s0 s1
    refine jJn_ca (jJn_ne hK (fun j j0 j1 => ?_) (fun j u j0 j1 u0 u1 => ?_)) (fun j j0 j1 => ?_)
    · unfold jfu
      split
      · omega
      · exact (jn3 hK j j0 j1).2.2.2.1
    · unfold jfu
      split
      · exact hb.2 u u0 u1
      · exact jn10 hK j u j0 j1 u0 u1
    · skip
      split
      · have := (jn9 hK (j - k * 10) (by omega) (by omega)).2.1
        omega
      · exact jn5 hK j j0 j1
  · unfold jEq jnE jnC
    simp (disch := decide) only [jup_r, jup_s, jblk_r, jblk_s, jcb_r, jcb_s, jcpy_r, jcpy_s, jfu_s, jfu_o]
    refine ⟨?_, ?_, ?_, ?_, ?_, ?_, ?_, ?_, ?_, ?_, ?_, ?_, ?_, ?_, ?_, ?_, ?_, ?_, ?_, ?_⟩
    all_goals first
      | assumption
      | (simp only [e1, e2, e3, e4, e5, e6, e7, e8, e9, e10, e11, e12, e13, e14, e15, e16, e17, e18, e19]; done)
      | skip
    have hb := jset_bits hz.2.1 s0 s1
    intro a b a0 a1 b0 b1 h
    by_cases q : a = k
    · subst q
      rw [jfu_s] at h
      have hbp : b < M 2 3 := by
        by_cases l : b < M 2 3
        · exact l
        · exact absurd h (hb.2 b (by omega) b1)
      simp only [show 10 * a + b - 10 * a = b by omega, show a * 10 + b - a * 10 = b by omega, e1, e2, e3, e8, e13]
      by_cases r : jbit (M 13 a) b
      · rw [if_neg (fun z => (of_decide_eq_true z.2) r), if_neg (fun z => (of_decide_eq_true z.2).2 r)]
        exact ec a b a0 a1 b0 b1 r
      · rw [if_pos ⟨by omega, decide_eq_true r⟩, if_pos ⟨by omega, decide_eq_true ⟨h, r⟩⟩]
    · rw [jfu_o q] at h
      rw [if_neg (fun z => by omega), if_neg (fun z => by omega)]
      exact ec a b a0 a1 b0 b1 h
  · unfold jnE jnC
    simp (disch := decide) only [jup_r, jup_s, jblk_r, jblk_s, jcb_r, jcb_s, jcpy_r, jcpy_s, jfu_s, jfu_o]
    intro j j0 j1
    skip
    split
    · rename_i z
      have := (jn9 hK (j - 10 * k) (by omega) (by omega)).2.1
      rw [e13]
      omega
    · exact hJ.2.2 j j0 j1

theorem g_needs {G : jG} {M : jMem} {k s : Int} (hJ : jJ M) (r0 : jR k) (r1 : jR s) : jN G mX7_needs 30 [.ref (jad G 0), .int (jI k), .int (jI s)] M (fun v9 M9 => jN G mX8_needs 30 [.ref (jad G 8), .int (jI k), .int (jI s)] M9 (jP v9)) := by
  have hE := hJ.2.1
  have hO := jJ_O hJ
  have q1 := jq_cases hE
  have q2 := jq_witnesses hE
  have q3 := jq_notices hE
  have hz := jn1 hJ.1
  refine c_needs hJ.1 r0 r1 ?_ ?_
  · intro h
    refine e_needs hO r0 r1 ?_ ?_
    · intro h2
      exact ⟨_, rfl, rfl, hJ⟩
    · intro y0 y1 y2 y3
      exfalso
      rw [q2] at y3
      omega
  · intro x0 x1 x2 x3
    have hO1 : jO (jup (jnC M k s (M 2 3)) 13 k s) := by
      unfold jO jnC
      simp (disch := decide) only [jup_r, jup_s, jblk_r, jblk_s, jcb_r, jcb_s, jcpy_r, jcpy_s, jfu_s, jfu_o]
      exact hO
    refine e_needs hO1 r0 r1 ?_ ?_
    all_goals try rw [show jup (jnC M k s (M 2 3)) 13 k s 8 = M 8 from (jup_r (by decide)).trans (jcb_r (by decide))]
    all_goals try rw [show jup (jnC M k s (M 2 3)) 13 k s 43 = M 43 from (jup_r (by decide)).trans (jcb_r (by decide))]
    all_goals try simp (disch := decide) only [jup_r, jup_s, jblk_r, jblk_s, jcb_r, jcb_s, jcpy_r, jcpy_s, jfu_s, jfu_o]
    · intro h2
      exfalso
      rw [q1, q2] at h2
      omega
    · intro y0 y1 y2 y3
      have := jJ_needs (k := k) (s := s) hJ x0 x1 x2 x3
      exact ⟨_, rfl, by rw [jq_sets hE], this⟩

theorem jJ_plan {M N : jMem} {k q : Int} (hJ : jJ M) (hN : jFE (jplC M k q (M 2 3)) N) (k0 : 0 ≤ k) (k1 : k < 12) (q0 : 0 ≤ q) (q1 : q ≤ 48) : jJ (jplE N k q (N 8 8)) := by
  have hK := hJ.1
  have hE := hJ.2.1
  have hz := jn1 hK
  have hK1 : jK (jplC M k q (M 2 3)) := by
    unfold jK jplC
    simp (disch := decide) only [jup_r, jup_s, jblk_r, jblk_s, jcb_r, jcb_s, jcpy_r, jcpy_s, jfu_s, jfu_o]
    refine jJn_ca hK (fun j j0 j1 => ?_)
    skip
    split
    · exact ⟨q0, q1⟩
    · exact jn5 hK j j0 j1
  have f1 := hN.1
  have f2 := hN.2
  unfold jplC at f1 f2
  unfold jEq at hE
  obtain ⟨e1, e2, e3, e4, e5, e6, e7, e8, e9, e10, e11, e12, e13, e14, e15, e16, e17, e18, e19, ec⟩ := hE
  refine ⟨?_, ?_, ?_⟩
  · have h := jK_E hN hK1
    unfold jK jplE
    simp (disch := decide) only [jup_r, jup_s, jblk_r, jblk_s, jcb_r, jcb_s, jcpy_r, jcpy_s, jfu_s, jfu_o]
    exact h
  · unfold jEq jplE
    simp (disch := decide) only [jup_r, jup_s, jblk_r, jblk_s, jcb_r, jcb_s, jcpy_r, jcpy_s, jfu_s, jfu_o, f1, f2]
    refine ⟨?_, ?_, ?_, ?_, ?_, ?_, ?_, ?_, ?_, ?_, ?_, ?_, ?_, ?_, ?_, ?_, ?_, ?_, ?_, ?_⟩
    all_goals first
      | assumption
      | skip
    intro a b a0 a1 b0 b1 h
    by_cases r : a = k
    · subst r
      have hbp : b < M 2 3 := by
        by_cases l : b < M 2 3
        · exact l
        · exact absurd h (jn10 hK a b a0 a1 (by omega) b1)
      simp only [show 10 * a + b - 10 * a = b by omega, show a * 10 + b - a * 10 = b by omega, e2, e8]
      rw [if_pos ⟨by omega, decide_eq_true h⟩, if_pos ⟨by omega, decide_eq_true h⟩]
    · rw [if_neg (fun z => by omega), if_neg (fun z => by omega)]
      exact ec a b a0 a1 b0 b1 h
  · unfold jplE
    simp (disch := decide) only [jup_r, jup_s, jblk_r, jblk_s, jcb_r, jcb_s, jcpy_r, jcpy_s, jfu_s, jfu_o, f1, f2]
    intro j j0 j1
    skip
    split
    · exact ⟨q0, q1⟩
    · exact hJ.2.2 j j0 j1
theorem g_plan {G : jG} {M : jMem} {k : Int} (hJ : jJ M) (r0 : jR k) : jN G mX7_plan 30 [.ref (jad G 0), .int (jI k)] M (fun v9 M9 => jN G mX8_plan 30 [.ref (jad G 8), .int (jI k)] M9 (jP v9)) := by
  have hE := hJ.2.1
  have hO := jJ_O hJ
  have q1 := jq_cases hE
  have q2 := jq_witnesses hE
  have q3 := jq_notices hE
  have hz := jn1 hJ.1
  refine c_plan hJ.1 r0 ?_ ?_
  · intro h
    refine e_plan hO r0 (fun _ => ⟨_, rfl, rfl, hJ⟩) ?_
    intros; exfalso; omega
  · intro x0 x1 p N hp hN
    have hJN := jJ_C hN hJ
    have hEN := hJN.2.1
    have hON := jJ_O hJN
    have k1 := jq_cases hEN
    have k2 := jq_witnesses hEN
    have n1 := congrFun (hN 1 (by decide) (by decide)) 8
    have n2 := congrFun (hN 2 (by decide) (by decide)) 3
    have hbq := jbq_R (p := p) hJ.1 (k := k)
    generalize hq : (jbs (jwt (M 16) (M 11) (M 12) (6 * M 10 k) p.toNat) (jsum (jwp (M 13 k) (M 18)) (M 2 3).toNat * M 9 0) (M 9 1) (jgw (M 13 k) (M 19) (M 2 3).toNat) (48 - (jgw (M 13 k) (M 19) (M 2 3).toNat)).toNat).1 = q at *
    have rw1 : ∀ a, a ≠ 15 → jplC N k q (N 2 3) a = N a := fun a h => funext (jplC_ne h)
    have hO1 : jO (jplC N k q (N 2 3)) := by
      unfold jO
      simp (disch := decide) only [rw1]
      exact hON
    refine e_plan hO1 r0 ?_ ?_
    · simp (disch := decide) only [rw1]
      intro y; exfalso; omega
    · intro y0 y1 p2 N2 hp2 hN2
      have hpp : p = p2 := by
        refine jpl_u hp ((jpl_C hN).mp ((jpl_E hEN).mp ?_))
        unfold jplo at hp2 ⊢
        simp (disch := decide) only [rw1] at hp2
        exact hp2
      subst hpp
      simp (disch := decide) only [rw1]
      rw [jq_list hEN, jq_length hEN, jq_folds hEN, jq_court hEN, hN 16 (by decide) (by decide), hN 11 (by decide) (by decide), hN 12 (by decide) (by decide), hN 10 (by decide) (by decide), jq_sets hEN, jq_kind hEN, jq_rules hEN, jq_way hEN, jq_witnesses hEN, hN 13 (by decide) (by decide), hN 18 (by decide) (by decide), hN 19 (by decide) (by decide), hN 9 (by decide) (by decide), n2, hq]
      exact ⟨_, rfl, rfl, jJ_plan hJN hN2 x0 (by omega) (by omega) (by omega)⟩
theorem jap_bit {ap : Int → Int} {u v x y : Int} (hu : 0 ≤ u ∧ u < 10) (hv : 0 ≤ v ∧ v < 10) (hn : v ≠ u) (y0 : 0 ≤ y) (y1 : y < 10) :
    jbit (jfu (jfu ap v (jxor (ap v) (jshl 1 u))) u (jxor (ap u) (jshl 1 v)) x) y ↔ ((jbit (ap x) y ∧ ¬ ((x = u ∧ y = v) ∨ (x = v ∧ y = u))) ∨ (¬ jbit (ap x) y ∧ ((x = u ∧ y = v) ∨ (x = v ∧ y = u)))) := by
  by_cases e : x = u
  · subst e
    rw [jfu_s, jbit_xor (by omega) (by omega) (by omega) (by omega)]
    have : x ≠ v := fun z => hn z.symm
    by_cases f : y = v
    · simp [f, this]
    · simp [f, this]
  · rw [jfu_o e]
    by_cases f : x = v
    · subst f
      rw [jfu_s, jbit_xor (by omega) (by omega) (by omega) (by omega)]
      by_cases g : y = u
      · simp [g, e]
      · simp [g, e]
    · rw [jfu_o f]
      simp [e, f]
theorem jJ_apart {M : jMem} {v u : Int} (hJ : jJ M) (v0 : 0 ≤ v) (v1 : v < M 2 3) (u0 : 0 ≤ u) (u1 : u < M 2 3) (hn : v ≠ u) : jJ (jup (jup (jup (jup M 20 v (jxor (M 20 v) (jshl 1 u))) 20 u (jxor (M 20 u) (jshl 1 v))) 47 v (jxor (M 47 v) (jshl 1 u))) 47 u (jxor (M 47 u) (jshl 1 v))) := by
  have hK := hJ.1
  have hE := hJ.2.1
  have hz := jn1 hK
  unfold jEq at hE
  obtain ⟨e1, e2, e3, e4, e5, e6, e7, e8, e9, e10, e11, e12, e13, e14, e15, e16, e17, e18, e19, ec⟩ := hE
  refine ⟨?_, ?_, ?_⟩
  · unfold jK
    simp (disch := decide) only [jup_r, jup_s, jblk_r, jblk_s, jcb_r, jcb_s, jcpy_r, jcpy_s, jfu_s, jfu_o]
    refine jJn_ap hK (fun j j0 j1 => ?_) (fun x y x0 x1 y0 y1 => ?_)
    · have av := (jn9 hK v v0 (by omega)).2.2
      have au := (jn9 hK u u0 (by omega)).2.2
      unfold jfu
      split
      · exact jxor_small au.1 au.2 v0 (by omega)
      · split
        · exact jxor_small av.1 av.2 u0 (by omega)
        · exact (jn9 hK j j0 j1).2.2
    · have hh := jn16 hK x y x0 x1 y0 y1
      rw [jap_bit ⟨u0, by omega⟩ ⟨v0, by omega⟩ hn y0 y1, jap_bit ⟨u0, by omega⟩ ⟨v0, by omega⟩ hn x0 x1, jap_bit ⟨u0, by omega⟩ ⟨v0, by omega⟩ hn x0 x1]
      refine ⟨?_, ?_, ?_⟩
      · have hs : ((y = u ∧ x = v) ∨ (y = v ∧ x = u)) ↔ ((x = u ∧ y = v) ∨ (x = v ∧ y = u)) := by omega
        rw [hs, hh.1]
      · rintro (z | z)
        · exact hh.2.1 z.1
        · omega
      · rintro (z | z)
        · exact hh.2.2 z.1
        · omega
  · unfold jEq
    simp (disch := decide) only [jup_r, jup_s, jblk_r, jblk_s, jcb_r, jcb_s, jcpy_r, jcpy_s, jfu_s, jfu_o]
    refine ⟨?_, ?_, ?_, ?_, ?_, ?_, ?_, ?_, ?_, ?_, ?_, ?_, ?_, ?_, ?_, ?_, ?_, ?_, ?_, ?_⟩
    all_goals first
      | assumption
      | (simp only [e1, e2, e3, e4, e5, e6, e7, e8, e9, e10, e11, e12, e13, e14, e15, e16, e17, e18, e19]; done)
      | skip

  · try simp (disch := decide) only [jup_r, jup_s, jblk_r, jblk_s, jcb_r, jcb_s, jcpy_r, jcpy_s, jfu_s, jfu_o]
    exact hJ.2.2

theorem g_apart {G : jG} {M : jMem} {v u z : Int} (hJ : jJ M) (r0 : jR v) (r1 : jR u) (r2 : jR z) : jN G mX7_apart 30 [.ref (jad G 0), .int (jI v), .int (jI u), .int (jI z)] M (fun v9 M9 => jN G mX8_apart 30 [.ref (jad G 8), .int (jI v), .int (jI u), .int (jI z)] M9 (jP v9)) := by
  have hE := hJ.2.1
  have hO := jJ_O hJ
  have q1 := jq_cases hE
  have q2 := jq_witnesses hE
  have q3 := jq_notices hE
  have hz := jn1 hJ.1
  refine c_apart hJ.1 r0 r1 r2 ?_ ?_ ?_ ?_ ?_
  · intro h
    refine e_apart hO r0 r1 r2 ?_ ?_ ?_ ?_ ?_
    · intro h2
      exact ⟨_, rfl, rfl, hJ⟩
    · intro y0 y1 y2 y3 y4 y5
      exfalso; omega
    · intro y0 y1 y2 y3 y4 y5
      exfalso; omega
    · intro y0 y1 y2 y3 y4 y5
      exfalso; omega
    · intro y0 y1 y2 y3 y4 y5
      exfalso; omega
  · intro x0 x1 x2 x3 x4 x5
    refine e_apart hO r0 r1 r2 ?_ ?_ ?_ ?_ ?_
    · intro h2
      exfalso; omega
    · intro y0 y1 y2 y3 y4 y5
      exact ⟨_, rfl, rfl, hJ⟩
    · intro y0 y1 y2 y3 y4 y5
      exfalso
      first
        | omega
        | (rw [jq_apart hE] at y5; omega)
        | (rw [jq_apart hE] at y5; exact absurd x5.1 y5.1)
        | (rw [jq_apart hE] at y5; exact absurd y5.1 x5.1)
    · intro y0 y1 y2 y3 y4 y5
      exfalso
      first
        | omega
        | (rw [jq_apart hE] at y5; omega)
        | (rw [jq_apart hE] at y5; exact absurd x5.1 y5.1)
        | (rw [jq_apart hE] at y5; exact absurd y5.1 x5.1)
    · intro y0 y1 y2 y3 y4 y5
      exfalso
      first
        | omega
        | (rw [jq_apart hE] at y5; omega)
        | (rw [jq_apart hE] at y5; exact absurd x5.1 y5.1)
        | (rw [jq_apart hE] at y5; exact absurd y5.1 x5.1)
  · intro x0 x1 x2 x3 x4 x5
    refine e_apart hO r0 r1 r2 ?_ ?_ ?_ ?_ ?_
    · intro h2
      exfalso; omega
    · intro y0 y1 y2 y3 y4 y5
      exfalso
      first
        | omega
        | (rw [jq_apart hE] at y5; omega)
        | (rw [jq_apart hE] at y5; exact absurd x5.1 y5.1)
        | (rw [jq_apart hE] at y5; exact absurd y5.1 x5.1)
    · intro y0 y1 y2 y3 y4 y5
      exact ⟨_, rfl, rfl, hJ⟩
    · intro y0 y1 y2 y3 y4 y5
      exfalso
      first
        | omega
        | (rw [jq_apart hE] at y5; omega)
        | (rw [jq_apart hE] at y5; exact absurd x5.1 y5.1)
        | (rw [jq_apart hE] at y5; exact absurd y5.1 x5.1)
    · intro y0 y1 y2 y3 y4 y5
      exfalso
      first
        | omega
        | (rw [jq_apart hE] at y5; omega)
        | (rw [jq_apart hE] at y5; exact absurd x5.1 y5.1)
        | (rw [jq_apart hE] at y5; exact absurd y5.1 x5.1)
  · intro x0 x1 x2 x3 x4 x5
    have hO1 : jO (jup (jup M 20 v (jxor (M 20 v) (jshl 1 u))) 20 u (jxor (M 20 u) (jshl 1 v))) := by
      unfold jO
      simp (disch := decide) only [jup_r, jup_s, jblk_r, jblk_s, jcb_r, jcb_s, jcpy_r, jcpy_s, jfu_s, jfu_o]
      exact hO
    refine e_apart hO1 r0 r1 r2 ?_ ?_ ?_ ?_ ?_
    all_goals try simp (disch := decide) only [jup_r, jup_s, jblk_r, jblk_s, jcb_r, jcb_s, jcpy_r, jcpy_s, jfu_s, jfu_o]
    · intro h2
      exfalso; omega
    · intro y0 y1 y2 y3 y4 y5
      exfalso
      first
        | omega
        | (rw [jq_apart hE] at y5; omega)
        | (rw [jq_apart hE] at y5; exact absurd x5.1 y5.1)
        | (rw [jq_apart hE] at y5; exact absurd y5.1 x5.1)
    · intro y0 y1 y2 y3 y4 y5
      exfalso
      first
        | omega
        | (rw [jq_apart hE] at y5; omega)
        | (rw [jq_apart hE] at y5; exact absurd x5.1 y5.1)
        | (rw [jq_apart hE] at y5; exact absurd y5.1 x5.1)
    · intro y0 y1 y2 y3 y4 y5
      exact ⟨_, rfl, rfl, jJ_apart hJ x0 x1 x2 x3 x4⟩
    · intro y0 y1 y2 y3 y4 y5
      exfalso
      first
        | omega
        | (rw [jq_apart hE] at y5; omega)
        | (rw [jq_apart hE] at y5; exact absurd x5.1 y5.1)
        | (rw [jq_apart hE] at y5; exact absurd y5.1 x5.1)
  · intro x0 x1 x2 x3 x4 x5
    have hO1 : jO (jup (jup M 20 v (jxor (M 20 v) (jshl 1 u))) 20 u (jxor (M 20 u) (jshl 1 v))) := by
      unfold jO
      simp (disch := decide) only [jup_r, jup_s, jblk_r, jblk_s, jcb_r, jcb_s, jcpy_r, jcpy_s, jfu_s, jfu_o]
      exact hO
    refine e_apart hO1 r0 r1 r2 ?_ ?_ ?_ ?_ ?_
    all_goals try simp (disch := decide) only [jup_r, jup_s, jblk_r, jblk_s, jcb_r, jcb_s, jcpy_r, jcpy_s, jfu_s, jfu_o]
    · intro h2
      exfalso; omega
    · intro y0 y1 y2 y3 y4 y5
      exfalso
      first
        | omega
        | (rw [jq_apart hE] at y5; omega)
        | (rw [jq_apart hE] at y5; exact absurd x5.1 y5.1)
        | (rw [jq_apart hE] at y5; exact absurd y5.1 x5.1)
    · intro y0 y1 y2 y3 y4 y5
      exfalso
      first
        | omega
        | (rw [jq_apart hE] at y5; omega)
        | (rw [jq_apart hE] at y5; exact absurd x5.1 y5.1)
        | (rw [jq_apart hE] at y5; exact absurd y5.1 x5.1)
    · intro y0 y1 y2 y3 y4 y5
      exfalso
      first
        | omega
        | (rw [jq_apart hE] at y5; omega)
        | (rw [jq_apart hE] at y5; exact absurd x5.1 y5.1)
        | (rw [jq_apart hE] at y5; exact absurd y5.1 x5.1)
    · intro y0 y1 y2 y3 y4 y5
      exact ⟨_, rfl, rfl, jJ_apart hJ x0 x1 x2 x3 x4⟩

