theorem jsum_ad2 (f g : Int → Int) : ∀ n : Nat, jsum (fun i => f i + g i) n = jsum f n + jsum g n
  | 0 => rfl
  | n + 1 => by
    have := jsum_ad2 f g n
    simp only [jsum]
    omega
theorem jsum_tail (f : Int → Int) (m : Nat) : ∀ n : Nat, m ≤ n → (∀ i : Int, (m : Int) ≤ i → i < n → f i = 0) → jsum f n = jsum f m
  | 0, h, _ => by rw [show m = 0 by omega]
  | n + 1, h, z => by
    by_cases e : m = n + 1
    · rw [e]
    · have := jsum_tail f m n (by omega) (fun i a b => z i a (by omega))
      have q := z n (by omega) (by omega)
      show jsum f n + f n = jsum f m
      omega
theorem jsum_dbl (f : Int → Int → Int) : ∀ n : Nat, (∀ i u : Int, 0 ≤ i → i < n → 0 ≤ u → u < n → f i u = f u i) → (∀ i : Int, 0 ≤ i → i < n → f i i = 0) → jsum (fun i => jsum (f i) n) n = 2 * jsum (fun i => jsum (f i) i.toNat) n
  | 0, _, _ => rfl
  | n + 1, s, z => by
    have ih := jsum_dbl f n (fun i u a b c d => s i u a (by omega) c (by omega)) (fun i a b => z i a (by omega))
    have e1 : jsum (fun i => jsum (f i) (n + 1)) n = jsum (fun i => jsum (f i) n) n + jsum (fun i => f i n) n := jsum_ad2 (fun i => jsum (f i) n) (fun i => f i n) n
    have e2 : jsum (fun i => f i n) n = jsum (f n) n := jsum_congr n (fun i a b => s i n a (by omega) (by omega) (by omega))
    have e3 := z n (by omega) (by omega)
    show jsum (fun i => jsum (f i) (n + 1)) n + (jsum (f n) n + f n n) = 2 * (jsum (fun i => jsum (f i) i.toNat) n + jsum (f n) (n : Int).toNat)
    rw [e1, e2, e3, ih, Int.toNat_natCast]
    omega
theorem jpairs {M : jMem} (h : jK M) : jdiv (jsum (fun i => jpop (M 20 i)) (M 2 3).toNat) 2 = jsum (fun i => jsum (fun u => jand (jshr (M 20 i) u) 1) i.toNat) (M 2 3).toNat := by
  have hz := (jn1 h).2.1
  generalize hp : (M 2 3).toNat = p
  have hb : ∀ x, 0 ≤ jand x 1 ∧ jand x 1 ≤ 1 := fun x => by rcases jand1 x with e | e <;> omega
  have e0 : jsum (fun i => jpop (M 20 i)) p = jsum (fun i => jsum (fun u => jand (jshr (M 20 i) u) 1) p) p := jsum_congr p (fun i a b => by
    refine jsum_tail _ p 10 (by omega) (fun u c d => ?_)
    have := (jn16 h i u (by omega) (by omega) (by omega) (by omega)).2.2
    by_cases e : jand (jshr (M 20 i) u) 1 = 0
    · exact e
    · exact absurd (this e) (by omega))
  have e1 := jsum_dbl (fun i u => jand (jshr (M 20 i) u) 1) p (fun i u a b c d => by
    have := (jn16 h i u (by omega) (by omega) (by omega) (by omega)).1
    have b1 := hb (jshr (M 20 i) u)
    have b2 := hb (jshr (M 20 u) i)
    show jand (jshr (M 20 i) u) 1 = jand (jshr (M 20 u) i) 1
    unfold jbit at this
    omega) (fun i a b => by
    have := (jn16 h i i (by omega) (by omega) (by omega) (by omega)).2.1
    show jand (jshr (M 20 i) i) 1 = 0
    unfold jbit at this
    omega)
  have e2 := jsum_b (f := fun i => jpop (M 20 i)) (c := 10) p (fun i _ _ => jpop_b _)
  rw [jdiv2 e2.1 (by omega)]
  rw [e0] at e2 ⊢
  rw [e1]
  omega
theorem g_count {G : jG} {M : jMem} {v : Int} (hJ : jJ M) (r0 : jR v) : jN G mX7_count 30 [.ref (jad G 0), .int (jI v)] M (fun v9 M9 => jN G mX8_count 30 [.ref (jad G 8), .int (jI v)] M9 (jP v9)) := by
  have hE := hJ.2.1
  have hO := jJ_O hJ
  have q1 := jq_cases hE
  have q2 := jq_witnesses hE
  have q3 := jq_notices hE
  refine c_count hJ.1 r0 ?_ ?_ ?_ ?_ ?_ ?_ ?_ ?_
  · intro h
    refine e_count hO r0 ?_ ?_ ?_ ?_ ?_ ?_ ?_ ?_
    · intro h2
      exact ⟨_, rfl, rfl, hJ⟩
    · intro h2
      exfalso; omega
    · intro h2
      exfalso; omega
    · intro h2
      exfalso; omega
    · intro h2
      exfalso; omega
    · intro h2
      exfalso; omega
    · intro h2
      exfalso; omega
    · intro h2
      exfalso; omega
  · intro h
    refine e_count hO r0 ?_ ?_ ?_ ?_ ?_ ?_ ?_ ?_
    · intro h2
      exfalso; omega
    · intro h2
      exact ⟨_, rfl, by rw [q1], hJ⟩
    · intro h2
      exfalso; omega
    · intro h2
      exfalso; omega
    · intro h2
      exfalso; omega
    · intro h2
      exfalso; omega
    · intro h2
      exfalso; omega
    · intro h2
      exfalso; omega
  · intro h
    refine e_count hO r0 ?_ ?_ ?_ ?_ ?_ ?_ ?_ ?_
    · intro h2
      exfalso; omega
    · intro h2
      exfalso; omega
    · intro h2
      exact ⟨_, rfl, by rw [q2], hJ⟩
    · intro h2
      exfalso; omega
    · intro h2
      exfalso; omega
    · intro h2
      exfalso; omega
    · intro h2
      exfalso; omega
    · intro h2
      exfalso; omega
  · intro h
    refine e_count hO r0 ?_ ?_ ?_ ?_ ?_ ?_ ?_ ?_
    · intro h2
      exfalso; omega
    · intro h2
      exfalso; omega
    · intro h2
      exfalso; omega
    · intro h2
      exact ⟨_, rfl, by rw [q3], hJ⟩
    · intro h2
      exfalso; omega
    · intro h2
      exfalso; omega
    · intro h2
      exfalso; omega
    · intro h2
      exfalso; omega
  · intro h
    refine e_count hO r0 ?_ ?_ ?_ ?_ ?_ ?_ ?_ ?_
    · intro h2
      exfalso; omega
    · intro h2
      exfalso; omega
    · intro h2
      exfalso; omega
    · intro h2
      exfalso; omega
    · intro h2
      refine ⟨_, rfl, ?_, hJ⟩
      rw [q3, jq_nRead hE]
      refine congrArg (fun z => some (Value.long (jL z))) (jsum_congr _ (fun i a b => ?_))
      have hz := (jn1 hJ.1).2.2
      have := (jn12 hJ.1 i a (by omega)).2.2
      unfold jnu
      by_cases e : M 35 i = 0
      · rw [if_pos e]; omega
      · rw [if_neg e]; omega
    · intro h2
      exfalso; omega
    · intro h2
      exfalso; omega
    · intro h2
      exfalso; omega
  · intro h
    refine e_count hO r0 ?_ ?_ ?_ ?_ ?_ ?_ ?_ ?_
    · intro h2
      exfalso; omega
    · intro h2
      exfalso; omega
    · intro h2
      exfalso; omega
    · intro h2
      exfalso; omega
    · intro h2
      exfalso; omega
    · intro h2
      exact ⟨_, rfl, by rw [jpairs hJ.1, q2, jq_apart hE], hJ⟩
    · intro h2
      exfalso; omega
    · intro h2
      exfalso; omega
  · intro h
    refine e_count hO r0 ?_ ?_ ?_ ?_ ?_ ?_ ?_ ?_
    · intro h2
      exfalso; omega
    · intro h2
      exfalso; omega
    · intro h2
      exfalso; omega
    · intro h2
      exfalso; omega
    · intro h2
      exfalso; omega
    · intro h2
      exfalso; omega
    · intro h2
      refine ⟨_, rfl, ?_, hJ⟩
      rw [q1, jq_fates hE]
      refine congrArg (fun z => some (Value.long (jL z))) (jsum_congr _ (fun i a b => ?_))
      have hz := (jn1 hJ.1).1
      have := (jn3 hJ.1 i a (by omega)).2.2.2.2
      unfold jnf
      by_cases e : M 14 i = -1
      · rw [if_pos e, if_pos (by omega)]
      · rw [if_neg e, if_neg (by omega)]
    · intro h2
      exfalso; omega
  · intro h
    refine e_count hO r0 ?_ ?_ ?_ ?_ ?_ ?_ ?_ ?_
    · intro h2
      exfalso; omega
    · intro h2
      exfalso; omega
    · intro h2
      exfalso; omega
    · intro h2
      exfalso; omega
    · intro h2
      exfalso; omega
    · intro h2
      exfalso; omega
    · intro h2
      exfalso; omega
    · intro h2
      refine ⟨_, rfl, ?_, hJ⟩
      rw [jq_places hE]
      refine congrArg (fun z => some (Value.long (jL z))) ?_
      have a0 := jn14 hJ.1 0 (by omega) (by omega)
      have a1 := jn14 hJ.1 1 (by omega) (by omega)
      show _ = (0 + jnf (M 37) ((0 : Nat) : Int)) + jnf (M 37) ((1 : Nat) : Int)
      unfold jnf
      by_cases e : M 37 0 = -1 <;> by_cases e2 : M 37 1 = -1
      · simp [e, e2]
      · simp [e, e2, show ¬ M 37 1 < 0 by omega]
      · simp [e, e2, show ¬ M 37 0 < 0 by omega]
      · simp [e, e2, show ¬ M 37 1 < 0 by omega, show ¬ M 37 0 < 0 by omega]

theorem g_pay {G : jG} {M : jMem} {v : Int} (hJ : jJ M) (r0 : jR v) : jN G mX7_pay 30 [.ref (jad G 0), .int (jI v)] M (fun v9 M9 => jN G mX8_pay 30 [.ref (jad G 8), .int (jI v)] M9 (jP v9)) := by
  have hE := hJ.2.1
  have hO := jJ_O hJ
  have q1 := jq_cases hE
  have q2 := jq_witnesses hE
  have q3 := jq_notices hE
  refine c_pay hJ.1 r0 ?_ ?_ ?_ ?_ ?_
  · intro h
    refine e_pay hO r0 (fun _ => ⟨_, rfl, rfl, hJ⟩) ?_ ?_ ?_ ?_
    all_goals (intros; exfalso; omega)
  · intro x0 x1 x2
    refine e_pay hO r0 ?_ (fun _ _ _ => ⟨_, rfl, rfl, hJ⟩) ?_ ?_ ?_
    all_goals rw [q2]
    · intro y; exfalso; omega
    all_goals rw [jq_kind hE, jq_sets hE, q1]
    all_goals intro _ _ a b
    all_goals exfalso
    all_goals rcases x2 with e | e
    all_goals first
      | exact e b
      | omega
  · intro x0 x1 x2 x3
    refine e_pay hO r0 ?_ ?_ ?_ ?_ ?_
    all_goals rw [q2]
    · intro y; exfalso; omega
    all_goals rw [jq_kind hE, jq_sets hE, q1]
    · intro _ _ a
      exfalso
      rcases a with e | e
      · omega
      · exact e x3
    · intro _ _ _ _
      exact ⟨_, rfl, by rw [jq_way hE, jq_rules hE], hJ⟩
    all_goals (intros; exfalso; omega)
  · intro x0 x1 x2 x3 N hN
    have hJN := jJ_C hN hJ
    have hEN := hJN.2.1
    have hON := jJ_O hJN
    have k1 := jq_cases hEN
    have k2 := jq_witnesses hEN
    have n1 := congrFun (hN 1 (by decide) (by decide)) 8
    have n2 := congrFun (hN 2 (by decide) (by decide)) 3
    have hday : jdy (N 8 2) (N 8 8) (N 39) (N 38) (N 43) (N 44) (N 41) (jclE N) 200 = jdy (M 1 8) (M 2 3) (M 16) (M 17) (M 13) (M 14) (M 11) (jclC M) 200 := by
      rw [jcl_eq hEN, jcl_C hN, jq_list hEN, jq_many hEN, jq_sets hEN, jq_fates hEN, jq_length hEN, k1, k2, n1, n2, hN 16 (by decide) (by decide), hN 17 (by decide) (by decide), hN 13 (by decide) (by decide), hN 14 (by decide) (by decide), hN 11 (by decide) (by decide)]
    have f44 : N 44 = M 14 := (jq_fates hEN).trans (hN 14 (by decide) (by decide))
    have f43 : N 43 = M 13 := (jq_sets hEN).trans (hN 13 (by decide) (by decide))
    have fcl : jclE N = jclC M := (jcl_eq hEN).trans (jcl_C hN)
    have f45 : N 45 = M 18 := (jq_kind hEN).trans (hN 18 (by decide) (by decide))
    refine e_pay hON r0 ?_ ?_ ?_ ?_ ?_
    · intro y; exfalso; omega
    · rw [f45, f43, k1, n1]
      intro _ _ a
      exfalso
      rcases a with e | e
      · omega
      · exact e x3
    · rw [f45]
      intro _ _ a
      exfalso
      omega
    · intro y0 y1 y2 y3 N2 hN2
      refine ⟨_, rfl, ?_, jJ_E hN2 hJN⟩
      rw [hday, fcl, f43, f44, k1, n1, jq_way hEN, hN 19 (by decide) (by decide), jq_rules hEN, hN 9 (by decide) (by decide)]
      rw [Int.add_comm (2 * M 19 v * M 9 3)]
    · rw [f45]
      intros; exfalso; omega
  · intro x0 x1 x2 x3 N hN
    have hJN := jJ_C hN hJ
    have hEN := hJN.2.1
    have hON := jJ_O hJN
    have k1 := jq_cases hEN
    have k2 := jq_witnesses hEN
    have n1 := congrFun (hN 1 (by decide) (by decide)) 8
    have n2 := congrFun (hN 2 (by decide) (by decide)) 3
    have hday : jdy (N 8 2) (N 8 8) (N 39) (N 38) (N 43) (N 44) (N 41) (jclE N) 200 = jdy (M 1 8) (M 2 3) (M 16) (M 17) (M 13) (M 14) (M 11) (jclC M) 200 := by
      rw [jcl_eq hEN, jcl_C hN, jq_list hEN, jq_many hEN, jq_sets hEN, jq_fates hEN, jq_length hEN, k1, k2, n1, n2, hN 16 (by decide) (by decide), hN 17 (by decide) (by decide), hN 13 (by decide) (by decide), hN 14 (by decide) (by decide), hN 11 (by decide) (by decide)]
    have f44 : N 44 = M 14 := (jq_fates hEN).trans (hN 14 (by decide) (by decide))
    have f43 : N 43 = M 13 := (jq_sets hEN).trans (hN 13 (by decide) (by decide))
    have fcl : jclE N = jclC M := (jcl_eq hEN).trans (jcl_C hN)
    have f45 : N 45 = M 18 := (jq_kind hEN).trans (hN 18 (by decide) (by decide))
    refine e_pay hON r0 ?_ ?_ ?_ ?_ ?_
    · intro y; exfalso; omega
    · rw [f45, f43, k1, n1]
      intro _ _ a
      exfalso
      rcases a with e | e
      · omega
      · exact e x3
    · rw [f45]
      intro _ _ a
      exfalso
      omega
    · rw [f45]
      intros; exfalso; omega
    · intro y0 y1 y2 y3 N2 hN2
      refine ⟨_, rfl, ?_, jJ_E hN2 hJN⟩
      rw [hday, fcl, f43, k1, n1, jq_way hEN, hN 19 (by decide) (by decide), jq_rules hEN, hN 9 (by decide) (by decide)]
      rw [Int.add_zero, Int.add_comm (2 * M 19 v * M 9 3)]

theorem g_room {G : jG} {M : jMem} {v : Int} (hJ : jJ M) (r0 : jR v) : jN G mX7_room 30 [.ref (jad G 0), .int (jI v)] M (fun v9 M9 => jN G mX8_room 30 [.ref (jad G 8), .int (jI v)] M9 (jP v9)) := by
  have hE := hJ.2.1
  have hO := jJ_O hJ
  have q1 := jq_cases hE
  have q2 := jq_witnesses hE
  have q3 := jq_notices hE
  have key : ∀ N, jFC M N → ∀ x : Int, 0 ≤ v → v < M 2 3 → (∀ σ, σ = jdy (M 1 8) (M 2 3) (M 16) (M 17) (M 13) (M 14) (M 11) (jclC M) 200 →
      ((jgr (M 2 3) (M 18) (jfA (M 1 8) (M 13) (jclC M) σ) (jfU (M 1 8) (M 13) (jclC M) σ) (M 20) (M 2 3).toNat (fun _ => -1) = none → x = -9000000000000000002) ∧ (∀ rm, jgr (M 2 3) (M 18) (jfA (M 1 8) (M 13) (jclC M) σ) (jfU (M 1 8) (M 13) (jclC M) σ) (M 20) (M 2 3).toNat (fun _ => -1) = some rm → jfA (M 1 8) (M 13) (jclC M) σ v < 0 → x = -9000000000000000005) ∧ (∀ rm, jgr (M 2 3) (M 18) (jfA (M 1 8) (M 13) (jclC M) σ) (jfU (M 1 8) (M 13) (jclC M) σ) (M 20) (M 2 3).toNat (fun _ => -1) = some rm → 0 ≤ jfA (M 1 8) (M 13) (jclC M) σ v → x = rm v))) →
      jN G mX8_room 30 [.ref (jad G 8), .int (jI v)] N (jP (some (.long (jL x)))) := by
    intro N hN x x0 x1 hx
    have hJN := jJ_C hN hJ
    have hEN := hJN.2.1
    have hON := jJ_O hJN
    have k1 := jq_cases hEN
    have k2 := jq_witnesses hEN
    have n1 := congrFun (hN 1 (by decide) (by decide)) 8
    have n2 := congrFun (hN 2 (by decide) (by decide)) 3
    have hday : jdy (N 8 2) (N 8 8) (N 39) (N 38) (N 43) (N 44) (N 41) (jclE N) 200 = jdy (M 1 8) (M 2 3) (M 16) (M 17) (M 13) (M 14) (M 11) (jclC M) 200 := by
      rw [jcl_eq hEN, jcl_C hN, jq_list hEN, jq_many hEN, jq_sets hEN, jq_fates hEN, jq_length hEN, k1, k2, n1, n2, hN 16 (by decide) (by decide), hN 17 (by decide) (by decide), hN 13 (by decide) (by decide), hN 14 (by decide) (by decide), hN 11 (by decide) (by decide)]
    have f44 : N 44 = M 14 := (jq_fates hEN).trans (hN 14 (by decide) (by decide))
    have f43 : N 43 = M 13 := (jq_sets hEN).trans (hN 13 (by decide) (by decide))
    have fcl : jclE N = jclC M := (jcl_eq hEN).trans (jcl_C hN)
    have hx := hx _ rfl
    have f45 : N 45 = M 18 := (jq_kind hEN).trans (hN 18 (by decide) (by decide))
    have f47 : N 47 = M 20 := (jq_apart hEN).trans (hN 20 (by decide) (by decide))
    refine e_room hON r0 ?_ ?_ ?_ ?_
    · intro y; exfalso; omega
    all_goals rw [hday, fcl, f43, k1, n1, f45, f47, k2, n2]
    all_goals generalize jdy (M 1 8) (M 2 3) (M 16) (M 17) (M 13) (M 14) (M 11) (jclC M) 200 = σ at *
    · intro _ _ e N2 hN2
      exact ⟨_, rfl, by rw [hx.1 e], jJ_E hN2 hJN⟩
    · intro _ _ rm e a N2 hN2
      exact ⟨_, rfl, by rw [hx.2.1 rm e a], jJ_E hN2 hJN⟩
    · intro _ _ rm e a N2 hN2
      exact ⟨_, rfl, by rw [hx.2.2 rm e a], jJ_E hN2 hJN⟩
  refine c_room hJ.1 r0 ?_ ?_ ?_ ?_
  · intro h
    refine e_room hO r0 (fun _ => ⟨_, rfl, rfl, hJ⟩) ?_ ?_ ?_
    all_goals (intros; exfalso; omega)
  all_goals generalize hσ : jdy (M 1 8) (M 2 3) (M 16) (M 17) (M 13) (M 14) (M 11) (jclC M) 200 = σ
  · intro x0 x1 e N hN
    refine key N hN _ x0 x1 (fun σ' hs => ?_)
    rw [hσ] at hs
    subst hs
    exact ⟨fun _ => rfl, fun rm e2 => absurd (e.symm.trans e2) (by simp), fun rm e2 => absurd (e.symm.trans e2) (by simp)⟩
  · intro x0 x1 rm e a N hN
    refine key N hN _ x0 x1 (fun σ' hs => ?_)
    rw [hσ] at hs
    subst hs
    exact ⟨fun e2 => absurd (e2.symm.trans e) (by simp), fun _ _ _ => rfl, fun rm e2 b => absurd b (by omega)⟩
  · intro x0 x1 rm e a N hN
    refine key N hN _ x0 x1 (fun σ' hs => ?_)
    rw [hσ] at hs
    subst hs
    exact ⟨fun e2 => absurd (e2.symm.trans e) (by simp), fun rm e2 b => absurd b (by omega), fun rm2 e2 b => by rw [Option.some.inj (e.symm.trans e2)]⟩
