noncomputable def jclC (M : jMem) : Int → Int → Int := fun k v => if (0 ≤ k ∧ k < 12) ∧ (0 ≤ v ∧ v < 10) ∧ jbit (M 13 k) v then M 15 (k * 10 + v) else 0
theorem jclC_at {M : jMem} {k v : Int} (hk : 0 ≤ k ∧ k < 12) (hv : 0 ≤ v ∧ v < 10) (h : jbit (M 13 k) v) : jclC M k v = M 15 (k * 10 + v) := if_pos ⟨hk, hv, h⟩
def jDC (M N : jMem) (σ : jS) : Prop := jFC M N ∧ (∀ k, 0 ≤ k → k < 12 → N 22 k = σ.1 k ∧ N 23 k = σ.2.1 k) ∧ (∀ i, 0 ≤ i → i < 6 → N 24 i = σ.2.2.1 i) ∧ (∀ c, 0 ≤ c → c < 3 → N 25 c = σ.2.2.2.1 c) ∧ N 4 6 = σ.2.2.2.2
def jclo (N : jMem) (k c t e : Int) : jMem := jup (jup (jup (jup N 22 k t) 23 k e) 25 c (N 25 c + 1)) 4 6 (N 4 6 - 1)
theorem jDC_clo {M N : jMem} {σ : jS} (h : jDC M N σ) {k c t e : Int} (c0 : 0 ≤ c) (c1 : c < 3) : jDC M (jclo N k c t e) (jcs σ k c t e) := by
  obtain ⟨h1, h2, h3, h4, h5⟩ := h
  refine ⟨(((h1.up (by decide)).up (by decide)).up (by decide)).up (by decide), fun b b0 b1 => ⟨?_, ?_⟩, fun i i0 i1 => ?_, fun a a0 a1 => ?_, ?_⟩
  · show jclo N k c t e 22 b = jfu σ.1 k t b
    unfold jclo
    rw [jup_ne (by decide), jup_ne (by decide), jup_ne (by decide)]
    by_cases z : b = k
    · subst z; rw [jup_at, jfu_at]
    · rw [jup_off z, jfu_off z]; exact (h2 b b0 b1).1
  · show jclo N k c t e 23 b = jfu σ.2.1 k e b
    unfold jclo
    rw [jup_ne (by decide), jup_ne (by decide)]
    by_cases z : b = k
    · subst z; rw [jup_at, jfu_at]
    · rw [jup_off z, jfu_off z, jup_ne (by decide)]; exact (h2 b b0 b1).2
  · show jclo N k c t e 24 i = σ.2.2.1 i
    unfold jclo
    rw [jup_ne (by decide), jup_ne (by decide), jup_ne (by decide), jup_ne (by decide)]
    exact h3 i i0 i1
  · show jclo N k c t e 25 a = jfu σ.2.2.2.1 c (σ.2.2.2.1 c + 1) a
    unfold jclo
    rw [jup_ne (by decide)]
    by_cases z : a = c
    · subst z; rw [jup_at, jfu_at, h4 a a0 a1]
    · rw [jup_off z, jfu_off z, jup_ne (by decide), jup_ne (by decide)]; exact h4 a a0 a1
  · show jclo N k c t e 4 6 = σ.2.2.2.2 - 1
    unfold jclo
    rw [jup_at, h5]
theorem jclo_26 (N : jMem) (k c t e : Int) : jclo N k c t e 26 = N 26 := by
  funext b; unfold jclo; rw [jup_ne (by decide), jup_ne (by decide), jup_ne (by decide), jup_ne (by decide)]
theorem jclo_27 (N : jMem) (k c t e : Int) : jclo N k c t e 27 = N 27 := by
  funext b; unfold jclo; rw [jup_ne (by decide), jup_ne (by decide), jup_ne (by decide), jup_ne (by decide)]
theorem c_close {G : jG} {d : Nat} {M : jMem} {Q : Option Value → jMem → Prop} {k c t e : Int} (hk : 0 ≤ k ∧ k < 12) (hc : 0 ≤ c ∧ c < 3) (h : Q none (jclo M k c t e)) : jN G mX1_close (d) [.ref (jad G 4), .int (jI k), .int (jI c), .int (jI t), .int (jI e)] M Q := by
  show jM G mX1_close (d) 0 [.ref (jad G 4), .int (jI k), .int (jI c), .int (jI t), .int (jI e)] [] M Q
  refine jr_aload_n (n := 1) dX1_close_0 rfl rfl ?_
  refine jr_getR (n := 4) dX1_close_1 rfl fX1_9 rfl (by decide) (by decide) rfl ?_
  refine jr_iload_n (n := 5) dX1_close_4 rfl rfl ?_
  refine jr_iload_n (n := 6) dX1_close_5 rfl rfl ?_
  refine jr_iast (n := 7) dX1_close_6 rfl rfl (by decide) (by omega) (by omega) ?_
  refine jr_aload_n (n := 8) dX1_close_7 rfl rfl ?_
  refine jr_getR (n := 11) dX1_close_8 rfl fX1_15 rfl (by decide) (by decide) rfl ?_
  refine jr_iload_n (n := 12) dX1_close_11 rfl rfl ?_
  refine jr_iload (n := 14) dX1_close_12 rfl rfl ?_
  refine jr_iast (n := 15) dX1_close_14 rfl rfl (by decide) (by omega) (by omega) ?_
  refine jr_aload_n (n := 16) dX1_close_15 rfl rfl ?_
  refine jr_getR (n := 19) dX1_close_16 rfl fX1_21 rfl (by decide) (by decide) rfl ?_
  refine jr_iload_n (n := 20) dX1_close_19 rfl rfl ?_
  refine jr_dup2 (n := 21) dX1_close_20 rfl rfl rfl ?_
  refine jr_iald (n := 22) dX1_close_21 rfl rfl (by decide) (by omega) (by omega) ?_
  rw [jup_ne (show (25 : Nat) ≠ 23 by decide)]
  rw [jup_ne (show (25 : Nat) ≠ 22 by decide)]
  refine jr_iconst (n := 23) dX1_close_22 rfl ?_
  refine jr_iadd (n := 24) dX1_close_23 rfl ?_
  refine jr_iast (n := 25) dX1_close_24 rfl rfl (by decide) (by omega) (by omega) ?_
  refine jr_aload_n (n := 26) dX1_close_25 rfl rfl ?_
  refine jr_dup (n := 27) dX1_close_26 rfl rfl ?_
  refine jr_getI (n := 30) (i := 6) rfl dX1_close_27 rfl fX1_42 rfl (by decide) (by decide) rfl ?_
  rw [jup_ne (show (4 : Nat) ≠ 25 by decide)]
  rw [jup_ne (show (4 : Nat) ≠ 23 by decide)]
  rw [jup_ne (show (4 : Nat) ≠ 22 by decide)]
  refine jr_iconst (n := 31) dX1_close_30 rfl ?_
  refine jr_isub (n := 32) dX1_close_31 rfl ?_
  refine jr_putI (n := 35) (i := 6) rfl dX1_close_32 rfl fX1_42 wX1_6 rfl (by decide) (by decide) rfl ?_
  refine jr_vret dX1_close_35 rfl ?_
  exact h

theorem c_next_l {G : jG} {d : Nat} {M : jMem} {Q : Option Value → jMem → Prop} (hI : jK M) {c t m : Int} (hc : 0 ≤ c ∧ c < 3) (ht : 0 ≤ t ∧ t < 200)  : ∀ (f : Nat) (σ : jS) (N : jMem), jDC M N σ → jIv (M 1 8) (M 16) (M 17) (M 13) t m σ → jFr (M 1 8) (M 16) (M 13) t (N 26) (N 27) σ → N 26 c ≤ t → (∀ N', jDC M N' (jsk (M 16) (M 17) (M 14) c t f σ) → jIv (M 1 8) (M 16) (M 17) (M 13) t m (jsk (M 16) (M 17) (M 14) c t f σ) → jFr (M 1 8) (M 16) (M 13) t (N' 26) (N' 27) (jsk (M 16) (M 17) (M 14) c t f σ) → N' 26 c ≤ t → (jsk (M 16) (M 17) (M 14) c t f σ).2.2.2.1 c < M 17 c → Q (some (.int (jI (M 16 (6 * c + (jsk (M 16) (M 17) (M 14) c t f σ).2.2.2.1 c))))) N') → (∀ N', jDC M N' (jsk (M 16) (M 17) (M 14) c t f σ) → jFr (M 1 8) (M 16) (M 13) t (N' 26) (N' 27) (jsk (M 16) (M 17) (M 14) c t f σ) → M 17 c ≤ (jsk (M 16) (M 17) (M 14) c t f σ).2.2.2.1 c → Q (some (.int (jI (-1)))) N') → M 17 c - σ.2.2.2.1 c < f → jM G mX1_nextNotFolded (d + 1) 8 [.ref (jad G 4), .ref (jad G 1), .int (jI c), .int (jI t), .int (jI (σ.2.2.2.1 c)), .null] [] (N) Q := by
  intro f
  induction f with
  | zero =>
    intro σ N hD hV hF hcf h1 h0 hf
    exact absurd hf (by have := hV.1 c hc.1 hc.2; omega)
  | succ f ih =>
    intro σ N hD hV hF hcf h1 h0 hf
    have hz := jn1 hI
    have hs := jn2 hI c hc.1 hc.2
    have hSD := jSD_of hI
    have hx := hV.1 c hc.1 hc.2
    have hK := jK_C hD.1 hI
    have n17 := hD.1 17 (by decide) (by decide)
    have n16 := hD.1 16 (by decide) (by decide)
    have n14 := hD.1 14 (by decide) (by decide)
    unfold jsk at h1 h0
    refine jr_iload (n := 10) dX1_nextNotFolded_8 rfl rfl ?_
    refine jr_aload_n (n := 11) dX1_nextNotFolded_10 rfl rfl ?_
    refine jr_getR (n := 14) dX1_nextNotFolded_11 rfl fX1_59 rfl (by decide) (by decide) rfl ?_
    refine jr_iload_n (n := 15) dX1_nextNotFolded_14 rfl rfl ?_
    refine jr_iald (n := 16) dX1_nextNotFolded_15 rfl rfl (by decide) (by omega) (by omega) ?_
    rw [n17]
    refine jr_icmp_ge (n := 19) (t := 61) dX1_nextNotFolded_16 (by decide) rfl (by omega) (by omega) (fun b16 => ?_) (fun b16 => ?_)
    · refine jr_iconst (n := 62) dX1_nextNotFolded_61 rfl ?_
      refine jr_iret dX1_nextNotFolded_62 rfl ?_
      first
        | (rw [if_neg b37] at h1; exact h1 N hD hV hF hcf (by omega))
        | (rw [if_pos (by omega)] at h0; exact h0 N hD hF (by omega))
    · refine jr_aload_n (n := 20) dX1_nextNotFolded_19 rfl rfl ?_
      refine jr_iload_n (n := 21) dX1_nextNotFolded_20 rfl rfl ?_
      refine jr_iload (n := 23) dX1_nextNotFolded_21 rfl rfl ?_
      refine jr_cV2 (n := 26) (ci := 2) (ν := mX2_caseAt) dX1_nextNotFolded_23 rfl lX1_62 kX2_caseAt iX2_caseAt rfl ⟨_, rfl, rfl⟩ (by decide) (Nat.le_of_ble_eq_true rfl) (Nat.le_of_ble_eq_true rfl) rfl ?_
      refine c_caseAt (by omega) (by rw [n17]; omega) (by omega) (fun b23 b23b => ?_) (fun b23 => absurd b23 (by rw [n17]; omega))
      rw [n16, Int.mul_comm c 6]
      have he := hSD.2.2.2.1 c _ hc.1 hc.2 hx.1 (by omega)
      have hfa := (jn3 hI _ he.1 (by omega)).2.2.2.2
      rw [if_neg (by omega)] at h1 h0
      refine jr_istore5 (n := 28) dX1_nextNotFolded_26 rfl (by decide) rfl ?_
      refine jr_iload (n := 30) dX1_nextNotFolded_28 rfl rfl ?_
      refine jr_iconst (n := 31) dX1_nextNotFolded_30 rfl ?_
      refine jr_icmp_eq (n := 34) (t := 43) dX1_nextNotFolded_31 (by decide) rfl (by omega) (by omega) (fun b31 => ?_) (fun b31 => ?_)
      · exact absurd b31 (by omega)
      · refine jr_aload_n (n := 35) dX1_nextNotFolded_34 rfl rfl ?_
        refine jr_iload (n := 37) dX1_nextNotFolded_35 rfl rfl ?_
        refine jr_cV1 (n := 40) (ci := 2) (ν := mX2_isFolded) dX1_nextNotFolded_37 rfl lX1_66 kX2_isFolded iX2_isFolded rfl ⟨_, rfl, rfl⟩ (by decide) (Nat.le_of_ble_eq_true rfl) (Nat.le_of_ble_eq_true rfl) rfl ?_
        refine c_isFolded (by omega) (by rw [n14]; omega) (fun b37 => ?_) (fun b37 => ?_)
        all_goals rw [n14] at b37
        · refine jr_ifT_ne (t := 46) dX1_nextNotFolded_40 (by decide) (by decide) (by decide) ?_
          refine jr_aload_n (n := 47) dX1_nextNotFolded_46 rfl rfl ?_
          refine jr_iload (n := 49) dX1_nextNotFolded_47 rfl rfl ?_
          refine jr_iload_n (n := 50) dX1_nextNotFolded_49 rfl rfl ?_
          refine jr_iload_n (n := 51) dX1_nextNotFolded_50 rfl rfl ?_
          refine jr_iload_n (n := 52) dX1_nextNotFolded_51 rfl rfl ?_
          refine jr_cV4 (n := 55) (ci := 1) (ν := mX1_close) dX1_nextNotFolded_52 rfl lX1_70 kX1_close iX1_close rfl ⟨_, rfl, rfl⟩ (by decide) (Nat.le_of_ble_eq_true rfl) (Nat.le_of_ble_eq_true rfl) rfl ?_
          refine c_close (by omega) (by omega) ?_
          refine jr_iinc4 (n := 58) dX1_nextNotFolded_55 rfl (by decide) rfl ?_
          refine jr_goto (t := 8) dX1_nextNotFolded_58 (by decide) ?_
          rw [if_pos b37] at h1 h0
          have k9 := ih (jcs σ (M 16 (6 * c + σ.2.2.2.1 c)) c t t) _ (jDC_clo hD hc.1 hc.2) (jIv_cs hSD hV hc.1 hc.2 (by omega) ht.1 ht.2 (by omega) (by omega) (Or.inl rfl)) (jFr_cs hSD hV hF hc.1 hc.2 (by omega) ht.1 ht.2 (by omega) (by omega) (fun a _ => by rw [jclo_26]) (Or.inr ⟨rfl, by rw [jclo_26], hcf⟩) (Or.inl ⟨rfl, fun v => by rw [jclo_27]⟩)) (by rw [jclo_26]; exact hcf) h1 h0 (by show _ - jfu σ.2.2.2.1 c (σ.2.2.2.1 c + 1) c < _; rw [jfu_at]; omega)
          rw [show (jcs σ (M 16 (6 * c + σ.2.2.2.1 c)) c t t).2.2.2.1 c = σ.2.2.2.1 c + 1 from jfu_at] at k9
          exact jr_drop k9 ⟨Or.inr rfl, Or.inr rfl, Or.inr rfl, Or.inr rfl, Or.inr rfl, Or.inl rfl, trivial⟩
        · refine jr_ifF_ne (n := 43) (t := 46) dX1_nextNotFolded_40 rfl (by decide) (by decide) (by decide) ?_
          refine jr_iload (n := 45) dX1_nextNotFolded_43 rfl rfl ?_
          refine jr_iret dX1_nextNotFolded_45 rfl ?_
          first
            | (rw [if_neg b37] at h1; exact h1 N hD hV hF hcf (by omega))
            | (rw [if_pos (by omega)] at h0; exact h0 N hD hF (by omega))

theorem c_next {G : jG} {d : Nat} {M : jMem} {Q : Option Value → jMem → Prop} (hI : jK M) {N : jMem} {σ : jS} {c t m : Int} (hc : 0 ≤ c ∧ c < 3) (ht : 0 ≤ t ∧ t < 200) (hD : jDC M N σ) (hV : jIv (M 1 8) (M 16) (M 17) (M 13) t m σ) (hF : jFr (M 1 8) (M 16) (M 13) t (N 26) (N 27) σ) (hcf : N 26 c ≤ t) (h1 : ∀ N', jDC M N' (jsk (M 16) (M 17) (M 14) c t 7 σ) → jIv (M 1 8) (M 16) (M 17) (M 13) t m (jsk (M 16) (M 17) (M 14) c t 7 σ) → jFr (M 1 8) (M 16) (M 13) t (N' 26) (N' 27) (jsk (M 16) (M 17) (M 14) c t 7 σ) → N' 26 c ≤ t → (jsk (M 16) (M 17) (M 14) c t 7 σ).2.2.2.1 c < M 17 c → Q (some (.int (jI (M 16 (6 * c + (jsk (M 16) (M 17) (M 14) c t 7 σ).2.2.2.1 c))))) N') (h0 : ∀ N', jDC M N' (jsk (M 16) (M 17) (M 14) c t 7 σ) → jFr (M 1 8) (M 16) (M 13) t (N' 26) (N' 27) (jsk (M 16) (M 17) (M 14) c t 7 σ) → M 17 c ≤ (jsk (M 16) (M 17) (M 14) c t 7 σ).2.2.2.1 c → Q (some (.int (jI (-1)))) N') : jN G mX1_nextNotFolded (d + 1) [.ref (jad G 4), .ref (jad G 1), .int (jI c), .int (jI t)] N Q := by
  show jM G mX1_nextNotFolded (d + 1) 0 [.ref (jad G 4), .ref (jad G 1), .int (jI c), .int (jI t), .null, .null] [] N Q
  have hs := jn2 hI c hc.1 hc.2
  have hx := hV.1 c hc.1 hc.2
  refine jr_aload_n (n := 1) dX1_nextNotFolded_0 rfl rfl ?_
  refine jr_getR (n := 4) dX1_nextNotFolded_1 rfl fX1_21 rfl (by decide) (by decide) rfl ?_
  refine jr_iload_n (n := 5) dX1_nextNotFolded_4 rfl rfl ?_
  refine jr_iald (n := 6) dX1_nextNotFolded_5 rfl rfl (by decide) (by omega) (by omega) ?_
  rw [hD.2.2.2.1 c hc.1 hc.2]
  refine jr_istore4 (n := 8) dX1_nextNotFolded_6 rfl (by decide) rfl ?_
  exact c_next_l hI hc ht 7 σ N hD hV hF hcf h1 h0 (by omega)

theorem c_hind_l {G : jG} {d : Nat} {M : jMem} {Q : Option Value → jMem → Prop} (hI : jK M) {N : jMem} {σ : jS} {k t m : Int} (hk : 0 ≤ k ∧ k < M 1 8) (ht : 0 ≤ t ∧ t < 200) (hD : jDC M N σ) (hV : jIv (M 1 8) (M 16) (M 17) (M 13) t m σ) (hF : jFr (M 1 8) (M 16) (M 13) t (N 26) (N 27) σ) (hkb : σ.1 k = -1) (h : Q (some (.int (jI (jwy (M 1 8) (M 2 3) (M 13) (jclC M) σ k t)))) N)  : ∀ (f : Nat) (v z : Int), 0 ≤ v → v ≤ 10 → (∀ u, 0 ≤ u → u < v → jbit (M 13 k) u → ¬ t < jclC M k u) → ((z = 1 ∧ ∃ u, 0 ≤ u ∧ u < v ∧ jbit (M 13 k) u ∧ t < N 27 u) ∨ (z = -1 ∧ ∀ u, 0 ≤ u → u < v → jbit (M 13 k) u → ¬ t < N 27 u)) → 10 - v < f → jM G mX1_hindrance (d + 2) 6 [.ref (jad G 4), .ref (jad G 1), .int (jI k), .int (jI t), .int (jI z), .int (jI v)] [] (N) Q := by
  intro f
  induction f with
  | zero =>
    intro v z v0 v1 hl hb hf
    exact absurd hf (by omega)
  | succ f ih =>
    intro v z v0 v1 hl hb hf
    have hz := jn1 hI
    have hSD := jSD_of hI
    have n13 := hD.1 13 (by decide) (by decide)
    have n15 := hD.1 15 (by decide) (by decide)
    refine jr_iload (n := 8) dX1_hindrance_6 rfl rfl ?_
    refine jr_bipush (n := 10) dX1_hindrance_8 rfl (by decide) ?_
    refine jr_icmp_ge (n := 13) (t := 56) dX1_hindrance_10 (by decide) rfl (by omega) (by omega) (fun b10 => ?_) (fun b10 => ?_)
    · refine jr_iload (n := 58) dX1_hindrance_56 rfl rfl ?_
      refine jr_iret dX1_hindrance_58 rfl ?_
      have e9 : v = 10 := by omega
      subst e9
      have e : jwy (M 1 8) (M 2 3) (M 13) (jclC M) σ k t = z := by
        unfold jwy
        rw [if_neg (fun ⟨u, u0, u1, u2, u3⟩ => hl u u0 (by omega) u2 u3)]
        rcases hb with ⟨e1, u, u0, u1, u2, u3⟩ | ⟨e1, hb⟩
        · have up : u < M 2 3 := by
            rcases Int.lt_or_le u (M 2 3) with q | q
            · exact q
            · exact absurd u2 (jn10 hI k u (by omega) (by omega) q (by omega))
          rw [if_pos ⟨u, u0, up, u2, (jBy_wf hV hF u0 u1 hkb).mpr u3⟩, e1]
        · rw [if_neg (fun ⟨u, u0, u1, u2, u3⟩ => hb u u0 (by omega) u2 ((jBy_wf hV hF u0 (by omega) hkb).mp u3)), e1]
      rw [e] at h
      exact h
    · refine jr_aload_n (n := 14) dX1_hindrance_13 rfl rfl ?_
      refine jr_iload_n (n := 15) dX1_hindrance_14 rfl rfl ?_
      refine jr_iload (n := 17) dX1_hindrance_15 rfl rfl ?_
      refine jr_cV2 (n := 20) (ci := 2) (ν := mX2_hasNeedOf) dX1_hindrance_17 rfl lX1_74 kX2_hasNeedOf iX2_hasNeedOf rfl ⟨_, rfl, rfl⟩ (by decide) (Nat.le_of_ble_eq_true rfl) (Nat.le_of_ble_eq_true rfl) rfl ?_
      refine c_hasNeedOf (by omega) (fun b17 => ?_) (fun b17 => ?_)
      all_goals rw [n13] at b17
      · refine jr_ifF_eq (n := 23) (t := 50) dX1_hindrance_20 rfl (by decide) (by decide) (by decide) ?_
        refine jr_aload_n (n := 24) dX1_hindrance_23 rfl rfl ?_
        refine jr_iload_n (n := 25) dX1_hindrance_24 rfl rfl ?_
        refine jr_iload (n := 27) dX1_hindrance_25 rfl rfl ?_
        refine jr_cV2 (n := 30) (ci := 2) (ν := mX2_quarterFor) dX1_hindrance_27 rfl lX1_78 kX2_quarterFor iX2_quarterFor rfl ⟨_, rfl, rfl⟩ (by decide) (Nat.le_of_ble_eq_true rfl) (Nat.le_of_ble_eq_true rfl) rfl ?_
        refine c_quarterFor (by omega) (by omega) ?_
        rw [n15]
        have hca := jn5 hI (k * 10 + v) (by omega) (by omega)
        have hcl := jclC_at (M := M) (k := k) (v := v) (by omega) (by omega) b17
        have hvp : v < M 2 3 := by
          rcases Int.lt_or_le v (M 2 3) with q | q
          · exact q
          · exact absurd b17 (jn10 hI k v (by omega) (by omega) q (by omega))
        have hwf := (hF.2 v v0 (by omega)).1
        refine jr_iload_n (n := 31) dX1_hindrance_30 rfl rfl ?_
        refine jr_icmp_le (n := 34) (t := 36) dX1_hindrance_31 (by decide) rfl (by omega) (by omega) (fun b31 => ?_) (fun b31 => ?_)
        · refine jr_aload_n (n := 37) dX1_hindrance_36 rfl rfl ?_
          refine jr_getR (n := 40) dX1_hindrance_37 rfl fX1_27 rfl (by decide) (by decide) rfl ?_
          refine jr_iload (n := 42) dX1_hindrance_40 rfl rfl ?_
          refine jr_iald (n := 43) dX1_hindrance_42 rfl rfl (by decide) (by omega) (by omega) ?_
          refine jr_iload_n (n := 44) dX1_hindrance_43 rfl rfl ?_
          refine jr_icmp_le (n := 47) (t := 50) dX1_hindrance_44 (by decide) rfl (by omega) (by omega) (fun b44 => ?_) (fun b44 => ?_)
          · refine jr_iinc5 (n := 53) dX1_hindrance_50 rfl (by decide) rfl ?_
            refine jr_goto (t := 6) dX1_hindrance_53 (by decide) ?_
            exact ih (v + 1) z (by omega) (by omega) (fun u u0 u1 u2 => by
              by_cases q : u = v
              · subst q; first | exact absurd u2 b17 | omega
              · exact hl u u0 (by omega) u2) (by
              rcases hb with ⟨e1, u, u0, u1, u2, u3⟩ | ⟨e1, hb⟩
              · exact Or.inl ⟨e1, u, u0, by omega, u2, u3⟩
              · exact Or.inr ⟨e1, fun u u0 u1 u2 => by
                  by_cases q : u = v
                  · subst q; first | exact absurd u2 b17 | omega
                  · exact hb u u0 (by omega) u2⟩) (by omega)
          · refine jr_iconst (n := 48) dX1_hindrance_47 rfl ?_
            refine jr_istore4 (n := 50) dX1_hindrance_48 rfl (by decide) rfl ?_
            refine jr_iinc5 (n := 53) dX1_hindrance_50 rfl (by decide) rfl ?_
            refine jr_goto (t := 6) dX1_hindrance_53 (by decide) ?_
            exact ih (v + 1) 1 (by omega) (by omega) (fun u u0 u1 u2 => by
              by_cases q : u = v
              · subst q; omega
              · exact hl u u0 (by omega) u2) (Or.inl ⟨rfl, v, v0, by omega, b17, b44⟩) (by omega)
        · refine jr_iconst (n := 35) dX1_hindrance_34 rfl ?_
          refine jr_iret dX1_hindrance_35 rfl ?_
          have e : jwy (M 1 8) (M 2 3) (M 13) (jclC M) σ k t = 0 := by unfold jwy; exact if_pos ⟨v, v0, hvp, b17, by omega⟩
          rw [e] at h
          exact h
      · refine jr_ifT_eq (t := 50) dX1_hindrance_20 (by decide) (by decide) (by decide) ?_
        refine jr_iinc5 (n := 53) dX1_hindrance_50 rfl (by decide) rfl ?_
        refine jr_goto (t := 6) dX1_hindrance_53 (by decide) ?_
        exact ih (v + 1) z (by omega) (by omega) (fun u u0 u1 u2 => by
          by_cases q : u = v
          · subst q; first | exact absurd u2 b17 | omega
          · exact hl u u0 (by omega) u2) (by
          rcases hb with ⟨e1, u, u0, u1, u2, u3⟩ | ⟨e1, hb⟩
          · exact Or.inl ⟨e1, u, u0, by omega, u2, u3⟩
          · exact Or.inr ⟨e1, fun u u0 u1 u2 => by
              by_cases q : u = v
              · subst q; first | exact absurd u2 b17 | omega
              · exact hb u u0 (by omega) u2⟩) (by omega)

theorem c_hindrance {G : jG} {d : Nat} {M : jMem} {Q : Option Value → jMem → Prop} (hI : jK M) {N : jMem} {σ : jS} {k t m : Int} (hk : 0 ≤ k ∧ k < M 1 8) (ht : 0 ≤ t ∧ t < 200) (hD : jDC M N σ) (hV : jIv (M 1 8) (M 16) (M 17) (M 13) t m σ) (hF : jFr (M 1 8) (M 16) (M 13) t (N 26) (N 27) σ) (hkb : σ.1 k = -1) (h : Q (some (.int (jI (jwy (M 1 8) (M 2 3) (M 13) (jclC M) σ k t)))) N) : jN G mX1_hindrance (d + 2) [.ref (jad G 4), .ref (jad G 1), .int (jI k), .int (jI t)] N Q := by
  show jM G mX1_hindrance (d + 2) 0 [.ref (jad G 4), .ref (jad G 1), .int (jI k), .int (jI t), .null, .null] [] N Q
  refine jr_iconst (n := 1) dX1_hindrance_0 rfl ?_
  refine jr_istore4 (n := 3) dX1_hindrance_1 rfl (by decide) rfl ?_
  refine jr_iconst (n := 4) dX1_hindrance_3 rfl ?_
  refine jr_istore5 (n := 6) dX1_hindrance_4 rfl (by decide) rfl ?_
  exact c_hind_l hI hk ht hD hV hF hkb h 11 0 (-1) (by omega) (by omega) (fun u u0 u1 => absurd u1 (by omega)) (Or.inr ⟨rfl, fun u u0 u1 => absurd u1 (by omega)⟩) (by omega)

def jbgC (M N : jMem) (k t c e i : Int) : jMem := jcb (jup (jclo N k c t e) 26 c e) 27 0 i (fun b => decide (jbit (M 13 k) b)) (fun _ => e)
theorem jbgC_ne {M N : jMem} {k t c e i : Int} {a : Nat} (h : a ≠ 27) (b : Int) : jbgC M N k t c e i a b = jup (jclo N k c t e) 26 c e a b := jcb_ne h b
theorem jbgC_y {M N : jMem} {k t c e i : Int} (h : 0 ≤ i) (h1 : jbit (M 13 k) i) : jup (jbgC M N k t c e i) 27 i e = jbgC M N k t c e (i + 1) := jcb_y _ _ _ _ h (decide_eq_true h1) rfl
theorem jbgC_n {M N : jMem} {k t c e i : Int} (h1 : ¬ jbit (M 13 k) i) : jbgC M N k t c e i = jbgC M N k t c e (i + 1) := jcb_n _ _ _ _ (decide_eq_false h1)
theorem c_begin_l {G : jG} {d : Nat} {M : jMem} {Q : Option Value → jMem → Prop} (hI : jK M) {N : jMem} (hN : jFC M N) {k t : Int} (hk : 0 ≤ k ∧ k < M 1 8) (ht : 0 ≤ t ∧ t < 200) (h : Q none (jbgC M N k t (M 10 k) (t + jdu (M 14) (M 11) k) 10))  : ∀ (f : Nat) (i : Int), 0 ≤ i → i ≤ 10 → 10 - i < f → jM G mX1_begin (d + 2) 39 [.ref (jad G 4), .ref (jad G 1), .int (jI k), .int (jI t), .int (jI (M 10 k)), .int (jI (t + jdu (M 14) (M 11) k)), .int (jI i)] [] (jbgC M N k t (M 10 k) (t + jdu (M 14) (M 11) k) i) Q := by
  intro f
  induction f with
  | zero =>
    intro i h0 h1 hf
    exact absurd hf (by omega)
  | succ f ih =>
    intro i h0 h1 hf
    have hz := jn1 hI
    have n13 := hN 13 (by decide) (by decide)
    refine jr_iload (n := 41) dX1_begin_39 rfl rfl ?_
    refine jr_bipush (n := 43) dX1_begin_41 rfl (by decide) ?_
    refine jr_icmp_ge (n := 46) (t := 71) dX1_begin_43 (by decide) rfl (by omega) (by omega) (fun b43 => ?_) (fun b43 => ?_)
    · refine jr_vret dX1_begin_71 rfl ?_
      have e : i = 10 := by omega
      subst e
      exact h
    · refine jr_aload_n (n := 47) dX1_begin_46 rfl rfl ?_
      refine jr_iload_n (n := 48) dX1_begin_47 rfl rfl ?_
      refine jr_iload (n := 50) dX1_begin_48 rfl rfl ?_
      refine jr_cV2 (n := 53) (ci := 2) (ν := mX2_hasNeedOf) dX1_begin_50 rfl lX1_74 kX2_hasNeedOf iX2_hasNeedOf rfl ⟨_, rfl, rfl⟩ (by decide) (Nat.le_of_ble_eq_true rfl) (Nat.le_of_ble_eq_true rfl) rfl ?_
      refine c_hasNeedOf (by omega) (fun b50 => ?_) (fun b50 => ?_)
      all_goals (rw [jbgC_ne (show (13 : Nat) ≠ 27 by decide), jup_ne (show (13 : Nat) ≠ 26 by decide)] at b50; unfold jclo at b50; rw [jup_ne (show (13 : Nat) ≠ 4 by decide), jup_ne (show (13 : Nat) ≠ 25 by decide), jup_ne (show (13 : Nat) ≠ 23 by decide), jup_ne (show (13 : Nat) ≠ 22 by decide), n13] at b50)
      · refine jr_ifF_eq (n := 56) (t := 65) dX1_begin_53 rfl (by decide) (by decide) (by decide) ?_
        refine jr_aload_n (n := 57) dX1_begin_56 rfl rfl ?_
        refine jr_getR (n := 60) dX1_begin_57 rfl fX1_27 rfl (by decide) (by decide) rfl ?_
        refine jr_iload (n := 62) dX1_begin_60 rfl rfl ?_
        refine jr_iload (n := 64) dX1_begin_62 rfl rfl ?_
        refine jr_iast (n := 65) dX1_begin_64 rfl rfl (by decide) (by omega) (by omega) ?_
        refine jr_iinc6 (n := 68) dX1_begin_65 rfl (by decide) rfl ?_
        refine jr_goto (t := 39) dX1_begin_68 (by decide) ?_
        first
          | (rw [jbgC_y h0 b50]; exact ih (i + 1) (by omega) (by omega) (by omega))
          | (rw [jbgC_n b50]; exact ih (i + 1) (by omega) (by omega) (by omega))
      · refine jr_ifT_eq (t := 65) dX1_begin_53 (by decide) (by decide) (by decide) ?_
        refine jr_iinc6 (n := 68) dX1_begin_65 rfl (by decide) rfl ?_
        refine jr_goto (t := 39) dX1_begin_68 (by decide) ?_
        first
          | (rw [jbgC_y h0 b50]; exact ih (i + 1) (by omega) (by omega) (by omega))
          | (rw [jbgC_n b50]; exact ih (i + 1) (by omega) (by omega) (by omega))

theorem c_begin {G : jG} {d : Nat} {M : jMem} {Q : Option Value → jMem → Prop} (hI : jK M) {N : jMem} (hN : jFC M N) {k t : Int} (hk : 0 ≤ k ∧ k < M 1 8) (ht : 0 ≤ t ∧ t < 200) (h : Q none (jbgC M N k t (M 10 k) (t + jdu (M 14) (M 11) k) 10))  : jN G mX1_begin (d + 2) [.ref (jad G 4), .ref (jad G 1), .int (jI k), .int (jI t)] N Q := by
  show jM G mX1_begin (d + 2) 0 [.ref (jad G 4), .ref (jad G 1), .int (jI k), .int (jI t), .null, .null, .null] [] N Q
  have hz := jn1 hI
  have n10 := hN 10 (by decide) (by decide)
  have n11 := hN 11 (by decide) (by decide)
  have n14 := hN 14 (by decide) (by decide)
  have hr := jn3 hI k (by omega) (by omega)
  refine jr_aload_n (n := 1) dX1_begin_0 rfl rfl ?_
  refine jr_getR (n := 4) dX1_begin_1 rfl fX1_81 rfl (by decide) (by decide) rfl ?_
  refine jr_iload_n (n := 5) dX1_begin_4 rfl rfl ?_
  refine jr_iald (n := 6) dX1_begin_5 rfl rfl (by decide) (by omega) (by omega) ?_
  rw [n10]
  refine jr_istore4 (n := 8) dX1_begin_6 rfl (by decide) rfl ?_
  refine jr_iload_n (n := 9) dX1_begin_8 rfl rfl ?_
  refine jr_aload_n (n := 10) dX1_begin_9 rfl rfl ?_
  refine jr_iload_n (n := 11) dX1_begin_10 rfl rfl ?_
  refine jr_cV1 (n := 14) (ci := 2) (ν := mX2_takesQuarters) dX1_begin_11 rfl lX1_84 kX2_takesQuarters iX2_takesQuarters rfl ⟨_, rfl, rfl⟩ (by decide) (Nat.le_of_ble_eq_true rfl) (Nat.le_of_ble_eq_true rfl) rfl ?_
  refine c_takesQuarters (by omega) (by rw [n14]; omega) ?_
  rw [n11, n14]
  refine jr_iadd (n := 15) dX1_begin_14 rfl ?_
  refine jr_istore5 (n := 17) dX1_begin_15 rfl (by decide) rfl ?_
  refine jr_aload_n (n := 18) dX1_begin_17 rfl rfl ?_
  refine jr_iload_n (n := 19) dX1_begin_18 rfl rfl ?_
  refine jr_iload (n := 21) dX1_begin_19 rfl rfl ?_
  refine jr_iload_n (n := 22) dX1_begin_21 rfl rfl ?_
  refine jr_iload (n := 24) dX1_begin_22 rfl rfl ?_
  refine jr_cV4 (n := 27) (ci := 1) (ν := mX1_close) dX1_begin_24 rfl lX1_70 kX1_close iX1_close rfl ⟨_, rfl, rfl⟩ (by decide) (Nat.le_of_ble_eq_true rfl) (Nat.le_of_ble_eq_true rfl) rfl ?_
  refine c_close (by omega) (by omega) ?_
  refine jr_aload_n (n := 28) dX1_begin_27 rfl rfl ?_
  refine jr_getR (n := 31) dX1_begin_28 rfl fX1_24 rfl (by decide) (by decide) rfl ?_
  refine jr_iload (n := 33) dX1_begin_31 rfl rfl ?_
  refine jr_iload (n := 35) dX1_begin_33 rfl rfl ?_
  refine jr_iast (n := 36) dX1_begin_35 rfl rfl (by decide) (by omega) (by omega) ?_
  refine jr_iconst (n := 37) dX1_begin_36 rfl ?_
  refine jr_istore6 (n := 39) dX1_begin_37 rfl (by decide) rfl ?_
  have k9 := c_begin_l (G := G) (d := d) hI hN hk ht h 11 0 (by omega) (by omega) (by omega)
  unfold jbgC at k9
  rw [jcb_0] at k9
  exact k9

theorem jDC_up {M N : jMem} {σ : jS} (h : jDC M N σ) {k : Nat} {i v : Int} (hk : k = 26 ∨ k = 27) : jDC M (jup N k i v) σ := by
  obtain ⟨h1, h2, h3, h4, h5⟩ := h
  refine ⟨h1.up (by omega), fun b b0 b1 => ?_, fun i' i0 i1 => ?_, fun a a0 a1 => ?_, ?_⟩
  · rw [jup_ne (by omega), jup_ne (by omega)]; exact h2 b b0 b1
  · rw [jup_ne (by omega)]; exact h3 i' i0 i1
  · rw [jup_ne (by omega)]; exact h4 a a0 a1
  · rw [jup_ne (by omega)]; exact h5
theorem jDC_cb {M N : jMem} {σ : jS} (h : jDC M N σ) {lo hi : Int} {pr : Int → Bool} {f : Int → Int} : jDC M (jcb N 27 lo hi pr f) σ := by
  obtain ⟨h1, h2, h3, h4, h5⟩ := h
  refine ⟨fun a q1 q2 => ?_, fun b b0 b1 => ?_, fun i' i0 i1 => ?_, fun a a0 a1 => ?_, ?_⟩
  · rw [← h1 a q1 q2]; funext b; exact jcb_ne (by omega) b
  · rw [jcb_ne (by decide), jcb_ne (by decide)]; exact h2 b b0 b1
  · rw [jcb_ne (by decide)]; exact h3 i' i0 i1
  · rw [jcb_ne (by decide)]; exact h4 a a0 a1
  · rw [jcb_ne (by decide)]; exact h5
theorem jDC_id {M N : jMem} {σ : jS} (h : jDC M N σ) {i v : Int} (hi : 0 ≤ i ∧ i < 6) (hv : v = σ.2.2.1 i + 1) : jDC M (jup N 24 i v) (jid σ i) := by
  obtain ⟨h1, h2, h3, h4, h5⟩ := h
  refine ⟨h1.up (by omega), fun b b0 b1 => ?_, fun j j0 j1 => ?_, fun a a0 a1 => ?_, ?_⟩
  · rw [jup_ne (by decide), jup_ne (by decide)]; exact h2 b b0 b1
  · show jup N 24 i v 24 j = jfu σ.2.2.1 i (σ.2.2.1 i + 1) j
    by_cases z : j = i
    · subst z; rw [jup_at, jfu_at, hv]
    · rw [jup_off z, jfu_off z]; exact h3 j j0 j1
  · rw [jup_ne (by decide)]; exact h4 a a0 a1
  · rw [jup_ne (by decide)]; exact h5
theorem jfr_up {N : jMem} {k : Nat} {i v : Int} (h : k ≠ 26) : jup N k i v 26 = N 26 := funext fun b => jup_ne (Ne.symm h) b
theorem jfr_up7 {N : jMem} {k : Nat} {i v : Int} (h : k ≠ 27) : jup N k i v 27 = N 27 := funext fun b => jup_ne (Ne.symm h) b
theorem c_pass {G : jG} {d : Nat} {M : jMem} {Q : Option Value → jMem → Prop} (hI : jK M) {N : jMem} {σ : jS} {c t m : Int} (hc : 0 ≤ c ∧ c < 3) (ht : 0 ≤ t ∧ t < 200) (hD : jDC M N σ) (hV : jIv (M 1 8) (M 16) (M 17) (M 13) t m σ) (hF : jFr (M 1 8) (M 16) (M 13) t (N 26) (N 27) σ) (h : ∀ N', jDC M N' (jps (M 1 8) (M 2 3) (M 16) (M 17) (M 13) (M 14) (M 11) (jclC M) σ c t) → jFr (M 1 8) (M 16) (M 13) t (N' 26) (N' 27) (jps (M 1 8) (M 2 3) (M 16) (M 17) (M 13) (M 14) (M 11) (jclC M) σ c t) → Q none N') : jN G mX1_passQuarter (d + 3) [.ref (jad G 4), .ref (jad G 1), .int (jI c), .int (jI t)] N Q := by
  show jM G mX1_passQuarter (d + 3) 0 [.ref (jad G 4), .ref (jad G 1), .int (jI c), .int (jI t), .null, .null] [] N Q
  have hz := jn1 hI
  have hSD := jSD_of hI
  have hcf := hF.1 c hc.1 hc.2
  have hon : (0 < σ.2.2.2.1 c ∧ jOn σ (M 16 (6 * c + σ.2.2.2.1 c - 1)) t) ↔ t < N 26 c := by
    rw [hcf.2 t (Int.le_refl t)]
    constructor
    · exact fun q => ⟨q.1, (jlast_on hSD hV hc.1 hc.2 q.1).mp q.2⟩
    · exact fun q => ⟨q.1, (jlast_on hSD hV hc.1 hc.2 q.1).mpr q.2⟩
  unfold jps at h
  refine jr_iload_n (n := 1) dX1_passQuarter_0 rfl rfl ?_
  refine jr_aload_n (n := 2) dX1_passQuarter_1 rfl rfl ?_
  refine jr_getR (n := 5) dX1_passQuarter_2 rfl fX1_24 rfl (by decide) (by decide) rfl ?_
  refine jr_iload_n (n := 6) dX1_passQuarter_5 rfl rfl ?_
  refine jr_iald (n := 7) dX1_passQuarter_6 rfl rfl (by decide) (by omega) (by omega) ?_
  refine jr_icmp_ge (n := 10) (t := 11) dX1_passQuarter_7 (by decide) rfl (by omega) (by omega) (fun b7 => ?_) (fun b7 => ?_)
  · refine jr_aload_n (n := 12) dX1_passQuarter_11 rfl rfl ?_
    refine jr_aload_n (n := 13) dX1_passQuarter_12 rfl rfl ?_
    refine jr_iload_n (n := 14) dX1_passQuarter_13 rfl rfl ?_
    refine jr_iload_n (n := 15) dX1_passQuarter_14 rfl rfl ?_
    refine jr_cV3 (n := 18) (ci := 1) (ν := mX1_nextNotFolded) dX1_passQuarter_15 rfl lX1_49 kX1_nextNotFolded iX1_nextNotFolded rfl ⟨_, rfl, rfl⟩ (by decide) (Nat.le_of_ble_eq_true rfl) (Nat.le_of_ble_eq_true rfl) rfl ?_
    rw [if_neg (fun q => by have := hon.mp q; omega)] at h
    refine c_next hI hc ht hD hV hF (by omega) (fun N' hD' hV' hF' hcf' hlt => ?_) (fun N' hD' hF' hge => ?_)
    · refine jr_istore4 (n := 20) dX1_passQuarter_18 rfl (by decide) rfl ?_
      have hkr0 : True := trivial
      refine jr_iload (n := 22) dX1_passQuarter_20 rfl rfl ?_
      refine jr_iconst (n := 23) dX1_passQuarter_22 rfl ?_
      refine jr_icmp_ne (n := 26) (t := 27) dX1_passQuarter_23 (by decide) rfl (by first | omega | (have hnx := hV'.1 c hc.1 hc.2; have := hSD.2.2.2.1 c _ hc.1 hc.2 hnx.1 hlt; omega)) (by omega) (fun b23 => ?_) (fun b23 => ?_)
      · refine jr_aload_n (n := 28) dX1_passQuarter_27 rfl rfl ?_
        refine jr_aload_n (n := 29) dX1_passQuarter_28 rfl rfl ?_
        refine jr_iload (n := 31) dX1_passQuarter_29 rfl rfl ?_
        refine jr_iload_n (n := 32) dX1_passQuarter_31 rfl rfl ?_
        refine jr_cV3 (n := 35) (ci := 1) (ν := mX1_hindrance) dX1_passQuarter_32 rfl lX1_53 kX1_hindrance iX1_hindrance rfl ⟨_, rfl, rfl⟩ (by decide) (Nat.le_of_ble_eq_true rfl) (Nat.le_of_ble_eq_true rfl) rfl ?_
        have hnb := jnx_no hSD hV' hc.1 hc.2 hlt
        have hnx := hV'.1 c hc.1 hc.2
        have hkr := hSD.2.2.2.1 c _ hc.1 hc.2 hnx.1 hlt
        unfold jfin at h
        rw [if_neg (by omega)] at h
        refine c_hindrance hI hkr ht hD' hV' hF' hnb.1 ?_
        have hwv := jwy_v (n := M 1 8) (p := M 2 3) (ne := M 13) (cl := jclC M) (σ := (jsk (M 16) (M 17) (M 14) c t 7 σ)) (k := M 16 (6 * c + (jsk (M 16) (M 17) (M 14) c t 7 σ).2.2.2.1 c)) (t := t)
        refine jr_istore5 (n := 37) dX1_passQuarter_35 rfl (by decide) rfl ?_
        refine jr_iload (n := 39) dX1_passQuarter_37 rfl rfl ?_
        refine jr_iconst (n := 40) dX1_passQuarter_39 rfl ?_
        refine jr_icmp_ne (n := 43) (t := 54) dX1_passQuarter_40 (by decide) rfl (by omega) (by omega) (fun b40 => ?_) (fun b40 => ?_)
        · refine jr_aload_n (n := 55) dX1_passQuarter_54 rfl rfl ?_
          refine jr_getR (n := 58) dX1_passQuarter_55 rfl fX1_18 rfl (by decide) (by decide) rfl ?_
          refine jr_iload_n (n := 59) dX1_passQuarter_58 rfl rfl ?_
          refine jr_iconst (n := 60) dX1_passQuarter_59 rfl ?_
          refine jr_imul (n := 61) dX1_passQuarter_60 rfl ?_
          refine jr_iload (n := 63) dX1_passQuarter_61 rfl rfl ?_
          refine jr_iadd (n := 64) dX1_passQuarter_63 rfl ?_
          refine jr_dup2 (n := 65) dX1_passQuarter_64 rfl rfl rfl ?_
          refine jr_iald (n := 66) dX1_passQuarter_65 rfl rfl (by decide) (by omega) (by omega) ?_
          rw [Int.mul_comm c 2]
          refine jr_iconst (n := 67) dX1_passQuarter_66 rfl ?_
          refine jr_iadd (n := 68) dX1_passQuarter_67 rfl ?_
          refine jr_iast (n := 69) dX1_passQuarter_68 rfl rfl (by decide) (by omega) (by omega) ?_
          refine jr_vret dX1_passQuarter_69 rfl ?_
          first
            | (rw [if_pos (by omega)] at h; exact h _ (jDC_id hD' (by omega) (by rw [hD'.2.2.1 _ (by omega) (by omega)])) (by rw [jfr_up (show (24 : Nat) ≠ 26 by decide), jfr_up7 (show (24 : Nat) ≠ 27 by decide)]; exact hF'))
            | (rw [if_neg (by omega)] at h
               refine h _ (jDC_cb (jDC_up (jDC_clo hD' hc.1 hc.2) (Or.inl rfl))) ?_
               refine jFr_cs hSD hV' hF' hc.1 hc.2 hlt ht.1 ht.2 (by omega) (by omega) (fun a ha => ?_) (Or.inl ?_) (Or.inr (fun v v0 v1 => ⟨fun hv => ⟨?_, hfree v v0 v1 hv⟩, fun hv => ?_⟩))
               · rw [jbgC_ne (show (26 : Nat) ≠ 27 by decide), jup_off ha, jclo_26]
               · rw [jbgC_ne (show (26 : Nat) ≠ 27 by decide), jup_at]
               · exact jcb_in ⟨v0, v1⟩ (decide_eq_true hv)
               · exact (jcb_no (decide_eq_false hv)).trans (by rw [jup_ne (show (27 : Nat) ≠ 26 by decide), jclo_27]))
        · refine jr_aload_n (n := 44) dX1_passQuarter_43 rfl rfl ?_
          refine jr_aload_n (n := 45) dX1_passQuarter_44 rfl rfl ?_
          refine jr_iload (n := 47) dX1_passQuarter_45 rfl rfl ?_
          refine jr_iload_n (n := 48) dX1_passQuarter_47 rfl rfl ?_
          refine jr_cV3 (n := 51) (ci := 1) (ν := mX1_begin) dX1_passQuarter_48 rfl lX1_56 kX1_begin iX1_begin rfl ⟨_, rfl, rfl⟩ (by decide) (Nat.le_of_ble_eq_true rfl) (Nat.le_of_ble_eq_true rfl) rfl ?_
          have hco := (jn6 hI c _ hc.1 hc.2 hnx.1 hlt).2
          have hnf := jsk_nf (li := M 16) (ls := M 17) (fa := M 14) (t := t) (c := c) 7 σ (by have := hV.1 c hc.1 hc.2; have := hSD.2.2.1 c hc.1 hc.2; omega) hlt
          have hdu := jdu_R hSD hkr.1 hkr.2 hnf
          have hfree := jwy_free hSD hV' hkr.1 hkr.2 hnb.1 (cl := jclC M) (by omega)
          refine c_begin hI hD'.1 hkr ht ?_
          rw [hco]
          refine jr_goto (t := 69) dX1_passQuarter_51 (by decide) ?_
          refine jr_vret dX1_passQuarter_69 rfl ?_
          first
            | (rw [if_pos (by omega)] at h; exact h _ (jDC_id hD' (by omega) (by rw [hD'.2.2.1 _ (by omega) (by omega)])) (by rw [jfr_up (show (24 : Nat) ≠ 26 by decide), jfr_up7 (show (24 : Nat) ≠ 27 by decide)]; exact hF'))
            | (rw [if_neg (by omega)] at h
               refine h _ (jDC_cb (jDC_up (jDC_clo hD' hc.1 hc.2) (Or.inl rfl))) ?_
               refine jFr_cs hSD hV' hF' hc.1 hc.2 hlt ht.1 ht.2 (by omega) (by omega) (fun a ha => ?_) (Or.inl ?_) (Or.inr (fun v v0 v1 => ⟨fun hv => ⟨?_, hfree v v0 v1 hv⟩, fun hv => ?_⟩))
               · rw [jbgC_ne (show (26 : Nat) ≠ 27 by decide), jup_off ha, jclo_26]
               · rw [jbgC_ne (show (26 : Nat) ≠ 27 by decide), jup_at]
               · exact jcb_in ⟨v0, v1⟩ (decide_eq_true hv)
               · exact (jcb_no (decide_eq_false hv)).trans (by rw [jup_ne (show (27 : Nat) ≠ 26 by decide), jclo_27]))
      · refine jr_vret dX1_passQuarter_26 rfl ?_
        first
          | (exfalso; have hnx := hV'.1 c hc.1 hc.2; have := hSD.2.2.2.1 c _ hc.1 hc.2 hnx.1 hlt; omega)
          | (unfold jfin at h; rw [if_pos hge] at h; exact h N' hD' hF')
    · refine jr_istore4 (n := 20) dX1_passQuarter_18 rfl (by decide) rfl ?_
      have hkr0 : True := trivial
      refine jr_iload (n := 22) dX1_passQuarter_20 rfl rfl ?_
      refine jr_iconst (n := 23) dX1_passQuarter_22 rfl ?_
      refine jr_icmp_ne (n := 26) (t := 27) dX1_passQuarter_23 (by decide) rfl (by first | omega | (have hnx := hV'.1 c hc.1 hc.2; have := hSD.2.2.2.1 c _ hc.1 hc.2 hnx.1 hlt; omega)) (by omega) (fun b23 => ?_) (fun b23 => ?_)
      · exact absurd b23 (by omega)
      · refine jr_vret dX1_passQuarter_26 rfl ?_
        first
          | (exfalso; have hnx := hV'.1 c hc.1 hc.2; have := hSD.2.2.2.1 c _ hc.1 hc.2 hnx.1 hlt; omega)
          | (unfold jfin at h; rw [if_pos hge] at h; exact h N' hD' hF')
  · refine jr_vret dX1_passQuarter_10 rfl ?_
    rw [if_pos (hon.mpr (by omega))] at h
    exact h N hD hF

