section JRUN
variable {n p : Int} {li ls ne fa le : Int → Int} {cl : Int → Int → Int}
noncomputable def jpq (n p : Int) (li ls ne fa le : Int → Int) (cl : Int → Int → Int) (t : Int) : Nat → jS → Int → jS
  | 0, σ, _ => σ
  | m + 1, σ, c => jpq n p li ls ne fa le cl t m (jps n p li ls ne fa le cl σ c t) (c + 1)
noncomputable def jpz (n p : Int) (li ls ne fa le : Int → Int) (cl : Int → Int → Int) (t : Int) (σ : jS) (c : Int) : jS := jpq n p li ls ne fa le cl t (3 - c).toNat σ c
theorem jpz_3 {t c : Int} {σ : jS} (h : 3 ≤ c) : jpz n p li ls ne fa le cl t σ c = σ := by
  unfold jpz
  rw [show (3 - c).toNat = 0 by omega]
  rfl
theorem jpz_s {t c : Int} {σ : jS} (h : c < 3) : jpz n p li ls ne fa le cl t σ c = jpz n p li ls ne fa le cl t (jps n p li ls ne fa le cl σ c t) (c + 1) := by
  unfold jpz
  rw [show (3 - c).toNat = (3 - (c + 1)).toNat + 1 by omega]
  rfl
theorem jdy_s {t : Nat} (h : 0 < (jdy n p li ls ne fa le cl t).2.2.2.2) : jdy n p li ls ne fa le cl (t + 1) = jpz n p li ls ne fa le cl t (jdy n p li ls ne fa le cl t) 0 := by
  rw [jpz_s (by omega), jpz_s (by omega), jpz_s (by omega), jpz_3 (by omega)]
  show (if _ then _ else _) = _
  rw [if_pos h]
  rfl
theorem jdy_stop {t : Nat} (h : ¬ 0 < (jdy n p li ls ne fa le cl t).2.2.2.2) : ∀ s : Nat, jdy n p li ls ne fa le cl (t + s) = jdy n p li ls ne fa le cl t
  | 0 => rfl
  | s + 1 => by
    have e := jdy_stop h s
    show (if 0 < (jdy n p li ls ne fa le cl (t + s)).2.2.2.2 then _ else jdy n p li ls ne fa le cl (t + s)) = _
    rw [e, if_neg h]
end JRUN
theorem c_run_m {G : jG} {d : Nat} {M : jMem} {Q : Option Value → jMem → Prop} (hI : jK M) {t : Int} (ht : 0 ≤ t ∧ t < 200)  : ∀ (f : Nat) (c m : Int) (σ : jS) (N : jMem), 0 ≤ c → c ≤ 3 → jDC M N σ → jIv (M 1 8) (M 16) (M 17) (M 13) t m σ → jFr (M 1 8) (M 16) (M 13) t (N 26) (N 27) σ → (∀ N', jDC M N' (jpz (M 1 8) (M 2 3) (M 16) (M 17) (M 13) (M 14) (M 11) (jclC M) t σ c) → jFr (M 1 8) (M 16) (M 13) t (N' 26) (N' 27) (jpz (M 1 8) (M 2 3) (M 16) (M 17) (M 13) (M 14) (M 11) (jclC M) t σ c) → jM G mX1_run (d + 4) 92 [.ref (jad G 4), .ref (jad G 1), .int (jI t), .null] [] N' Q) → 3 - c < f → jM G mX1_run (d + 4) 74 [.ref (jad G 4), .ref (jad G 1), .int (jI t), .int (jI c)] [] (N) Q := by
  intro f
  induction f with
  | zero =>
    intro c m σ N c0 c1 hD hV hF h hf
    exact absurd hf (by omega)
  | succ f ih =>
    intro c m σ N c0 c1 hD hV hF h hf
    refine jr_iload_n (n := 75) dX1_run_74 rfl rfl ?_
    refine jr_iconst (n := 76) dX1_run_75 rfl ?_
    refine jr_icmp_ge (n := 79) (t := 92) dX1_run_76 (by decide) rfl (by omega) (by omega) (fun b76 => ?_) (fun b76 => ?_)
    · rw [jpz_3 (by omega)] at h
      exact jr_drop (h N hD hF) ⟨Or.inr rfl, Or.inr rfl, Or.inr rfl, Or.inl rfl, trivial⟩
    · refine jr_aload_n (n := 80) dX1_run_79 rfl rfl ?_
      refine jr_aload_n (n := 81) dX1_run_80 rfl rfl ?_
      refine jr_iload_n (n := 82) dX1_run_81 rfl rfl ?_
      refine jr_iload_n (n := 83) dX1_run_82 rfl rfl ?_
      refine jr_cV3 (n := 86) (ci := 1) (ν := mX1_passQuarter) dX1_run_83 rfl lX1_45 kX1_passQuarter iX1_passQuarter rfl ⟨_, rfl, rfl⟩ (by decide) (Nat.le_of_ble_eq_true rfl) (Nat.le_of_ble_eq_true rfl) rfl ?_
      rw [jpz_s (by omega)] at h
      refine c_pass hI (by omega) ht hD hV hF (fun N' hD' hF' => ?_)
      refine jr_iinc3 (n := 89) dX1_run_86 rfl (by decide) rfl ?_
      refine jr_goto (t := 74) dX1_run_89 (by decide) ?_
      exact ih (c + 1) (m + 1) _ N' (by omega) (by omega) hD' (jIv_ps (jSD_of hI) hV (by omega) (by omega) ht.1 ht.2) hF' h (by omega)

theorem c_run_l {G : jG} {d : Nat} {M : jMem} {Q : Option Value → jMem → Prop} (hI : jK M) (h : ∀ N', jDC M N' (jdy (M 1 8) (M 2 3) (M 16) (M 17) (M 13) (M 14) (M 11) (jclC M) 200) → Q none N')  : ∀ (f : Nat) (t : Nat) (N : jMem), t ≤ 200 → jDC M N (jdy (M 1 8) (M 2 3) (M 16) (M 17) (M 13) (M 14) (M 11) (jclC M) t) → jFr (M 1 8) (M 16) (M 13) t (N 26) (N 27) (jdy (M 1 8) (M 2 3) (M 16) (M 17) (M 13) (M 14) (M 11) (jclC M) t) → 200 - t < f → jM G mX1_run (d + 4) 58 [.ref (jad G 4), .ref (jad G 1), .int (jI (t : Int)), .null] [] (N) Q := by
  intro f
  induction f with
  | zero =>
    intro t N t1 hD hF hf
    exact absurd hf (by omega)
  | succ f ih =>
    intro t N t1 hD hF hf
    have hSD := jSD_of hI
    have hV := jIv_dy (cl := jclC M) hSD t (by omega)
    have hz := jn1 hI
    have x0 := hV.1 0 (by omega) (by omega)
    have x1 := hV.1 1 (by omega) (by omega)
    have x2 := hV.1 2 (by omega) (by omega)
    have y0 := jn2 hI 0 (by omega) (by omega)
    have y1 := jn2 hI 1 (by omega) (by omega)
    have y2 := jn2 hI 2 (by omega) (by omega)
    have ho := hV.2.2.2.2.2
    refine jr_iload_n (n := 59) dX1_run_58 rfl rfl ?_
    refine jr_sipush (n := 62) dX1_run_59 rfl (by decide) ?_
    refine jr_icmp_ge (n := 65) (t := 98) dX1_run_62 (by decide) rfl (by omega) (by omega) (fun b62 => ?_) (fun b62 => ?_)
    · refine jr_vret dX1_run_98 rfl ?_
      first
        | (have e : t = 200 := by omega
           subst e; exact h N hD)
        | (have e := jdy_stop (t := t) (n := M 1 8) (p := M 2 3) (li := M 16) (ls := M 17) (ne := M 13) (fa := M 14) (le := M 11) (cl := jclC M) (by omega) (200 - t)
           rw [show t + (200 - t) = 200 by omega] at e
           rw [e] at h; exact h N hD)
    · refine jr_aload_n (n := 66) dX1_run_65 rfl rfl ?_
      refine jr_getI (n := 69) (i := 6) rfl dX1_run_66 rfl fX1_42 rfl (by decide) (by decide) rfl ?_
      rw [hD.2.2.2.2]
      refine jr_if_le (n := 72) (t := 98) dX1_run_69 (by decide) rfl (by omega) (fun b69 => ?_) (fun b69 => ?_)
      · refine jr_vret dX1_run_98 rfl ?_
        first
          | (have e : t = 200 := by omega
             subst e; exact h N hD)
          | (have e := jdy_stop (t := t) (n := M 1 8) (p := M 2 3) (li := M 16) (ls := M 17) (ne := M 13) (fa := M 14) (le := M 11) (cl := jclC M) (by omega) (200 - t)
             rw [show t + (200 - t) = 200 by omega] at e
             rw [e] at h; exact h N hD)
      · refine jr_iconst (n := 73) dX1_run_72 rfl ?_
        refine jr_istore3 (n := 74) dX1_run_73 rfl (by decide) rfl ?_
        refine c_run_m hI (by omega) 4 0 (3 * t) _ N (by omega) (by omega) hD hV hF (fun N' hD' hF' => ?_) (by omega)
        refine jr_iinc2 (n := 95) dX1_run_92 rfl (by decide) rfl ?_
        refine jr_goto (t := 58) dX1_run_95 (by decide) ?_
        rw [← jdy_s (by omega)] at hD' hF'
        have k9 := ih (t + 1) N' (by omega) hD' (by have := jFr_mono hF' (show (t : Int) ≤ ((t + 1 : Nat) : Int) by omega); exact this) (by omega)
        rw [show ((t + 1 : Nat) : Int) = (t : Int) + 1 by omega] at k9
        exact k9

def jinC (M : jMem) : jMem := jup (jblk (jblk (jblk (jblk (jblk (jblk M 22 0 ((12 : Nat) : Int) (fun _ => -1)) 23 0 ((12 : Nat) : Int) (fun _ => -1)) 24 0 ((6 : Nat) : Int) (fun _ => 0)) 25 0 ((3 : Nat) : Int) (fun _ => 0)) 26 0 ((3 : Nat) : Int) (fun _ => 0)) 27 0 ((10 : Nat) : Int) (fun _ => 0)) 4 6 (M 1 8)
theorem jinC_D (M : jMem) : jDC M (jinC M) (jini (M 1 8)) := by
  refine ⟨((((((jFC.rf.blk (by omega) (by omega)).blk (by omega) (by omega)).blk (by omega) (by omega)).blk (by omega) (by omega)).blk (by omega) (by omega)).blk (by omega) (by omega)).up (by decide), fun k k0 k1 => ⟨?_, ?_⟩, fun i i0 i1 => ?_, fun c c0 c1 => ?_, ?_⟩
  · unfold jinC; rw [jup_ne (by decide), jblk_ne (by decide), jblk_ne (by decide), jblk_ne (by decide), jblk_ne (by decide), jblk_ne (by decide), jblk_in (by omega)]; rfl
  · unfold jinC; rw [jup_ne (by decide), jblk_ne (by decide), jblk_ne (by decide), jblk_ne (by decide), jblk_ne (by decide), jblk_in (by omega)]; rfl
  · unfold jinC; rw [jup_ne (by decide), jblk_ne (by decide), jblk_ne (by decide), jblk_ne (by decide), jblk_in (by omega)]; rfl
  · unfold jinC; rw [jup_ne (by decide), jblk_ne (by decide), jblk_ne (by decide), jblk_in (by omega)]; rfl
  · unfold jinC; rw [jup_at]; rfl
theorem jinC_F (M : jMem) : jFr (M 1 8) (M 16) (M 13) 0 (jinC M 26) (jinC M 27) (jini (M 1 8)) := by
  refine ⟨fun c c0 c1 => ?_, fun v v0 v1 => ?_⟩
  · have e : jinC M 26 c = 0 := by unfold jinC; rw [jup_ne (by decide), jblk_ne (by decide), jblk_in (by omega)]
    rw [e]
    refine ⟨by omega, fun u hu => ?_⟩
    constructor
    · intro q; omega
    · intro q; exact absurd q.1 (by show ¬ (0 : Int) < 0; omega)
  · have e : jinC M 27 v = 0 := by unfold jinC; rw [jup_ne (by decide), jblk_in (by omega)]
    rw [e]
    refine ⟨by omega, fun u hu => ?_⟩
    constructor
    · intro q; omega
    · rintro ⟨j, j0, j1, j2, j3, j4⟩
      exact absurd j3 (by show ¬ (0 : Int) ≤ -1; omega)
theorem c_run {G : jG} {d : Nat} {M : jMem} {Q : Option Value → jMem → Prop} (hI : jK M) (h : ∀ N', jDC M N' (jdy (M 1 8) (M 2 3) (M 16) (M 17) (M 13) (M 14) (M 11) (jclC M) 200) → Q none N') : jN G mX1_run (d + 4) [.ref (jad G 4), .ref (jad G 1)] M Q := by
  show jM G mX1_run (d + 4) 0 [.ref (jad G 4), .ref (jad G 1), .null, .null] [] M Q
  refine jr_aload_n (n := 1) dX1_run_0 rfl rfl ?_
  refine jr_getR (n := 4) dX1_run_1 rfl fX1_9 rfl (by decide) (by decide) rfl ?_
  refine jr_iconst (n := 5) dX1_run_4 rfl ?_
  refine jr_cS2 (n := 8) (ν := mJ7_fill_53178) dX1_run_5 rfl lX1_30 kJ7_fill_53178 iJ7_fill_53178 (Nat.le_of_ble_eq_true rfl) (Nat.le_of_ble_eq_true rfl) rfl ?_
  refine c_fillI rfl (by decide) ?_
  refine jr_aload_n (n := 9) dX1_run_8 rfl rfl ?_
  refine jr_getR (n := 12) dX1_run_9 rfl fX1_15 rfl (by decide) (by decide) rfl ?_
  refine jr_iconst (n := 13) dX1_run_12 rfl ?_
  refine jr_cS2 (n := 16) (ν := mJ7_fill_53178) dX1_run_13 rfl lX1_30 kJ7_fill_53178 iJ7_fill_53178 (Nat.le_of_ble_eq_true rfl) (Nat.le_of_ble_eq_true rfl) rfl ?_
  refine c_fillI rfl (by decide) ?_
  refine jr_aload_n (n := 17) dX1_run_16 rfl rfl ?_
  refine jr_getR (n := 20) dX1_run_17 rfl fX1_18 rfl (by decide) (by decide) rfl ?_
  refine jr_iconst (n := 21) dX1_run_20 rfl ?_
  refine jr_cS2 (n := 24) (ν := mJ7_fill_53178) dX1_run_21 rfl lX1_30 kJ7_fill_53178 iJ7_fill_53178 (Nat.le_of_ble_eq_true rfl) (Nat.le_of_ble_eq_true rfl) rfl ?_
  refine c_fillI rfl (by decide) ?_
  refine jr_aload_n (n := 25) dX1_run_24 rfl rfl ?_
  refine jr_getR (n := 28) dX1_run_25 rfl fX1_21 rfl (by decide) (by decide) rfl ?_
  refine jr_iconst (n := 29) dX1_run_28 rfl ?_
  refine jr_cS2 (n := 32) (ν := mJ7_fill_53178) dX1_run_29 rfl lX1_30 kJ7_fill_53178 iJ7_fill_53178 (Nat.le_of_ble_eq_true rfl) (Nat.le_of_ble_eq_true rfl) rfl ?_
  refine c_fillI rfl (by decide) ?_
  refine jr_aload_n (n := 33) dX1_run_32 rfl rfl ?_
  refine jr_getR (n := 36) dX1_run_33 rfl fX1_24 rfl (by decide) (by decide) rfl ?_
  refine jr_iconst (n := 37) dX1_run_36 rfl ?_
  refine jr_cS2 (n := 40) (ν := mJ7_fill_53178) dX1_run_37 rfl lX1_30 kJ7_fill_53178 iJ7_fill_53178 (Nat.le_of_ble_eq_true rfl) (Nat.le_of_ble_eq_true rfl) rfl ?_
  refine c_fillI rfl (by decide) ?_
  refine jr_aload_n (n := 41) dX1_run_40 rfl rfl ?_
  refine jr_getR (n := 44) dX1_run_41 rfl fX1_27 rfl (by decide) (by decide) rfl ?_
  refine jr_iconst (n := 45) dX1_run_44 rfl ?_
  refine jr_cS2 (n := 48) (ν := mJ7_fill_53178) dX1_run_45 rfl lX1_30 kJ7_fill_53178 iJ7_fill_53178 (Nat.le_of_ble_eq_true rfl) (Nat.le_of_ble_eq_true rfl) rfl ?_
  refine c_fillI rfl (by decide) ?_
  refine jr_aload_n (n := 49) dX1_run_48 rfl rfl ?_
  refine jr_aload_n (n := 50) dX1_run_49 rfl rfl ?_
  refine jr_getI (n := 53) (i := 8) rfl dX1_run_50 rfl fX1_36 rfl (by decide) (by decide) rfl ?_
  rw [jblk_ne (show (1 : Nat) ≠ 27 by decide), jblk_ne (show (1 : Nat) ≠ 26 by decide), jblk_ne (show (1 : Nat) ≠ 25 by decide), jblk_ne (show (1 : Nat) ≠ 24 by decide), jblk_ne (show (1 : Nat) ≠ 23 by decide), jblk_ne (show (1 : Nat) ≠ 22 by decide)]
  refine jr_putI (n := 56) (i := 6) rfl dX1_run_53 rfl fX1_42 wX1_6 rfl (by decide) (by decide) rfl ?_
  refine jr_iconst (n := 57) dX1_run_56 rfl ?_
  refine jr_istore2 (n := 58) dX1_run_57 rfl (by decide) rfl ?_
  exact c_run_l hI h 201 0 (jinC M) (by omega) (jinC_D M) (jinC_F M) (by omega)

noncomputable def jclE (M : jMem) : Int → Int → Int := fun k v => if (0 ≤ k ∧ k < 12) ∧ (0 ≤ v ∧ v < 10) ∧ jbit (M 43 k) v then M 48 (10 * k + v) else 0
theorem jclE_at {M : jMem} {k v : Int} (hk : 0 ≤ k ∧ k < 12) (hv : 0 ≤ v ∧ v < 10) (h : jbit (M 43 k) v) : jclE M k v = M 48 (10 * k + v) := if_pos ⟨hk, hv, h⟩
def jDE (M N : jMem) (σ : jS) : Prop := jFE M N ∧ (∀ k, 0 ≤ k → k < M 8 2 → N 57 k = σ.1 k ∧ N 58 k = σ.2.1 k) ∧ (∀ i, 0 ≤ i → i < 6 → N 59 i = σ.2.2.1 i) ∧ (∀ c, 0 ≤ c → c < 3 → N 60 c = σ.2.2.2.1 c) ∧ N 8 26 = σ.2.2.2.2
def jcle (N : jMem) (k c t e : Int) : jMem := jup (jup (jup (jup N 57 k t) 58 k e) 60 c (N 60 c + 1)) 8 26 (N 8 26 - 1)
theorem jDE_clo {M N : jMem} {σ : jS} (h : jDE M N σ) {k c t e : Int} (c0 : 0 ≤ c) (c1 : c < 3) : jDE M (jcle N k c t e) (jcs σ k c t e) := by
  obtain ⟨h1, h2, h3, h4, h5⟩ := h
  refine ⟨(((h1.up (by decide)).up (by decide)).up (by decide)).op, fun b b0 b1 => ⟨?_, ?_⟩, fun i i0 i1 => ?_, fun a a0 a1 => ?_, ?_⟩
  · show jcle N k c t e 57 b = jfu σ.1 k t b
    unfold jcle
    rw [jup_ne (by decide), jup_ne (by decide), jup_ne (by decide)]
    by_cases z : b = k
    · subst z; rw [jup_at, jfu_at]
    · rw [jup_off z, jfu_off z]; exact (h2 b b0 b1).1
  · show jcle N k c t e 58 b = jfu σ.2.1 k e b
    unfold jcle
    rw [jup_ne (by decide), jup_ne (by decide)]
    by_cases z : b = k
    · subst z; rw [jup_at, jfu_at]
    · rw [jup_off z, jfu_off z, jup_ne (by decide)]; exact (h2 b b0 b1).2
  · show jcle N k c t e 59 i = σ.2.2.1 i
    unfold jcle
    rw [jup_ne (by decide), jup_ne (by decide), jup_ne (by decide), jup_ne (by decide)]
    exact h3 i i0 i1
  · show jcle N k c t e 60 a = jfu σ.2.2.2.1 c (σ.2.2.2.1 c + 1) a
    unfold jcle
    rw [jup_ne (by decide)]
    by_cases z : a = c
    · subst z; rw [jup_at, jfu_at, h4 a a0 a1]
    · rw [jup_off z, jfu_off z, jup_ne (by decide), jup_ne (by decide)]; exact h4 a a0 a1
  · show jcle N k c t e 8 26 = σ.2.2.2.2 - 1
    unfold jcle
    rw [jup_at, h5]
theorem jDE_id {M N : jMem} {σ : jS} (h : jDE M N σ) {i v : Int} (hi : 0 ≤ i ∧ i < 6) (hv : v = σ.2.2.1 i + 1) : jDE M (jup N 59 i v) (jid σ i) := by
  obtain ⟨h1, h2, h3, h4, h5⟩ := h
  refine ⟨h1.up (by omega), fun b b0 b1 => ?_, fun j j0 j1 => ?_, fun a a0 a1 => ?_, ?_⟩
  · rw [jup_ne (by decide), jup_ne (by decide)]; exact h2 b b0 b1
  · show jup N 59 i v 59 j = jfu σ.2.2.1 i (σ.2.2.1 i + 1) j
    by_cases z : j = i
    · subst z; rw [jup_at, jfu_at, hv]
    · rw [jup_off z, jfu_off z]; exact h3 j j0 j1
  · rw [jup_ne (by decide)]; exact h4 a a0 a1
  · rw [jup_ne (by decide)]; exact h5
theorem e_isFolded {G : jG} {d : Nat} {M : jMem} {Q : Option Value → jMem → Prop} {k : Int} (hk : 0 ≤ k ∧ k < 12) (hr : jR (M 44 k)) (h1 : M 44 k = 0 → Q (some (.int (jI 1))) M) (h0 : M 44 k ≠ 0 → Q (some (.int (jI 0))) M) : jN G mX8_isFolded (d) [.ref (jad G 8), .int (jI k)] M Q := by
  show jM G mX8_isFolded (d) 0 [.ref (jad G 8), .int (jI k)] [] M Q
  refine jr_aload_n (n := 1) dX8_isFolded_0 rfl rfl ?_
  refine jr_getR (n := 4) dX8_isFolded_1 rfl fX8_28 rfl (by decide) (by decide) rfl ?_
  refine jr_iload_n (n := 5) dX8_isFolded_4 rfl rfl ?_
  refine jr_iald (n := 6) dX8_isFolded_5 rfl rfl (by decide) (by omega) (by omega) ?_
  refine jr_if_ne (n := 9) (t := 13) dX8_isFolded_6 (by decide) rfl (by omega) (fun b6 => ?_) (fun b6 => ?_)
  · refine jr_iconst (n := 14) dX8_isFolded_13 rfl ?_
    refine jr_zret dX8_isFolded_14 rfl (by decide) ?_
    first | exact h1 (by assumption) | exact h0 (by assumption)
  · refine jr_iconst (n := 10) dX8_isFolded_9 rfl ?_
    refine jr_goto (t := 14) dX8_isFolded_10 (by decide) ?_
    refine jr_zret dX8_isFolded_14 rfl (by decide) ?_
    first | exact h1 (by assumption) | exact h0 (by assumption)

theorem e_isOn {G : jG} {d : Nat} {M : jMem} {Q : Option Value → jMem → Prop} {k t : Int} (hk : 0 ≤ k ∧ k < 12) (ht : jR t) (hr : jR (M 57 k)) (hr2 : jR (M 58 k)) (h1 : 0 ≤ M 57 k ∧ M 57 k ≤ t ∧ t < M 58 k → Q (some (.int (jI 1))) M) (h0 : ¬ (0 ≤ M 57 k ∧ M 57 k ≤ t ∧ t < M 58 k) → Q (some (.int (jI 0))) M) : jN G mX8_isOn (d) [.ref (jad G 8), .int (jI k), .int (jI t)] M Q := by
  show jM G mX8_isOn (d) 0 [.ref (jad G 8), .int (jI k), .int (jI t)] [] M Q
  refine jr_aload_n (n := 1) dX8_isOn_0 rfl rfl ?_
  refine jr_getR (n := 4) dX8_isOn_1 rfl fX8_68 rfl (by decide) (by decide) rfl ?_
  refine jr_iload_n (n := 5) dX8_isOn_4 rfl rfl ?_
  refine jr_iald (n := 6) dX8_isOn_5 rfl rfl (by decide) (by omega) (by omega) ?_
  refine jr_if_lt (n := 9) (t := 33) dX8_isOn_6 (by decide) rfl (by omega) (fun b6 => ?_) (fun b6 => ?_)
  · refine jr_iconst (n := 34) dX8_isOn_33 rfl ?_
    refine jr_zret dX8_isOn_34 rfl (by decide) ?_
    first | exact h1 (by omega) | exact h0 (by omega)
  · refine jr_iload_n (n := 10) dX8_isOn_9 rfl rfl ?_
    refine jr_aload_n (n := 11) dX8_isOn_10 rfl rfl ?_
    refine jr_getR (n := 14) dX8_isOn_11 rfl fX8_68 rfl (by decide) (by decide) rfl ?_
    refine jr_iload_n (n := 15) dX8_isOn_14 rfl rfl ?_
    refine jr_iald (n := 16) dX8_isOn_15 rfl rfl (by decide) (by omega) (by omega) ?_
    refine jr_icmp_lt (n := 19) (t := 33) dX8_isOn_16 (by decide) rfl (by omega) (by omega) (fun b16 => ?_) (fun b16 => ?_)
    · refine jr_iconst (n := 34) dX8_isOn_33 rfl ?_
      refine jr_zret dX8_isOn_34 rfl (by decide) ?_
      first | exact h1 (by omega) | exact h0 (by omega)
    · refine jr_iload_n (n := 20) dX8_isOn_19 rfl rfl ?_
      refine jr_aload_n (n := 21) dX8_isOn_20 rfl rfl ?_
      refine jr_getR (n := 24) dX8_isOn_21 rfl fX8_71 rfl (by decide) (by decide) rfl ?_
      refine jr_iload_n (n := 25) dX8_isOn_24 rfl rfl ?_
      refine jr_iald (n := 26) dX8_isOn_25 rfl rfl (by decide) (by omega) (by omega) ?_
      refine jr_icmp_ge (n := 29) (t := 33) dX8_isOn_26 (by decide) rfl (by omega) (by omega) (fun b26 => ?_) (fun b26 => ?_)
      · refine jr_iconst (n := 34) dX8_isOn_33 rfl ?_
        refine jr_zret dX8_isOn_34 rfl (by decide) ?_
        first | exact h1 (by omega) | exact h0 (by omega)
      · refine jr_iconst (n := 30) dX8_isOn_29 rfl ?_
        refine jr_goto (t := 34) dX8_isOn_30 (by decide) ?_
        refine jr_zret dX8_isOn_34 rfl (by decide) ?_
        first | exact h1 (by omega) | exact h0 (by omega)

theorem e_isBusy_l {G : jG} {d : Nat} {M : jMem} {Q : Option Value → jMem → Prop} (hI : jO M) {N : jMem} {σ : jS} {v t k s m : Int} (ht : jR t) (hk : jR k) (hD : jDE M N σ) (hV : jIv (M 8 2) (M 39) (M 38) (M 43) s m σ) (h1 : jBy (M 8 2) (M 43) σ v t k → Q (some (.int (jI 1))) N) (h0 : ¬ jBy (M 8 2) (M 43) σ v t k → Q (some (.int (jI 0))) N)  : ∀ (f : Nat) (i : Int), 0 ≤ i → i ≤ M 8 2 → (∀ j, 0 ≤ j → j < i → ¬ (j ≠ k ∧ jbit (M 43 j) v ∧ jOn σ j t)) → M 8 2 - i < f → jM G mX8_isBusy (d + 1) 3 [.ref (jad G 8), .int (jI v), .int (jI t), .int (jI k), .int (jI i)] [] (N) Q := by
  intro f
  induction f with
  | zero =>
    intro i i0 i1 ha hf
    exact absurd hf (by omega)
  | succ f ih =>
    intro i i0 i1 ha hf
    have hz := jn1 hI
    have n8 := hD.1.2 2 (by decide)
    have n43 := hD.1.1 43 (by decide) (by decide)
    refine jr_iload (n := 5) dX8_isBusy_3 rfl rfl ?_
    refine jr_aload_n (n := 6) dX8_isBusy_5 rfl rfl ?_
    refine jr_getI (n := 9) (i := 2) rfl dX8_isBusy_6 rfl fX8_96 rfl (by decide) (by decide) rfl ?_
    rw [n8]
    refine jr_icmp_ge (n := 12) (t := 46) dX8_isBusy_9 (by decide) rfl (by omega) (by omega) (fun b9 => ?_) (fun b9 => ?_)
    · refine jr_iconst (n := 47) dX8_isBusy_46 rfl ?_
      refine jr_zret dX8_isBusy_47 rfl (by decide) ?_
      exact h0 (fun ⟨j, j0, j1, j2, j3, j4⟩ => ha j j0 (by omega) ⟨j2, j3, j4⟩)
    · refine jr_iload (n := 14) dX8_isBusy_12 rfl rfl ?_
      refine jr_iload_n (n := 15) dX8_isBusy_14 rfl rfl ?_
      refine jr_icmp_eq (n := 18) (t := 40) dX8_isBusy_15 (by decide) rfl (by omega) (by omega) (fun b15 => ?_) (fun b15 => ?_)
      · refine jr_iinc4 (n := 43) dX8_isBusy_40 rfl (by decide) rfl ?_
        refine jr_goto (t := 3) dX8_isBusy_43 (by decide) ?_
        exact ih (i + 1) (by omega) (by omega) (fun j j0 j1 => by
          by_cases e : j = i
          · subst e; intro q; first | exact b32 q.2.2 | exact b22 q.2.1 | exact q.1 b15
          · exact ha j j0 (by omega)) (by omega)
      · refine jr_aload_n (n := 19) dX8_isBusy_18 rfl rfl ?_
        refine jr_iload (n := 21) dX8_isBusy_19 rfl rfl ?_
        refine jr_iload_n (n := 22) dX8_isBusy_21 rfl rfl ?_
        refine jr_cV2 (n := 25) (ci := 8) (ν := mX8_needs1) dX8_isBusy_22 rfl lX8_121 kX8_needs1 iX8_needs1 rfl ⟨_, rfl, rfl⟩ (by decide) (Nat.le_of_ble_eq_true rfl) (Nat.le_of_ble_eq_true rfl) rfl ?_
        refine e_needs1 (by omega) (fun b22 => ?_) (fun b22 => ?_)
        all_goals rw [n43] at b22
        · refine jr_ifF_eq (n := 28) (t := 40) dX8_isBusy_25 rfl (by decide) (by decide) (by decide) ?_
          refine jr_aload_n (n := 29) dX8_isBusy_28 rfl rfl ?_
          refine jr_iload (n := 31) dX8_isBusy_29 rfl rfl ?_
          refine jr_iload_n (n := 32) dX8_isBusy_31 rfl rfl ?_
          refine jr_cV2 (n := 35) (ci := 8) (ν := mX8_isOn) dX8_isBusy_32 rfl lX8_147 kX8_isOn iX8_isOn rfl ⟨_, rfl, rfl⟩ (by decide) (Nat.le_of_ble_eq_true rfl) (Nat.le_of_ble_eq_true rfl) rfl ?_
          have hq := hD.2.1 i i0 (by omega)
          have hq2 := hV.2.1 i i0 (by omega)
          refine e_isOn (by omega) ht (by rw [hq.1]; omega) (by rw [hq.2]; omega) (fun b32 => ?_) (fun b32 => ?_)
          all_goals rw [hq.1, hq.2] at b32
          · refine jr_ifF_eq (n := 38) (t := 40) dX8_isBusy_35 rfl (by decide) (by decide) (by decide) ?_
            refine jr_iconst (n := 39) dX8_isBusy_38 rfl ?_
            refine jr_zret dX8_isBusy_39 rfl (by decide) ?_
            exact h1 ⟨i, i0, by omega, b15, b22, b32⟩
          · refine jr_ifT_eq (t := 40) dX8_isBusy_35 (by decide) (by decide) (by decide) ?_
            refine jr_iinc4 (n := 43) dX8_isBusy_40 rfl (by decide) rfl ?_
            refine jr_goto (t := 3) dX8_isBusy_43 (by decide) ?_
            exact ih (i + 1) (by omega) (by omega) (fun j j0 j1 => by
              by_cases e : j = i
              · subst e; intro q; first | exact b32 q.2.2 | exact b22 q.2.1 | exact q.1 b15
              · exact ha j j0 (by omega)) (by omega)
        · refine jr_ifT_eq (t := 40) dX8_isBusy_25 (by decide) (by decide) (by decide) ?_
          refine jr_iinc4 (n := 43) dX8_isBusy_40 rfl (by decide) rfl ?_
          refine jr_goto (t := 3) dX8_isBusy_43 (by decide) ?_
          exact ih (i + 1) (by omega) (by omega) (fun j j0 j1 => by
            by_cases e : j = i
            · subst e; intro q; first | exact b32 q.2.2 | exact b22 q.2.1 | exact q.1 b15
            · exact ha j j0 (by omega)) (by omega)

theorem e_isBusy {G : jG} {d : Nat} {M : jMem} {Q : Option Value → jMem → Prop} (hI : jO M) {N : jMem} {σ : jS} {v t k s m : Int} (ht : jR t) (hk : jR k) (hD : jDE M N σ) (hV : jIv (M 8 2) (M 39) (M 38) (M 43) s m σ) (h1 : jBy (M 8 2) (M 43) σ v t k → Q (some (.int (jI 1))) N) (h0 : ¬ jBy (M 8 2) (M 43) σ v t k → Q (some (.int (jI 0))) N) : jN G mX8_isBusy (d + 1) [.ref (jad G 8), .int (jI v), .int (jI t), .int (jI k)] N Q := by
  show jM G mX8_isBusy (d + 1) 0 [.ref (jad G 8), .int (jI v), .int (jI t), .int (jI k), .null] [] N Q
  have hz := jn1 hI
  refine jr_iconst (n := 1) dX8_isBusy_0 rfl ?_
  refine jr_istore4 (n := 3) dX8_isBusy_1 rfl (by decide) rfl ?_
  exact e_isBusy_l hI ht hk hD hV h1 h0 ((M 8 2).toNat + 1) 0 (by omega) (by omega) (fun j j0 j1 => absurd j1 (by omega)) (by omega)

theorem e_whyNot_l {G : jG} {d : Nat} {M : jMem} {Q : Option Value → jMem → Prop} (hI : jO M) {N : jMem} {σ : jS} {k t m : Int} (hk : 0 ≤ k ∧ k < M 8 2) (ht : 0 ≤ t ∧ t < 200) (hD : jDE M N σ) (hV : jIv (M 8 2) (M 39) (M 38) (M 43) t m σ) (h : Q (some (.int (jI (jwy (M 8 2) (M 8 8) (M 43) (jclE M) σ k t)))) N)  : ∀ (f : Nat) (v z : Int), 0 ≤ v → v ≤ M 8 8 → (∀ u, 0 ≤ u → u < v → jbit (M 43 k) u → ¬ t < jclE M k u) → ((z = 1 ∧ ∃ u, 0 ≤ u ∧ u < v ∧ jbit (M 43 k) u ∧ jBy (M 8 2) (M 43) σ u t k) ∨ (z = -1 ∧ ∀ u, 0 ≤ u → u < v → jbit (M 43 k) u → ¬ jBy (M 8 2) (M 43) σ u t k)) → M 8 8 - v < f → jM G mX8_whyNot (d + 2) 5 [.ref (jad G 8), .int (jI k), .int (jI t), .int (jI z), .int (jI v)] [] (N) Q := by
  intro f
  induction f with
  | zero =>
    intro v z v0 v1 hl hb hf
    exact absurd hf (by omega)
  | succ f ih =>
    intro v z v0 v1 hl hb hf
    have hz := jn1 hI
    have n8 := hD.1.2 8 (by decide)
    have n43 := hD.1.1 43 (by decide) (by decide)
    have n48 := hD.1.1 48 (by decide) (by decide)
    refine jr_iload (n := 7) dX8_whyNot_5 rfl rfl ?_
    refine jr_aload_n (n := 8) dX8_whyNot_7 rfl rfl ?_
    refine jr_getI (n := 11) (i := 8) rfl dX8_whyNot_8 rfl fX8_100 rfl (by decide) (by decide) rfl ?_
    rw [n8]
    refine jr_icmp_ge (n := 14) (t := 68) dX8_whyNot_11 (by decide) rfl (by omega) (by omega) (fun b11 => ?_) (fun b11 => ?_)
    · refine jr_iload_n (n := 69) dX8_whyNot_68 rfl rfl ?_
      refine jr_iret dX8_whyNot_69 rfl ?_
      have e9 : v = M 8 8 := by omega
      subst e9
      have e : jwy (M 8 2) (M 8 8) (M 43) (jclE M) σ k t = z := by
        unfold jwy
        rw [if_neg (fun ⟨u, u0, u1, u2, u3⟩ => hl u u0 (by omega) u2 u3)]
        rcases hb with ⟨e1, u, u0, u1, u2, u3⟩ | ⟨e1, hb⟩
        · rw [if_pos ⟨u, u0, u1, u2, u3⟩, e1]
        · rw [if_neg (fun ⟨u, u0, u1, u2, u3⟩ => hb u u0 (by omega) u2 u3), e1]
      rw [e] at h
      exact h
    · refine jr_aload_n (n := 15) dX8_whyNot_14 rfl rfl ?_
      refine jr_iload_n (n := 16) dX8_whyNot_15 rfl rfl ?_
      refine jr_iload (n := 18) dX8_whyNot_16 rfl rfl ?_
      refine jr_cV2 (n := 21) (ci := 8) (ν := mX8_needs1) dX8_whyNot_18 rfl lX8_121 kX8_needs1 iX8_needs1 rfl ⟨_, rfl, rfl⟩ (by decide) (Nat.le_of_ble_eq_true rfl) (Nat.le_of_ble_eq_true rfl) rfl ?_
      refine e_needs1 (by omega) (fun b18 => ?_) (fun b18 => ?_)
      all_goals rw [n43] at b18
      · refine jr_ifT_ne (t := 27) dX8_whyNot_21 (by decide) (by decide) (by decide) ?_
        have hca := jn5 hI (10 * k + v) (by omega) (by omega)
        have hcl := jclE_at (M := M) (k := k) (v := v) (by omega) (by omega) b18
        refine jr_aload_n (n := 28) dX8_whyNot_27 rfl rfl ?_
        refine jr_getR (n := 31) dX8_whyNot_28 rfl fX8_40 rfl (by decide) (by decide) rfl ?_
        refine jr_bipush (n := 33) dX8_whyNot_31 rfl (by decide) ?_
        refine jr_iload_n (n := 34) dX8_whyNot_33 rfl rfl ?_
        refine jr_imul (n := 35) dX8_whyNot_34 rfl ?_
        refine jr_iload (n := 37) dX8_whyNot_35 rfl rfl ?_
        refine jr_iadd (n := 38) dX8_whyNot_37 rfl ?_
        refine jr_iald (n := 39) dX8_whyNot_38 rfl rfl (by decide) (by omega) (by omega) ?_
        rw [n48]
        refine jr_iload_n (n := 40) dX8_whyNot_39 rfl rfl ?_
        refine jr_icmp_le (n := 43) (t := 45) dX8_whyNot_40 (by decide) rfl (by omega) (by omega) (fun b40 => ?_) (fun b40 => ?_)
        · refine jr_aload_n (n := 46) dX8_whyNot_45 rfl rfl ?_
          refine jr_iload (n := 48) dX8_whyNot_46 rfl rfl ?_
          refine jr_iload_n (n := 49) dX8_whyNot_48 rfl rfl ?_
          refine jr_iload_n (n := 50) dX8_whyNot_49 rfl rfl ?_
          refine jr_cV3 (n := 53) (ci := 8) (ν := mX8_isBusy) dX8_whyNot_50 rfl lX8_150 kX8_isBusy iX8_isBusy rfl ⟨_, rfl, rfl⟩ (by decide) (Nat.le_of_ble_eq_true rfl) (Nat.le_of_ble_eq_true rfl) rfl ?_
          refine e_isBusy hI (by omega) (by omega) hD hV (fun b50 => ?_) (fun b50 => ?_)
          · refine jr_ifF_eq (n := 56) (t := 60) dX8_whyNot_53 rfl (by decide) (by decide) (by decide) ?_
            refine jr_iconst (n := 57) dX8_whyNot_56 rfl ?_
            refine jr_goto (t := 61) dX8_whyNot_57 (by decide) ?_
            refine jr_istore3 (n := 62) dX8_whyNot_61 rfl (by decide) rfl ?_
            refine jr_iinc4 (n := 65) dX8_whyNot_62 rfl (by decide) rfl ?_
            refine jr_goto (t := 5) dX8_whyNot_65 (by decide) ?_
            exact ih (v + 1) 1 (by omega) (by omega) (fun u u0 u1 u2 => by
              by_cases q : u = v
              · subst q; omega
              · exact hl u u0 (by omega) u2) (Or.inl ⟨rfl, v, v0, by omega, b18, b50⟩) (by omega)
          · refine jr_ifT_eq (t := 60) dX8_whyNot_53 (by decide) (by decide) (by decide) ?_
            refine jr_iload_n (n := 61) dX8_whyNot_60 rfl rfl ?_
            refine jr_istore3 (n := 62) dX8_whyNot_61 rfl (by decide) rfl ?_
            refine jr_iinc4 (n := 65) dX8_whyNot_62 rfl (by decide) rfl ?_
            refine jr_goto (t := 5) dX8_whyNot_65 (by decide) ?_
            exact ih (v + 1) z (by omega) (by omega) (fun u u0 u1 u2 => by
              by_cases q : u = v
              · subst q; first | exact absurd u2 b18 | omega
              · exact hl u u0 (by omega) u2) (by
              rcases hb with ⟨e1, u, u0, u1, u2, u3⟩ | ⟨e1, hb⟩
              · exact Or.inl ⟨e1, u, u0, by omega, u2, u3⟩
              · exact Or.inr ⟨e1, fun u u0 u1 u2 => by
                  by_cases q : u = v
                  · subst q; first | exact absurd u2 b18 | exact b50
                  · exact hb u u0 (by omega) u2⟩) (by omega)
        · refine jr_iconst (n := 44) dX8_whyNot_43 rfl ?_
          refine jr_iret dX8_whyNot_44 rfl ?_
          have e : jwy (M 8 2) (M 8 8) (M 43) (jclE M) σ k t = 0 := by unfold jwy; exact if_pos ⟨v, v0, by omega, b18, by omega⟩
          rw [e] at h
          exact h
      · refine jr_ifF_ne (n := 24) (t := 27) dX8_whyNot_21 rfl (by decide) (by decide) (by decide) ?_
        refine jr_goto (t := 62) dX8_whyNot_24 (by decide) ?_
        refine jr_iinc4 (n := 65) dX8_whyNot_62 rfl (by decide) rfl ?_
        refine jr_goto (t := 5) dX8_whyNot_65 (by decide) ?_
        exact ih (v + 1) z (by omega) (by omega) (fun u u0 u1 u2 => by
          by_cases q : u = v
          · subst q; first | exact absurd u2 b18 | omega
          · exact hl u u0 (by omega) u2) (by
          rcases hb with ⟨e1, u, u0, u1, u2, u3⟩ | ⟨e1, hb⟩
          · exact Or.inl ⟨e1, u, u0, by omega, u2, u3⟩
          · exact Or.inr ⟨e1, fun u u0 u1 u2 => by
              by_cases q : u = v
              · subst q; first | exact absurd u2 b18 | exact b50
              · exact hb u u0 (by omega) u2⟩) (by omega)

theorem e_whyNot {G : jG} {d : Nat} {M : jMem} {Q : Option Value → jMem → Prop} (hI : jO M) {N : jMem} {σ : jS} {k t m : Int} (hk : 0 ≤ k ∧ k < M 8 2) (ht : 0 ≤ t ∧ t < 200) (hD : jDE M N σ) (hV : jIv (M 8 2) (M 39) (M 38) (M 43) t m σ) (h : Q (some (.int (jI (jwy (M 8 2) (M 8 8) (M 43) (jclE M) σ k t)))) N) : jN G mX8_whyNot (d + 2) [.ref (jad G 8), .int (jI k), .int (jI t)] N Q := by
  show jM G mX8_whyNot (d + 2) 0 [.ref (jad G 8), .int (jI k), .int (jI t), .null, .null] [] N Q
  have hz := jn1 hI
  refine jr_iconst (n := 1) dX8_whyNot_0 rfl ?_
  refine jr_istore3 (n := 2) dX8_whyNot_1 rfl (by decide) rfl ?_
  refine jr_iconst (n := 3) dX8_whyNot_2 rfl ?_
  refine jr_istore4 (n := 5) dX8_whyNot_3 rfl (by decide) rfl ?_
  exact e_whyNot_l hI hk ht hD hV h ((M 8 8).toNat + 1) 0 (-1) (by omega) (by omega) (fun u u0 u1 => absurd u1 (by omega)) (Or.inr ⟨rfl, fun u u0 u1 => absurd u1 (by omega)⟩) (by omega)

theorem e_goOn_l {G : jG} {d : Nat} {M : jMem} {Q : Option Value → jMem → Prop} (hI : jO M) {c t m : Int} (hc : 0 ≤ c ∧ c < 3) (ht : 0 ≤ t ∧ t < 200)  : ∀ (f : Nat) (σ : jS) (N : jMem), jDE M N σ → jIv (M 8 2) (M 39) (M 38) (M 43) t m σ → (∀ N', jDE M N' (jfin (M 8 2) (M 8 8) (M 39) (M 38) (M 43) (M 44) (M 41) (jclE M) (jsk (M 39) (M 38) (M 44) c t f σ) c t) → Q none N') → M 38 c - σ.2.2.2.1 c < f → jM G mX8_goOn (d + 3) 36 [.ref (jad G 8), .int (jI c), .int (jI t), .null, .null] [] (N) Q := by
  intro f
  induction f with
  | zero =>
    intro σ N hD hV h hf
    exact absurd hf (by have := hV.1 c hc.1 hc.2; omega)
  | succ f ih =>
    intro σ N hD hV h hf
    have hz := jn1 hI
    have hs := jn2 hI c hc.1 hc.2
    have hSD := jSD_of hI
    have hx := hV.1 c hc.1 hc.2
    have n38 := hD.1.1 38 (by decide) (by decide)
    have n39 := hD.1.1 39 (by decide) (by decide)
    have n41 := hD.1.1 41 (by decide) (by decide)
    have n44 := hD.1.1 44 (by decide) (by decide)
    have nx := hD.2.2.2.1 c hc.1 hc.2
    unfold jsk at h
    refine jr_aload_n (n := 37) dX8_goOn_36 rfl rfl ?_
    refine jr_getR (n := 40) dX8_goOn_37 rfl fX8_77 rfl (by decide) (by decide) rfl ?_
    refine jr_iload_n (n := 41) dX8_goOn_40 rfl rfl ?_
    refine jr_iald (n := 42) dX8_goOn_41 rfl rfl (by decide) (by omega) (by omega) ?_
    rw [nx]
    refine jr_aload_n (n := 43) dX8_goOn_42 rfl rfl ?_
    refine jr_getR (n := 46) dX8_goOn_43 rfl fX8_7 rfl (by decide) (by decide) rfl ?_
    refine jr_iload_n (n := 47) dX8_goOn_46 rfl rfl ?_
    refine jr_iald (n := 48) dX8_goOn_47 rfl rfl (by decide) (by omega) (by omega) ?_
    rw [n38]
    refine jr_icmp_ge (n := 51) (t := 192) dX8_goOn_48 (by decide) rfl (by omega) (by omega) (fun b48 => ?_) (fun b48 => ?_)
    · refine jr_vret dX8_goOn_192 rfl ?_
      rw [if_pos (by omega)] at h
      unfold jfin at h
      rw [if_pos (by omega)] at h
      exact h N hD
    · refine jr_aload_n (n := 52) dX8_goOn_51 rfl rfl ?_
      refine jr_getR (n := 55) dX8_goOn_52 rfl fX8_13 rfl (by decide) (by decide) rfl ?_
      refine jr_bipush (n := 57) dX8_goOn_55 rfl (by decide) ?_
      refine jr_iload_n (n := 58) dX8_goOn_57 rfl rfl ?_
      refine jr_imul (n := 59) dX8_goOn_58 rfl ?_
      refine jr_aload_n (n := 60) dX8_goOn_59 rfl rfl ?_
      refine jr_getR (n := 63) dX8_goOn_60 rfl fX8_77 rfl (by decide) (by decide) rfl ?_
      refine jr_iload_n (n := 64) dX8_goOn_63 rfl rfl ?_
      refine jr_iald (n := 65) dX8_goOn_64 rfl rfl (by decide) (by omega) (by omega) ?_
      rw [nx]
      refine jr_iadd (n := 66) dX8_goOn_65 rfl ?_
      refine jr_iald (n := 67) dX8_goOn_66 rfl rfl (by decide) (by omega) (by omega) ?_
      rw [n39]
      have he := hSD.2.2.2.1 c _ hc.1 hc.2 hx.1 (by omega)
      have hy := jn3 hI _ he.1 (by omega)
      rw [if_neg (by omega)] at h
      refine jr_istore3 (n := 68) dX8_goOn_67 rfl (by decide) rfl ?_
      refine jr_aload_n (n := 69) dX8_goOn_68 rfl rfl ?_
      refine jr_iload_n (n := 70) dX8_goOn_69 rfl rfl ?_
      refine jr_cV1 (n := 73) (ci := 8) (ν := mX8_isFolded) dX8_goOn_70 rfl lX8_153 kX8_isFolded iX8_isFolded rfl ⟨_, rfl, rfl⟩ (by decide) (Nat.le_of_ble_eq_true rfl) (Nat.le_of_ble_eq_true rfl) rfl ?_
      refine e_isFolded (by omega) (by rw [n44]; omega) (fun b70 => ?_) (fun b70 => ?_)
      all_goals rw [n44] at b70
      · refine jr_ifF_eq (n := 76) (t := 80) dX8_goOn_73 rfl (by decide) (by decide) (by decide) ?_
        refine jr_iconst (n := 77) dX8_goOn_76 rfl ?_
        refine jr_goto (t := 86) dX8_goOn_77 (by decide) ?_
        refine jr_istore4 (n := 88) dX8_goOn_86 rfl (by decide) rfl ?_
        refine jr_iload (n := 90) dX8_goOn_88 rfl rfl ?_
        refine jr_ifT_lt (t := 109) dX8_goOn_90 (by decide) (by decide) (by decide) ?_
        refine jr_aload_n (n := 110) dX8_goOn_109 rfl rfl ?_
        refine jr_getR (n := 113) dX8_goOn_110 rfl fX8_68 rfl (by decide) (by decide) rfl ?_
        refine jr_iload_n (n := 114) dX8_goOn_113 rfl rfl ?_
        refine jr_iload_n (n := 115) dX8_goOn_114 rfl rfl ?_
        refine jr_iast (n := 116) dX8_goOn_115 rfl rfl (by decide) (by omega) (by omega) ?_
        refine jr_aload_n (n := 117) dX8_goOn_116 rfl rfl ?_
        refine jr_getR (n := 120) dX8_goOn_117 rfl fX8_71 rfl (by decide) (by decide) rfl ?_
        refine jr_iload_n (n := 121) dX8_goOn_120 rfl rfl ?_
        refine jr_aload_n (n := 122) dX8_goOn_121 rfl rfl ?_
        refine jr_iload_n (n := 123) dX8_goOn_122 rfl rfl ?_
        refine jr_cV1 (n := 126) (ci := 8) (ν := mX8_isFolded) dX8_goOn_123 rfl lX8_153 kX8_isFolded iX8_isFolded rfl ⟨_, rfl, rfl⟩ (by decide) (Nat.le_of_ble_eq_true rfl) (Nat.le_of_ble_eq_true rfl) rfl ?_
        refine e_isFolded (by omega) (by rw [jup_ne (show (44 : Nat) ≠ 57 by decide), n44]; omega) (fun b123 => ?_) (fun b123 => absurd (by rw [jup_ne (show (44 : Nat) ≠ 57 by decide), n44]; exact b70) b123)
        refine jr_ifF_eq (n := 129) (t := 133) dX8_goOn_126 rfl (by decide) (by decide) (by decide) ?_
        refine jr_iload_n (n := 130) dX8_goOn_129 rfl rfl ?_
        refine jr_goto (t := 159) dX8_goOn_130 (by decide) ?_
        refine jr_iast (n := 160) dX8_goOn_159 rfl rfl (by decide) (by omega) (by omega) ?_
        refine jr_aload_n (n := 161) dX8_goOn_160 rfl rfl ?_
        refine jr_getR (n := 164) dX8_goOn_161 rfl fX8_77 rfl (by decide) (by decide) rfl ?_
        refine jr_iload_n (n := 165) dX8_goOn_164 rfl rfl ?_
        refine jr_dup2 (n := 166) dX8_goOn_165 rfl rfl rfl ?_
        refine jr_iald (n := 167) dX8_goOn_166 rfl rfl (by decide) (by omega) (by omega) ?_
        rw [jup_ne (show (60 : Nat) ≠ 58 by decide)]
        rw [jup_ne (show (60 : Nat) ≠ 57 by decide)]
        refine jr_iconst (n := 168) dX8_goOn_167 rfl ?_
        refine jr_iadd (n := 169) dX8_goOn_168 rfl ?_
        refine jr_iast (n := 170) dX8_goOn_169 rfl rfl (by decide) (by omega) (by omega) ?_
        refine jr_aload_n (n := 171) dX8_goOn_170 rfl rfl ?_
        refine jr_dup (n := 172) dX8_goOn_171 rfl rfl ?_
        refine jr_getI (n := 175) (i := 26) rfl dX8_goOn_172 rfl fX8_160 rfl (by decide) (by decide) rfl ?_
        rw [jup_ne (show (8 : Nat) ≠ 60 by decide)]
        rw [jup_ne (show (8 : Nat) ≠ 58 by decide)]
        rw [jup_ne (show (8 : Nat) ≠ 57 by decide)]
        refine jr_iconst (n := 176) dX8_goOn_175 rfl ?_
        refine jr_isub (n := 177) dX8_goOn_176 rfl ?_
        refine jr_putI (n := 180) (i := 26) rfl dX8_goOn_177 rfl fX8_160 wX8_26 rfl (by decide) (by decide) rfl ?_
        refine jr_aload_n (n := 181) dX8_goOn_180 rfl rfl ?_
        refine jr_iload_n (n := 182) dX8_goOn_181 rfl rfl ?_
        refine jr_cV1 (n := 185) (ci := 8) (ν := mX8_isFolded) dX8_goOn_182 rfl lX8_153 kX8_isFolded iX8_isFolded rfl ⟨_, rfl, rfl⟩ (by decide) (Nat.le_of_ble_eq_true rfl) (Nat.le_of_ble_eq_true rfl) rfl ?_
        refine e_isFolded (by omega) (by rw [jup_ne (show (44 : Nat) ≠ 8 by decide), jup_ne (show (44 : Nat) ≠ 60 by decide), jup_ne (show (44 : Nat) ≠ 58 by decide), jup_ne (show (44 : Nat) ≠ 57 by decide), n44]; omega) (fun b182 => ?_) (fun b182 => absurd (by rw [jup_ne (show (44 : Nat) ≠ 8 by decide), jup_ne (show (44 : Nat) ≠ 60 by decide), jup_ne (show (44 : Nat) ≠ 58 by decide), jup_ne (show (44 : Nat) ≠ 57 by decide), n44]; exact b70) b182)
        refine jr_ifT_ne (t := 189) dX8_goOn_185 (by decide) (by decide) (by decide) ?_
        refine jr_goto (t := 36) dX8_goOn_189 (by decide) ?_
        rw [if_pos b70] at h
        exact jr_drop (ih _ _ (jDE_clo hD hc.1 hc.2) (jIv_cs hSD hV hc.1 hc.2 (by omega) ht.1 ht.2 (by omega) (by omega) (Or.inl rfl)) h (by show _ - jfu σ.2.2.2.1 c (σ.2.2.2.1 c + 1) c < _; rw [jfu_at]; omega)) ⟨Or.inr rfl, Or.inr rfl, Or.inr rfl, Or.inl rfl, Or.inl rfl, trivial⟩
      · refine jr_ifT_eq (t := 80) dX8_goOn_73 (by decide) (by decide) (by decide) ?_
        refine jr_aload_n (n := 81) dX8_goOn_80 rfl rfl ?_
        refine jr_iload_n (n := 82) dX8_goOn_81 rfl rfl ?_
        refine jr_iload_n (n := 83) dX8_goOn_82 rfl rfl ?_
        refine jr_cV2 (n := 86) (ci := 8) (ν := mX8_whyNot) dX8_goOn_83 rfl lX8_156 kX8_whyNot iX8_whyNot rfl ⟨_, rfl, rfl⟩ (by decide) (Nat.le_of_ble_eq_true rfl) (Nat.le_of_ble_eq_true rfl) rfl ?_
        refine e_whyNot hI he ht hD hV ?_
        have hwv := jwy_v (n := M 8 2) (p := M 8 8) (ne := M 43) (cl := jclE M) (σ := σ) (k := M 39 (6 * c + σ.2.2.2.1 c)) (t := t)
        rw [if_neg b70] at h
        unfold jfin at h
        rw [if_neg (by omega)] at h
        refine jr_istore4 (n := 88) dX8_goOn_86 rfl (by decide) rfl ?_
        refine jr_iload (n := 90) dX8_goOn_88 rfl rfl ?_
        refine jr_if_lt (n := 93) (t := 109) dX8_goOn_90 (by decide) rfl (by omega) (fun b90 => ?_) (fun b90 => ?_)
        · refine jr_aload_n (n := 110) dX8_goOn_109 rfl rfl ?_
          refine jr_getR (n := 113) dX8_goOn_110 rfl fX8_68 rfl (by decide) (by decide) rfl ?_
          refine jr_iload_n (n := 114) dX8_goOn_113 rfl rfl ?_
          refine jr_iload_n (n := 115) dX8_goOn_114 rfl rfl ?_
          refine jr_iast (n := 116) dX8_goOn_115 rfl rfl (by decide) (by omega) (by omega) ?_
          refine jr_aload_n (n := 117) dX8_goOn_116 rfl rfl ?_
          refine jr_getR (n := 120) dX8_goOn_117 rfl fX8_71 rfl (by decide) (by decide) rfl ?_
          refine jr_iload_n (n := 121) dX8_goOn_120 rfl rfl ?_
          refine jr_aload_n (n := 122) dX8_goOn_121 rfl rfl ?_
          refine jr_iload_n (n := 123) dX8_goOn_122 rfl rfl ?_
          refine jr_cV1 (n := 126) (ci := 8) (ν := mX8_isFolded) dX8_goOn_123 rfl lX8_153 kX8_isFolded iX8_isFolded rfl ⟨_, rfl, rfl⟩ (by decide) (Nat.le_of_ble_eq_true rfl) (Nat.le_of_ble_eq_true rfl) rfl ?_
          refine e_isFolded (by omega) (by rw [jup_ne (show (44 : Nat) ≠ 57 by decide), n44]; omega) (fun b123 => absurd (by rw [jup_ne (show (44 : Nat) ≠ 57 by decide), n44] at b123; exact b123) b70) (fun b123 => ?_)
          refine jr_ifT_eq (t := 133) dX8_goOn_126 (by decide) (by decide) (by decide) ?_
          refine jr_iload_n (n := 134) dX8_goOn_133 rfl rfl ?_
          refine jr_aload_n (n := 135) dX8_goOn_134 rfl rfl ?_
          refine jr_getR (n := 138) dX8_goOn_135 rfl fX8_28 rfl (by decide) (by decide) rfl ?_
          refine jr_iload_n (n := 139) dX8_goOn_138 rfl rfl ?_
          refine jr_iald (n := 140) dX8_goOn_139 rfl rfl (by decide) (by omega) (by omega) ?_
          rw [jup_ne (show (44 : Nat) ≠ 57 by decide), n44]
          refine jr_if_ge (n := 143) (t := 152) dX8_goOn_140 (by decide) rfl (by omega) (fun b140 => ?_) (fun b140 => ?_)
          · refine jr_aload_n (n := 153) dX8_goOn_152 rfl rfl ?_
            refine jr_getR (n := 156) dX8_goOn_153 rfl fX8_28 rfl (by decide) (by decide) rfl ?_
            refine jr_iload_n (n := 157) dX8_goOn_156 rfl rfl ?_
            refine jr_iald (n := 158) dX8_goOn_157 rfl rfl (by decide) (by omega) (by omega) ?_
            rw [jup_ne (show (44 : Nat) ≠ 57 by decide), n44]
            refine jr_iadd (n := 159) dX8_goOn_158 rfl ?_
            refine jr_iast (n := 160) dX8_goOn_159 rfl rfl (by decide) (by omega) (by omega) ?_
            refine jr_aload_n (n := 161) dX8_goOn_160 rfl rfl ?_
            refine jr_getR (n := 164) dX8_goOn_161 rfl fX8_77 rfl (by decide) (by decide) rfl ?_
            refine jr_iload_n (n := 165) dX8_goOn_164 rfl rfl ?_
            refine jr_dup2 (n := 166) dX8_goOn_165 rfl rfl rfl ?_
            refine jr_iald (n := 167) dX8_goOn_166 rfl rfl (by decide) (by omega) (by omega) ?_
            rw [jup_ne (show (60 : Nat) ≠ 58 by decide)]
            rw [jup_ne (show (60 : Nat) ≠ 57 by decide)]
            refine jr_iconst (n := 168) dX8_goOn_167 rfl ?_
            refine jr_iadd (n := 169) dX8_goOn_168 rfl ?_
            refine jr_iast (n := 170) dX8_goOn_169 rfl rfl (by decide) (by omega) (by omega) ?_
            refine jr_aload_n (n := 171) dX8_goOn_170 rfl rfl ?_
            refine jr_dup (n := 172) dX8_goOn_171 rfl rfl ?_
            refine jr_getI (n := 175) (i := 26) rfl dX8_goOn_172 rfl fX8_160 rfl (by decide) (by decide) rfl ?_
            rw [jup_ne (show (8 : Nat) ≠ 60 by decide)]
            rw [jup_ne (show (8 : Nat) ≠ 58 by decide)]
            rw [jup_ne (show (8 : Nat) ≠ 57 by decide)]
            refine jr_iconst (n := 176) dX8_goOn_175 rfl ?_
            refine jr_isub (n := 177) dX8_goOn_176 rfl ?_
            refine jr_putI (n := 180) (i := 26) rfl dX8_goOn_177 rfl fX8_160 wX8_26 rfl (by decide) (by decide) rfl ?_
            refine jr_aload_n (n := 181) dX8_goOn_180 rfl rfl ?_
            refine jr_iload_n (n := 182) dX8_goOn_181 rfl rfl ?_
            refine jr_cV1 (n := 185) (ci := 8) (ν := mX8_isFolded) dX8_goOn_182 rfl lX8_153 kX8_isFolded iX8_isFolded rfl ⟨_, rfl, rfl⟩ (by decide) (Nat.le_of_ble_eq_true rfl) (Nat.le_of_ble_eq_true rfl) rfl ?_
            refine e_isFolded (by omega) (by rw [jup_ne (show (44 : Nat) ≠ 8 by decide), jup_ne (show (44 : Nat) ≠ 60 by decide), jup_ne (show (44 : Nat) ≠ 58 by decide), jup_ne (show (44 : Nat) ≠ 57 by decide), n44]; omega) (fun b182 => absurd (by rw [jup_ne (show (44 : Nat) ≠ 8 by decide), jup_ne (show (44 : Nat) ≠ 60 by decide), jup_ne (show (44 : Nat) ≠ 58 by decide), jup_ne (show (44 : Nat) ≠ 57 by decide), n44] at b182; exact b182) b70) (fun b182 => ?_)
            refine jr_ifF_ne (n := 188) (t := 189) dX8_goOn_185 rfl (by decide) (by decide) (by decide) ?_
            refine jr_vret dX8_goOn_188 rfl ?_
            rw [if_neg (by omega)] at h
            unfold jdu at h
            first
              | (rw [if_pos (by omega)] at h; exact h _ (jDE_clo hD hc.1 hc.2))
              | (rw [if_neg (by omega)] at h; exact h _ (jDE_clo hD hc.1 hc.2))
          · refine jr_aload_n (n := 144) dX8_goOn_143 rfl rfl ?_
            refine jr_getR (n := 147) dX8_goOn_144 rfl fX8_19 rfl (by decide) (by decide) rfl ?_
            refine jr_iload_n (n := 148) dX8_goOn_147 rfl rfl ?_
            refine jr_iald (n := 149) dX8_goOn_148 rfl rfl (by decide) (by omega) (by omega) ?_
            rw [jup_ne (show (41 : Nat) ≠ 57 by decide), n41]
            refine jr_goto (t := 158) dX8_goOn_149 (by decide) ?_
            refine jr_iadd (n := 159) dX8_goOn_158 rfl ?_
            refine jr_iast (n := 160) dX8_goOn_159 rfl rfl (by decide) (by omega) (by omega) ?_
            refine jr_aload_n (n := 161) dX8_goOn_160 rfl rfl ?_
            refine jr_getR (n := 164) dX8_goOn_161 rfl fX8_77 rfl (by decide) (by decide) rfl ?_
            refine jr_iload_n (n := 165) dX8_goOn_164 rfl rfl ?_
            refine jr_dup2 (n := 166) dX8_goOn_165 rfl rfl rfl ?_
            refine jr_iald (n := 167) dX8_goOn_166 rfl rfl (by decide) (by omega) (by omega) ?_
            rw [jup_ne (show (60 : Nat) ≠ 58 by decide)]
            rw [jup_ne (show (60 : Nat) ≠ 57 by decide)]
            refine jr_iconst (n := 168) dX8_goOn_167 rfl ?_
            refine jr_iadd (n := 169) dX8_goOn_168 rfl ?_
            refine jr_iast (n := 170) dX8_goOn_169 rfl rfl (by decide) (by omega) (by omega) ?_
            refine jr_aload_n (n := 171) dX8_goOn_170 rfl rfl ?_
            refine jr_dup (n := 172) dX8_goOn_171 rfl rfl ?_
            refine jr_getI (n := 175) (i := 26) rfl dX8_goOn_172 rfl fX8_160 rfl (by decide) (by decide) rfl ?_
            rw [jup_ne (show (8 : Nat) ≠ 60 by decide)]
            rw [jup_ne (show (8 : Nat) ≠ 58 by decide)]
            rw [jup_ne (show (8 : Nat) ≠ 57 by decide)]
            refine jr_iconst (n := 176) dX8_goOn_175 rfl ?_
            refine jr_isub (n := 177) dX8_goOn_176 rfl ?_
            refine jr_putI (n := 180) (i := 26) rfl dX8_goOn_177 rfl fX8_160 wX8_26 rfl (by decide) (by decide) rfl ?_
            refine jr_aload_n (n := 181) dX8_goOn_180 rfl rfl ?_
            refine jr_iload_n (n := 182) dX8_goOn_181 rfl rfl ?_
            refine jr_cV1 (n := 185) (ci := 8) (ν := mX8_isFolded) dX8_goOn_182 rfl lX8_153 kX8_isFolded iX8_isFolded rfl ⟨_, rfl, rfl⟩ (by decide) (Nat.le_of_ble_eq_true rfl) (Nat.le_of_ble_eq_true rfl) rfl ?_
            refine e_isFolded (by omega) (by rw [jup_ne (show (44 : Nat) ≠ 8 by decide), jup_ne (show (44 : Nat) ≠ 60 by decide), jup_ne (show (44 : Nat) ≠ 58 by decide), jup_ne (show (44 : Nat) ≠ 57 by decide), n44]; omega) (fun b182 => absurd (by rw [jup_ne (show (44 : Nat) ≠ 8 by decide), jup_ne (show (44 : Nat) ≠ 60 by decide), jup_ne (show (44 : Nat) ≠ 58 by decide), jup_ne (show (44 : Nat) ≠ 57 by decide), n44] at b182; exact b182) b70) (fun b182 => ?_)
            refine jr_ifF_ne (n := 188) (t := 189) dX8_goOn_185 rfl (by decide) (by decide) (by decide) ?_
            refine jr_vret dX8_goOn_188 rfl ?_
            rw [if_neg (by omega)] at h
            unfold jdu at h
            first
              | (rw [if_pos (by omega)] at h; exact h _ (jDE_clo hD hc.1 hc.2))
              | (rw [if_neg (by omega)] at h; exact h _ (jDE_clo hD hc.1 hc.2))
        · refine jr_aload_n (n := 94) dX8_goOn_93 rfl rfl ?_
          refine jr_getR (n := 97) dX8_goOn_94 rfl fX8_74 rfl (by decide) (by decide) rfl ?_
          refine jr_iconst (n := 98) dX8_goOn_97 rfl ?_
          refine jr_iload_n (n := 99) dX8_goOn_98 rfl rfl ?_
          refine jr_imul (n := 100) dX8_goOn_99 rfl ?_
          refine jr_iload (n := 102) dX8_goOn_100 rfl rfl ?_
          refine jr_iadd (n := 103) dX8_goOn_102 rfl ?_
          refine jr_dup2 (n := 104) dX8_goOn_103 rfl rfl rfl ?_
          refine jr_iald (n := 105) dX8_goOn_104 rfl rfl (by decide) (by omega) (by omega) ?_
          rw [hD.2.2.1 _ (by omega) (by omega)]
          refine jr_iconst (n := 106) dX8_goOn_105 rfl ?_
          refine jr_iadd (n := 107) dX8_goOn_106 rfl ?_
          refine jr_iast (n := 108) dX8_goOn_107 rfl rfl (by decide) (by omega) (by omega) ?_
          refine jr_vret dX8_goOn_108 rfl ?_
          rw [if_pos (by omega)] at h
          exact h _ (jDE_id hD (by omega) rfl)

theorem e_goOn {G : jG} {d : Nat} {M : jMem} {Q : Option Value → jMem → Prop} (hI : jO M) {N : jMem} {σ : jS} {c t m : Int} (hc : 0 ≤ c ∧ c < 3) (ht : 0 ≤ t ∧ t < 200) (hD : jDE M N σ) (hV : jIv (M 8 2) (M 39) (M 38) (M 43) t m σ) (h : ∀ N', jDE M N' (jps (M 8 2) (M 8 8) (M 39) (M 38) (M 43) (M 44) (M 41) (jclE M) σ c t) → Q none N') : jN G mX8_goOn (d + 3) [.ref (jad G 8), .int (jI c), .int (jI t)] N Q := by
  show jM G mX8_goOn (d + 3) 0 [.ref (jad G 8), .int (jI c), .int (jI t), .null, .null] [] N Q
  have hz := jn1 hI
  have hs := jn2 hI c hc.1 hc.2
  have hSD := jSD_of hI
  have hx := hV.1 c hc.1 hc.2
  have n39 := hD.1.1 39 (by decide) (by decide)
  have nx := hD.2.2.2.1 c hc.1 hc.2
  unfold jps at h
  refine jr_aload_n (n := 1) dX8_goOn_0 rfl rfl ?_
  refine jr_getR (n := 4) dX8_goOn_1 rfl fX8_77 rfl (by decide) (by decide) rfl ?_
  refine jr_iload_n (n := 5) dX8_goOn_4 rfl rfl ?_
  refine jr_iald (n := 6) dX8_goOn_5 rfl rfl (by decide) (by omega) (by omega) ?_
  rw [nx]
  refine jr_if_le (n := 9) (t := 36) dX8_goOn_6 (by decide) rfl (by omega) (fun b6 => ?_) (fun b6 => ?_)
  · first
      | (rw [if_neg (fun q => by omega)] at h; exact e_goOn_l hI hc ht 7 σ N hD hV h (by omega))
      | (rw [if_neg (fun q => b29 q.2)] at h; exact e_goOn_l hI hc ht 7 σ N hD hV h (by omega))
  · refine jr_aload_n (n := 10) dX8_goOn_9 rfl rfl ?_
    refine jr_aload_n (n := 11) dX8_goOn_10 rfl rfl ?_
    refine jr_getR (n := 14) dX8_goOn_11 rfl fX8_13 rfl (by decide) (by decide) rfl ?_
    refine jr_bipush (n := 16) dX8_goOn_14 rfl (by decide) ?_
    refine jr_iload_n (n := 17) dX8_goOn_16 rfl rfl ?_
    refine jr_imul (n := 18) dX8_goOn_17 rfl ?_
    refine jr_aload_n (n := 19) dX8_goOn_18 rfl rfl ?_
    refine jr_getR (n := 22) dX8_goOn_19 rfl fX8_77 rfl (by decide) (by decide) rfl ?_
    refine jr_iload_n (n := 23) dX8_goOn_22 rfl rfl ?_
    refine jr_iald (n := 24) dX8_goOn_23 rfl rfl (by decide) (by omega) (by omega) ?_
    rw [nx]
    refine jr_iadd (n := 25) dX8_goOn_24 rfl ?_
    refine jr_iconst (n := 26) dX8_goOn_25 rfl ?_
    refine jr_isub (n := 27) dX8_goOn_26 rfl ?_
    refine jr_iald (n := 28) dX8_goOn_27 rfl rfl (by decide) (by omega) (by omega) ?_
    rw [n39]
    have he := hSD.2.2.2.1 c (σ.2.2.2.1 c - 1) hc.1 hc.2 (by omega) (by omega)
    rw [show 6 * c + (σ.2.2.2.1 c - 1) = 6 * c + σ.2.2.2.1 c - 1 by omega] at he
    have hq := hD.2.1 _ he.1 he.2
    have hq2 := hV.2.1 _ he.1 he.2
    refine jr_iload_n (n := 29) dX8_goOn_28 rfl rfl ?_
    refine jr_cV2 (n := 32) (ci := 8) (ν := mX8_isOn) dX8_goOn_29 rfl lX8_147 kX8_isOn iX8_isOn rfl ⟨_, rfl, rfl⟩ (by decide) (Nat.le_of_ble_eq_true rfl) (Nat.le_of_ble_eq_true rfl) rfl ?_
    refine e_isOn (by omega) (by omega) (by rw [hq.1]; omega) (by rw [hq.2]; omega) (fun b29 => ?_) (fun b29 => ?_)
    all_goals rw [hq.1, hq.2] at b29
    · refine jr_ifF_eq (n := 35) (t := 36) dX8_goOn_32 rfl (by decide) (by decide) (by decide) ?_
      refine jr_vret dX8_goOn_35 rfl ?_
      rw [if_pos ⟨by omega, b29⟩] at h
      exact h N hD
    · refine jr_ifT_eq (t := 36) dX8_goOn_32 (by decide) (by decide) (by decide) ?_
      first
        | (rw [if_neg (fun q => by omega)] at h; exact e_goOn_l hI hc ht 7 σ N hD hV h (by omega))
        | (rw [if_neg (fun q => b29 q.2)] at h; exact e_goOn_l hI hc ht 7 σ N hD hV h (by omega))

theorem e_run_m {G : jG} {d : Nat} {M : jMem} {Q : Option Value → jMem → Prop} (hI : jO M) {t : Int} (ht : 0 ≤ t ∧ t < 200)  : ∀ (f : Nat) (c m : Int) (σ : jS) (N : jMem), 0 ≤ c → c ≤ 3 → jDE M N σ → jIv (M 8 2) (M 39) (M 38) (M 43) t m σ → (∀ N', jDE M N' (jpz (M 8 2) (M 8 8) (M 39) (M 38) (M 43) (M 44) (M 41) (jclE M) t σ c) → jM G mX8_runDay (d + 4) 113 [.ref (jad G 8), .int (jI t), .null] [] N' Q) → 3 - c < f → jM G mX8_runDay (d + 4) 96 [.ref (jad G 8), .int (jI t), .int (jI c)] [] (N) Q := by
  intro f
  induction f with
  | zero =>
    intro c m σ N c0 c1 hD hV h hf
    exact absurd hf (by omega)
  | succ f ih =>
    intro c m σ N c0 c1 hD hV h hf
    refine jr_iload_n (n := 97) dX8_runDay_96 rfl rfl ?_
    refine jr_iconst (n := 98) dX8_runDay_97 rfl ?_
    refine jr_icmp_ge (n := 101) (t := 113) dX8_runDay_98 (by decide) rfl (by omega) (by omega) (fun b98 => ?_) (fun b98 => ?_)
    · rw [jpz_3 (by omega)] at h
      exact jr_drop (h N hD) ⟨Or.inr rfl, Or.inr rfl, Or.inl rfl, trivial⟩
    · refine jr_aload_n (n := 102) dX8_runDay_101 rfl rfl ?_
      refine jr_iload_n (n := 103) dX8_runDay_102 rfl rfl ?_
      refine jr_iload_n (n := 104) dX8_runDay_103 rfl rfl ?_
      refine jr_cV2 (n := 107) (ci := 8) (ν := mX8_goOn) dX8_runDay_104 rfl lX8_163 kX8_goOn iX8_goOn rfl ⟨_, rfl, rfl⟩ (by decide) (Nat.le_of_ble_eq_true rfl) (Nat.le_of_ble_eq_true rfl) rfl ?_
      rw [jpz_s (by omega)] at h
      refine e_goOn hI (by omega) ht hD hV (fun N' hD' => ?_)
      refine jr_iinc2 (n := 110) dX8_runDay_107 rfl (by decide) rfl ?_
      refine jr_goto (t := 96) dX8_runDay_110 (by decide) ?_
      exact ih (c + 1) (m + 1) _ N' (by omega) (by omega) hD' (jIv_ps (jSD_of hI) hV (by omega) (by omega) ht.1 ht.2) h (by omega)

theorem e_run_l {G : jG} {d : Nat} {M : jMem} {Q : Option Value → jMem → Prop} (hI : jO M) (h : ∀ N', jDE M N' (jdy (M 8 2) (M 8 8) (M 39) (M 38) (M 43) (M 44) (M 41) (jclE M) 200) → Q none N')  : ∀ (f : Nat) (t : Nat) (N : jMem), t ≤ 200 → jDE M N (jdy (M 8 2) (M 8 8) (M 39) (M 38) (M 43) (M 44) (M 41) (jclE M) t) → 200 - t < f → jM G mX8_runDay (d + 4) 80 [.ref (jad G 8), .int (jI (t : Int)), .null] [] (N) Q := by
  intro f
  induction f with
  | zero =>
    intro t N t1 hD hf
    exact absurd hf (by omega)
  | succ f ih =>
    intro t N t1 hD hf
    have hSD := jSD_of hI
    have hV := jIv_dy (cl := jclE M) hSD t (by omega)
    have hz := jn1 hI
    have x0 := hV.1 0 (by omega) (by omega)
    have x1 := hV.1 1 (by omega) (by omega)
    have x2 := hV.1 2 (by omega) (by omega)
    have y0 := jn2 hI 0 (by omega) (by omega)
    have y1 := jn2 hI 1 (by omega) (by omega)
    have y2 := jn2 hI 2 (by omega) (by omega)
    have ho := hV.2.2.2.2.2
    refine jr_iload_n (n := 81) dX8_runDay_80 rfl rfl ?_
    refine jr_sipush (n := 84) dX8_runDay_81 rfl (by decide) ?_
    refine jr_icmp_ge (n := 87) (t := 119) dX8_runDay_84 (by decide) rfl (by omega) (by omega) (fun b84 => ?_) (fun b84 => ?_)
    · refine jr_vret dX8_runDay_119 rfl ?_
      first
        | (have e : t = 200 := by omega
           subst e; exact h N hD)
        | (have e := jdy_stop (t := t) (n := M 8 2) (p := M 8 8) (li := M 39) (ls := M 38) (ne := M 43) (fa := M 44) (le := M 41) (cl := jclE M) (by omega) (200 - t)
           rw [show t + (200 - t) = 200 by omega] at e
           rw [e] at h; exact h N hD)
    · refine jr_aload_n (n := 88) dX8_runDay_87 rfl rfl ?_
      refine jr_getI (n := 91) (i := 26) rfl dX8_runDay_88 rfl fX8_160 rfl (by decide) (by decide) rfl ?_
      rw [hD.2.2.2.2]
      refine jr_if_le (n := 94) (t := 119) dX8_runDay_91 (by decide) rfl (by omega) (fun b91 => ?_) (fun b91 => ?_)
      · refine jr_vret dX8_runDay_119 rfl ?_
        first
          | (have e : t = 200 := by omega
             subst e; exact h N hD)
          | (have e := jdy_stop (t := t) (n := M 8 2) (p := M 8 8) (li := M 39) (ls := M 38) (ne := M 43) (fa := M 44) (le := M 41) (cl := jclE M) (by omega) (200 - t)
             rw [show t + (200 - t) = 200 by omega] at e
             rw [e] at h; exact h N hD)
      · refine jr_iconst (n := 95) dX8_runDay_94 rfl ?_
        refine jr_istore2 (n := 96) dX8_runDay_95 rfl (by decide) rfl ?_
        refine e_run_m hI (by omega) 4 0 (3 * t) _ N (by omega) (by omega) hD hV (fun N' hD' => ?_) (by omega)
        refine jr_iinc1 (n := 116) dX8_runDay_113 rfl (by decide) rfl ?_
        refine jr_goto (t := 80) dX8_runDay_116 (by decide) ?_
        rw [← jdy_s (by omega)] at hD'
        have k9 := ih (t + 1) N' (by omega) hD' (by omega)
        rw [show ((t + 1 : Nat) : Int) = (t : Int) + 1 by omega] at k9
        exact k9

theorem e_run_2 {G : jG} {d : Nat} {M : jMem} {Q : Option Value → jMem → Prop} (h : ∀ N, jFE M N → (∀ k, 0 ≤ k → k < M 8 2 → N 57 k = -1 ∧ N 58 k = -1) → (∀ i, 0 ≤ i → i < 6 → N 59 i = 0) → (∀ c, 0 ≤ c → c < 3 → N 60 c = 0) → jM G mX8_runDay (d + 4) 70 [.ref (jad G 8), .null, .null] [] N Q)  : ∀ (f : Nat) (c : Int) (N : jMem), 0 ≤ c → c ≤ 3 → jFE M N → (∀ k, 0 ≤ k → k < M 8 2 → N 57 k = -1 ∧ N 58 k = -1) → (∀ i, 0 ≤ i → i < 2 * c → N 59 i = 0) → (∀ a, 0 ≤ a → a < c → N 60 a = 0) → 3 - c < f → jM G mX8_runDay (d + 4) 32 [.ref (jad G 8), .int (jI c), .null] [] (N) Q := by
  intro f
  induction f with
  | zero =>
    intro c N c0 c1 hN ha hb hd hf
    exact absurd hf (by omega)
  | succ f ih =>
    intro c N c0 c1 hN ha hb hd hf
    refine jr_iload_n (n := 33) dX8_runDay_32 rfl rfl ?_
    refine jr_iconst (n := 34) dX8_runDay_33 rfl ?_
    refine jr_icmp_ge (n := 37) (t := 70) dX8_runDay_34 (by decide) rfl (by omega) (by omega) (fun b34 => ?_) (fun b34 => ?_)
    · exact jr_drop (h N hN ha (fun i i0 i1 => hb i i0 (by omega)) (fun a a0 a1 => hd a a0 (by omega))) ⟨Or.inr rfl, Or.inl rfl, Or.inl rfl, trivial⟩
    · refine jr_aload_n (n := 38) dX8_runDay_37 rfl rfl ?_
      refine jr_getR (n := 41) dX8_runDay_38 rfl fX8_77 rfl (by decide) (by decide) rfl ?_
      refine jr_iload_n (n := 42) dX8_runDay_41 rfl rfl ?_
      refine jr_iconst (n := 43) dX8_runDay_42 rfl ?_
      refine jr_iast (n := 44) dX8_runDay_43 rfl rfl (by decide) (by omega) (by omega) ?_
      refine jr_aload_n (n := 45) dX8_runDay_44 rfl rfl ?_
      refine jr_getR (n := 48) dX8_runDay_45 rfl fX8_74 rfl (by decide) (by decide) rfl ?_
      refine jr_iconst (n := 49) dX8_runDay_48 rfl ?_
      refine jr_iload_n (n := 50) dX8_runDay_49 rfl rfl ?_
      refine jr_imul (n := 51) dX8_runDay_50 rfl ?_
      refine jr_iconst (n := 52) dX8_runDay_51 rfl ?_
      refine jr_iast (n := 53) dX8_runDay_52 rfl rfl (by decide) (by omega) (by omega) ?_
      refine jr_aload_n (n := 54) dX8_runDay_53 rfl rfl ?_
      refine jr_getR (n := 57) dX8_runDay_54 rfl fX8_74 rfl (by decide) (by decide) rfl ?_
      refine jr_iconst (n := 58) dX8_runDay_57 rfl ?_
      refine jr_iload_n (n := 59) dX8_runDay_58 rfl rfl ?_
      refine jr_imul (n := 60) dX8_runDay_59 rfl ?_
      refine jr_iconst (n := 61) dX8_runDay_60 rfl ?_
      refine jr_iadd (n := 62) dX8_runDay_61 rfl ?_
      refine jr_iconst (n := 63) dX8_runDay_62 rfl ?_
      refine jr_iast (n := 64) dX8_runDay_63 rfl rfl (by decide) (by omega) (by omega) ?_
      refine jr_iinc1 (n := 67) dX8_runDay_64 rfl (by decide) rfl ?_
      refine jr_goto (t := 32) dX8_runDay_67 (by decide) ?_
      refine ih (c + 1) _ (by omega) (by omega) (((hN.up (by omega)).up (by omega)).up (by omega)) (fun k k0 k1 => ?_) (fun i i0 i1 => ?_) (fun a a0 a1 => ?_) (by omega)
      · rw [jup_ne (by decide), jup_ne (by decide), jup_ne (by decide), jup_ne (by decide), jup_ne (by decide), jup_ne (by decide)]
        exact ha k k0 k1
      · by_cases e : i = 2 * c + 1
        · rw [e, jup_at]
        · rw [jup_off e]
          by_cases e2 : i = 2 * c
          · rw [e2, jup_at]
          · rw [jup_off e2, jup_ne (by decide)]; exact hb i i0 (by omega)
      · rw [jup_ne (by decide), jup_ne (by decide)]
        by_cases e : a = c
        · rw [e, jup_at]
        · rw [jup_off e]; exact hd a a0 (by omega)

theorem e_run_1 {G : jG} {d : Nat} {M : jMem} {Q : Option Value → jMem → Prop} (hI : jO M) (h : ∀ N, jFE M N → (∀ k, 0 ≤ k → k < M 8 2 → N 57 k = -1 ∧ N 58 k = -1) → (∀ i, 0 ≤ i → i < 6 → N 59 i = 0) → (∀ c, 0 ≤ c → c < 3 → N 60 c = 0) → jM G mX8_runDay (d + 4) 70 [.ref (jad G 8), .null, .null] [] N Q)  : ∀ (f : Nat) (i : Int) (N : jMem), 0 ≤ i → i ≤ M 8 2 → jFE M N → (∀ k, 0 ≤ k → k < i → N 57 k = -1 ∧ N 58 k = -1) → M 8 2 - i < f → jM G mX8_runDay (d + 4) 2 [.ref (jad G 8), .int (jI i), .null] [] (N) Q := by
  intro f
  induction f with
  | zero =>
    intro i N i0 i1 hN ha hf
    exact absurd hf (by omega)
  | succ f ih =>
    intro i N i0 i1 hN ha hf
    have hz := jn1 hI
    have n8 := hN.2 2 (by decide)
    refine jr_iload_n (n := 3) dX8_runDay_2 rfl rfl ?_
    refine jr_aload_n (n := 4) dX8_runDay_3 rfl rfl ?_
    refine jr_getI (n := 7) (i := 2) rfl dX8_runDay_4 rfl fX8_96 rfl (by decide) (by decide) rfl ?_
    rw [n8]
    refine jr_icmp_ge (n := 10) (t := 30) dX8_runDay_7 (by decide) rfl (by omega) (by omega) (fun b7 => ?_) (fun b7 => ?_)
    · refine jr_iconst (n := 31) dX8_runDay_30 rfl ?_
      refine jr_istore1 (n := 32) dX8_runDay_31 rfl (by decide) rfl ?_
      exact e_run_2 h 4 0 N (by omega) (by omega) hN (fun k k0 k1 => ha k k0 (by omega)) (fun i i0 i1 => absurd i1 (by omega)) (fun a a0 a1 => absurd a1 (by omega)) (by omega)
    · refine jr_aload_n (n := 11) dX8_runDay_10 rfl rfl ?_
      refine jr_getR (n := 14) dX8_runDay_11 rfl fX8_68 rfl (by decide) (by decide) rfl ?_
      refine jr_iload_n (n := 15) dX8_runDay_14 rfl rfl ?_
      refine jr_iconst (n := 16) dX8_runDay_15 rfl ?_
      refine jr_iast (n := 17) dX8_runDay_16 rfl rfl (by decide) (by omega) (by omega) ?_
      refine jr_aload_n (n := 18) dX8_runDay_17 rfl rfl ?_
      refine jr_getR (n := 21) dX8_runDay_18 rfl fX8_71 rfl (by decide) (by decide) rfl ?_
      refine jr_iload_n (n := 22) dX8_runDay_21 rfl rfl ?_
      refine jr_iconst (n := 23) dX8_runDay_22 rfl ?_
      refine jr_iast (n := 24) dX8_runDay_23 rfl rfl (by decide) (by omega) (by omega) ?_
      refine jr_iinc1 (n := 27) dX8_runDay_24 rfl (by decide) rfl ?_
      refine jr_goto (t := 2) dX8_runDay_27 (by decide) ?_
      refine ih (i + 1) _ (by omega) (by omega) ((hN.up (by omega)).up (by omega)) (fun k k0 k1 => ?_) (by omega)
      by_cases e : k = i
      · subst e
        exact ⟨by rw [jup_ne (by decide), jup_at], by rw [jup_at]⟩
      · rw [jup_ne (by decide), jup_off e, jup_off e, jup_ne (by decide)]
        exact ha k k0 (by omega)

theorem e_runDay {G : jG} {d : Nat} {M : jMem} {Q : Option Value → jMem → Prop} (hI : jO M) (h : ∀ N', jDE M N' (jdy (M 8 2) (M 8 8) (M 39) (M 38) (M 43) (M 44) (M 41) (jclE M) 200) → Q none N') : jN G mX8_runDay (d + 4) [.ref (jad G 8)] M Q := by
  show jM G mX8_runDay (d + 4) 0 [.ref (jad G 8), .null, .null] [] M Q
  have hz := jn1 hI
  refine jr_iconst (n := 1) dX8_runDay_0 rfl ?_
  refine jr_istore1 (n := 2) dX8_runDay_1 rfl (by decide) rfl ?_
  refine e_run_1 hI (fun N hN ha hb hd => ?_) ((M 8 2).toNat + 1) 0 M (by omega) (by omega) jFE.rf (fun k k0 k1 => absurd k1 (by omega)) (by omega)
  refine jr_aload_n (n := 71) dX8_runDay_70 rfl rfl ?_
  refine jr_aload_n (n := 72) dX8_runDay_71 rfl rfl ?_
  refine jr_getI (n := 75) (i := 2) rfl dX8_runDay_72 rfl fX8_96 rfl (by decide) (by decide) rfl ?_
  rw [hN.2 2 (by decide)]
  refine jr_putI (n := 78) (i := 26) rfl dX8_runDay_75 rfl fX8_160 wX8_26 rfl (by decide) (by decide) rfl ?_
  refine jr_iconst (n := 79) dX8_runDay_78 rfl ?_
  refine jr_istore1 (n := 80) dX8_runDay_79 rfl (by decide) rfl ?_
  refine e_run_l hI h 201 0 _ (by omega) ⟨hN.op, fun k k0 k1 => ?_, fun i i0 i1 => ?_, fun a a0 a1 => ?_, ?_⟩ (by omega)
  · rw [jup_ne (by decide), jup_ne (by decide)]; exact ha k k0 k1
  · rw [jup_ne (by decide)]; exact hb i i0 i1
  · rw [jup_ne (by decide)]; exact hd a a0 a1
  · rw [jup_at]; rfl

