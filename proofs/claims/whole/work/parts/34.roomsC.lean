-- when a witness is there, from and until
def jfr (ne : Int → Int) (cl : Int → Int → Int) (v : Int) : Nat → Int
  | 0 => 200
  | k + 1 => if jbit (ne (k : Int)) v then min (jfr ne cl v k) (cl (k : Int) v) else jfr ne cl v k
def jla (ne : Int → Int) (σ : jS) (v : Int) : Nat → Int
  | 0 => -1
  | k + 1 => if jbit (ne (k : Int)) v then max (jla ne σ v k) (jto σ (k : Int)) else jla ne σ v k
def jfF (n : Int) (ne : Int → Int) (cl : Int → Int → Int) : Int → Int := fun v => jfr ne cl v n.toNat
def jfA (n : Int) (ne : Int → Int) (cl : Int → Int → Int) (σ : jS) : Int → Int := fun v => if jla ne σ v n.toNat = -1 then -1 else jfr ne cl v n.toNat
def jfU (n : Int) (ne : Int → Int) (cl : Int → Int → Int) (σ : jS) : Int → Int := fun v => if jla ne σ v n.toNat = -1 then -1 else max (jfr ne cl v n.toNat) (jla ne σ v n.toNat)
theorem jfr_s (ne : Int → Int) (cl : Int → Int → Int) (v : Int) {i : Int} (h : 0 ≤ i) : jfr ne cl v (i + 1).toNat = if jbit (ne i) v then min (jfr ne cl v i.toNat) (cl i v) else jfr ne cl v i.toNat := by
  rw [show (i + 1).toNat = i.toNat + 1 by omega]
  show (if jbit (ne ((i.toNat : Nat) : Int)) v then min (jfr ne cl v i.toNat) (cl ((i.toNat : Nat) : Int) v) else jfr ne cl v i.toNat) = _
  rw [show ((i.toNat : Nat) : Int) = i by omega]
theorem jla_s (ne : Int → Int) (σ : jS) (v : Int) {i : Int} (h : 0 ≤ i) : jla ne σ v (i + 1).toNat = if jbit (ne i) v then max (jla ne σ v i.toNat) (jto σ i) else jla ne σ v i.toNat := by
  rw [show (i + 1).toNat = i.toNat + 1 by omega]
  show (if jbit (ne ((i.toNat : Nat) : Int)) v then max (jla ne σ v i.toNat) (jto σ ((i.toNat : Nat) : Int)) else jla ne σ v i.toNat) = _
  rw [show ((i.toNat : Nat) : Int) = i by omega]
theorem jfr_b {ne : Int → Int} {cl : Int → Int → Int} {v : Int} (h : ∀ k u, 0 ≤ cl k u ∧ cl k u ≤ 48) : ∀ i : Nat, 0 ≤ jfr ne cl v i ∧ jfr ne cl v i ≤ 200
  | 0 => by show (0 : Int) ≤ 200 ∧ (200 : Int) ≤ 200; omega
  | i + 1 => by
    have h1 := jfr_b (ne := ne) (v := v) h i
    have h2 := h i v
    unfold jfr
    split <;> omega
theorem jla_b {n : Int} {li ls ne : Int → Int} {s m : Int} {σ : jS} (h : jIv n li ls ne s m σ) {v : Int} : ∀ i : Nat, (i : Int) ≤ n → -1 ≤ jla ne σ v i ∧ jla ne σ v i ≤ 200
  | 0, _ => by show (-1 : Int) ≤ -1 ∧ (-1 : Int) ≤ 200; omega
  | i + 1, hi => by
    have h1 := jla_b h (v := v) i (by omega)
    have h2 := h.2.1 i (by omega) (by omega)
    have h3 : 0 ≤ jto σ i ∧ jto σ i ≤ 200 := by unfold jto; split <;> omega
    unfold jla
    split <;> omega
-- the search
def jok (ki fA fU ap rm : Int → Int) (v z : Int) : Prop := (ki v = 4 → z = 2) ∧ ∀ u, 0 ≤ u → u < v → ¬ (0 ≤ fA u ∧ rm u = z ∧ fA u ≤ fU v ∧ fA v ≤ fU u ∧ jbit (ap v) u)
noncomputable def jtry (ki fA fU ap : Int → Int) (g : (Int → Int) → Option (Int → Int)) (v : Int) (rm : Int → Int) : Nat → Int → Option (Int → Int)
  | 0, _ => none
  | m + 1, z => Option.or (@ite (Option (Int → Int)) (jok ki fA fU ap rm v z) (Classical.propDecidable _) (g (jfu rm v z)) none) (jtry ki fA fU ap g v rm m (z + 1))
noncomputable def jgr (p : Int) (ki fA fU ap : Int → Int) : Nat → (Int → Int) → Option (Int → Int)
  | 0, rm => some rm
  | r + 1, rm => if fA (p - ((r : Int) + 1)) < 0 then jgr p ki fA fU ap r rm else jtry ki fA fU ap (jgr p ki fA fU ap r) (p - ((r : Int) + 1)) rm 3 0
theorem jtry_skip {ki fA fU ap : Int → Int} {g : (Int → Int) → Option (Int → Int)} {v : Int} {rm : Int → Int} {m : Nat} {z : Int} (h : ki v = 4) (hz : z ≠ 2) : jtry ki fA fU ap g v rm (m + 1) z = jtry ki fA fU ap g v rm m (z + 1) := by
  show Option.or _ _ = _
  rw [if_neg (fun q => hz (q.1 h))]
  rfl
/-- the class's rows while it searches: rooms that are given, who is in each -/
def jRm (fA : Int → Int) (N : jMem) (v : Int) (rm : Int → Int) : Prop := (∀ u, 0 ≤ u → u < 10 → N 28 u = if u < v ∧ 0 ≤ fA u then rm u else -1) ∧ (∀ z, 0 ≤ z → z < 3 → ∀ u, 0 ≤ u → u < 32 → (jbit (N 32 z) u ↔ (u < v ∧ 0 ≤ fA u ∧ rm u = z))) ∧ (∀ u, 0 ≤ u → u < v → 0 ≤ fA u → 0 ≤ rm u ∧ rm u < 3)
def jrest (N N' : jMem) : Prop := ∀ a, a ≠ 28 → a ≠ 32 → N' a = N a
/-- what the stays and the foes are, for those below v -/
def jFo (ap F fU : Int → Int) (N : jMem) (v : Int) : Prop := ∀ u, 0 ≤ u → u < v → N 29 u = F u ∧ N 30 u = fU u ∧ ∀ x, 0 ≤ x → x < 32 → (jbit (N 31 u) x ↔ (x < u ∧ F x ≤ fU u ∧ F u ≤ fU x ∧ jbit (ap x) u))
theorem c_measure_l {G : jG} {d : Nat} {M : jMem} {Q : Option Value → jMem → Prop} (hI : jK M) {N : jMem} {σ : jS} {v s m : Int} (hN : jFC M N) (hb : ∀ k, 0 ≤ k → k < 12 → N 22 k = σ.1 k) (hV : jIv (M 1 8) (M 16) (M 17) (M 13) s m σ) (hv : 0 ≤ v ∧ v < 10) (h : Q none (jup (jup N 29 v (jfF (M 1 8) (M 13) (jclC M) v)) 30 v (jfU (M 1 8) (M 13) (jclC M) σ v)))  : ∀ (f : Nat) (i : Int), 0 ≤ i → i ≤ M 1 8 → M 1 8 - i < f → jM G mX5_measureStay (d + 2) 11 [.ref (jad G 5), .ref (jad G 1), .ref (jad G 4), .int (jI v), .int (jI (jfr (M 13) (jclC M) v i.toNat)), .int (jI (jla (M 13) σ v i.toNat)), .int (jI i)] [] (N) Q := by
  intro f
  induction f with
  | zero =>
    intro i h0 h1 hf
    exact absurd hf (by omega)
  | succ f ih =>
    intro i h0 h1 hf
    have hs := jn1 hI
    have n1 := congrFun (hN 1 (by decide) (by decide)) 8
    have n13 := hN 13 (by decide) (by decide)
    have n15 := hN 15 (by decide) (by decide)
    have f1 := jfr_b (ne := M 13) (v := v) (jclC_0 hI) i.toNat
    have f2 := jla_b hV (v := v) i.toNat (by omega)
    refine jr_iload (n := 13) dX5_measureStay_11 rfl rfl ?_
    refine jr_aload_n (n := 14) dX5_measureStay_13 rfl rfl ?_
    refine jr_getI (n := 17) (i := 8) rfl dX5_measureStay_14 rfl fX5_51 rfl (by decide) (by decide) rfl ?_
    rw [n1]
    refine jr_icmp_ge (n := 20) (t := 81) dX5_measureStay_17 (by decide) rfl (by omega) (by omega) (fun b17 => ?_) (fun b17 => ?_)
    · refine jr_aload_n (n := 82) dX5_measureStay_81 rfl rfl ?_
      refine jr_getR (n := 85) dX5_measureStay_82 rfl fX5_15 rfl (by decide) (by decide) rfl ?_
      refine jr_iload_n (n := 86) dX5_measureStay_85 rfl rfl ?_
      refine jr_iload (n := 88) dX5_measureStay_86 rfl rfl ?_
      refine jr_iast (n := 89) dX5_measureStay_88 rfl rfl (by decide) (by omega) (by omega) ?_
      refine jr_aload_n (n := 90) dX5_measureStay_89 rfl rfl ?_
      refine jr_getR (n := 93) dX5_measureStay_90 rfl fX5_18 rfl (by decide) (by decide) rfl ?_
      refine jr_iload_n (n := 94) dX5_measureStay_93 rfl rfl ?_
      refine jr_iload (n := 96) dX5_measureStay_94 rfl rfl ?_
      refine jr_iconst (n := 97) dX5_measureStay_96 rfl ?_
      refine jr_icmp_ne (n := 100) (t := 104) dX5_measureStay_97 (by decide) rfl (by omega) (by omega) (fun b97 => ?_) (fun b97 => ?_)
      · refine jr_iload (n := 106) dX5_measureStay_104 rfl rfl ?_
        refine jr_iload (n := 108) dX5_measureStay_106 rfl rfl ?_
        refine jr_max (n := 111) dX5_measureStay_108 rfl lX5_72 (by omega) (by omega) (Nat.le_of_ble_eq_true rfl) ⟨Nat.le_add_left _ _, Nat.le_add_left _ _⟩ ⟨Nat.le_refl _, Nat.le_refl _⟩ ?_
        refine jr_iast (n := 112) dX5_measureStay_111 rfl rfl (by decide) (by omega) (by omega) ?_
        refine jr_vret dX5_measureStay_112 rfl ?_
        have e : i = M 1 8 := by omega
        subst e
        unfold jfF jfU at h
        first
          | (rw [if_pos b97] at h; exact h)
          | (rw [if_neg b97] at h; exact h)
      · refine jr_iconst (n := 101) dX5_measureStay_100 rfl ?_
        refine jr_goto (t := 111) dX5_measureStay_101 (by decide) ?_
        refine jr_iast (n := 112) dX5_measureStay_111 rfl rfl (by decide) (by omega) (by omega) ?_
        refine jr_vret dX5_measureStay_112 rfl ?_
        have e : i = M 1 8 := by omega
        subst e
        unfold jfF jfU at h
        first
          | (rw [if_pos b97] at h; exact h)
          | (rw [if_neg b97] at h; exact h)
    · have hq := hb i h0 (by omega)
      have hq2 := hV.2.1 i h0 (by omega)
      refine jr_aload_n (n := 21) dX5_measureStay_20 rfl rfl ?_
      refine jr_iload (n := 23) dX5_measureStay_21 rfl rfl ?_
      refine jr_iload_n (n := 24) dX5_measureStay_23 rfl rfl ?_
      refine jr_cV2 (n := 27) (ci := 2) (ν := mX2_hasNeedOf) dX5_measureStay_24 rfl lX5_54 kX2_hasNeedOf iX2_hasNeedOf rfl ⟨_, rfl, rfl⟩ (by decide) (Nat.le_of_ble_eq_true rfl) (Nat.le_of_ble_eq_true rfl) rfl ?_
      refine c_hasNeedOf (by omega) (fun b24 => ?_) (fun b24 => ?_)
      all_goals rw [n13] at b24
      · refine jr_ifF_eq (n := 30) (t := 75) dX5_measureStay_27 rfl (by decide) (by decide) (by decide) ?_
        refine jr_iload (n := 32) dX5_measureStay_30 rfl rfl ?_
        refine jr_aload_n (n := 33) dX5_measureStay_32 rfl rfl ?_
        refine jr_iload (n := 35) dX5_measureStay_33 rfl rfl ?_
        refine jr_iload_n (n := 36) dX5_measureStay_35 rfl rfl ?_
        refine jr_cV2 (n := 39) (ci := 2) (ν := mX2_quarterFor) dX5_measureStay_36 rfl lX5_58 kX2_quarterFor iX2_quarterFor rfl ⟨_, rfl, rfl⟩ (by decide) (Nat.le_of_ble_eq_true rfl) (Nat.le_of_ble_eq_true rfl) rfl ?_
        refine c_quarterFor (by omega) (by omega) ?_
        rw [n15, ← jclC_at (M := M) (k := i) (v := v) (by omega) hv b24]
        have hca := jclC_0 hI i v
        refine jr_min (n := 42) dX5_measureStay_39 rfl lX5_62 (by omega) (by omega) (Nat.le_of_ble_eq_true rfl) ⟨Nat.le_add_left _ _, Nat.le_add_left _ _⟩ ⟨Nat.le_refl _, Nat.le_refl _⟩ ?_
        refine jr_istore4 (n := 44) dX5_measureStay_42 rfl (by decide) rfl ?_
        refine jr_iload (n := 46) dX5_measureStay_44 rfl rfl ?_
        refine jr_aload_n (n := 47) dX5_measureStay_46 rfl rfl ?_
        refine jr_getR (n := 50) dX5_measureStay_47 rfl fX5_67 rfl (by decide) (by decide) rfl ?_
        refine jr_iload (n := 52) dX5_measureStay_50 rfl rfl ?_
        refine jr_iald (n := 53) dX5_measureStay_52 rfl rfl (by decide) (by omega) (by omega) ?_
        rw [hq]
        refine jr_iconst (n := 54) dX5_measureStay_53 rfl ?_
        refine jr_icmp_ne (n := 57) (t := 63) dX5_measureStay_54 (by decide) rfl (by omega) (by omega) (fun b54 => ?_) (fun b54 => ?_)
        · refine jr_aload_n (n := 64) dX5_measureStay_63 rfl rfl ?_
          refine jr_getR (n := 67) dX5_measureStay_64 rfl fX5_67 rfl (by decide) (by decide) rfl ?_
          refine jr_iload (n := 69) dX5_measureStay_67 rfl rfl ?_
          refine jr_iald (n := 70) dX5_measureStay_69 rfl rfl (by decide) (by omega) (by omega) ?_
          rw [hq]
          refine jr_max (n := 73) dX5_measureStay_70 rfl lX5_72 (by omega) (by omega) (Nat.le_of_ble_eq_true rfl) ⟨Nat.le_add_left _ _, Nat.le_add_left _ _⟩ ⟨Nat.le_refl _, Nat.le_refl _⟩ ?_
          refine jr_istore5 (n := 75) dX5_measureStay_73 rfl (by decide) rfl ?_
          refine jr_iinc6 (n := 78) dX5_measureStay_75 rfl (by decide) rfl ?_
          refine jr_goto (t := 11) dX5_measureStay_78 (by decide) ?_
          have e1 := jfr_s (M 13) (jclC M) v h0
          have e2 := jla_s (M 13) σ v h0
          first
            | (rw [if_pos b24] at e1 e2
               unfold jto at e2
               first
                 | (rw [if_pos b54] at e2; rw [← e1, ← e2]; exact ih (i + 1) (by omega) (by omega) (by omega))
                 | (rw [if_neg b54] at e2; rw [← e1, ← e2]; exact ih (i + 1) (by omega) (by omega) (by omega)))
            | (rw [if_neg b24] at e1 e2; rw [← e1, ← e2]; exact ih (i + 1) (by omega) (by omega) (by omega))
        · refine jr_sipush (n := 60) dX5_measureStay_57 rfl (by decide) ?_
          refine jr_goto (t := 70) dX5_measureStay_60 (by decide) ?_
          refine jr_max (n := 73) dX5_measureStay_70 rfl lX5_72 (by omega) (by omega) (Nat.le_of_ble_eq_true rfl) ⟨Nat.le_add_left _ _, Nat.le_add_left _ _⟩ ⟨Nat.le_refl _, Nat.le_refl _⟩ ?_
          refine jr_istore5 (n := 75) dX5_measureStay_73 rfl (by decide) rfl ?_
          refine jr_iinc6 (n := 78) dX5_measureStay_75 rfl (by decide) rfl ?_
          refine jr_goto (t := 11) dX5_measureStay_78 (by decide) ?_
          have e1 := jfr_s (M 13) (jclC M) v h0
          have e2 := jla_s (M 13) σ v h0
          first
            | (rw [if_pos b24] at e1 e2
               unfold jto at e2
               first
                 | (rw [if_pos b54] at e2; rw [← e1, ← e2]; exact ih (i + 1) (by omega) (by omega) (by omega))
                 | (rw [if_neg b54] at e2; rw [← e1, ← e2]; exact ih (i + 1) (by omega) (by omega) (by omega)))
            | (rw [if_neg b24] at e1 e2; rw [← e1, ← e2]; exact ih (i + 1) (by omega) (by omega) (by omega))
      · refine jr_ifT_eq (t := 75) dX5_measureStay_27 (by decide) (by decide) (by decide) ?_
        refine jr_iinc6 (n := 78) dX5_measureStay_75 rfl (by decide) rfl ?_
        refine jr_goto (t := 11) dX5_measureStay_78 (by decide) ?_
        have e1 := jfr_s (M 13) (jclC M) v h0
        have e2 := jla_s (M 13) σ v h0
        first
          | (rw [if_pos b24] at e1 e2
             unfold jto at e2
             first
               | (rw [if_pos b54] at e2; rw [← e1, ← e2]; exact ih (i + 1) (by omega) (by omega) (by omega))
               | (rw [if_neg b54] at e2; rw [← e1, ← e2]; exact ih (i + 1) (by omega) (by omega) (by omega)))
          | (rw [if_neg b24] at e1 e2; rw [← e1, ← e2]; exact ih (i + 1) (by omega) (by omega) (by omega))

theorem c_measure {G : jG} {d : Nat} {M : jMem} {Q : Option Value → jMem → Prop} (hI : jK M) {N : jMem} {σ : jS} {v s m : Int} (hN : jFC M N) (hb : ∀ k, 0 ≤ k → k < 12 → N 22 k = σ.1 k) (hV : jIv (M 1 8) (M 16) (M 17) (M 13) s m σ) (hv : 0 ≤ v ∧ v < 10) (h : Q none (jup (jup N 29 v (jfF (M 1 8) (M 13) (jclC M) v)) 30 v (jfU (M 1 8) (M 13) (jclC M) σ v)))  : jN G mX5_measureStay (d + 2) [.ref (jad G 5), .ref (jad G 1), .ref (jad G 4), .int (jI v)] N Q := by
  show jM G mX5_measureStay (d + 2) 0 [.ref (jad G 5), .ref (jad G 1), .ref (jad G 4), .int (jI v), .null, .null, .null] [] N Q
  have hs := jn1 hI
  refine jr_sipush (n := 3) dX5_measureStay_0 rfl (by decide) ?_
  refine jr_istore4 (n := 5) dX5_measureStay_3 rfl (by decide) rfl ?_
  refine jr_iconst (n := 6) dX5_measureStay_5 rfl ?_
  refine jr_istore5 (n := 8) dX5_measureStay_6 rfl (by decide) rfl ?_
  refine jr_iconst (n := 9) dX5_measureStay_8 rfl ?_
  refine jr_istore6 (n := 11) dX5_measureStay_9 rfl (by decide) rfl ?_
  exact c_measure_l hI hN hb hV hv h ((M 1 8).toNat + 1) 0 (by omega) (by omega) (by omega)

theorem c_foes_l {G : jG} {d : Nat} {M : jMem} {Q : Option Value → jMem → Prop} (hI : jK M) {N : jMem} {F fU : Int → Int} {v : Int} (hv : 0 ≤ v ∧ v < 10) (hN : jFC M N) (h9 : ∀ u, 0 ≤ u → u ≤ v → N 29 u = F u ∧ N 30 u = fU u ∧ jR (F u) ∧ jR (fU u)) (h : ∀ N', (∀ a, a ≠ 31 → N' a = N a) → (∀ u, u ≠ v → N' 31 u = N 31 u) → (∀ x, 0 ≤ x → x < 32 → (jbit (N' 31 v) x ↔ (x < v ∧ F x ≤ fU v ∧ F v ≤ fU x ∧ jbit (M 20 x) v))) → Q none N')  : ∀ (f : Nat) (i : Int) (N' : jMem), 0 ≤ i → i ≤ v → (∀ a, a ≠ 31 → N' a = N a) → (∀ u, u ≠ v → N' 31 u = N 31 u) → (0 ≤ N' 31 v ∧ N' 31 v < 1024) → (∀ x, 0 ≤ x → x < 32 → (jbit (N' 31 v) x ↔ (x < i ∧ F x ≤ fU v ∧ F v ≤ fU x ∧ jbit (M 20 x) v))) → v - i < f → jM G mX5_findFoes (d + 2) 9 [.ref (jad G 5), .ref (jad G 2), .int (jI v), .int (jI i), .null] [] (N') Q := by
  intro f
  induction f with
  | zero =>
    intro i N' h0 h1 ha ho hr hx hf
    exact absurd hf (by omega)
  | succ f ih =>
    intro i N' h0 h1 ha ho hr hx hf
    have hz := jn1 hI
    have m29 := ha 29 (by decide)
    have m30 := ha 30 (by decide)
    have m20 : N' 20 = M 20 := (ha 20 (by decide)).trans (hN 20 (by decide) (by decide))
    have gv := h9 v hv.1 (by omega)
    have gi := h9 i h0 h1
    refine jr_iload_n (n := 10) dX5_findFoes_9 rfl rfl ?_
    refine jr_iload_n (n := 11) dX5_findFoes_10 rfl rfl ?_
    refine jr_icmp_ge (n := 14) (t := 83) dX5_findFoes_11 (by decide) rfl (by omega) (by omega) (fun b11 => ?_) (fun b11 => ?_)
    · refine jr_vret dX5_findFoes_83 rfl ?_
      have e : i = v := by omega
      subst e
      exact h N' ha ho hx
    · refine jr_aload_n (n := 15) dX5_findFoes_14 rfl rfl ?_
      refine jr_getR (n := 18) dX5_findFoes_15 rfl fX5_15 rfl (by decide) (by decide) rfl ?_
      refine jr_iload_n (n := 19) dX5_findFoes_18 rfl rfl ?_
      refine jr_iald (n := 20) dX5_findFoes_19 rfl rfl (by decide) (by omega) (by omega) ?_
      rw [m29, gi.1]
      refine jr_aload_n (n := 21) dX5_findFoes_20 rfl rfl ?_
      refine jr_getR (n := 24) dX5_findFoes_21 rfl fX5_18 rfl (by decide) (by decide) rfl ?_
      refine jr_iload_n (n := 25) dX5_findFoes_24 rfl rfl ?_
      refine jr_iald (n := 26) dX5_findFoes_25 rfl rfl (by decide) (by omega) (by omega) ?_
      rw [m30, gv.2.1]
      refine jr_icmp_gt (n := 29) (t := 48) dX5_findFoes_26 (by decide) rfl (by omega) (by omega) (fun b26 => ?_) (fun b26 => ?_)
      · refine jr_iconst (n := 49) dX5_findFoes_48 rfl ?_
        refine jr_istore4 (n := 51) dX5_findFoes_49 rfl (by decide) rfl ?_
        refine jr_iload (n := 53) dX5_findFoes_51 rfl rfl ?_
        refine jr_ifT_eq (t := 77) dX5_findFoes_53 (by decide) (by decide) (by decide) ?_
        refine jr_iinc3 (n := 80) dX5_findFoes_77 rfl (by decide) rfl ?_
        refine jr_goto (t := 9) dX5_findFoes_80 (by decide) ?_
        first
          | (refine jr_drop (ih (i + 1) _ (by omega) (by omega) (fun a q => by rw [← ha a q]; funext b; exact jup_ne q b) (fun u q => by rw [jup_off q]; exact ho u q) (by rw [jup_at]; exact jor_small hr.1 hr.2 h0 (by omega)) (fun x x0 x1 => ?_) (by omega)) ⟨Or.inr rfl, Or.inr rfl, Or.inr rfl, Or.inr rfl, Or.inl rfl, trivial⟩
             rw [jup_at, jbit_or h0 (by omega) x0 x1, hx x x0 x1]
             constructor
             · rintro (q | q)
               · exact ⟨by omega, q.2⟩
               · subst q; exact ⟨by omega, b26, b41, b59⟩
             · intro q
               by_cases e : x = i
               · exact Or.inr e
               · exact Or.inl ⟨by omega, q.2⟩)
          | (refine jr_drop (ih (i + 1) N' (by omega) (by omega) ha ho hr (fun x x0 x1 => ?_) (by omega)) ⟨Or.inr rfl, Or.inr rfl, Or.inr rfl, Or.inr rfl, Or.inl rfl, trivial⟩
             rw [hx x x0 x1]
             constructor
             · exact fun q => ⟨by omega, q.2⟩
             · intro q
               by_cases e : x = i
               · subst e; exfalso; first | exact b59 q.2.2.2 | omega
               · exact ⟨by omega, q.2⟩)
      · refine jr_aload_n (n := 30) dX5_findFoes_29 rfl rfl ?_
        refine jr_getR (n := 33) dX5_findFoes_30 rfl fX5_15 rfl (by decide) (by decide) rfl ?_
        refine jr_iload_n (n := 34) dX5_findFoes_33 rfl rfl ?_
        refine jr_iald (n := 35) dX5_findFoes_34 rfl rfl (by decide) (by omega) (by omega) ?_
        rw [m29, gv.1]
        refine jr_aload_n (n := 36) dX5_findFoes_35 rfl rfl ?_
        refine jr_getR (n := 39) dX5_findFoes_36 rfl fX5_18 rfl (by decide) (by decide) rfl ?_
        refine jr_iload_n (n := 40) dX5_findFoes_39 rfl rfl ?_
        refine jr_iald (n := 41) dX5_findFoes_40 rfl rfl (by decide) (by omega) (by omega) ?_
        rw [m30, gi.2.1]
        refine jr_icmp_gt (n := 44) (t := 48) dX5_findFoes_41 (by decide) rfl (by omega) (by omega) (fun b41 => ?_) (fun b41 => ?_)
        · refine jr_iconst (n := 49) dX5_findFoes_48 rfl ?_
          refine jr_istore4 (n := 51) dX5_findFoes_49 rfl (by decide) rfl ?_
          refine jr_iload (n := 53) dX5_findFoes_51 rfl rfl ?_
          refine jr_ifT_eq (t := 77) dX5_findFoes_53 (by decide) (by decide) (by decide) ?_
          refine jr_iinc3 (n := 80) dX5_findFoes_77 rfl (by decide) rfl ?_
          refine jr_goto (t := 9) dX5_findFoes_80 (by decide) ?_
          first
            | (refine jr_drop (ih (i + 1) _ (by omega) (by omega) (fun a q => by rw [← ha a q]; funext b; exact jup_ne q b) (fun u q => by rw [jup_off q]; exact ho u q) (by rw [jup_at]; exact jor_small hr.1 hr.2 h0 (by omega)) (fun x x0 x1 => ?_) (by omega)) ⟨Or.inr rfl, Or.inr rfl, Or.inr rfl, Or.inr rfl, Or.inl rfl, trivial⟩
               rw [jup_at, jbit_or h0 (by omega) x0 x1, hx x x0 x1]
               constructor
               · rintro (q | q)
                 · exact ⟨by omega, q.2⟩
                 · subst q; exact ⟨by omega, b26, b41, b59⟩
               · intro q
                 by_cases e : x = i
                 · exact Or.inr e
                 · exact Or.inl ⟨by omega, q.2⟩)
            | (refine jr_drop (ih (i + 1) N' (by omega) (by omega) ha ho hr (fun x x0 x1 => ?_) (by omega)) ⟨Or.inr rfl, Or.inr rfl, Or.inr rfl, Or.inr rfl, Or.inl rfl, trivial⟩
               rw [hx x x0 x1]
               constructor
               · exact fun q => ⟨by omega, q.2⟩
               · intro q
                 by_cases e : x = i
                 · subst e; exfalso; first | exact b59 q.2.2.2 | omega
                 · exact ⟨by omega, q.2⟩)
        · refine jr_iconst (n := 45) dX5_findFoes_44 rfl ?_
          refine jr_goto (t := 49) dX5_findFoes_45 (by decide) ?_
          refine jr_istore4 (n := 51) dX5_findFoes_49 rfl (by decide) rfl ?_
          refine jr_iload (n := 53) dX5_findFoes_51 rfl rfl ?_
          refine jr_ifF_eq (n := 56) (t := 77) dX5_findFoes_53 rfl (by decide) (by decide) (by decide) ?_
          refine jr_aload_n (n := 57) dX5_findFoes_56 rfl rfl ?_
          refine jr_iload_n (n := 58) dX5_findFoes_57 rfl rfl ?_
          refine jr_iload_n (n := 59) dX5_findFoes_58 rfl rfl ?_
          refine jr_cV2 (n := 62) (ci := 4) (ν := mX4_areApart) dX5_findFoes_59 rfl lX5_75 kX4_areApart iX4_areApart rfl ⟨_, rfl, rfl⟩ (by decide) (Nat.le_of_ble_eq_true rfl) (Nat.le_of_ble_eq_true rfl) rfl ?_
          refine c_areApart (by omega) (fun b59 => ?_) (fun b59 => ?_)
          all_goals rw [m20] at b59
          · refine jr_ifF_eq (n := 65) (t := 77) dX5_findFoes_62 rfl (by decide) (by decide) (by decide) ?_
            refine jr_aload_n (n := 66) dX5_findFoes_65 rfl rfl ?_
            refine jr_getR (n := 69) dX5_findFoes_66 rfl fX5_21 rfl (by decide) (by decide) rfl ?_
            refine jr_iload_n (n := 70) dX5_findFoes_69 rfl rfl ?_
            refine jr_dup2 (n := 71) dX5_findFoes_70 rfl rfl rfl ?_
            refine jr_iald (n := 72) dX5_findFoes_71 rfl rfl (by decide) (by omega) (by omega) ?_
            refine jr_iconst (n := 73) dX5_findFoes_72 rfl ?_
            refine jr_iload_n (n := 74) dX5_findFoes_73 rfl rfl ?_
            refine jr_ishl (n := 75) dX5_findFoes_74 rfl ?_
            refine jr_ior (n := 76) dX5_findFoes_75 rfl ?_
            refine jr_iast (n := 77) dX5_findFoes_76 rfl rfl (by decide) (by omega) (by omega) ?_
            refine jr_iinc3 (n := 80) dX5_findFoes_77 rfl (by decide) rfl ?_
            refine jr_goto (t := 9) dX5_findFoes_80 (by decide) ?_
            first
              | (refine jr_drop (ih (i + 1) _ (by omega) (by omega) (fun a q => by rw [← ha a q]; funext b; exact jup_ne q b) (fun u q => by rw [jup_off q]; exact ho u q) (by rw [jup_at]; exact jor_small hr.1 hr.2 h0 (by omega)) (fun x x0 x1 => ?_) (by omega)) ⟨Or.inr rfl, Or.inr rfl, Or.inr rfl, Or.inr rfl, Or.inl rfl, trivial⟩
                 rw [jup_at, jbit_or h0 (by omega) x0 x1, hx x x0 x1]
                 constructor
                 · rintro (q | q)
                   · exact ⟨by omega, q.2⟩
                   · subst q; exact ⟨by omega, b26, b41, b59⟩
                 · intro q
                   by_cases e : x = i
                   · exact Or.inr e
                   · exact Or.inl ⟨by omega, q.2⟩)
              | (refine jr_drop (ih (i + 1) N' (by omega) (by omega) ha ho hr (fun x x0 x1 => ?_) (by omega)) ⟨Or.inr rfl, Or.inr rfl, Or.inr rfl, Or.inr rfl, Or.inl rfl, trivial⟩
                 rw [hx x x0 x1]
                 constructor
                 · exact fun q => ⟨by omega, q.2⟩
                 · intro q
                   by_cases e : x = i
                   · subst e; exfalso; first | exact b59 q.2.2.2 | omega
                   · exact ⟨by omega, q.2⟩)
          · refine jr_ifT_eq (t := 77) dX5_findFoes_62 (by decide) (by decide) (by decide) ?_
            refine jr_iinc3 (n := 80) dX5_findFoes_77 rfl (by decide) rfl ?_
            refine jr_goto (t := 9) dX5_findFoes_80 (by decide) ?_
            first
              | (refine jr_drop (ih (i + 1) _ (by omega) (by omega) (fun a q => by rw [← ha a q]; funext b; exact jup_ne q b) (fun u q => by rw [jup_off q]; exact ho u q) (by rw [jup_at]; exact jor_small hr.1 hr.2 h0 (by omega)) (fun x x0 x1 => ?_) (by omega)) ⟨Or.inr rfl, Or.inr rfl, Or.inr rfl, Or.inr rfl, Or.inl rfl, trivial⟩
                 rw [jup_at, jbit_or h0 (by omega) x0 x1, hx x x0 x1]
                 constructor
                 · rintro (q | q)
                   · exact ⟨by omega, q.2⟩
                   · subst q; exact ⟨by omega, b26, b41, b59⟩
                 · intro q
                   by_cases e : x = i
                   · exact Or.inr e
                   · exact Or.inl ⟨by omega, q.2⟩)
              | (refine jr_drop (ih (i + 1) N' (by omega) (by omega) ha ho hr (fun x x0 x1 => ?_) (by omega)) ⟨Or.inr rfl, Or.inr rfl, Or.inr rfl, Or.inr rfl, Or.inl rfl, trivial⟩
                 rw [hx x x0 x1]
                 constructor
                 · exact fun q => ⟨by omega, q.2⟩
                 · intro q
                   by_cases e : x = i
                   · subst e; exfalso; first | exact b59 q.2.2.2 | omega
                   · exact ⟨by omega, q.2⟩)

theorem c_foes {G : jG} {d : Nat} {M : jMem} {Q : Option Value → jMem → Prop} (hI : jK M) {N : jMem} {F fU : Int → Int} {v : Int} (hv : 0 ≤ v ∧ v < 10) (hN : jFC M N) (h9 : ∀ u, 0 ≤ u → u ≤ v → N 29 u = F u ∧ N 30 u = fU u ∧ jR (F u) ∧ jR (fU u)) (h : ∀ N', (∀ a, a ≠ 31 → N' a = N a) → (∀ u, u ≠ v → N' 31 u = N 31 u) → (∀ x, 0 ≤ x → x < 32 → (jbit (N' 31 v) x ↔ (x < v ∧ F x ≤ fU v ∧ F v ≤ fU x ∧ jbit (M 20 x) v))) → Q none N')  : jN G mX5_findFoes (d + 2) [.ref (jad G 5), .ref (jad G 2), .int (jI v)] N Q := by
  show jM G mX5_findFoes (d + 2) 0 [.ref (jad G 5), .ref (jad G 2), .int (jI v), .null, .null] [] N Q
  refine jr_aload_n (n := 1) dX5_findFoes_0 rfl rfl ?_
  refine jr_getR (n := 4) dX5_findFoes_1 rfl fX5_21 rfl (by decide) (by decide) rfl ?_
  refine jr_iload_n (n := 5) dX5_findFoes_4 rfl rfl ?_
  refine jr_iconst (n := 6) dX5_findFoes_5 rfl ?_
  refine jr_iast (n := 7) dX5_findFoes_6 rfl rfl (by decide) (by omega) (by omega) ?_
  refine jr_iconst (n := 8) dX5_findFoes_7 rfl ?_
  refine jr_istore3 (n := 9) dX5_findFoes_8 rfl (by decide) rfl ?_
  refine c_foes_l hI hv hN h9 h (v.toNat + 1) 0 _ (by omega) (by omega) (fun a q => funext fun b => jup_ne q b) (fun u q => jup_off q) (by rw [jup_at]; omega) (fun x x0 x1 => ?_) (by omega)
  rw [jup_at]
  exact ⟨fun q => absurd q (jbit_0 x0 x1), fun q => absurd q.1 (by omega)⟩

theorem c_isFree {G : jG} {d : Nat} {M : jMem} {Q : Option Value → jMem → Prop} {z v : Int} (hz : 0 ≤ z ∧ z < 3) (hv : 0 ≤ v ∧ v < 10) (h1 : jand (M 32 z) (M 31 v) = 0 → Q (some (.int (jI 1))) M) (h0 : jand (M 32 z) (M 31 v) ≠ 0 → Q (some (.int (jI 0))) M) : jN G mX5_isFree (d) [.ref (jad G 5), .int (jI z), .int (jI v)] M Q := by
  show jM G mX5_isFree (d) 0 [.ref (jad G 5), .int (jI z), .int (jI v)] [] M Q
  refine jr_aload_n (n := 1) dX5_isFree_0 rfl rfl ?_
  refine jr_getR (n := 4) dX5_isFree_1 rfl fX5_24 rfl (by decide) (by decide) rfl ?_
  refine jr_iload_n (n := 5) dX5_isFree_4 rfl rfl ?_
  refine jr_iald (n := 6) dX5_isFree_5 rfl rfl (by decide) (by first | omega | exact jand_R _ _) (by first | omega | exact jand_R _ _) ?_
  refine jr_aload_n (n := 7) dX5_isFree_6 rfl rfl ?_
  refine jr_getR (n := 10) dX5_isFree_7 rfl fX5_21 rfl (by decide) (by decide) rfl ?_
  refine jr_iload_n (n := 11) dX5_isFree_10 rfl rfl ?_
  refine jr_iald (n := 12) dX5_isFree_11 rfl rfl (by decide) (by first | omega | exact jand_R _ _) (by first | omega | exact jand_R _ _) ?_
  refine jr_iand (n := 13) dX5_isFree_12 rfl ?_
  refine jr_if_ne (n := 16) (t := 20) dX5_isFree_13 (by decide) rfl (by first | omega | exact jand_R _ _) (fun b13 => ?_) (fun b13 => ?_)
  · refine jr_iconst (n := 21) dX5_isFree_20 rfl ?_
    refine jr_zret dX5_isFree_21 rfl (by decide) ?_
    first | exact h1 (by assumption) | exact h0 (by assumption)
  · refine jr_iconst (n := 17) dX5_isFree_16 rfl ?_
    refine jr_goto (t := 21) dX5_isFree_17 (by decide) ?_
    refine jr_zret dX5_isFree_21 rfl (by decide) ?_
    first | exact h1 (by assumption) | exact h0 (by assumption)

theorem c_enterR {G : jG} {d : Nat} {M : jMem} {Q : Option Value → jMem → Prop} {z v : Int} (hz : 0 ≤ z ∧ z < 3) (hv : 0 ≤ v ∧ v < 10) (h : Q none (jup (jup M 28 v z) 32 z (jor (M 32 z) (jshl 1 v)))) : jN G mX5_enter (d) [.ref (jad G 5), .int (jI z), .int (jI v)] M Q := by
  show jM G mX5_enter (d) 0 [.ref (jad G 5), .int (jI z), .int (jI v)] [] M Q
  refine jr_aload_n (n := 1) dX5_enter_0 rfl rfl ?_
  refine jr_getR (n := 4) dX5_enter_1 rfl fX5_9 rfl (by decide) (by decide) rfl ?_
  refine jr_iload_n (n := 5) dX5_enter_4 rfl rfl ?_
  refine jr_iload_n (n := 6) dX5_enter_5 rfl rfl ?_
  refine jr_iast (n := 7) dX5_enter_6 rfl rfl (by decide) (by omega) (by omega) ?_
  refine jr_aload_n (n := 8) dX5_enter_7 rfl rfl ?_
  refine jr_getR (n := 11) dX5_enter_8 rfl fX5_24 rfl (by decide) (by decide) rfl ?_
  refine jr_iload_n (n := 12) dX5_enter_11 rfl rfl ?_
  refine jr_dup2 (n := 13) dX5_enter_12 rfl rfl rfl ?_
  refine jr_iald (n := 14) dX5_enter_13 rfl rfl (by decide) (by omega) (by omega) ?_
  rw [jup_ne (show (32 : Nat) ≠ 28 by decide)]
  refine jr_iconst (n := 15) dX5_enter_14 rfl ?_
  refine jr_iload_n (n := 16) dX5_enter_15 rfl rfl ?_
  refine jr_ishl (n := 17) dX5_enter_16 rfl ?_
  refine jr_ior (n := 18) dX5_enter_17 rfl ?_
  refine jr_iast (n := 19) dX5_enter_18 rfl rfl (by decide) (by omega) (by omega) ?_
  refine jr_vret dX5_enter_19 rfl ?_
  exact h

theorem c_leaveR {G : jG} {d : Nat} {M : jMem} {Q : Option Value → jMem → Prop} {z v : Int} (hz : 0 ≤ z ∧ z < 3) (hv : 0 ≤ v ∧ v < 10) (h : Q none (jup (jup M 28 v (-1)) 32 z (jand (M 32 z) (jxor (jshl 1 v) (-1))))) : jN G mX5_leave (d) [.ref (jad G 5), .int (jI z), .int (jI v)] M Q := by
  show jM G mX5_leave (d) 0 [.ref (jad G 5), .int (jI z), .int (jI v)] [] M Q
  refine jr_aload_n (n := 1) dX5_leave_0 rfl rfl ?_
  refine jr_getR (n := 4) dX5_leave_1 rfl fX5_9 rfl (by decide) (by decide) rfl ?_
  refine jr_iload_n (n := 5) dX5_leave_4 rfl rfl ?_
  refine jr_iconst (n := 6) dX5_leave_5 rfl ?_
  refine jr_iast (n := 7) dX5_leave_6 rfl rfl (by decide) (by omega) (by omega) ?_
  refine jr_aload_n (n := 8) dX5_leave_7 rfl rfl ?_
  refine jr_getR (n := 11) dX5_leave_8 rfl fX5_24 rfl (by decide) (by decide) rfl ?_
  refine jr_iload_n (n := 12) dX5_leave_11 rfl rfl ?_
  refine jr_dup2 (n := 13) dX5_leave_12 rfl rfl rfl ?_
  refine jr_iald (n := 14) dX5_leave_13 rfl rfl (by decide) (by omega) (by omega) ?_
  rw [jup_ne (show (32 : Nat) ≠ 28 by decide)]
  refine jr_iconst (n := 15) dX5_leave_14 rfl ?_
  refine jr_iload_n (n := 16) dX5_leave_15 rfl rfl ?_
  refine jr_ishl (n := 17) dX5_leave_16 rfl ?_
  refine jr_iconst (n := 18) dX5_leave_17 rfl ?_
  refine jr_ixor (n := 19) dX5_leave_18 rfl ?_
  refine jr_iand (n := 20) dX5_leave_19 rfl ?_
  refine jr_iast (n := 21) dX5_leave_20 rfl rfl (by decide) (by omega) (by omega) ?_
  refine jr_vret dX5_leave_21 rfl ?_
  exact h

theorem jRm_in {fA : Int → Int} {N : jMem} {v z : Int} {rm : Int → Int} (h : jRm fA N v rm) (v0 : 0 ≤ v) (v1 : v < 10) (hv : 0 ≤ fA v) (z0 : 0 ≤ z) (z1 : z < 3) : jRm fA (jup (jup N 28 v z) 32 z (jor (N 32 z) (jshl 1 v))) (v + 1) (jfu rm v z) := by
  refine ⟨fun u u0 u1 => ?_, fun y y0 y1 u u0 u1 => ?_, fun u u0 u1 hu => ?_⟩
  · rw [jup_ne (by decide)]
    by_cases e : u = v
    · subst e; rw [jup_at, if_pos ⟨by omega, hv⟩, jfu_at]
    · rw [jup_off e, h.1 u u0 u1, jfu_off e]
      by_cases q : u < v ∧ 0 ≤ fA u
      · rw [if_pos q, if_pos ⟨by omega, q.2⟩]
      · rw [if_neg q, if_neg (fun r => q ⟨by omega, r.2⟩)]
  · by_cases e : y = z
    · subst e
      rw [jup_at, jbit_or v0 (by omega) u0 u1, h.2.1 y y0 y1 u u0 u1]
      by_cases e2 : u = v
      · subst e2; rw [jfu_at]; exact ⟨fun _ => ⟨by omega, hv, rfl⟩, fun _ => Or.inr rfl⟩
      · rw [jfu_off e2]; exact ⟨fun q => q.elim (fun q => ⟨by omega, q.2⟩) (fun q => absurd q e2), fun q => Or.inl ⟨by omega, q.2⟩⟩
    · rw [jup_off e, jup_ne (by decide), h.2.1 y y0 y1 u u0 u1]
      by_cases e2 : u = v
      · subst e2; rw [jfu_at]; exact ⟨fun q => absurd q.1 (by omega), fun q => absurd q.2.2 (fun r => e r.symm)⟩
      · rw [jfu_off e2]; exact ⟨fun q => ⟨by omega, q.2⟩, fun q => ⟨by omega, q.2⟩⟩
  · by_cases e : u = v
    · subst e; rw [jfu_at]; exact ⟨z0, z1⟩
    · rw [jfu_off e]; exact h.2.2 u u0 (by omega) hu
theorem jRm_out {fA : Int → Int} {N : jMem} {v z : Int} {rm : Int → Int} (h : jRm fA N (v + 1) (jfu rm v z)) (hr : ∀ u, 0 ≤ u → u < v → 0 ≤ fA u → 0 ≤ rm u ∧ rm u < 3) (v0 : 0 ≤ v) (v1 : v < 10) (z0 : 0 ≤ z) (z1 : z < 3) : jRm fA (jup (jup N 28 v (-1)) 32 z (jand (N 32 z) (jxor (jshl 1 v) (-1)))) v rm := by
  refine ⟨fun u u0 u1 => ?_, fun y y0 y1 u u0 u1 => ?_, hr⟩
  · rw [jup_ne (by decide)]
    by_cases e : u = v
    · subst e; rw [jup_at, if_neg (by omega)]
    · rw [jup_off e, h.1 u u0 u1, jfu_off e]
      by_cases q : u < v ∧ 0 ≤ fA u
      · rw [if_pos q, if_pos ⟨by omega, q.2⟩]
      · rw [if_neg q, if_neg (fun r => q ⟨by omega, r.2⟩)]
  · by_cases e : y = z
    · subst e
      rw [jup_at, jbit_andn v0 (by omega) u0 u1, h.2.1 y y0 y1 u u0 u1]
      by_cases e2 : u = v
      · subst e2; exact ⟨fun q => absurd rfl q.2, fun q => absurd q.1 (by omega)⟩
      · rw [jfu_off e2]; exact ⟨fun q => ⟨by omega, q.1.2⟩, fun q => ⟨⟨by omega, q.2⟩, e2⟩⟩
    · rw [jup_off e, jup_ne (by decide), h.2.1 y y0 y1 u u0 u1]
      by_cases e2 : u = v
      · subst e2; rw [jfu_at]; exact ⟨fun q => absurd q.2.2 (fun r => e r.symm), fun q => absurd q.1 (by omega)⟩
      · rw [jfu_off e2]; exact ⟨fun q => ⟨by omega, q.2⟩, fun q => ⟨by omega, q.2⟩⟩
theorem jRm_skip {fA : Int → Int} {N : jMem} {v : Int} {rm : Int → Int} (h : jRm fA N v rm) (hv : fA v < 0) : jRm fA N (v + 1) rm := by
  refine ⟨fun u u0 u1 => ?_, fun y y0 y1 u u0 u1 => ?_, fun u u0 u1 hu => ?_⟩
  · rw [h.1 u u0 u1]
    by_cases q : u < v ∧ 0 ≤ fA u
    · rw [if_pos q, if_pos ⟨by omega, q.2⟩]
    · have hne : ¬ (u < v + 1 ∧ 0 ≤ fA u) := by
        intro r
        have z : u ≠ v := by
          intro e
          rw [e] at r
          omega
        exact q ⟨by omega, r.2⟩
      first | rw [if_neg q, if_neg hne] | rw [if_neg hne, if_neg q]
  · rw [h.2.1 y y0 y1 u u0 u1]
    refine ⟨fun q => ⟨by omega, q.2⟩, fun q => ⟨?_, q.2⟩⟩
    have : u ≠ v := fun e => by { rw [e] at q; omega }
    omega
  · by_cases e : u = v
    · subst e; omega
    · exact h.2.2 u u0 (by omega) hu
theorem jRm_back {fA : Int → Int} {N : jMem} {v : Int} {rm : Int → Int} (h : jRm fA N (v + 1) rm) (hv : fA v < 0) : jRm fA N v rm := by
  refine ⟨fun u u0 u1 => ?_, fun y y0 y1 u u0 u1 => ?_, fun u u0 u1 hu => h.2.2 u u0 (by omega) hu⟩
  · rw [h.1 u u0 u1]
    by_cases q : u < v ∧ 0 ≤ fA u
    · rw [if_pos q, if_pos ⟨by omega, q.2⟩]
    · have hne : ¬ (u < v + 1 ∧ 0 ≤ fA u) := by
        intro r
        have z : u ≠ v := by
          intro e
          rw [e] at r
          omega
        exact q ⟨by omega, r.2⟩
      first | rw [if_neg q, if_neg hne] | rw [if_neg hne, if_neg q]
  · rw [h.2.1 y y0 y1 u u0 u1]
    refine ⟨fun q => ⟨?_, q.2⟩, fun q => ⟨by omega, q.2⟩⟩
    have : u ≠ v := fun e => by { rw [e] at q; omega }
    omega
theorem jrest.rf {N : jMem} : jrest N N := fun _ _ _ => rfl
theorem jrest.tr {A B C : jMem} (h : jrest A B) (g : jrest B C) : jrest A C := fun a q1 q2 => (g a q1 q2).trans (h a q1 q2)
theorem jrest.up {A B : jMem} (h : jrest A B) {k : Nat} {i v : Int} (hk : k = 28 ∨ k = 32) : jrest A (jup B k i v) := fun a q1 q2 => by
  rw [← h a q1 q2]; funext b; exact jup_ne (by omega) b
/-- free in the class's sense: nobody in the room whom one may not meet -/
theorem jfree {ki fA fU F ap : Int → Int} {N : jMem} {v z : Int} {rm : Int → Int} (hR : jRm fA N v rm) (z0 : 0 ≤ z) (z1 : z < 3) (v0 : 0 ≤ v) (v1 : v < 10) (hva : 0 ≤ fA v) (hF : ∀ u, 0 ≤ u → u ≤ v → 0 ≤ fA u → F u = fA u) (hsy : ∀ u, 0 ≤ u → u < 10 → (jbit (ap u) v ↔ jbit (ap v) u))
    (hfo : ∀ x, 0 ≤ x → x < 32 → (jbit (N 31 v) x ↔ (x < v ∧ F x ≤ fU v ∧ F v ≤ fU x ∧ jbit (ap x) v))) (hk : ki v = 4 → z = 2) : jand (N 32 z) (N 31 v) = 0 ↔ jok ki fA fU ap rm v z := by
  rw [jand_none]
  constructor
  · intro h
    refine ⟨hk, fun u u0 u1 q => ?_⟩
    refine h u u0 (by omega) ⟨(hR.2.1 z z0 z1 u u0 (by omega)).mpr ⟨u1, q.1, q.2.1⟩, (hfo u u0 (by omega)).mpr ⟨u1, ?_, ?_, (hsy u u0 (by omega)).mpr q.2.2.2.2⟩⟩
    · rw [hF u u0 (by omega) q.1]; exact q.2.2.1
    · rw [hF v v0 (by omega) hva]; exact q.2.2.2.1
  · intro h u u0 u1 q
    have a := (hR.2.1 z z0 z1 u u0 u1).mp q.1
    have b := (hfo u u0 u1).mp q.2
    refine h.2 u u0 a.1 ⟨a.2.1, a.2.2, ?_, ?_, (hsy u u0 (by omega)).mp b.2.2.2⟩
    · rw [← hF u u0 (by omega) a.2.1]; exact b.2.1
    · rw [← hF v v0 (by omega) hva]; exact b.2.2.1
theorem c_settle_l {G : jG} {M : jMem} (hI : jK M) {fA fU F : Int → Int} (hAU : ∀ u, 0 ≤ u → u < 10 → (fA u < 0 ↔ fU u = -1) ∧ jR (fU u)) (hFA : ∀ u, 0 ≤ u → u < 10 → 0 ≤ fA u → F u = fA u) {r : Nat} (IH : ∀ (d : Nat) (N : jMem) (rm : Int → Int) (Q : Option Value → jMem → Prop) (v : Int), v = M 2 3 - (r : Int) → 0 ≤ v → jFC M N → jFo (M 20) F fU N (M 2 3) → jRm fA N v rm → (∀ rm' N', jgr (M 2 3) (M 18) fA fU (M 20) r rm = some rm' → jRm fA N' (M 2 3) rm' → jrest N N' → Q (some (.int (jI 1))) N') → (∀ N', jgr (M 2 3) (M 18) fA fU (M 20) r rm = none → jRm fA N' v rm → jrest N N' → Q (some (.int (jI 0))) N') → jN G mX5_settle (d + r + 1) [.ref (jad G 5), .ref (jad G 2), .int (jI v)] N Q) {d : Nat} {Q : Option Value → jMem → Prop} {rm : Int → Int} {v a : Int} (hv : v = M 2 3 - ((r : Int) + 1)) (v0 : 0 ≤ v) (hva : 0 ≤ fA v) : ∀ (f : Nat) (z : Int) (N : jMem), 0 ≤ z → z ≤ 3 → (M 18 v = 4 → 2 ≤ z) → jFC M N → jFo (M 20) F fU N (M 2 3) → jRm fA N v rm → (∀ rm' N', jtry (M 18) fA fU (M 20) (jgr (M 2 3) (M 18) fA fU (M 20) r) v rm f z = some rm' → jRm fA N' (M 2 3) rm' → jrest N N' → Q (some (.int (jI 1))) N') → (∀ N', jtry (M 18) fA fU (M 20) (jgr (M 2 3) (M 18) fA fU (M 20) r) v rm f z = none → jRm fA N' v rm → jrest N N' → Q (some (.int (jI 0))) N') → 3 - z = f → jM G mX5_settle (d + r + 1 + 1) 48 [.ref (jad G 5), .ref (jad G 2), .int (jI v), .int (jI a), .int (jI z)] [] N Q := by
  have hs := jn1 hI
  have hv10 : v < 10 := by omega
  have hsy : ∀ u, 0 ≤ u → u < 10 → (jbit (M 20 u) v ↔ jbit (M 20 v) u) := fun u u0 u1 => (jn16 hI u v u0 u1 v0 hv10).1
  intro f
  induction f with
  | zero =>
    intro z N z0 z1 hk hN hF hR h1 h0 hf
    refine jr_iload (n := 50) dX5_settle_48 rfl rfl ?_
    refine jr_iconst (n := 51) dX5_settle_50 rfl ?_
    refine jr_icmp_ge (n := 54) (t := 97) dX5_settle_51 (by decide) rfl (by omega) (by omega) (fun b51 => ?_) (fun b51 => ?_)
    · refine jr_iconst (n := 98) dX5_settle_97 rfl ?_
      refine jr_zret dX5_settle_98 rfl (by decide) ?_
      exact h0 N rfl hR jrest.rf
    · exact absurd b51 (by omega)
  | succ f ih =>
    intro z N z0 z1 hk hN hF hR h1 h0 hf
    have hfo := (hF v v0 (by omega)).2.2
    have hfree := jfree (ki := M 18) hR z0 (by omega) v0 hv10 hva (fun u u0 u1 => hFA u u0 (by omega)) hsy hfo (fun q => by have := hk q; omega)
    refine jr_iload (n := 50) dX5_settle_48 rfl rfl ?_
    refine jr_iconst (n := 51) dX5_settle_50 rfl ?_
    refine jr_icmp_ge (n := 54) (t := 97) dX5_settle_51 (by decide) rfl (by omega) (by omega) (fun b51 => ?_) (fun b51 => ?_)
    · exact absurd b51 (by omega)
    · refine jr_aload_n (n := 55) dX5_settle_54 rfl rfl ?_
      refine jr_iload (n := 57) dX5_settle_55 rfl rfl ?_
      refine jr_iload_n (n := 58) dX5_settle_57 rfl rfl ?_
      refine jr_cV2 (n := 61) (ci := 5) (ν := mX5_isFree) dX5_settle_58 rfl lX5_81 kX5_isFree iX5_isFree rfl ⟨_, rfl, rfl⟩ (by decide) (Nat.le_of_ble_eq_true rfl) (Nat.le_of_ble_eq_true rfl) rfl ?_
      refine c_isFree (by omega) (by omega) (fun b58 => ?_) (fun b58 => ?_)
      · refine jr_ifF_eq (n := 64) (t := 91) dX5_settle_61 rfl (by decide) (by decide) (by decide) ?_
        refine jr_aload_n (n := 65) dX5_settle_64 rfl rfl ?_
        refine jr_iload (n := 67) dX5_settle_65 rfl rfl ?_
        refine jr_iload_n (n := 68) dX5_settle_67 rfl rfl ?_
        refine jr_cV2 (n := 71) (ci := 5) (ν := mX5_enter) dX5_settle_68 rfl lX5_84 kX5_enter iX5_enter rfl ⟨_, rfl, rfl⟩ (by decide) (Nat.le_of_ble_eq_true rfl) (Nat.le_of_ble_eq_true rfl) rfl ?_
        have hok := hfree.mp b58
        have hE := jRm_in hR v0 hv10 hva z0 (by omega)
        have hU : jrest N (jup (jup N 28 v z) 32 z (jor (N 32 z) (jshl 1 v))) := (jrest.rf.up (Or.inl rfl)).up (Or.inr rfl)
        refine c_enterR (by omega) (by omega) ?_
        unfold jtry at h1 h0
        rw [if_pos hok] at h1 h0
        refine jr_aload_n (n := 72) dX5_settle_71 rfl rfl ?_
        refine jr_aload_n (n := 73) dX5_settle_72 rfl rfl ?_
        refine jr_iload_n (n := 74) dX5_settle_73 rfl rfl ?_
        refine jr_iconst (n := 75) dX5_settle_74 rfl ?_
        refine jr_iadd (n := 76) dX5_settle_75 rfl ?_
        refine jr_cS3 (n := 79) (ν := mX5_settle) dX5_settle_76 rfl lX5_47 kX5_settle iX5_settle (Nat.le_of_ble_eq_true rfl) (Nat.le_of_ble_eq_true rfl) rfl ?_
        refine IH d _ (jfu rm v z) _ (v + 1) (by omega) (by omega) ((hN.up (by decide)).up (by decide)) (fun u u0 u1 => by rw [hU 29 (by decide) (by decide), hU 30 (by decide) (by decide), hU 31 (by decide) (by decide)]; exact hF u u0 u1) hE (fun rm' N' hg hR' hr' => ?_) (fun N' hg hR' hr' => ?_)
        · refine jr_ifF_eq (n := 82) (t := 84) dX5_settle_79 rfl (by decide) (by decide) (by decide) ?_
          refine jr_iconst (n := 83) dX5_settle_82 rfl ?_
          refine jr_zret dX5_settle_83 rfl (by decide) ?_
          exact h1 rm' N' (by rw [hg]; rfl) hR' (hU.tr hr')
        · refine jr_ifT_eq (t := 84) dX5_settle_79 (by decide) (by decide) (by decide) ?_
          refine jr_aload_n (n := 85) dX5_settle_84 rfl rfl ?_
          refine jr_iload (n := 87) dX5_settle_85 rfl rfl ?_
          refine jr_iload_n (n := 88) dX5_settle_87 rfl rfl ?_
          refine jr_cV2 (n := 91) (ci := 5) (ν := mX5_leave) dX5_settle_88 rfl lX5_88 kX5_leave iX5_leave rfl ⟨_, rfl, rfl⟩ (by decide) (Nat.le_of_ble_eq_true rfl) (Nat.le_of_ble_eq_true rfl) rfl ?_
          rw [hg] at h1 h0
          have hO := jRm_out hR' hR.2.2 v0 hv10 z0 (by omega)
          have hU2 : jrest N (jup (jup N' 28 v (-1)) 32 z (jand (N' 32 z) (jxor (jshl 1 v) (-1)))) := ((hU.tr hr').up (Or.inl rfl)).up (Or.inr rfl)
          refine c_leaveR (by omega) (by omega) ?_
          refine jr_iinc4 (n := 94) dX5_settle_91 rfl (by decide) rfl ?_
          refine jr_goto (t := 48) dX5_settle_94 (by decide) ?_
          first
            | exact ih (z + 1) _ (by omega) (by omega) (fun q => by have := hk q; omega) (fun a q1 q2 => by
                rw [← hN a q1 q2]; exact hU2 a (by omega) (by omega)) (fun u u0 u1 => by
                rw [hU2 29 (by decide) (by decide), hU2 30 (by decide) (by decide), hU2 31 (by decide) (by decide)]; exact hF u u0 u1) hO (fun rm2 N2 g2 r2 s2 => h1 rm2 N2 g2 r2 (hU2.tr s2)) (fun N2 g2 r2 s2 => h0 N2 g2 r2 (hU2.tr s2)) (by omega)
            | (unfold jtry at h1 h0
               rw [if_neg (fun q => b58 (hfree.mpr q))] at h1 h0
               exact ih (z + 1) N (by omega) (by omega) (fun q => by have := hk q; omega) hN hF hR h1 h0 (by omega))
      · refine jr_ifT_eq (t := 91) dX5_settle_61 (by decide) (by decide) (by decide) ?_
        refine jr_iinc4 (n := 94) dX5_settle_91 rfl (by decide) rfl ?_
        refine jr_goto (t := 48) dX5_settle_94 (by decide) ?_
        first
          | exact ih (z + 1) _ (by omega) (by omega) (fun q => by have := hk q; omega) (fun a q1 q2 => by
              rw [← hN a q1 q2]; exact hU2 a (by omega) (by omega)) (fun u u0 u1 => by
              rw [hU2 29 (by decide) (by decide), hU2 30 (by decide) (by decide), hU2 31 (by decide) (by decide)]; exact hF u u0 u1) hO (fun rm2 N2 g2 r2 s2 => h1 rm2 N2 g2 r2 (hU2.tr s2)) (fun N2 g2 r2 s2 => h0 N2 g2 r2 (hU2.tr s2)) (by omega)
          | (unfold jtry at h1 h0
             rw [if_neg (fun q => b58 (hfree.mpr q))] at h1 h0
             exact ih (z + 1) N (by omega) (by omega) (fun q => by have := hk q; omega) hN hF hR h1 h0 (by omega))

theorem c_settle {G : jG} {M : jMem} (hI : jK M) {fA fU F : Int → Int} (hAU : ∀ u, 0 ≤ u → u < 10 → (fA u < 0 ↔ fU u = -1) ∧ jR (fU u)) (hFA : ∀ u, 0 ≤ u → u < 10 → 0 ≤ fA u → F u = fA u) : ∀ (r : Nat), ∀ (d : Nat) (N : jMem) (rm : Int → Int) (Q : Option Value → jMem → Prop) (v : Int), v = M 2 3 - (r : Int) → 0 ≤ v → jFC M N → jFo (M 20) F fU N (M 2 3) → jRm fA N v rm → (∀ rm' N', jgr (M 2 3) (M 18) fA fU (M 20) r rm = some rm' → jRm fA N' (M 2 3) rm' → jrest N N' → Q (some (.int (jI 1))) N') → (∀ N', jgr (M 2 3) (M 18) fA fU (M 20) r rm = none → jRm fA N' v rm → jrest N N' → Q (some (.int (jI 0))) N') → jN G mX5_settle (d + r + 1) [.ref (jad G 5), .ref (jad G 2), .int (jI v)] N Q
  | 0, d, N, rm, Q, v, hv, v0, hN, hF, hR, h1, h0 => by
    show jM G mX5_settle (d + 0 + 1) 0 [.ref (jad G 5), .ref (jad G 2), .int (jI v), .null, .null] [] N Q
    have hs := jn1 hI
    have n2 := congrFun (hN 2 (by decide) (by decide)) 3
    refine jr_iload_n (n := 1) dX5_settle_0 rfl rfl ?_
    refine jr_aload_n (n := 2) dX5_settle_1 rfl rfl ?_
    refine jr_getI (n := 5) (i := 3) rfl dX5_settle_2 rfl fX5_33 rfl (by decide) (by decide) rfl ?_
    rw [n2]
    refine jr_icmp_lt (n := 8) (t := 10) dX5_settle_5 (by decide) rfl (by omega) (by omega) (fun b5 => ?_) (fun b5 => ?_)
    · exact absurd b5 (by omega)
    · refine jr_iconst (n := 9) dX5_settle_8 rfl ?_
      refine jr_zret dX5_settle_9 rfl (by decide) ?_
      have e : v = M 2 3 := by omega
      subst e
      exact h1 rm N rfl hR jrest.rf
  | r + 1, d, N, rm, Q, v, hv, v0, hN, hF, hR, h1, h0 => by
    show jM G mX5_settle (d + r + 1 + 1) 0 [.ref (jad G 5), .ref (jad G 2), .int (jI v), .null, .null] [] N Q
    have hs := jn1 hI
    have n2 := congrFun (hN 2 (by decide) (by decide)) 3
    have n18 := hN 18 (by decide) (by decide)
    have hv' : v = M 2 3 - ((r : Int) + 1) := by omega
    have hau := hAU v v0 (by omega)
    have hku := (jn9 hI v v0 (by omega)).1
    unfold jgr at h1 h0
    rw [← hv'] at h1 h0
    refine jr_iload_n (n := 1) dX5_settle_0 rfl rfl ?_
    refine jr_aload_n (n := 2) dX5_settle_1 rfl rfl ?_
    refine jr_getI (n := 5) (i := 3) rfl dX5_settle_2 rfl fX5_33 rfl (by decide) (by decide) rfl ?_
    rw [n2]
    refine jr_icmp_lt (n := 8) (t := 10) dX5_settle_5 (by decide) rfl (by omega) (by omega) (fun b5 => ?_) (fun b5 => ?_)
    · refine jr_aload_n (n := 11) dX5_settle_10 rfl rfl ?_
      refine jr_getR (n := 14) dX5_settle_11 rfl fX5_18 rfl (by decide) (by decide) rfl ?_
      refine jr_iload_n (n := 15) dX5_settle_14 rfl rfl ?_
      refine jr_iald (n := 16) dX5_settle_15 rfl rfl (by decide) (by omega) (by omega) ?_
      rw [(hF v v0 (by omega)).2.1]
      refine jr_iconst (n := 17) dX5_settle_16 rfl ?_
      refine jr_icmp_ne (n := 20) (t := 29) dX5_settle_17 (by decide) rfl (by omega) (by omega) (fun b17 => ?_) (fun b17 => ?_)
      · refine jr_aload_n (n := 30) dX5_settle_29 rfl rfl ?_
        refine jr_getR (n := 33) dX5_settle_30 rfl fX5_78 rfl (by decide) (by decide) rfl ?_
        refine jr_iload_n (n := 34) dX5_settle_33 rfl rfl ?_
        refine jr_iald (n := 35) dX5_settle_34 rfl rfl (by decide) (by omega) (by omega) ?_
        rw [n18]
        refine jr_iconst (n := 36) dX5_settle_35 rfl ?_
        refine jr_icmp_ne (n := 39) (t := 43) dX5_settle_36 (by decide) rfl (by omega) (by omega) (fun b36 => ?_) (fun b36 => ?_)
        · refine jr_iconst (n := 44) dX5_settle_43 rfl ?_
          refine jr_istore3 (n := 45) dX5_settle_44 rfl (by decide) rfl ?_
          refine jr_iload_n (n := 46) dX5_settle_45 rfl rfl ?_
          refine jr_istore4 (n := 48) dX5_settle_46 rfl (by decide) rfl ?_
          rw [if_neg (by omega)] at h1 h0
          exact c_settle_l hI hAU hFA (fun d N rm Q v => c_settle hI hAU hFA r d N rm Q v) hv' v0 (by omega) 3 0 N (by omega) (by omega) (fun q => absurd q (by omega)) hN hF hR h1 h0 (by omega)
        · refine jr_iconst (n := 40) dX5_settle_39 rfl ?_
          refine jr_goto (t := 44) dX5_settle_40 (by decide) ?_
          refine jr_istore3 (n := 45) dX5_settle_44 rfl (by decide) rfl ?_
          refine jr_iload_n (n := 46) dX5_settle_45 rfl rfl ?_
          refine jr_istore4 (n := 48) dX5_settle_46 rfl (by decide) rfl ?_
          rw [if_neg (by omega), jtry_skip (by omega) (by omega), show (0 : Int) + 1 = 1 from rfl, jtry_skip (by omega) (by omega), show (1 : Int) + 1 = 2 from rfl] at h1 h0
          exact c_settle_l hI hAU hFA (fun d N rm Q v => c_settle hI hAU hFA r d N rm Q v) hv' v0 (by omega) 1 2 N (by omega) (by omega) (fun _ => by omega) hN hF hR h1 h0 (by omega)
      · refine jr_aload_n (n := 21) dX5_settle_20 rfl rfl ?_
        refine jr_aload_n (n := 22) dX5_settle_21 rfl rfl ?_
        refine jr_iload_n (n := 23) dX5_settle_22 rfl rfl ?_
        refine jr_iconst (n := 24) dX5_settle_23 rfl ?_
        refine jr_iadd (n := 25) dX5_settle_24 rfl ?_
        refine jr_cS3 (n := 28) (ν := mX5_settle) dX5_settle_25 rfl lX5_47 kX5_settle iX5_settle (Nat.le_of_ble_eq_true rfl) (Nat.le_of_ble_eq_true rfl) rfl ?_
        rw [if_pos (by omega)] at h1 h0
        refine c_settle hI hAU hFA r d N rm _ (v + 1) (by omega) (by omega) hN hF (jRm_skip hR (by omega)) (fun rm' N' hg hR' hr' => ?_) (fun N' hg hR' hr' => ?_)
        · refine jr_zret dX5_settle_28 rfl (by decide) ?_
          exact h1 rm' N' hg hR' hr'
        · refine jr_zret dX5_settle_28 rfl (by decide) ?_
          exact h0 N' hg (jRm_back hR' (by omega)) hr'
    · exact absurd b5 (by omega)

