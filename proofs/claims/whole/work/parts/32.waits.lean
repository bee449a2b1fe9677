theorem jsum_add (f g : Int → Int) : ∀ n : Nat, jsum (fun i => f i + g i) n = jsum f n + jsum g n
  | 0 => rfl
  | n + 1 => by
    show jsum (fun i => f i + g i) n + (f n + g n) = jsum f n + f n + (jsum g n + g n)
    rw [jsum_add f g n]; omega
theorem jsum_sub (f g : Int → Int) : ∀ n : Nat, jsum (fun i => f i - g i) n = jsum f n - jsum g n
  | 0 => rfl
  | n + 1 => by
    show jsum (fun i => f i - g i) n + (f n - g n) = jsum f n + f n - (jsum g n + g n)
    rw [jsum_sub f g n]; omega
theorem jsum_0 : ∀ n : Nat, jsum (fun _ => 0) n = 0
  | 0 => rfl
  | n + 1 => by show jsum (fun _ => 0) n + 0 = 0; rw [jsum_0 n]; rfl
theorem jsum_1 : ∀ n : Nat, jsum (fun _ => 1) n = n
  | 0 => rfl
  | n + 1 => by show jsum (fun _ => 1) n + 1 = ((n + 1 : Nat) : Int); rw [jsum_1 n]; omega
theorem jsum_swap (F : Int → Int → Int) (T : Nat) : ∀ n : Nat, jsum (fun t => jsum (fun j => F j t) n) T = jsum (fun j => jsum (fun t => F j t) T) n
  | 0 => jsum_0 T
  | n + 1 => by
    show jsum (fun t => jsum (fun j => F j t) n + F n t) T = jsum (fun j => jsum (fun t => F j t) T) n + jsum (fun t => F n t) T
    rw [jsum_add, jsum_swap F T n]
theorem jiv_sum {a b e : Int} (h : b ≤ e) : ∀ T : Nat, jsum (fun i => if b ≤ a + i ∧ a + i < e then 1 else 0) T = max 0 (min (a + T) e - max a b)
  | 0 => by
    show (0 : Int) = max 0 (min (a + ((0 : Nat) : Int)) e - max a b)
    omega
  | T + 1 => by
    show jsum (fun i => if b ≤ a + i ∧ a + i < e then 1 else 0) T + (if b ≤ a + (T : Int) ∧ a + (T : Int) < e then 1 else 0) = max 0 (min (a + ((T + 1 : Nat) : Int)) e - max a b)
    rw [jiv_sum h T]
    split <;> omega
theorem jsum_one {g : Int → Int} : ∀ n : Nat, (∀ j : Int, 0 ≤ j → j < n → g j = 0 ∨ g j = 1) → (∀ i j : Int, 0 ≤ i → i < n → 0 ≤ j → j < n → g i = 1 → g j = 1 → i = j) → ((∃ j : Int, 0 ≤ j ∧ j < n ∧ g j = 1) → jsum g n = 1) ∧ ((¬ ∃ j : Int, 0 ≤ j ∧ j < n ∧ g j = 1) → jsum g n = 0)
  | 0, _, _ => ⟨fun ⟨j, j0, j1, _⟩ => absurd j1 (by omega), fun _ => rfl⟩
  | n + 1, h1, h2 => by
    have ih := jsum_one n (fun j j0 j1 => h1 j j0 (by omega)) (fun i j i0 i1 j0 j1 => h2 i j i0 (by omega) j0 (by omega))
    constructor
    · rintro ⟨j, j0, j1, j2⟩
      show jsum g n + g n = 1
      by_cases e : j = n
      · rw [e] at j2
        rw [j2, ih.2 (fun ⟨i, i0, i1, i2⟩ => by have := h2 i n i0 (by omega) (by omega) (by omega) i2 j2; omega)]
        rfl
      · rw [ih.1 ⟨j, j0, by omega, j2⟩]
        rcases h1 n (by omega) (by omega) with q | q
        · rw [q]; rfl
        · have := h2 j n j0 j1 (by omega) (by omega) j2 q; omega
    · intro hn
      show jsum g n + g n = 0
      rw [ih.2 (fun ⟨i, i0, i1, i2⟩ => hn ⟨i, i0, by omega, i2⟩)]
      rcases h1 n (by omega) (by omega) with q | q
      · rw [q]; rfl
      · exact absurd ⟨n, by omega, by omega, q⟩ hn
def jto (σ : jS) (k : Int) : Int := if σ.1 k = -1 then 200 else σ.1 k
noncomputable def jbz (n : Int) (ne : Int → Int) (σ : jS) (v k t : Int) : Int := @ite Int (jBy n ne σ v t k) (Classical.propDecidable _) 0 1
noncomputable def jwc (n : Int) (ne : Int → Int) (σ : jS) (v k a : Int) : Int := jsum (fun i => jbz n ne σ v k (a + i)) (jto σ k - a).toNat
noncomputable def jwn (n : Int) (ne : Int → Int) (cl : Int → Int → Int) (σ : jS) (v : Int) : Int → Int := fun k => if jbit (ne k) v then jwc n ne σ v k (cl k v) else 0
noncomputable def jwo (n : Int) (ne : Int → Int) (cl : Int → Int → Int) (σ : jS) (v : Int) : Int := jsum (jwn n ne cl σ v) n.toNat
def jhn (ne fa : Int → Int) (σ : jS) (v : Int) : Int → Int := fun k => if jbit (ne k) v ∧ σ.1 k ≠ -1 ∧ fa k ≠ 0 then 1 else 0
def jov (ne : Int → Int) (σ : jS) (v k a z : Int) : Int → Int := fun j => if j ≠ k ∧ σ.1 j ≠ -1 ∧ jbit (ne j) v then max 0 (min z (σ.2.1 j) - max a (σ.1 j)) else 0
section JW
variable {n p : Int} {li ls ne fa le : Int → Int} {cl : Int → Int → Int}
theorem jwc_eq {s m : Int} {σ : jS} (hn : 0 ≤ n) (h : jIv n li ls ne s m σ) {v k a z : Int} (v0 : 0 ≤ v) (v1 : v < 10) (hz : z = jto σ k) (ha : a < z) : jwc n ne σ v k a = z - a - jsum (jov ne σ v k a z) n.toNat := by
  have e1 : ∀ t, jbz n ne σ v k t = 1 - jsum (fun j => if (j ≠ k ∧ σ.1 j ≠ -1 ∧ jbit (ne j) v) ∧ σ.1 j ≤ t ∧ t < σ.2.1 j then 1 else 0) n.toNat := by
    intro t
    have o := jsum_one (g := fun j => if (j ≠ k ∧ σ.1 j ≠ -1 ∧ jbit (ne j) v) ∧ σ.1 j ≤ t ∧ t < σ.2.1 j then 1 else 0) n.toNat (fun j _ _ => by split <;> omega) (fun i j i0 i1 j0 j1 hi hj => by
      by_cases qi : (i ≠ k ∧ σ.1 i ≠ -1 ∧ jbit (ne i) v) ∧ σ.1 i ≤ t ∧ t < σ.2.1 i
      · by_cases qj : (j ≠ k ∧ σ.1 j ≠ -1 ∧ jbit (ne j) v) ∧ σ.1 j ≤ t ∧ t < σ.2.1 j
        · by_cases e : i = j
          · exact e
          · have bi := h.2.1 i i0 (by omega)
            have bj := h.2.1 j j0 (by omega)
            have := h.2.2.2.2.1 i j v i0 (by omega) j0 (by omega) e v0 v1 qi.1.2.2 qj.1.2.2 (by omega) (by omega) (by omega) (by omega)
            omega
        · rw [if_neg qj] at hj; omega
      · rw [if_neg qi] at hi; omega)
    unfold jbz
    by_cases q : jBy n ne σ v t k
    · rw [if_pos q]
      obtain ⟨j, j0, j1, j2, j3, j4⟩ := q
      rw [o.1 ⟨j, j0, by omega, by exact if_pos ⟨⟨j2, by have := j4.1; omega, j3⟩, j4.2⟩⟩]
      rfl
    · rw [if_neg q, o.2 (fun ⟨j, j0, j1, j2⟩ => by
        by_cases z : (j ≠ k ∧ σ.1 j ≠ -1 ∧ jbit (ne j) v) ∧ σ.1 j ≤ t ∧ t < σ.2.1 j
        · have := h.2.1 j j0 (by omega)
          exact q ⟨j, j0, by omega, z.1.1, z.1.2.2, by omega, z.2⟩
        · rw [if_neg z] at j2; omega)]
      rfl
  unfold jwc
  rw [← hz, jsum_congr (f := fun i => jbz n ne σ v k (a + i)) (g := fun i => 1 - jsum (fun j => if (j ≠ k ∧ σ.1 j ≠ -1 ∧ jbit (ne j) v) ∧ σ.1 j ≤ a + i ∧ a + i < σ.2.1 j then 1 else 0) n.toNat) _ (fun i _ _ => e1 (a + i))]
  rw [jsum_sub (fun _ => 1), jsum_1, jsum_swap (fun j t => if (j ≠ k ∧ σ.1 j ≠ -1 ∧ jbit (ne j) v) ∧ σ.1 j ≤ a + t ∧ a + t < σ.2.1 j then 1 else 0)]
  rw [jsum_congr (f := fun j => jsum (fun t => if (j ≠ k ∧ σ.1 j ≠ -1 ∧ jbit (ne j) v) ∧ σ.1 j ≤ a + t ∧ a + t < σ.2.1 j then 1 else 0) (z - a).toNat) (g := jov ne σ v k a z) n.toNat (fun j j0 j1 => ?_)]
  · omega
  · unfold jov
    by_cases q : j ≠ k ∧ σ.1 j ≠ -1 ∧ jbit (ne j) v
    · rw [if_pos q]
      have := h.2.1 j j0 (by omega)
      have e := jiv_sum (a := a) (b := σ.1 j) (e := σ.2.1 j) (by omega) (z - a).toNat
      rw [show a + (((z - a).toNat : Nat) : Int) = z by omega] at e
      rw [← e]
      apply jsum_congr
      intro i _ _
      by_cases y : σ.1 j ≤ a + i ∧ a + i < σ.2.1 j
      · rw [if_pos ⟨q, y⟩, if_pos y]
      · rw [if_neg (fun w => y w.2), if_neg y]
    · rw [if_neg q]
      rw [jsum_congr (g := fun _ => 0) _ (fun i _ _ => if_neg (fun w => q w.1)), jsum_0]
theorem jwc_b {s m : Int} {σ : jS} (h : jIv n li ls ne s m σ) {v k a : Int} (k0 : 0 ≤ k) (k1 : k < n) (a0 : 0 ≤ a) : 0 ≤ jwc n ne σ v k a ∧ jwc n ne σ v k a ≤ 200 := by
  have hk := h.2.1 k k0 k1
  have := jsum_b (f := fun i => jbz n ne σ v k (a + i)) (c := 1) (jto σ k - a).toNat (fun i _ _ => by unfold jbz; split <;> omega)
  have : jto σ k ≤ 200 := by unfold jto; split <;> omega
  unfold jwc
  omega
theorem jwn_b {s m : Int} {σ : jS} (h : jIv n li ls ne s m σ) (hc : ∀ k u, 0 ≤ cl k u) {v : Int} {i : Nat} (hi : (i : Int) ≤ n) : 0 ≤ jsum (jwn n ne cl σ v) i ∧ jsum (jwn n ne cl σ v) i ≤ 200 * i :=
  jsum_b i (fun k k0 k1 => by
    unfold jwn
    have := jwc_b h (v := v) (k := k) (a := cl k v) k0 (by omega) (hc k v)
    split <;> omega)
theorem jhn_b (σ : jS) (v : Int) (i : Nat) : 0 ≤ jsum (jhn ne fa σ v) i ∧ jsum (jhn ne fa σ v) i ≤ i := by
  have := jsum_b (f := jhn ne fa σ v) (c := 1) i (fun k _ _ => by unfold jhn; split <;> omega)
  omega
end JW
theorem jclC_0 {M : jMem} (h : jK M) (k v : Int) : 0 ≤ jclC M k v ∧ jclC M k v ≤ 48 := by
  unfold jclC
  split
  · rename_i q
    have := jn5 h (k * 10 + v) (by omega) (by omega)
    omega
  · omega
theorem jclE_0 {M : jMem} (h : jO M) (k v : Int) : 0 ≤ jclE M k v ∧ jclE M k v ≤ 48 := by
  unfold jclE
  split
  · rename_i q
    have := jn5 h (10 * k + v) (by omega) (by omega)
    omega
  · omega
theorem c_waitFor_l {G : jG} {d : Nat} {M : jMem} {Q : Option Value → jMem → Prop} (hI : jK M) {N : jMem} {σ : jS} {v k s m : Int} (hv : 0 ≤ v ∧ v < 10) (hk : 0 ≤ k ∧ k < M 1 8) (hb : jbit (M 13 k) v) (hD : jDC M N σ) (hV : jIv (M 1 8) (M 16) (M 17) (M 13) s m σ) {z : Int} (hz : z = jto σ k) (hza : jclC M k v < z) (h : Q (some (.int (jI (jwc (M 1 8) (M 13) σ v k (jclC M k v))))) N)  : ∀ (f : Nat) (i : Int), 0 ≤ i → i ≤ M 1 8 → M 1 8 - i < f → jM G mX1_waitFor (d + 2) 51 [.ref (jad G 4), .ref (jad G 1), .int (jI v), .int (jI k), .int (jI (jclC M k v)), .int (jI z), .int (jI (z - jclC M k v - jsum (jov (M 13) σ v k (jclC M k v) z) i.toNat)), .int (jI i)] [] (N) Q := by
  intro f
  induction f with
  | zero =>
    intro i h0 h1 hf
    exact absurd hf (by omega)
  | succ f ih =>
    intro i h0 h1 hf
    have hs := jn1 hI
    have ha := jclC_0 hI k v
    have hkb := hV.2.1 k hk.1 hk.2
    have hz2 : 0 ≤ z ∧ z ≤ 200 := by rw [hz]; unfold jto; split <;> omega
    have n1 := congrFun (hD.1 1 (by decide) (by decide)) 8
    have n13 := hD.1 13 (by decide) (by decide)
    refine jr_iload (n := 53) dX1_waitFor_51 rfl rfl ?_
    refine jr_aload_n (n := 54) dX1_waitFor_53 rfl rfl ?_
    refine jr_getI (n := 57) (i := 8) rfl dX1_waitFor_54 rfl fX1_36 rfl (by decide) (by decide) rfl ?_
    rw [n1]
    refine jr_icmp_ge (n := 60) (t := 127) dX1_waitFor_57 (by decide) rfl (by omega) (by omega) (fun b57 => ?_) (fun b57 => ?_)
    · refine jr_iload (n := 129) dX1_waitFor_127 rfl rfl ?_
      refine jr_iret dX1_waitFor_129 rfl ?_
      have e : i = M 1 8 := by omega
      subst e
      rw [jwc_eq (by omega) hV hv.1 hv.2 hz hza] at h
      exact h
    · have hq := hD.2.1 i h0 (by omega)
      have hq2 := hV.2.1 i h0 (by omega)
      refine jr_iload (n := 62) dX1_waitFor_60 rfl rfl ?_
      refine jr_iload_n (n := 63) dX1_waitFor_62 rfl rfl ?_
      refine jr_icmp_eq (n := 66) (t := 121) dX1_waitFor_63 (by decide) rfl (by omega) (by omega) (fun b63 => ?_) (fun b63 => ?_)
      · refine jr_iinc7 (n := 124) dX1_waitFor_121 rfl (by decide) rfl ?_
        refine jr_goto (t := 51) dX1_waitFor_124 (by decide) ?_
        have e := jsum_s (jov (M 13) σ v k (jclC M k v) z) h0
        first
          | (rw [show (jov (M 13) σ v k (jclC M k v) z) i = max 0 (min z (σ.2.1 i) - max (jclC M k v) (σ.1 i)) from if_pos ⟨b63, b74, b81⟩] at e
             rw [show z - jclC M k v - jsum (jov (M 13) σ v k (jclC M k v) z) i.toNat - max 0 (min z (σ.2.1 i) - max (jclC M k v) (σ.1 i)) = z - jclC M k v - jsum (jov (M 13) σ v k (jclC M k v) z) (i + 1).toNat by rw [e, Int.sub_sub _ (jsum _ _)]]
             exact ih (i + 1) (by omega) (by omega) (by omega))
          | (rw [show (jov (M 13) σ v k (jclC M k v) z) i = 0 from if_neg (fun w => by first | exact b81 w.2.2 | exact w.2.1 b74 | exact w.1 b63), Int.add_zero] at e; rw [← e]; exact ih (i + 1) (by omega) (by omega) (by omega))
      · refine jr_aload_n (n := 67) dX1_waitFor_66 rfl rfl ?_
        refine jr_getR (n := 70) dX1_waitFor_67 rfl fX1_9 rfl (by decide) (by decide) rfl ?_
        refine jr_iload (n := 72) dX1_waitFor_70 rfl rfl ?_
        refine jr_iald (n := 73) dX1_waitFor_72 rfl rfl (by decide) (by omega) (by omega) ?_
        rw [hq.1]
        refine jr_iconst (n := 74) dX1_waitFor_73 rfl ?_
        refine jr_icmp_eq (n := 77) (t := 121) dX1_waitFor_74 (by decide) rfl (by omega) (by omega) (fun b74 => ?_) (fun b74 => ?_)
        · refine jr_iinc7 (n := 124) dX1_waitFor_121 rfl (by decide) rfl ?_
          refine jr_goto (t := 51) dX1_waitFor_124 (by decide) ?_
          have e := jsum_s (jov (M 13) σ v k (jclC M k v) z) h0
          first
            | (rw [show (jov (M 13) σ v k (jclC M k v) z) i = max 0 (min z (σ.2.1 i) - max (jclC M k v) (σ.1 i)) from if_pos ⟨b63, b74, b81⟩] at e
               rw [show z - jclC M k v - jsum (jov (M 13) σ v k (jclC M k v) z) i.toNat - max 0 (min z (σ.2.1 i) - max (jclC M k v) (σ.1 i)) = z - jclC M k v - jsum (jov (M 13) σ v k (jclC M k v) z) (i + 1).toNat by rw [e, Int.sub_sub _ (jsum _ _)]]
               exact ih (i + 1) (by omega) (by omega) (by omega))
            | (rw [show (jov (M 13) σ v k (jclC M k v) z) i = 0 from if_neg (fun w => by first | exact b81 w.2.2 | exact w.2.1 b74 | exact w.1 b63), Int.add_zero] at e; rw [← e]; exact ih (i + 1) (by omega) (by omega) (by omega))
        · refine jr_aload_n (n := 78) dX1_waitFor_77 rfl rfl ?_
          refine jr_iload (n := 80) dX1_waitFor_78 rfl rfl ?_
          refine jr_iload_n (n := 81) dX1_waitFor_80 rfl rfl ?_
          refine jr_cV2 (n := 84) (ci := 2) (ν := mX2_hasNeedOf) dX1_waitFor_81 rfl lX1_74 kX2_hasNeedOf iX2_hasNeedOf rfl ⟨_, rfl, rfl⟩ (by decide) (Nat.le_of_ble_eq_true rfl) (Nat.le_of_ble_eq_true rfl) rfl ?_
          refine c_hasNeedOf (by omega) (fun b81 => ?_) (fun b81 => ?_)
          all_goals rw [n13] at b81
          · refine jr_ifF_eq (n := 87) (t := 121) dX1_waitFor_84 rfl (by decide) (by decide) (by decide) ?_
            refine jr_iload (n := 89) dX1_waitFor_87 rfl rfl ?_
            refine jr_iconst (n := 90) dX1_waitFor_89 rfl ?_
            refine jr_iload (n := 92) dX1_waitFor_90 rfl rfl ?_
            refine jr_aload_n (n := 93) dX1_waitFor_92 rfl rfl ?_
            refine jr_getR (n := 96) dX1_waitFor_93 rfl fX1_15 rfl (by decide) (by decide) rfl ?_
            refine jr_iload (n := 98) dX1_waitFor_96 rfl rfl ?_
            refine jr_iald (n := 99) dX1_waitFor_98 rfl rfl (by decide) (by omega) (by omega) ?_
            rw [hq.2]
            refine jr_min (n := 102) dX1_waitFor_99 rfl lX1_88 (by omega) (by omega) (Nat.le_of_ble_eq_true rfl) ⟨Nat.le_add_left _ _, Nat.le_add_left _ _⟩ ⟨Nat.le_refl _, Nat.le_refl _⟩ ?_
            refine jr_iload (n := 104) dX1_waitFor_102 rfl rfl ?_
            refine jr_aload_n (n := 105) dX1_waitFor_104 rfl rfl ?_
            refine jr_getR (n := 108) dX1_waitFor_105 rfl fX1_9 rfl (by decide) (by decide) rfl ?_
            refine jr_iload (n := 110) dX1_waitFor_108 rfl rfl ?_
            refine jr_iald (n := 111) dX1_waitFor_110 rfl rfl (by decide) (by omega) (by omega) ?_
            rw [hq.1]
            refine jr_max (n := 114) dX1_waitFor_111 rfl lX1_93 (by omega) (by omega) (Nat.le_of_ble_eq_true rfl) ⟨Nat.le_add_left _ _, Nat.le_add_left _ _⟩ ⟨Nat.le_refl _, Nat.le_refl _⟩ ?_
            refine jr_isub (n := 115) dX1_waitFor_114 rfl ?_
            refine jr_max (n := 118) dX1_waitFor_115 rfl lX1_93 (by omega) (by omega) (Nat.le_of_ble_eq_true rfl) ⟨Nat.le_add_left _ _, Nat.le_add_left _ _⟩ ⟨Nat.le_refl _, Nat.le_refl _⟩ ?_
            refine jr_isub (n := 119) dX1_waitFor_118 rfl ?_
            refine jr_istore6 (n := 121) dX1_waitFor_119 rfl (by decide) rfl ?_
            refine jr_iinc7 (n := 124) dX1_waitFor_121 rfl (by decide) rfl ?_
            refine jr_goto (t := 51) dX1_waitFor_124 (by decide) ?_
            have e := jsum_s (jov (M 13) σ v k (jclC M k v) z) h0
            first
              | (rw [show (jov (M 13) σ v k (jclC M k v) z) i = max 0 (min z (σ.2.1 i) - max (jclC M k v) (σ.1 i)) from if_pos ⟨b63, b74, b81⟩] at e
                 rw [show z - jclC M k v - jsum (jov (M 13) σ v k (jclC M k v) z) i.toNat - max 0 (min z (σ.2.1 i) - max (jclC M k v) (σ.1 i)) = z - jclC M k v - jsum (jov (M 13) σ v k (jclC M k v) z) (i + 1).toNat by rw [e, Int.sub_sub _ (jsum _ _)]]
                 exact ih (i + 1) (by omega) (by omega) (by omega))
              | (rw [show (jov (M 13) σ v k (jclC M k v) z) i = 0 from if_neg (fun w => by first | exact b81 w.2.2 | exact w.2.1 b74 | exact w.1 b63), Int.add_zero] at e; rw [← e]; exact ih (i + 1) (by omega) (by omega) (by omega))
          · refine jr_ifT_eq (t := 121) dX1_waitFor_84 (by decide) (by decide) (by decide) ?_
            refine jr_iinc7 (n := 124) dX1_waitFor_121 rfl (by decide) rfl ?_
            refine jr_goto (t := 51) dX1_waitFor_124 (by decide) ?_
            have e := jsum_s (jov (M 13) σ v k (jclC M k v) z) h0
            first
              | (rw [show (jov (M 13) σ v k (jclC M k v) z) i = max 0 (min z (σ.2.1 i) - max (jclC M k v) (σ.1 i)) from if_pos ⟨b63, b74, b81⟩] at e
                 rw [show z - jclC M k v - jsum (jov (M 13) σ v k (jclC M k v) z) i.toNat - max 0 (min z (σ.2.1 i) - max (jclC M k v) (σ.1 i)) = z - jclC M k v - jsum (jov (M 13) σ v k (jclC M k v) z) (i + 1).toNat by rw [e, Int.sub_sub _ (jsum _ _)]]
                 exact ih (i + 1) (by omega) (by omega) (by omega))
              | (rw [show (jov (M 13) σ v k (jclC M k v) z) i = 0 from if_neg (fun w => by first | exact b81 w.2.2 | exact w.2.1 b74 | exact w.1 b63), Int.add_zero] at e; rw [← e]; exact ih (i + 1) (by omega) (by omega) (by omega))

theorem c_waitFor {G : jG} {d : Nat} {M : jMem} {Q : Option Value → jMem → Prop} (hI : jK M) {N : jMem} {σ : jS} {v k s m : Int} (hv : 0 ≤ v ∧ v < 10) (hk : 0 ≤ k ∧ k < M 1 8) (hb : jbit (M 13 k) v) (hD : jDC M N σ) (hV : jIv (M 1 8) (M 16) (M 17) (M 13) s m σ) (h : Q (some (.int (jI (jwc (M 1 8) (M 13) σ v k (jclC M k v))))) N) : jN G mX1_waitFor (d + 2) [.ref (jad G 4), .ref (jad G 1), .int (jI v), .int (jI k)] N Q := by
  show jM G mX1_waitFor (d + 2) 0 [.ref (jad G 4), .ref (jad G 1), .int (jI v), .int (jI k), .null, .null, .null, .null] [] N Q
  have hs := jn1 hI
  have ha := jclC_0 hI k v
  have hkb := hV.2.1 k hk.1 hk.2
  have hq := hD.2.1 k hk.1 (by omega)
  have n15 := hD.1 15 (by decide) (by decide)
  have hcl := jclC_at (M := M) (k := k) (v := v) (by omega) hv hb
  refine jr_aload_n (n := 1) dX1_waitFor_0 rfl rfl ?_
  refine jr_iload_n (n := 2) dX1_waitFor_1 rfl rfl ?_
  refine jr_iload_n (n := 3) dX1_waitFor_2 rfl rfl ?_
  refine jr_cV2 (n := 6) (ci := 2) (ν := mX2_quarterFor) dX1_waitFor_3 rfl lX1_78 kX2_quarterFor iX2_quarterFor rfl ⟨_, rfl, rfl⟩ (by decide) (Nat.le_of_ble_eq_true rfl) (Nat.le_of_ble_eq_true rfl) rfl ?_
  refine c_quarterFor (by omega) (by omega) ?_
  rw [n15, ← hcl]
  refine jr_istore4 (n := 8) dX1_waitFor_6 rfl (by decide) rfl ?_
  refine jr_aload_n (n := 9) dX1_waitFor_8 rfl rfl ?_
  refine jr_getR (n := 12) dX1_waitFor_9 rfl fX1_9 rfl (by decide) (by decide) rfl ?_
  refine jr_iload_n (n := 13) dX1_waitFor_12 rfl rfl ?_
  refine jr_iald (n := 14) dX1_waitFor_13 rfl rfl (by decide) (by omega) (by omega) ?_
  rw [hq.1]
  refine jr_iconst (n := 15) dX1_waitFor_14 rfl ?_
  refine jr_icmp_ne (n := 18) (t := 24) dX1_waitFor_15 (by decide) rfl (by omega) (by omega) (fun b15 => ?_) (fun b15 => ?_)
  · refine jr_aload_n (n := 25) dX1_waitFor_24 rfl rfl ?_
    refine jr_getR (n := 28) dX1_waitFor_25 rfl fX1_9 rfl (by decide) (by decide) rfl ?_
    refine jr_iload_n (n := 29) dX1_waitFor_28 rfl rfl ?_
    refine jr_iald (n := 30) dX1_waitFor_29 rfl rfl (by decide) (by omega) (by omega) ?_
    rw [hq.1]
    refine jr_istore5 (n := 32) dX1_waitFor_30 rfl (by decide) rfl ?_
    refine jr_iload (n := 34) dX1_waitFor_32 rfl rfl ?_
    refine jr_iload (n := 36) dX1_waitFor_34 rfl rfl ?_
    refine jr_icmp_gt (n := 39) (t := 41) dX1_waitFor_36 (by decide) rfl (by omega) (by omega) (fun b36 => ?_) (fun b36 => ?_)
    · refine jr_iload (n := 43) dX1_waitFor_41 rfl rfl ?_
      refine jr_iload (n := 45) dX1_waitFor_43 rfl rfl ?_
      refine jr_isub (n := 46) dX1_waitFor_45 rfl ?_
      refine jr_istore6 (n := 48) dX1_waitFor_46 rfl (by decide) rfl ?_
      refine jr_iconst (n := 49) dX1_waitFor_48 rfl ?_
      refine jr_istore7 (n := 51) dX1_waitFor_49 rfl (by decide) rfl ?_
      first
        | (have k9 := c_waitFor_l (G := G) (d := d) hI hv hk hb hD hV (z := 200) (by unfold jto; rw [if_pos b15]) (by omega) h ((M 1 8).toNat + 1) 0 (by omega) (by omega) (by omega)
           rw [show jsum (jov (M 13) σ v k (jclC M k v) 200) (0 : Int).toNat = 0 from rfl, Int.sub_zero] at k9; exact k9)
        | (have k9 := c_waitFor_l (G := G) (d := d) hI hv hk hb hD hV (z := σ.1 k) (by unfold jto; rw [if_neg b15]) (by omega) h ((M 1 8).toNat + 1) 0 (by omega) (by omega) (by omega)
           rw [show jsum (jov (M 13) σ v k (jclC M k v) (σ.1 k)) (0 : Int).toNat = 0 from rfl, Int.sub_zero] at k9; exact k9)
    · refine jr_iconst (n := 40) dX1_waitFor_39 rfl ?_
      refine jr_iret dX1_waitFor_40 rfl ?_
      have e : jto σ k ≤ jclC M k v := by
        unfold jto
        split <;> omega
      have e2 : jwc (M 1 8) (M 13) σ v k (jclC M k v) = 0 := by
        unfold jwc
        rw [show (jto σ k - jclC M k v).toNat = 0 by omega]
        rfl
      rw [e2] at h
      exact h
  · refine jr_sipush (n := 21) dX1_waitFor_18 rfl (by decide) ?_
    refine jr_goto (t := 30) dX1_waitFor_21 (by decide) ?_
    refine jr_istore5 (n := 32) dX1_waitFor_30 rfl (by decide) rfl ?_
    refine jr_iload (n := 34) dX1_waitFor_32 rfl rfl ?_
    refine jr_iload (n := 36) dX1_waitFor_34 rfl rfl ?_
    refine jr_icmp_gt (n := 39) (t := 41) dX1_waitFor_36 (by decide) rfl (by omega) (by omega) (fun b36 => ?_) (fun b36 => ?_)
    · refine jr_iload (n := 43) dX1_waitFor_41 rfl rfl ?_
      refine jr_iload (n := 45) dX1_waitFor_43 rfl rfl ?_
      refine jr_isub (n := 46) dX1_waitFor_45 rfl ?_
      refine jr_istore6 (n := 48) dX1_waitFor_46 rfl (by decide) rfl ?_
      refine jr_iconst (n := 49) dX1_waitFor_48 rfl ?_
      refine jr_istore7 (n := 51) dX1_waitFor_49 rfl (by decide) rfl ?_
      first
        | (have k9 := c_waitFor_l (G := G) (d := d) hI hv hk hb hD hV (z := 200) (by unfold jto; rw [if_pos b15]) (by omega) h ((M 1 8).toNat + 1) 0 (by omega) (by omega) (by omega)
           rw [show jsum (jov (M 13) σ v k (jclC M k v) 200) (0 : Int).toNat = 0 from rfl, Int.sub_zero] at k9; exact k9)
        | (have k9 := c_waitFor_l (G := G) (d := d) hI hv hk hb hD hV (z := σ.1 k) (by unfold jto; rw [if_neg b15]) (by omega) h ((M 1 8).toNat + 1) 0 (by omega) (by omega) (by omega)
           rw [show jsum (jov (M 13) σ v k (jclC M k v) (σ.1 k)) (0 : Int).toNat = 0 from rfl, Int.sub_zero] at k9; exact k9)
    · refine jr_iconst (n := 40) dX1_waitFor_39 rfl ?_
      refine jr_iret dX1_waitFor_40 rfl ?_
      have e : jto σ k ≤ jclC M k v := by
        unfold jto
        split <;> omega
      have e2 : jwc (M 1 8) (M 13) σ v k (jclC M k v) = 0 := by
        unfold jwc
        rw [show (jto σ k - jclC M k v).toNat = 0 by omega]
        rfl
      rw [e2] at h
      exact h

theorem c_waitOf_l {G : jG} {d : Nat} {M : jMem} {Q : Option Value → jMem → Prop} (hI : jK M) {N : jMem} {σ : jS} {v s m : Int} (hv : 0 ≤ v ∧ v < 10) (hD : jDC M N σ) (hV : jIv (M 1 8) (M 16) (M 17) (M 13) s m σ) (h : Q (some (.int (jI (jwo (M 1 8) (M 13) (jclC M) σ v)))) N)  : ∀ (f : Nat) (i : Int), 0 ≤ i → i ≤ M 1 8 → M 1 8 - i < f → jM G mX1_waitOf (d + 3) 5 [.ref (jad G 4), .ref (jad G 1), .int (jI v), .int (jI (jsum (jwn (M 1 8) (M 13) (jclC M) σ v) i.toNat)), .int (jI i)] [] (N) Q := by
  intro f
  induction f with
  | zero =>
    intro i h0 h1 hf
    exact absurd hf (by omega)
  | succ f ih =>
    intro i h0 h1 hf
    have hs := jn1 hI
    have n1 := congrFun (hD.1 1 (by decide) (by decide)) 8
    have n13 := hD.1 13 (by decide) (by decide)
    refine jr_iload (n := 7) dX1_waitOf_5 rfl rfl ?_
    refine jr_aload_n (n := 8) dX1_waitOf_7 rfl rfl ?_
    refine jr_getI (n := 11) (i := 8) rfl dX1_waitOf_8 rfl fX1_36 rfl (by decide) (by decide) rfl ?_
    rw [n1]
    refine jr_icmp_ge (n := 14) (t := 41) dX1_waitOf_11 (by decide) rfl (by omega) (by omega) (fun b11 => ?_) (fun b11 => ?_)
    · refine jr_iload_n (n := 42) dX1_waitOf_41 rfl rfl ?_
      refine jr_iret dX1_waitOf_42 rfl ?_
      have e : i = M 1 8 := by omega
      subst e
      exact h
    · refine jr_aload_n (n := 15) dX1_waitOf_14 rfl rfl ?_
      refine jr_iload (n := 17) dX1_waitOf_15 rfl rfl ?_
      refine jr_iload_n (n := 18) dX1_waitOf_17 rfl rfl ?_
      refine jr_cV2 (n := 21) (ci := 2) (ν := mX2_hasNeedOf) dX1_waitOf_18 rfl lX1_74 kX2_hasNeedOf iX2_hasNeedOf rfl ⟨_, rfl, rfl⟩ (by decide) (Nat.le_of_ble_eq_true rfl) (Nat.le_of_ble_eq_true rfl) rfl ?_
      refine c_hasNeedOf (by omega) (fun b18 => ?_) (fun b18 => ?_)
      all_goals rw [n13] at b18
      · refine jr_ifF_eq (n := 24) (t := 35) dX1_waitOf_21 rfl (by decide) (by decide) (by decide) ?_
        refine jr_iload_n (n := 25) dX1_waitOf_24 rfl rfl ?_
        refine jr_aload_n (n := 26) dX1_waitOf_25 rfl rfl ?_
        refine jr_aload_n (n := 27) dX1_waitOf_26 rfl rfl ?_
        refine jr_iload_n (n := 28) dX1_waitOf_27 rfl rfl ?_
        refine jr_iload (n := 30) dX1_waitOf_28 rfl rfl ?_
        refine jr_cV3 (n := 33) (ci := 1) (ν := mX1_waitFor) dX1_waitOf_30 rfl lX1_96 kX1_waitFor iX1_waitFor rfl ⟨_, rfl, rfl⟩ (by decide) (Nat.le_of_ble_eq_true rfl) (Nat.le_of_ble_eq_true rfl) rfl ?_
        refine c_waitFor hI hv (by omega) b18 hD hV ?_
        refine jr_iadd (n := 34) dX1_waitOf_33 rfl ?_
        refine jr_istore3 (n := 35) dX1_waitOf_34 rfl (by decide) rfl ?_
        refine jr_iinc4 (n := 38) dX1_waitOf_35 rfl (by decide) rfl ?_
        refine jr_goto (t := 5) dX1_waitOf_38 (by decide) ?_
        have e := jsum_s (jwn (M 1 8) (M 13) (jclC M) σ v) h0
        first
          | (rw [show (jwn (M 1 8) (M 13) (jclC M) σ v) i = jwc (M 1 8) (M 13) σ v i (jclC M i v) from if_pos b18] at e; rw [← e]; exact ih (i + 1) (by omega) (by omega) (by omega))
          | (rw [show (jwn (M 1 8) (M 13) (jclC M) σ v) i = 0 from if_neg b18, Int.add_zero] at e; rw [← e]; exact ih (i + 1) (by omega) (by omega) (by omega))
      · refine jr_ifT_eq (t := 35) dX1_waitOf_21 (by decide) (by decide) (by decide) ?_
        refine jr_iinc4 (n := 38) dX1_waitOf_35 rfl (by decide) rfl ?_
        refine jr_goto (t := 5) dX1_waitOf_38 (by decide) ?_
        have e := jsum_s (jwn (M 1 8) (M 13) (jclC M) σ v) h0
        first
          | (rw [show (jwn (M 1 8) (M 13) (jclC M) σ v) i = jwc (M 1 8) (M 13) σ v i (jclC M i v) from if_pos b18] at e; rw [← e]; exact ih (i + 1) (by omega) (by omega) (by omega))
          | (rw [show (jwn (M 1 8) (M 13) (jclC M) σ v) i = 0 from if_neg b18, Int.add_zero] at e; rw [← e]; exact ih (i + 1) (by omega) (by omega) (by omega))

theorem c_waitOf {G : jG} {d : Nat} {M : jMem} {Q : Option Value → jMem → Prop} (hI : jK M) {N : jMem} {σ : jS} {v s m : Int} (hv : 0 ≤ v ∧ v < 10) (hD : jDC M N σ) (hV : jIv (M 1 8) (M 16) (M 17) (M 13) s m σ) (h : Q (some (.int (jI (jwo (M 1 8) (M 13) (jclC M) σ v)))) N) : jN G mX1_waitOf (d + 3) [.ref (jad G 4), .ref (jad G 1), .int (jI v)] N Q := by
  show jM G mX1_waitOf (d + 3) 0 [.ref (jad G 4), .ref (jad G 1), .int (jI v), .null, .null] [] N Q
  have hs := jn1 hI
  refine jr_iconst (n := 1) dX1_waitOf_0 rfl ?_
  refine jr_istore3 (n := 2) dX1_waitOf_1 rfl (by decide) rfl ?_
  refine jr_iconst (n := 3) dX1_waitOf_2 rfl ?_
  refine jr_istore4 (n := 5) dX1_waitOf_3 rfl (by decide) rfl ?_
  exact c_waitOf_l hI hv hD hV h ((M 1 8).toNat + 1) 0 (by omega) (by omega) (by omega)

theorem c_hearings_l {G : jG} {d : Nat} {M : jMem} {Q : Option Value → jMem → Prop} (hI : jK M) {N : jMem} {σ : jS} {v s m : Int} (hv : 0 ≤ v ∧ v < 10) (hD : jDC M N σ) (hV : jIv (M 1 8) (M 16) (M 17) (M 13) s m σ) (h : Q (some (.int (jI (jsum (jhn (M 13) (M 14) σ v) (M 1 8).toNat)))) N)  : ∀ (f : Nat) (i : Int), 0 ≤ i → i ≤ M 1 8 → M 1 8 - i < f → jM G mX1_hearingsOf (d + 3) 5 [.ref (jad G 4), .ref (jad G 1), .int (jI v), .int (jI (jsum (jhn (M 13) (M 14) σ v) i.toNat)), .int (jI i)] [] (N) Q := by
  intro f
  induction f with
  | zero =>
    intro i h0 h1 hf
    exact absurd hf (by omega)
  | succ f ih =>
    intro i h0 h1 hf
    have hs := jn1 hI
    have n1 := congrFun (hD.1 1 (by decide) (by decide)) 8
    have n13 := hD.1 13 (by decide) (by decide)
    have n14 := hD.1 14 (by decide) (by decide)
    refine jr_iload (n := 7) dX1_hearingsOf_5 rfl rfl ?_
    refine jr_aload_n (n := 8) dX1_hearingsOf_7 rfl rfl ?_
    refine jr_getI (n := 11) (i := 8) rfl dX1_hearingsOf_8 rfl fX1_36 rfl (by decide) (by decide) rfl ?_
    rw [n1]
    refine jr_icmp_ge (n := 14) (t := 53) dX1_hearingsOf_11 (by decide) rfl (by omega) (by omega) (fun b11 => ?_) (fun b11 => ?_)
    · refine jr_iload_n (n := 54) dX1_hearingsOf_53 rfl rfl ?_
      refine jr_iret dX1_hearingsOf_54 rfl ?_
      have e : i = M 1 8 := by omega
      subst e
      exact h
    · have hq := hD.2.1 i h0 (by omega)
      have hq2 := hV.2.1 i h0 (by omega)
      have hfa := (jn3 hI i h0 (by omega)).2.2.2.2
      refine jr_aload_n (n := 15) dX1_hearingsOf_14 rfl rfl ?_
      refine jr_iload (n := 17) dX1_hearingsOf_15 rfl rfl ?_
      refine jr_iload_n (n := 18) dX1_hearingsOf_17 rfl rfl ?_
      refine jr_cV2 (n := 21) (ci := 2) (ν := mX2_hasNeedOf) dX1_hearingsOf_18 rfl lX1_74 kX2_hasNeedOf iX2_hasNeedOf rfl ⟨_, rfl, rfl⟩ (by decide) (Nat.le_of_ble_eq_true rfl) (Nat.le_of_ble_eq_true rfl) rfl ?_
      refine c_hasNeedOf (by omega) (fun b18 => ?_) (fun b18 => ?_)
      all_goals rw [n13] at b18
      · refine jr_ifF_eq (n := 24) (t := 47) dX1_hearingsOf_21 rfl (by decide) (by decide) (by decide) ?_
        refine jr_aload_n (n := 25) dX1_hearingsOf_24 rfl rfl ?_
        refine jr_getR (n := 28) dX1_hearingsOf_25 rfl fX1_9 rfl (by decide) (by decide) rfl ?_
        refine jr_iload (n := 30) dX1_hearingsOf_28 rfl rfl ?_
        refine jr_iald (n := 31) dX1_hearingsOf_30 rfl rfl (by decide) (by omega) (by omega) ?_
        rw [hq.1]
        refine jr_iconst (n := 32) dX1_hearingsOf_31 rfl ?_
        refine jr_icmp_eq (n := 35) (t := 47) dX1_hearingsOf_32 (by decide) rfl (by omega) (by omega) (fun b32 => ?_) (fun b32 => ?_)
        · refine jr_iinc4 (n := 50) dX1_hearingsOf_47 rfl (by decide) rfl ?_
          refine jr_goto (t := 5) dX1_hearingsOf_50 (by decide) ?_
          have e := jsum_s (jhn (M 13) (M 14) σ v) h0
          first
            | (rw [show (jhn (M 13) (M 14) σ v) i = 1 from if_pos ⟨b18, b32, b38⟩] at e; rw [← e]; exact ih (i + 1) (by omega) (by omega) (by omega))
            | (rw [show (jhn (M 13) (M 14) σ v) i = 0 from if_neg (fun w => by first | exact w.2.2 b38 | exact w.2.1 b32 | exact b18 w.1), Int.add_zero] at e; rw [← e]; exact ih (i + 1) (by omega) (by omega) (by omega))
        · refine jr_aload_n (n := 36) dX1_hearingsOf_35 rfl rfl ?_
          refine jr_iload (n := 38) dX1_hearingsOf_36 rfl rfl ?_
          refine jr_cV1 (n := 41) (ci := 2) (ν := mX2_isFolded) dX1_hearingsOf_38 rfl lX1_66 kX2_isFolded iX2_isFolded rfl ⟨_, rfl, rfl⟩ (by decide) (Nat.le_of_ble_eq_true rfl) (Nat.le_of_ble_eq_true rfl) rfl ?_
          refine c_isFolded (by omega) (by rw [n14]; omega) (fun b38 => ?_) (fun b38 => ?_)
          all_goals rw [n14] at b38
          · refine jr_ifT_ne (t := 47) dX1_hearingsOf_41 (by decide) (by decide) (by decide) ?_
            refine jr_iinc4 (n := 50) dX1_hearingsOf_47 rfl (by decide) rfl ?_
            refine jr_goto (t := 5) dX1_hearingsOf_50 (by decide) ?_
            have e := jsum_s (jhn (M 13) (M 14) σ v) h0
            first
              | (rw [show (jhn (M 13) (M 14) σ v) i = 1 from if_pos ⟨b18, b32, b38⟩] at e; rw [← e]; exact ih (i + 1) (by omega) (by omega) (by omega))
              | (rw [show (jhn (M 13) (M 14) σ v) i = 0 from if_neg (fun w => by first | exact w.2.2 b38 | exact w.2.1 b32 | exact b18 w.1), Int.add_zero] at e; rw [← e]; exact ih (i + 1) (by omega) (by omega) (by omega))
          · refine jr_ifF_ne (n := 44) (t := 47) dX1_hearingsOf_41 rfl (by decide) (by decide) (by decide) ?_
            refine jr_iinc3 (n := 47) dX1_hearingsOf_44 rfl (by decide) rfl ?_
            refine jr_iinc4 (n := 50) dX1_hearingsOf_47 rfl (by decide) rfl ?_
            refine jr_goto (t := 5) dX1_hearingsOf_50 (by decide) ?_
            have e := jsum_s (jhn (M 13) (M 14) σ v) h0
            first
              | (rw [show (jhn (M 13) (M 14) σ v) i = 1 from if_pos ⟨b18, b32, b38⟩] at e; rw [← e]; exact ih (i + 1) (by omega) (by omega) (by omega))
              | (rw [show (jhn (M 13) (M 14) σ v) i = 0 from if_neg (fun w => by first | exact w.2.2 b38 | exact w.2.1 b32 | exact b18 w.1), Int.add_zero] at e; rw [← e]; exact ih (i + 1) (by omega) (by omega) (by omega))
      · refine jr_ifT_eq (t := 47) dX1_hearingsOf_21 (by decide) (by decide) (by decide) ?_
        refine jr_iinc4 (n := 50) dX1_hearingsOf_47 rfl (by decide) rfl ?_
        refine jr_goto (t := 5) dX1_hearingsOf_50 (by decide) ?_
        have e := jsum_s (jhn (M 13) (M 14) σ v) h0
        first
          | (rw [show (jhn (M 13) (M 14) σ v) i = 1 from if_pos ⟨b18, b32, b38⟩] at e; rw [← e]; exact ih (i + 1) (by omega) (by omega) (by omega))
          | (rw [show (jhn (M 13) (M 14) σ v) i = 0 from if_neg (fun w => by first | exact w.2.2 b38 | exact w.2.1 b32 | exact b18 w.1), Int.add_zero] at e; rw [← e]; exact ih (i + 1) (by omega) (by omega) (by omega))

theorem c_hearingsOf {G : jG} {d : Nat} {M : jMem} {Q : Option Value → jMem → Prop} (hI : jK M) {N : jMem} {σ : jS} {v s m : Int} (hv : 0 ≤ v ∧ v < 10) (hD : jDC M N σ) (hV : jIv (M 1 8) (M 16) (M 17) (M 13) s m σ) (h : Q (some (.int (jI (jsum (jhn (M 13) (M 14) σ v) (M 1 8).toNat)))) N) : jN G mX1_hearingsOf (d + 3) [.ref (jad G 4), .ref (jad G 1), .int (jI v)] N Q := by
  show jM G mX1_hearingsOf (d + 3) 0 [.ref (jad G 4), .ref (jad G 1), .int (jI v), .null, .null] [] N Q
  have hs := jn1 hI
  refine jr_iconst (n := 1) dX1_hearingsOf_0 rfl ?_
  refine jr_istore3 (n := 2) dX1_hearingsOf_1 rfl (by decide) rfl ?_
  refine jr_iconst (n := 3) dX1_hearingsOf_2 rfl ?_
  refine jr_istore4 (n := 5) dX1_hearingsOf_3 rfl (by decide) rfl ?_
  exact c_hearings_l hI hv hD hV h ((M 1 8).toNat + 1) 0 (by omega) (by omega) (by omega)

def jcld (n : Int) (ne : Int → Int) (v : Int) : Prop := ∃ k, 0 ≤ k ∧ k < n ∧ jbit (ne k) v
theorem c_isCalled_l {G : jG} {d : Nat} {M : jMem} {Q : Option Value → jMem → Prop} (hI : jK M) {v : Int} (h1 : jcld (M 1 8) (M 13) v → Q (some (.int (jI 1))) M) (h0 : ¬ jcld (M 1 8) (M 13) v → Q (some (.int (jI 0))) M)  : ∀ (f : Nat) (i : Int), 0 ≤ i → i ≤ M 1 8 → (∀ j, 0 ≤ j → j < i → ¬ jbit (M 13 j) v) → M 1 8 - i < f → jM G mX2_isCalled (d + 2) 2 [.ref (jad G 1), .int (jI v), .int (jI i)] [] (M) Q := by
  intro f
  induction f with
  | zero =>
    intro i i0 i1 ha hf
    exact absurd hf (by omega)
  | succ f ih =>
    intro i i0 i1 ha hf
    have hs := jn1 hI
    refine jr_iload_n (n := 3) dX2_isCalled_2 rfl rfl ?_
    refine jr_aload_n (n := 4) dX2_isCalled_3 rfl rfl ?_
    refine jr_getI (n := 7) (i := 8) rfl dX2_isCalled_4 rfl fX2_36 rfl (by decide) (by decide) rfl ?_
    refine jr_icmp_ge (n := 10) (t := 27) dX2_isCalled_7 (by decide) rfl (by omega) (by omega) (fun b7 => ?_) (fun b7 => ?_)
    · refine jr_iconst (n := 28) dX2_isCalled_27 rfl ?_
      refine jr_zret dX2_isCalled_28 rfl (by decide) ?_
      exact h0 (fun ⟨j, j0, j1, j2⟩ => ha j j0 (by omega) j2)
    · refine jr_aload_n (n := 11) dX2_isCalled_10 rfl rfl ?_
      refine jr_iload_n (n := 12) dX2_isCalled_11 rfl rfl ?_
      refine jr_iload_n (n := 13) dX2_isCalled_12 rfl rfl ?_
      refine jr_cV2 (n := 16) (ci := 2) (ν := mX2_hasNeedOf) dX2_isCalled_13 rfl lX2_56 kX2_hasNeedOf iX2_hasNeedOf rfl ⟨_, rfl, rfl⟩ (by decide) (Nat.le_of_ble_eq_true rfl) (Nat.le_of_ble_eq_true rfl) rfl ?_
      refine c_hasNeedOf (by omega) (fun b13 => ?_) (fun b13 => ?_)
      · refine jr_ifF_eq (n := 19) (t := 21) dX2_isCalled_16 rfl (by decide) (by decide) (by decide) ?_
        refine jr_iconst (n := 20) dX2_isCalled_19 rfl ?_
        refine jr_zret dX2_isCalled_20 rfl (by decide) ?_
        exact h1 ⟨i, i0, by omega, b13⟩
      · refine jr_ifT_eq (t := 21) dX2_isCalled_16 (by decide) (by decide) (by decide) ?_
        refine jr_iinc2 (n := 24) dX2_isCalled_21 rfl (by decide) rfl ?_
        refine jr_goto (t := 2) dX2_isCalled_24 (by decide) ?_
        exact ih (i + 1) (by omega) (by omega) (fun j j0 j1 => by
          by_cases e : j = i
          · subst e; exact b13
          · exact ha j j0 (by omega)) (by omega)

theorem c_isCalled {G : jG} {d : Nat} {M : jMem} {Q : Option Value → jMem → Prop} (hI : jK M) {v : Int} (h1 : jcld (M 1 8) (M 13) v → Q (some (.int (jI 1))) M) (h0 : ¬ jcld (M 1 8) (M 13) v → Q (some (.int (jI 0))) M) : jN G mX2_isCalled (d + 2) [.ref (jad G 1), .int (jI v)] M Q := by
  show jM G mX2_isCalled (d + 2) 0 [.ref (jad G 1), .int (jI v), .null] [] M Q
  have hs := jn1 hI
  refine jr_iconst (n := 1) dX2_isCalled_0 rfl ?_
  refine jr_istore2 (n := 2) dX2_isCalled_1 rfl (by decide) rfl ?_
  exact c_isCalled_l hI h1 h0 ((M 1 8).toNat + 1) 0 (by omega) (by omega) (fun j j0 j1 => absurd j1 (by omega)) (by omega)

theorem c_begins {G : jG} {d : Nat} {M : jMem} {Q : Option Value → jMem → Prop} (hI : jK M) {k v : Int} (hk : jR k) (hv : jR v) (hB : ¬ ((0 ≤ k ∧ k < M 1 8) ∧ (0 ≤ v ∧ v ≤ 2)) → Q (some (.long (jL (-9000000000000000001)))) M) (hN : 0 ≤ k → k < M 1 8 → 0 ≤ v → v ≤ 2 → (jdy (M 1 8) (M 2 3) (M 16) (M 17) (M 13) (M 14) (M 11) (jclC M) 200).1 k = -1 → ∀ N, jFC M N → Q (some (.long (jL (-9000000000000000005)))) N) (h0 : 0 ≤ k → k < M 1 8 → (jdy (M 1 8) (M 2 3) (M 16) (M 17) (M 13) (M 14) (M 11) (jclC M) 200).1 k ≠ -1 → v = 0 → ∀ N, jFC M N → Q (some (.long (jL ((jdy (M 1 8) (M 2 3) (M 16) (M 17) (M 13) (M 14) (M 11) (jclC M) 200).1 k)))) N) (h1 : 0 ≤ k → k < M 1 8 → (jdy (M 1 8) (M 2 3) (M 16) (M 17) (M 13) (M 14) (M 11) (jclC M) 200).1 k ≠ -1 → v = 1 → ∀ N, jFC M N → Q (some (.long (jL ((jdy (M 1 8) (M 2 3) (M 16) (M 17) (M 13) (M 14) (M 11) (jclC M) 200).2.1 k)))) N) (h2 : 0 ≤ k → k < M 1 8 → (jdy (M 1 8) (M 2 3) (M 16) (M 17) (M 13) (M 14) (M 11) (jclC M) 200).1 k ≠ -1 → v = 2 → M 14 k = 0 → ∀ N, jFC M N → Q (some (.long (jL 1))) N) (h3 : 0 ≤ k → k < M 1 8 → (jdy (M 1 8) (M 2 3) (M 16) (M 17) (M 13) (M 14) (M 11) (jclC M) 200).1 k ≠ -1 → v = 2 → M 14 k ≠ 0 → ∀ N, jFC M N → Q (some (.long (jL 0))) N) : jN G mX7_begins (d + 5) [.ref (jad G 0), .int (jI k), .int (jI v)] M Q := by
  show jM G mX7_begins (d + 5) 0 [.ref (jad G 0), .int (jI k), .int (jI v)] [] M Q
  have hz := jn1 hI
  generalize hσ : jdy (M 1 8) (M 2 3) (M 16) (M 17) (M 13) (M 14) (M 11) (jclC M) 200 = σ at hN h0 h1 h2 h3
  refine jr_aload_n (n := 1) dX7_begins_0 rfl rfl ?_
  refine jr_getR (n := 4) dX7_begins_1 rfl fX7_10 rfl (by decide) (by decide) rfl ?_
  refine jr_iload_n (n := 5) dX7_begins_4 rfl rfl ?_
  refine jr_cV1 (n := 8) (ci := 2) (ν := mX2_has) dX7_begins_5 rfl lX7_99 kX2_has iX2_has rfl ⟨_, rfl, rfl⟩ (by decide) (Nat.le_of_ble_eq_true rfl) (Nat.le_of_ble_eq_true rfl) rfl ?_
  refine c_hasC (by omega) (by omega) (fun b5 b5b => ?_) (fun b5 => ?_)
  · refine jr_ifF_eq (n := 11) (t := 20) dX7_begins_8 rfl (by decide) (by decide) (by decide) ?_
    refine jr_iload_n (n := 12) dX7_begins_11 rfl rfl ?_
    refine jr_iconst (n := 13) dX7_begins_12 rfl ?_
    refine jr_iconst (n := 14) dX7_begins_13 rfl ?_
    refine jr_cS3 (n := 17) (ν := mX7_isWithin) dX7_begins_14 rfl lX7_66 kX7_isWithin iX7_isWithin (Nat.le_of_ble_eq_true rfl) (Nat.le_of_ble_eq_true rfl) rfl ?_
    refine c_isWithin (by omega) (by omega) (by omega) (fun b14 b14b => ?_) (fun b14 => ?_)
    · refine jr_ifT_ne (t := 24) dX7_begins_17 (by decide) (by decide) (by decide) ?_
      refine jr_aload_n (n := 25) dX7_begins_24 rfl rfl ?_
      refine jr_getR (n := 28) dX7_begins_25 rfl fX7_33 rfl (by decide) (by decide) rfl ?_
      refine jr_aload_n (n := 29) dX7_begins_28 rfl rfl ?_
      refine jr_getR (n := 32) dX7_begins_29 rfl fX7_10 rfl (by decide) (by decide) rfl ?_
      refine jr_cV1 (n := 35) (ci := 1) (ν := mX1_run) dX7_begins_32 rfl lX7_171 kX1_run iX1_run rfl ⟨_, rfl, rfl⟩ (by decide) (Nat.le_of_ble_eq_true rfl) (Nat.le_of_ble_eq_true rfl) rfl ?_
      refine c_run hI (fun N hD => ?_)
      rw [hσ] at hD
      have hV := jIv_dy (cl := jclC M) (jSD_of hI) 200 (by omega)
      rw [hσ] at hV
      have hq := hD.2.1 k (by omega) (by omega)
      have hq2 := hV.2.1 k (by omega) (by omega)
      have n14 := hD.1 14 (by decide) (by decide)
      have hfa := (jn3 hI k (by omega) (by omega)).2.2.2.2
      refine jr_aload_n (n := 36) dX7_begins_35 rfl rfl ?_
      refine jr_getR (n := 39) dX7_begins_36 rfl fX7_33 rfl (by decide) (by decide) rfl ?_
      refine jr_getR (n := 42) dX7_begins_39 rfl fX7_175 rfl (by decide) (by decide) rfl ?_
      refine jr_iload_n (n := 43) dX7_begins_42 rfl rfl ?_
      refine jr_iald (n := 44) dX7_begins_43 rfl rfl (by decide) (by omega) (by omega) ?_
      rw [hq.1]
      refine jr_iconst (n := 45) dX7_begins_44 rfl ?_
      refine jr_icmp_ne (n := 48) (t := 52) dX7_begins_45 (by decide) rfl (by omega) (by omega) (fun b45 => ?_) (fun b45 => ?_)
      · refine jr_iload_n (n := 53) dX7_begins_52 rfl rfl ?_
        refine jr_iconst (n := 54) dX7_begins_53 rfl ?_
        refine jr_icmp_ne (n := 57) (t := 69) dX7_begins_54 (by decide) rfl (by omega) (by omega) (fun b54 => ?_) (fun b54 => ?_)
        · refine jr_iload_n (n := 70) dX7_begins_69 rfl rfl ?_
          refine jr_if_ne (n := 73) (t := 86) dX7_begins_70 (by decide) rfl (by omega) (fun b70 => ?_) (fun b70 => ?_)
          · refine jr_aload_n (n := 87) dX7_begins_86 rfl rfl ?_
            refine jr_getR (n := 90) dX7_begins_87 rfl fX7_33 rfl (by decide) (by decide) rfl ?_
            refine jr_getR (n := 93) dX7_begins_90 rfl fX7_181 rfl (by decide) (by decide) rfl ?_
            refine jr_iload_n (n := 94) dX7_begins_93 rfl rfl ?_
            refine jr_iald (n := 95) dX7_begins_94 rfl rfl (by decide) (by omega) (by omega) ?_
            rw [hq.2]
            refine jr_i2l (n := 96) dX7_begins_95 rfl (by omega) ?_
            refine jr_lret dX7_begins_96 rfl ?_
            first | exact hB (by omega) | exact hN (by omega) (by omega) (by omega) (by omega) b45 N hD.1 | exact h0 (by omega) (by omega) b45 (by omega) N hD.1 | exact h1 (by omega) (by omega) b45 (by omega) N hD.1 | exact h2 (by omega) (by omega) b45 (by omega) b62 N hD.1 | exact h3 (by omega) (by omega) b45 (by omega) b62 N hD.1
          · refine jr_aload_n (n := 74) dX7_begins_73 rfl rfl ?_
            refine jr_getR (n := 77) dX7_begins_74 rfl fX7_33 rfl (by decide) (by decide) rfl ?_
            refine jr_getR (n := 80) dX7_begins_77 rfl fX7_175 rfl (by decide) (by decide) rfl ?_
            refine jr_iload_n (n := 81) dX7_begins_80 rfl rfl ?_
            refine jr_iald (n := 82) dX7_begins_81 rfl rfl (by decide) (by omega) (by omega) ?_
            rw [hq.1]
            refine jr_i2l (n := 83) dX7_begins_82 rfl (by omega) ?_
            refine jr_goto (t := 96) dX7_begins_83 (by decide) ?_
            refine jr_lret dX7_begins_96 rfl ?_
            first | exact hB (by omega) | exact hN (by omega) (by omega) (by omega) (by omega) b45 N hD.1 | exact h0 (by omega) (by omega) b45 (by omega) N hD.1 | exact h1 (by omega) (by omega) b45 (by omega) N hD.1 | exact h2 (by omega) (by omega) b45 (by omega) b62 N hD.1 | exact h3 (by omega) (by omega) b45 (by omega) b62 N hD.1
        · refine jr_aload_n (n := 58) dX7_begins_57 rfl rfl ?_
          refine jr_getR (n := 61) dX7_begins_58 rfl fX7_10 rfl (by decide) (by decide) rfl ?_
          refine jr_iload_n (n := 62) dX7_begins_61 rfl rfl ?_
          refine jr_cV1 (n := 65) (ci := 2) (ν := mX2_isFolded) dX7_begins_62 rfl lX7_178 kX2_isFolded iX2_isFolded rfl ⟨_, rfl, rfl⟩ (by decide) (Nat.le_of_ble_eq_true rfl) (Nat.le_of_ble_eq_true rfl) rfl ?_
          refine c_isFolded (by omega) (by rw [n14]; omega) (fun b62 => ?_) (fun b62 => ?_)
          all_goals rw [n14] at b62
          · refine jr_cS1 (n := 68) (ν := mX7_asLong) dX7_begins_65 rfl lX7_95 kX7_asLong iX7_asLong (Nat.le_of_ble_eq_true rfl) (Nat.le_of_ble_eq_true rfl) rfl ?_
            refine c_asLong (by omega) ?_
            refine jr_lret dX7_begins_68 rfl ?_
            first | exact hB (by omega) | exact hN (by omega) (by omega) (by omega) (by omega) b45 N hD.1 | exact h0 (by omega) (by omega) b45 (by omega) N hD.1 | exact h1 (by omega) (by omega) b45 (by omega) N hD.1 | exact h2 (by omega) (by omega) b45 (by omega) b62 N hD.1 | exact h3 (by omega) (by omega) b45 (by omega) b62 N hD.1
          · refine jr_cS1 (n := 68) (ν := mX7_asLong) dX7_begins_65 rfl lX7_95 kX7_asLong iX7_asLong (Nat.le_of_ble_eq_true rfl) (Nat.le_of_ble_eq_true rfl) rfl ?_
            refine c_asLong (by omega) ?_
            refine jr_lret dX7_begins_68 rfl ?_
            first | exact hB (by omega) | exact hN (by omega) (by omega) (by omega) (by omega) b45 N hD.1 | exact h0 (by omega) (by omega) b45 (by omega) N hD.1 | exact h1 (by omega) (by omega) b45 (by omega) N hD.1 | exact h2 (by omega) (by omega) b45 (by omega) b62 N hD.1 | exact h3 (by omega) (by omega) b45 (by omega) b62 N hD.1
      · refine jr_ldc2 (n := 51) dX7_begins_48 rfl rfl qX7_130 vX7_130 ?_
        refine jr_lret dX7_begins_51 rfl ?_
        first | exact hB (by omega) | exact hN (by omega) (by omega) (by omega) (by omega) b45 N hD.1 | exact h0 (by omega) (by omega) b45 (by omega) N hD.1 | exact h1 (by omega) (by omega) b45 (by omega) N hD.1 | exact h2 (by omega) (by omega) b45 (by omega) b62 N hD.1 | exact h3 (by omega) (by omega) b45 (by omega) b62 N hD.1
    · refine jr_ifF_ne (n := 20) (t := 24) dX7_begins_17 rfl (by decide) (by decide) (by decide) ?_
      refine jr_ldc2 (n := 23) dX7_begins_20 rfl rfl qX7_70 vX7_70 ?_
      refine jr_lret dX7_begins_23 rfl ?_
      first | exact hB (by omega) | exact hN (by omega) (by omega) (by omega) (by omega) b45 N hD.1 | exact h0 (by omega) (by omega) b45 (by omega) N hD.1 | exact h1 (by omega) (by omega) b45 (by omega) N hD.1 | exact h2 (by omega) (by omega) b45 (by omega) b62 N hD.1 | exact h3 (by omega) (by omega) b45 (by omega) b62 N hD.1
  · refine jr_ifT_eq (t := 20) dX7_begins_8 (by decide) (by decide) (by decide) ?_
    refine jr_ldc2 (n := 23) dX7_begins_20 rfl rfl qX7_70 vX7_70 ?_
    refine jr_lret dX7_begins_23 rfl ?_
    first | exact hB (by omega) | exact hN (by omega) (by omega) (by omega) (by omega) b45 N hD.1 | exact h0 (by omega) (by omega) b45 (by omega) N hD.1 | exact h1 (by omega) (by omega) b45 (by omega) N hD.1 | exact h2 (by omega) (by omega) b45 (by omega) b62 N hD.1 | exact h3 (by omega) (by omega) b45 (by omega) b62 N hD.1

theorem c_waited {G : jG} {d : Nat} {M : jMem} {Q : Option Value → jMem → Prop} (hI : jK M) {v k : Int} (hv : jR v) (hk : jR k) (hB : ¬ ((0 ≤ v ∧ v < M 2 3) ∧ (0 ≤ k ∧ k < M 1 8)) → Q (some (.long (jL (-9000000000000000001)))) M) (hN : 0 ≤ v → v < M 2 3 → 0 ≤ k → k < M 1 8 → ¬ jbit (M 13 k) v → Q (some (.long (jL (-9000000000000000002)))) M) (h : 0 ≤ v → v < M 2 3 → 0 ≤ k → k < M 1 8 → jbit (M 13 k) v → ∀ N, jFC M N → Q (some (.long (jL (jwc (M 1 8) (M 13) (jdy (M 1 8) (M 2 3) (M 16) (M 17) (M 13) (M 14) (M 11) (jclC M) 200) v k (jclC M k v))))) N) : jN G mX7_waited (d + 5) [.ref (jad G 0), .int (jI v), .int (jI k)] M Q := by
  show jM G mX7_waited (d + 5) 0 [.ref (jad G 0), .int (jI v), .int (jI k)] [] M Q
  have hz := jn1 hI
  generalize hσ : jdy (M 1 8) (M 2 3) (M 16) (M 17) (M 13) (M 14) (M 11) (jclC M) 200 = σ at h
  refine jr_aload_n (n := 1) dX7_waited_0 rfl rfl ?_
  refine jr_getR (n := 4) dX7_waited_1 rfl fX7_19 rfl (by decide) (by decide) rfl ?_
  refine jr_iload_n (n := 5) dX7_waited_4 rfl rfl ?_
  refine jr_cV1 (n := 8) (ci := 4) (ν := mX4_has) dX7_waited_5 rfl lX7_89 kX4_has iX4_has rfl ⟨_, rfl, rfl⟩ (by decide) (Nat.le_of_ble_eq_true rfl) (Nat.le_of_ble_eq_true rfl) rfl ?_
  refine c_hasW (by omega) (by omega) (fun b5 b5b => ?_) (fun b5 => ?_)
  · refine jr_ifF_eq (n := 11) (t := 22) dX7_waited_8 rfl (by decide) (by decide) (by decide) ?_
    refine jr_aload_n (n := 12) dX7_waited_11 rfl rfl ?_
    refine jr_getR (n := 15) dX7_waited_12 rfl fX7_10 rfl (by decide) (by decide) rfl ?_
    refine jr_iload_n (n := 16) dX7_waited_15 rfl rfl ?_
    refine jr_cV1 (n := 19) (ci := 2) (ν := mX2_has) dX7_waited_16 rfl lX7_99 kX2_has iX2_has rfl ⟨_, rfl, rfl⟩ (by decide) (Nat.le_of_ble_eq_true rfl) (Nat.le_of_ble_eq_true rfl) rfl ?_
    refine c_hasC (by omega) (by omega) (fun b16 b16b => ?_) (fun b16 => ?_)
    · refine jr_ifT_ne (t := 26) dX7_waited_19 (by decide) (by decide) (by decide) ?_
      refine jr_aload_n (n := 27) dX7_waited_26 rfl rfl ?_
      refine jr_getR (n := 30) dX7_waited_27 rfl fX7_10 rfl (by decide) (by decide) rfl ?_
      refine jr_iload_n (n := 31) dX7_waited_30 rfl rfl ?_
      refine jr_iload_n (n := 32) dX7_waited_31 rfl rfl ?_
      refine jr_cV2 (n := 35) (ci := 2) (ν := mX2_hasNeedOf) dX7_waited_32 rfl lX7_163 kX2_hasNeedOf iX2_hasNeedOf rfl ⟨_, rfl, rfl⟩ (by decide) (Nat.le_of_ble_eq_true rfl) (Nat.le_of_ble_eq_true rfl) rfl ?_
      refine c_hasNeedOf (by omega) (fun b32 => ?_) (fun b32 => ?_)
      · refine jr_ifT_ne (t := 42) dX7_waited_35 (by decide) (by decide) (by decide) ?_
        refine jr_aload_n (n := 43) dX7_waited_42 rfl rfl ?_
        refine jr_getR (n := 46) dX7_waited_43 rfl fX7_33 rfl (by decide) (by decide) rfl ?_
        refine jr_aload_n (n := 47) dX7_waited_46 rfl rfl ?_
        refine jr_getR (n := 50) dX7_waited_47 rfl fX7_10 rfl (by decide) (by decide) rfl ?_
        refine jr_cV1 (n := 53) (ci := 1) (ν := mX1_run) dX7_waited_50 rfl lX7_171 kX1_run iX1_run rfl ⟨_, rfl, rfl⟩ (by decide) (Nat.le_of_ble_eq_true rfl) (Nat.le_of_ble_eq_true rfl) rfl ?_
        refine c_run hI (fun N hD => ?_)
        rw [hσ] at hD
        have hV := jIv_dy (cl := jclC M) (jSD_of hI) 200 (by omega)
        rw [hσ] at hV
        have hw := jwc_b hV (v := v) (k := k) (a := jclC M k v) (by omega) (by omega) (jclC_0 hI k v).1
        refine jr_aload_n (n := 54) dX7_waited_53 rfl rfl ?_
        refine jr_getR (n := 57) dX7_waited_54 rfl fX7_33 rfl (by decide) (by decide) rfl ?_
        refine jr_aload_n (n := 58) dX7_waited_57 rfl rfl ?_
        refine jr_getR (n := 61) dX7_waited_58 rfl fX7_10 rfl (by decide) (by decide) rfl ?_
        refine jr_iload_n (n := 62) dX7_waited_61 rfl rfl ?_
        refine jr_iload_n (n := 63) dX7_waited_62 rfl rfl ?_
        refine jr_cV3 (n := 66) (ci := 1) (ν := mX1_waitFor) dX7_waited_63 rfl lX7_184 kX1_waitFor iX1_waitFor rfl ⟨_, rfl, rfl⟩ (by decide) (Nat.le_of_ble_eq_true rfl) (Nat.le_of_ble_eq_true rfl) rfl ?_
        refine c_waitFor hI (by omega) (by omega) b32 hD hV ?_
        refine jr_i2l (n := 67) dX7_waited_66 rfl (by omega) ?_
        refine jr_lret dX7_waited_67 rfl ?_
        first | exact hB (by omega) | exact hN (by omega) (by omega) (by omega) (by omega) b32 | exact h (by omega) (by omega) (by omega) (by omega) b32 N hD.1
      · refine jr_ifF_ne (n := 38) (t := 42) dX7_waited_35 rfl (by decide) (by decide) (by decide) ?_
        refine jr_ldc2 (n := 41) dX7_waited_38 rfl rfl qX7_166 vX7_166 ?_
        refine jr_lret dX7_waited_41 rfl ?_
        first | exact hB (by omega) | exact hN (by omega) (by omega) (by omega) (by omega) b32 | exact h (by omega) (by omega) (by omega) (by omega) b32 N hD.1
    · refine jr_ifF_ne (n := 22) (t := 26) dX7_waited_19 rfl (by decide) (by decide) (by decide) ?_
      refine jr_ldc2 (n := 25) dX7_waited_22 rfl rfl qX7_70 vX7_70 ?_
      refine jr_lret dX7_waited_25 rfl ?_
      first | exact hB (by omega) | exact hN (by omega) (by omega) (by omega) (by omega) b32 | exact h (by omega) (by omega) (by omega) (by omega) b32 N hD.1
  · refine jr_ifT_eq (t := 22) dX7_waited_8 (by decide) (by decide) (by decide) ?_
    refine jr_ldc2 (n := 25) dX7_waited_22 rfl rfl qX7_70 vX7_70 ?_
    refine jr_lret dX7_waited_25 rfl ?_
    first | exact hB (by omega) | exact hN (by omega) (by omega) (by omega) (by omega) b32 | exact h (by omega) (by omega) (by omega) (by omega) b32 N hD.1

theorem c_idle {G : jG} {d : Nat} {M : jMem} {Q : Option Value → jMem → Prop} (hI : jK M) {c v : Int} (hc : jR c) (hv : jR v) (hB : ¬ ((0 ≤ c ∧ c ≤ 2) ∧ (0 ≤ v ∧ v ≤ 1)) → Q (some (.long (jL (-9000000000000000001)))) M) (h : 0 ≤ c → c ≤ 2 → 0 ≤ v → v ≤ 1 → ∀ N, jFC M N → Q (some (.long (jL ((jdy (M 1 8) (M 2 3) (M 16) (M 17) (M 13) (M 14) (M 11) (jclC M) 200).2.2.1 (2 * c + v))))) N) : jN G mX7_idle (d + 5) [.ref (jad G 0), .int (jI c), .int (jI v)] M Q := by
  show jM G mX7_idle (d + 5) 0 [.ref (jad G 0), .int (jI c), .int (jI v)] [] M Q
  generalize hσ : jdy (M 1 8) (M 2 3) (M 16) (M 17) (M 13) (M 14) (M 11) (jclC M) 200 = σ at h
  refine jr_iload_n (n := 1) dX7_idle_0 rfl rfl ?_
  refine jr_cS1 (n := 4) (ν := mX7_isCourt) dX7_idle_1 rfl lX7_62 kX7_isCourt iX7_isCourt (Nat.le_of_ble_eq_true rfl) (Nat.le_of_ble_eq_true rfl) rfl ?_
  refine c_isCourt (by omega) (fun b1 b1b => ?_) (fun b1 => ?_)
  · refine jr_ifF_eq (n := 7) (t := 16) dX7_idle_4 rfl (by decide) (by decide) (by decide) ?_
    refine jr_iload_n (n := 8) dX7_idle_7 rfl rfl ?_
    refine jr_iconst (n := 9) dX7_idle_8 rfl ?_
    refine jr_iconst (n := 10) dX7_idle_9 rfl ?_
    refine jr_cS3 (n := 13) (ν := mX7_isWithin) dX7_idle_10 rfl lX7_66 kX7_isWithin iX7_isWithin (Nat.le_of_ble_eq_true rfl) (Nat.le_of_ble_eq_true rfl) rfl ?_
    refine c_isWithin (by omega) (by omega) (by omega) (fun b10 b10b => ?_) (fun b10 => ?_)
    · refine jr_ifT_ne (t := 20) dX7_idle_13 (by decide) (by decide) (by decide) ?_
      refine jr_aload_n (n := 21) dX7_idle_20 rfl rfl ?_
      refine jr_getR (n := 24) dX7_idle_21 rfl fX7_33 rfl (by decide) (by decide) rfl ?_
      refine jr_aload_n (n := 25) dX7_idle_24 rfl rfl ?_
      refine jr_getR (n := 28) dX7_idle_25 rfl fX7_10 rfl (by decide) (by decide) rfl ?_
      refine jr_cV1 (n := 31) (ci := 1) (ν := mX1_run) dX7_idle_28 rfl lX7_171 kX1_run iX1_run rfl ⟨_, rfl, rfl⟩ (by decide) (Nat.le_of_ble_eq_true rfl) (Nat.le_of_ble_eq_true rfl) rfl ?_
      refine c_run hI (fun N hD => ?_)
      rw [hσ] at hD
      have hV := jIv_dy (cl := jclC M) (jSD_of hI) 200 (by omega)
      rw [hσ] at hV
      have hx := hV.2.2.2.1 (2 * c + v)
      refine jr_aload_n (n := 32) dX7_idle_31 rfl rfl ?_
      refine jr_getR (n := 35) dX7_idle_32 rfl fX7_33 rfl (by decide) (by decide) rfl ?_
      refine jr_getR (n := 38) dX7_idle_35 rfl fX7_188 rfl (by decide) (by decide) rfl ?_
      refine jr_iload_n (n := 39) dX7_idle_38 rfl rfl ?_
      refine jr_iconst (n := 40) dX7_idle_39 rfl ?_
      refine jr_imul (n := 41) dX7_idle_40 rfl ?_
      refine jr_iload_n (n := 42) dX7_idle_41 rfl rfl ?_
      refine jr_iadd (n := 43) dX7_idle_42 rfl ?_
      refine jr_iald (n := 44) dX7_idle_43 rfl rfl (by decide) (by omega) (by omega) ?_
      rw [Int.mul_comm c 2, hD.2.2.1 _ (by omega) (by omega)]
      refine jr_i2l (n := 45) dX7_idle_44 rfl (by omega) ?_
      refine jr_lret dX7_idle_45 rfl ?_
      first | exact hB (by omega) | exact h (by omega) (by omega) (by omega) (by omega) N hD.1
    · refine jr_ifF_ne (n := 16) (t := 20) dX7_idle_13 rfl (by decide) (by decide) (by decide) ?_
      refine jr_ldc2 (n := 19) dX7_idle_16 rfl rfl qX7_70 vX7_70 ?_
      refine jr_lret dX7_idle_19 rfl ?_
      first | exact hB (by omega) | exact h (by omega) (by omega) (by omega) (by omega) N hD.1
  · refine jr_ifT_eq (t := 16) dX7_idle_4 (by decide) (by decide) (by decide) ?_
    refine jr_ldc2 (n := 19) dX7_idle_16 rfl rfl qX7_70 vX7_70 ?_
    refine jr_lret dX7_idle_19 rfl ?_
    first | exact hB (by omega) | exact h (by omega) (by omega) (by omega) (by omega) N hD.1

theorem c_waits_l {G : jG} {d : Nat} {M : jMem} {Q : Option Value → jMem → Prop} (hI : jK M) {N : jMem} {σ : jS} {s m : Int} (hD : jDC M N σ) (hV : jIv (M 1 8) (M 16) (M 17) (M 13) s m σ) (h : Q (some (.long (jL (jsum (fun u => jwo (M 1 8) (M 13) (jclC M) σ u) (M 2 3).toNat)))) N)  : ∀ (f : Nat) (i : Int), 0 ≤ i → i ≤ M 2 3 → M 2 3 - i < f → jM G mX7_waits (d + 5) 15 [.ref (jad G 0), .long (jL (jsum (fun u => jwo (M 1 8) (M 13) (jclC M) σ u) i.toNat)), .null, .int (jI i)] [] (N) Q := by
  intro f
  induction f with
  | zero =>
    intro i h0 h1 hf
    exact absurd hf (by omega)
  | succ f ih =>
    intro i h0 h1 hf
    have hs := jn1 hI
    have n2 := congrFun (hD.1 2 (by decide) (by decide)) 3
    refine jr_iload_n (n := 16) dX7_waits_15 rfl rfl ?_
    refine jr_aload_n (n := 17) dX7_waits_16 rfl rfl ?_
    refine jr_getR (n := 20) dX7_waits_17 rfl fX7_19 rfl (by decide) (by decide) rfl ?_
    refine jr_getI (n := 23) (i := 3) rfl dX7_waits_20 rfl fX7_85 rfl (by decide) (by decide) rfl ?_
    rw [n2]
    refine jr_icmp_ge (n := 26) (t := 48) dX7_waits_23 (by decide) rfl (by omega) (by omega) (fun b23 => ?_) (fun b23 => ?_)
    · refine jr_lload_n (n := 49) dX7_waits_48 rfl rfl ?_
      refine jr_lret dX7_waits_49 rfl ?_
      have e : i = M 2 3 := by omega
      subst e
      exact h
    · refine jr_lload_n (n := 27) dX7_waits_26 rfl rfl ?_
      refine jr_aload_n (n := 28) dX7_waits_27 rfl rfl ?_
      refine jr_getR (n := 31) dX7_waits_28 rfl fX7_33 rfl (by decide) (by decide) rfl ?_
      refine jr_aload_n (n := 32) dX7_waits_31 rfl rfl ?_
      refine jr_getR (n := 35) dX7_waits_32 rfl fX7_10 rfl (by decide) (by decide) rfl ?_
      refine jr_iload_n (n := 36) dX7_waits_35 rfl rfl ?_
      refine jr_cV2 (n := 39) (ci := 1) (ν := mX1_waitOf) dX7_waits_36 rfl lX7_191 kX1_waitOf iX1_waitOf rfl ⟨_, rfl, rfl⟩ (by decide) (Nat.le_of_ble_eq_true rfl) (Nat.le_of_ble_eq_true rfl) rfl ?_
      refine c_waitOf hI (by omega) hD hV ?_
      have hw := jwn_b (v := i) (i := (M 1 8).toNat) hV (fun k u => (jclC_0 hI k u).1) (by omega)
      refine jr_i2l (n := 40) dX7_waits_39 rfl (by unfold jwo; omega) ?_
      refine jr_ladd (n := 41) dX7_waits_40 rfl ?_
      refine jr_lstore1 (n := 42) dX7_waits_41 rfl (by decide) rfl ?_
      refine jr_iinc3 (n := 45) dX7_waits_42 rfl (by decide) rfl ?_
      refine jr_goto (t := 15) dX7_waits_45 (by decide) ?_
      have e := jsum_s (fun u => jwo (M 1 8) (M 13) (jclC M) σ u) h0
      rw [← e]
      exact ih (i + 1) (by omega) (by omega) (by omega)

theorem c_waits {G : jG} {d : Nat} {M : jMem} {Q : Option Value → jMem → Prop} (hI : jK M) (h : ∀ N, jFC M N → Q (some (.long (jL (jsum (fun u => jwo (M 1 8) (M 13) (jclC M) (jdy (M 1 8) (M 2 3) (M 16) (M 17) (M 13) (M 14) (M 11) (jclC M) 200) u) (M 2 3).toNat)))) N) : jN G mX7_waits (d + 5) [.ref (jad G 0)] M Q := by
  show jM G mX7_waits (d + 5) 0 [.ref (jad G 0), .null, .null, .null] [] M Q
  have hs := jn1 hI
  generalize hσ : jdy (M 1 8) (M 2 3) (M 16) (M 17) (M 13) (M 14) (M 11) (jclC M) 200 = σ at h
  refine jr_aload_n (n := 1) dX7_waits_0 rfl rfl ?_
  refine jr_getR (n := 4) dX7_waits_1 rfl fX7_33 rfl (by decide) (by decide) rfl ?_
  refine jr_aload_n (n := 5) dX7_waits_4 rfl rfl ?_
  refine jr_getR (n := 8) dX7_waits_5 rfl fX7_10 rfl (by decide) (by decide) rfl ?_
  refine jr_cV1 (n := 11) (ci := 1) (ν := mX1_run) dX7_waits_8 rfl lX7_171 kX1_run iX1_run rfl ⟨_, rfl, rfl⟩ (by decide) (Nat.le_of_ble_eq_true rfl) (Nat.le_of_ble_eq_true rfl) rfl ?_
  refine c_run hI (fun N hD => ?_)
  rw [hσ] at hD
  have hV := jIv_dy (cl := jclC M) (jSD_of hI) 200 (by omega)
  rw [hσ] at hV
  refine jr_lconst (n := 12) (x := 0) dX7_waits_11 rfl (by decide) ?_
  refine jr_lstore1 (n := 13) dX7_waits_12 rfl (by decide) rfl ?_
  refine jr_iconst (n := 14) dX7_waits_13 rfl ?_
  refine jr_istore3 (n := 15) dX7_waits_14 rfl (by decide) rfl ?_
  exact c_waits_l hI hD hV (h N hD.1) ((M 2 3).toNat + 1) 0 (by omega) (by omega) (by omega)

theorem c_pay {G : jG} {d : Nat} {M : jMem} {Q : Option Value → jMem → Prop} (hI : jK M) {v : Int} (hv : jR v) (hB : ¬ (0 ≤ v ∧ v < M 2 3) → Q (some (.long (jL (-9000000000000000001)))) M) (h0 : 0 ≤ v → v < M 2 3 → (M 18 v = 1 ∨ ¬ jcld (M 1 8) (M 13) v) → Q (some (.long (jL 0))) M) (h1 : 0 ≤ v → v < M 2 3 → 3 ≤ M 18 v → jcld (M 1 8) (M 13) v → Q (some (.long (jL (2 * M 19 v * M 9 3)))) M) (h2 : 0 ≤ v → v < M 2 3 → M 18 v = 2 → jcld (M 1 8) (M 13) v → ∀ N, jFC M N → Q (some (.long (jL ((jdiv (jwo (M 1 8) (M 13) (jclC M) (jdy (M 1 8) (M 2 3) (M 16) (M 17) (M 13) (M 14) (M 11) (jclC M) 200) v) 4) * M 9 2 + (2 * M 19 v * M 9 3) + (jsum (jhn (M 13) (M 14) (jdy (M 1 8) (M 2 3) (M 16) (M 17) (M 13) (M 14) (M 11) (jclC M) 200) v) (M 1 8).toNat) * M 9 4)))) N) (h3 : 0 ≤ v → v < M 2 3 → M 18 v = 0 → jcld (M 1 8) (M 13) v → ∀ N, jFC M N → Q (some (.long (jL ((jdiv (jwo (M 1 8) (M 13) (jclC M) (jdy (M 1 8) (M 2 3) (M 16) (M 17) (M 13) (M 14) (M 11) (jclC M) 200) v) 4) * M 9 2 + (2 * M 19 v * M 9 3) + 0)))) N) : jN G mX7_pay (d + 5) [.ref (jad G 0), .int (jI v)] M Q := by
  show jM G mX7_pay (d + 5) 0 [.ref (jad G 0), .int (jI v), .null, .null, .null, .null, .null, .null, .null] [] M Q
  have hz := jn1 hI
  generalize hσ : jdy (M 1 8) (M 2 3) (M 16) (M 17) (M 13) (M 14) (M 11) (jclC M) 200 = σ at h2 h3
  refine jr_aload_n (n := 1) dX7_pay_0 rfl rfl ?_
  refine jr_getR (n := 4) dX7_pay_1 rfl fX7_19 rfl (by decide) (by decide) rfl ?_
  refine jr_iload_n (n := 5) dX7_pay_4 rfl rfl ?_
  refine jr_cV1 (n := 8) (ci := 4) (ν := mX4_has) dX7_pay_5 rfl lX7_89 kX4_has iX4_has rfl ⟨_, rfl, rfl⟩ (by decide) (Nat.le_of_ble_eq_true rfl) (Nat.le_of_ble_eq_true rfl) rfl ?_
  refine c_hasW (by omega) (by omega) (fun b5 b5b => ?_) (fun b5 => ?_)
  · refine jr_ifT_ne (t := 15) dX7_pay_8 (by decide) (by decide) (by decide) ?_
    have hr := jn9 hI v (by omega) (by omega)
    have u2 := jn11 hI 2 (by omega) (by omega)
    have u3 := jn11 hI 3 (by omega) (by omega)
    have u4 := jn11 hI 4 (by omega) (by omega)
    refine jr_aload_n (n := 16) dX7_pay_15 rfl rfl ?_
    refine jr_getR (n := 19) dX7_pay_16 rfl fX7_19 rfl (by decide) (by decide) rfl ?_
    refine jr_getR (n := 22) dX7_pay_19 rfl fX7_92 rfl (by decide) (by decide) rfl ?_
    refine jr_iload_n (n := 23) dX7_pay_22 rfl rfl ?_
    refine jr_iald (n := 24) dX7_pay_23 rfl rfl (by decide) (by omega) (by omega) ?_
    refine jr_istore2 (n := 25) dX7_pay_24 rfl (by decide) rfl ?_
    refine jr_iload_n (n := 26) dX7_pay_25 rfl rfl ?_
    refine jr_iconst (n := 27) dX7_pay_26 rfl ?_
    refine jr_icmp_eq (n := 30) (t := 41) dX7_pay_27 (by decide) rfl (by omega) (by omega) (fun b27 => ?_) (fun b27 => ?_)
    · refine jr_lconst (n := 42) (x := 0) dX7_pay_41 rfl (by decide) ?_
      refine jr_lret dX7_pay_42 rfl ?_
      first | exact hB (by omega) | exact h0 (by omega) (by omega) (Or.inl (by omega)) | exact h0 (by omega) (by omega) (Or.inr b35) | exact h1 (by omega) (by omega) (by omega) b35 | exact h2 (by omega) (by omega) (by omega) b35 N hD.1 | exact h3 (by omega) (by omega) (by omega) b35 N hD.1
    · refine jr_aload_n (n := 31) dX7_pay_30 rfl rfl ?_
      refine jr_getR (n := 34) dX7_pay_31 rfl fX7_10 rfl (by decide) (by decide) rfl ?_
      refine jr_iload_n (n := 35) dX7_pay_34 rfl rfl ?_
      refine jr_cV1 (n := 38) (ci := 2) (ν := mX2_isCalled) dX7_pay_35 rfl lX7_195 kX2_isCalled iX2_isCalled rfl ⟨_, rfl, rfl⟩ (by decide) (Nat.le_of_ble_eq_true rfl) (Nat.le_of_ble_eq_true rfl) rfl ?_
      refine c_isCalled hI (fun b35 => ?_) (fun b35 => ?_)
      · refine jr_ifT_ne (t := 43) dX7_pay_38 (by decide) (by decide) (by decide) ?_
        refine jr_ldc2 (n := 46) dX7_pay_43 rfl rfl qX7_198 vX7_198 ?_
        refine jr_aload_n (n := 47) dX7_pay_46 rfl rfl ?_
        refine jr_getR (n := 50) dX7_pay_47 rfl fX7_19 rfl (by decide) (by decide) rfl ?_
        refine jr_getR (n := 53) dX7_pay_50 rfl fX7_107 rfl (by decide) (by decide) rfl ?_
        refine jr_iload_n (n := 54) dX7_pay_53 rfl rfl ?_
        refine jr_iald (n := 55) dX7_pay_54 rfl rfl (by decide) (by omega) (by omega) ?_
        refine jr_i2l (n := 56) dX7_pay_55 rfl (by omega) ?_
        refine jr_lmul (n := 57) dX7_pay_56 rfl ?_
        refine jr_aload_n (n := 58) dX7_pay_57 rfl rfl ?_
        refine jr_getR (n := 61) dX7_pay_58 rfl fX7_58 rfl (by decide) (by decide) rfl ?_
        refine jr_iconst (n := 62) dX7_pay_61 rfl ?_
        refine jr_iald (n := 63) dX7_pay_62 rfl rfl (by decide) (by omega) (by omega) ?_
        refine jr_i2l (n := 64) dX7_pay_63 rfl (by omega) ?_
        refine jr_lmul (n := 65) dX7_pay_64 rfl ?_
        refine jr_lstore3 (n := 66) dX7_pay_65 rfl (by decide) rfl ?_
        refine jr_iload_n (n := 67) dX7_pay_66 rfl rfl ?_
        refine jr_iconst (n := 68) dX7_pay_67 rfl ?_
        refine jr_icmp_eq (n := 71) (t := 76) dX7_pay_68 (by decide) rfl (by omega) (by omega) (fun b68 => ?_) (fun b68 => ?_)
        · refine jr_lload_n (n := 77) dX7_pay_76 rfl rfl ?_
          refine jr_lret dX7_pay_77 rfl ?_
          first | exact hB (by omega) | exact h0 (by omega) (by omega) (Or.inl (by omega)) | exact h0 (by omega) (by omega) (Or.inr b35) | exact h1 (by omega) (by omega) (by omega) b35 | exact h2 (by omega) (by omega) (by omega) b35 N hD.1 | exact h3 (by omega) (by omega) (by omega) b35 N hD.1
        · refine jr_iload_n (n := 72) dX7_pay_71 rfl rfl ?_
          refine jr_iconst (n := 73) dX7_pay_72 rfl ?_
          refine jr_icmp_ne (n := 76) (t := 78) dX7_pay_73 (by decide) rfl (by omega) (by omega) (fun b73 => ?_) (fun b73 => ?_)
          · refine jr_aload_n (n := 79) dX7_pay_78 rfl rfl ?_
            refine jr_getR (n := 82) dX7_pay_79 rfl fX7_33 rfl (by decide) (by decide) rfl ?_
            refine jr_aload_n (n := 83) dX7_pay_82 rfl rfl ?_
            refine jr_getR (n := 86) dX7_pay_83 rfl fX7_10 rfl (by decide) (by decide) rfl ?_
            refine jr_cV1 (n := 89) (ci := 1) (ν := mX1_run) dX7_pay_86 rfl lX7_171 kX1_run iX1_run rfl ⟨_, rfl, rfl⟩ (by decide) (Nat.le_of_ble_eq_true rfl) (Nat.le_of_ble_eq_true rfl) rfl ?_
            refine c_run hI (fun N hD => ?_)
            rw [hσ] at hD
            have hV := jIv_dy (cl := jclC M) (jSD_of hI) 200 (by omega)
            rw [hσ] at hV
            have n9 := hD.1 9 (by decide) (by decide)
            have hh := jhn_b (ne := M 13) (fa := M 14) σ v (M 1 8).toNat
            refine jr_aload_n (n := 90) dX7_pay_89 rfl rfl ?_
            refine jr_getR (n := 93) dX7_pay_90 rfl fX7_33 rfl (by decide) (by decide) rfl ?_
            refine jr_aload_n (n := 94) dX7_pay_93 rfl rfl ?_
            refine jr_getR (n := 97) dX7_pay_94 rfl fX7_10 rfl (by decide) (by decide) rfl ?_
            refine jr_iload_n (n := 98) dX7_pay_97 rfl rfl ?_
            refine jr_cV2 (n := 101) (ci := 1) (ν := mX1_waitOf) dX7_pay_98 rfl lX7_191 kX1_waitOf iX1_waitOf rfl ⟨_, rfl, rfl⟩ (by decide) (Nat.le_of_ble_eq_true rfl) (Nat.le_of_ble_eq_true rfl) rfl ?_
            refine c_waitOf hI (by omega) hD hV ?_
            refine jr_iconst (n := 102) dX7_pay_101 rfl ?_
            refine jr_idiv (n := 103) dX7_pay_102 rfl (by decide) ?_
            refine jr_i2l (n := 104) dX7_pay_103 rfl (jI_R _) ?_
            refine jr_lstore5 (n := 106) dX7_pay_104 rfl (by decide) rfl ?_
            refine jr_iload_n (n := 107) dX7_pay_106 rfl rfl ?_
            refine jr_iconst (n := 108) dX7_pay_107 rfl ?_
            refine jr_icmp_ne (n := 111) (t := 135) dX7_pay_108 (by decide) rfl (by omega) (by omega) (fun b108 => ?_) (fun b108 => ?_)
            · refine jr_lconst (n := 136) (x := 0) dX7_pay_135 rfl (by decide) ?_
              refine jr_lstore7 (n := 138) dX7_pay_136 rfl (by decide) rfl ?_
              refine jr_lload (n := 140) dX7_pay_138 rfl rfl ?_
              refine jr_aload_n (n := 141) dX7_pay_140 rfl rfl ?_
              refine jr_getR (n := 144) dX7_pay_141 rfl fX7_58 rfl (by decide) (by decide) rfl ?_
              refine jr_iconst (n := 145) dX7_pay_144 rfl ?_
              refine jr_iald (n := 146) dX7_pay_145 rfl rfl (by decide) (by omega) (by omega) ?_
              rw [n9]
              refine jr_i2l (n := 147) dX7_pay_146 rfl (by omega) ?_
              refine jr_lmul (n := 148) dX7_pay_147 rfl ?_
              refine jr_lload_n (n := 149) dX7_pay_148 rfl rfl ?_
              refine jr_ladd (n := 150) dX7_pay_149 rfl ?_
              refine jr_lload (n := 152) dX7_pay_150 rfl rfl ?_
              refine jr_ladd (n := 153) dX7_pay_152 rfl ?_
              refine jr_lret dX7_pay_153 rfl ?_
              first | exact hB (by omega) | exact h0 (by omega) (by omega) (Or.inl (by omega)) | exact h0 (by omega) (by omega) (Or.inr b35) | exact h1 (by omega) (by omega) (by omega) b35 | exact h2 (by omega) (by omega) (by omega) b35 N hD.1 | exact h3 (by omega) (by omega) (by omega) b35 N hD.1
            · refine jr_aload_n (n := 112) dX7_pay_111 rfl rfl ?_
              refine jr_getR (n := 115) dX7_pay_112 rfl fX7_33 rfl (by decide) (by decide) rfl ?_
              refine jr_aload_n (n := 116) dX7_pay_115 rfl rfl ?_
              refine jr_getR (n := 119) dX7_pay_116 rfl fX7_10 rfl (by decide) (by decide) rfl ?_
              refine jr_iload_n (n := 120) dX7_pay_119 rfl rfl ?_
              refine jr_cV2 (n := 123) (ci := 1) (ν := mX1_hearingsOf) dX7_pay_120 rfl lX7_200 kX1_hearingsOf iX1_hearingsOf rfl ⟨_, rfl, rfl⟩ (by decide) (Nat.le_of_ble_eq_true rfl) (Nat.le_of_ble_eq_true rfl) rfl ?_
              refine c_hearingsOf hI (by omega) hD hV ?_
              refine jr_i2l (n := 124) dX7_pay_123 rfl (by omega) ?_
              refine jr_aload_n (n := 125) dX7_pay_124 rfl rfl ?_
              refine jr_getR (n := 128) dX7_pay_125 rfl fX7_58 rfl (by decide) (by decide) rfl ?_
              refine jr_iconst (n := 129) dX7_pay_128 rfl ?_
              refine jr_iald (n := 130) dX7_pay_129 rfl rfl (by decide) (by omega) (by omega) ?_
              rw [n9]
              refine jr_i2l (n := 131) dX7_pay_130 rfl (by omega) ?_
              refine jr_lmul (n := 132) dX7_pay_131 rfl ?_
              refine jr_goto (t := 136) dX7_pay_132 (by decide) ?_
              refine jr_lstore7 (n := 138) dX7_pay_136 rfl (by decide) rfl ?_
              refine jr_lload (n := 140) dX7_pay_138 rfl rfl ?_
              refine jr_aload_n (n := 141) dX7_pay_140 rfl rfl ?_
              refine jr_getR (n := 144) dX7_pay_141 rfl fX7_58 rfl (by decide) (by decide) rfl ?_
              refine jr_iconst (n := 145) dX7_pay_144 rfl ?_
              refine jr_iald (n := 146) dX7_pay_145 rfl rfl (by decide) (by omega) (by omega) ?_
              rw [n9]
              refine jr_i2l (n := 147) dX7_pay_146 rfl (by omega) ?_
              refine jr_lmul (n := 148) dX7_pay_147 rfl ?_
              refine jr_lload_n (n := 149) dX7_pay_148 rfl rfl ?_
              refine jr_ladd (n := 150) dX7_pay_149 rfl ?_
              refine jr_lload (n := 152) dX7_pay_150 rfl rfl ?_
              refine jr_ladd (n := 153) dX7_pay_152 rfl ?_
              refine jr_lret dX7_pay_153 rfl ?_
              first | exact hB (by omega) | exact h0 (by omega) (by omega) (Or.inl (by omega)) | exact h0 (by omega) (by omega) (Or.inr b35) | exact h1 (by omega) (by omega) (by omega) b35 | exact h2 (by omega) (by omega) (by omega) b35 N hD.1 | exact h3 (by omega) (by omega) (by omega) b35 N hD.1
          · refine jr_lload_n (n := 77) dX7_pay_76 rfl rfl ?_
            refine jr_lret dX7_pay_77 rfl ?_
            first | exact hB (by omega) | exact h0 (by omega) (by omega) (Or.inl (by omega)) | exact h0 (by omega) (by omega) (Or.inr b35) | exact h1 (by omega) (by omega) (by omega) b35 | exact h2 (by omega) (by omega) (by omega) b35 N hD.1 | exact h3 (by omega) (by omega) (by omega) b35 N hD.1
      · refine jr_ifF_ne (n := 41) (t := 43) dX7_pay_38 rfl (by decide) (by decide) (by decide) ?_
        refine jr_lconst (n := 42) (x := 0) dX7_pay_41 rfl (by decide) ?_
        refine jr_lret dX7_pay_42 rfl ?_
        first | exact hB (by omega) | exact h0 (by omega) (by omega) (Or.inl (by omega)) | exact h0 (by omega) (by omega) (Or.inr b35) | exact h1 (by omega) (by omega) (by omega) b35 | exact h2 (by omega) (by omega) (by omega) b35 N hD.1 | exact h3 (by omega) (by omega) (by omega) b35 N hD.1
  · refine jr_ifF_ne (n := 11) (t := 15) dX7_pay_8 rfl (by decide) (by decide) (by decide) ?_
    refine jr_ldc2 (n := 14) dX7_pay_11 rfl rfl qX7_70 vX7_70 ?_
    refine jr_lret dX7_pay_14 rfl ?_
    first | exact hB (by omega) | exact h0 (by omega) (by omega) (Or.inl (by omega)) | exact h0 (by omega) (by omega) (Or.inr b35) | exact h1 (by omega) (by omega) (by omega) b35 | exact h2 (by omega) (by omega) (by omega) b35 N hD.1 | exact h3 (by omega) (by omega) (by omega) b35 N hD.1

