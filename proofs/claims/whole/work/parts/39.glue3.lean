def jbf (g : Int → Int) (lo hi : Int) (f : Int → Int) : Int → Int := fun b => if lo ≤ b ∧ b < hi then f b else g b
theorem jfu_s {f : Int → Int} {i v : Int} : jfu f i v i = v := by unfold jfu; rw [if_pos rfl]
theorem jfu_o {f : Int → Int} {i v b : Int} (h : b ≠ i) : jfu f i v b = f b := by unfold jfu; rw [if_neg h]
theorem jup_r {M : jMem} {k a : Nat} {i v : Int} (h : a ≠ k) : jup M k i v a = M a := funext (jup_ne h)
theorem jup_s {M : jMem} {k : Nat} {i v : Int} : jup M k i v k = jfu (M k) i v := by
  funext b
  unfold jup jfu
  by_cases e : b = i
  · rw [if_pos ⟨rfl, e⟩, if_pos e]
  · rw [if_neg (fun z => e z.2), if_neg e]
theorem jblk_r {M : jMem} {k a : Nat} {lo hi : Int} {f : Int → Int} (h : a ≠ k) : jblk M k lo hi f a = M a := funext (jblk_ne h)
theorem jblk_s {M : jMem} {k : Nat} {lo hi : Int} {f : Int → Int} : jblk M k lo hi f k = jbf (M k) lo hi f := by
  funext b
  unfold jblk jbf
  by_cases e : lo ≤ b ∧ b < hi
  · rw [if_pos ⟨rfl, e⟩, if_pos e]
  · rw [if_neg (fun z => e z.2), if_neg e]
theorem jcb_r {M : jMem} {c a : Nat} {lo hi : Int} {pr : Int → Bool} {f : Int → Int} (h : a ≠ c) : jcb M c lo hi pr f a = M a := funext (jcb_ne h)
theorem jcb_s {M : jMem} {c : Nat} {lo hi : Int} {pr : Int → Bool} {f : Int → Int} : jcb M c lo hi pr f c = fun b => if (lo ≤ b ∧ b < hi) ∧ pr b = true then f b else M c b := by
  funext b
  unfold jcb
  by_cases e : (lo ≤ b ∧ b < hi) ∧ pr b = true
  · rw [if_pos ⟨rfl, e⟩, if_pos e]
  · rw [if_neg (fun z => e z.2), if_neg e]
theorem jcpy_r {M : jMem} {k a : Nat} {sp dp n : Int} (h : a ≠ k) : jcpy M k sp dp n a = M a := by
  funext b
  unfold jcpy
  rw [if_neg (fun z => h z.1)]
theorem jcpy_s {M : jMem} {k : Nat} {sp dp n : Int} : jcpy M k sp dp n k = jbf (M k) dp (dp + n) (fun b => M k (sp + (b - dp))) := by
  funext b
  unfold jcpy jbf
  by_cases e : dp ≤ b ∧ b < dp + n
  · rw [if_pos ⟨rfl, e⟩, if_pos e]
  · rw [if_neg (fun z => e z.2), if_neg e]
theorem jJn_fo {n p q : Int} {ru co le fo ne fa ca li ls ki wa ap nw nc nr ro si : Int → Int} {z : Int → Int} (h : jJn n p q ru co le fo ne fa ca li ls ki wa ap nw nc nr ro si) (hz : ∀ k, 0 ≤ k → k < 12 → 0 ≤ z k ∧ z k ≤ 100) : jJn n p q ru co le z ne fa ca li ls ki wa ap nw nc nr ro si := by
  obtain ⟨a1, a2, a3, a4, a5, a6, a7, a8, a9, a10, a11, a12, a13, a14, a15, a16⟩ := h
  refine ⟨a1, a2, ?_, a4, a5, a6, a7, a8, a9, a10, a11, a12, a13, a14, a15, a16⟩
  exact fun k k0 k1 => have := a3 k k0 k1; ⟨this.1, this.2.1, hz k k0 k1, this.2.2.2⟩
theorem jJn_fa {n p q : Int} {ru co le fo ne fa ca li ls ki wa ap nw nc nr ro si : Int → Int} {z : Int → Int} (h : jJn n p q ru co le fo ne fa ca li ls ki wa ap nw nc nr ro si) (hz : ∀ k, 0 ≤ k → k < 12 → -1 ≤ z k ∧ z k ≤ 20) : jJn n p q ru co le fo ne z ca li ls ki wa ap nw nc nr ro si := by
  obtain ⟨a1, a2, a3, a4, a5, a6, a7, a8, a9, a10, a11, a12, a13, a14, a15, a16⟩ := h
  refine ⟨a1, a2, ?_, a4, a5, a6, a7, a8, a9, a10, a11, a12, a13, a14, a15, a16⟩
  exact fun k k0 k1 => have := a3 k k0 k1; ⟨this.1, this.2.1, this.2.2.1, this.2.2.2.1, hz k k0 k1⟩
theorem jJn_ru {n p q : Int} {ru co le fo ne fa ca li ls ki wa ap nw nc nr ro si : Int → Int} {z : Int → Int} (h : jJn n p q ru co le fo ne fa ca li ls ki wa ap nw nc nr ro si) (hz : ∀ i, 0 ≤ i → i < 5 → 0 ≤ z i ∧ z i ≤ 200) : jJn n p q z co le fo ne fa ca li ls ki wa ap nw nc nr ro si := by
  obtain ⟨a1, a2, a3, a4, a5, a6, a7, a8, a9, a10, a11, a12, a13, a14, a15, a16⟩ := h
  refine ⟨a1, a2, a3, a4, a5, a6, a7, a8, a9, a10, ?_, a12, a13, a14, a15, a16⟩
  exact hz
theorem jJn_ca {n p q : Int} {ru co le fo ne fa ca li ls ki wa ap nw nc nr ro si : Int → Int} {z : Int → Int} (h : jJn n p q ru co le fo ne fa ca li ls ki wa ap nw nc nr ro si) (hz : ∀ i, 0 ≤ i → i < 120 → 0 ≤ z i ∧ z i ≤ 48) : jJn n p q ru co le fo ne fa z li ls ki wa ap nw nc nr ro si := by
  obtain ⟨a1, a2, a3, a4, a5, a6, a7, a8, a9, a10, a11, a12, a13, a14, a15, a16⟩ := h
  refine ⟨a1, a2, a3, a4, ?_, a6, a7, a8, a9, a10, a11, a12, a13, a14, a15, a16⟩
  exact hz
theorem jJn_si {n p q : Int} {ru co le fo ne fa ca li ls ki wa ap nw nc nr ro si : Int → Int} {z : Int → Int} (h : jJn n p q ru co le fo ne fa ca li ls ki wa ap nw nc nr ro si) (hz : ∀ s, 0 ≤ s → s < 2 → -1 ≤ z s ∧ z s ≤ 12) : jJn n p q ru co le fo ne fa ca li ls ki wa ap nw nc nr ro z := by
  obtain ⟨a1, a2, a3, a4, a5, a6, a7, a8, a9, a10, a11, a12, a13, a14, a15, a16⟩ := h
  refine ⟨a1, a2, a3, a4, a5, a6, a7, a8, a9, a10, a11, a12, a13, ?_, a15, a16⟩
  exact hz
theorem jJn_ro {n p q : Int} {ru co le fo ne fa ca li ls ki wa ap nw nc nr ro si : Int → Int} {z : Int → Int} (h : jJn n p q ru co le fo ne fa ca li ls ki wa ap nw nc nr ro si) (hz : ∀ i, -128 ≤ z i ∧ z i ≤ 127) : jJn n p q ru co le fo ne fa ca li ls ki wa ap nw nc nr z si := by
  obtain ⟨a1, a2, a3, a4, a5, a6, a7, a8, a9, a10, a11, a12, a13, a14, a15, a16⟩ := h
  refine ⟨a1, a2, a3, a4, a5, a6, a7, a8, a9, a10, a11, a12, a13, a14, ?_, a16⟩
  exact hz
theorem jJn_nr {n p q : Int} {ru co le fo ne fa ca li ls ki wa ap nw nc nr ro si : Int → Int} {z : Int → Int} (h : jJn n p q ru co le fo ne fa ca li ls ki wa ap nw nc nr ro si) (hz : ∀ i, 0 ≤ i → i < 60 → 0 ≤ z i ∧ z i ≤ 1) (h0 : ∀ i, q ≤ i → z i = 0) : jJn n p q ru co le fo ne fa ca li ls ki wa ap nw nc z ro si := by
  obtain ⟨a1, a2, a3, a4, a5, a6, a7, a8, a9, a10, a11, a12, a13, a14, a15, a16⟩ := h
  exact ⟨a1, a2, a3, a4, a5, a6, a7, a8, a9, a10, a11, fun i i0 i1 => ⟨(a12 i i0 i1).1, (a12 i i0 i1).2.1, hz i i0 i1⟩, h0, a14, a15, a16⟩
theorem jJn_ne {n p q : Int} {ru co le fo ne fa ca li ls ki wa ap nw nc nr ro si : Int → Int} {z : Int → Int} (h : jJn n p q ru co le fo ne fa ca li ls ki wa ap nw nc nr ro si) (hz : ∀ k, 0 ≤ k → k < 12 → 0 ≤ z k ∧ z k < 1024) (h0 : ∀ k w, 0 ≤ k → k < 12 → p ≤ w → w < 10 → ¬ jbit (z k) w) : jJn n p q ru co le fo z fa ca li ls ki wa ap nw nc nr ro si := by
  obtain ⟨a1, a2, a3, a4, a5, a6, a7, a8, a9, a10, a11, a12, a13, a14, a15, a16⟩ := h
  exact ⟨a1, a2, fun k k0 k1 => have := a3 k k0 k1; ⟨this.1, this.2.1, this.2.2.1, hz k k0 k1, this.2.2.2.2⟩, a4, a5, a6, a7, a8, a9, h0, a11, a12, a13, a14, a15, a16⟩
theorem jJn_ap {n p q : Int} {ru co le fo ne fa ca li ls ki wa ap nw nc nr ro si : Int → Int} {z : Int → Int} (h : jJn n p q ru co le fo ne fa ca li ls ki wa ap nw nc nr ro si) (hz : ∀ w, 0 ≤ w → w < 10 → 0 ≤ z w ∧ z w < 1024) (h0 : ∀ u v, 0 ≤ u → u < 10 → 0 ≤ v → v < 10 → (jbit (z u) v ↔ jbit (z v) u) ∧ ¬ jbit (z u) u ∧ (jbit (z u) v → v < p)) : jJn n p q ru co le fo ne fa ca li ls ki wa z nw nc nr ro si := by
  obtain ⟨a1, a2, a3, a4, a5, a6, a7, a8, a9, a10, a11, a12, a13, a14, a15, a16⟩ := h
  exact ⟨a1, a2, a3, a4, a5, a6, a7, a8, fun i i0 i1 => ⟨(a9 i i0 i1).1, (a9 i i0 i1).2.1, hz i i0 i1⟩, a10, a11, a12, a13, a14, a15, h0⟩
theorem jJn_wit {n p q : Int} {ru co le fo ne fa ca li ls ki wa ap nw nc nr ro si : Int → Int} (h : jJn n p q ru co le fo ne fa ca li ls ki wa ap nw nc nr ro si) {a b : Int} (x0 : 0 ≤ a) (x1 : a ≤ 4) (y0 : 0 ≤ b) (y1 : b ≤ 12) (hp : p < 10) : jJn n (p + 1) q ru co le fo ne fa ca li ls (jfu ki p a) (jfu wa p b) ap nw nc nr ro si := by
  obtain ⟨a1, a2, a3, a4, a5, a6, a7, a8, a9, a10, a11, a12, a13, a14, a15, a16⟩ := h
  refine ⟨⟨a1.1, ⟨by omega, by omega⟩, a1.2.2⟩, a2, a3, a4, a5, a6, a7, a8, ?_, fun k w k0 k1 w0 w1 => a10 k w k0 k1 (by omega) w1, a11, a12, a13, a14, a15, fun u v u0 u1 v0 v1 => ⟨(a16 u v u0 u1 v0 v1).1, (a16 u v u0 u1 v0 v1).2.1, fun z => by have := (a16 u v u0 u1 v0 v1).2.2 z; omega⟩⟩
  intro w w0 w1
  have := a9 w w0 w1
  by_cases q : w = p
  · subst q
    rw [jfu_s, jfu_s]
    exact ⟨⟨x0, x1⟩, ⟨y0, y1⟩, this.2.2⟩
  · rw [jfu_o q, jfu_o q]
    exact this
theorem jJn_new {n p q : Int} {ru co le fo ne fa ca li ls ki wa ap nw nc nr ro si : Int → Int} (h : jJn n p q ru co le fo ne fa ca li ls ki wa ap nw nc nr ro si) {a b e : Int} (x0 : 0 ≤ a) (x1 : a ≤ 2) (y0 : 1 ≤ b) (y1 : b ≤ 8) (z0 : 0 ≤ e) (z1 : e ≤ 100) (hn : n < 12) (hl : ls a < 6) : jJn (n + 1) p q ru (jfu co n a) (jfu le n b) (jfu fo n e) ne (jfu fa n (-1)) ca (jfu li (6 * a + ls a) n) (jfu ls a (ls a + 1)) ki wa ap nw nc nr ro si := by
  obtain ⟨a1, a2, a3, a4, a5, a6, a7, a8, a9, a10, a11, a12, a13, a14, a15, a16⟩ := h
  have s := a2 a x0 (by omega)
  refine ⟨⟨⟨by omega, by omega⟩, a1.2⟩, ?_, ?_, ?_, a5, ?_, ?_, ?_, a9, a10, a11, a12, a13, a14, a15, a16⟩
  · intro c c0 c1
    by_cases q : c = a
    · subst q
      rw [jfu_s]
      omega
    · rw [jfu_o q]
      exact a2 c c0 c1
  · intro k k0 k1
    have := a3 k k0 k1
    by_cases q : k = n
    · subst q
      simp only [jfu_s]
      exact ⟨⟨x0, by omega⟩, ⟨by omega, y1⟩, ⟨z0, z1⟩, this.2.2.2.1, by omega, by omega⟩
    · rw [jfu_o q, jfu_o q, jfu_o q, jfu_o q]
      exact this
  · intro k k0 k1
    by_cases q : k = n
    · subst q
      rw [jfu_s]
      exact y0
    · rw [jfu_o q]
      exact a4 k k0 (by omega)
  · intro c j c0 c1 j0 j1
    by_cases q : c = a
    · subst q
      rw [jfu_s] at j1
      by_cases r : j = ls c
      · subst r
        rw [jfu_s, jfu_s]
        omega
      · rw [jfu_o (show 6 * c + j ≠ 6 * c + ls c by omega)]
        have := a6 c j c0 c1 j0 (by omega)
        rw [jfu_o (show li (6 * c + j) ≠ n by omega)]
        omega
    · rw [jfu_o q] at j1
      have s2 := a2 c c0 c1
      rw [jfu_o (show 6 * c + j ≠ 6 * a + ls a by omega)]
      have := a6 c j c0 c1 j0 j1
      rw [jfu_o (show li (6 * c + j) ≠ n by omega)]
      omega
  · intro k k0 k1
    by_cases q : k = n
    · subst q
      simp only [jfu_s]
      exact ⟨ls a, s.1, by omega, by rw [jfu_s]⟩
    · rw [jfu_o q]
      obtain ⟨j, j0, j1, j2⟩ := a7 k k0 (by omega)
      have r := (a3 k k0 (by omega)).1
      have s2 := a2 _ r.1 r.2
      by_cases t : co k = a
      · refine ⟨j, j0, ?_, ?_⟩
        · rw [t, jfu_s]
          rw [t] at j1
          omega
        · rw [jfu_o (by rw [t] at j1 ⊢; omega)]
          exact j2
      · refine ⟨j, j0, ?_, ?_⟩
        · rw [jfu_o t]
          exact j1
        · rw [jfu_o (by omega)]
          exact j2
  · intro c i j c0 c1 i0 i1 j1
    by_cases q : c = a
    · subst q
      rw [jfu_s] at j1
      rw [jfu_o (show 6 * c + i ≠ 6 * c + ls c by omega)]
      by_cases r : j = ls c
      · subst r
        rw [jfu_s]
        have := a6 c i c0 c1 i0 i1
        omega
      · rw [jfu_o (show 6 * c + j ≠ 6 * c + ls c by omega)]
        exact a8 c i j c0 c1 i0 i1 (by omega)
    · rw [jfu_o q] at j1
      have s2 := a2 c c0 c1
      rw [jfu_o (show 6 * c + i ≠ 6 * a + ls a by omega), jfu_o (show 6 * c + j ≠ 6 * a + ls a by omega)]
      exact a8 c i j c0 c1 i0 i1 j1
theorem jJ_fold {M : jMem} {k v : Int} (hJ : jJ M) (k0 : 0 ≤ k) (k1 : k < M 1 8) (v0 : 0 ≤ v) (v1 : v ≤ 100) : jJ (jup (jup M 12 k v) 42 k v) := by
  have hK := hJ.1
  have hE := hJ.2.1
  have hz := jn1 hK
  unfold jEq at hE
  obtain ⟨e1, e2, e3, e4, e5, e6, e7, e8, e9, e10, e11, e12, e13, e14, e15, e16, e17, e18, e19, ec⟩ := hE
  refine ⟨?_, ?_, ?_⟩
  · unfold jK
    simp (disch := decide) only [jup_r, jup_s, jblk_r, jblk_s, jcb_r, jcb_s, jcpy_r, jcpy_s, jfu_s, jfu_o]
    refine jJn_fo hK (fun j j0 j1 => ?_)
    unfold jfu
    split
    · omega
    · exact (jn3 hK j j0 j1).2.2.1
  · unfold jEq
    simp (disch := decide) only [jup_r, jup_s, jblk_r, jblk_s, jcb_r, jcb_s, jcpy_r, jcpy_s, jfu_s, jfu_o]
    refine ⟨?_, ?_, ?_, ?_, ?_, ?_, ?_, ?_, ?_, ?_, ?_, ?_, ?_, ?_, ?_, ?_, ?_, ?_, ?_, ?_⟩
    all_goals first
      | assumption
      | (simp only [e1, e2, e3, e4, e5, e6, e7, e8, e9, e10, e11, e12, e13, e14, e15, e16, e17, e18, e19]; done)
      | skip

  · try simp (disch := decide) only [jup_r, jup_s, jblk_r, jblk_s, jcb_r, jcb_s, jcpy_r, jcpy_s, jfu_s, jfu_o]
    exact hJ.2.2

theorem jJ_fate {M : jMem} {k v : Int} (hJ : jJ M) (k0 : 0 ≤ k) (k1 : k < M 1 8) (v0 : -1 ≤ v) (v1 : v ≤ 20) : jJ (jup (jup M 14 k v) 44 k v) := by
  have hK := hJ.1
  have hE := hJ.2.1
  have hz := jn1 hK
  unfold jEq at hE
  obtain ⟨e1, e2, e3, e4, e5, e6, e7, e8, e9, e10, e11, e12, e13, e14, e15, e16, e17, e18, e19, ec⟩ := hE
  refine ⟨?_, ?_, ?_⟩
  · unfold jK
    simp (disch := decide) only [jup_r, jup_s, jblk_r, jblk_s, jcb_r, jcb_s, jcpy_r, jcpy_s, jfu_s, jfu_o]
    refine jJn_fa hK (fun j j0 j1 => ?_)
    unfold jfu
    split
    · omega
    · exact (jn3 hK j j0 j1).2.2.2.2
  · unfold jEq
    simp (disch := decide) only [jup_r, jup_s, jblk_r, jblk_s, jcb_r, jcb_s, jcpy_r, jcpy_s, jfu_s, jfu_o]
    refine ⟨?_, ?_, ?_, ?_, ?_, ?_, ?_, ?_, ?_, ?_, ?_, ?_, ?_, ?_, ?_, ?_, ?_, ?_, ?_, ?_⟩
    all_goals first
      | assumption
      | (simp only [e1, e2, e3, e4, e5, e6, e7, e8, e9, e10, e11, e12, e13, e14, e15, e16, e17, e18, e19]; done)
      | skip

  · try simp (disch := decide) only [jup_r, jup_s, jblk_r, jblk_s, jcb_r, jcb_s, jcpy_r, jcpy_s, jfu_s, jfu_o]
    exact hJ.2.2

theorem jJ_rule {M : jMem} {v z : Int} (hJ : jJ M) (k0 : 0 ≤ v) (k1 : v ≤ 4) (v0 : jsv 1 v ≤ z) (v1 : z ≤ jsv 2 v) : jJ (jup (jup M 9 v z) 49 v z) := by
  have hK := hJ.1
  have hE := hJ.2.1
  have hz := jn1 hK
  unfold jEq at hE
  obtain ⟨e1, e2, e3, e4, e5, e6, e7, e8, e9, e10, e11, e12, e13, e14, e15, e16, e17, e18, e19, ec⟩ := hE
  refine ⟨?_, ?_, ?_⟩
  · unfold jK
    simp (disch := decide) only [jup_r, jup_s, jblk_r, jblk_s, jcb_r, jcb_s, jcpy_r, jcpy_s, jfu_s, jfu_o]
    have hr := jrule_R k0 k1
    refine jJn_ru hK (fun j j0 j1 => ?_)
    unfold jfu
    split
    · omega
    · exact jn11 hK j j0 j1
  · unfold jEq
    simp (disch := decide) only [jup_r, jup_s, jblk_r, jblk_s, jcb_r, jcb_s, jcpy_r, jcpy_s, jfu_s, jfu_o]
    refine ⟨?_, ?_, ?_, ?_, ?_, ?_, ?_, ?_, ?_, ?_, ?_, ?_, ?_, ?_, ?_, ?_, ?_, ?_, ?_, ?_⟩
    all_goals first
      | assumption
      | (simp only [e1, e2, e3, e4, e5, e6, e7, e8, e9, e10, e11, e12, e13, e14, e15, e16, e17, e18, e19]; done)
      | skip

  · try simp (disch := decide) only [jup_r, jup_s, jblk_r, jblk_s, jcb_r, jcb_s, jcpy_r, jcpy_s, jfu_s, jfu_o]
    exact hJ.2.2

theorem jJ_call {M : jMem} {v k z : Int} (hJ : jJ M) (k0 : 0 ≤ k) (k1 : k < M 1 8) (v0 : 0 ≤ v) (v1 : v < M 2 3) (z0 : 0 ≤ z) (z1 : z ≤ 48) : jJ (jup (jup M 15 (k * 10 + v) z) 48 (10 * k + v) z) := by
  have hK := hJ.1
  have hE := hJ.2.1
  have hz := jn1 hK
  unfold jEq at hE
  obtain ⟨e1, e2, e3, e4, e5, e6, e7, e8, e9, e10, e11, e12, e13, e14, e15, e16, e17, e18, e19, ec⟩ := hE
  refine ⟨?_, ?_, ?_⟩
  · unfold jK
    simp (disch := decide) only [jup_r, jup_s, jblk_r, jblk_s, jcb_r, jcb_s, jcpy_r, jcpy_s, jfu_s, jfu_o]
    refine jJn_ca hK (fun j j0 j1 => ?_)
    unfold jfu
    split
    · omega
    · exact jn5 hK j j0 j1
  · unfold jEq
    simp (disch := decide) only [jup_r, jup_s, jblk_r, jblk_s, jcb_r, jcb_s, jcpy_r, jcpy_s, jfu_s, jfu_o]
    refine ⟨?_, ?_, ?_, ?_, ?_, ?_, ?_, ?_, ?_, ?_, ?_, ?_, ?_, ?_, ?_, ?_, ?_, ?_, ?_, ?_⟩
    all_goals first
      | assumption
      | (simp only [e1, e2, e3, e4, e5, e6, e7, e8, e9, e10, e11, e12, e13, e14, e15, e16, e17, e18, e19]; done)
      | skip
    intro a b a0 a1 b0 b1 h
    by_cases e : a = k ∧ b = v
    · obtain ⟨rfl, rfl⟩ := e
      rw [jfu_s, jfu_s]
    · rw [jfu_o (by omega), jfu_o (by omega)]
      exact ec a b a0 a1 b0 b1 h
  · try simp (disch := decide) only [jup_r, jup_s, jblk_r, jblk_s, jcb_r, jcb_s, jcpy_r, jcpy_s, jfu_s, jfu_o]
    intro j j0 j1
    unfold jfu
    split
    · omega
    · exact hJ.2.2 j j0 j1

theorem jbyt_b (v : Int) : -128 ≤ jbyt v ∧ jbyt v ≤ 127 := by
  unfold jbyt
  rw [Int8.toInt_toInt32]
  exact ⟨Int8.le_toInt _, by have := Int8.toInt_lt (jI v).toInt8; omega⟩
theorem jJ_mark {M : jMem} {s p v : Int} (hJ : jJ M)  : jJ (jup (jup M 36 (s * 12 + p) (jbyt v)) 54 (12 * s + p) (jbyt v)) := by
  have hK := hJ.1
  have hE := hJ.2.1
  have hz := jn1 hK
  unfold jEq at hE
  obtain ⟨e1, e2, e3, e4, e5, e6, e7, e8, e9, e10, e11, e12, e13, e14, e15, e16, e17, e18, e19, ec⟩ := hE
  refine ⟨?_, ?_, ?_⟩
  · unfold jK
    simp (disch := decide) only [jup_r, jup_s, jblk_r, jblk_s, jcb_r, jcb_s, jcpy_r, jcpy_s, jfu_s, jfu_o]
    refine jJn_ro hK (fun j => ?_)
    unfold jfu
    split
    · exact jbyt_b v
    · exact jn15 hK j
  · unfold jEq
    simp (disch := decide) only [jup_r, jup_s, jblk_r, jblk_s, jcb_r, jcb_s, jcpy_r, jcpy_s, jfu_s, jfu_o]
    refine ⟨?_, ?_, ?_, ?_, ?_, ?_, ?_, ?_, ?_, ?_, ?_, ?_, ?_, ?_, ?_, ?_, ?_, ?_, ?_, ?_⟩
    all_goals first
      | assumption
      | (simp only [e1, e2, e3, e4, e5, e6, e7, e8, e9, e10, e11, e12, e13, e14, e15, e16, e17, e18, e19, Int.mul_comm s 12]; done)
      | skip

  · try simp (disch := decide) only [jup_r, jup_s, jblk_r, jblk_s, jcb_r, jcb_s, jcpy_r, jcpy_s, jfu_s, jfu_o]
    exact hJ.2.2

theorem jJ_sheet {M : jMem} {s n : Int} (hJ : jJ M) (n0 : 0 ≤ n) (n1 : n ≤ 12) : jJ (jblk (jup (jup (jblk M 36 (s * 12) (s * 12 + n) (fun _ => 0)) 37 s n) 53 s n) 54 (12 * s) (12 * s + n) (fun _ => 0)) := by
  have hK := hJ.1
  have hE := hJ.2.1
  have hz := jn1 hK
  unfold jEq at hE
  obtain ⟨e1, e2, e3, e4, e5, e6, e7, e8, e9, e10, e11, e12, e13, e14, e15, e16, e17, e18, e19, ec⟩ := hE
  refine ⟨?_, ?_, ?_⟩
  · unfold jK
    simp (disch := decide) only [jup_r, jup_s, jblk_r, jblk_s, jcb_r, jcb_s, jcpy_r, jcpy_s, jfu_s, jfu_o]
    refine jJn_ro (jJn_si hK (fun j j0 j1 => ?_)) (fun j => ?_)
    · unfold jfu
      split
      · omega
      · exact jn14 hK j j0 j1
    · unfold jbf
      split
      · exact (by decide : (-128 : Int) ≤ 0 ∧ (0 : Int) ≤ 127)
      · exact jn15 hK j
  · unfold jEq
    simp (disch := decide) only [jup_r, jup_s, jblk_r, jblk_s, jcb_r, jcb_s, jcpy_r, jcpy_s, jfu_s, jfu_o]
    refine ⟨?_, ?_, ?_, ?_, ?_, ?_, ?_, ?_, ?_, ?_, ?_, ?_, ?_, ?_, ?_, ?_, ?_, ?_, ?_, ?_⟩
    all_goals first
      | assumption
      | (simp only [e1, e2, e3, e4, e5, e6, e7, e8, e9, e10, e11, e12, e13, e14, e15, e16, e17, e18, e19, Int.mul_comm s 12]; done)
      | skip

  · try simp (disch := decide) only [jup_r, jup_s, jblk_r, jblk_s, jcb_r, jcb_s, jcpy_r, jcpy_s, jfu_s, jfu_o]
    exact hJ.2.2

theorem jJ_take {M : jMem} {s n : Int} (hJ : jJ M) (hv : ∀ i, 0 ≤ i → i < n → 0 ≤ M 36 (s * 12 + i) ∧ M 36 (s * 12 + i) ≤ 100) : jJ (jblk (jblk M 12 0 n (fun i => M 36 (s * 12 + i))) 42 0 n (fun i => M 54 (12 * s + i))) := by
  have hK := hJ.1
  have hE := hJ.2.1
  have hz := jn1 hK
  unfold jEq at hE
  obtain ⟨e1, e2, e3, e4, e5, e6, e7, e8, e9, e10, e11, e12, e13, e14, e15, e16, e17, e18, e19, ec⟩ := hE
  refine ⟨?_, ?_, ?_⟩
  · unfold jK
    simp (disch := decide) only [jup_r, jup_s, jblk_r, jblk_s, jcb_r, jcb_s, jcpy_r, jcpy_s, jfu_s, jfu_o]
    refine jJn_fo hK (fun j j0 j1 => ?_)
    unfold jbf
    split
    · exact hv j (by omega) (by omega)
    · exact (jn3 hK j j0 j1).2.2.1
  · unfold jEq
    simp (disch := decide) only [jup_r, jup_s, jblk_r, jblk_s, jcb_r, jcb_s, jcpy_r, jcpy_s, jfu_s, jfu_o]
    refine ⟨?_, ?_, ?_, ?_, ?_, ?_, ?_, ?_, ?_, ?_, ?_, ?_, ?_, ?_, ?_, ?_, ?_, ?_, ?_, ?_⟩
    all_goals first
      | assumption
      | (simp only [e1, e2, e3, e4, e5, e6, e7, e8, e9, e10, e11, e12, e13, e14, e15, e16, e17, e18, e19, Int.mul_comm s 12]; done)
      | skip

  · try simp (disch := decide) only [jup_r, jup_s, jblk_r, jblk_s, jcb_r, jcb_s, jcpy_r, jcpy_s, jfu_s, jfu_o]
    exact hJ.2.2

theorem jJ_copy {M : jMem} {a p c q n : Int} {f : Int → Int} (hJ : jJ M)  : jJ (jblk (jblk (jcpy M 36 (a * 12 + p) (c * 12 + q) n) 64 0 n f) 54 (12 * c + q) (12 * c + q + n) (fun b => M 54 (12 * a + p + (b - (12 * c + q))))) := by
  have hK := hJ.1
  have hE := hJ.2.1
  have hz := jn1 hK
  unfold jEq at hE
  obtain ⟨e1, e2, e3, e4, e5, e6, e7, e8, e9, e10, e11, e12, e13, e14, e15, e16, e17, e18, e19, ec⟩ := hE
  refine ⟨?_, ?_, ?_⟩
  · unfold jK
    simp (disch := decide) only [jup_r, jup_s, jblk_r, jblk_s, jcb_r, jcb_s, jcpy_r, jcpy_s, jfu_s, jfu_o]
    refine jJn_ro hK (fun j => ?_)
    unfold jbf
    split
    · exact jn15 hK _
    · exact jn15 hK j
  · unfold jEq
    simp (disch := decide) only [jup_r, jup_s, jblk_r, jblk_s, jcb_r, jcb_s, jcpy_r, jcpy_s, jfu_s, jfu_o]
    refine ⟨?_, ?_, ?_, ?_, ?_, ?_, ?_, ?_, ?_, ?_, ?_, ?_, ?_, ?_, ?_, ?_, ?_, ?_, ?_, ?_⟩
    all_goals first
      | assumption
      | (simp only [e1, e2, e3, e4, e5, e6, e7, e8, e9, e10, e11, e12, e13, e14, e15, e16, e17, e18, e19, Int.mul_comm a 12, Int.mul_comm c 12]; done)
      | skip

  · try simp (disch := decide) only [jup_r, jup_s, jblk_r, jblk_s, jcb_r, jcb_s, jcpy_r, jcpy_s, jfu_s, jfu_o]
    exact hJ.2.2

theorem jJ_read {M : jMem} {v : Int} (hJ : jJ M)  : jJ (jrdE (jrdC M v (M 6 3)) v (M 8 14)) := by
  have hK := hJ.1
  have hE := hJ.2.1
  have hz := jn1 hK
  unfold jEq at hE
  obtain ⟨e1, e2, e3, e4, e5, e6, e7, e8, e9, e10, e11, e12, e13, e14, e15, e16, e17, e18, e19, ec⟩ := hE
  refine ⟨?_, ?_, ?_⟩
  · unfold jK jrdE jrdC
    simp (disch := decide) only [jup_r, jup_s, jblk_r, jblk_s, jcb_r, jcb_s, jcpy_r, jcpy_s, jfu_s, jfu_o]
    refine jJn_nr hK (fun j j0 j1 => ?_) (fun j j0 => ?_)
    · by_cases e : (0 ≤ j ∧ j < M 6 3) ∧ decide (M 33 j = v ∧ M 35 j = 0) = true
      · rw [if_pos e]; omega
      · rw [if_neg e]; exact (jn12 hK j j0 j1).2.2
    · rw [if_neg (fun z => by omega)]; exact jn13 hK j j0
  · unfold jEq jrdE jrdC
    simp (disch := decide) only [jup_r, jup_s, jblk_r, jblk_s, jcb_r, jcb_s, jcpy_r, jcpy_s, jfu_s, jfu_o]
    refine ⟨?_, ?_, ?_, ?_, ?_, ?_, ?_, ?_, ?_, ?_, ?_, ?_, ?_, ?_, ?_, ?_, ?_, ?_, ?_, ?_⟩
    all_goals first
      | assumption
      | (simp only [e1, e2, e3, e4, e5, e6, e7, e8, e9, e10, e11, e12, e13, e14, e15, e16, e17, e18, e19]; done)
      | skip

  · unfold jrdE jrdC
    simp (disch := decide) only [jup_r, jup_s, jblk_r, jblk_s, jcb_r, jcb_s, jcpy_r, jcpy_s, jfu_s, jfu_o]
    exact hJ.2.2

theorem jJ_witness {M : jMem} {a b : Int} (hJ : jJ M) (x0 : 0 ≤ a) (x1 : a ≤ 4) (y0 : 0 ≤ b) (y1 : b ≤ 12) (hp : M 2 3 < 10) : jJ (jup (jup (jup (jup (jup (jup M 2 3 (M 2 3 + 1)) 18 (M 2 3) a) 19 (M 2 3) b) 45 (M 8 8) a) 46 (M 8 8) b) 8 8 (M 8 8 + 1)) := by
  have hK := hJ.1
  have hE := hJ.2.1
  have hz := jn1 hK
  unfold jEq at hE
  obtain ⟨e1, e2, e3, e4, e5, e6, e7, e8, e9, e10, e11, e12, e13, e14, e15, e16, e17, e18, e19, ec⟩ := hE
  refine ⟨?_, ?_, ?_⟩
  · unfold jK
    simp (disch := decide) only [jup_r, jup_s, jblk_r, jblk_s, jcb_r, jcb_s, jcpy_r, jcpy_s, jfu_s, jfu_o]
    exact jJn_wit hK x0 x1 y0 y1 hp
  · unfold jEq
    simp (disch := decide) only [jup_r, jup_s, jblk_r, jblk_s, jcb_r, jcb_s, jcpy_r, jcpy_s, jfu_s, jfu_o]
    refine ⟨?_, ?_, ?_, ?_, ?_, ?_, ?_, ?_, ?_, ?_, ?_, ?_, ?_, ?_, ?_, ?_, ?_, ?_, ?_, ?_⟩
    all_goals first
      | assumption
      | (simp only [e1, e2, e3, e4, e5, e6, e7, e8, e9, e10, e11, e12, e13, e14, e15, e16, e17, e18, e19]; done)
      | skip

  · try simp (disch := decide) only [jup_r, jup_s, jblk_r, jblk_s, jcb_r, jcb_s, jcpy_r, jcpy_s, jfu_s, jfu_o]
    exact hJ.2.2

theorem jJ_newCase {M : jMem} {a b e : Int} (hJ : jJ M) (x0 : 0 ≤ a) (x1 : a ≤ 2) (y0 : 1 ≤ b) (y1 : b ≤ 8) (z0 : 0 ≤ e) (z1 : e ≤ 100) (hn : M 1 8 < 12) (hl : M 17 a < 6) : jJ (jup (jup (jup (jup (jup (jup (jup (jup (jup (jup (jup (jup (jup (jup M 1 8 (M 1 8 + 1)) 11 (M 1 8) b) 12 (M 1 8) e) 14 (M 1 8) (-1)) 16 (a * 6 + M 17 a) (M 1 8)) 17 a (M 17 a + 1)) 10 (M 1 8) a) 41 (M 8 2) b) 42 (M 8 2) e) 44 (M 8 2) (-1)) 40 (M 8 2) a) 39 (6 * a + M 38 a) (M 8 2)) 38 a (M 38 a + 1)) 8 2 (M 8 2 + 1)) := by
  have hK := hJ.1
  have hE := hJ.2.1
  have hz := jn1 hK
  unfold jEq at hE
  obtain ⟨e1, e2, e3, e4, e5, e6, e7, e8, e9, e10, e11, e12, e13, e14, e15, e16, e17, e18, e19, ec⟩ := hE
  refine ⟨?_, ?_, ?_⟩
  · unfold jK
    simp (disch := decide) only [jup_r, jup_s, jblk_r, jblk_s, jcb_r, jcb_s, jcpy_r, jcpy_s, jfu_s, jfu_o]
    rw [Int.mul_comm a 6]
    exact jJn_new hK x0 x1 y0 y1 z0 z1 hn hl
  · unfold jEq
    simp (disch := decide) only [jup_r, jup_s, jblk_r, jblk_s, jcb_r, jcb_s, jcpy_r, jcpy_s, jfu_s, jfu_o]
    refine ⟨?_, ?_, ?_, ?_, ?_, ?_, ?_, ?_, ?_, ?_, ?_, ?_, ?_, ?_, ?_, ?_, ?_, ?_, ?_, ?_⟩
    all_goals first
      | assumption
      | (simp only [e1, e2, e3, e4, e5, e6, e7, e8, e9, e10, e11, e12, e13, e14, e15, e16, e17, e18, e19, Int.mul_comm a 6]; done)
      | skip

  · try simp (disch := decide) only [jup_r, jup_s, jblk_r, jblk_s, jcb_r, jcb_s, jcpy_r, jcpy_s, jfu_s, jfu_o]
    exact hJ.2.2

