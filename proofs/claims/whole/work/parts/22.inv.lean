/-! THE INVARIANT, of numbers and rows alone; once of the class's cells (jK), once of the reference's (jO) -/
def jJn (n p q : Int) (ru co le fo ne fa ca li ls ki wa ap nw nc nr ro si : Int → Int) : Prop :=
  ((0 ≤ n ∧ n ≤ 12) ∧ (0 ≤ p ∧ p ≤ 10) ∧ (0 ≤ q ∧ q ≤ 60)) ∧
  (∀ c, 0 ≤ c → c < 3 → 0 ≤ ls c ∧ ls c ≤ 6) ∧
  (∀ k, 0 ≤ k → k < 12 → (0 ≤ co k ∧ co k < 3) ∧ (0 ≤ le k ∧ le k ≤ 8) ∧ (0 ≤ fo k ∧ fo k ≤ 100) ∧ (0 ≤ ne k ∧ ne k < 1024) ∧ (-1 ≤ fa k ∧ fa k ≤ 20)) ∧
  (∀ k, 0 ≤ k → k < n → 1 ≤ le k) ∧
  (∀ i, 0 ≤ i → i < 120 → 0 ≤ ca i ∧ ca i ≤ 48) ∧
  (∀ c j, 0 ≤ c → c < 3 → 0 ≤ j → j < ls c → (0 ≤ li (6 * c + j) ∧ li (6 * c + j) < n) ∧ co (li (6 * c + j)) = c) ∧
  (∀ k, 0 ≤ k → k < n → ∃ j, 0 ≤ j ∧ j < ls (co k) ∧ li (6 * co k + j) = k) ∧
  (∀ c i j, 0 ≤ c → c < 3 → 0 ≤ i → i < j → j < ls c → li (6 * c + i) ≠ li (6 * c + j)) ∧
  (∀ w, 0 ≤ w → w < 10 → (0 ≤ ki w ∧ ki w ≤ 4) ∧ (0 ≤ wa w ∧ wa w ≤ 12) ∧ (0 ≤ ap w ∧ ap w < 1024)) ∧
  (∀ k w, 0 ≤ k → k < 12 → p ≤ w → w < 10 → ¬ jbit (ne k) w) ∧
  (∀ i, 0 ≤ i → i < 5 → 0 ≤ ru i ∧ ru i ≤ 200) ∧
  (∀ i, 0 ≤ i → i < 60 → (0 ≤ nw i ∧ nw i < 10) ∧ (0 ≤ nc i ∧ nc i < 12) ∧ (0 ≤ nr i ∧ nr i ≤ 1)) ∧
  (∀ i, q ≤ i → nr i = 0) ∧
  (∀ s, 0 ≤ s → s < 2 → -1 ≤ si s ∧ si s ≤ 12) ∧
  (∀ i, -128 ≤ ro i ∧ ro i ≤ 127) ∧
  (∀ u v, 0 ≤ u → u < 10 → 0 ≤ v → v < 10 → (jbit (ap u) v ↔ jbit (ap v) u) ∧ ¬ jbit (ap u) u ∧ (jbit (ap u) v → v < p))
theorem jn1 {n p q : Int} {ru co le fo ne fa ca li ls ki wa ap nw nc nr ro si : Int → Int} (h : jJn n p q ru co le fo ne fa ca li ls ki wa ap nw nc nr ro si) : (0 ≤ n ∧ n ≤ 12) ∧ (0 ≤ p ∧ p ≤ 10) ∧ (0 ≤ q ∧ q ≤ 60) := h.1
theorem jn2 {n p q : Int} {ru co le fo ne fa ca li ls ki wa ap nw nc nr ro si : Int → Int} (h : jJn n p q ru co le fo ne fa ca li ls ki wa ap nw nc nr ro si) : ∀ c, 0 ≤ c → c < 3 → 0 ≤ ls c ∧ ls c ≤ 6 := h.2.1
theorem jn3 {n p q : Int} {ru co le fo ne fa ca li ls ki wa ap nw nc nr ro si : Int → Int} (h : jJn n p q ru co le fo ne fa ca li ls ki wa ap nw nc nr ro si) : ∀ k, 0 ≤ k → k < 12 → (0 ≤ co k ∧ co k < 3) ∧ (0 ≤ le k ∧ le k ≤ 8) ∧ (0 ≤ fo k ∧ fo k ≤ 100) ∧ (0 ≤ ne k ∧ ne k < 1024) ∧ (-1 ≤ fa k ∧ fa k ≤ 20) := h.2.2.1
theorem jn4 {n p q : Int} {ru co le fo ne fa ca li ls ki wa ap nw nc nr ro si : Int → Int} (h : jJn n p q ru co le fo ne fa ca li ls ki wa ap nw nc nr ro si) : ∀ k, 0 ≤ k → k < n → 1 ≤ le k := h.2.2.2.1
theorem jn5 {n p q : Int} {ru co le fo ne fa ca li ls ki wa ap nw nc nr ro si : Int → Int} (h : jJn n p q ru co le fo ne fa ca li ls ki wa ap nw nc nr ro si) : ∀ i, 0 ≤ i → i < 120 → 0 ≤ ca i ∧ ca i ≤ 48 := h.2.2.2.2.1
theorem jn6 {n p q : Int} {ru co le fo ne fa ca li ls ki wa ap nw nc nr ro si : Int → Int} (h : jJn n p q ru co le fo ne fa ca li ls ki wa ap nw nc nr ro si) : ∀ c j, 0 ≤ c → c < 3 → 0 ≤ j → j < ls c → (0 ≤ li (6 * c + j) ∧ li (6 * c + j) < n) ∧ co (li (6 * c + j)) = c := h.2.2.2.2.2.1
theorem jn7 {n p q : Int} {ru co le fo ne fa ca li ls ki wa ap nw nc nr ro si : Int → Int} (h : jJn n p q ru co le fo ne fa ca li ls ki wa ap nw nc nr ro si) : ∀ k, 0 ≤ k → k < n → ∃ j, 0 ≤ j ∧ j < ls (co k) ∧ li (6 * co k + j) = k := h.2.2.2.2.2.2.1
theorem jn8 {n p q : Int} {ru co le fo ne fa ca li ls ki wa ap nw nc nr ro si : Int → Int} (h : jJn n p q ru co le fo ne fa ca li ls ki wa ap nw nc nr ro si) : ∀ c i j, 0 ≤ c → c < 3 → 0 ≤ i → i < j → j < ls c → li (6 * c + i) ≠ li (6 * c + j) := h.2.2.2.2.2.2.2.1
theorem jn9 {n p q : Int} {ru co le fo ne fa ca li ls ki wa ap nw nc nr ro si : Int → Int} (h : jJn n p q ru co le fo ne fa ca li ls ki wa ap nw nc nr ro si) : ∀ w, 0 ≤ w → w < 10 → (0 ≤ ki w ∧ ki w ≤ 4) ∧ (0 ≤ wa w ∧ wa w ≤ 12) ∧ (0 ≤ ap w ∧ ap w < 1024) := h.2.2.2.2.2.2.2.2.1
theorem jn10 {n p q : Int} {ru co le fo ne fa ca li ls ki wa ap nw nc nr ro si : Int → Int} (h : jJn n p q ru co le fo ne fa ca li ls ki wa ap nw nc nr ro si) : ∀ k w, 0 ≤ k → k < 12 → p ≤ w → w < 10 → ¬ jbit (ne k) w := h.2.2.2.2.2.2.2.2.2.1
theorem jn11 {n p q : Int} {ru co le fo ne fa ca li ls ki wa ap nw nc nr ro si : Int → Int} (h : jJn n p q ru co le fo ne fa ca li ls ki wa ap nw nc nr ro si) : ∀ i, 0 ≤ i → i < 5 → 0 ≤ ru i ∧ ru i ≤ 200 := h.2.2.2.2.2.2.2.2.2.2.1
theorem jn12 {n p q : Int} {ru co le fo ne fa ca li ls ki wa ap nw nc nr ro si : Int → Int} (h : jJn n p q ru co le fo ne fa ca li ls ki wa ap nw nc nr ro si) : ∀ i, 0 ≤ i → i < 60 → (0 ≤ nw i ∧ nw i < 10) ∧ (0 ≤ nc i ∧ nc i < 12) ∧ (0 ≤ nr i ∧ nr i ≤ 1) := h.2.2.2.2.2.2.2.2.2.2.2.1
theorem jn13 {n p q : Int} {ru co le fo ne fa ca li ls ki wa ap nw nc nr ro si : Int → Int} (h : jJn n p q ru co le fo ne fa ca li ls ki wa ap nw nc nr ro si) : ∀ i, q ≤ i → nr i = 0 := h.2.2.2.2.2.2.2.2.2.2.2.2.1
theorem jn14 {n p q : Int} {ru co le fo ne fa ca li ls ki wa ap nw nc nr ro si : Int → Int} (h : jJn n p q ru co le fo ne fa ca li ls ki wa ap nw nc nr ro si) : ∀ s, 0 ≤ s → s < 2 → -1 ≤ si s ∧ si s ≤ 12 := h.2.2.2.2.2.2.2.2.2.2.2.2.2.1
theorem jn15 {n p q : Int} {ru co le fo ne fa ca li ls ki wa ap nw nc nr ro si : Int → Int} (h : jJn n p q ru co le fo ne fa ca li ls ki wa ap nw nc nr ro si) : ∀ i, -128 ≤ ro i ∧ ro i ≤ 127 := h.2.2.2.2.2.2.2.2.2.2.2.2.2.2.1
theorem jn16 {n p q : Int} {ru co le fo ne fa ca li ls ki wa ap nw nc nr ro si : Int → Int} (h : jJn n p q ru co le fo ne fa ca li ls ki wa ap nw nc nr ro si) : ∀ u v, 0 ≤ u → u < 10 → 0 ≤ v → v < 10 → (jbit (ap u) v ↔ jbit (ap v) u) ∧ ¬ jbit (ap u) u ∧ (jbit (ap u) v → v < p) := h.2.2.2.2.2.2.2.2.2.2.2.2.2.2.2
def jK (M : jMem) : Prop := jJn (M 1 8) (M 2 3) (M 6 3) (M 9) (M 10) (M 11) (M 12) (M 13) (M 14) (M 15) (M 16) (M 17) (M 18) (M 19) (M 20) (M 33) (M 34) (M 35) (M 36) (M 37)
def jO (M : jMem) : Prop := jJn (M 8 2) (M 8 8) (M 8 14) (M 49) (M 40) (M 41) (M 42) (M 43) (M 44) (M 48) (M 39) (M 38) (M 45) (M 46) (M 47) (M 50) (M 51) (M 52) (M 54) (M 53)
/-- class and reference hold the same; of the calls, those that are needed -/
def jEq (M : jMem) : Prop := M 8 2 = M 1 8 ∧ M 8 8 = M 2 3 ∧ M 8 14 = M 6 3 ∧ M 49 = M 9 ∧ M 40 = M 10 ∧ M 41 = M 11 ∧ M 42 = M 12 ∧ M 43 = M 13 ∧ M 44 = M 14 ∧ M 39 = M 16 ∧ M 38 = M 17 ∧ M 45 = M 18 ∧ M 46 = M 19 ∧ M 47 = M 20 ∧ M 50 = M 33 ∧ M 51 = M 34 ∧ M 52 = M 35 ∧ M 54 = M 36 ∧ M 53 = M 37 ∧ ∀ k v, 0 ≤ k → k < 12 → 0 ≤ v → v < 10 → jbit (M 13 k) v → M 48 (10 * k + v) = M 15 (k * 10 + v)
theorem jq_cases {M : jMem} (h : jEq M) : M 8 2 = M 1 8 := h.1
theorem jq_witnesses {M : jMem} (h : jEq M) : M 8 8 = M 2 3 := h.2.1
theorem jq_notices {M : jMem} (h : jEq M) : M 8 14 = M 6 3 := h.2.2.1
theorem jq_rules {M : jMem} (h : jEq M) : M 49 = M 9 := h.2.2.2.1
theorem jq_court {M : jMem} (h : jEq M) : M 40 = M 10 := h.2.2.2.2.1
theorem jq_length {M : jMem} (h : jEq M) : M 41 = M 11 := h.2.2.2.2.2.1
theorem jq_folds {M : jMem} (h : jEq M) : M 42 = M 12 := h.2.2.2.2.2.2.1
theorem jq_sets {M : jMem} (h : jEq M) : M 43 = M 13 := h.2.2.2.2.2.2.2.1
theorem jq_fates {M : jMem} (h : jEq M) : M 44 = M 14 := h.2.2.2.2.2.2.2.2.1
theorem jq_list {M : jMem} (h : jEq M) : M 39 = M 16 := h.2.2.2.2.2.2.2.2.2.1
theorem jq_many {M : jMem} (h : jEq M) : M 38 = M 17 := h.2.2.2.2.2.2.2.2.2.2.1
theorem jq_kind {M : jMem} (h : jEq M) : M 45 = M 18 := h.2.2.2.2.2.2.2.2.2.2.2.1
theorem jq_way {M : jMem} (h : jEq M) : M 46 = M 19 := h.2.2.2.2.2.2.2.2.2.2.2.2.1
theorem jq_apart {M : jMem} (h : jEq M) : M 47 = M 20 := h.2.2.2.2.2.2.2.2.2.2.2.2.2.1
theorem jq_nWho {M : jMem} (h : jEq M) : M 50 = M 33 := h.2.2.2.2.2.2.2.2.2.2.2.2.2.2.1
theorem jq_nCase {M : jMem} (h : jEq M) : M 51 = M 34 := h.2.2.2.2.2.2.2.2.2.2.2.2.2.2.2.1
theorem jq_nRead {M : jMem} (h : jEq M) : M 52 = M 35 := h.2.2.2.2.2.2.2.2.2.2.2.2.2.2.2.2.1
theorem jq_numbers {M : jMem} (h : jEq M) : M 54 = M 36 := h.2.2.2.2.2.2.2.2.2.2.2.2.2.2.2.2.2.1
theorem jq_places {M : jMem} (h : jEq M) : M 53 = M 37 := h.2.2.2.2.2.2.2.2.2.2.2.2.2.2.2.2.2.2.1
theorem jq_calls {M : jMem} (h : jEq M) : ∀ k v, 0 ≤ k → k < 12 → 0 ≤ v → v < 10 → jbit (M 13 k) v → M 48 (10 * k + v) = M 15 (k * 10 + v) := h.2.2.2.2.2.2.2.2.2.2.2.2.2.2.2.2.2.2.2
def jJ (M : jMem) : Prop := jK M ∧ jEq M ∧ ∀ i, 0 ≤ i → i < 120 → 0 ≤ M 48 i ∧ M 48 i ≤ 48
theorem jJ_O {M : jMem} (h : jJ M) : jO M := by
  obtain ⟨hK, hE, hc⟩ := h
  unfold jK at hK
  unfold jO
  rw [jq_cases hE, jq_witnesses hE, jq_notices hE, jq_rules hE, jq_court hE, jq_length hE, jq_folds hE, jq_sets hE, jq_fates hE, jq_list hE, jq_many hE, jq_kind hE, jq_way hE, jq_apart hE, jq_nWho hE, jq_nCase hE, jq_nRead hE, jq_numbers hE, jq_places hE]
  obtain ⟨a1, a2, a3, a4, a5, a6, a7, a8, a9, a10, a11, a12, a13, a14, a15, a16⟩ := hK
  exact ⟨a1, a2, a3, a4, hc, a6, a7, a8, a9, a10, a11, a12, a13, a14, a15, a16⟩
theorem jK_cong {M M' : jMem} (e0 : M' 1 8 = M 1 8) (e1 : M' 2 3 = M 2 3) (e2 : M' 6 3 = M 6 3) (e3 : M' 9 = M 9) (e4 : M' 10 = M 10) (e5 : M' 11 = M 11) (e6 : M' 12 = M 12) (e7 : M' 13 = M 13) (e8 : M' 14 = M 14) (e9 : M' 15 = M 15) (e10 : M' 16 = M 16) (e11 : M' 17 = M 17) (e12 : M' 18 = M 18) (e13 : M' 19 = M 19) (e14 : M' 20 = M 20) (e15 : M' 33 = M 33) (e16 : M' 34 = M 34) (e17 : M' 35 = M 35) (e18 : M' 36 = M 36) (e19 : M' 37 = M 37) (h : jK M) : jK M' := by
  unfold jK at h ⊢
  rw [e0, e1, e2, e3, e4, e5, e6, e7, e8, e9, e10, e11, e12, e13, e14, e15, e16, e17, e18, e19]
  exact h
theorem jO_cong {M M' : jMem} (e0 : M' 8 2 = M 8 2) (e1 : M' 8 8 = M 8 8) (e2 : M' 8 14 = M 8 14) (e3 : M' 49 = M 49) (e4 : M' 40 = M 40) (e5 : M' 41 = M 41) (e6 : M' 42 = M 42) (e7 : M' 43 = M 43) (e8 : M' 44 = M 44) (e9 : M' 48 = M 48) (e10 : M' 39 = M 39) (e11 : M' 38 = M 38) (e12 : M' 45 = M 45) (e13 : M' 46 = M 46) (e14 : M' 47 = M 47) (e15 : M' 50 = M 50) (e16 : M' 51 = M 51) (e17 : M' 52 = M 52) (e18 : M' 54 = M 54) (e19 : M' 53 = M 53) (h : jO M) : jO M' := by
  unfold jO at h ⊢
  rw [e0, e1, e2, e3, e4, e5, e6, e7, e8, e9, e10, e11, e12, e13, e14, e15, e16, e17, e18, e19]
  exact h
theorem jpl_of {M : jMem} (h : jK M) {k : Int} (h0 : 0 ≤ k) (h1 : k < M 1 8) : ∃ p, jpl M k p := by
  have s := (jn1 h).1
  have r := (jn3 h k h0 (by omega)).1
  obtain ⟨j, j0, j1, j2⟩ := jn7 h k h0 h1
  exact ⟨j, j0, j1, j2, fun i i0 i1 e => jn8 h _ i j r.1 r.2 i0 i1 j1 (by rw [e, j2])⟩
theorem jpl_R {M : jMem} (h : jK M) {k : Int} (h0 : 0 ≤ k) (h1 : k < 12) : ∀ q, 0 ≤ q → q < M 17 (M 10 k) → jR (M 16 (6 * M 10 k + q)) := by
  intro q q0 q1
  have s := (jn1 h).1
  have r := (jn3 h k h0 h1).1
  have := (jn6 h _ q r.1 r.2 q0 q1).1
  omega
