/-! THE DAY as numbers and rows alone: a state is when each case began and ends, the idle quarters, the next place of each court, how many cases are open -/
abbrev jS : Type := (Int → Int) × (Int → Int) × (Int → Int) × (Int → Int) × Int
def jfu (f : Int → Int) (i v : Int) : Int → Int := fun b => if b = i then v else f b
theorem jfu_at {f : Int → Int} {i v : Int} : jfu f i v i = v := if_pos rfl
theorem jfu_off {f : Int → Int} {i v b : Int} (h : b ≠ i) : jfu f i v b = f b := if_neg h
def jcs (σ : jS) (k c t e : Int) : jS := (jfu σ.1 k t, jfu σ.2.1 k e, σ.2.2.1, jfu σ.2.2.2.1 c (σ.2.2.2.1 c + 1), σ.2.2.2.2 - 1)
def jid (σ : jS) (i : Int) : jS := (σ.1, σ.2.1, jfu σ.2.2.1 i (σ.2.2.1 i + 1), σ.2.2.2.1, σ.2.2.2.2)
def jOn (σ : jS) (k t : Int) : Prop := 0 ≤ σ.1 k ∧ σ.1 k ≤ t ∧ t < σ.2.1 k
def jBy (n : Int) (ne : Int → Int) (σ : jS) (v t k : Int) : Prop := ∃ j, 0 ≤ j ∧ j < n ∧ j ≠ k ∧ jbit (ne j) v ∧ jOn σ j t
def jLt (p : Int) (ne : Int → Int) (cl : Int → Int → Int) (k t : Int) : Prop := ∃ v, 0 ≤ v ∧ v < p ∧ jbit (ne k) v ∧ t < cl k v
def jBs (n p : Int) (ne : Int → Int) (σ : jS) (k t : Int) : Prop := ∃ v, 0 ≤ v ∧ v < p ∧ jbit (ne k) v ∧ jBy n ne σ v t k
noncomputable def jwy (n p : Int) (ne : Int → Int) (cl : Int → Int → Int) (σ : jS) (k t : Int) : Int :=
  @ite Int (jLt p ne cl k t) (Classical.propDecidable _) 0 (@ite Int (jBs n p ne σ k t) (Classical.propDecidable _) 1 (-1))
def jdu (fa le : Int → Int) (k : Int) : Int := if fa k = -1 then le k else fa k
noncomputable def jfin (n p : Int) (li ls ne fa le : Int → Int) (cl : Int → Int → Int) (σ : jS) (c t : Int) : jS :=
  if ls c ≤ σ.2.2.2.1 c then σ
  else if 0 ≤ jwy n p ne cl σ (li (6 * c + σ.2.2.2.1 c)) t then jid σ (2 * c + jwy n p ne cl σ (li (6 * c + σ.2.2.2.1 c)) t)
  else jcs σ (li (6 * c + σ.2.2.2.1 c)) c t (t + jdu fa le (li (6 * c + σ.2.2.2.1 c)))
def jsk (li ls fa : Int → Int) (c t : Int) : Nat → jS → jS
  | 0, σ => σ
  | m + 1, σ => if ls c ≤ σ.2.2.2.1 c then σ else if fa (li (6 * c + σ.2.2.2.1 c)) = 0 then jsk li ls fa c t m (jcs σ (li (6 * c + σ.2.2.2.1 c)) c t t) else σ
noncomputable def jps (n p : Int) (li ls ne fa le : Int → Int) (cl : Int → Int → Int) (σ : jS) (c t : Int) : jS :=
  @ite jS (0 < σ.2.2.2.1 c ∧ jOn σ (li (6 * c + σ.2.2.2.1 c - 1)) t) (Classical.propDecidable _) σ (jfin n p li ls ne fa le cl (jsk li ls fa c t 7 σ) c t)
def jini (n : Int) : jS := (fun _ => -1, fun _ => -1, fun _ => 0, fun _ => 0, n)
noncomputable def jdy (n p : Int) (li ls ne fa le : Int → Int) (cl : Int → Int → Int) : Nat → jS
  | 0 => jini n
  | t + 1 => if 0 < (jdy n p li ls ne fa le cl t).2.2.2.2 then jps n p li ls ne fa le cl (jps n p li ls ne fa le cl (jps n p li ls ne fa le cl (jdy n p li ls ne fa le cl t) 0 (t : Int)) 1 (t : Int)) 2 (t : Int) else jdy n p li ls ne fa le cl t
/-- what stays while the day goes -/
def jSD (n p : Int) (li ls ne fa le : Int → Int) : Prop :=
  (0 ≤ n ∧ n ≤ 12) ∧ (0 ≤ p ∧ p ≤ 10) ∧ (∀ c, 0 ≤ c → c < 3 → 0 ≤ ls c ∧ ls c ≤ 6) ∧ (∀ c i, 0 ≤ c → c < 3 → 0 ≤ i → i < ls c → 0 ≤ li (6 * c + i) ∧ li (6 * c + i) < n) ∧
  (∀ c i c' i', 0 ≤ c → c < 3 → 0 ≤ i → i < ls c → 0 ≤ c' → c' < 3 → 0 ≤ i' → i' < ls c' → li (6 * c + i) = li (6 * c' + i') → c = c' ∧ i = i') ∧
  (∀ k, 0 ≤ k → k < n → (-1 ≤ fa k ∧ fa k ≤ 20) ∧ (1 ≤ le k ∧ le k ≤ 8)) ∧ (∀ k v, 0 ≤ k → k < n → p ≤ v → v < 10 → ¬ jbit (ne k) v)
theorem jSD_of {n p q : Int} {ru co le fo ne fa ca li ls ki wa ap nw nc nr ro si : Int → Int} (h : jJn n p q ru co le fo ne fa ca li ls ki wa ap nw nc nr ro si) : jSD n p li ls ne fa le := by
  have a1 := jn1 h
  refine ⟨a1.1, a1.2.1, jn2 h, fun c i c0 c1 i0 i1 => (jn6 h c i c0 c1 i0 i1).1, ?_, fun k k0 k1 => ?_, fun k v k0 k1 v0 v1 => jn10 h k v k0 (by omega) v0 v1⟩
  · intro c i c' i' c0 c1 i0 i1 c0' c1' i0' i1' e
    have h1 := (jn6 h c i c0 c1 i0 i1).2
    have h2 := (jn6 h c' i' c0' c1' i0' i1').2
    have hc : c = c' := by rw [← h1, ← h2, e]
    subst hc
    refine ⟨rfl, ?_⟩
    by_cases q : i = i'
    · exact q
    · by_cases z : i < i'
      · exact absurd e (jn8 h c i i' c0 c1 i0 z i1')
      · exact absurd e.symm (jn8 h c i' i c0 c1 i0' (by omega) i1)
  · have := jn3 h k k0 (by omega)
    have := jn4 h k k0 k1
    omega
section JDAY
variable {n p : Int} {li ls ne fa le : Int → Int} {cl : Int → Int → Int}
def jIv (n : Int) (li ls ne : Int → Int) (t m : Int) (σ : jS) : Prop :=
  (∀ c, 0 ≤ c → c < 3 → 0 ≤ σ.2.2.2.1 c ∧ σ.2.2.2.1 c ≤ ls c) ∧
  (∀ k, 0 ≤ k → k < n → (σ.1 k = -1 ∧ σ.2.1 k = -1) ∨ (0 ≤ σ.1 k ∧ σ.1 k ≤ t ∧ σ.1 k < 200 ∧ σ.1 k ≤ σ.2.1 k ∧ σ.2.1 k ≤ σ.1 k + 20)) ∧
  (∀ c i, 0 ≤ c → c < 3 → 0 ≤ i → i < ls c → (i < σ.2.2.2.1 c ↔ 0 ≤ σ.1 (li (6 * c + i)))) ∧
  (∀ i, 0 ≤ σ.2.2.1 i ∧ σ.2.2.1 i ≤ m) ∧
  (∀ j k v, 0 ≤ j → j < n → 0 ≤ k → k < n → j ≠ k → 0 ≤ v → v < 10 → jbit (ne j) v → jbit (ne k) v → 0 ≤ σ.1 j → 0 ≤ σ.1 k → σ.1 j < σ.2.1 j → σ.1 k < σ.2.1 k → σ.2.1 j ≤ σ.1 k ∨ σ.2.1 k ≤ σ.1 j) ∧
  σ.2.2.2.2 = n - σ.2.2.2.1 0 - σ.2.2.2.1 1 - σ.2.2.2.1 2
/-- how the class keeps it: when courts and witnesses are free -/
def jFr (n : Int) (li ne : Int → Int) (t : Int) (cf wf : Int → Int) (σ : jS) : Prop :=
  (∀ c, 0 ≤ c → c < 3 → (0 ≤ cf c ∧ cf c ≤ 300) ∧ ∀ u, t ≤ u → (u < cf c ↔ (0 < σ.2.2.2.1 c ∧ u < σ.2.1 (li (6 * c + σ.2.2.2.1 c - 1))))) ∧
  (∀ v, 0 ≤ v → v < 10 → (0 ≤ wf v ∧ wf v ≤ 300) ∧ ∀ u, t ≤ u → (u < wf v ↔ ∃ j, 0 ≤ j ∧ j < n ∧ jbit (ne j) v ∧ 0 ≤ σ.1 j ∧ u < σ.2.1 j))
theorem jIv_mono {t m t' m' : Int} {σ : jS} (h : jIv n li ls ne t m σ) (ht : t ≤ t') (hm : m ≤ m') : jIv n li ls ne t' m' σ := by
  obtain ⟨h1, h2, h3, h4, h5, h6⟩ := h
  exact ⟨h1, fun k k0 k1 => by have := h2 k k0 k1; omega, h3, fun i => by have := h4 i; omega, h5, h6⟩
theorem jFr_mono {t t' : Int} {cf wf : Int → Int} {σ : jS} (h : jFr n li ne t cf wf σ) (ht : t ≤ t') : jFr n li ne t' cf wf σ :=
  ⟨fun c c0 c1 => ⟨(h.1 c c0 c1).1, fun u hu => (h.1 c c0 c1).2 u (by omega)⟩, fun v v0 v1 => ⟨(h.2 v v0 v1).1, fun u hu => (h.2 v v0 v1).2 u (by omega)⟩⟩
/-- the next case of a court hasn't begun -/
theorem jnx_no {t m : Int} {σ : jS} (hs : jSD n p li ls ne fa le) (h : jIv n li ls ne t m σ) {c : Int} (c0 : 0 ≤ c) (c1 : c < 3) (hn : σ.2.2.2.1 c < ls c) : σ.1 (li (6 * c + σ.2.2.2.1 c)) = -1 ∧ σ.2.1 (li (6 * c + σ.2.2.2.1 c)) = -1 := by
  have r := h.1 c c0 c1
  have e := hs.2.2.2.1 c _ c0 c1 r.1 hn
  have := h.2.1 _ e.1 e.2
  have := h.2.2.1 c _ c0 c1 r.1 hn
  omega
/-- and is the last one of no court -/
theorem jnx_last {t m : Int} {σ : jS} (hs : jSD n p li ls ne fa le) (h : jIv n li ls ne t m σ) {c c' : Int} (c0 : 0 ≤ c) (c1 : c < 3) (hn : σ.2.2.2.1 c < ls c) (c0' : 0 ≤ c') (c1' : c' < 3) (hl : 0 < σ.2.2.2.1 c') : li (6 * c' + σ.2.2.2.1 c' - 1) ≠ li (6 * c + σ.2.2.2.1 c) := by
  have r := h.1 c c0 c1
  have r' := h.1 c' c0' c1'
  intro e
  rw [show 6 * c' + σ.2.2.2.1 c' - 1 = 6 * c' + (σ.2.2.2.1 c' - 1) by omega] at e
  have := hs.2.2.2.2.1 c' (σ.2.2.2.1 c' - 1) c (σ.2.2.2.1 c) c0' c1' (by omega) (by omega) c0 c1 r.1 hn e
  obtain ⟨rfl, e2⟩ := this
  omega
theorem jlast_on {t m : Int} {σ : jS} (hs : jSD n p li ls ne fa le) (h : jIv n li ls ne t m σ) {c : Int} (c0 : 0 ≤ c) (c1 : c < 3) (hl : 0 < σ.2.2.2.1 c) : jOn σ (li (6 * c + σ.2.2.2.1 c - 1)) t ↔ t < σ.2.1 (li (6 * c + σ.2.2.2.1 c - 1)) := by
  have r := h.1 c c0 c1
  rw [show 6 * c + σ.2.2.2.1 c - 1 = 6 * c + (σ.2.2.2.1 c - 1) by omega]
  have e := hs.2.2.2.1 c (σ.2.2.2.1 c - 1) c0 c1 (by omega) (by omega)
  have b := (h.2.2.1 c (σ.2.2.2.1 c - 1) c0 c1 (by omega) (by omega)).mp (by omega)
  have := h.2.1 _ e.1 e.2
  unfold jOn
  omega
/-- a case is closed: the invariant stays -/
theorem jIv_cs {t m e : Int} {σ : jS} (hs : jSD n p li ls ne fa le) (h : jIv n li ls ne t m σ) {c : Int} (c0 : 0 ≤ c) (c1 : c < 3) (hn : σ.2.2.2.1 c < ls c) (t0 : 0 ≤ t) (t1 : t < 200) (e0 : t ≤ e) (e1 : e ≤ t + 20)
    (hd : e = t ∨ ∀ v, 0 ≤ v → v < 10 → jbit (ne (li (6 * c + σ.2.2.2.1 c))) v → ∀ j, 0 ≤ j → j < n → jbit (ne j) v → 0 ≤ σ.1 j → σ.2.1 j ≤ t) : jIv n li ls ne t m (jcs σ (li (6 * c + σ.2.2.2.1 c)) c t e) := by
  have nb := jnx_no hs h c0 c1 hn
  have r := h.1 c c0 c1
  have rk := hs.2.2.2.1 c _ c0 c1 r.1 hn
  generalize hk : li (6 * c + σ.2.2.2.1 c) = k at nb rk hd ⊢
  obtain ⟨h1, h2, h3, h4, h5, h6⟩ := h
  refine ⟨fun a a0 a1 => ?_, fun a a0 a1 => ?_, fun a i a0 a1 i0 i1 => ?_, h4, fun a b v a0 a1 b0 b1 hab v0 v1 va vb => ?_, ?_⟩
  · show 0 ≤ jfu σ.2.2.2.1 c (σ.2.2.2.1 c + 1) a ∧ jfu σ.2.2.2.1 c (σ.2.2.2.1 c + 1) a ≤ ls a
    by_cases z : a = c
    · subst z; rw [jfu_at]; omega
    · rw [jfu_off z]; exact h1 a a0 a1
  · show (jfu σ.1 k t a = -1 ∧ jfu σ.2.1 k e a = -1) ∨ (0 ≤ jfu σ.1 k t a ∧ jfu σ.1 k t a ≤ t ∧ jfu σ.1 k t a < 200 ∧ jfu σ.1 k t a ≤ jfu σ.2.1 k e a ∧ jfu σ.2.1 k e a ≤ jfu σ.1 k t a + 20)
    by_cases z : a = k
    · subst z; rw [jfu_at, jfu_at]; omega
    · rw [jfu_off z, jfu_off z]; exact h2 a a0 a1
  · show i < jfu σ.2.2.2.1 c (σ.2.2.2.1 c + 1) a ↔ 0 ≤ jfu σ.1 k t (li (6 * a + i))
    by_cases z : li (6 * a + i) = k
    · have := hs.2.2.2.2.1 a i c _ a0 a1 i0 i1 c0 c1 r.1 hn (by rw [z, hk])
      obtain ⟨rfl, rfl⟩ := this
      rw [z, jfu_at, jfu_at]
      omega
    · rw [jfu_off z, ← h3 a i a0 a1 i0 i1]
      by_cases y : a = c
      · subst y
        rw [jfu_at]
        have : i ≠ σ.2.2.2.1 a := fun q => z (by rw [q, hk])
        omega
      · rw [jfu_off y]
  · show 0 ≤ jfu σ.1 k t a → 0 ≤ jfu σ.1 k t b → jfu σ.1 k t a < jfu σ.2.1 k e a → jfu σ.1 k t b < jfu σ.2.1 k e b → jfu σ.2.1 k e a ≤ jfu σ.1 k t b ∨ jfu σ.2.1 k e b ≤ jfu σ.1 k t a
    by_cases za : a = k
    · subst za
      have zb : b ≠ a := fun q => hab q.symm
      rw [jfu_at, jfu_at, jfu_off zb, jfu_off zb]
      intro _ q1 q2 _
      rcases hd with hd | hd
      · omega
      · exact Or.inr (hd v v0 v1 va b b0 b1 vb q1)
    · by_cases zb : b = k
      · subst zb
        rw [jfu_off za, jfu_off za, jfu_at, jfu_at]
        intro q1 _ _ q2
        rcases hd with hd | hd
        · omega
        · exact Or.inl (hd v v0 v1 vb a a0 a1 va q1)
      · rw [jfu_off za, jfu_off za, jfu_off zb, jfu_off zb]
        exact h5 a b v a0 a1 b0 b1 hab v0 v1 va vb
  · show σ.2.2.2.2 - 1 = n - jfu σ.2.2.2.1 c (σ.2.2.2.1 c + 1) 0 - jfu σ.2.2.2.1 c (σ.2.2.2.1 c + 1) 1 - jfu σ.2.2.2.1 c (σ.2.2.2.1 c + 1) 2
    have : c = 0 ∨ c = 1 ∨ c = 2 := by omega
    rcases this with z | z | z <;> subst z <;> simp only [jfu] <;> simp <;> omega
theorem jIv_id {t m i : Int} {σ : jS} (h : jIv n li ls ne t m σ) : jIv n li ls ne t (m + 1) (jid σ i) := by
  obtain ⟨h1, h2, h3, h4, h5, h6⟩ := h
  refine ⟨h1, h2, h3, fun b => ?_, h5, h6⟩
  have hb := h4 b
  show 0 ≤ jfu σ.2.2.1 i (σ.2.2.1 i + 1) b ∧ jfu σ.2.2.1 i (σ.2.2.1 i + 1) b ≤ m + 1
  by_cases z : b = i
  · subst z; rw [jfu_at]; omega
  · rw [jfu_off z]; omega
/-- the class's free times behind a closed case: court's cf', witnesses' wf' -/
theorem jFr_cs {t m e : Int} {cf wf cf' wf' : Int → Int} {σ : jS} (hs : jSD n p li ls ne fa le) (h : jIv n li ls ne t m σ) (hf : jFr n li ne t cf wf σ) {c : Int} (c0 : 0 ≤ c) (c1 : c < 3) (hn : σ.2.2.2.1 c < ls c) (t0 : 0 ≤ t) (t1 : t < 200) (e0 : t ≤ e) (e1 : e ≤ t + 20)
    (hcf : ∀ a, a ≠ c → cf' a = cf a) (hcc : (cf' c = e) ∨ (e = t ∧ cf' c = cf c ∧ cf c ≤ t))
    (hwf : (e = t ∧ ∀ v, wf' v = wf v) ∨ ∀ v, 0 ≤ v → v < 10 → (jbit (ne (li (6 * c + σ.2.2.2.1 c))) v → wf' v = e ∧ ∀ j, 0 ≤ j → j < n → jbit (ne j) v → 0 ≤ σ.1 j → σ.2.1 j ≤ t) ∧ (¬ jbit (ne (li (6 * c + σ.2.2.2.1 c))) v → wf' v = wf v)) : jFr n li ne t cf' wf' (jcs σ (li (6 * c + σ.2.2.2.1 c)) c t e) := by
  have nb := jnx_no hs h c0 c1 hn
  have r := h.1 c c0 c1
  have rk := hs.2.2.2.1 c _ c0 c1 r.1 hn
  have nl := fun (c' : Int) (q0 : 0 ≤ c') (q1 : c' < 3) (q2 : 0 < σ.2.2.2.1 c') => jnx_last hs h c0 c1 hn q0 q1 q2
  generalize hk : li (6 * c + σ.2.2.2.1 c) = k at nb rk hwf nl ⊢
  refine ⟨fun a a0 a1 => ?_, fun v v0 v1 => ?_⟩
  · show (0 ≤ cf' a ∧ cf' a ≤ 300) ∧ ∀ u, t ≤ u → (u < cf' a ↔ (0 < jfu σ.2.2.2.1 c (σ.2.2.2.1 c + 1) a ∧ u < jfu σ.2.1 k e (li (6 * a + jfu σ.2.2.2.1 c (σ.2.2.2.1 c + 1) a - 1))))
    by_cases z : a = c
    · subst z
      rw [jfu_at, show 6 * a + (σ.2.2.2.1 a + 1) - 1 = 6 * a + σ.2.2.2.1 a by omega, hk, jfu_at]
      have := (hf.1 a a0 a1).1
      refine ⟨by omega, fun u hu => ?_⟩
      rcases hcc with q | q
      · rw [q]; omega
      · omega
    · rw [hcf a z, jfu_off z]
      refine ⟨(hf.1 a a0 a1).1, fun u hu => ?_⟩
      rw [(hf.1 a a0 a1).2 u hu]
      by_cases y : 0 < σ.2.2.2.1 a
      · rw [jfu_off (nl a a0 a1 y)]
      · exact ⟨fun q => absurd q.1 y, fun q => absurd q.1 y⟩
  · show (0 ≤ wf' v ∧ wf' v ≤ 300) ∧ ∀ u, t ≤ u → (u < wf' v ↔ ∃ j, 0 ≤ j ∧ j < n ∧ jbit (ne j) v ∧ 0 ≤ jfu σ.1 k t j ∧ u < jfu σ.2.1 k e j)
    have old := hf.2 v v0 v1
    -- an old one stays, the new one ends at e
    have split : ∀ u, t ≤ u → ((∃ j, 0 ≤ j ∧ j < n ∧ jbit (ne j) v ∧ 0 ≤ jfu σ.1 k t j ∧ u < jfu σ.2.1 k e j) ↔ ((∃ j, 0 ≤ j ∧ j < n ∧ jbit (ne j) v ∧ 0 ≤ σ.1 j ∧ u < σ.2.1 j) ∨ (jbit (ne k) v ∧ u < e))) := by
      intro u hu
      constructor
      · rintro ⟨j, j0, j1, j2, j3, j4⟩
        by_cases z : j = k
        · subst z; rw [jfu_at] at j4; exact Or.inr ⟨j2, j4⟩
        · rw [jfu_off z] at j3 j4; exact Or.inl ⟨j, j0, j1, j2, j3, j4⟩
      · rintro (⟨j, j0, j1, j2, j3, j4⟩ | ⟨j2, j4⟩)
        · have z : j ≠ k := fun q => by rw [q] at j3; omega
          exact ⟨j, j0, j1, j2, by rw [jfu_off z]; exact j3, by rw [jfu_off z]; exact j4⟩
        · exact ⟨k, rk.1, rk.2, j2, by rw [jfu_at]; exact t0, by rw [jfu_at]; exact j4⟩
    rcases hwf with ⟨he, hw⟩ | hw
    · rw [hw v]
      refine ⟨old.1, fun u hu => ?_⟩
      rw [split u hu, old.2 u hu]
      exact ⟨Or.inl, fun q => q.elim id (fun q => absurd q.2 (by omega))⟩
    · obtain ⟨w1, w2⟩ := hw v v0 v1
      by_cases q : jbit (ne k) v
      · obtain ⟨q1, q2⟩ := w1 q
        rw [q1]
        refine ⟨by omega, fun u hu => ?_⟩
        rw [split u hu]
        constructor
        · exact fun z => Or.inr ⟨q, z⟩
        · rintro (⟨j, j0, j1, j2, j3, j4⟩ | ⟨_, z⟩)
          · have := q2 j j0 j1 j2 j3; omega
          · exact z
      · rw [w2 q]
        refine ⟨old.1, fun u hu => ?_⟩
        rw [split u hu, old.2 u hu]
        exact ⟨Or.inl, fun z => z.elim id (fun z => absurd z.1 q)⟩
theorem jFr_id {t i : Int} {cf wf : Int → Int} {σ : jS} (hf : jFr n li ne t cf wf σ) : jFr n li ne t cf wf (jid σ i) := hf
/-- a witness is elsewhere just if the class says so -/
theorem jBy_wf {t m : Int} {cf wf : Int → Int} {σ : jS} (h : jIv n li ls ne t m σ) (hf : jFr n li ne t cf wf σ) {v k : Int} (v0 : 0 ≤ v) (v1 : v < 10) (hk : σ.1 k = -1) : jBy n ne σ v t k ↔ t < wf v := by
  rw [(hf.2 v v0 v1).2 t (Int.le_refl t)]
  constructor
  · rintro ⟨j, j0, j1, j2, j3, j4⟩
    exact ⟨j, j0, j1, j3, j4.1, j4.2.2⟩
  · rintro ⟨j, j0, j1, j2, j3, j4⟩
    have := h.2.1 j j0 j1
    exact ⟨j, j0, j1, fun q => by rw [q] at j3; omega, j2, j3, by omega, j4⟩
theorem jdu_R (hs : jSD n p li ls ne fa le) {k : Int} (k0 : 0 ≤ k) (k1 : k < n) (hf : fa k ≠ 0) : 1 ≤ jdu fa le k ∧ jdu fa le k ≤ 20 := by
  have := hs.2.2.2.2.2.1 k k0 k1
  unfold jdu
  split <;> omega
/-- nobody hinders: none of the witnesses is in a case that goes on -/
theorem jwy_free {t m : Int} {σ : jS} (hs : jSD n p li ls ne fa le) (h : jIv n li ls ne t m σ) {k : Int} (k0 : 0 ≤ k) (k1 : k < n) (hk : σ.1 k = -1) (hw : ¬ 0 ≤ jwy n p ne cl σ k t) : ∀ v, 0 ≤ v → v < 10 → jbit (ne k) v → ∀ j, 0 ≤ j → j < n → jbit (ne j) v → 0 ≤ σ.1 j → σ.2.1 j ≤ t := by
  intro v v0 v1 hv j j0 j1 j2 j3
  unfold jwy at hw
  by_cases q : jLt p ne cl k t
  · rw [if_pos q] at hw; omega
  · rw [if_neg q] at hw
    by_cases q2 : jBs n p ne σ k t
    · rw [if_pos q2] at hw; omega
    · have vp : v < p := by
        rcases Int.lt_or_le v p with z | z
        · exact z
        · exact absurd hv (hs.2.2.2.2.2.2 k v k0 k1 z v1)
      have := h.2.1 j j0 j1
      rcases Int.lt_or_le t (σ.2.1 j) with z | z
      · exact absurd ⟨v, v0, vp, hv, j, j0, j1, fun y => by rw [y] at j3; omega, j2, j3, by omega, z⟩ q2
      · exact z
theorem jwy_v {σ : jS} {k t : Int} : jwy n p ne cl σ k t = 0 ∨ jwy n p ne cl σ k t = 1 ∨ jwy n p ne cl σ k t = -1 := by
  unfold jwy
  split
  · exact Or.inl rfl
  · split
    · exact Or.inr (Or.inl rfl)
    · exact Or.inr (Or.inr rfl)
theorem jIv_sk {t m : Int} (hs : jSD n p li ls ne fa le) {c : Int} (c0 : 0 ≤ c) (c1 : c < 3) (t0 : 0 ≤ t) (t1 : t < 200) : ∀ (f : Nat) (σ : jS), jIv n li ls ne t m σ → jIv n li ls ne t m (jsk li ls fa c t f σ)
  | 0, σ, h => h
  | f + 1, σ, h => by
    unfold jsk
    split
    · exact h
    · split
      · exact jIv_sk hs c0 c1 t0 t1 f _ (jIv_cs hs h c0 c1 (by omega) t0 t1 (by omega) (by omega) (Or.inl rfl))
      · exact h
theorem jIv_fin {t m : Int} {σ : jS} (hs : jSD n p li ls ne fa le) (h : jIv n li ls ne t m σ) {c : Int} (c0 : 0 ≤ c) (c1 : c < 3) (t0 : 0 ≤ t) (t1 : t < 200) (hnf : σ.2.2.2.1 c < ls c → fa (li (6 * c + σ.2.2.2.1 c)) ≠ 0) : jIv n li ls ne t (m + 1) (jfin n p li ls ne fa le cl σ c t) := by
  unfold jfin
  split
  · exact jIv_mono h (Int.le_refl _) (by omega)
  · rename_i hlt
    split
    · exact jIv_id h
    · rename_i hw
      have r := h.1 c c0 c1
      have rk := hs.2.2.2.1 c _ c0 c1 r.1 (by omega)
      have du := jdu_R hs rk.1 rk.2 (hnf (by omega))
      have nb := jnx_no hs h c0 c1 (by omega)
      exact jIv_mono (jIv_cs hs h c0 c1 (by omega) t0 t1 (by omega) (by omega) (Or.inr (jwy_free hs h rk.1 rk.2 nb.1 hw))) (Int.le_refl _) (by omega)
theorem jsk_nf {t : Int} {c : Int} : ∀ (f : Nat) (σ : jS), ls c - σ.2.2.2.1 c < f → (jsk li ls fa c t f σ).2.2.2.1 c < ls c → fa (li (6 * c + (jsk li ls fa c t f σ).2.2.2.1 c)) ≠ 0
  | 0, σ, hf, hl => by
    exfalso
    change σ.2.2.2.1 c < ls c at hl
    omega
  | f + 1, σ, hf, hl => by
    unfold jsk at hl ⊢
    by_cases q : ls c ≤ σ.2.2.2.1 c
    · rw [if_pos q] at hl; omega
    · rw [if_neg q] at hl ⊢
      by_cases z : fa (li (6 * c + σ.2.2.2.1 c)) = 0
      · rw [if_pos z] at hl ⊢
        refine jsk_nf f _ ?_ hl
        show ls c - jfu σ.2.2.2.1 c (σ.2.2.2.1 c + 1) c < f
        rw [jfu_at]; omega
      · rw [if_neg z]; exact z
theorem jIv_ps {t m : Int} {σ : jS} (hs : jSD n p li ls ne fa le) (h : jIv n li ls ne t m σ) {c : Int} (c0 : 0 ≤ c) (c1 : c < 3) (t0 : 0 ≤ t) (t1 : t < 200) : jIv n li ls ne t (m + 1) (jps n p li ls ne fa le cl σ c t) := by
  unfold jps
  split
  · exact jIv_mono h (Int.le_refl _) (by omega)
  · have r := h.1 c c0 c1
    have r2 := hs.2.2.1 c c0 c1
    exact jIv_fin hs (jIv_sk hs c0 c1 t0 t1 7 σ h) c0 c1 t0 t1 (jsk_nf 7 σ (by omega))
theorem jIv_ini (hs : jSD n p li ls ne fa le) : jIv n li ls ne 0 0 (jini n) := by
  refine ⟨fun c c0 c1 => ⟨Int.le_refl _, (hs.2.2.1 c c0 c1).1⟩, fun k _ _ => Or.inl ⟨rfl, rfl⟩, fun c i _ _ i0 _ => ?_, fun i => ⟨Int.le_refl _, Int.le_refl _⟩, fun j k v _ _ _ _ _ _ _ _ _ q => absurd q (by show ¬ (0 : Int) ≤ -1; omega), ?_⟩
  · show i < 0 ↔ (0 : Int) ≤ -1
    omega
  · show n = n - 0 - 0 - 0
    omega
theorem jIv_dy (hs : jSD n p li ls ne fa le) : ∀ t : Nat, t ≤ 200 → jIv n li ls ne t (3 * t) (jdy n p li ls ne fa le cl t)
  | 0, _ => jIv_ini hs
  | t + 1, ht => by
    have h := jIv_dy hs t (by omega)
    unfold jdy
    split
    · have h1 := jIv_ps (cl := cl) hs h (c := 0) (by omega) (by omega) (by omega) (by omega)
      have h2 := jIv_ps (cl := cl) hs h1 (c := 1) (by omega) (by omega) (by omega) (by omega)
      have h3 := jIv_ps (cl := cl) hs h2 (c := 2) (by omega) (by omega) (by omega) (by omega)
      exact jIv_mono h3 (by omega) (by omega)
    · exact jIv_mono h (by omega) (by omega)
end JDAY

