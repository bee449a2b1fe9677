def jM0 : jMem := fun k => if k = 9 then (jfu (jfu (jfu (jfu (jfu jz 0 1) 1 4) 2 0) 3 0) 4 0) else if k = 49 then (jfu (jfu jz 0 1) 1 4) else if k = 37 then (jfu (jfu jz 0 (-1)) 1 (-1)) else if k = 53 then (jfu (jfu jz 0 (-1)) 1 (-1)) else jz
def jad0 (x : Nat) (sx : Nat → Nat) (m : Nat) (sm : Nat → Nat) (k : Nat) : Nat := ([x, sx 0, sx 9, sx 13, sx 15, sx 22, sx 28, sx 32, m, sx 35, sx 1, sx 2, sx 3, sx 4, sx 5, sx 6, sx 7, sx 8, sx 10, sx 11, sx 12, sx 14, sx 16, sx 17, sx 18, sx 19, sx 20, sx 21, sx 23, sx 24, sx 25, sx 26, sx 27, sx 29, sx 30, sx 31, sx 33, sx 34, sm 0, sm 1, sm 2, sm 3, sm 4, sm 5, sm 6, sm 7, sm 8, sm 9, sm 10, sm 11, sm 12, sm 13, sm 14, sm 15, sm 16, sm 17, sm 18, sm 19, sm 20, sm 21, sm 22, sm 23, sm 24, sm 25, sm 26] : List Nat).getD k 0
def jpm : List Nat := [0, 1, 10, 14, 16, 23, 29, 33, 37, 36, 2, 3, 4, 5, 6, 7, 8, 9, 11, 12, 13, 15, 17, 18, 19, 20, 21, 22, 24, 25, 26, 27, 28, 30, 31, 32, 34, 35, 38, 39, 40, 41, 42, 43, 44, 45, 46, 47, 48, 49, 50, 51, 52, 53, 54, 55, 56, 57, 58, 59, 60, 61, 62, 63, 64]
abbrev jG0 (Γ : jΓ) (x : Nat) (sx : Nat → Nat) (m : Nat) (sm sa : Nat → Nat) : jG := (Γ.1, Γ.2.1.1, Γ.2.1.2, jad0 x sx m sm, Γ.2.2, sa)
abbrev jw0 (Γ : jΓ) (x : Nat) (sx : Nat → Nat) (m : Nat) (sm : Nat → Nat) : va_W := ([] ++ wX7 Γ.2.2 x sx) ++ wX8 Γ.2.2 m sm
set_option maxRecDepth 100000 in
theorem jw0_m (Γ : jΓ) (x : Nat) (sx : Nat → Nat) (m : Nat) (sm sa : Nat → Nat) : jpm.map (fun i => (jw0 Γ x sx m sm)[i]?) = (jwd (jG0 Γ x sx m sm sa) jM0).map some := rfl
theorem jmap_some {α β : Type} (f : α → Option β) : ∀ (l : List α) (r : List β), l.map f = r.map some → l.filterMap f = r
  | [], [], _ => rfl
  | [], b :: r, h => by simp at h
  | a :: l, [], h => by simp at h
  | a :: l, b :: r, h => by
    have h1 : f a = some b := by simp at h; exact h.1
    have h2 : l.map f = r.map some := by simp at h; simpa using h.2
    rw [List.filterMap_cons, h1, jmap_some f l r h2]
def jlF (b L sz : Nat) (xs : Nat → Int32) (sa : Nat → Nat) (args : Array Value) (s : State) (_ : Method) : Prop := args = #[.ref b] ∧ va_X b L xs s s.heap ∧ b < s.heap.size ∧ s.heap.size = sz ∧ ∀ t, t < 3 → va_Z "CourtHouse" (jsn t) "[I" (.ref (sa t)) (fun q => sz ≤ q) s s.heap ∧ va_T .int (sa t) 5 (fun j => .int (jI (jsv t (j : Int)))) (fun q => sz ≤ q) s s.heap
theorem jv_to {Γ : jΓ} {cl sl b L sz x m : Nat} {xs : Nat → Int32} {sx sm sa : Nat → Nat} (h : jX (jG0 Γ x sx m sm sa) mLaw room_1 cl sl (jlE (jG0 Γ x sx m sm sa) b L xs) lw_Z 16 [.ref b, .ref (jad (jG0 Γ x sx m sm sa) 0), .ref (jad (jG0 Γ x sx m sm sa) 8), .null] [] jM0) : jV Γ mLaw room_1 (fun q => sz ≤ q) (jlF b L sz xs sa) lw_Z cl sl 16 [.ref b, .ref x, .ref m, .null] [] (jw0 Γ x sx m sm) := by
  intro p e s m' args below meth c H locs ls hC
  obtain ⟨h1, h2, h3, h4, h5, h6, h7, ⟨g1, g2, g3, g4, g5⟩, h9, h10, h11, h12, h13⟩ := hC
  have hm := jw0_m Γ x sx m sm sa
  have hP := h12.1.sub (ws' := jwd (jG0 Γ x sx m sm sa) jM0) jpm (jmap_some _ _ _ hm)
  have hD := h12.2.sub (ws' := jwd (jG0 Γ x sx m sm sa) jM0) jpm (by decide) hm
  have hA : ∀ k, k < jNC → sz ≤ jad (jG0 Γ x sx m sm sa) k := fun k hk => hD.2 k _ (jwd_get _ jM0 hk)
  have hAB : ∀ q, jA (jG0 Γ x sx m sm sa) q → sz ≤ q := fun q ⟨k, k1, k2⟩ => by rw [k2]; exact hA k k1
  refine va_forget (fun q hq => by rw [g4]; exact h11.2.2 q hq) ?_
  refine h p e s m' args below meth c H [] ls ⟨h1, h2, h3, h4, h5, h6, h7, ⟨g1, g2, g3, fun k hk => by rw [g4]; exact hA k hk⟩, ⟨h9.1, h9.2, fun t ht => ⟨(g5 t ht).1.narrow hAB, (g5 t ht).2.narrow hAB⟩⟩, ⟨h11.1, fun q q1 q2 => h11.2.1 q q1 (by show ¬ sz ≤ q; omega), fun l hl => by simp at hl⟩, ⟨hP, hD.weaken (fun k q hk _ => ?_)⟩, h13⟩
  by_cases hl : k < jNC
  · rw [jwd_get _ jM0 hl] at hk
    cases hk
    exact jA_in _ hl
  · exfalso
    have : (jwd (jG0 Γ x sx m sm sa) jM0).length = jNC := by simp [jwd]
    have hk2 := (List.getElem?_eq_some_iff.mp hk).1
    omega
theorem jM0_J : jJ jM0 := by
  have z : ∀ k : Nat, k ≠ 9 → k ≠ 49 → k ≠ 37 → k ≠ 53 → jM0 k = jz := fun k a b c d => by
    unfold jM0
    rw [if_neg a, if_neg b, if_neg c, if_neg d]
  have r9 : jM0 9 = (jfu (jfu (jfu (jfu (jfu jz 0 1) 1 4) 2 0) 3 0) 4 0) := rfl
  have r37 : jM0 37 = (jfu (jfu jz 0 (-1)) 1 (-1)) := rfl
  have e : jM0 49 = jM0 9 := by
    show (jfu (jfu jz 0 1) 1 4) = (jfu (jfu (jfu (jfu (jfu jz 0 1) 1 4) 2 0) 3 0) 4 0)
    funext i
    unfold jfu jz
    by_cases h0 : i = 0
    · simp [h0]
    · by_cases h1 : i = 1
      · simp [h1]
      · simp [h0, h1]
  refine ⟨?_, ?_, ?_⟩
  · unfold jK
    simp (disch := decide) only [z]
    refine ⟨⟨by decide, by decide, by decide⟩, ?_, ?_, ?_, ?_, ?_, ?_, ?_, ?_, ?_, ?_, ?_, ?_, ?_, ?_, ?_⟩
    · intro c _ _; exact (by decide : (0 : Int) ≤ 0 ∧ (0 : Int) ≤ 6)
    · intro k _ _; exact (by decide : ((0 : Int) ≤ 0 ∧ (0 : Int) < 3) ∧ ((0 : Int) ≤ 0 ∧ (0 : Int) ≤ 8) ∧ ((0 : Int) ≤ 0 ∧ (0 : Int) ≤ 100) ∧ ((0 : Int) ≤ 0 ∧ (0 : Int) < 1024) ∧ ((-1 : Int) ≤ 0 ∧ (0 : Int) ≤ 20))
    · intro k k0 k1
      have k1 : k < 0 := k1
      omega
    · intro k _ _; exact (by decide : (0 : Int) ≤ 0 ∧ (0 : Int) ≤ 48)
    · intro c j _ _ j0 j1
      have j1 : j < 0 := j1
      omega
    · intro k k0 k1
      have k1 : k < 0 := k1
      omega
    · intro c i j _ _ i0 i1 j1
      have j1 : j < 0 := j1
      omega
    · intro v _ _; exact (by decide : ((0 : Int) ≤ 0 ∧ (0 : Int) ≤ 4) ∧ ((0 : Int) ≤ 0 ∧ (0 : Int) ≤ 12) ∧ ((0 : Int) ≤ 0 ∧ (0 : Int) < 1024))
    · intro k v _ _ v0 v1
      have v0 : 0 ≤ v := v0
      exact jbit_0 v0 (by omega)
    · rw [r9]
      intro i i0 i1
      have hi : i = 0 ∨ i = 1 ∨ i = 2 ∨ i = 3 ∨ i = 4 := by omega
      rcases hi with rfl | rfl | rfl | rfl | rfl <;> decide
    · intro i _ _; exact (by decide : ((0 : Int) ≤ 0 ∧ (0 : Int) < 10) ∧ ((0 : Int) ≤ 0 ∧ (0 : Int) < 12) ∧ ((0 : Int) ≤ 0 ∧ (0 : Int) ≤ 1))
    · intro i _; rfl
    · rw [r37]
      intro i i0 i1
      have hi : i = 0 ∨ i = 1 := by omega
      rcases hi with rfl | rfl <;> decide
    · intro i; exact (by decide : (-128 : Int) ≤ 0 ∧ (0 : Int) ≤ 127)
    · intro u v u0 u1 v0 v1
      have b1 : ¬ jbit (jz u) v := jbit_0 v0 (by omega)
      have b2 : ¬ jbit (jz v) u := jbit_0 u0 (by omega)
      have b3 : ¬ jbit (jz u) u := jbit_0 u0 (by omega)
      exact ⟨⟨fun h => absurd h b1, fun h => absurd h b2⟩, b3, fun h => absurd h b1⟩
  · refine ⟨rfl, rfl, rfl, e, rfl, rfl, rfl, rfl, rfl, rfl, rfl, rfl, rfl, rfl, rfl, rfl, rfl, rfl, rfl, fun _ _ _ _ _ _ _ => rfl⟩
  · rw [z 48 (by decide) (by decide) (by decide) (by decide)]
    intro i _ _
    exact (by decide : (0 : Int) ≤ 0 ∧ (0 : Int) ≤ 48)
theorem jst_0 {args : Array Value} {s : State} (hgv : (Jvm.Cond.and given_1 narrow_1).before args s = true) (hts : ∀ w ∈ lw_tbl, w.before args s = true) : ∃ t : Nat, va_Z "CourtHouse" (jsn 0) "[I" (.ref t) (fun q => s.heap.size ≤ q) s s.heap ∧ va_T .int t 5 (fun j => .int (jI (jsv 0 (j : Int)))) (fun q => s.heap.size ≤ q) s s.heap := by
  have hs := flat_of_before _ hgv
  have hA : ∀ a : Nat, a < s.heap.size → ¬ (fun q => s.heap.size ≤ q) a := fun a h z => Nat.not_le.mpr h z
  obtain ⟨t, ht, hT⟩ := va_Tof (tm := (Term.static "CourtHouse" "COUNTS_FOR" "[I")) (ty := .int) (N := 5) (f := fun j => .int (jI (jsv 0 (j : Int)))) (A := fun q => s.heap.size ≤ q) (by decide) (hs _ (by decide +kernel)) (va_eqt (hs (Cond.eq (.length (Term.static "CourtHouse" "COUNTS_FOR" "[I")) (.int 5)) (by decide +kernel))) (fun j hj => by
    have hh : j = 0 ∨ j = 1 ∨ j = 2 ∨ j = 3 ∨ j = 4 := by omega
    rcases hh with rfl | rfl | rfl | rfl | rfl
    · exact va_eqt (hs (Cond.eq (.elem (Term.static "CourtHouse" "COUNTS_FOR" "[I") (.int 0)) (.int 1)) (by decide +kernel))
    · exact va_eqt (hs (Cond.eq (.elem (Term.static "CourtHouse" "COUNTS_FOR" "[I") (.int 1)) (.int 2)) (by decide +kernel))
    · exact va_eqt (hs (Cond.eq (.elem (Term.static "CourtHouse" "COUNTS_FOR" "[I") (.int 2)) (.int 1)) (by decide +kernel))
    · exact va_eqt (hs (Cond.eq (.elem (Term.static "CourtHouse" "COUNTS_FOR" "[I") (.int 3)) (.int 3)) (by decide +kernel))
    · exact va_eqt (hs (Cond.eq (.elem (Term.static "CourtHouse" "COUNTS_FOR" "[I") (.int 4)) (.int 3)) (by decide +kernel))) hA
  exact ⟨t, va_Zof (hts _ jls_COUNTS_FOR) (hts _ (List.mem_filter.mp kX7_init.2.1).1) ht hA, hT⟩
theorem jst_1 {args : Array Value} {s : State} (hgv : (Jvm.Cond.and given_1 narrow_1).before args s = true) (hts : ∀ w ∈ lw_tbl, w.before args s = true) : ∃ t : Nat, va_Z "CourtHouse" (jsn 1) "[I" (.ref t) (fun q => s.heap.size ≤ q) s s.heap ∧ va_T .int t 5 (fun j => .int (jI (jsv 1 (j : Int)))) (fun q => s.heap.size ≤ q) s s.heap := by
  have hs := flat_of_before _ hgv
  have hA : ∀ a : Nat, a < s.heap.size → ¬ (fun q => s.heap.size ≤ q) a := fun a h z => Nat.not_le.mpr h z
  obtain ⟨t, ht, hT⟩ := va_Tof (tm := (Term.static "CourtHouse" "RULE_LEAST" "[I")) (ty := .int) (N := 5) (f := fun j => .int (jI (jsv 1 (j : Int)))) (A := fun q => s.heap.size ≤ q) (by decide) (hs _ (by decide +kernel)) (va_eqt (hs (Cond.eq (.length (Term.static "CourtHouse" "RULE_LEAST" "[I")) (.int 5)) (by decide +kernel))) (fun j hj => by
    have hh : j = 0 ∨ j = 1 ∨ j = 2 ∨ j = 3 ∨ j = 4 := by omega
    rcases hh with rfl | rfl | rfl | rfl | rfl
    · exact va_eqt (hs (Cond.eq (.elem (Term.static "CourtHouse" "RULE_LEAST" "[I") (.int 0)) (.int 1)) (by decide +kernel))
    · exact va_eqt (hs (Cond.eq (.elem (Term.static "CourtHouse" "RULE_LEAST" "[I") (.int 1)) (.int 0)) (by decide +kernel))
    · exact va_eqt (hs (Cond.eq (.elem (Term.static "CourtHouse" "RULE_LEAST" "[I") (.int 2)) (.int 0)) (by decide +kernel))
    · exact va_eqt (hs (Cond.eq (.elem (Term.static "CourtHouse" "RULE_LEAST" "[I") (.int 3)) (.int 0)) (by decide +kernel))
    · exact va_eqt (hs (Cond.eq (.elem (Term.static "CourtHouse" "RULE_LEAST" "[I") (.int 4)) (.int 0)) (by decide +kernel))) hA
  exact ⟨t, va_Zof (hts _ jls_RULE_LEAST) (hts _ (List.mem_filter.mp kX7_init.2.1).1) ht hA, hT⟩
theorem jst_2 {args : Array Value} {s : State} (hgv : (Jvm.Cond.and given_1 narrow_1).before args s = true) (hts : ∀ w ∈ lw_tbl, w.before args s = true) : ∃ t : Nat, va_Z "CourtHouse" (jsn 2) "[I" (.ref t) (fun q => s.heap.size ≤ q) s s.heap ∧ va_T .int t 5 (fun j => .int (jI (jsv 2 (j : Int)))) (fun q => s.heap.size ≤ q) s s.heap := by
  have hs := flat_of_before _ hgv
  have hA : ∀ a : Nat, a < s.heap.size → ¬ (fun q => s.heap.size ≤ q) a := fun a h z => Nat.not_le.mpr h z
  obtain ⟨t, ht, hT⟩ := va_Tof (tm := (Term.static "CourtHouse" "RULE_MOST" "[I")) (ty := .int) (N := 5) (f := fun j => .int (jI (jsv 2 (j : Int)))) (A := fun q => s.heap.size ≤ q) (by decide) (hs _ (by decide +kernel)) (va_eqt (hs (Cond.eq (.length (Term.static "CourtHouse" "RULE_MOST" "[I")) (.int 5)) (by decide +kernel))) (fun j hj => by
    have hh : j = 0 ∨ j = 1 ∨ j = 2 ∨ j = 3 ∨ j = 4 := by omega
    rcases hh with rfl | rfl | rfl | rfl | rfl
    · exact va_eqt (hs (Cond.eq (.elem (Term.static "CourtHouse" "RULE_MOST" "[I") (.int 0)) (.int 20)) (by decide +kernel))
    · exact va_eqt (hs (Cond.eq (.elem (Term.static "CourtHouse" "RULE_MOST" "[I") (.int 1)) (.int 200)) (by decide +kernel))
    · exact va_eqt (hs (Cond.eq (.elem (Term.static "CourtHouse" "RULE_MOST" "[I") (.int 2)) (.int 100)) (by decide +kernel))
    · exact va_eqt (hs (Cond.eq (.elem (Term.static "CourtHouse" "RULE_MOST" "[I") (.int 3)) (.int 100)) (by decide +kernel))
    · exact va_eqt (hs (Cond.eq (.elem (Term.static "CourtHouse" "RULE_MOST" "[I") (.int 4)) (.int 100)) (by decide +kernel))) hA
  exact ⟨t, va_Zof (hts _ jls_RULE_MOST) (hts _ (List.mem_filter.mp kX7_init.2.1).1) ht hA, hT⟩
theorem law_walk (Γ : jΓ) {b L sz : Nat} {xs : Nat → Int32} {sa : Nat → Nat} (hL : L ≤ 3072) : jV Γ mLaw room_1 (fun q => sz ≤ q) (jlF b L sz xs sa) lw_Z 0 0 0 [.ref b, .null, .null, .null] [] [] := by
  refine jv_new (n := 3) (ci := 7) (N := 8) (C := RX7) (T := TX7) (ty := tyX7) (fs := [.null, .null, .null, .null, .null, .null, .null, .null]) (cl' := 1) (sl' := 8) dL_law_0 rfl nX7_init jin_X7 tyX7_ok rfl (fun j hj => by
    have hh : j = 0 ∨ j = 1 ∨ j = 2 ∨ j = 3 ∨ j = 4 ∨ j = 5 ∨ j = 6 ∨ j = 7 := by omega
    rcases hh with rfl | rfl | rfl | rfl | rfl | rfl | rfl | rfl <;> rfl) rfl rfl ⟨Nat.le_of_ble_eq_true rfl, Nat.le_of_ble_eq_true rfl⟩ (fun x => ?_)
  refine jv_dup (n := 4) dL_law_3 rfl rfl ?_
  refine jv_init (n := 7) (cl' := 37) (sl' := 620) (con_X7 Γ) dL_law_4 rfl lX7_init kX7_init iX7_init rfl rfl (Nat.le_of_ble_eq_true rfl) rfl rfl ⟨Nat.le_of_ble_eq_true rfl, Nat.le_of_ble_eq_true rfl⟩ ⟨Nat.le_of_ble_eq_true rfl, Nat.le_of_ble_eq_true rfl⟩ (fun sx => ?_)
  refine jv_as (n := 8) (a := 1) dL_law_7 rfl (Nat.le_of_ble_eq_true rfl) (Nat.le_of_ble_eq_true rfl) rfl ?_
  refine jv_loc (l' := [.ref b, .ref x, .null, .null]) rfl ?_
  refine jv_new (n := 11) (ci := 8) (N := 31) (C := RX8) (T := TX8) (ty := tyX8) (fs := [.null, .null, .int (jI 0), .null, .null, .null, .null, .null, .int (jI 0), .null, .null, .null, .null, .null, .int (jI 0), .null, .null, .null, .null, .null, .null, .null, .null, .null, .null, .null, .int (jI 0), .null, .null, .null, .null]) (cl' := 38) (sl' := 651) dL_law_8 rfl nX8_init jin_X8 tyX8_ok rfl (fun j hj => by
    have hh : j = 0 ∨ j = 1 ∨ j = 2 ∨ j = 3 ∨ j = 4 ∨ j = 5 ∨ j = 6 ∨ j = 7 ∨ j = 8 ∨ j = 9 ∨ j = 10 ∨ j = 11 ∨ j = 12 ∨ j = 13 ∨ j = 14 ∨ j = 15 ∨ j = 16 ∨ j = 17 ∨ j = 18 ∨ j = 19 ∨ j = 20 ∨ j = 21 ∨ j = 22 ∨ j = 23 ∨ j = 24 ∨ j = 25 ∨ j = 26 ∨ j = 27 ∨ j = 28 ∨ j = 29 ∨ j = 30 := by omega
    rcases hh with rfl | rfl | rfl | rfl | rfl | rfl | rfl | rfl | rfl | rfl | rfl | rfl | rfl | rfl | rfl | rfl | rfl | rfl | rfl | rfl | rfl | rfl | rfl | rfl | rfl | rfl | rfl | rfl | rfl | rfl | rfl <;> rfl) rfl rfl ⟨Nat.le_of_ble_eq_true rfl, Nat.le_of_ble_eq_true rfl⟩ (fun m => ?_)
  refine jv_dup (n := 12) dL_law_11 rfl rfl ?_
  refine jv_init (n := 15) (cl' := 65) (sl' := 1266) (con_X8 Γ) dL_law_12 rfl lX8_init kX8_init iX8_init rfl rfl (Nat.le_of_ble_eq_true rfl) rfl rfl ⟨Nat.le_of_ble_eq_true rfl, Nat.le_of_ble_eq_true rfl⟩ ⟨Nat.le_of_ble_eq_true rfl, Nat.le_of_ble_eq_true rfl⟩ (fun sm => ?_)
  refine jv_as (n := 16) (a := 2) dL_law_15 rfl (Nat.le_of_ble_eq_true rfl) (Nat.le_of_ble_eq_true rfl) rfl ?_
  refine jv_loc (l' := [.ref b, .ref x, .ref m, .null]) rfl ?_
  refine jv_to (x := x) (sx := sx) (m := m) (sm := sm) ?_
  refine jr_iconst (n := 17) dL_law_16 rfl ?_
  refine jr_istore3 (n := 18) dL_law_17 rfl (by decide) rfl ?_
  exact law_loop ⟨Nat.le_of_ble_eq_true rfl, Nat.le_of_ble_eq_true rfl⟩ hL (L + 1) 0 jM0 (by omega) (by omega) (by omega) jM0_J
set_option maxHeartbeats 4000000 in
theorem whole_start {p : Program} {e : Env} {s : State} {m : MethodId} {below : List Frame} {meth : Method} {c : Code} (l : Launch) {b L : Nat} {xs : Nat → Int32} (hL : L ≤ 3072) (C0 : lw_At p s m meth c b L xs) : W p l e room_1 s m #[Value.ref b] below meth c s.heap [] 0 0 (lw_Z below #[Value.ref b] s) (entryFrame m ([Value.ref b] : List Value).toArray 4) := by
  obtain ⟨hx, hb, hr, hml, hown, hts, hX, hbl, hlocks, hgv⟩ := C0
  have htg : ∀ w ∈ jgd, w.before #[Value.ref b] s = true := fun w hw => hts w (List.mem_filter.mp hw).1
  obtain ⟨c0, i0, k0⟩ := u_known (C := RX0) (T := TX0) (N := 1) (n := 1) htg jin_X0 (htg _ nX0_init.2.1)
  obtain ⟨c1, i1, k1⟩ := u_known (C := RX1) (T := TX1) (N := 7) (n := 7) htg jin_X1 (htg _ nX1_init.2.1)
  obtain ⟨c2, i2, k2⟩ := u_known (C := RX2) (T := TX2) (N := 9) (n := 9) htg jin_X2 (htg _ nX2_init.2.1)
  obtain ⟨c3, i3, k3⟩ := u_known (C := RX3) (T := TX3) (N := 4) (n := 4) htg jin_X3 (htg _ nX3_init.2.1)
  obtain ⟨c4, i4, k4⟩ := u_known (C := RX4) (T := TX4) (N := 4) (n := 4) htg jin_X4 (htg _ nX4_init.2.1)
  obtain ⟨c5, i5, k5⟩ := u_known (C := RX5) (T := TX5) (N := 5) (n := 5) htg jin_X5 (htg _ nX5_init.2.1)
  obtain ⟨c6, i6, k6⟩ := u_known (C := RX6) (T := TX6) (N := 2) (n := 2) htg jin_X6 (htg _ nX6_init.2.1)
  obtain ⟨c7, i7, k7⟩ := u_known (C := RX7) (T := TX7) (N := 8) (n := 8) htg jin_X7 (htg _ nX7_init.2.1)
  obtain ⟨c8, i8, k8⟩ := u_known (C := RX8) (T := TX8) (N := 31) (n := 31) htg jin_X8 (htg _ nX8_init.2.1)
  obtain ⟨dC, dI, hKc⟩ : ∃ (dC : Nat → ClassId) (dI : Nat → Nat → Nat), ∀ (k : Nat) (q : vw_C), jcls[k]? = some q → u_Kn s q.1 q.2.1 q.2.2 (dC k) (dI k) := by
    refine ⟨fun k => if k = 0 then c0 else if k = 1 then c1 else if k = 2 then c2 else if k = 3 then c3 else if k = 4 then c4 else if k = 5 then c5 else if k = 6 then c6 else if k = 7 then c7 else c8, fun k => if k = 0 then i0 else if k = 1 then i1 else if k = 2 then i2 else if k = 3 then i3 else if k = 4 then i4 else if k = 5 then i5 else if k = 6 then i6 else if k = 7 then i7 else i8, ?_⟩
    intro k q hq
    match k, hq with
    | 0, hq => cases hq; exact k0
    | 1, hq => cases hq; exact k1
    | 2, hq => cases hq; exact k2
    | 3, hq => cases hq; exact k3
    | 4, hq => cases hq; exact k4
    | 5, hq => cases hq; exact k5
    | 6, hq => cases hq; exact k6
    | 7, hq => cases hq; exact k7
    | 8, hq => cases hq; exact k8
    | k + 9, hq => simp at hq
  obtain ⟨a0, b0, d0, a01, a02, a03⟩ := Cond.arrayClass_spec (htg _ jar_int)
  obtain ⟨a1, b1, d1, a11, a12, a13⟩ := Cond.arrayClass_spec (htg _ jar_long)
  obtain ⟨a2, b2, d2, a21, a22, a23⟩ := Cond.arrayClass_spec (htg _ jar_byte)
  obtain ⟨a3, b3, d3, a31, a32, a33⟩ := Cond.arrayClass_spec (htg _ jar_boolean)
  obtain ⟨cy, hcy⟩ : ∃ cy : Nat → ClassId, ∀ (k : Nat) (q : ClassId × FieldType), (jty cy)[k]? = some q → ArrOfT s q.1 q.2 ∧ va_RA s q.1 q.2 := by
    refine ⟨fun k => if k = 0 then a0 else if k = 1 then a1 else if k = 2 then a2 else a3, ?_⟩
    intro k q hq
    match k, hq with
    | 0, hq => cases hq; exact ⟨fun n z => ⟨fun k h => (by cases h), b0, a02, d0, a03⟩, a01⟩
    | 1, hq => cases hq; exact ⟨fun n z => ⟨fun k h => (by cases h), b1, a12, d1, a13⟩, a11⟩
    | 2, hq => cases hq; exact ⟨fun n z => ⟨fun k h => (by cases h), b2, a22, d2, a23⟩, a21⟩
    | 3, hq => cases hq; exact ⟨fun n z => ⟨fun k h => (by cases h), b3, a32, d3, a33⟩, a31⟩
    | k + 4, hq => simp [jty] at hq
  obtain ⟨t0, hz0⟩ := jst_0 hgv hts
  obtain ⟨t1, hz1⟩ := jst_1 hgv hts
  obtain ⟨t2, hz2⟩ := jst_2 hgv hts
  have hK : jVE (l, (dC, dI), cy) s := by
    refine ⟨⟨hKc, hcy⟩, fun w hw => ?_⟩
    have h1 := (List.mem_filter.mp hw).1
    have h2 : jis w = true := (List.mem_filter.mp hw).2
    cases w with
    | fieldLinkNest a i b n d h => exact va_Nw.of rfl (hts _ h1)
    | methodLinkNest a i x h => exact va_Nw.of rfl (hts _ h1)
    | _ => exact absurd h2 (by intro z; cases z)
  rw [lg_entry_eq]
  refine law_walk (l, (dC, dI), cy) hL (sz := s.heap.size) (xs := xs) (b := b) (sa := fun k => if k = 0 then t0 else if k = 1 then t1 else t2) p e s m _ below meth c s.heap [] _ ⟨hx, hb, hml, hown, htg, hr, hlocks, ⟨rfl, hX, hbl, rfl, fun t ht => ?_⟩, hK, fun q h => h, va_S.rf, ⟨fun k q h => by simp at h, ⟨fun i j p q h => by simp at h, fun k q h => by simp at h⟩⟩, jl_of (lv_entry [.ref b] (n := 4) (Nat.le_of_ble_eq_true rfl)) (fun k v h1 h2 => ?_)⟩
  · have hh : t = 0 ∨ t = 1 ∨ t = 2 := by omega
    rcases hh with rfl | rfl | rfl
    · exact hz0
    · exact hz1
    · exact hz2
  · match k, h1 with
    | 0, h1 => cases h1; exact List.mem_cons_self
    | 1, h1 => cases h1; exact absurd rfl h2
    | 2, h1 => cases h1; exact absurd rfl h2
    | 3, h1 => cases h1; exact absurd rfl h2
    | k + 4, h1 => simp at h1
