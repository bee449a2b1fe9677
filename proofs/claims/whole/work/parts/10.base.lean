/-! THE WORLD: 65 cells, each with its kind and size; what they hold is a function of cell and place into the integers; jX: the machine's judgement W at a frame of a method, for every context that holds this world -/
abbrev jMem : Type := Nat → Int → Int
abbrev jG : Type := Launch × (Nat → ClassId) × (Nat → Nat → Nat) × (Nat → Nat) × (Nat → ClassId) × (Nat → Nat)
abbrev jMD : Type := MethodName × ByteArray × Nat × Option FieldType
def jI (x : Int) : Int32 := Int32.ofInt x
def jL (x : Int) : Int64 := Int64.ofInt x
def jad (G : jG) (k : Nat) : Nat := G.2.2.2.1 k
def jcy (G : jG) (k : Nat) : ClassId := G.2.2.2.2.1 k
def jsa (G : jG) (k : Nat) : Nat := G.2.2.2.2.2 k
def jNC : Nat := 65
def jshL : List (Nat × Nat) := [(17, 8), (12, 9), (14, 4), (10, 1), (11, 7), (15, 5), (13, 4), (16, 2), (18, 31), (0, 5), (0, 12), (0, 12), (0, 12), (0, 12), (0, 12), (0, 120), (0, 18), (0, 3), (0, 10), (0, 10), (0, 10), (1, 49), (0, 12), (0, 12), (0, 6), (0, 3), (0, 3), (0, 10), (0, 10), (0, 10), (0, 10), (0, 10), (0, 3), (0, 60), (0, 60), (3, 60), (2, 24), (0, 2), (0, 3), (0, 18), (0, 12), (0, 12), (0, 12), (0, 12), (0, 12), (0, 10), (0, 10), (0, 10), (0, 120), (0, 5), (0, 60), (0, 60), (0, 60), (0, 2), (0, 24), (1, 49), (1, 49), (0, 12), (0, 12), (0, 6), (0, 3), (0, 10), (0, 10), (0, 10), (0, 12)]
def jsh (k : Nat) : Nat × Nat := jshL.getD k (99, 0)
def jrfL : List (List (Option Nat)) := [[some 1, some 2, some 3, some 4, some 5, some 6, some 7, some 9], [some 10, some 11, some 12, some 13, some 14, some 15, some 16, some 17, none], [some 18, some 19, some 20, none], [some 21], [some 22, some 23, some 24, some 25, some 26, some 27, none], [some 28, some 29, some 30, some 31, some 32], [some 33, some 34, some 35, none], [some 36, some 37], [some 38, some 39, none, some 40, some 41, some 42, some 43, some 44, none, some 45, some 46, some 47, some 48, some 49, none, some 50, some 51, some 52, some 53, some 54, some 55, some 56, some 57, some 58, some 59, some 60, none, some 61, some 62, some 63, some 64]]
def jrf (k j : Nat) : Option Nat := (jrfL.getD k []).getD j none
def jfv (G : jG) (M : jMem) (k j : Nat) : Value := match jrf k j with
  | some r => .ref (jad G r)
  | none => .int (jI (M k (j : Int)))
def jcel (G : jG) (M : jMem) (k : Nat) : va_E :=
  if (jsh k).1 = 0 then .inl (jcy G 0, (jsh k).2, .inl (fun j => jI (M k (j : Int))))
  else if (jsh k).1 = 1 then .inl (jcy G 1, (jsh k).2, .inr (.inl (fun j => jL (M k (j : Int)))))
  else if (jsh k).1 = 2 then .inl (jcy G 2, (jsh k).2, .inl (fun j => jI (M k (j : Int))))
  else if (jsh k).1 = 3 then .inl (jcy G 3, (jsh k).2, .inl (fun j => jI (M k (j : Int))))
  else .inr ((jsh k).1 - 10, (List.range (jsh k).2).map (jfv G M k))
def jwd (G : jG) (M : jMem) : va_W := (List.range jNC).map (fun k => (jad G k, jcel G M k))
abbrev jcls : List vw_C := [(RX0, TX0, 1), (RX1, TX1, 7), (RX2, TX2, 9), (RX3, TX3, 4), (RX4, TX4, 4), (RX5, TX5, 5), (RX6, TX6, 2), (RX7, TX7, 8), (RX8, TX8, 31)]
def jtys (G : jG) : List (ClassId × FieldType) := [(jcy G 0, .int), (jcy G 1, .long), (jcy G 2, .byte), (jcy G 3, .boolean)]
def jA (G : jG) : Nat → Prop := fun q => ∃ k, k < jNC ∧ q = jad G k
def jis (w : Cond) : Bool := match w with
  | .fieldLinkNest _ _ _ _ _ _ => true
  | .methodLinkNest _ _ _ _ => true
  | _ => false
def jgd : List Cond := lw_tbl.filter goodWord
def jns : List Cond := lw_tbl.filter jis
def jsv (t : Nat) (j : Int) : Int := (([[1, 2, 1, 3, 3], [1, 0, 0, 0, 0], [20, 200, 100, 100, 100]] : List (List Int)).getD t []).getD j.toNat 0
def jsn (t : Nat) : String := (["COUNTS_FOR", "RULE_LEAST", "RULE_MOST"] : List String).getD t ""
def jst (G : jG) (U : State) (H : Heap) : Prop := ∀ t, t < 3 → va_Z "CourtHouse" (jsn t) "[I" (.ref (jsa G t)) (jA G) U H ∧ va_T .int (jsa G t) 5 (fun j => .int (jI (jsv t (j : Int)))) (jA G) U H
def jE (G : jG) (U : State) (H : Heap) : Prop := va_K (G.2.1, G.2.2.1) jcls (jtys G) U ∧ (∀ w ∈ jns, va_Nw w U) ∧ jst G U H
def jW (G : jG) (M : jMem) (H : Heap) : Prop := va_P (G.2.1, G.2.2.1) jcls (jwd G M) H ∧ va_D (jA G) (jwd G M)
def jpr : Nat → List Value → List (Nat × Value)
  | _, [] => []
  | i, v :: vs => match v with
    | .null => jpr (i + 1) vs
    | u => (i, u) :: jpr (i + 1) vs
def jl (ls : Array Slot) (n : Nat) (l : List Value) : Prop := lv_has ls n (jpr 0 l)
def jC (G : jG) (y : jMD) (E : Array Value → State → Prop) (l : List Value) (M : jMem) (p : Program) (s : State) (m : MethodId) (args : Array Value) (meth : Method) (c : Code) (H : Heap) (locs : List Loc) (ls : Array Slot) : Prop :=
  p.tables.exec = Jvm.exec ∧ c.code = y.2.1 ∧ c.maxLocals = y.2.2.1 ∧ s.vm.findClass y.1.cls = some m.cls ∧ (∀ w ∈ jgd, w.before args s = true) ∧ meth.sig.returnType = y.2.2.2 ∧ meth.locks = false ∧ E args s ∧ jE G s s.heap ∧ va_S (jA G) s.heap H locs ∧ jW G M H ∧ jl ls y.2.2.1 l
/-- the judgement: at pc, with locals l, stack st and the world's contents M, the machine comes to Z -/
def jX (G : jG) (y : jMD) (R : Room) (cl sl : Nat) (E : Array Value → State → Prop) (Z : List Frame → Array Value → State → State → Prop) (pc : Nat) (l st : List Value) (M : jMem) : Prop :=
  ∀ p e s m args below meth c H locs ls, jC G y E l M p s m args meth c H locs ls → W p G.1 e R s m args below meth c H locs cl sl (Z below args s) (F0 m pc ls st)
def jQc (G : jG) (Q : Option Value → jMem → Prop) : Array Value → State → Outcome → State → Prop := fun _ st o t => ∃ (v : Option Value) (M : jMem), o = .returned v ∧ Q v M ∧ jW G M t.heap ∧ va_F (jA G) st t
def jZ (G : jG) (Q : Option Value → jMem → Prop) : List Frame → Array Value → State → State → Prop := fun below args s => MQ below (jQc G Q) args s 0 0 (jA G)
def jrm (d : Nat) : Room := { frames := d, cells := 0, slots := 0, locals := 40 * d }
def jno : Array Value → State → Prop := fun _ _ => True
abbrev jM (G : jG) (y : jMD) (d : Nat) (pc : Nat) (l st : List Value) (M : jMem) (Q : Option Value → jMem → Prop) : Prop := jX G y (jrm d) 0 0 jno (jZ G Q) pc l st M
def jpad (n : Nat) (args : List Value) : List Value := match n, args with
  | 0, _ => []
  | n + 1, [] => .null :: jpad n []
  | n + 1, v :: vs => match v with
    | .long z => (match n with
      | 0 => [.long z]
      | n + 1 => .long z :: .null :: jpad n vs)
    | u => u :: jpad n vs
/-- a method from its entry -/
def jN (G : jG) (y : jMD) (d : Nat) (args : List Value) (M : jMem) (Q : Option Value → jMem → Prop) : Prop := jM G y d 0 (jpad y.2.2.1 args) [] M Q
def jup (M : jMem) (k : Nat) (i v : Int) : jMem := fun a b => if a = k ∧ b = i then v else M a b
def jpush : Option Value → List Value → List Value
  | none, st => st
  | some v, st => v :: st

-- numbers
theorem jI_add (x y : Int) : jI x + jI y = jI (x + y) := (Int32.ofInt_add x y).symm
theorem jI_sub (x y : Int) : jI x - jI y = jI (x - y) := (Int32.ofInt_sub x y).symm
theorem jI_mul (x y : Int) : jI x * jI y = jI (x * y) := (Int32.ofInt_mul x y).symm
theorem jL_add (x y : Int) : jL x + jL y = jL (x + y) := (Int64.ofInt_add x y).symm
theorem jL_sub (x y : Int) : jL x - jL y = jL (x - y) := (Int64.ofInt_sub x y).symm
theorem jL_mul (x y : Int) : jL x * jL y = jL (x * y) := (Int64.ofInt_mul x y).symm
abbrev jR (x : Int) : Prop := -2147483648 ≤ x ∧ x < 2147483648
theorem jI_toInt {x : Int} (h : jR x) : (jI x).toInt = x := by
  unfold jI
  rw [Int32.toInt_ofInt, show Int32.size = 4294967296 from rfl]
  exact Int.bmod_eq_of_le (by omega) (by omega)
theorem jI_of (v : Int32) : jI v.toInt = v := Int32.ofInt_toInt v
theorem jI_R (v : Int32) : jR v.toInt := ⟨by have := v.le_toInt; omega, by have := v.toInt_lt; omega⟩
theorem jI_lt {x y : Int} (hx : jR x) (hy : jR y) : jI x < jI y ↔ x < y := by
  rw [Int32.lt_iff_toInt_lt, jI_toInt hx, jI_toInt hy]
theorem jI_le {x y : Int} (hx : jR x) (hy : jR y) : jI x ≤ jI y ↔ x ≤ y := by
  rw [Int32.le_iff_toInt_le, jI_toInt hx, jI_toInt hy]
theorem jI_eq {x y : Int} (hx : jR x) (hy : jR y) : jI x = jI y ↔ x = y := by
  rw [← Int32.toInt_inj, jI_toInt hx, jI_toInt hy]
theorem jI_0 : jI 0 = 0 := by decide
theorem jI_cl {x : Int} (h0 : 0 ≤ x) (h1 : x < 2147483648) : (jI x).toNatClampNeg = x.toNat := by
  rw [Int32.toNatClampNeg, jI_toInt ⟨by omega, h1⟩]
theorem jI_in {x : Int} {n : Nat} (h0 : 0 ≤ x) (h1 : x < n) (hn : n < 100000) : vp_in (jI x) n := by
  rw [vp_in_iff, jI_toInt ⟨by omega, by omega⟩]
  exact ⟨h0, h1⟩
theorem jL_toInt {x : Int} (h : jR x) : (jL x).toInt = x := by
  unfold jL
  rw [Int64.toInt_ofInt, show Int64.size = 18446744073709551616 from rfl]
  exact Int.bmod_eq_of_le (by omega) (by omega)
theorem jI_l {x : Int} (h : jR x) : (jI x).toInt64 = jL x := Int64.toInt_inj.mp (by rw [Int32.toInt_toInt64, jI_toInt h, jL_toInt h])
-- the world
theorem jwd_get (G : jG) (M : jMem) {k : Nat} (h : k < jNC) : (jwd G M)[k]? = some (jad G k, jcel G M k) := by
  simp [jwd, h]
theorem jcel_congr (G : jG) {M M' : jMem} {k : Nat} (h : ∀ i, M k i = M' k i) : jcel G M k = jcel G M' k := by
  have e : M k = M' k := funext h
  have e2 : jfv G M k = jfv G M' k := funext fun j => by unfold jfv; rw [e]
  unfold jcel
  rw [e, e2]
theorem jwd_set (G : jG) {M M' : jMem} {k : Nat} {c : va_E} (hk : k < jNC) (hc : c = jcel G M' k) (ho : ∀ j, j ≠ k → ∀ i, M' j i = M j i) : (jwd G M).set k (jad G k, c) = jwd G M' := by
  subst hc
  apply List.ext_getElem?
  intro j
  rw [List.getElem?_set]
  by_cases hj : k = j
  · subst hj
    rw [if_pos rfl]
    simp [jwd, hk]
  · rw [if_neg hj]
    by_cases hl : j < jNC
    · rw [jwd_get G M hl, jwd_get G M' hl, jcel_congr G (fun i => ho j (fun e => hj e.symm) i)]
    · simp [jwd, hl]
theorem jA_in (G : jG) {k : Nat} (h : k < jNC) : jA G (jad G k) := ⟨k, h, rfl⟩
theorem jup_ne {M : jMem} {k a : Nat} {i v : Int} (h : a ≠ k) (b : Int) : jup M k i v a b = M a b := by
  unfold jup; rw [if_neg (fun z => h z.1)]
-- locals
theorem jpr_mem : ∀ (l : List Value) (i k : Nat) (v : Value), l[k]? = some v → v ≠ .null → (i + k, v) ∈ jpr i l
  | [], _, _, _, h, _ => by simp at h
  | u :: us, i, 0, v, h, hv => by
    have e : u = v := by simpa using h
    subst e
    cases u with
    | null => exact absurd rfl hv
    | _ => exact List.mem_cons_self
  | u :: us, i, k + 1, v, h, hv => by
    have h' : us[k]? = some v := by simpa using h
    have r := jpr_mem us (i + 1) k v h' hv
    have e : i + 1 + k = i + (k + 1) := by omega
    rw [e] at r
    cases u with
    | null => exact r
    | _ => exact List.mem_cons_of_mem _ r
theorem jpr_of : ∀ (l : List Value) (i : Nat) (q : Nat × Value), q ∈ jpr i l → ∃ k, l[k]? = some q.2 ∧ q.1 = i + k
  | [], _, _, h => by simp [jpr] at h
  | u :: us, i, q, h => by
    have go : q ∈ jpr (i + 1) us → ∃ k, (u :: us)[k]? = some q.2 ∧ q.1 = i + k := fun h => by
      obtain ⟨k, h1, h2⟩ := jpr_of us (i + 1) q h
      exact ⟨k + 1, by simpa using h1, by omega⟩
    have hd : ∀ w : Value, q ∈ (i, w) :: jpr (i + 1) us → w = u → ∃ k, (u :: us)[k]? = some q.2 ∧ q.1 = i + k := fun w h e => by
      rcases List.mem_cons.mp h with h | h
      · subst h; subst e
        exact ⟨0, by simp, rfl⟩
      · exact go h
    cases u with
    | null => exact go h
    | _ => exact hd _ h rfl
theorem jl_at {ls : Array Slot} {n : Nat} {l : List Value} (h : jl ls n l) {k : Nat} {v : Value} (hk : l[k]? = some v) (hv : v ≠ .null) : ls[k]? = some (.val v) := by
  have := h.2.2 _ (jpr_mem l 0 k v hk hv)
  simpa using this
theorem jl_of {ls : Array Slot} {n : Nat} {l : List (Nat × Value)} (h : lv_has ls n l) {l' : List Value} (hl : ∀ (k : Nat) (v : Value), l'[k]? = some v → v ≠ .null → (k, v) ∈ l) : jl ls n l' := by
  refine ⟨h.1, h.2.1, fun q hq => ?_⟩
  obtain ⟨k, h1, h2⟩ := jpr_of l' 0 q hq
  have hne : q.2 ≠ .null := by
    intro e
    have key : ∀ (l : List Value) (i : Nat), q ∈ jpr i l → q.2 ≠ .null := by
      intro l
      induction l with
      | nil => intro i h; simp [jpr] at h
      | cons u us ih =>
        intro i h
        cases u with
        | null => exact ih _ h
        | _ =>
          rcases List.mem_cons.mp h with h | h
          · subst h; intro z; cases z
          · exact ih _ h
    exact key _ _ hq e
  have := h.2.2 _ (hl k q.2 h1 hne)
  rw [show q.1 = k by omega]
  exact this
theorem jl_sub {ls : Array Slot} {n : Nat} {l l' : List Value} (h : jl ls n l) (hl : ∀ (k : Nat) (v : Value), l'[k]? = some v → v ≠ .null → l[k]? = some v) : jl ls n l' :=
  jl_of h (fun k v h1 h2 => by have := jpr_mem l 0 k v (hl k v h1 h2) h2; simpa using this)
-- a new value in the locals: the slots that stay are those of which the long at the place before isn't cut
def jcat (l : List Value) (k : Nat) : Bool := match k with
  | 0 => true
  | k + 1 => match l[k]? with
    | some (.long _) => false
    | some (.double _) => false
    | _ => true
theorem jl_st1 {ls : Array Slot} {n : Nat} {l : List Value} {k : Nat} {v : Value} (hk : k < l.length) (hc : jcat l k = true)
    (h : lv_has ls n ((k, v) :: (jpr 0 l).filter (fun q => !(q.1 == k) && !(q.1 + 1 == k && q.2.category == 2)))) : jl ls n (l.set k v) := by
  refine jl_of h (fun j u h1 h2 => ?_)
  rw [List.getElem?_set] at h1
  by_cases e : k = j
  · subst e
    rw [if_pos rfl, if_pos hk] at h1
    cases h1
    exact List.mem_cons_self
  · rw [if_neg e] at h1
    refine List.mem_cons_of_mem _ (List.mem_filter.mpr ⟨by have := jpr_mem l 0 j u h1 h2; simpa using this, ?_⟩)
    have e1 : (j == k) = false := by simp; omega
    have e2 : (j + 1 == k && u.category == 2) = false := by
      by_cases z : j + 1 = k
      · subst z
        have : u.category = 1 := by
          simp only [jcat] at hc
          rw [h1] at hc
          cases u <;> first | rfl | (simp at hc)
        simp [this]
      · have : (j + 1 == k) = false := by simp [z]
        simp [this]
    simp [e1, e2]
theorem jl_st2 {ls : Array Slot} {n : Nat} {l : List Value} {k : Nat} {v : Value} (hk : k + 1 < l.length) (hc : jcat l k = true)
    (h : lv_has ls n ((k, v) :: (jpr 0 l).filter (fun q => !(q.1 == k) && (!(q.1 == k + 1) && !(q.1 + 1 == k && q.2.category == 2))))) : jl ls n ((l.set k v).set (k + 1) .null) := by
  refine jl_of h (fun j u h1 h2 => ?_)
  rw [List.getElem?_set] at h1
  by_cases e0 : k + 1 = j
  · subst e0
    rw [if_pos rfl, if_pos (by simpa using hk)] at h1
    cases h1
    exact absurd rfl h2
  rw [if_neg e0, List.getElem?_set] at h1
  by_cases e : k = j
  · subst e
    rw [if_pos rfl, if_pos (by omega)] at h1
    cases h1
    exact List.mem_cons_self
  · rw [if_neg e] at h1
    refine List.mem_cons_of_mem _ (List.mem_filter.mpr ⟨by have := jpr_mem l 0 j u h1 h2; simpa using this, ?_⟩)
    have e1 : (j == k) = false := by simp; omega
    have e3 : (j == k + 1) = false := by simp; omega
    have e2 : (j + 1 == k && u.category == 2) = false := by
      by_cases z : j + 1 = k
      · subst z
        have : u.category = 1 := by
          simp only [jcat] at hc
          rw [h1] at hc
          cases u <;> first | rfl | (simp at hc)
        simp [this]
      · have : (j + 1 == k) = false := by simp [z]
        simp [this]
    simp [e1, e2, e3]

