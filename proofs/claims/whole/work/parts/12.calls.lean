
theorem jgd_good {w : Cond} (h : w ∈ jgd) : goodWord w = true := (List.mem_filter.mp h).2
theorem jgd_of {w : Cond} (h : w ∈ lw_tbl) (g : goodWord w = true) : w ∈ jgd := List.mem_filter.mpr ⟨h, g⟩
theorem jns_of {w : Cond} (h : w ∈ lw_tbl) (g : jis w = true) : w ∈ jns := List.mem_filter.mpr ⟨h, g⟩
theorem jgd_all {b : Cond} (hb : b ∈ jgd) : GoodIn jgd (b :: jgd) := fun w hw => by
  rcases List.mem_cons.mp hw with h | h
  · subst h; exact ⟨hb, good_of_word (jgd_good hb)⟩
  · exact ⟨h, good_of_word (jgd_good h)⟩
-- the world at a callee's start
theorem jE_kept {G : jG} {U : State} {H H1 : Heap} (h : jE G U H) (hq : ∀ a : Nat, a < H.size → ¬ jA G a → H1[a]? = H[a]?) : jE G U H1 :=
  ⟨h.1, h.2.1, fun t ht => ⟨(h.2.2 t ht).1.kept hq, (h.2.2 t ht).2.kept hq⟩⟩
theorem jE_warm {G : jG} {s U : State} {H : Heap} (hW : s.WarmedH U.vm) (h : jE G s H) : jE G U H := by
  refine ⟨va_K.moved hW.alike h.1, fun w hw => ?_, fun t ht => ⟨(h.2.2 t ht).1.moved hW.alike, (h.2.2 t ht).2.moved hW.alike⟩⟩
  have h1 := h.2.1 w hw
  have h2 : jis w = true := (List.mem_filter.mp hw).2
  cases w with
  | fieldLinkNest a i b n d h => exact va_Nw.warmF hW h1
  | methodLinkNest a i x h => exact va_Nw.warmM hW h1
  | _ => exact absurd h2 (by intro z; cases z)
theorem jE_same {G : jG} {s U : State} {H : Heap} (hv : s.vm = U.vm) (h : jE G s H) : jE G U H := by
  have ha : s.vm.Alike U.vm := by rw [hv]; exact Vm.Alike.refl U.vm
  refine ⟨va_K.moved ha h.1, fun w hw => ?_, fun t ht => ⟨(h.2.2 t ht).1.moved ha, (h.2.2 t ht).2.moved ha⟩⟩
  have h1 := h.2.1 w hw
  have h2 : jis w = true := (List.mem_filter.mp hw).2
  cases w with
  | fieldLinkNest a i b n d h => exact va_Nw.same rfl hv h1
  | methodLinkNest a i x h => exact va_Nw.same rfl hv h1
  | _ => exact absurd h2 (by intro z; cases z)
def jB (G : jG) (M : jMem) (U : State) : Prop := jE G U U.heap ∧ jW G M U.heap
theorem jB_blind (G : jG) (M : jMem) (av : List Value) : FrameBlind (va_Pc av (jB G M)) := fun a U g mk h => ⟨h.1, (show jE G (U.calling g mk a) U.heap from jE_same (s := U) rfl h.2.1), h.2.2⟩
theorem jB_at {G : jG} {M : jMem} {s U : State} {H : Heap} {locs : List Loc} (hE : jE G s s.heap) (hS : va_S (jA G) s.heap H locs) (hW : jW G M H) (hU : U.heap = H) (hw : s.WarmedH U.vm) : jB G M U := by
  subst hU
  exact ⟨jE_warm hw (jE_kept hE hS.2.1), hW⟩
-- methods
def jnd : List Value → Bool
  | [] => true
  | v :: vs => match v with
    | .double _ => false
    | _ => jnd vs
theorem jpad_in : ∀ (args : List Value) (n i k : Nat) (v : Value), jnd args = true → (jpad n args)[k]? = some v → v ≠ .null → (i + k, v) ∈ lv_args i args
  | [], n, i, k, v, _, h, hv => by
    exfalso
    have key : ∀ (n k : Nat), (jpad n [])[k]? = some v → v = .null := by
      intro n
      induction n with
      | zero => intro k h; simp [jpad] at h
      | succ n ih =>
        intro k h
        cases k with
        | zero => simp [jpad] at h; exact h.symm
        | succ k => exact ih k (by simpa [jpad] using h)
    exact hv (key n k h)
  | u :: us, 0, i, k, v, _, h, hv => by simp [jpad] at h
  | u :: us, n + 1, i, k, v, hd, h, hv => by
    have one : ∀ w : Value, w.category ≠ 2 → jpad (n + 1) (w :: us) = w :: jpad n us → u = w → jnd us = true → (i + k, v) ∈ lv_args i (u :: us) := by
      intro w hw hp hu hd
      subst hu
      rw [hp] at h
      unfold lv_args
      rw [if_neg hw]
      cases k with
      | zero =>
        have : u = v := by simpa using h
        subst this
        exact List.mem_cons_self
      | succ k =>
        have := jpad_in us n (i + 1) k v hd (by simpa using h) hv
        rw [show i + 1 + k = i + (k + 1) by omega] at this
        exact List.mem_cons_of_mem _ this
    cases u with
    | long z =>
      cases n with
      | zero =>
        have hk : k = 0 := by
          cases k with
          | zero => rfl
          | succ k => simp [jpad] at h
        subst hk
        have : Value.long z = v := by simpa [jpad] using h
        subst this
        exact List.mem_cons_self
      | succ n =>
        have hp : jpad (n + 1 + 1) (.long z :: us) = .long z :: .null :: jpad n us := rfl
        rw [hp] at h
        match k, h with
        | 0, h =>
          have : Value.long z = v := by simpa using h
          subst this
          exact List.mem_cons_self
        | 1, h =>
          have : Value.null = v := by simpa using h
          exact absurd this.symm hv
        | k + 2, h =>
          have := jpad_in us n (i + 2) k v hd (by simpa using h) hv
          rw [show i + 2 + k = i + (k + 2) by omega] at this
          exact List.mem_cons_of_mem _ this
    | double z => exact absurd hd (by intro q; cases q)
    | _ => exact one _ (by intro q; cases q) rfl rfl hd
def jMk (ν : jMD) (n : Nat) : Prop := Cond.code ν.1 ν.2.1 ν.2.2.1 ν.2.2.2 ∈ jgd ∧ Cond.initialized ν.1.cls ∈ jgd ∧ plainName ν.1.cls = true ∧ (ν.1.cls ≠ "java/lang/invoke/MethodHandle" ∧ ν.1.cls ≠ "java/lang/invoke/VarHandle" ∧ (parseMethodDescriptor ν.1.desc).map (fun d => d.parameters.length) = some n) ∧ ν.2.2.1 ≤ 20
def jIn (ν : jMD) : Prop := Cond.instanceMethod ν.1 ∈ jgd ∧ Cond.selects ν.1.cls ν.1 ν.1 ∈ jgd
def jSt (ν : jMD) : Prop := Cond.static ν.1 ∈ jgd
def jLn (own : String) (idx : Nat) (y : MethodName) : Prop := Cond.methodLink own idx y ∈ jgd ∨ ∃ host, Cond.methodLinkNest own idx y host ∈ jns
theorem jmet {G : jG} {ν : jMD} {na d : Nat} {args : List Value} {M : jMem} {Q : Option Value → jMem → Prop} (hm : jMk ν na) (hlen : (lg_sl args).length ≤ ν.2.2.1) (hnd : jnd args = true) (h : jN G ν d args M Q) : Met G.1 ν.1 (Cond.code ν.1 ν.2.1 ν.2.2.1 ν.2.2.2 :: jgd) (jrm d) (va_Pc args (jB G M)) (jQc G Q) 0 0 (jA G) := by
  refine Met.ofW (cc := ν.2.1) (maxL := ν.2.2.1) (ret := ν.2.2.2) hm.2.2.1 rfl ?_
  intro p e s m args' below meth c s₁ B hml hv
  obtain ⟨rfl, hE, hW⟩ := hv
  rw [lg_entry_eq]
  have hts := atoms_spec (ws := Cond.code ν.1 ν.2.1 ν.2.2.1 ν.2.2.2 :: jgd) B.pre
  exact h p e s m _ below meth c s.heap [] _ ⟨B.exec, B.bytes, hml, findClass_of_methodNamed B.named, fun w hw => hts w (List.mem_cons_of_mem _ hw), B.returns, B.notSynchronized, trivial, hE, va_S.rf, hW, jl_of (lv_entry args hlen) (fun k v h1 h2 => by have := jpad_in args _ 0 k v hnd h1 h2; simpa using this)⟩
section JC
variable {G : jG} {y : jMD} {R : Room} {cl sl : Nat} {E : Array Value → State → Prop} {Z : List Frame → Array Value → State → State → Prop} {pc n : Nat} {l st : List Value} {M : jMem}
theorem jrun {p : Program} {e : Env} {s : State} {m : MethodId} {args : Array Value} {below : List Frame} {meth : Method} {c : Code} {H : Heap} {locs : List Loc} {ls : Array Slot} {stk : List Value} {a : Array Value}
    (hC : jC G y E l M p s m args meth c H locs ls)
    (hr : va_Run p G.1 e R s m args below meth c H locs cl sl 0 0 (F0 m pc ls stk) st (jQc G (fun v M' => jX G y R cl sl E Z (pc + 3) l (jpush v st) M') a) (jA G)) : W p G.1 e R s m args below meth c H locs cl sl (Z below args s) (F0 m pc ls stk) := by
  intro T hT X
  obtain ⟨h1, h2, h3, h4, h5, h6, h7, h8, h9, h10, h11, h12⟩ := hC
  obtain ⟨v, st₀, t, T', L, h0, X', hL, e1, e2, ⟨v', M', hv, hq, hw, hz, hk⟩, stp⟩ := hr T hT X
  cases hv
  rw [h0] at hz hk
  have hS : va_S (jA G) s.heap T'.heap (locs ++ L) := ⟨Nat.le_trans h10.1 (by rw [e1]; exact hz), fun q q1 q2 => by rw [e1, hk q (Nat.lt_of_lt_of_le q1 h10.1) q2]; exact h10.2.1 q q1 q2, fun q hq => by
      rcases List.mem_append.mp hq with h | h
      · exact h10.2.2 q h
      · exact hL q h⟩
  have hst : v.toList ++ st = jpush v st := by cases v <;> rfl
  obtain ⟨t2, a1, b1⟩ := hq p e s m args below meth c T'.heap (locs ++ L) ls ⟨h1, h2, h3, h4, h5, h6, h7, h8, h9, hS, by rw [e1]; exact hw, h12⟩ T' rfl X'
  refine ⟨t2, stp t2 ?_, b1⟩
  show Steps _ _ _ (T'.setTop (F0 m (pc + 3) ls (v.toList ++ st))) t2
  rw [hst]
  exact a1
theorem jr_callV {ν : jMD} {k idx na ci N d : Nat} {As stk : List Value} (hd : decode y.2.1 pc = .ok (.invokevirtual idx, 3)) (hn : n = pc + 3) (hL : jLn y.1.cls idx ν.1) (hm : jMk ν na) (hi : jIn ν) (hk : jsh k = (10 + ci, N)) (hc : ∃ q, jcls[ci]? = some q ∧ q.1 = ν.1.cls) (hN : 10 + ci < 99) (hA : As.length = na) (hst : stk = As.reverse ++ .ref (jad G k) :: st) (hcat : (st.map fun v => v.category).sum ≤ 8) (hlen : (lg_sl (.ref (jad G k) :: As)).length ≤ ν.2.2.1) (hnd : jnd As = true) (hR : d + 1 ≤ R.frames ∧ 40 * d + 40 ≤ R.locals) (hcs : cl ≤ R.cells ∧ sl ≤ R.slots)
    (kk : jN G ν d (.ref (jad G k) :: As) M (fun v M' => jX G y R cl sl E Z n l (jpush v st) M')) : jX G y R cl sl E Z pc l stk M := by
  subst hn
  intro p e s m args below meth c H locs ls hC
  have hC0 := hC
  obtain ⟨h1, h2, h3, h4, h5, h6, h7, h8, h9, h10, h11, h12⟩ := hC0
  obtain ⟨q, hq1, hq2⟩ := hc
  have hkn : k < jNC := jsh_lt (by rw [hk]; exact hN)
  have hcell : (jwd G M)[k]? = some (jad G k, .inr (ci, (List.range N).map (jfv G M k))) := by
    rw [jwd_get G M hkn]
    unfold jcel
    rw [hk]
    rw [if_neg (show ¬ (10 + ci = 0) by omega), if_neg (show ¬ (10 + ci = 1) by omega), if_neg (show ¬ (10 + ci = 2) by omega), if_neg (show ¬ (10 + ci = 3) by omega), show 10 + ci - 10 = ci by omega]
  have hrecv := va_recv h9.1 h11.1 hq1 hcell
  rw [hq2] at hrecv
  have hM := jmet (args := .ref (jad G k) :: As) hm hlen hnd kk
  have hG := jgd_all hm.1
  have hR2 : (jrm d).frames + 1 ≤ R.frames ∧ 8 + (ν.2.2.1 + 11) + (jrm d).locals ≤ R.locals := ⟨hR.1, by have := hm.2.2.2.2; have := hR.2; show 8 + (ν.2.2.1 + 11) + 40 * d ≤ R.locals; omega⟩
  have hP : PreV s H ν.1.cls (jad G k) (va_Pc (.ref (jad G k) :: As) (jB G M)) As := ⟨jB_blind G M _, hrecv, fun U hU hW => ⟨rfl, jB_at h9 h10 h11 hU hW⟩⟩
  refine jrun (st := st) (a := (Value.ref (jad G k) :: As).toArray) hC ?_
  rcases hL with hL | ⟨host, hL⟩
  · exact va_runV (Ts := jgd) (C := ν.1.cls) (n := na) ⟨h1, h2, h3, h4, h5⟩ hM ⟨callB_of na h5 hG rfl rfl rfl (h5 _ hm.2.1) (h5 _ hL) hm.2.2.2.1 hR2, h5 _ hi.1, h5 _ hi.2⟩ hP rfl hA h12.1 hst (lv_room hcat) hd hcs
  · exact va_runVN (Ts := jgd) (C := ν.1.cls) (n := na) ⟨h1, h2, h3, h4, h5⟩ hM ⟨va_cnB na h5 hG rfl rfl rfl (h9.2.1 _ hL) (h5 _ hm.2.1) hm.2.2.2.1 hR2, h5 _ hi.1, h5 _ hi.2⟩ hP rfl hA h12.1 hst (lv_room hcat) hd hcs
theorem jr_callS {ν : jMD} {idx na d : Nat} {As stk : List Value} (hd : decode y.2.1 pc = .ok (.invokestatic idx, 3)) (hn : n = pc + 3) (hL : jLn y.1.cls idx ν.1) (hm : jMk ν na) (hi : jSt ν) (hA : As.length = na) (hst : stk = As.reverse ++ st) (hcat : (st.map fun v => v.category).sum ≤ 8) (hlen : (lg_sl As).length ≤ ν.2.2.1) (hnd : jnd As = true) (hR : d + 1 ≤ R.frames ∧ 40 * d + 40 ≤ R.locals) (hcs : cl ≤ R.cells ∧ sl ≤ R.slots)
    (kk : jN G ν d As M (fun v M' => jX G y R cl sl E Z n l (jpush v st) M')) : jX G y R cl sl E Z pc l stk M := by
  subst hn
  intro p e s m args below meth c H locs ls hC
  have hC0 := hC
  obtain ⟨h1, h2, h3, h4, h5, h6, h7, h8, h9, h10, h11, h12⟩ := hC0
  have hM := jmet (args := As) hm hlen hnd kk
  have hG := jgd_all hm.1
  have hR2 : (jrm d).frames + 1 ≤ R.frames ∧ 8 + (ν.2.2.1 + 11) + (jrm d).locals ≤ R.locals := ⟨hR.1, by have := hm.2.2.2.2; have := hR.2; show 8 + (ν.2.2.1 + 11) + 40 * d ≤ R.locals; omega⟩
  have hP : PreS s H (va_Pc As (jB G M)) As := ⟨jB_blind G M _, fun U hU hW => ⟨rfl, jB_at h9 h10 h11 hU hW⟩⟩
  refine jrun (st := st) (a := As.toArray) hC ?_
  rcases hL with hL | ⟨host, hL⟩
  · exact va_runS (Ts := jgd) (n := na) ⟨h1, h2, h3, h4, h5⟩ hM ⟨callB_of na h5 hG rfl rfl rfl (h5 _ hm.2.1) (h5 _ hL) hm.2.2.2.1 hR2, h5 _ hi⟩ hP rfl hA h12.1 hst (lv_room hcat) hd hcs
  · exact va_runSN (Ts := jgd) (n := na) ⟨h1, h2, h3, h4, h5⟩ hM ⟨va_cnB na h5 hG rfl rfl rfl (h9.2.1 _ hL) (h5 _ hm.2.1) hm.2.2.2.1 hR2, h5 _ hi, trivial⟩ hP rfl hA h12.1 hst (lv_room hcat) hd hcs
-- returns
theorem jr_iret {Q : Option Value → jMem → Prop} {v : Int32} (hd : decode y.2.1 pc = .ok (.ireturn, 1)) (hr : y.2.2.2 = some .int) (h : Q (some (.int v)) M) : jX G y R 0 0 E (jZ G Q) pc l [.int v] M := by
  intro p e s m args below meth c H locs ls hC
  obtain ⟨h1, h2, h3, h4, h5, h6, h7, h8, h9, h10, h11, h12⟩ := hC
  exact W.iret h1 h2 (h6.trans hr) (fun t ht hW => ⟨_, M, rfl, h, by rw [ht]; exact h11, h10.F ht⟩) h10.2.2 hd h7
theorem jr_zret {Q : Option Value → jMem → Prop} {x : Int} (hd : decode y.2.1 pc = .ok (.ireturn, 1)) (hr : y.2.2.2 = some .boolean) (hx : x = 0 ∨ x = 1) (h : Q (some (.int (jI x))) M) : jX G y R 0 0 E (jZ G Q) pc l [.int (jI x)] M := by
  intro p e s m args below meth c H locs ls hC
  obtain ⟨h1, h2, h3, h4, h5, h6, h7, h8, h9, h10, h11, h12⟩ := hC
  exact W.zret h1 h2 (h6.trans hr) (by rcases hx with q | q <;> subst q <;> rfl) (fun t ht hW => ⟨_, M, rfl, h, by rw [ht]; exact h11, h10.F ht⟩) h10.2.2 hd h7
theorem jr_lret {Q : Option Value → jMem → Prop} {v : Int64} (hd : decode y.2.1 pc = .ok (.lreturn, 1)) (hr : y.2.2.2 = some .long) (h : Q (some (.long v)) M) : jX G y R 0 0 E (jZ G Q) pc l [.long v] M := by
  intro p e s m args below meth c H locs ls hC
  obtain ⟨h1, h2, h3, h4, h5, h6, h7, h8, h9, h10, h11, h12⟩ := hC
  exact W.lret h1 h2 (h6.trans hr) (fun t ht hW => ⟨_, M, rfl, h, by rw [ht]; exact h11, h10.F ht⟩) h10.2.2 hd h7
theorem jr_vret {Q : Option Value → jMem → Prop} (hd : decode y.2.1 pc = .ok (.return_, 1)) (hr : y.2.2.2 = none) (h : Q none M) : jX G y R 0 0 E (jZ G Q) pc l [] M := by
  intro p e s m args below meth c H locs ls hC
  obtain ⟨h1, h2, h3, h4, h5, h6, h7, h8, h9, h10, h11, h12⟩ := hC
  exact W.vret h1 h2 (h6.trans hr) (fun t ht hW => ⟨_, M, rfl, h, by rw [ht]; exact h11, h10.F ht⟩) h10.2.2 hd h7
-- fields
def jFl (own : String) (idx ci j : Nat) : Prop := ∃ q : vw_C, jcls[ci]? = some q ∧ j < q.2.2 ∧ (∀ w ∈ u_ws q.1 q.2.1 q.2.2, w ∈ jgd) ∧ (Cond.fieldLink own idx (q.2.1 j).1 (q.2.1 j).2.1 (q.2.1 j).2.2.1 ∈ jgd ∨ ∃ host, Cond.fieldLinkNest own idx (q.2.1 j).1 (q.2.1 j).2.1 (q.2.1 j).2.2.1 host ∈ jns)
def jFw (ci j : Nat) : Prop := ∃ q : vw_C, jcls[ci]? = some q ∧ (q.2.1 j).2.2.2 = false ∧ parseFieldDescriptor (q.2.1 j).2.2.1 = some .int ∧ (∃ ty : Nat → FieldType, ∀ k, k < q.2.2 → parseFieldDescriptor (q.2.1 k).2.2.1 = some (ty k)) ∧ ∀ a, a < q.2.2 → ∀ b, b < q.2.2 → a ≠ b → (q.2.1 a).2.1 ≠ (q.2.1 b).2.1
theorem jcel_obj (G : jG) (M : jMem) {k ci N : Nat} (hk : jsh k = (10 + ci, N)) : jcel G M k = .inr (ci, (List.range N).map (jfv G M k)) := by
  unfold jcel
  rw [hk]
  rw [if_neg (show ¬ (10 + ci = 0) by omega), if_neg (show ¬ (10 + ci = 1) by omega), if_neg (show ¬ (10 + ci = 2) by omega), if_neg (show ¬ (10 + ci = 3) by omega), show 10 + ci - 10 = ci by omega]
theorem jr_get {k idx ci j N : Nat} {v : Value} (hd : decode y.2.1 pc = .ok (.getfield idx, 3)) (hn : n = pc + 3) (hL : jFl y.1.cls idx ci j) (hk : jsh k = (10 + ci, N)) (hN : 10 + ci < 99) (hj : j < N) (hv : jfv G M k j = v) (kk : jX G y R cl sl E Z n l (v :: st) M) : jX G y R cl sl E Z pc l (.ref (jad G k) :: st) M := by
  subst hn; subst hv
  intro p e s m args below meth c H locs ls hC
  have hC0 := hC
  obtain ⟨h1, h2, h3, h4, h5, h6, h7, h8, h9, h10, h11, h12⟩ := hC0
  obtain ⟨q, hq1, hq2, hq3, hq4⟩ := hL
  have hkn : k < jNC := jsh_lt (by rw [hk]; exact hN)
  have hcell : (jwd G M)[k]? = some (jad G k, .inr (ci, (List.range N).map (jfv G M k))) := by
    rw [jwd_get G M hkn, jcel_obj G M hk]
  have hfs : ((List.range N).map (jfv G M k))[j]? = some (jfv G M k j) := by simp [hj]
  rcases hq4 with hq4 | ⟨host, hq4⟩
  · exact va_get h1 h2 h5 hq3 h4 h9.1 h11.1 k hcell hq1 j hq2 (h5 _ hq4) (fun _ z => z) hfs hd (kk _ _ _ _ _ _ _ _ _ _ _ hC)
  · exact va_getN h1 h2 h5 hq3 h4 h9.1 h11.1 k hcell hq1 j hq2 (va_Nw.use rfl (h9.2.1 _ hq4)) (fun _ z => z) hfs hd (kk _ _ _ _ _ _ _ _ _ _ _ hC)
theorem jr_put {k idx ci j N : Nat} {x : Int} (hd : decode y.2.1 pc = .ok (.putfield idx, 3)) (hn : n = pc + 3) (hL : jFl y.1.cls idx ci j) (hF : jFw ci j) (hk : jsh k = (10 + ci, N)) (hN : 10 + ci < 99) (hj : j < N) (hr : jrf k j = none) (kk : jX G y R cl sl E Z n l st (jup M k j x)) : jX G y R cl sl E Z pc l (.int (jI x) :: .ref (jad G k) :: st) M := by
  subst hn
  intro p e s m args below meth c H locs ls hC
  have hC0 := hC
  obtain ⟨h1, h2, h3, h4, h5, h6, h7, h8, h9, h10, h11, h12⟩ := hC0
  obtain ⟨q, hq1, hq2, hq3, hq4⟩ := hL
  obtain ⟨q', hf1, hf2, hf3, ⟨ty, hf4⟩, hf5⟩ := hF
  cases hq1.symm.trans hf1
  have hkn : k < jNC := jsh_lt (by rw [hk]; exact hN)
  have hcell : (jwd G M)[k]? = some (jad G k, .inr (ci, (List.range N).map (jfv G M k))) := by
    rw [jwd_get G M hkn, jcel_obj G M hk]
  have hfl : j < ((List.range N).map (jfv G M k)).length := by simpa using hj
  have ec : (.inr (ci, ((List.range N).map (jfv G M k)).set j (.int (jI x))) : va_E) = jcel G (jup M k j x) k := by
    rw [jcel_obj G _ hk]
    congr 2
    apply List.ext_getElem?
    intro i
    rw [List.getElem?_set]
    by_cases hi : j = i
    · subst hi
      rw [if_pos rfl, if_pos hfl]
      simp [hj, jfv, hr, jup]
    · rw [if_neg hi]
      by_cases hl : i < N
      · simp only [List.getElem?_map, List.getElem?_range hl, Option.map_some]
        congr 1
        unfold jfv
        cases jrf k i with
        | some r => rfl
        | none =>
          show Value.int (jI (M k i)) = Value.int (jI (jup M k j x k i))
          unfold jup
          rw [if_neg (fun z => hi (by omega))]
      · simp [hl]
  have fin : ∀ (H1 : Heap) (locs1 : List Loc), va_P (G.2.1, G.2.2.1) jcls ((jwd G M).set k (jad G k, .inr (ci, ((List.range N).map (jfv G M k)).set j (.int (jI x))))) H1 → va_D (jA G) ((jwd G M).set k (jad G k, .inr (ci, ((List.range N).map (jfv G M k)).set j (.int (jI x))))) → va_S (jA G) s.heap H1 locs1 → W p G.1 e R s m args below meth c H1 locs1 cl sl (Z below args s) (F0 m (pc + 3) ls st) := by
    intro H1 locs1 hP hD hS
    rw [jwd_set G hkn ec (fun a ha i' => jup_ne ha i')] at hP hD
    exact kk _ _ _ _ _ _ _ _ _ _ _ ⟨h1, h2, h3, h4, h5, h6, h7, h8, h9, hS, ⟨hP, hD⟩, h12⟩
  rcases hq4 with hq4 | ⟨host, hq4⟩
  · exact va_put h1 h2 h5 hq3 ty hf4 hf5 h4 h9.1 h11.1 h11.2 h10 k hcell hq1 j hq2 (h5 _ hq4) (fun _ z => z) hf2 hf3 rfl rfl hfl hd fin
  · exact va_putN h1 h2 h5 hq3 ty hf4 hf5 h4 h9.1 h11.1 h11.2 h10 k hcell hq1 j hq2 (va_Nw.use rfl (h9.2.1 _ hq4)) (fun _ z => z) hf2 hf3 rfl rfl hfl hd fin
-- static arrays
theorem jr_gets {t idx : Nat} (hd : decode y.2.1 pc = .ok (.getstatic idx, 3)) (hn : n = pc + 3) (ht : t < 3) (hL : Cond.fieldLink y.1.cls idx "CourtHouse" (jsn t) "[I" ∈ jgd) (kk : jX G y R cl sl E Z n l (.ref (jsa G t) :: st) M) : jX G y R cl sl E Z pc l st M := by
  subst hn
  intro p e s m args below meth c H locs ls hC
  have hC0 := hC
  obtain ⟨h1, h2, h3, h4, h5, h6, h7, h8, h9, h10, h11, h12⟩ := hC0
  exact va_gets h1 h2 (h9.2.2 t ht).1 h10 h4 (h5 _ hL) (fun _ z => z) hd (kk _ _ _ _ _ _ _ _ _ _ _ hC)
theorem jr_sald {t : Nat} {i : Int} (hd : decode y.2.1 pc = .ok (.iaload, 1)) (hn : n = pc + 1) (ht : t < 3) (h0 : 0 ≤ i) (hi : i < 5) (kk : jX G y R cl sl E Z n l (.int (jI (jsv t i)) :: st) M) : jX G y R cl sl E Z pc l (.int (jI i) :: .ref (jsa G t) :: st) M := by
  subst hn
  intro p e s m args below meth c H locs ls hC
  have hC0 := hC
  obtain ⟨h1, h2, h3, h4, h5, h6, h7, h8, h9, h10, h11, h12⟩ := hC0
  have e1 : (((jI i).toNatClampNeg : Nat) : Int) = i := by rw [jI_cl h0 (by omega)]; omega
  exact va_ti h1 h2 (h9.2.2 t ht).2 h10 (jI_in h0 hi (by omega)) (by rw [e1]) hd (kk _ _ _ _ _ _ _ _ _ _ _ hC)
end JC
