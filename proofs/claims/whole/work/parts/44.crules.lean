def jty (cy : Nat → ClassId) : List (ClassId × FieldType) := [(cy 0, .int), (cy 1, .long), (cy 2, .byte), (cy 3, .boolean)]
abbrev jΓ : Type := Launch × va_G × (Nat → ClassId)
def jVE (Γ : jΓ) (U : State) : Prop := va_K Γ.2.1 jcls (jty Γ.2.2) U ∧ ∀ w ∈ jns, va_Nw w U
def jVC (Γ : jΓ) (y : jMD) (E : Array Value → State → Method → Prop) (A : Nat → Prop) (l : List Value) (ws : va_W) (p : Program) (s : State) (m : MethodId) (args : Array Value) (meth : Method) (c : Code) (H : Heap) (locs : List Loc) (ls : Array Slot) : Prop :=
  p.tables.exec = Jvm.exec ∧ c.code = y.2.1 ∧ c.maxLocals = y.2.2.1 ∧ s.vm.findClass y.1.cls = some m.cls ∧ (∀ w ∈ jgd, w.before args s = true) ∧ meth.sig.returnType = y.2.2.2 ∧ meth.locks = false ∧ E args s meth ∧ jVE Γ s ∧ (∀ q, s.heap.size ≤ q → A q) ∧ va_S A s.heap H locs ∧ (va_P Γ.2.1 jcls ws H ∧ va_D A ws) ∧ jl ls y.2.2.1 l
def jV (Γ : jΓ) (y : jMD) (R : Room) (A : Nat → Prop) (E : Array Value → State → Method → Prop) (Z : List Frame → Array Value → State → State → Prop) (cl sl pc : Nat) (l st : List Value) (ws : va_W) : Prop :=
  ∀ p e s m args below meth c H locs ls, jVC Γ y E A l ws p s m args meth c H locs ls → W p Γ.1 e R s m args below meth c H locs cl sl (Z below args s) (F0 m pc ls st)
theorem jVE_warm {Γ : jΓ} {s U : State} (hW : s.WarmedH U.vm) (h : jVE Γ s) : jVE Γ U := by
  refine ⟨va_K.moved hW.alike h.1, fun w hw => ?_⟩
  have h1 := h.2 w hw
  have h2 : jis w = true := (List.mem_filter.mp hw).2
  cases w with
  | fieldLinkNest a i b n d h => exact va_Nw.warmF hW h1
  | methodLinkNest a i x h => exact va_Nw.warmM hW h1
  | _ => exact absurd h2 (by intro z; cases z)
theorem jVE_same {Γ : jΓ} {s U : State} (hv : s.vm = U.vm) (h : jVE Γ s) : jVE Γ U := by
  have ha : s.vm.Alike U.vm := by rw [hv]; exact Vm.Alike.refl U.vm
  refine ⟨va_K.moved ha h.1, fun w hw => ?_⟩
  have h1 := h.2 w hw
  have h2 : jis w = true := (List.mem_filter.mp hw).2
  cases w with
  | fieldLinkNest a i b n d h => exact va_Nw.same rfl hv h1
  | methodLinkNest a i x h => exact va_Nw.same rfl hv h1
  | _ => exact absurd h2 (by intro z; cases z)
-- the cells
def jz : Int → Int := fun _ => 0
def jci (c : ClassId) (n : Nat) (f : Int → Int) : va_E := .inl (c, n, .inl (fun j => jI (f (j : Int))))
def jcl (c : ClassId) (n : Nat) (f : Int → Int) : va_E := .inl (c, n, .inr (.inl (fun j => jL (f (j : Int)))))
section JV
variable {Γ : jΓ} {y : jMD} {R : Room} {A : Nat → Prop} {E : Array Value → State → Method → Prop} {Z : List Frame → Array Value → State → State → Prop} {cl sl pc n : Nat} {l st : List Value} {ws : va_W}
theorem jv_iconst {x : Int} (hd : decode y.2.1 pc = .ok (.iconst x, 1)) (hn : n = pc + 1) (k : jV Γ y R A E Z cl sl n l (.int (jI x) :: st) ws) : jV Γ y R A E Z cl sl pc l st ws := by
  subst hn
  intro p e s m args below meth c H locs ls hC
  exact lv_iconst hC.1 hC.2.1 hd rfl (k _ _ _ _ _ _ _ _ _ _ _ hC)
theorem jv_bipush {x : Int} (hd : decode y.2.1 pc = .ok (.bipush x, 2)) (hn : n = pc + 2) (hv : (Int8.ofInt x).toInt32 = jI x) (k : jV Γ y R A E Z cl sl n l (.int (jI x) :: st) ws) : jV Γ y R A E Z cl sl pc l st ws := by
  subst hn
  intro p e s m args below meth c H locs ls hC
  exact lv_bipush hC.1 hC.2.1 hd hv (k _ _ _ _ _ _ _ _ _ _ _ hC)
theorem jv_aload_n {a : Fin 4} {x : Nat} (hd : decode y.2.1 pc = .ok (.aload_n a, 1)) (hn : n = pc + 1) (hl : l[(a : Nat)]? = some (.ref x)) (k : jV Γ y R A E Z cl sl n l (.ref x :: st) ws) : jV Γ y R A E Z cl sl pc l st ws := by
  subst hn
  intro p e s m args below meth c H locs ls hC
  exact lv_aload_n hC.1 hC.2.1 hd rfl (jl_at hC.2.2.2.2.2.2.2.2.2.2.2.2 hl (by intro z; cases z)) (k _ _ _ _ _ _ _ _ _ _ _ hC)
theorem jv_dup {v : Value} (hd : decode y.2.1 pc = .ok (.dup, 1)) (hn : n = pc + 1) (hv : v.category = 1) (k : jV Γ y R A E Z cl sl n l (v :: v :: st) ws) : jV Γ y R A E Z cl sl pc l (v :: st) ws := by
  subst hn
  intro p e s m args below meth c H locs ls hC
  exact lv_dup hC.1 hC.2.1 hd hv (k _ _ _ _ _ _ _ _ _ _ _ hC)
theorem jv_obj {a idx : Nat} (hd : decode y.2.1 pc = .ok (.invokespecial idx, 3)) (hn : n = pc + 3) (hL : Cond.methodLink y.1.cls idx objectInit ∈ jgd) (hR : 1 ≤ R.frames ∧ 40 ≤ R.locals) (k : jV Γ y R A E Z cl sl n l [] ws) : jV Γ y R A E Z cl sl pc l [.ref a] ws := by
  subst hn
  intro p e s m args below meth c H locs ls hC
  have hC0 := hC
  obtain ⟨h1, h2, h3, h4, h5, h6, h7, h8, h9, h10, h11, h12, h13⟩ := hC0
  refine W.objInit h1 h2 h4 (h5 _ hL) (h5 _ job.1) (h5 _ job.2) rfl (by rw [h3]; exact h13.1) rfl hd hR.1 (Nat.le_trans (Nat.add_le_add_right (lv_room (Nat.zero_le _)) 12) (by omega)) ?_
  exact k _ _ _ _ _ _ _ _ _ _ _ hC
theorem jv_newa {t N cl' sl' : Nat} {at_ : ArrayType} {ty : FieldType} {a0 : vp_A} {x : Int} (hd : decode y.2.1 pc = .ok (.newarray at_, 2)) (hn : n = pc + 2) (hty : newarray.typeOf at_ = ty) (hw : Cond.arrayClass ty ∈ jgd) (ht : t < 4) (htt : ∀ cy, (jty cy)[t]? = some (cy t, ty)) (hx : x = N) (hN : N < 1000) (hb : N * componentBytes ty ≤ 536870912) (ha : ∀ cA : ClassId, vp_cell cA a0 = arrV cA N (fun _ => defaultValue ty)) (hc : cl' = cl + 1) (hs : sl' = sl + N) (hR : cl' ≤ R.cells ∧ sl' ≤ R.slots)
    (k : ∀ q, jV Γ y R A E Z cl' sl' n l (.ref q :: st) (ws ++ [(q, .inl (Γ.2.2 t, a0))])) : jV Γ y R A E Z cl sl pc l (.int (jI x) :: st) ws := by
  subst hn; subst hc; subst hs; subst hx
  intro p e s m args below meth c H locs ls hC
  have hC0 := hC
  obtain ⟨h1, h2, h3, h4, h5, h6, h7, h8, h9, h10, h11, h12, h13⟩ := hC0
  refine va_newa (N' := N) (a0 := a0) h1 h2 (h5 _ (by rw [hty]; exact hw)) hty h9.1 h12.1 h12.2 h11 h10 ha (by rw [← jI_0, jI_lt (by omega) (by omega)]; omega) (by rw [jI_cl (by omega) (by omega)]; omega) hb hR.1 hR.2 hd (fun q cA H1 hK hP hD hS => ?_)
  have e1 : cA = Γ.2.2 t := by
    have r1 := (hK.2 4 (cA, ty) rfl).2
    have r2 := (h9.1.2 t _ (htt Γ.2.2)).2
    subst hty
    cases at_ <;> exact Option.some.inj (r1.symm.trans r2)
  subst e1
  exact k q _ _ _ _ _ _ _ _ _ _ _ ⟨h1, h2, h3, h4, h5, h6, h7, h8, h9, h10, hS, ⟨hP, hD⟩, h13⟩
theorem jv_put {q0 a b ci k idx : Nat} {fs : List Value} {ws' : va_W} (hd : decode y.2.1 pc = .ok (.putfield idx, 3)) (hn : n = pc + 3) (hF : jFF y.1.cls idx ci k) (hE : ∀ args s meth, E args s meth → meth.name = "<init>") (q0 : Nat) (he : ws[q0]? = some (a, .inr (ci, fs))) (hl : k < fs.length) (hw : ws.set q0 (a, .inr (ci, fs.set k (.ref b))) = ws') (kk : jV Γ y R A E Z cl sl n l st ws') : jV Γ y R A E Z cl sl pc l (.ref b :: .ref a :: st) ws := by
  subst hn; subst hw
  intro p e s m args below meth c H locs ls hC
  have hC0 := hC
  obtain ⟨h1, h2, h3, h4, h5, h6, h7, h8, h9, h10, h11, h12, h13⟩ := hC0
  obtain ⟨q, f1, f2, f3, f4, f5, ⟨ty, f6⟩, f7, ft, f8, f9⟩ := hF
  exact va_putF h1 h2 h5 f3 ty f6 f7 h4 h9.1 h12.1 h12.2 h11 q0 he f1 k f2 (h5 _ f4) (fun _ z => z) f5.1 (hE _ _ _ h8) f5.2 f8 (f9 b).1 (f9 b).2 hl hd (fun H1 locs1 hP hD hS => kk _ _ _ _ _ _ _ _ _ _ _ ⟨h1, h2, h3, h4, h5, h6, h7, h8, h9, h10, hS, ⟨hP, hD⟩, h13⟩)
theorem jv_get {a ci k idx : Nat} {v : Value} {fs : List Value} (hd : decode y.2.1 pc = .ok (.getfield idx, 3)) (hn : n = pc + 3) (hF : jFl y.1.cls idx ci k) (q0 : Nat) (he : ws[q0]? = some (a, .inr (ci, fs))) (hv : fs[k]? = some v) (kk : jV Γ y R A E Z cl sl n l (v :: st) ws) : jV Γ y R A E Z cl sl pc l (.ref a :: st) ws := by
  subst hn
  intro p e s m args below meth c H locs ls hC
  have hC0 := hC
  obtain ⟨h1, h2, h3, h4, h5, h6, h7, h8, h9, h10, h11, h12, h13⟩ := hC0
  obtain ⟨q, hq1, hq2, hq3, hq4⟩ := hF
  rcases hq4 with hq4 | ⟨host, hq4⟩
  · exact va_get h1 h2 h5 hq3 h4 h9.1 h12.1 q0 he hq1 k hq2 (h5 _ hq4) (fun _ z => z) hv hd (kk _ _ _ _ _ _ _ _ _ _ _ hC)
  · exact va_getN h1 h2 h5 hq3 h4 h9.1 h12.1 q0 he hq1 k hq2 (va_Nw.use rfl (h9.2 _ hq4)) (fun _ z => z) hv hd (kk _ _ _ _ _ _ _ _ _ _ _ hC)
theorem jv_iast {a N : Nat} {f : Int → Int} {i x : Int} {ws' : va_W} (hd : decode y.2.1 pc = .ok (.iastore, 1)) (hn : n = pc + 1) (q0 : Nat) (he : ws[q0]? = some (a, jci (Γ.2.2 0) N f)) (hN : N < 1000) (h0 : 0 ≤ i) (hi : i < N) (hw : ws.set q0 (a, jci (Γ.2.2 0) N (jfu f i x)) = ws') (kk : jV Γ y R A E Z cl sl n l st ws') : jV Γ y R A E Z cl sl pc l (.int (jI x) :: .int (jI i) :: .ref a :: st) ws := by
  subst hn; subst hw
  intro p e s m args below meth c H locs ls hC
  have hC0 := hC
  obtain ⟨h1, h2, h3, h4, h5, h6, h7, h8, h9, h10, h11, h12, h13⟩ := hC0
  have ef : (upd (fun j : Nat => jI (f (j : Int))) (jI i).toNatClampNeg (jI x)) = fun j : Nat => jI (jfu f i x (j : Int)) := by
    funext j
    rw [jI_cl h0 (by omega)]
    unfold upd jfu
    by_cases z : j = i.toNat
    · rw [if_pos z, if_pos (by omega)]
    · rw [if_neg z, if_neg (by omega)]
  refine va_iast h1 h2 h9.1 h12.1 h12.2 h11 q0 0 he rfl (jI_in h0 hi (by omega)) hd (fun H1 locs1 hP hD hS => ?_)
  rw [ef] at hP hD
  exact kk _ _ _ _ _ _ _ _ _ _ _ ⟨h1, h2, h3, h4, h5, h6, h7, h8, h9, h10, hS, ⟨hP, hD⟩, h13⟩
theorem jv_new {ci idx N cl' sl' : Nat} {C : String} {T : u_T} {ty : Nat → FieldType} {fs : List Value} (hd : decode y.2.1 pc = .ok (.new idx, 3)) (hn : n = pc + 3) (hL : Cond.classLink y.1.cls idx C ∈ jgd ∧ Cond.instantiable C N ∈ jgd ∧ Cond.initialized C ∈ jgd) (hi : ∀ w ∈ u_ws C T N, w ∈ jgd) (hty : ∀ k, k < N → parseFieldDescriptor (T k).2.2.1 = some (ty k)) (hc : jcls[ci]? = some (C, T, N)) (hfs : ∀ j, j < N → defaultValue (ty j) = vp_V fs j) (hcl : cl' = cl + 1) (hsl : sl' = sl + N) (hR : cl' ≤ R.cells ∧ sl' ≤ R.slots)
    (k : ∀ q, jV Γ y R A E Z cl' sl' n l (.ref q :: st) (ws ++ [(q, .inr (ci, fs))])) : jV Γ y R A E Z cl sl pc l st ws := by
  subst hn; subst hcl; subst hsl
  intro p e s m args below meth c H locs ls hC
  have hC0 := hC
  obtain ⟨h1, h2, h3, h4, h5, h6, h7, h8, h9, h10, h11, h12, h13⟩ := hC0
  exact va_new h1 h2 h5 hi ty hty h4 (h5 _ hL.1) (h5 _ hL.2.1) (h5 _ hL.2.2) h9.1 h12.1 h12.2 h11 h10 hc hfs hR.1 hR.2 hd (fun q H1 hP hD hS => k q _ _ _ _ _ _ _ _ _ _ _ ⟨h1, h2, h3, h4, h5, h6, h7, h8, h9, h10, hS, ⟨hP, hD⟩, h13⟩)
theorem jv_as {x : Nat} {a : Fin 4} (hd : decode y.2.1 pc = .ok (.astore_n a, 1)) (hn : n = pc + 1) (hk : (a : Nat) < l.length) (hm : (a : Nat) < y.2.2.1) (hc : jcat l a = true) (k : jV Γ y R A E Z cl sl n (l.set a (.ref x)) st ws) : jV Γ y R A E Z cl sl pc l (.ref x :: st) ws := by
  subst hn
  intro p e s m args below meth c H locs ls hC
  obtain ⟨h1, h2, h3, h4, h5, h6, h7, h8, h9, h10, h11, h12, h13⟩ := hC
  exact lv_astore_n h1 h2 hd rfl h13 hm rfl (fun ls' hl' => k _ _ _ _ _ _ _ _ _ _ _ ⟨h1, h2, h3, h4, h5, h6, h7, h8, h9, h10, h11, h12, jl_st1 hk hc hl'⟩)
theorem jv_loc {l' : List Value} (e : l = l') (k : jV Γ y R A E Z cl sl pc l' st ws) : jV Γ y R A E Z cl sl pc l st ws := by rw [e]; exact k
theorem jv_ws {ws' : va_W} (e : ws = ws') (k : jV Γ y R A E Z cl sl pc l st ws') : jV Γ y R A E Z cl sl pc l st ws := by rw [e]; exact k
end JV
-- a constructor's contract
def jcp (Γ : jΓ) (ci : Nat) (fs : List Value) (h0 sz : Nat) : State → Prop := fun U => U.heap.size = sz ∧ va_P Γ.2.1 jcls [(h0, .inr (ci, fs))] U.heap ∧ jVE Γ U ∧ va_D (fun _ => True) [(h0, .inr (ci, fs))]
def jcq (Γ : jΓ) (A : Nat → Prop) (Wf : Nat → (Nat → Nat) → va_W) (h0 : Nat) : Array Value → State → Outcome → State → Prop := va_Qv (fun _ : Nat → Nat => True) (fun qs t => va_P Γ.2.1 jcls (Wf h0 qs) t.heap ∧ va_D A (Wf h0 qs)) A
def jcr (f mc ms : Nat) : Room := { frames := f, cells := mc, slots := ms, locals := 40 * f }
def jcon (Γ : jΓ) (ν : jMD) (f mc ms ci : Nat) (fs : List Value) (Wf : Nat → (Nat → Nat) → va_W) : Prop := ∀ (h0 sz : Nat), Met Γ.1 ν.1 (Cond.code ν.1 ν.2.1 ν.2.2.1 ν.2.2.2 :: jgd) (jcr f mc ms) (va_Pc [.ref h0] (jcp Γ ci fs h0 sz)) (jcq Γ (va_A [(h0, .inr (ci, fs))] sz) Wf h0) mc ms (va_A [(h0, .inr (ci, fs))] sz)
def jiz (Γ : jΓ) (A : Nat → Prop) (Wf : Nat → (Nat → Nat) → va_W) (h0 mc ms : Nat) : List Frame → Array Value → State → State → Prop := fun below args s => MQ below (jcq Γ A Wf h0) args s mc ms A
def jin (_ : Array Value) (_ : State) (meth : Method) : Prop := meth.name = "<init>"
theorem jcon_of {Γ : jΓ} {ν : jMD} {f mc ms ci : Nat} {fs : List Value} {Wf : Nat → (Nat → Nat) → va_W} (hm : jMk ν 0) (hi : ν.1.name = "<init>") (h1 : 1 ≤ ν.2.2.1) (hr : jpad ν.2.2.1 [Value.ref 0] = [.ref 0]) (h : ∀ (h0 : Nat) (A : Nat → Prop), jV Γ ν (jcr f mc ms) A jin (jiz Γ A Wf h0 mc ms) 0 0 0 [.ref h0] [] [(h0, .inr (ci, fs))]) : jcon Γ ν f mc ms ci fs Wf := by
  intro h0 sz
  refine Met.ofW (cc := ν.2.1) (maxL := ν.2.2.1) (ret := ν.2.2.2) hm.2.2.1 rfl ?_
  intro p e s m args' below meth c s₁ B hml hv
  obtain ⟨rfl, hsz, hP, hE, hD⟩ := hv
  rw [lg_entry_eq]
  have hts := atoms_spec (ws := Cond.code ν.1 ν.2.1 ν.2.2.1 ν.2.2.2 :: jgd) B.pre
  have hin : meth.name = ν.1.name := (name_of_methodNamed B.named B.method).1
  subst hsz
  exact h h0 _ p e s m _ below meth c s.heap [] _ ⟨B.exec, B.bytes, hml, findClass_of_methodNamed B.named, fun w hw => hts w (List.mem_cons_of_mem _ hw), B.returns, B.notSynchronized, hin.trans hi, hE, fun q h => Or.inr h, va_S.rf, ⟨hP, hD.self⟩, jl_of (lv_entry [.ref h0] h1) (fun k v h1 h2 => by
    match k, h1 with
    | 0, h1 => cases h1; exact List.mem_cons_self
    | k + 1, h1 => simp at h1)⟩
theorem jnd_of : ∀ l : List Nat, l.Nodup → va_nd l = true
  | [], _ => rfl
  | a :: l, h => by
    have q := List.nodup_cons.mp h
    unfold va_nd
    rw [jnd_of l q.2, decide_eq_true q.1]
    rfl
theorem jnd_range (n : Nat) : va_nd (List.range n) = true := jnd_of _ List.nodup_range
section JV2
variable {Γ : jΓ} {y : jMD} {R : Room} {A : Nat → Prop} {E : Array Value → State → Method → Prop} {Z : List Frame → Array Value → State → State → Prop} {cl sl pc n : Nat} {l st : List Value} {ws : va_W}
theorem jv_ret {Wf : Nat → (Nat → Nat) → va_W} {h0 mc ms : Nat} (qs : Nat → Nat) (hd : decode y.2.1 pc = .ok (.return_, 1)) (hr : y.2.2.2 = none) (hc : cl = mc) (hs : sl = ms) (hw : ws = Wf h0 qs) : jV Γ y R A E (jiz Γ A Wf h0 mc ms) cl sl pc l [] ws := by
  subst hw; subst hc; subst hs
  intro p e s m args below meth c H locs ls hC
  obtain ⟨h1, h2, h3, h4, h5, h6, h7, h8, h9, h10, h11, h12, h13⟩ := hC
  exact W.vret h1 h2 (h6.trans hr) (fun t ht hW => ⟨⟨qs, rfl, trivial, by rw [ht]; exact h12.1, h12.2⟩, h11.F ht⟩) h11.2.2 hd h7
theorem jv_init {ν : jMD} {idx q f mc ms ci cl' sl' : Nat} {fs : List Value} {Wf : Nat → (Nat → Nat) → va_W} (hM : jcon Γ ν f mc ms ci fs Wf) (hd : decode y.2.1 pc = .ok (.invokespecial idx, 3)) (hn : n = pc + 3) (hL : jLn y.1.cls idx ν.1) (hm : jMk ν 0) (hi : Cond.instanceMethod ν.1 ∈ jgd) (hnm : ν.1.name = "<init>") (hre : ν.2.2.2 = none) (hcat : (st.map fun v => v.category).sum ≤ 8) (hc : cl' = cl + mc) (hs : sl' = sl + ms) (hR : f + 1 ≤ R.frames ∧ 40 * f + 40 ≤ R.locals) (hR2 : cl' ≤ R.cells ∧ sl' ≤ R.slots)
    (k : ∀ qs : Nat → Nat, jV Γ y R A E Z cl' sl' n l st (ws ++ Wf q qs)) : jV Γ y R A E Z cl sl pc l (.ref q :: st) (ws ++ [(q, .inr (ci, fs))]) := by
  subst hn; subst hc; subst hs
  intro p e s m args below meth c H locs ls hC
  have hC0 := hC
  obtain ⟨h1, h2, h3, h4, h5, h6, h7, h8, h9, h10, h11, h12, h13⟩ := hC0
  have hat : (ws ++ [(q, (.inr (ci, fs) : va_E))])[ws.length]? = some (q, .inr (ci, fs)) := by simp
  have hPc := h12.1.sub (ws' := [(q, .inr (ci, fs))]) [ws.length] (by simp)
  have hDc := h12.2.sub (ws' := [(q, .inr (ci, fs))]) [ws.length] rfl (by simp)
  have hFc := va_free (wc := [(q, .inr (ci, fs))]) h12.2 h11 h10 [ws.length] (by simp)
  have hG := jgd_all hm.1
  have hRR : (jcr f mc ms).frames + 1 ≤ R.frames ∧ 8 + (ν.2.2.1 + 11) + (jcr f mc ms).locals ≤ R.locals := ⟨hR.1, by have := hm.2.2.2.2; have := hR.2; show 8 + (ν.2.2.1 + 11) + 40 * f ≤ R.locals; omega⟩
  have hP : PreS s H (va_Pc [.ref q] (jcp Γ ci fs q H.size)) (.ref q :: []) := ⟨fun a U g mk z => by
      obtain ⟨z0, z1, z2, z3, z4⟩ := z
      exact ⟨z0, z1, z2, jVE_same (s := U) rfl z3, z4⟩, fun U hU hW => ⟨rfl, by rw [hU], by rw [hU]; exact hPc, jVE_warm hW h9, hDc.weaken (fun _ _ _ _ => trivial)⟩⟩
  have hrun : va_Run p Γ.1 e R s m args below meth c H locs cl sl mc ms (F0 m pc ls (.ref q :: st)) st (jcq Γ (va_A [(q, .inr (ci, fs))] H.size) Wf q #[Value.ref q]) (va_A [(q, .inr (ci, fs))] H.size) := by
    have hM2 := hM q H.size
    rw [hre] at hM2 hG
    rcases hL with hL | ⟨host, hL⟩
    · exact va_runI (As := []) ⟨h1, h2, h3, h4, h5⟩ hM2 ⟨callB_of 0 h5 hG rfl rfl rfl (h5 _ hm.2.1) (h5 _ hL) hm.2.2.2.1 hRR, hnm, h5 _ hi⟩ hP rfl rfl h13.1 rfl (lv_room hcat) hd hR2
    · exact va_runIN (As := []) ⟨h1, h2, h3, h4, h5⟩ hM2 ⟨va_cnB 0 h5 hG rfl rfl rfl (h9.2 _ hL) (h5 _ hm.2.1) hm.2.2.2.1 hRR, hnm, h5 _ hi⟩ hP rfl rfl h13.1 rfl (lv_room hcat) hd hR2
  refine va_callv hrun h11 (fun x _ hx => hFc x hx) hFc (fun u t H1 locs1 ht hvm hw hB hz1 hk1 hS => ?_)
  obtain ⟨hP1, hD1⟩ := hB
  rw [ht] at hP1
  have hj := va_join (wr := ws) (w1 := Wf q u) h12.1 h12.2 [ws.length] (List.range ws.length) (by simp) (by
      apply List.ext_getElem?
      intro i
      by_cases hi : i < ws.length
      · simp [List.getElem?_range hi, List.getElem?_append_left hi, List.getElem?_eq_getElem hi]
      · simp [hi]) (jnd_range _) (by intro i hi; simp at hi ⊢; omega) hk1 hFc hP1 hD1
  exact k u _ _ _ _ _ _ _ _ _ _ _ ⟨h1, h2, h3, h4, h5, h6, h7, h8, h9, h10, hS, hj, h13⟩
end JV2
theorem jz_i (N : Nat) : ∀ cA : ClassId, vp_cell cA (N, .inl (fun j => jI (jz (j : Int)))) = arrV cA N (fun _ => defaultValue .int) := fun _ => rfl
theorem jz_b (N : Nat) : ∀ cA : ClassId, vp_cell cA (N, .inl (fun j => jI (jz (j : Int)))) = arrV cA N (fun _ => defaultValue .byte) := fun _ => rfl
theorem jz_z (N : Nat) : ∀ cA : ClassId, vp_cell cA (N, .inl (fun j => jI (jz (j : Int)))) = arrV cA N (fun _ => defaultValue .boolean) := fun _ => rfl
theorem jz_l (N : Nat) : ∀ cA : ClassId, vp_cell cA (N, .inr (.inl (fun j => jL (jz (j : Int))))) = arrV cA N (fun _ => defaultValue .long) := fun _ => rfl
