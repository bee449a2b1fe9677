section JM
variable {G : jG} {y : jMD} {R : Room} {cl sl : Nat} {E : Array Value → State → Prop} {Z : List Frame → Array Value → State → State → Prop} {pc n d : Nat} {l st : List Value} {M : jMem}
def jle : List Value → List Value → Prop
  | [], _ => True
  | _ :: _, [] => False
  | u :: us, v :: vs => (u = .null ∨ u = v) ∧ jle us vs
theorem jle_at : ∀ (l' l : List Value), jle l' l → ∀ (k : Nat) (v : Value), l'[k]? = some v → v ≠ .null → l[k]? = some v
  | [], _, _, k, v, h, _ => by simp at h
  | u :: us, [], h, _, _, _, _ => h.elim
  | u :: us, w :: ws, h, 0, v, hk, hv => by
    have e : u = v := by simpa using hk
    subst e
    rcases h.1 with q | q
    · exact absurd q hv
    · simp [q]
  | u :: us, w :: ws, h, k + 1, v, hk, hv => by
    have := jle_at us ws h.2 k v (by simpa using hk) hv
    simpa using this
theorem jr_drop {l' : List Value} (k : jX G y R cl sl E Z pc l' st M) (h : jle l' l) : jX G y R cl sl E Z pc l st M := jr_sub (jle_at l' l h) k
theorem jr_getR {k idx ci j N r : Nat} (hd : decode y.2.1 pc = .ok (.getfield idx, 3)) (hn : n = pc + 3) (hL : jFl y.1.cls idx ci j) (hk : jsh k = (10 + ci, N)) (hN : 10 + ci < 99) (hj : j < N) (hr : jrf k j = some r) (kk : jX G y R cl sl E Z n l (.ref (jad G r) :: st) M) : jX G y R cl sl E Z pc l (.ref (jad G k) :: st) M := jr_get hd hn hL hk hN hj (by unfold jfv; rw [hr]) kk
theorem jr_getI {k idx ci j N : Nat} {i : Int} (hi : (j : Int) = i) (hd : decode y.2.1 pc = .ok (.getfield idx, 3)) (hn : n = pc + 3) (hL : jFl y.1.cls idx ci j) (hk : jsh k = (10 + ci, N)) (hN : 10 + ci < 99) (hj : j < N) (hr : jrf k j = none) (kk : jX G y R cl sl E Z n l (.int (jI (M k i)) :: st) M) : jX G y R cl sl E Z pc l (.ref (jad G k) :: st) M := jr_get hd hn hL hk hN hj (by unfold jfv; rw [hr, hi]) kk
theorem jr_putI {k idx ci j N : Nat} {i x : Int} (hi : (j : Int) = i) (hd : decode y.2.1 pc = .ok (.putfield idx, 3)) (hn : n = pc + 3) (hL : jFl y.1.cls idx ci j) (hF : jFw ci j) (hk : jsh k = (10 + ci, N)) (hN : 10 + ci < 99) (hj : j < N) (hr : jrf k j = none) (kk : jX G y R cl sl E Z n l st (jup M k i x)) : jX G y R cl sl E Z pc l (.int (jI x) :: .ref (jad G k) :: st) M := jr_put hd hn hL hF hk hN hj hr (by rw [hi]; exact kk)
theorem jr_max {idx : Nat} {x z : Int} (hd : decode y.2.1 pc = .ok (.invokestatic idx, 3)) (hn : n = pc + 3) (hL : Cond.methodLink y.1.cls idx Lib.Math.max.name ∈ jgd) (hx : jR x) (hz : jR z) (hcat : (st.map fun v => v.category).sum ≤ 8) (hR : 1 ≤ R.frames ∧ 40 ≤ R.locals) (hcs : cl ≤ R.cells ∧ sl ≤ R.slots) (kk : jX G y R cl sl E Z n l (.int (jI (max x z)) :: st) M) : jX G y R cl sl E Z pc l (.int (jI z) :: .int (jI x) :: st) M := by
  subst hn
  intro p e s m args below meth c H locs ls hC
  have hC0 := hC
  obtain ⟨h1, h2, h3, h4, h5, h6, h7, h8, h9, h10, h11, h12⟩ := hC0
  have e1 : (if jI x < jI z then jI z else jI x) = jI (max x z) := by
    by_cases q : x < z
    · rw [if_pos ((jI_lt hx hz).mpr q), Int.max_eq_right (by omega)]
    · rw [if_neg (fun r => q ((jI_lt hx hz).mp r)), Int.max_eq_left (by omega)]
  exact va_mmax h1 h2 (h3.trans h12.1.symm) h4 (h5 _ hL) (h5 _ jm_max.1) (h5 _ jm_max.2.1) (h5 _ jm_max.2.2) hR.1 (by omega) hcs.1 hcs.2 hd (by rw [e1]; exact kk _ _ _ _ _ _ _ _ _ _ _ hC)
theorem jr_min {idx : Nat} {x z : Int} (hd : decode y.2.1 pc = .ok (.invokestatic idx, 3)) (hn : n = pc + 3) (hL : Cond.methodLink y.1.cls idx Lib.Math.min.name ∈ jgd) (hx : jR x) (hz : jR z) (hcat : (st.map fun v => v.category).sum ≤ 8) (hR : 1 ≤ R.frames ∧ 40 ≤ R.locals) (hcs : cl ≤ R.cells ∧ sl ≤ R.slots) (kk : jX G y R cl sl E Z n l (.int (jI (min x z)) :: st) M) : jX G y R cl sl E Z pc l (.int (jI z) :: .int (jI x) :: st) M := by
  subst hn
  intro p e s m args below meth c H locs ls hC
  have hC0 := hC
  obtain ⟨h1, h2, h3, h4, h5, h6, h7, h8, h9, h10, h11, h12⟩ := hC0
  have e1 : (if jI z < jI x then jI z else jI x) = jI (min x z) := by
    by_cases q : z < x
    · rw [if_pos ((jI_lt hz hx).mpr q), Int.min_eq_right (by omega)]
    · rw [if_neg (fun r => q ((jI_lt hz hx).mp r)), Int.min_eq_left (by omega)]
  exact va_mmin h1 h2 (h3.trans h12.1.symm) h4 (h5 _ hL) (h5 _ jm_min.1) (h5 _ jm_min.2.1) (h5 _ jm_min.2.2) hR.1 (by omega) hcs.1 hcs.2 hd (by rw [e1]; exact kk _ _ _ _ _ _ _ _ _ _ _ hC)
def jcpy (M : jMem) (k : Nat) (sp dp n : Int) : jMem := fun a b => if a = k ∧ dp ≤ b ∧ b < dp + n then M k (sp + (b - dp)) else M a b
theorem jr_copy {k N : Nat} {sp dp z : Int} (hd : decode y.2.1 pc = .ok (.invokestatic 19, 3)) (hn : n = pc + 3) (ho : y.1.cls = RX6) (hk : jsh k = (2, N)) (hN : N < 1000) (h1 : 0 ≤ sp) (h2 : 0 ≤ dp) (h3 : 0 ≤ z) (h4 : sp + z ≤ N) (h5 : dp + z ≤ N) (hfit : ∀ i, -128 ≤ M k i ∧ M k i ≤ 127) (hcat : (st.map fun v => v.category).sum ≤ 8) (hR : 1 ≤ R.frames ∧ 40 ≤ R.locals) (kk : jX G y R cl sl E Z n l st (jcpy M k sp dp z)) : jX G y R cl sl E Z pc l (.int (jI z) :: .int (jI dp) :: .ref (jad G k) :: .int (jI sp) :: .ref (jad G k) :: st) M := by
  subst hn
  intro p e s m args below meth c H locs ls hC
  have hC0 := hC
  obtain ⟨c1, c2, c3, c4, c5, c6, c7, c8, c9, c10, c11, c12⟩ := hC0
  have hkn : k < jNC := jsh_lt (by rw [hk]; exact (by decide : (2 : Nat) < 99))
  have hcell : (jwd G M)[k]? = some (jad G k, .inl (jcy G 2, N, .inl (fun j => jI (M k (j : Int))))) := by
    rw [jwd_get G M hkn]; unfold jcel; rw [hk]; rfl
  have nn : ∀ x : Int, 0 ≤ x → x ≤ N → (jI x).toNatClampNeg = x.toNat ∧ ¬ jI x < 0 := fun x q1 q2 => ⟨jI_cl q1 (by omega), by rw [← jI_0, jI_lt ⟨by omega, by omega⟩ ⟨by omega, by omega⟩]; omega⟩
  have es := nn sp h1 (by omega)
  have ed := nn dp h2 (by omega)
  have en := nn z h3 (by omega)
  have ec : (Sum.inl (jcy G 2, N, Sum.inl (va_cpy (fun j => jI (M k (j : Int))) (fun j => jI (M k (j : Int))) (jI sp).toNatClampNeg (jI dp).toNatClampNeg (jI z).toNatClampNeg)) : va_E) = jcel G (jcpy M k sp dp z) k := by
    unfold jcel
    rw [hk, es.1, ed.1, en.1]
    have ef : ∀ j : Nat, va_cpy (fun j => jI (M k (j : Int))) (fun j => jI (M k (j : Int))) sp.toNat dp.toNat z.toNat j = jI (jcpy M k sp dp z k (j : Int)) := fun j => by
      unfold va_cpy jcpy
      by_cases q : dp.toNat ≤ j ∧ j < dp.toNat + z.toNat
      · rw [if_pos q, if_pos ⟨rfl, by omega, by omega⟩]
        show jI (M k ((sp.toNat + (j - dp.toNat) : Nat) : Int)) = _
        rw [show ((sp.toNat + (j - dp.toNat) : Nat) : Int) = sp + ((j : Int) - dp) by omega]
      · rw [if_neg q, if_neg (fun r => q ⟨by omega, by omega⟩)]
    exact congrArg (fun f => (Sum.inl (jcy G 2, N, Sum.inl f) : va_E)) (funext ef)
  have hfit' : ∀ i, i < (jI z).toNatClampNeg → fits .byte (.int ((fun j : Nat => jI (M k (j : Int))) ((jI sp).toNatClampNeg + i))) = true := fun i _ => by
    have hb := hfit (((jI sp).toNatClampNeg + i : Nat) : Int)
    show fits .byte (.int (jI (M k (((jI sp).toNatClampNeg + i : Nat) : Int)))) = true
    generalize M k (((jI sp).toNatClampNeg + i : Nat) : Int) = v at hb ⊢
    have : (jI v).toInt8.toInt32 = jI v := by
      rw [← Int32.toInt_inj, Int8.toInt_toInt32, Int32.toInt_toInt8, jI_toInt ⟨by omega, by omega⟩]
      exact Int.bmod_eq_of_le (by omega) (by omega)
    show fits .byte (.int (jI v)) = true
    rw [← this]
    exact pk_fb _
  have hloc : (st.map fun v => v.category).sum + (nativeFrameWords "java/lang/System" "arraycopy" 5 + 11) ≤ R.locals := by
    have : nativeFrameWords "java/lang/System" "arraycopy" 5 ≤ 20 := by decide +kernel
    omega
  refine va_copyi c1 c2 (c3.trans c12.1.symm) c4 (c5 _ (by rw [ho]; exact jm_copy.1)) (c5 _ jm_copy.2.1) (c5 _ jm_copy.2.2.1) (c5 _ jm_copy.2.2.2) c9.1 c11.1 c11.2 c10 k k 2 2 hcell hcell rfl rfl rfl es.2 ed.2 en.2 (by rw [es.1, en.1]; omega) (by rw [ed.1, en.1]; omega) hfit' hR.1 hloc hd (fun H1 locs1 hP hD hS => ?_)
  rw [jwd_set G hkn ec (fun j hj i' => by unfold jcpy; rw [if_neg (fun q => hj q.1)])] at hP hD
  exact kk _ _ _ _ _ _ _ _ _ _ _ ⟨c1, c2, c3, c4, c5, c6, c7, c8, c9, hS, ⟨hP, hD⟩, c12⟩
theorem jr_gV0 {ν : jMD} {k idx ci N : Nat} (hd : decode y.2.1 pc = .ok (.invokevirtual idx, 3)) (hn : n = pc + 3) (hL : jLn y.1.cls idx ν.1) (hm : jMk ν 0) (hi : jIn ν) (hk : jsh k = (10 + ci, N)) (hc : ∃ q, jcls[ci]? = some q ∧ q.1 = ν.1.cls) (hN : 10 + ci < 99) (hcat : (st.map fun v => v.category).sum ≤ 8) (hlen : (lg_sl [.ref (jad G k)]).length ≤ ν.2.2.1) (hnd : jnd [] = true) (hR : d + 1 ≤ R.frames ∧ 40 * d + 40 ≤ R.locals) (hcs : cl ≤ R.cells ∧ sl ≤ R.slots)
    (kk : jN G ν d [.ref (jad G k)] M (fun v M' => jX G y R cl sl E Z n l (jpush v st) M')) : jX G y R cl sl E Z pc l (.ref (jad G k) :: st) M := jr_callV (As := []) hd hn hL hm hi hk hc hN rfl rfl hcat hlen hnd hR hcs kk
theorem jr_cV0 {ν : jMD} {k idx ci N : Nat} {Q : Option Value → jMem → Prop} (hd : decode y.2.1 pc = .ok (.invokevirtual idx, 3)) (hn : n = pc + 3) (hL : jLn y.1.cls idx ν.1) (hm : jMk ν 0) (hi : jIn ν) (hk : jsh k = (10 + ci, N)) (hc : ∃ q, jcls[ci]? = some q ∧ q.1 = ν.1.cls) (hN : 10 + ci < 99) (hcat : (st.map fun v => v.category).sum ≤ 8) (hlen : (lg_sl [.ref (jad G k)]).length ≤ ν.2.2.1) (hnd : jnd [] = true)
    (kk : jN G ν d [.ref (jad G k)] M (fun v M' => jM G y (d + 1) n l (jpush v st) M' Q)) : jM G y (d + 1) pc l (.ref (jad G k) :: st) M Q := jr_callV (As := []) hd hn hL hm hi hk hc hN rfl rfl hcat hlen hnd ⟨Nat.le_refl _, Nat.le_refl _⟩ ⟨Nat.le_refl _, Nat.le_refl _⟩ kk
theorem jr_gV1 {ν : jMD} {k idx ci N : Nat} {b1 : Value} (hd : decode y.2.1 pc = .ok (.invokevirtual idx, 3)) (hn : n = pc + 3) (hL : jLn y.1.cls idx ν.1) (hm : jMk ν 1) (hi : jIn ν) (hk : jsh k = (10 + ci, N)) (hc : ∃ q, jcls[ci]? = some q ∧ q.1 = ν.1.cls) (hN : 10 + ci < 99) (hcat : (st.map fun v => v.category).sum ≤ 8) (hlen : (lg_sl [.ref (jad G k), b1]).length ≤ ν.2.2.1) (hnd : jnd [b1] = true) (hR : d + 1 ≤ R.frames ∧ 40 * d + 40 ≤ R.locals) (hcs : cl ≤ R.cells ∧ sl ≤ R.slots)
    (kk : jN G ν d [.ref (jad G k), b1] M (fun v M' => jX G y R cl sl E Z n l (jpush v st) M')) : jX G y R cl sl E Z pc l (b1 :: .ref (jad G k) :: st) M := jr_callV (As := [b1]) hd hn hL hm hi hk hc hN rfl rfl hcat hlen hnd hR hcs kk
theorem jr_cV1 {ν : jMD} {k idx ci N : Nat} {Q : Option Value → jMem → Prop} {b1 : Value} (hd : decode y.2.1 pc = .ok (.invokevirtual idx, 3)) (hn : n = pc + 3) (hL : jLn y.1.cls idx ν.1) (hm : jMk ν 1) (hi : jIn ν) (hk : jsh k = (10 + ci, N)) (hc : ∃ q, jcls[ci]? = some q ∧ q.1 = ν.1.cls) (hN : 10 + ci < 99) (hcat : (st.map fun v => v.category).sum ≤ 8) (hlen : (lg_sl [.ref (jad G k), b1]).length ≤ ν.2.2.1) (hnd : jnd [b1] = true)
    (kk : jN G ν d [.ref (jad G k), b1] M (fun v M' => jM G y (d + 1) n l (jpush v st) M' Q)) : jM G y (d + 1) pc l (b1 :: .ref (jad G k) :: st) M Q := jr_callV (As := [b1]) hd hn hL hm hi hk hc hN rfl rfl hcat hlen hnd ⟨Nat.le_refl _, Nat.le_refl _⟩ ⟨Nat.le_refl _, Nat.le_refl _⟩ kk
theorem jr_cS1 {ν : jMD} {idx : Nat} {Q : Option Value → jMem → Prop} {b1 : Value} (hd : decode y.2.1 pc = .ok (.invokestatic idx, 3)) (hn : n = pc + 3) (hL : jLn y.1.cls idx ν.1) (hm : jMk ν 1) (hi : jSt ν) (hcat : (st.map fun v => v.category).sum ≤ 8) (hlen : (lg_sl [b1]).length ≤ ν.2.2.1) (hnd : jnd [b1] = true)
    (kk : jN G ν d [b1] M (fun v M' => jM G y (d + 1) n l (jpush v st) M' Q)) : jM G y (d + 1) pc l (b1 :: st) M Q := jr_callS (As := [b1]) hd hn hL hm hi rfl rfl hcat hlen hnd ⟨Nat.le_refl _, Nat.le_refl _⟩ ⟨Nat.le_refl _, Nat.le_refl _⟩ kk
theorem jr_gV2 {ν : jMD} {k idx ci N : Nat} {b1 b2 : Value} (hd : decode y.2.1 pc = .ok (.invokevirtual idx, 3)) (hn : n = pc + 3) (hL : jLn y.1.cls idx ν.1) (hm : jMk ν 2) (hi : jIn ν) (hk : jsh k = (10 + ci, N)) (hc : ∃ q, jcls[ci]? = some q ∧ q.1 = ν.1.cls) (hN : 10 + ci < 99) (hcat : (st.map fun v => v.category).sum ≤ 8) (hlen : (lg_sl [.ref (jad G k), b1, b2]).length ≤ ν.2.2.1) (hnd : jnd [b1, b2] = true) (hR : d + 1 ≤ R.frames ∧ 40 * d + 40 ≤ R.locals) (hcs : cl ≤ R.cells ∧ sl ≤ R.slots)
    (kk : jN G ν d [.ref (jad G k), b1, b2] M (fun v M' => jX G y R cl sl E Z n l (jpush v st) M')) : jX G y R cl sl E Z pc l (b2 :: b1 :: .ref (jad G k) :: st) M := jr_callV (As := [b1, b2]) hd hn hL hm hi hk hc hN rfl rfl hcat hlen hnd hR hcs kk
theorem jr_cV2 {ν : jMD} {k idx ci N : Nat} {Q : Option Value → jMem → Prop} {b1 b2 : Value} (hd : decode y.2.1 pc = .ok (.invokevirtual idx, 3)) (hn : n = pc + 3) (hL : jLn y.1.cls idx ν.1) (hm : jMk ν 2) (hi : jIn ν) (hk : jsh k = (10 + ci, N)) (hc : ∃ q, jcls[ci]? = some q ∧ q.1 = ν.1.cls) (hN : 10 + ci < 99) (hcat : (st.map fun v => v.category).sum ≤ 8) (hlen : (lg_sl [.ref (jad G k), b1, b2]).length ≤ ν.2.2.1) (hnd : jnd [b1, b2] = true)
    (kk : jN G ν d [.ref (jad G k), b1, b2] M (fun v M' => jM G y (d + 1) n l (jpush v st) M' Q)) : jM G y (d + 1) pc l (b2 :: b1 :: .ref (jad G k) :: st) M Q := jr_callV (As := [b1, b2]) hd hn hL hm hi hk hc hN rfl rfl hcat hlen hnd ⟨Nat.le_refl _, Nat.le_refl _⟩ ⟨Nat.le_refl _, Nat.le_refl _⟩ kk
theorem jr_cS2 {ν : jMD} {idx : Nat} {Q : Option Value → jMem → Prop} {b1 b2 : Value} (hd : decode y.2.1 pc = .ok (.invokestatic idx, 3)) (hn : n = pc + 3) (hL : jLn y.1.cls idx ν.1) (hm : jMk ν 2) (hi : jSt ν) (hcat : (st.map fun v => v.category).sum ≤ 8) (hlen : (lg_sl [b1, b2]).length ≤ ν.2.2.1) (hnd : jnd [b1, b2] = true)
    (kk : jN G ν d [b1, b2] M (fun v M' => jM G y (d + 1) n l (jpush v st) M' Q)) : jM G y (d + 1) pc l (b2 :: b1 :: st) M Q := jr_callS (As := [b1, b2]) hd hn hL hm hi rfl rfl hcat hlen hnd ⟨Nat.le_refl _, Nat.le_refl _⟩ ⟨Nat.le_refl _, Nat.le_refl _⟩ kk
theorem jr_gV3 {ν : jMD} {k idx ci N : Nat} {b1 b2 b3 : Value} (hd : decode y.2.1 pc = .ok (.invokevirtual idx, 3)) (hn : n = pc + 3) (hL : jLn y.1.cls idx ν.1) (hm : jMk ν 3) (hi : jIn ν) (hk : jsh k = (10 + ci, N)) (hc : ∃ q, jcls[ci]? = some q ∧ q.1 = ν.1.cls) (hN : 10 + ci < 99) (hcat : (st.map fun v => v.category).sum ≤ 8) (hlen : (lg_sl [.ref (jad G k), b1, b2, b3]).length ≤ ν.2.2.1) (hnd : jnd [b1, b2, b3] = true) (hR : d + 1 ≤ R.frames ∧ 40 * d + 40 ≤ R.locals) (hcs : cl ≤ R.cells ∧ sl ≤ R.slots)
    (kk : jN G ν d [.ref (jad G k), b1, b2, b3] M (fun v M' => jX G y R cl sl E Z n l (jpush v st) M')) : jX G y R cl sl E Z pc l (b3 :: b2 :: b1 :: .ref (jad G k) :: st) M := jr_callV (As := [b1, b2, b3]) hd hn hL hm hi hk hc hN rfl rfl hcat hlen hnd hR hcs kk
theorem jr_cV3 {ν : jMD} {k idx ci N : Nat} {Q : Option Value → jMem → Prop} {b1 b2 b3 : Value} (hd : decode y.2.1 pc = .ok (.invokevirtual idx, 3)) (hn : n = pc + 3) (hL : jLn y.1.cls idx ν.1) (hm : jMk ν 3) (hi : jIn ν) (hk : jsh k = (10 + ci, N)) (hc : ∃ q, jcls[ci]? = some q ∧ q.1 = ν.1.cls) (hN : 10 + ci < 99) (hcat : (st.map fun v => v.category).sum ≤ 8) (hlen : (lg_sl [.ref (jad G k), b1, b2, b3]).length ≤ ν.2.2.1) (hnd : jnd [b1, b2, b3] = true)
    (kk : jN G ν d [.ref (jad G k), b1, b2, b3] M (fun v M' => jM G y (d + 1) n l (jpush v st) M' Q)) : jM G y (d + 1) pc l (b3 :: b2 :: b1 :: .ref (jad G k) :: st) M Q := jr_callV (As := [b1, b2, b3]) hd hn hL hm hi hk hc hN rfl rfl hcat hlen hnd ⟨Nat.le_refl _, Nat.le_refl _⟩ ⟨Nat.le_refl _, Nat.le_refl _⟩ kk
theorem jr_cS3 {ν : jMD} {idx : Nat} {Q : Option Value → jMem → Prop} {b1 b2 b3 : Value} (hd : decode y.2.1 pc = .ok (.invokestatic idx, 3)) (hn : n = pc + 3) (hL : jLn y.1.cls idx ν.1) (hm : jMk ν 3) (hi : jSt ν) (hcat : (st.map fun v => v.category).sum ≤ 8) (hlen : (lg_sl [b1, b2, b3]).length ≤ ν.2.2.1) (hnd : jnd [b1, b2, b3] = true)
    (kk : jN G ν d [b1, b2, b3] M (fun v M' => jM G y (d + 1) n l (jpush v st) M' Q)) : jM G y (d + 1) pc l (b3 :: b2 :: b1 :: st) M Q := jr_callS (As := [b1, b2, b3]) hd hn hL hm hi rfl rfl hcat hlen hnd ⟨Nat.le_refl _, Nat.le_refl _⟩ ⟨Nat.le_refl _, Nat.le_refl _⟩ kk
theorem jr_gV4 {ν : jMD} {k idx ci N : Nat} {b1 b2 b3 b4 : Value} (hd : decode y.2.1 pc = .ok (.invokevirtual idx, 3)) (hn : n = pc + 3) (hL : jLn y.1.cls idx ν.1) (hm : jMk ν 4) (hi : jIn ν) (hk : jsh k = (10 + ci, N)) (hc : ∃ q, jcls[ci]? = some q ∧ q.1 = ν.1.cls) (hN : 10 + ci < 99) (hcat : (st.map fun v => v.category).sum ≤ 8) (hlen : (lg_sl [.ref (jad G k), b1, b2, b3, b4]).length ≤ ν.2.2.1) (hnd : jnd [b1, b2, b3, b4] = true) (hR : d + 1 ≤ R.frames ∧ 40 * d + 40 ≤ R.locals) (hcs : cl ≤ R.cells ∧ sl ≤ R.slots)
    (kk : jN G ν d [.ref (jad G k), b1, b2, b3, b4] M (fun v M' => jX G y R cl sl E Z n l (jpush v st) M')) : jX G y R cl sl E Z pc l (b4 :: b3 :: b2 :: b1 :: .ref (jad G k) :: st) M := jr_callV (As := [b1, b2, b3, b4]) hd hn hL hm hi hk hc hN rfl rfl hcat hlen hnd hR hcs kk
theorem jr_cV4 {ν : jMD} {k idx ci N : Nat} {Q : Option Value → jMem → Prop} {b1 b2 b3 b4 : Value} (hd : decode y.2.1 pc = .ok (.invokevirtual idx, 3)) (hn : n = pc + 3) (hL : jLn y.1.cls idx ν.1) (hm : jMk ν 4) (hi : jIn ν) (hk : jsh k = (10 + ci, N)) (hc : ∃ q, jcls[ci]? = some q ∧ q.1 = ν.1.cls) (hN : 10 + ci < 99) (hcat : (st.map fun v => v.category).sum ≤ 8) (hlen : (lg_sl [.ref (jad G k), b1, b2, b3, b4]).length ≤ ν.2.2.1) (hnd : jnd [b1, b2, b3, b4] = true)
    (kk : jN G ν d [.ref (jad G k), b1, b2, b3, b4] M (fun v M' => jM G y (d + 1) n l (jpush v st) M' Q)) : jM G y (d + 1) pc l (b4 :: b3 :: b2 :: b1 :: .ref (jad G k) :: st) M Q := jr_callV (As := [b1, b2, b3, b4]) hd hn hL hm hi hk hc hN rfl rfl hcat hlen hnd ⟨Nat.le_refl _, Nat.le_refl _⟩ ⟨Nat.le_refl _, Nat.le_refl _⟩ kk
theorem jr_cS4 {ν : jMD} {idx : Nat} {Q : Option Value → jMem → Prop} {b1 b2 b3 b4 : Value} (hd : decode y.2.1 pc = .ok (.invokestatic idx, 3)) (hn : n = pc + 3) (hL : jLn y.1.cls idx ν.1) (hm : jMk ν 4) (hi : jSt ν) (hcat : (st.map fun v => v.category).sum ≤ 8) (hlen : (lg_sl [b1, b2, b3, b4]).length ≤ ν.2.2.1) (hnd : jnd [b1, b2, b3, b4] = true)
    (kk : jN G ν d [b1, b2, b3, b4] M (fun v M' => jM G y (d + 1) n l (jpush v st) M' Q)) : jM G y (d + 1) pc l (b4 :: b3 :: b2 :: b1 :: st) M Q := jr_callS (As := [b1, b2, b3, b4]) hd hn hL hm hi rfl rfl hcat hlen hnd ⟨Nat.le_refl _, Nat.le_refl _⟩ ⟨Nat.le_refl _, Nat.le_refl _⟩ kk
theorem jr_gV5 {ν : jMD} {k idx ci N : Nat} {b1 b2 b3 b4 b5 : Value} (hd : decode y.2.1 pc = .ok (.invokevirtual idx, 3)) (hn : n = pc + 3) (hL : jLn y.1.cls idx ν.1) (hm : jMk ν 5) (hi : jIn ν) (hk : jsh k = (10 + ci, N)) (hc : ∃ q, jcls[ci]? = some q ∧ q.1 = ν.1.cls) (hN : 10 + ci < 99) (hcat : (st.map fun v => v.category).sum ≤ 8) (hlen : (lg_sl [.ref (jad G k), b1, b2, b3, b4, b5]).length ≤ ν.2.2.1) (hnd : jnd [b1, b2, b3, b4, b5] = true) (hR : d + 1 ≤ R.frames ∧ 40 * d + 40 ≤ R.locals) (hcs : cl ≤ R.cells ∧ sl ≤ R.slots)
    (kk : jN G ν d [.ref (jad G k), b1, b2, b3, b4, b5] M (fun v M' => jX G y R cl sl E Z n l (jpush v st) M')) : jX G y R cl sl E Z pc l (b5 :: b4 :: b3 :: b2 :: b1 :: .ref (jad G k) :: st) M := jr_callV (As := [b1, b2, b3, b4, b5]) hd hn hL hm hi hk hc hN rfl rfl hcat hlen hnd hR hcs kk
theorem jr_cV5 {ν : jMD} {k idx ci N : Nat} {Q : Option Value → jMem → Prop} {b1 b2 b3 b4 b5 : Value} (hd : decode y.2.1 pc = .ok (.invokevirtual idx, 3)) (hn : n = pc + 3) (hL : jLn y.1.cls idx ν.1) (hm : jMk ν 5) (hi : jIn ν) (hk : jsh k = (10 + ci, N)) (hc : ∃ q, jcls[ci]? = some q ∧ q.1 = ν.1.cls) (hN : 10 + ci < 99) (hcat : (st.map fun v => v.category).sum ≤ 8) (hlen : (lg_sl [.ref (jad G k), b1, b2, b3, b4, b5]).length ≤ ν.2.2.1) (hnd : jnd [b1, b2, b3, b4, b5] = true)
    (kk : jN G ν d [.ref (jad G k), b1, b2, b3, b4, b5] M (fun v M' => jM G y (d + 1) n l (jpush v st) M' Q)) : jM G y (d + 1) pc l (b5 :: b4 :: b3 :: b2 :: b1 :: .ref (jad G k) :: st) M Q := jr_callV (As := [b1, b2, b3, b4, b5]) hd hn hL hm hi hk hc hN rfl rfl hcat hlen hnd ⟨Nat.le_refl _, Nat.le_refl _⟩ ⟨Nat.le_refl _, Nat.le_refl _⟩ kk
theorem jr_cS5 {ν : jMD} {idx : Nat} {Q : Option Value → jMem → Prop} {b1 b2 b3 b4 b5 : Value} (hd : decode y.2.1 pc = .ok (.invokestatic idx, 3)) (hn : n = pc + 3) (hL : jLn y.1.cls idx ν.1) (hm : jMk ν 5) (hi : jSt ν) (hcat : (st.map fun v => v.category).sum ≤ 8) (hlen : (lg_sl [b1, b2, b3, b4, b5]).length ≤ ν.2.2.1) (hnd : jnd [b1, b2, b3, b4, b5] = true)
    (kk : jN G ν d [b1, b2, b3, b4, b5] M (fun v M' => jM G y (d + 1) n l (jpush v st) M' Q)) : jM G y (d + 1) pc l (b5 :: b4 :: b3 :: b2 :: b1 :: st) M Q := jr_callS (As := [b1, b2, b3, b4, b5]) hd hn hL hm hi rfl rfl hcat hlen hnd ⟨Nat.le_refl _, Nat.le_refl _⟩ ⟨Nat.le_refl _, Nat.le_refl _⟩ kk
end JM
