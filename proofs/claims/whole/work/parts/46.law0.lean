/-! THE CLAIM OUT OF ONE WALK OF THE LAW'S BODY. Your part is whole_start (and what it stands on); all else here is the same for every law, but numbers. -/
def R_law : String := "CourtHouseLaw"
def lw_P (b : Addr) (xs : List Int32) (args : Array Value) (s : State) : Prop := args = #[.ref b] ∧ s.IntsAt b xs ∧ xs.length ≤ 3072 ∧ (Jvm.Cond.and given_1 narrow_1).before args s = true
def lw_Q (_ : Array Value) (s : State) (o : Outcome) (t : State) : Prop := o = .returned (some (.int 1)) ∧ Framed s o t [] 600000 7302250
def lw_Z (below : List Frame) (a : Array Value) (s : State) : State → Prop := fun t => ∃ o, t.status = .running ∧ Ended t below o ∧ lw_Q a s o t
/-- the law's own end, with 1 on the stack, nothing written that was there before, its room as the claim has it -/
theorem lw_ret {p : Program} {l : Launch} {e : Env} {s : State} {m : MethodId} {below : List Frame} {meth : Method} {c : Code} {b : Nat} (hx : p.tables.exec = Jvm.exec) (hb : c.code = code) (hr : meth.sig.returnType = ret) (hlocks : meth.locks = false) {pc : Nat} {H : Heap} {ls : Array Slot} (hdg : decode code pc = .ok (.ireturn, 1)) : W p l e room_1 s m #[Value.ref b] below meth c H [] 600000 7302250 (lw_Z below #[Value.ref b] s) (F0 m pc ls [.int 1]) := by
  intro T hT X
  obtain ⟨fs, hret, hrun, hended, hW, hframe⟩ := X.leave (v := some (.int 1)) (hlocks := hlocks) (fun h => by rw [hr] at h; cases h)
  have hmeth' : T.vm.method? m = some meth := X.method'
  refine ⟨T.setFrames fs, ?_, .returned (some (.int 1)), hrun, hended, rfl, ⟨_, rfl⟩, hW, hframe⟩
  jvm_step X.here [X.here.top, hx, hb, hdg, hmeth', hr, ret, narrow_b1]
  (try refine ⟨rfl, ?_⟩); (try refine ⟨rfl, ?_⟩)
  first | (intro acts; rw [hret _ acts rfl rfl rfl]) | rw [hret _ _ rfl rfl rfl]
  exact Steps.refl _
/-- what holds at the law's entry: the machine, the code, the tables' words (any of lw_tbl by 'hts w (by decide +kernel)'), the script of L ints xs at the cell b, what the Statement gives of the start (any of its parts by flat_of_before) -/
def lw_At (p : Program) (s : State) (m : MethodId) (meth : Method) (c : Code) (b L : Nat) (xs : Nat → Int32) : Prop :=
  p.tables.exec = Jvm.exec ∧ c.code = code ∧ meth.sig.returnType = ret ∧ c.maxLocals = 4 ∧ s.vm.findClass R_law = some m.cls ∧ (∀ w ∈ lw_tbl, w.before #[Value.ref b] s = true) ∧ va_X b L xs s s.heap ∧ b < s.heap.size ∧ meth.locks = false ∧ (Jvm.Cond.and given_1 narrow_1).before #[Value.ref b] s = true
abbrev mLaw : jMD := (x, code, 4, ret)
def jlE (G : jG) (b L : Nat) (xs : Nat → Int32) (args : Array Value) (s : State) : Prop := args = #[.ref b] ∧ va_X b L xs s s.heap ∧ b < s.heap.size ∧ ∀ k, k < jNC → s.heap.size ≤ jad G k
theorem jlc_self (x : Int) : jlc x x = 0 := by
  unfold jlc
  rw [if_neg (by simp), if_pos rfl]
theorem jN_mono {G : jG} {y : jMD} {d : Nat} {args : List Value} {M : jMem} {Q Q' : Option Value → jMem → Prop} (h : jN G y d args M Q) (hq : ∀ v M', Q v M' → Q' v M') : jN G y d args M Q' := by
  intro p e s m args below meth c H locs ls hC T hT X
  obtain ⟨t, a, o, b1, b2, ⟨v, M', c1, c2, c3⟩, b4⟩ := h p e s m args below meth c H locs ls hC T hT X
  exact ⟨t, a, o, b1, b2, ⟨v, M', c1, hq v M' c2, c3⟩, b4⟩
theorem jcat_push (v : Option Value) : ((jpush v []).map fun v => v.category).sum ≤ 8 := by
  cases v with
  | none => exact Nat.zero_le _
  | some v => cases v <;> exact Nat.le_of_ble_eq_true rfl
section JLW
variable {G : jG} {R : Room} {cl sl : Nat} {Z : List Frame → Array Value → State → State → Prop} {pc n b L : Nat} {xs : Nat → Int32} {l st : List Value} {M : jMem}
theorem jl_nA {s : State} {args : Array Value} (h : jlE G b L xs args s) : ¬ jA G b := fun ⟨k, h1, h2⟩ => by
  have := h.2.2.2 k h1
  have := h.2.2.1
  omega
theorem jr_slen (hd : decode mLaw.2.1 pc = .ok (.arraylength, 1)) (hn : n = pc + 1) (kk : jX G mLaw R cl sl (jlE G b L xs) Z n l (.int (jI L) :: st) M) : jX G mLaw R cl sl (jlE G b L xs) Z pc l (.ref b :: st) M := by
  subst hn
  intro p e s m args below meth c H locs ls hC
  have hC0 := hC
  obtain ⟨c1, c2, c3, c4, c5, c6, c7, c8, c9, c10, c11, c12⟩ := hC0
  have ev : Int32.ofNat L = jI (L : Int) := (Int32.ofInt_eq_ofNat).symm
  refine va_slen c1 c2 c8.2.1 c8.2.2.1 (jl_nA c8) c10 hd ?_
  rw [ev]
  exact kk _ _ _ _ _ _ _ _ _ _ _ hC
theorem jr_sld {i : Int} (hd : decode mLaw.2.1 pc = .ok (.iaload, 1)) (hn : n = pc + 1) (h0 : 0 ≤ i) (h1 : i < L) (hL : L < 100000) (kk : jX G mLaw R cl sl (jlE G b L xs) Z n l (.int (jI (xs i.toNat).toInt) :: st) M) : jX G mLaw R cl sl (jlE G b L xs) Z pc l (.int (jI i) :: .ref b :: st) M := by
  subst hn
  intro p e s m args below meth c H locs ls hC
  have hC0 := hC
  obtain ⟨c1, c2, c3, c4, c5, c6, c7, c8, c9, c10, c11, c12⟩ := hC0
  refine va_sld c1 c2 c8.2.1 c8.2.2.1 (jl_nA c8) c10 (jI_in h0 h1 hL) hd ?_
  rw [jI_cl h0 (by omega), ← jI_of (xs i.toNat)]
  exact kk _ _ _ _ _ _ _ _ _ _ _ hC
theorem jr_law1 (hd : decode mLaw.2.1 pc = .ok (.ireturn, 1)) (hc : cl ≤ 600000) (hs : sl ≤ 7302250) : jX G mLaw room_1 cl sl (jlE G b L xs) lw_Z pc l [.int (jI 1)] M := by
  intro p e s m args below meth c H locs ls hC
  obtain ⟨c1, c2, c3, c4, c5, c6, c7, c8, c9, c10, c11, c12⟩ := hC
  obtain ⟨rfl, c8b, c8c, c8d⟩ := c8
  refine va_forget (fun q hq => ?_) ?_
  · obtain ⟨k, h1, h2⟩ := c10.2.2 q hq
    rw [h2]
    exact c8d k h1
  · refine W.widen (k := 600000) (n := 7302250) hc hs ?_
    exact lw_ret c1 c2 c6 c7 hd
end JLW
