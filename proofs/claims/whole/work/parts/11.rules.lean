theorem jsh_lt {k : Nat} (h : (jsh k).1 < 99) : k < jNC := by
  rcases Nat.lt_or_ge k jNC with q | q
  · exact q
  · exfalso
    have e : jsh k = (99, 0) := by
      unfold jsh
      rw [List.getD_eq_getElem?_getD, List.getElem?_eq_none (by simpa [jshL, jNC] using q)]
      rfl
    rw [e] at h
    exact absurd h (by decide)
section JR
variable {G : jG} {y : jMD} {R : Room} {cl sl : Nat} {E : Array Value → State → Prop} {Z : List Frame → Array Value → State → State → Prop} {pc n : Nat} {l st : List Value} {M : jMem}
theorem jr_sub {l' : List Value} (h : ∀ (k : Nat) (v : Value), l'[k]? = some v → v ≠ .null → l[k]? = some v) (k : jX G y R cl sl E Z pc l' st M) : jX G y R cl sl E Z pc l st M := by
  intro p e s m args below meth c H locs ls hC
  obtain ⟨h1, h2, h3, h4, h5, h6, h7, h8, h9, h10, h11, h12⟩ := hC
  exact k _ _ _ _ _ _ _ _ _ _ _ ⟨h1, h2, h3, h4, h5, h6, h7, h8, h9, h10, h11, jl_sub h12 h⟩
theorem jr_iconst {x : Int} (hd : decode y.2.1 pc = .ok (.iconst x, 1)) (hn : n = pc + 1) (k : jX G y R cl sl E Z n l (.int (jI x) :: st) M) : jX G y R cl sl E Z pc l st M := by
  subst hn
  intro p e s m args below meth c H locs ls hC
  exact lv_iconst hC.1 hC.2.1 hd rfl (k _ _ _ _ _ _ _ _ _ _ _ hC)
theorem jr_bipush {x : Int} (hd : decode y.2.1 pc = .ok (.bipush x, 2)) (hn : n = pc + 2) (hv : (Int8.ofInt x).toInt32 = jI x) (k : jX G y R cl sl E Z n l (.int (jI x) :: st) M) : jX G y R cl sl E Z pc l st M := by
  subst hn
  intro p e s m args below meth c H locs ls hC
  exact lv_bipush hC.1 hC.2.1 hd hv (k _ _ _ _ _ _ _ _ _ _ _ hC)
theorem jr_sipush {x : Int} (hd : decode y.2.1 pc = .ok (.sipush x, 3)) (hn : n = pc + 3) (hv : (Int16.ofInt x).toInt32 = jI x) (k : jX G y R cl sl E Z n l (.int (jI x) :: st) M) : jX G y R cl sl E Z pc l st M := by
  subst hn
  intro p e s m args below meth c H locs ls hC
  exact lv_sipush hC.1 hC.2.1 hd hv (k _ _ _ _ _ _ _ _ _ _ _ hC)
theorem jr_lconst {a : Fin 2} {x : Int} (hd : decode y.2.1 pc = .ok (.lconst a, 1)) (hn : n = pc + 1) (hv : Int64.ofNat (a : Nat) = jL x) (k : jX G y R cl sl E Z n l (.long (jL x) :: st) M) : jX G y R cl sl E Z pc l st M := by
  subst hn
  intro p e s m args below meth c H locs ls hC
  exact lv_lconst hC.1 hC.2.1 hd hv (k _ _ _ _ _ _ _ _ _ _ _ hC)
theorem jr_ldc2 {own : String} {idx : Nat} {v : Int64} {x : Int} (hd : decode y.2.1 pc = .ok (.ldc2_w idx, 3)) (hn : n = pc + 3) (ho : y.1.cls = own) (hw : Cond.constantLong own idx v ∈ jgd) (hv : v = jL x) (k : jX G y R cl sl E Z n l (.long (jL x) :: st) M) : jX G y R cl sl E Z pc l st M := by
  subst hn; subst hv; subst ho
  intro p e s m args below meth c H locs ls hC
  exact lv_ldc2 hC.1 hC.2.1 hC.2.2.2.1 (hC.2.2.2.2.1 _ hw) hd (k _ _ _ _ _ _ _ _ _ _ _ hC)
theorem jr_ldcw {own : String} {idx : Nat} {v : Int32} {x : Int} (hd : decode y.2.1 pc = .ok (.ldc_w idx, 3)) (hn : n = pc + 3) (ho : y.1.cls = own) (hw : Cond.constant own idx v ∈ jgd) (hv : v = jI x) (k : jX G y R cl sl E Z n l (.int (jI x) :: st) M) : jX G y R cl sl E Z pc l st M := by
  subst hn; subst hv; subst ho
  intro p e s m args below meth c H locs ls hC
  exact lv_ldcw hC.1 hC.2.1 hC.2.2.2.1 (hC.2.2.2.2.1 _ hw) hd (k _ _ _ _ _ _ _ _ _ _ _ hC)
theorem jr_iload_n {a : Fin 4} {x : Int32} (hd : decode y.2.1 pc = .ok (.iload_n a, 1)) (hn : n = pc + 1) (hl : l[(a : Nat)]? = some (.int x)) (k : jX G y R cl sl E Z n l (.int x :: st) M) : jX G y R cl sl E Z pc l st M := by
  subst hn
  intro p e s m args below meth c H locs ls hC
  exact lv_iload_n hC.1 hC.2.1 hd rfl (jl_at hC.2.2.2.2.2.2.2.2.2.2.2 hl (by intro z; cases z)) (k _ _ _ _ _ _ _ _ _ _ _ hC)
theorem jr_iload {a : Nat} {x : Int32} (hd : decode y.2.1 pc = .ok (.iload a, 2)) (hn : n = pc + 2) (hl : l[a]? = some (.int x)) (k : jX G y R cl sl E Z n l (.int x :: st) M) : jX G y R cl sl E Z pc l st M := by
  subst hn
  intro p e s m args below meth c H locs ls hC
  exact lv_iload hC.1 hC.2.1 hd (jl_at hC.2.2.2.2.2.2.2.2.2.2.2 hl (by intro z; cases z)) (k _ _ _ _ _ _ _ _ _ _ _ hC)
theorem jr_lload_n {a : Fin 4} {x : Int64} (hd : decode y.2.1 pc = .ok (.lload_n a, 1)) (hn : n = pc + 1) (hl : l[(a : Nat)]? = some (.long x)) (k : jX G y R cl sl E Z n l (.long x :: st) M) : jX G y R cl sl E Z pc l st M := by
  subst hn
  intro p e s m args below meth c H locs ls hC
  exact lv_lload_n hC.1 hC.2.1 hd rfl (jl_at hC.2.2.2.2.2.2.2.2.2.2.2 hl (by intro z; cases z)) (k _ _ _ _ _ _ _ _ _ _ _ hC)
theorem jr_lload {a : Nat} {x : Int64} (hd : decode y.2.1 pc = .ok (.lload a, 2)) (hn : n = pc + 2) (hl : l[a]? = some (.long x)) (k : jX G y R cl sl E Z n l (.long x :: st) M) : jX G y R cl sl E Z pc l st M := by
  subst hn
  intro p e s m args below meth c H locs ls hC
  exact lv_lload hC.1 hC.2.1 hd (jl_at hC.2.2.2.2.2.2.2.2.2.2.2 hl (by intro z; cases z)) (k _ _ _ _ _ _ _ _ _ _ _ hC)
theorem jr_aload_n {a : Fin 4} {x : Nat} (hd : decode y.2.1 pc = .ok (.aload_n a, 1)) (hn : n = pc + 1) (hl : l[(a : Nat)]? = some (.ref x)) (k : jX G y R cl sl E Z n l (.ref x :: st) M) : jX G y R cl sl E Z pc l st M := by
  subst hn
  intro p e s m args below meth c H locs ls hC
  exact lv_aload_n hC.1 hC.2.1 hd rfl (jl_at hC.2.2.2.2.2.2.2.2.2.2.2 hl (by intro z; cases z)) (k _ _ _ _ _ _ _ _ _ _ _ hC)
theorem jr_aload {a : Nat} {x : Nat} (hd : decode y.2.1 pc = .ok (.aload a, 2)) (hn : n = pc + 2) (hl : l[a]? = some (.ref x)) (k : jX G y R cl sl E Z n l (.ref x :: st) M) : jX G y R cl sl E Z pc l st M := by
  subst hn
  intro p e s m args below meth c H locs ls hC
  exact lv_aload hC.1 hC.2.1 hd (jl_at hC.2.2.2.2.2.2.2.2.2.2.2 hl (by intro z; cases z)) (k _ _ _ _ _ _ _ _ _ _ _ hC)
theorem jg_istore_n {a : Fin 4} {x : Int32} (hd : decode y.2.1 pc = .ok (.istore_n a, 1)) (hn : n = pc + 1) (hk : (a : Nat) < l.length) (hm : (a : Nat) < y.2.2.1) (hc : jcat l a = true) (k : jX G y R cl sl E Z n (l.set a (.int x)) st M) : jX G y R cl sl E Z pc l (.int x :: st) M := by
  subst hn
  intro p e s m args below meth c H locs ls hC
  obtain ⟨h1, h2, h3, h4, h5, h6, h7, h8, h9, h10, h11, h12⟩ := hC
  exact lv_istore_n h1 h2 hd rfl h12 hm rfl (fun ls' h' => k _ _ _ _ _ _ _ _ _ _ _ ⟨h1, h2, h3, h4, h5, h6, h7, h8, h9, h10, h11, jl_st1 hk hc h'⟩)
theorem jg_istore {a : Nat} {x : Int32} (hd : decode y.2.1 pc = .ok (.istore a, 2)) (hn : n = pc + 2) (hk : (a : Nat) < l.length) (hm : (a : Nat) < y.2.2.1) (hc : jcat l a = true) (k : jX G y R cl sl E Z n (l.set a (.int x)) st M) : jX G y R cl sl E Z pc l (.int x :: st) M := by
  subst hn
  intro p e s m args below meth c H locs ls hC
  obtain ⟨h1, h2, h3, h4, h5, h6, h7, h8, h9, h10, h11, h12⟩ := hC
  exact lv_istore h1 h2 hd h12 hm rfl (fun ls' h' => k _ _ _ _ _ _ _ _ _ _ _ ⟨h1, h2, h3, h4, h5, h6, h7, h8, h9, h10, h11, jl_st1 hk hc h'⟩)
theorem jg_astore_n {a : Fin 4} {x : Nat} (hd : decode y.2.1 pc = .ok (.astore_n a, 1)) (hn : n = pc + 1) (hk : (a : Nat) < l.length) (hm : (a : Nat) < y.2.2.1) (hc : jcat l a = true) (k : jX G y R cl sl E Z n (l.set a (.ref x)) st M) : jX G y R cl sl E Z pc l (.ref x :: st) M := by
  subst hn
  intro p e s m args below meth c H locs ls hC
  obtain ⟨h1, h2, h3, h4, h5, h6, h7, h8, h9, h10, h11, h12⟩ := hC
  exact lv_astore_n h1 h2 hd rfl h12 hm rfl (fun ls' h' => k _ _ _ _ _ _ _ _ _ _ _ ⟨h1, h2, h3, h4, h5, h6, h7, h8, h9, h10, h11, jl_st1 hk hc h'⟩)
theorem jg_astore {a : Nat} {x : Nat} (hd : decode y.2.1 pc = .ok (.astore a, 2)) (hn : n = pc + 2) (hk : (a : Nat) < l.length) (hm : (a : Nat) < y.2.2.1) (hc : jcat l a = true) (k : jX G y R cl sl E Z n (l.set a (.ref x)) st M) : jX G y R cl sl E Z pc l (.ref x :: st) M := by
  subst hn
  intro p e s m args below meth c H locs ls hC
  obtain ⟨h1, h2, h3, h4, h5, h6, h7, h8, h9, h10, h11, h12⟩ := hC
  exact lv_astore h1 h2 hd h12 hm rfl (fun ls' h' => k _ _ _ _ _ _ _ _ _ _ _ ⟨h1, h2, h3, h4, h5, h6, h7, h8, h9, h10, h11, jl_st1 hk hc h'⟩)
theorem jg_lstore_n {a : Fin 4} {x : Int64} (hd : decode y.2.1 pc = .ok (.lstore_n a, 1)) (hn : n = pc + 1) (hk : (a : Nat) + 1 < l.length) (hm : (a : Nat) + 1 < y.2.2.1) (hc : jcat l a = true) (k : jX G y R cl sl E Z n ((l.set a (.long x)).set (a + 1) .null) st M) : jX G y R cl sl E Z pc l (.long x :: st) M := by
  subst hn
  intro p e s m args below meth c H locs ls hC
  obtain ⟨h1, h2, h3, h4, h5, h6, h7, h8, h9, h10, h11, h12⟩ := hC
  exact lv_lstore_n h1 h2 hd rfl h12 hm rfl (fun ls' h' => k _ _ _ _ _ _ _ _ _ _ _ ⟨h1, h2, h3, h4, h5, h6, h7, h8, h9, h10, h11, jl_st2 hk hc h'⟩)
theorem jg_lstore {a : Nat} {x : Int64} (hd : decode y.2.1 pc = .ok (.lstore a, 2)) (hn : n = pc + 2) (hk : (a : Nat) + 1 < l.length) (hm : (a : Nat) + 1 < y.2.2.1) (hc : jcat l a = true) (k : jX G y R cl sl E Z n ((l.set a (.long x)).set (a + 1) .null) st M) : jX G y R cl sl E Z pc l (.long x :: st) M := by
  subst hn
  intro p e s m args below meth c H locs ls hC
  obtain ⟨h1, h2, h3, h4, h5, h6, h7, h8, h9, h10, h11, h12⟩ := hC
  exact lv_lstore h1 h2 hd h12 hm rfl (fun ls' h' => k _ _ _ _ _ _ _ _ _ _ _ ⟨h1, h2, h3, h4, h5, h6, h7, h8, h9, h10, h11, jl_st2 hk hc h'⟩)
theorem jg_iinc {a : Nat} {z x : Int} (hd : decode y.2.1 pc = .ok (.iinc a z, 3)) (hn : n = pc + 3) (hl : l[a]? = some (.int (jI x))) (hm : a < y.2.2.1) (hc : jcat l a = true) (k : jX G y R cl sl E Z n (l.set a (.int (jI (x + z)))) st M) : jX G y R cl sl E Z pc l st M := by
  subst hn
  intro p e s m args below meth c H locs ls hC
  obtain ⟨h1, h2, h3, h4, h5, h6, h7, h8, h9, h10, h11, h12⟩ := hC
  have hk : a < l.length := (List.getElem?_eq_some_iff.mp hl).1
  have hmem : (a, Value.int (jI x)) ∈ jpr 0 l := by have := jpr_mem l 0 a _ hl (by intro z; cases z); simpa using this
  obtain ⟨q, hq⟩ := List.getElem?_of_mem hmem
  exact lv_iinc h1 h2 hd h12 hq (by rw [← jI_add]; rfl) hm rfl (fun ls' h' => k _ _ _ _ _ _ _ _ _ _ _ ⟨h1, h2, h3, h4, h5, h6, h7, h8, h9, h10, h11, jl_st1 hk hc h'⟩)
theorem jr_istore0 {a0 : Value} {r : List Value} {x : Int32} (hd : decode y.2.1 pc = .ok (.istore_n 0, 1)) (hn : n = pc + 1) (hm : 0 < y.2.2.1) (hc : jcat (a0 :: r) 0 = true) (k : jX G y R cl sl E Z n (.int x :: r) st M) : jX G y R cl sl E Z pc (a0 :: r) (.int x :: st) M := jg_istore_n hd hn (by simp only [List.length_cons]; first | omega | (show 3 < _; omega)) hm hc k
theorem jr_astore0 {a0 : Value} {r : List Value} {x : Nat} (hd : decode y.2.1 pc = .ok (.astore_n 0, 1)) (hn : n = pc + 1) (hm : 0 < y.2.2.1) (hc : jcat (a0 :: r) 0 = true) (k : jX G y R cl sl E Z n (.ref x :: r) st M) : jX G y R cl sl E Z pc (a0 :: r) (.ref x :: st) M := jg_astore_n hd hn (by simp only [List.length_cons]; first | omega | (show 3 < _; omega)) hm hc k
theorem jr_lstore0 {a0 b : Value} {r : List Value} {x : Int64} (hd : decode y.2.1 pc = .ok (.lstore_n 0, 1)) (hn : n = pc + 1) (hm : 0 + 1 < y.2.2.1) (hc : jcat (a0 :: b :: r) 0 = true) (k : jX G y R cl sl E Z n (.long x :: .null :: r) st M) : jX G y R cl sl E Z pc (a0 :: b :: r) (.long x :: st) M := jg_lstore_n hd hn (by simp only [List.length_cons]; first | omega | (show 3 + 1 < _; omega)) hm hc k
theorem jr_iinc0 {r : List Value} {z x : Int} (hd : decode y.2.1 pc = .ok (.iinc 0 z, 3)) (hn : n = pc + 3) (hm : 0 < y.2.2.1) (hc : jcat (.int (jI x) :: r) 0 = true) (k : jX G y R cl sl E Z n (.int (jI (x + z)) :: r) st M) : jX G y R cl sl E Z pc (.int (jI x) :: r) st M := jg_iinc hd hn rfl hm hc k
theorem jr_istore1 {a0 a1 : Value} {r : List Value} {x : Int32} (hd : decode y.2.1 pc = .ok (.istore_n 1, 1)) (hn : n = pc + 1) (hm : 1 < y.2.2.1) (hc : jcat (a0 :: a1 :: r) 1 = true) (k : jX G y R cl sl E Z n (a0 :: .int x :: r) st M) : jX G y R cl sl E Z pc (a0 :: a1 :: r) (.int x :: st) M := jg_istore_n hd hn (by simp only [List.length_cons]; first | omega | (show 3 < _; omega)) hm hc k
theorem jr_astore1 {a0 a1 : Value} {r : List Value} {x : Nat} (hd : decode y.2.1 pc = .ok (.astore_n 1, 1)) (hn : n = pc + 1) (hm : 1 < y.2.2.1) (hc : jcat (a0 :: a1 :: r) 1 = true) (k : jX G y R cl sl E Z n (a0 :: .ref x :: r) st M) : jX G y R cl sl E Z pc (a0 :: a1 :: r) (.ref x :: st) M := jg_astore_n hd hn (by simp only [List.length_cons]; first | omega | (show 3 < _; omega)) hm hc k
theorem jr_lstore1 {a0 a1 b : Value} {r : List Value} {x : Int64} (hd : decode y.2.1 pc = .ok (.lstore_n 1, 1)) (hn : n = pc + 1) (hm : 1 + 1 < y.2.2.1) (hc : jcat (a0 :: a1 :: b :: r) 1 = true) (k : jX G y R cl sl E Z n (a0 :: .long x :: .null :: r) st M) : jX G y R cl sl E Z pc (a0 :: a1 :: b :: r) (.long x :: st) M := jg_lstore_n hd hn (by simp only [List.length_cons]; first | omega | (show 3 + 1 < _; omega)) hm hc k
theorem jr_iinc1 {a0 : Value} {r : List Value} {z x : Int} (hd : decode y.2.1 pc = .ok (.iinc 1 z, 3)) (hn : n = pc + 3) (hm : 1 < y.2.2.1) (hc : jcat (a0 :: .int (jI x) :: r) 1 = true) (k : jX G y R cl sl E Z n (a0 :: .int (jI (x + z)) :: r) st M) : jX G y R cl sl E Z pc (a0 :: .int (jI x) :: r) st M := jg_iinc hd hn rfl hm hc k
theorem jr_istore2 {a0 a1 a2 : Value} {r : List Value} {x : Int32} (hd : decode y.2.1 pc = .ok (.istore_n 2, 1)) (hn : n = pc + 1) (hm : 2 < y.2.2.1) (hc : jcat (a0 :: a1 :: a2 :: r) 2 = true) (k : jX G y R cl sl E Z n (a0 :: a1 :: .int x :: r) st M) : jX G y R cl sl E Z pc (a0 :: a1 :: a2 :: r) (.int x :: st) M := jg_istore_n hd hn (by simp only [List.length_cons]; first | omega | (show 3 < _; omega)) hm hc k
theorem jr_astore2 {a0 a1 a2 : Value} {r : List Value} {x : Nat} (hd : decode y.2.1 pc = .ok (.astore_n 2, 1)) (hn : n = pc + 1) (hm : 2 < y.2.2.1) (hc : jcat (a0 :: a1 :: a2 :: r) 2 = true) (k : jX G y R cl sl E Z n (a0 :: a1 :: .ref x :: r) st M) : jX G y R cl sl E Z pc (a0 :: a1 :: a2 :: r) (.ref x :: st) M := jg_astore_n hd hn (by simp only [List.length_cons]; first | omega | (show 3 < _; omega)) hm hc k
theorem jr_lstore2 {a0 a1 a2 b : Value} {r : List Value} {x : Int64} (hd : decode y.2.1 pc = .ok (.lstore_n 2, 1)) (hn : n = pc + 1) (hm : 2 + 1 < y.2.2.1) (hc : jcat (a0 :: a1 :: a2 :: b :: r) 2 = true) (k : jX G y R cl sl E Z n (a0 :: a1 :: .long x :: .null :: r) st M) : jX G y R cl sl E Z pc (a0 :: a1 :: a2 :: b :: r) (.long x :: st) M := jg_lstore_n hd hn (by simp only [List.length_cons]; first | omega | (show 3 + 1 < _; omega)) hm hc k
theorem jr_iinc2 {a0 : Value} {a1 : Value} {r : List Value} {z x : Int} (hd : decode y.2.1 pc = .ok (.iinc 2 z, 3)) (hn : n = pc + 3) (hm : 2 < y.2.2.1) (hc : jcat (a0 :: a1 :: .int (jI x) :: r) 2 = true) (k : jX G y R cl sl E Z n (a0 :: a1 :: .int (jI (x + z)) :: r) st M) : jX G y R cl sl E Z pc (a0 :: a1 :: .int (jI x) :: r) st M := jg_iinc hd hn rfl hm hc k
theorem jr_istore3 {a0 a1 a2 a3 : Value} {r : List Value} {x : Int32} (hd : decode y.2.1 pc = .ok (.istore_n 3, 1)) (hn : n = pc + 1) (hm : 3 < y.2.2.1) (hc : jcat (a0 :: a1 :: a2 :: a3 :: r) 3 = true) (k : jX G y R cl sl E Z n (a0 :: a1 :: a2 :: .int x :: r) st M) : jX G y R cl sl E Z pc (a0 :: a1 :: a2 :: a3 :: r) (.int x :: st) M := jg_istore_n hd hn (by simp only [List.length_cons]; first | omega | (show 3 < _; omega)) hm hc k
theorem jr_astore3 {a0 a1 a2 a3 : Value} {r : List Value} {x : Nat} (hd : decode y.2.1 pc = .ok (.astore_n 3, 1)) (hn : n = pc + 1) (hm : 3 < y.2.2.1) (hc : jcat (a0 :: a1 :: a2 :: a3 :: r) 3 = true) (k : jX G y R cl sl E Z n (a0 :: a1 :: a2 :: .ref x :: r) st M) : jX G y R cl sl E Z pc (a0 :: a1 :: a2 :: a3 :: r) (.ref x :: st) M := jg_astore_n hd hn (by simp only [List.length_cons]; first | omega | (show 3 < _; omega)) hm hc k
theorem jr_lstore3 {a0 a1 a2 a3 b : Value} {r : List Value} {x : Int64} (hd : decode y.2.1 pc = .ok (.lstore_n 3, 1)) (hn : n = pc + 1) (hm : 3 + 1 < y.2.2.1) (hc : jcat (a0 :: a1 :: a2 :: a3 :: b :: r) 3 = true) (k : jX G y R cl sl E Z n (a0 :: a1 :: a2 :: .long x :: .null :: r) st M) : jX G y R cl sl E Z pc (a0 :: a1 :: a2 :: a3 :: b :: r) (.long x :: st) M := jg_lstore_n hd hn (by simp only [List.length_cons]; first | omega | (show 3 + 1 < _; omega)) hm hc k
theorem jr_iinc3 {a0 : Value} {a1 : Value} {a2 : Value} {r : List Value} {z x : Int} (hd : decode y.2.1 pc = .ok (.iinc 3 z, 3)) (hn : n = pc + 3) (hm : 3 < y.2.2.1) (hc : jcat (a0 :: a1 :: a2 :: .int (jI x) :: r) 3 = true) (k : jX G y R cl sl E Z n (a0 :: a1 :: a2 :: .int (jI (x + z)) :: r) st M) : jX G y R cl sl E Z pc (a0 :: a1 :: a2 :: .int (jI x) :: r) st M := jg_iinc hd hn rfl hm hc k
theorem jr_istore4 {a0 a1 a2 a3 a4 : Value} {r : List Value} {x : Int32} (hd : decode y.2.1 pc = .ok (.istore 4, 2)) (hn : n = pc + 2) (hm : 4 < y.2.2.1) (hc : jcat (a0 :: a1 :: a2 :: a3 :: a4 :: r) 4 = true) (k : jX G y R cl sl E Z n (a0 :: a1 :: a2 :: a3 :: .int x :: r) st M) : jX G y R cl sl E Z pc (a0 :: a1 :: a2 :: a3 :: a4 :: r) (.int x :: st) M := jg_istore hd hn (by simp only [List.length_cons]; first | omega | (show 3 < _; omega)) hm hc k
theorem jr_lstore4 {a0 a1 a2 a3 a4 b : Value} {r : List Value} {x : Int64} (hd : decode y.2.1 pc = .ok (.lstore 4, 2)) (hn : n = pc + 2) (hm : 4 + 1 < y.2.2.1) (hc : jcat (a0 :: a1 :: a2 :: a3 :: a4 :: b :: r) 4 = true) (k : jX G y R cl sl E Z n (a0 :: a1 :: a2 :: a3 :: .long x :: .null :: r) st M) : jX G y R cl sl E Z pc (a0 :: a1 :: a2 :: a3 :: a4 :: b :: r) (.long x :: st) M := jg_lstore hd hn (by simp only [List.length_cons]; first | omega | (show 3 + 1 < _; omega)) hm hc k
theorem jr_iinc4 {a0 : Value} {a1 : Value} {a2 : Value} {a3 : Value} {r : List Value} {z x : Int} (hd : decode y.2.1 pc = .ok (.iinc 4 z, 3)) (hn : n = pc + 3) (hm : 4 < y.2.2.1) (hc : jcat (a0 :: a1 :: a2 :: a3 :: .int (jI x) :: r) 4 = true) (k : jX G y R cl sl E Z n (a0 :: a1 :: a2 :: a3 :: .int (jI (x + z)) :: r) st M) : jX G y R cl sl E Z pc (a0 :: a1 :: a2 :: a3 :: .int (jI x) :: r) st M := jg_iinc hd hn rfl hm hc k
theorem jr_istore5 {a0 a1 a2 a3 a4 a5 : Value} {r : List Value} {x : Int32} (hd : decode y.2.1 pc = .ok (.istore 5, 2)) (hn : n = pc + 2) (hm : 5 < y.2.2.1) (hc : jcat (a0 :: a1 :: a2 :: a3 :: a4 :: a5 :: r) 5 = true) (k : jX G y R cl sl E Z n (a0 :: a1 :: a2 :: a3 :: a4 :: .int x :: r) st M) : jX G y R cl sl E Z pc (a0 :: a1 :: a2 :: a3 :: a4 :: a5 :: r) (.int x :: st) M := jg_istore hd hn (by simp only [List.length_cons]; first | omega | (show 3 < _; omega)) hm hc k
theorem jr_lstore5 {a0 a1 a2 a3 a4 a5 b : Value} {r : List Value} {x : Int64} (hd : decode y.2.1 pc = .ok (.lstore 5, 2)) (hn : n = pc + 2) (hm : 5 + 1 < y.2.2.1) (hc : jcat (a0 :: a1 :: a2 :: a3 :: a4 :: a5 :: b :: r) 5 = true) (k : jX G y R cl sl E Z n (a0 :: a1 :: a2 :: a3 :: a4 :: .long x :: .null :: r) st M) : jX G y R cl sl E Z pc (a0 :: a1 :: a2 :: a3 :: a4 :: a5 :: b :: r) (.long x :: st) M := jg_lstore hd hn (by simp only [List.length_cons]; first | omega | (show 3 + 1 < _; omega)) hm hc k
theorem jr_iinc5 {a0 : Value} {a1 : Value} {a2 : Value} {a3 : Value} {a4 : Value} {r : List Value} {z x : Int} (hd : decode y.2.1 pc = .ok (.iinc 5 z, 3)) (hn : n = pc + 3) (hm : 5 < y.2.2.1) (hc : jcat (a0 :: a1 :: a2 :: a3 :: a4 :: .int (jI x) :: r) 5 = true) (k : jX G y R cl sl E Z n (a0 :: a1 :: a2 :: a3 :: a4 :: .int (jI (x + z)) :: r) st M) : jX G y R cl sl E Z pc (a0 :: a1 :: a2 :: a3 :: a4 :: .int (jI x) :: r) st M := jg_iinc hd hn rfl hm hc k
theorem jr_istore6 {a0 a1 a2 a3 a4 a5 a6 : Value} {r : List Value} {x : Int32} (hd : decode y.2.1 pc = .ok (.istore 6, 2)) (hn : n = pc + 2) (hm : 6 < y.2.2.1) (hc : jcat (a0 :: a1 :: a2 :: a3 :: a4 :: a5 :: a6 :: r) 6 = true) (k : jX G y R cl sl E Z n (a0 :: a1 :: a2 :: a3 :: a4 :: a5 :: .int x :: r) st M) : jX G y R cl sl E Z pc (a0 :: a1 :: a2 :: a3 :: a4 :: a5 :: a6 :: r) (.int x :: st) M := jg_istore hd hn (by simp only [List.length_cons]; first | omega | (show 3 < _; omega)) hm hc k
theorem jr_lstore6 {a0 a1 a2 a3 a4 a5 a6 b : Value} {r : List Value} {x : Int64} (hd : decode y.2.1 pc = .ok (.lstore 6, 2)) (hn : n = pc + 2) (hm : 6 + 1 < y.2.2.1) (hc : jcat (a0 :: a1 :: a2 :: a3 :: a4 :: a5 :: a6 :: b :: r) 6 = true) (k : jX G y R cl sl E Z n (a0 :: a1 :: a2 :: a3 :: a4 :: a5 :: .long x :: .null :: r) st M) : jX G y R cl sl E Z pc (a0 :: a1 :: a2 :: a3 :: a4 :: a5 :: a6 :: b :: r) (.long x :: st) M := jg_lstore hd hn (by simp only [List.length_cons]; first | omega | (show 3 + 1 < _; omega)) hm hc k
theorem jr_iinc6 {a0 : Value} {a1 : Value} {a2 : Value} {a3 : Value} {a4 : Value} {a5 : Value} {r : List Value} {z x : Int} (hd : decode y.2.1 pc = .ok (.iinc 6 z, 3)) (hn : n = pc + 3) (hm : 6 < y.2.2.1) (hc : jcat (a0 :: a1 :: a2 :: a3 :: a4 :: a5 :: .int (jI x) :: r) 6 = true) (k : jX G y R cl sl E Z n (a0 :: a1 :: a2 :: a3 :: a4 :: a5 :: .int (jI (x + z)) :: r) st M) : jX G y R cl sl E Z pc (a0 :: a1 :: a2 :: a3 :: a4 :: a5 :: .int (jI x) :: r) st M := jg_iinc hd hn rfl hm hc k
theorem jr_istore7 {a0 a1 a2 a3 a4 a5 a6 a7 : Value} {r : List Value} {x : Int32} (hd : decode y.2.1 pc = .ok (.istore 7, 2)) (hn : n = pc + 2) (hm : 7 < y.2.2.1) (hc : jcat (a0 :: a1 :: a2 :: a3 :: a4 :: a5 :: a6 :: a7 :: r) 7 = true) (k : jX G y R cl sl E Z n (a0 :: a1 :: a2 :: a3 :: a4 :: a5 :: a6 :: .int x :: r) st M) : jX G y R cl sl E Z pc (a0 :: a1 :: a2 :: a3 :: a4 :: a5 :: a6 :: a7 :: r) (.int x :: st) M := jg_istore hd hn (by simp only [List.length_cons]; first | omega | (show 3 < _; omega)) hm hc k
theorem jr_lstore7 {a0 a1 a2 a3 a4 a5 a6 a7 b : Value} {r : List Value} {x : Int64} (hd : decode y.2.1 pc = .ok (.lstore 7, 2)) (hn : n = pc + 2) (hm : 7 + 1 < y.2.2.1) (hc : jcat (a0 :: a1 :: a2 :: a3 :: a4 :: a5 :: a6 :: a7 :: b :: r) 7 = true) (k : jX G y R cl sl E Z n (a0 :: a1 :: a2 :: a3 :: a4 :: a5 :: a6 :: .long x :: .null :: r) st M) : jX G y R cl sl E Z pc (a0 :: a1 :: a2 :: a3 :: a4 :: a5 :: a6 :: a7 :: b :: r) (.long x :: st) M := jg_lstore hd hn (by simp only [List.length_cons]; first | omega | (show 3 + 1 < _; omega)) hm hc k
theorem jr_iinc7 {a0 : Value} {a1 : Value} {a2 : Value} {a3 : Value} {a4 : Value} {a5 : Value} {a6 : Value} {r : List Value} {z x : Int} (hd : decode y.2.1 pc = .ok (.iinc 7 z, 3)) (hn : n = pc + 3) (hm : 7 < y.2.2.1) (hc : jcat (a0 :: a1 :: a2 :: a3 :: a4 :: a5 :: a6 :: .int (jI x) :: r) 7 = true) (k : jX G y R cl sl E Z n (a0 :: a1 :: a2 :: a3 :: a4 :: a5 :: a6 :: .int (jI (x + z)) :: r) st M) : jX G y R cl sl E Z pc (a0 :: a1 :: a2 :: a3 :: a4 :: a5 :: a6 :: .int (jI x) :: r) st M := jg_iinc hd hn rfl hm hc k
theorem jr_istore8 {a0 a1 a2 a3 a4 a5 a6 a7 a8 : Value} {r : List Value} {x : Int32} (hd : decode y.2.1 pc = .ok (.istore 8, 2)) (hn : n = pc + 2) (hm : 8 < y.2.2.1) (hc : jcat (a0 :: a1 :: a2 :: a3 :: a4 :: a5 :: a6 :: a7 :: a8 :: r) 8 = true) (k : jX G y R cl sl E Z n (a0 :: a1 :: a2 :: a3 :: a4 :: a5 :: a6 :: a7 :: .int x :: r) st M) : jX G y R cl sl E Z pc (a0 :: a1 :: a2 :: a3 :: a4 :: a5 :: a6 :: a7 :: a8 :: r) (.int x :: st) M := jg_istore hd hn (by simp only [List.length_cons]; first | omega | (show 3 < _; omega)) hm hc k
theorem jr_lstore8 {a0 a1 a2 a3 a4 a5 a6 a7 a8 b : Value} {r : List Value} {x : Int64} (hd : decode y.2.1 pc = .ok (.lstore 8, 2)) (hn : n = pc + 2) (hm : 8 + 1 < y.2.2.1) (hc : jcat (a0 :: a1 :: a2 :: a3 :: a4 :: a5 :: a6 :: a7 :: a8 :: b :: r) 8 = true) (k : jX G y R cl sl E Z n (a0 :: a1 :: a2 :: a3 :: a4 :: a5 :: a6 :: a7 :: .long x :: .null :: r) st M) : jX G y R cl sl E Z pc (a0 :: a1 :: a2 :: a3 :: a4 :: a5 :: a6 :: a7 :: a8 :: b :: r) (.long x :: st) M := jg_lstore hd hn (by simp only [List.length_cons]; first | omega | (show 3 + 1 < _; omega)) hm hc k
theorem jr_iinc8 {a0 : Value} {a1 : Value} {a2 : Value} {a3 : Value} {a4 : Value} {a5 : Value} {a6 : Value} {a7 : Value} {r : List Value} {z x : Int} (hd : decode y.2.1 pc = .ok (.iinc 8 z, 3)) (hn : n = pc + 3) (hm : 8 < y.2.2.1) (hc : jcat (a0 :: a1 :: a2 :: a3 :: a4 :: a5 :: a6 :: a7 :: .int (jI x) :: r) 8 = true) (k : jX G y R cl sl E Z n (a0 :: a1 :: a2 :: a3 :: a4 :: a5 :: a6 :: a7 :: .int (jI (x + z)) :: r) st M) : jX G y R cl sl E Z pc (a0 :: a1 :: a2 :: a3 :: a4 :: a5 :: a6 :: a7 :: .int (jI x) :: r) st M := jg_iinc hd hn rfl hm hc k
theorem jr_istore9 {a0 a1 a2 a3 a4 a5 a6 a7 a8 a9 : Value} {r : List Value} {x : Int32} (hd : decode y.2.1 pc = .ok (.istore 9, 2)) (hn : n = pc + 2) (hm : 9 < y.2.2.1) (hc : jcat (a0 :: a1 :: a2 :: a3 :: a4 :: a5 :: a6 :: a7 :: a8 :: a9 :: r) 9 = true) (k : jX G y R cl sl E Z n (a0 :: a1 :: a2 :: a3 :: a4 :: a5 :: a6 :: a7 :: a8 :: .int x :: r) st M) : jX G y R cl sl E Z pc (a0 :: a1 :: a2 :: a3 :: a4 :: a5 :: a6 :: a7 :: a8 :: a9 :: r) (.int x :: st) M := jg_istore hd hn (by simp only [List.length_cons]; first | omega | (show 3 < _; omega)) hm hc k
theorem jr_lstore9 {a0 a1 a2 a3 a4 a5 a6 a7 a8 a9 b : Value} {r : List Value} {x : Int64} (hd : decode y.2.1 pc = .ok (.lstore 9, 2)) (hn : n = pc + 2) (hm : 9 + 1 < y.2.2.1) (hc : jcat (a0 :: a1 :: a2 :: a3 :: a4 :: a5 :: a6 :: a7 :: a8 :: a9 :: b :: r) 9 = true) (k : jX G y R cl sl E Z n (a0 :: a1 :: a2 :: a3 :: a4 :: a5 :: a6 :: a7 :: a8 :: .long x :: .null :: r) st M) : jX G y R cl sl E Z pc (a0 :: a1 :: a2 :: a3 :: a4 :: a5 :: a6 :: a7 :: a8 :: a9 :: b :: r) (.long x :: st) M := jg_lstore hd hn (by simp only [List.length_cons]; first | omega | (show 3 + 1 < _; omega)) hm hc k
theorem jr_iinc9 {a0 : Value} {a1 : Value} {a2 : Value} {a3 : Value} {a4 : Value} {a5 : Value} {a6 : Value} {a7 : Value} {a8 : Value} {r : List Value} {z x : Int} (hd : decode y.2.1 pc = .ok (.iinc 9 z, 3)) (hn : n = pc + 3) (hm : 9 < y.2.2.1) (hc : jcat (a0 :: a1 :: a2 :: a3 :: a4 :: a5 :: a6 :: a7 :: a8 :: .int (jI x) :: r) 9 = true) (k : jX G y R cl sl E Z n (a0 :: a1 :: a2 :: a3 :: a4 :: a5 :: a6 :: a7 :: a8 :: .int (jI (x + z)) :: r) st M) : jX G y R cl sl E Z pc (a0 :: a1 :: a2 :: a3 :: a4 :: a5 :: a6 :: a7 :: a8 :: .int (jI x) :: r) st M := jg_iinc hd hn rfl hm hc k
theorem jr_istore10 {a0 a1 a2 a3 a4 a5 a6 a7 a8 a9 a10 : Value} {r : List Value} {x : Int32} (hd : decode y.2.1 pc = .ok (.istore 10, 2)) (hn : n = pc + 2) (hm : 10 < y.2.2.1) (hc : jcat (a0 :: a1 :: a2 :: a3 :: a4 :: a5 :: a6 :: a7 :: a8 :: a9 :: a10 :: r) 10 = true) (k : jX G y R cl sl E Z n (a0 :: a1 :: a2 :: a3 :: a4 :: a5 :: a6 :: a7 :: a8 :: a9 :: .int x :: r) st M) : jX G y R cl sl E Z pc (a0 :: a1 :: a2 :: a3 :: a4 :: a5 :: a6 :: a7 :: a8 :: a9 :: a10 :: r) (.int x :: st) M := jg_istore hd hn (by simp only [List.length_cons]; first | omega | (show 3 < _; omega)) hm hc k
theorem jr_lstore10 {a0 a1 a2 a3 a4 a5 a6 a7 a8 a9 a10 b : Value} {r : List Value} {x : Int64} (hd : decode y.2.1 pc = .ok (.lstore 10, 2)) (hn : n = pc + 2) (hm : 10 + 1 < y.2.2.1) (hc : jcat (a0 :: a1 :: a2 :: a3 :: a4 :: a5 :: a6 :: a7 :: a8 :: a9 :: a10 :: b :: r) 10 = true) (k : jX G y R cl sl E Z n (a0 :: a1 :: a2 :: a3 :: a4 :: a5 :: a6 :: a7 :: a8 :: a9 :: .long x :: .null :: r) st M) : jX G y R cl sl E Z pc (a0 :: a1 :: a2 :: a3 :: a4 :: a5 :: a6 :: a7 :: a8 :: a9 :: a10 :: b :: r) (.long x :: st) M := jg_lstore hd hn (by simp only [List.length_cons]; first | omega | (show 3 + 1 < _; omega)) hm hc k
theorem jr_iinc10 {a0 : Value} {a1 : Value} {a2 : Value} {a3 : Value} {a4 : Value} {a5 : Value} {a6 : Value} {a7 : Value} {a8 : Value} {a9 : Value} {r : List Value} {z x : Int} (hd : decode y.2.1 pc = .ok (.iinc 10 z, 3)) (hn : n = pc + 3) (hm : 10 < y.2.2.1) (hc : jcat (a0 :: a1 :: a2 :: a3 :: a4 :: a5 :: a6 :: a7 :: a8 :: a9 :: .int (jI x) :: r) 10 = true) (k : jX G y R cl sl E Z n (a0 :: a1 :: a2 :: a3 :: a4 :: a5 :: a6 :: a7 :: a8 :: a9 :: .int (jI (x + z)) :: r) st M) : jX G y R cl sl E Z pc (a0 :: a1 :: a2 :: a3 :: a4 :: a5 :: a6 :: a7 :: a8 :: a9 :: .int (jI x) :: r) st M := jg_iinc hd hn rfl hm hc k
theorem jr_istore11 {a0 a1 a2 a3 a4 a5 a6 a7 a8 a9 a10 a11 : Value} {r : List Value} {x : Int32} (hd : decode y.2.1 pc = .ok (.istore 11, 2)) (hn : n = pc + 2) (hm : 11 < y.2.2.1) (hc : jcat (a0 :: a1 :: a2 :: a3 :: a4 :: a5 :: a6 :: a7 :: a8 :: a9 :: a10 :: a11 :: r) 11 = true) (k : jX G y R cl sl E Z n (a0 :: a1 :: a2 :: a3 :: a4 :: a5 :: a6 :: a7 :: a8 :: a9 :: a10 :: .int x :: r) st M) : jX G y R cl sl E Z pc (a0 :: a1 :: a2 :: a3 :: a4 :: a5 :: a6 :: a7 :: a8 :: a9 :: a10 :: a11 :: r) (.int x :: st) M := jg_istore hd hn (by simp only [List.length_cons]; first | omega | (show 3 < _; omega)) hm hc k
theorem jr_lstore11 {a0 a1 a2 a3 a4 a5 a6 a7 a8 a9 a10 a11 b : Value} {r : List Value} {x : Int64} (hd : decode y.2.1 pc = .ok (.lstore 11, 2)) (hn : n = pc + 2) (hm : 11 + 1 < y.2.2.1) (hc : jcat (a0 :: a1 :: a2 :: a3 :: a4 :: a5 :: a6 :: a7 :: a8 :: a9 :: a10 :: a11 :: b :: r) 11 = true) (k : jX G y R cl sl E Z n (a0 :: a1 :: a2 :: a3 :: a4 :: a5 :: a6 :: a7 :: a8 :: a9 :: a10 :: .long x :: .null :: r) st M) : jX G y R cl sl E Z pc (a0 :: a1 :: a2 :: a3 :: a4 :: a5 :: a6 :: a7 :: a8 :: a9 :: a10 :: a11 :: b :: r) (.long x :: st) M := jg_lstore hd hn (by simp only [List.length_cons]; first | omega | (show 3 + 1 < _; omega)) hm hc k
theorem jr_iinc11 {a0 : Value} {a1 : Value} {a2 : Value} {a3 : Value} {a4 : Value} {a5 : Value} {a6 : Value} {a7 : Value} {a8 : Value} {a9 : Value} {a10 : Value} {r : List Value} {z x : Int} (hd : decode y.2.1 pc = .ok (.iinc 11 z, 3)) (hn : n = pc + 3) (hm : 11 < y.2.2.1) (hc : jcat (a0 :: a1 :: a2 :: a3 :: a4 :: a5 :: a6 :: a7 :: a8 :: a9 :: a10 :: .int (jI x) :: r) 11 = true) (k : jX G y R cl sl E Z n (a0 :: a1 :: a2 :: a3 :: a4 :: a5 :: a6 :: a7 :: a8 :: a9 :: a10 :: .int (jI (x + z)) :: r) st M) : jX G y R cl sl E Z pc (a0 :: a1 :: a2 :: a3 :: a4 :: a5 :: a6 :: a7 :: a8 :: a9 :: a10 :: .int (jI x) :: r) st M := jg_iinc hd hn rfl hm hc k
theorem jr_iadd {x z : Int} (hd : decode y.2.1 pc = .ok (.iadd, 1)) (hn : n = pc + 1)  (k : jX G y R cl sl E Z n l (.int (jI (x + z)) :: st) M) : jX G y R cl sl E Z pc l (.int (jI z) :: .int (jI x) :: st) M := by
  subst hn
  intro p e s m args below meth c H locs ls hC
  refine lv_iadd hC.1 hC.2.1 hd  ?_
  rw [jI_add]
  exact k _ _ _ _ _ _ _ _ _ _ _ hC
theorem jr_isub {x z : Int} (hd : decode y.2.1 pc = .ok (.isub, 1)) (hn : n = pc + 1)  (k : jX G y R cl sl E Z n l (.int (jI (x - z)) :: st) M) : jX G y R cl sl E Z pc l (.int (jI z) :: .int (jI x) :: st) M := by
  subst hn
  intro p e s m args below meth c H locs ls hC
  refine lv_isub hC.1 hC.2.1 hd  ?_
  rw [jI_sub]
  exact k _ _ _ _ _ _ _ _ _ _ _ hC
theorem jr_imul {x z : Int} (hd : decode y.2.1 pc = .ok (.imul, 1)) (hn : n = pc + 1)  (k : jX G y R cl sl E Z n l (.int (jI (x * z)) :: st) M) : jX G y R cl sl E Z pc l (.int (jI z) :: .int (jI x) :: st) M := by
  subst hn
  intro p e s m args below meth c H locs ls hC
  refine lv_imul hC.1 hC.2.1 hd  ?_
  rw [jI_mul]
  exact k _ _ _ _ _ _ _ _ _ _ _ hC
theorem jr_ladd {x z : Int} (hd : decode y.2.1 pc = .ok (.ladd, 1)) (hn : n = pc + 1)  (k : jX G y R cl sl E Z n l (.long (jL (x + z)) :: st) M) : jX G y R cl sl E Z pc l (.long (jL z) :: .long (jL x) :: st) M := by
  subst hn
  intro p e s m args below meth c H locs ls hC
  refine lv_ladd hC.1 hC.2.1 hd  ?_
  rw [jL_add]
  exact k _ _ _ _ _ _ _ _ _ _ _ hC
theorem jr_lsub {x z : Int} (hd : decode y.2.1 pc = .ok (.lsub, 1)) (hn : n = pc + 1)  (k : jX G y R cl sl E Z n l (.long (jL (x - z)) :: st) M) : jX G y R cl sl E Z pc l (.long (jL z) :: .long (jL x) :: st) M := by
  subst hn
  intro p e s m args below meth c H locs ls hC
  refine lv_lsub hC.1 hC.2.1 hd  ?_
  rw [jL_sub]
  exact k _ _ _ _ _ _ _ _ _ _ _ hC
theorem jr_lmul {x z : Int} (hd : decode y.2.1 pc = .ok (.lmul, 1)) (hn : n = pc + 1)  (k : jX G y R cl sl E Z n l (.long (jL (x * z)) :: st) M) : jX G y R cl sl E Z pc l (.long (jL z) :: .long (jL x) :: st) M := by
  subst hn
  intro p e s m args below meth c H locs ls hC
  refine lv_lmul hC.1 hC.2.1 hd  ?_
  rw [jL_mul]
  exact k _ _ _ _ _ _ _ _ _ _ _ hC
def jand (x z : Int) : Int := (jI x &&& jI z).toInt
def jor (x z : Int) : Int := (jI x ||| jI z).toInt
def jxor (x z : Int) : Int := (jI x ^^^ jI z).toInt
def jshl (x z : Int) : Int := (jI x <<< (jI z &&& 31)).toInt
def jshr (x z : Int) : Int := (jI x >>> (jI z &&& 31)).toInt
def jush (x z : Int) : Int := ((jI x).toUInt32 >>> ((jI z).toUInt32 &&& Int32.toUInt32 31)).toInt32.toInt
def jbyt (x : Int) : Int := (jI x).toInt8.toInt32.toInt
def jdiv (x z : Int) : Int := (jI x / jI z).toInt
def jlc (x z : Int) : Int := if jL x > jL z then 1 else if jL x = jL z then 0 else -1
theorem jlc_eq (x z : Int) : lg_cmp (jL x) (jL z) = jI (jlc x z) := by
  unfold lg_cmp jlc
  split
  · rfl
  · split <;> rfl
theorem jlc_R (x z : Int) : jR (jlc x z) := by
  unfold jlc
  split
  · omega
  · split <;> omega
theorem jr_iand {x z : Int} (hd : decode y.2.1 pc = .ok (.iand, 1)) (hn : n = pc + 1)  (k : jX G y R cl sl E Z n l (.int (jI (jand x z)) :: st) M) : jX G y R cl sl E Z pc l (.int (jI z) :: .int (jI x) :: st) M := by
  subst hn
  intro p e s m args below meth c H locs ls hC
  refine lv_iand hC.1 hC.2.1 hd  ?_
  rw [show _ = jI (jand x z) from (jI_of _).symm]
  exact k _ _ _ _ _ _ _ _ _ _ _ hC
theorem jr_ior {x z : Int} (hd : decode y.2.1 pc = .ok (.ior, 1)) (hn : n = pc + 1)  (k : jX G y R cl sl E Z n l (.int (jI (jor x z)) :: st) M) : jX G y R cl sl E Z pc l (.int (jI z) :: .int (jI x) :: st) M := by
  subst hn
  intro p e s m args below meth c H locs ls hC
  refine lv_ior hC.1 hC.2.1 hd  ?_
  rw [show _ = jI (jor x z) from (jI_of _).symm]
  exact k _ _ _ _ _ _ _ _ _ _ _ hC
theorem jr_ixor {x z : Int} (hd : decode y.2.1 pc = .ok (.ixor, 1)) (hn : n = pc + 1)  (k : jX G y R cl sl E Z n l (.int (jI (jxor x z)) :: st) M) : jX G y R cl sl E Z pc l (.int (jI z) :: .int (jI x) :: st) M := by
  subst hn
  intro p e s m args below meth c H locs ls hC
  refine lv_ixor hC.1 hC.2.1 hd  ?_
  rw [show _ = jI (jxor x z) from (jI_of _).symm]
  exact k _ _ _ _ _ _ _ _ _ _ _ hC
theorem jr_ishl {x z : Int} (hd : decode y.2.1 pc = .ok (.ishl, 1)) (hn : n = pc + 1)  (k : jX G y R cl sl E Z n l (.int (jI (jshl x z)) :: st) M) : jX G y R cl sl E Z pc l (.int (jI z) :: .int (jI x) :: st) M := by
  subst hn
  intro p e s m args below meth c H locs ls hC
  refine lv_ishl hC.1 hC.2.1 hd  ?_
  rw [show _ = jI (jshl x z) from (jI_of _).symm]
  exact k _ _ _ _ _ _ _ _ _ _ _ hC
theorem jr_ishr {x z : Int} (hd : decode y.2.1 pc = .ok (.ishr, 1)) (hn : n = pc + 1)  (k : jX G y R cl sl E Z n l (.int (jI (jshr x z)) :: st) M) : jX G y R cl sl E Z pc l (.int (jI z) :: .int (jI x) :: st) M := by
  subst hn
  intro p e s m args below meth c H locs ls hC
  refine lv_ishr hC.1 hC.2.1 hd  ?_
  rw [show _ = jI (jshr x z) from (jI_of _).symm]
  exact k _ _ _ _ _ _ _ _ _ _ _ hC
theorem jr_iushr {x z : Int} (hd : decode y.2.1 pc = .ok (.iushr, 1)) (hn : n = pc + 1)  (k : jX G y R cl sl E Z n l (.int (jI (jush x z)) :: st) M) : jX G y R cl sl E Z pc l (.int (jI z) :: .int (jI x) :: st) M := by
  subst hn
  intro p e s m args below meth c H locs ls hC
  refine lv_iushr hC.1 hC.2.1 hd (jI_of _).symm ?_
  exact k _ _ _ _ _ _ _ _ _ _ _ hC
theorem jr_i2b {x : Int} (hd : decode y.2.1 pc = .ok (.i2b, 1)) (hn : n = pc + 1)  (k : jX G y R cl sl E Z n l (.int (jI (jbyt x)) :: st) M) : jX G y R cl sl E Z pc l (.int (jI x) :: st) M := by
  subst hn
  intro p e s m args below meth c H locs ls hC
  refine lv_i2b hC.1 hC.2.1 hd (jI_of _).symm ?_
  exact k _ _ _ _ _ _ _ _ _ _ _ hC
theorem jr_i2l {x : Int} (hd : decode y.2.1 pc = .ok (.i2l, 1)) (hn : n = pc + 1) (hx : jR x) (k : jX G y R cl sl E Z n l (.long (jL x) :: st) M) : jX G y R cl sl E Z pc l (.int (jI x) :: st) M := by
  subst hn
  intro p e s m args below meth c H locs ls hC
  refine lv_i2l hC.1 hC.2.1 hd (jI_l hx) ?_
  exact k _ _ _ _ _ _ _ _ _ _ _ hC
theorem jr_idiv {x z : Int} (hd : decode y.2.1 pc = .ok (.idiv, 1)) (hn : n = pc + 1) (hz : ¬ jI z = 0) (k : jX G y R cl sl E Z n l (.int (jI (jdiv x z)) :: st) M) : jX G y R cl sl E Z pc l (.int (jI z) :: .int (jI x) :: st) M := by
  subst hn
  intro p e s m args below meth c H locs ls hC
  refine lv_idiv hC.1 hC.2.1 hd hz ?_
  rw [show _ = jI (jdiv x z) from (jI_of _).symm]
  exact k _ _ _ _ _ _ _ _ _ _ _ hC
theorem jr_lcmp {x z : Int} (hd : decode y.2.1 pc = .ok (.lcmp, 1)) (hn : n = pc + 1)  (k : jX G y R cl sl E Z n l (.int (jI (jlc x z)) :: st) M) : jX G y R cl sl E Z pc l (.long (jL z) :: .long (jL x) :: st) M := by
  subst hn
  intro p e s m args below meth c H locs ls hC
  refine W.lcmp hC.1 hC.2.1 hd  ?_
  rw [jlc_eq]
  exact k _ _ _ _ _ _ _ _ _ _ _ hC
theorem jr_dup {v : Value} (hd : decode y.2.1 pc = .ok (.dup, 1)) (hn : n = pc + 1) (hv : v.category = 1) (k : jX G y R cl sl E Z n l (v :: v :: st) M) : jX G y R cl sl E Z pc l (v :: st) M := by
  subst hn
  intro p e s m args below meth c H locs ls hC
  refine lv_dup hC.1 hC.2.1 hd hv ?_
  exact k _ _ _ _ _ _ _ _ _ _ _ hC
theorem jr_dup2 {v u : Value} (hd : decode y.2.1 pc = .ok (.dup2, 1)) (hn : n = pc + 1) (hv : v.category = 1) (hu : u.category = 1) (k : jX G y R cl sl E Z n l (v :: u :: v :: u :: st) M) : jX G y R cl sl E Z pc l (v :: u :: st) M := by
  subst hn
  intro p e s m args below meth c H locs ls hC
  refine lv_dup2_11 hC.1 hC.2.1 hd hv hu ?_
  exact k _ _ _ _ _ _ _ _ _ _ _ hC
theorem jr_icmp_eq {x z : Int} {t : Nat} {off : Int} (hd : decode y.2.1 pc = .ok (.if_icmp .eq off, 3)) (ht : (pc : Int) + off = (t : Int)) (hn : n = pc + 3) (hx : jR x) (hz : jR z) (kt : x = z → jX G y R cl sl E Z t l st M) (kf : x ≠ z → jX G y R cl sl E Z n l st M) : jX G y R cl sl E Z pc l (.int (jI z) :: .int (jI x) :: st) M := by
  subst hn
  intro p e s m args below meth c H locs ls hC
  refine lv_icmp_eq hC.1 hC.2.1 hd ht (fun q => kt ?_ _ _ _ _ _ _ _ _ _ _ _ hC) (fun q => kf ?_ _ _ _ _ _ _ _ _ _ _ _ hC)
  all_goals (simp only [ge_iff_le, gt_iff_lt, jI_lt hx hz, jI_lt hz hx, jI_le hx hz, jI_le hz hx, jI_eq hx hz] at q; omega)
theorem jr_if_eq {x : Int} {t : Nat} {off : Int} (hd : decode y.2.1 pc = .ok (.ifCond .eq off, 3)) (ht : (pc : Int) + off = (t : Int)) (hn : n = pc + 3) (hx : jR x) (kt : x = 0 → jX G y R cl sl E Z t l st M) (kf : x ≠ 0 → jX G y R cl sl E Z n l st M) : jX G y R cl sl E Z pc l (.int (jI x) :: st) M := by
  subst hn
  intro p e s m args below meth c H locs ls hC
  have hz : jR 0 := by omega
  refine lv_if_eq hC.1 hC.2.1 hd ht (fun q => kt ?_ _ _ _ _ _ _ _ _ _ _ _ hC) (fun q => kf ?_ _ _ _ _ _ _ _ _ _ _ _ hC)
  all_goals (rw [← jI_0] at q; simp only [ge_iff_le, gt_iff_lt, jI_lt hx hz, jI_lt hz hx, jI_le hx hz, jI_le hz hx, jI_eq hx hz] at q; omega)
theorem jr_ifT_eq {x : Int} {t : Nat} {off : Int} (hd : decode y.2.1 pc = .ok (.ifCond .eq off, 3)) (ht : (pc : Int) + off = (t : Int)) (hx : jR x) (h : x = 0) (kt : jX G y R cl sl E Z t l st M) : jX G y R cl sl E Z pc l (.int (jI x) :: st) M := jr_if_eq hd ht rfl hx (fun _ => kt) (fun q => absurd q (by omega))
theorem jr_ifF_eq {x : Int} {off : Int} (hd : decode y.2.1 pc = .ok (.ifCond .eq off, 3)) (hn : n = pc + 3) {t : Nat} (ht : (pc : Int) + off = (t : Int)) (hx : jR x) (h : x ≠ 0) (kf : jX G y R cl sl E Z n l st M) : jX G y R cl sl E Z pc l (.int (jI x) :: st) M := jr_if_eq hd ht hn hx (fun q => absurd q (by omega)) (fun _ => kf)
theorem jr_icmp_ne {x z : Int} {t : Nat} {off : Int} (hd : decode y.2.1 pc = .ok (.if_icmp .ne off, 3)) (ht : (pc : Int) + off = (t : Int)) (hn : n = pc + 3) (hx : jR x) (hz : jR z) (kt : x ≠ z → jX G y R cl sl E Z t l st M) (kf : x = z → jX G y R cl sl E Z n l st M) : jX G y R cl sl E Z pc l (.int (jI z) :: .int (jI x) :: st) M := by
  subst hn
  intro p e s m args below meth c H locs ls hC
  refine lv_icmp_ne hC.1 hC.2.1 hd ht (fun q => kt ?_ _ _ _ _ _ _ _ _ _ _ _ hC) (fun q => kf ?_ _ _ _ _ _ _ _ _ _ _ _ hC)
  all_goals (simp only [ge_iff_le, gt_iff_lt, jI_lt hx hz, jI_lt hz hx, jI_le hx hz, jI_le hz hx, jI_eq hx hz] at q; omega)
theorem jr_if_ne {x : Int} {t : Nat} {off : Int} (hd : decode y.2.1 pc = .ok (.ifCond .ne off, 3)) (ht : (pc : Int) + off = (t : Int)) (hn : n = pc + 3) (hx : jR x) (kt : x ≠ 0 → jX G y R cl sl E Z t l st M) (kf : x = 0 → jX G y R cl sl E Z n l st M) : jX G y R cl sl E Z pc l (.int (jI x) :: st) M := by
  subst hn
  intro p e s m args below meth c H locs ls hC
  have hz : jR 0 := by omega
  refine lv_if_ne hC.1 hC.2.1 hd ht (fun q => kt ?_ _ _ _ _ _ _ _ _ _ _ _ hC) (fun q => kf ?_ _ _ _ _ _ _ _ _ _ _ _ hC)
  all_goals (rw [← jI_0] at q; simp only [ge_iff_le, gt_iff_lt, jI_lt hx hz, jI_lt hz hx, jI_le hx hz, jI_le hz hx, jI_eq hx hz] at q; omega)
theorem jr_ifT_ne {x : Int} {t : Nat} {off : Int} (hd : decode y.2.1 pc = .ok (.ifCond .ne off, 3)) (ht : (pc : Int) + off = (t : Int)) (hx : jR x) (h : x ≠ 0) (kt : jX G y R cl sl E Z t l st M) : jX G y R cl sl E Z pc l (.int (jI x) :: st) M := jr_if_ne hd ht rfl hx (fun _ => kt) (fun q => absurd q (by omega))
theorem jr_ifF_ne {x : Int} {off : Int} (hd : decode y.2.1 pc = .ok (.ifCond .ne off, 3)) (hn : n = pc + 3) {t : Nat} (ht : (pc : Int) + off = (t : Int)) (hx : jR x) (h : x = 0) (kf : jX G y R cl sl E Z n l st M) : jX G y R cl sl E Z pc l (.int (jI x) :: st) M := jr_if_ne hd ht hn hx (fun q => absurd q (by omega)) (fun _ => kf)
theorem jr_icmp_lt {x z : Int} {t : Nat} {off : Int} (hd : decode y.2.1 pc = .ok (.if_icmp .lt off, 3)) (ht : (pc : Int) + off = (t : Int)) (hn : n = pc + 3) (hx : jR x) (hz : jR z) (kt : x < z → jX G y R cl sl E Z t l st M) (kf : z ≤ x → jX G y R cl sl E Z n l st M) : jX G y R cl sl E Z pc l (.int (jI z) :: .int (jI x) :: st) M := by
  subst hn
  intro p e s m args below meth c H locs ls hC
  refine lv_icmp_lt hC.1 hC.2.1 hd ht (fun q => kt ?_ _ _ _ _ _ _ _ _ _ _ _ hC) (fun q => kf ?_ _ _ _ _ _ _ _ _ _ _ _ hC)
  all_goals (simp only [ge_iff_le, gt_iff_lt, jI_lt hx hz, jI_lt hz hx, jI_le hx hz, jI_le hz hx, jI_eq hx hz] at q; omega)
theorem jr_if_lt {x : Int} {t : Nat} {off : Int} (hd : decode y.2.1 pc = .ok (.ifCond .lt off, 3)) (ht : (pc : Int) + off = (t : Int)) (hn : n = pc + 3) (hx : jR x) (kt : x < 0 → jX G y R cl sl E Z t l st M) (kf : 0 ≤ x → jX G y R cl sl E Z n l st M) : jX G y R cl sl E Z pc l (.int (jI x) :: st) M := by
  subst hn
  intro p e s m args below meth c H locs ls hC
  have hz : jR 0 := by omega
  refine lv_if_lt hC.1 hC.2.1 hd ht (fun q => kt ?_ _ _ _ _ _ _ _ _ _ _ _ hC) (fun q => kf ?_ _ _ _ _ _ _ _ _ _ _ _ hC)
  all_goals (rw [← jI_0] at q; simp only [ge_iff_le, gt_iff_lt, jI_lt hx hz, jI_lt hz hx, jI_le hx hz, jI_le hz hx, jI_eq hx hz] at q; omega)
theorem jr_ifT_lt {x : Int} {t : Nat} {off : Int} (hd : decode y.2.1 pc = .ok (.ifCond .lt off, 3)) (ht : (pc : Int) + off = (t : Int)) (hx : jR x) (h : x < 0) (kt : jX G y R cl sl E Z t l st M) : jX G y R cl sl E Z pc l (.int (jI x) :: st) M := jr_if_lt hd ht rfl hx (fun _ => kt) (fun q => absurd q (by omega))
theorem jr_ifF_lt {x : Int} {off : Int} (hd : decode y.2.1 pc = .ok (.ifCond .lt off, 3)) (hn : n = pc + 3) {t : Nat} (ht : (pc : Int) + off = (t : Int)) (hx : jR x) (h : 0 ≤ x) (kf : jX G y R cl sl E Z n l st M) : jX G y R cl sl E Z pc l (.int (jI x) :: st) M := jr_if_lt hd ht hn hx (fun q => absurd q (by omega)) (fun _ => kf)
theorem jr_icmp_ge {x z : Int} {t : Nat} {off : Int} (hd : decode y.2.1 pc = .ok (.if_icmp .ge off, 3)) (ht : (pc : Int) + off = (t : Int)) (hn : n = pc + 3) (hx : jR x) (hz : jR z) (kt : z ≤ x → jX G y R cl sl E Z t l st M) (kf : x < z → jX G y R cl sl E Z n l st M) : jX G y R cl sl E Z pc l (.int (jI z) :: .int (jI x) :: st) M := by
  subst hn
  intro p e s m args below meth c H locs ls hC
  refine lv_icmp_ge hC.1 hC.2.1 hd ht (fun q => kt ?_ _ _ _ _ _ _ _ _ _ _ _ hC) (fun q => kf ?_ _ _ _ _ _ _ _ _ _ _ _ hC)
  all_goals (simp only [ge_iff_le, gt_iff_lt, jI_lt hx hz, jI_lt hz hx, jI_le hx hz, jI_le hz hx, jI_eq hx hz] at q; omega)
theorem jr_if_ge {x : Int} {t : Nat} {off : Int} (hd : decode y.2.1 pc = .ok (.ifCond .ge off, 3)) (ht : (pc : Int) + off = (t : Int)) (hn : n = pc + 3) (hx : jR x) (kt : 0 ≤ x → jX G y R cl sl E Z t l st M) (kf : x < 0 → jX G y R cl sl E Z n l st M) : jX G y R cl sl E Z pc l (.int (jI x) :: st) M := by
  subst hn
  intro p e s m args below meth c H locs ls hC
  have hz : jR 0 := by omega
  refine lv_if_ge hC.1 hC.2.1 hd ht (fun q => kt ?_ _ _ _ _ _ _ _ _ _ _ _ hC) (fun q => kf ?_ _ _ _ _ _ _ _ _ _ _ _ hC)
  all_goals (rw [← jI_0] at q; simp only [ge_iff_le, gt_iff_lt, jI_lt hx hz, jI_lt hz hx, jI_le hx hz, jI_le hz hx, jI_eq hx hz] at q; omega)
theorem jr_ifT_ge {x : Int} {t : Nat} {off : Int} (hd : decode y.2.1 pc = .ok (.ifCond .ge off, 3)) (ht : (pc : Int) + off = (t : Int)) (hx : jR x) (h : 0 ≤ x) (kt : jX G y R cl sl E Z t l st M) : jX G y R cl sl E Z pc l (.int (jI x) :: st) M := jr_if_ge hd ht rfl hx (fun _ => kt) (fun q => absurd q (by omega))
theorem jr_ifF_ge {x : Int} {off : Int} (hd : decode y.2.1 pc = .ok (.ifCond .ge off, 3)) (hn : n = pc + 3) {t : Nat} (ht : (pc : Int) + off = (t : Int)) (hx : jR x) (h : x < 0) (kf : jX G y R cl sl E Z n l st M) : jX G y R cl sl E Z pc l (.int (jI x) :: st) M := jr_if_ge hd ht hn hx (fun q => absurd q (by omega)) (fun _ => kf)
theorem jr_icmp_gt {x z : Int} {t : Nat} {off : Int} (hd : decode y.2.1 pc = .ok (.if_icmp .gt off, 3)) (ht : (pc : Int) + off = (t : Int)) (hn : n = pc + 3) (hx : jR x) (hz : jR z) (kt : z < x → jX G y R cl sl E Z t l st M) (kf : x ≤ z → jX G y R cl sl E Z n l st M) : jX G y R cl sl E Z pc l (.int (jI z) :: .int (jI x) :: st) M := by
  subst hn
  intro p e s m args below meth c H locs ls hC
  refine lv_icmp_gt hC.1 hC.2.1 hd ht (fun q => kt ?_ _ _ _ _ _ _ _ _ _ _ _ hC) (fun q => kf ?_ _ _ _ _ _ _ _ _ _ _ _ hC)
  all_goals (simp only [ge_iff_le, gt_iff_lt, jI_lt hx hz, jI_lt hz hx, jI_le hx hz, jI_le hz hx, jI_eq hx hz] at q; omega)
theorem jr_if_gt {x : Int} {t : Nat} {off : Int} (hd : decode y.2.1 pc = .ok (.ifCond .gt off, 3)) (ht : (pc : Int) + off = (t : Int)) (hn : n = pc + 3) (hx : jR x) (kt : 0 < x → jX G y R cl sl E Z t l st M) (kf : x ≤ 0 → jX G y R cl sl E Z n l st M) : jX G y R cl sl E Z pc l (.int (jI x) :: st) M := by
  subst hn
  intro p e s m args below meth c H locs ls hC
  have hz : jR 0 := by omega
  refine lv_if_gt hC.1 hC.2.1 hd ht (fun q => kt ?_ _ _ _ _ _ _ _ _ _ _ _ hC) (fun q => kf ?_ _ _ _ _ _ _ _ _ _ _ _ hC)
  all_goals (rw [← jI_0] at q; simp only [ge_iff_le, gt_iff_lt, jI_lt hx hz, jI_lt hz hx, jI_le hx hz, jI_le hz hx, jI_eq hx hz] at q; omega)
theorem jr_ifT_gt {x : Int} {t : Nat} {off : Int} (hd : decode y.2.1 pc = .ok (.ifCond .gt off, 3)) (ht : (pc : Int) + off = (t : Int)) (hx : jR x) (h : 0 < x) (kt : jX G y R cl sl E Z t l st M) : jX G y R cl sl E Z pc l (.int (jI x) :: st) M := jr_if_gt hd ht rfl hx (fun _ => kt) (fun q => absurd q (by omega))
theorem jr_ifF_gt {x : Int} {off : Int} (hd : decode y.2.1 pc = .ok (.ifCond .gt off, 3)) (hn : n = pc + 3) {t : Nat} (ht : (pc : Int) + off = (t : Int)) (hx : jR x) (h : x ≤ 0) (kf : jX G y R cl sl E Z n l st M) : jX G y R cl sl E Z pc l (.int (jI x) :: st) M := jr_if_gt hd ht hn hx (fun q => absurd q (by omega)) (fun _ => kf)
theorem jr_icmp_le {x z : Int} {t : Nat} {off : Int} (hd : decode y.2.1 pc = .ok (.if_icmp .le off, 3)) (ht : (pc : Int) + off = (t : Int)) (hn : n = pc + 3) (hx : jR x) (hz : jR z) (kt : x ≤ z → jX G y R cl sl E Z t l st M) (kf : z < x → jX G y R cl sl E Z n l st M) : jX G y R cl sl E Z pc l (.int (jI z) :: .int (jI x) :: st) M := by
  subst hn
  intro p e s m args below meth c H locs ls hC
  refine lv_icmp_le hC.1 hC.2.1 hd ht (fun q => kt ?_ _ _ _ _ _ _ _ _ _ _ _ hC) (fun q => kf ?_ _ _ _ _ _ _ _ _ _ _ _ hC)
  all_goals (simp only [ge_iff_le, gt_iff_lt, jI_lt hx hz, jI_lt hz hx, jI_le hx hz, jI_le hz hx, jI_eq hx hz] at q; omega)
theorem jr_if_le {x : Int} {t : Nat} {off : Int} (hd : decode y.2.1 pc = .ok (.ifCond .le off, 3)) (ht : (pc : Int) + off = (t : Int)) (hn : n = pc + 3) (hx : jR x) (kt : x ≤ 0 → jX G y R cl sl E Z t l st M) (kf : 0 < x → jX G y R cl sl E Z n l st M) : jX G y R cl sl E Z pc l (.int (jI x) :: st) M := by
  subst hn
  intro p e s m args below meth c H locs ls hC
  have hz : jR 0 := by omega
  refine lv_if_le hC.1 hC.2.1 hd ht (fun q => kt ?_ _ _ _ _ _ _ _ _ _ _ _ hC) (fun q => kf ?_ _ _ _ _ _ _ _ _ _ _ _ hC)
  all_goals (rw [← jI_0] at q; simp only [ge_iff_le, gt_iff_lt, jI_lt hx hz, jI_lt hz hx, jI_le hx hz, jI_le hz hx, jI_eq hx hz] at q; omega)
theorem jr_ifT_le {x : Int} {t : Nat} {off : Int} (hd : decode y.2.1 pc = .ok (.ifCond .le off, 3)) (ht : (pc : Int) + off = (t : Int)) (hx : jR x) (h : x ≤ 0) (kt : jX G y R cl sl E Z t l st M) : jX G y R cl sl E Z pc l (.int (jI x) :: st) M := jr_if_le hd ht rfl hx (fun _ => kt) (fun q => absurd q (by omega))
theorem jr_ifF_le {x : Int} {off : Int} (hd : decode y.2.1 pc = .ok (.ifCond .le off, 3)) (hn : n = pc + 3) {t : Nat} (ht : (pc : Int) + off = (t : Int)) (hx : jR x) (h : 0 < x) (kf : jX G y R cl sl E Z n l st M) : jX G y R cl sl E Z pc l (.int (jI x) :: st) M := jr_if_le hd ht hn hx (fun q => absurd q (by omega)) (fun _ => kf)
theorem jr_goto {t : Nat} {off : Int} (hd : decode y.2.1 pc = .ok (.goto off, 3)) (ht : (pc : Int) + off = (t : Int)) (k : jX G y R cl sl E Z t l st M) : jX G y R cl sl E Z pc l st M := by
  intro p e s m args below meth c H locs ls hC
  exact lv_goto hC.1 hC.2.1 hd ht (k _ _ _ _ _ _ _ _ _ _ _ hC)
theorem jr_tabI {dflt lo hi : Int} {offs : Array Int} {len : Nat} {x off : Int} {t : Nat} (hd : decode y.2.1 pc = .ok (.tableswitch dflt lo hi offs, len)) (hx : jR x) (h1 : lo ≤ x) (h2 : x ≤ hi) (ho : offs[(x - lo).toNat]? = some off) (ht : (pc : Int) + off = (t : Int)) (k : jX G y R cl sl E Z t l st M) : jX G y R cl sl E Z pc l (.int (jI x) :: st) M := by
  intro p e s m args below meth c H locs ls hC
  exact lv_tableIn hC.1 hC.2.1 hd (by rw [jI_toInt hx]; omega) (by rw [jI_toInt hx]; omega) (by rw [jI_toInt hx]; exact ho) ht (k _ _ _ _ _ _ _ _ _ _ _ hC)
theorem jr_tabO {dflt lo hi : Int} {offs : Array Int} {len : Nat} {x : Int} {t : Nat} (hd : decode y.2.1 pc = .ok (.tableswitch dflt lo hi offs, len)) (hx : jR x) (h1 : x < lo ∨ hi < x) (ht : (pc : Int) + dflt = (t : Int)) (k : jX G y R cl sl E Z t l st M) : jX G y R cl sl E Z pc l (.int (jI x) :: st) M := by
  intro p e s m args below meth c H locs ls hC
  exact lv_tableOut hC.1 hC.2.1 hd (by rw [jI_toInt hx]; exact h1) ht (k _ _ _ _ _ _ _ _ _ _ _ hC)
theorem jr_iald {k N : Nat} {i : Int} (hd : decode y.2.1 pc = .ok (.iaload, 1)) (hn : n = pc + 1) (hk : jsh k = (0, N)) (hN : N < 1000) (h0 : 0 ≤ i) (h1 : i < N) (kk : jX G y R cl sl E Z n l (.int (jI (M k i)) :: st) M) : jX G y R cl sl E Z pc l (.int (jI i) :: .ref (jad G k) :: st) M := by
  subst hn
  intro p e s m args below meth c H locs ls hC
  have hC0 := hC
  obtain ⟨c1, c2, c3, c4, c5, c6, c7, c8, c9, c10, c11, c12⟩ := hC0
  have hkn : k < jNC := jsh_lt (by rw [hk]; exact (by decide : (0 : Nat) < 99))
  refine va_iald c1 c2 c9.1 c11.1 k 0 (by rw [jwd_get G M hkn]; unfold jcel; rw [hk]; rfl) (by rfl) (jI_in h0 h1 (by omega)) hd ?_
  have e : ((jI i).toNatClampNeg : Int) = i := by rw [jI_cl h0 (by omega)]; omega
  rw [e]
  exact kk _ _ _ _ _ _ _ _ _ _ _ hC
theorem jr_bald {k N : Nat} {i : Int} (hd : decode y.2.1 pc = .ok (.baload, 1)) (hn : n = pc + 1) (hk : jsh k = (2, N)) (hN : N < 1000) (h0 : 0 ≤ i) (h1 : i < N) (kk : jX G y R cl sl E Z n l (.int (jI (M k i)) :: st) M) : jX G y R cl sl E Z pc l (.int (jI i) :: .ref (jad G k) :: st) M := by
  subst hn
  intro p e s m args below meth c H locs ls hC
  have hC0 := hC
  obtain ⟨c1, c2, c3, c4, c5, c6, c7, c8, c9, c10, c11, c12⟩ := hC0
  have hkn : k < jNC := jsh_lt (by rw [hk]; exact (by decide : (2 : Nat) < 99))
  refine va_bald c1 c2 c9.1 c11.1 k 2 (by rw [jwd_get G M hkn]; unfold jcel; rw [hk]; rfl) (by rfl) (jI_in h0 h1 (by omega)) hd ?_
  have e : ((jI i).toNatClampNeg : Int) = i := by rw [jI_cl h0 (by omega)]; omega
  rw [e]
  exact kk _ _ _ _ _ _ _ _ _ _ _ hC
theorem jr_zald {k N : Nat} {i : Int} (hd : decode y.2.1 pc = .ok (.baload, 1)) (hn : n = pc + 1) (hk : jsh k = (3, N)) (hN : N < 1000) (h0 : 0 ≤ i) (h1 : i < N) (kk : jX G y R cl sl E Z n l (.int (jI (M k i)) :: st) M) : jX G y R cl sl E Z pc l (.int (jI i) :: .ref (jad G k) :: st) M := by
  subst hn
  intro p e s m args below meth c H locs ls hC
  have hC0 := hC
  obtain ⟨c1, c2, c3, c4, c5, c6, c7, c8, c9, c10, c11, c12⟩ := hC0
  have hkn : k < jNC := jsh_lt (by rw [hk]; exact (by decide : (3 : Nat) < 99))
  refine va_zald c1 c2 c9.1 c11.1 k 3 (by rw [jwd_get G M hkn]; unfold jcel; rw [hk]; rfl) (by rfl) (jI_in h0 h1 (by omega)) hd ?_
  have e : ((jI i).toNatClampNeg : Int) = i := by rw [jI_cl h0 (by omega)]; omega
  rw [e]
  exact kk _ _ _ _ _ _ _ _ _ _ _ hC
theorem jr_lald {k N : Nat} {i : Int} (hd : decode y.2.1 pc = .ok (.laload, 1)) (hn : n = pc + 1) (hk : jsh k = (1, N)) (hN : N < 1000) (h0 : 0 ≤ i) (h1 : i < N) (kk : jX G y R cl sl E Z n l (.long (jL (M k i)) :: st) M) : jX G y R cl sl E Z pc l (.int (jI i) :: .ref (jad G k) :: st) M := by
  subst hn
  intro p e s m args below meth c H locs ls hC
  have hC0 := hC
  obtain ⟨c1, c2, c3, c4, c5, c6, c7, c8, c9, c10, c11, c12⟩ := hC0
  have hkn : k < jNC := jsh_lt (by rw [hk]; exact (by decide : (1 : Nat) < 99))
  refine va_lald c1 c2 c9.1 c11.1 k 1 (by rw [jwd_get G M hkn]; unfold jcel; rw [hk]; rfl) (by rfl) (jI_in h0 h1 (by omega)) hd ?_
  have e : ((jI i).toNatClampNeg : Int) = i := by rw [jI_cl h0 (by omega)]; omega
  rw [e]
  exact kk _ _ _ _ _ _ _ _ _ _ _ hC
theorem jr_iast {k N : Nat} {i x : Int} (hd : decode y.2.1 pc = .ok (.iastore, 1)) (hn : n = pc + 1) (hk : jsh k = (0, N)) (hN : N < 1000) (h0 : 0 ≤ i) (h1 : i < N) (kk : jX G y R cl sl E Z n l st (jup M k i (x))) : jX G y R cl sl E Z pc l (.int (jI x) :: .int (jI i) :: .ref (jad G k) :: st) M := by
  subst hn
  intro p e s m args below meth c H locs ls hC
  obtain ⟨c1, c2, c3, c4, c5, c6, c7, c8, c9, c10, c11, c12⟩ := hC
  have hkn : k < jNC := jsh_lt (by rw [hk]; exact (by decide : (0 : Nat) < 99))
  have ex : jI x = jI (x) := rfl
  have ec : (Sum.inl (jcy G 0, N, Sum.inl (upd (fun j => jI (M k (j : Int))) (jI i).toNatClampNeg (jI x))) : va_E) = jcel G (jup M k i (x)) k := by
    unfold jcel
    rw [hk]
    have e : (jI i).toNatClampNeg = i.toNat := jI_cl h0 (by omega)
    rw [e, ex]
    have ef : ∀ j : Nat, upd (fun j => jI (M k (j : Int))) i.toNat (jI (x)) j = jI (jup M k i (x) k (j : Int)) := fun j => by
      unfold upd jup
      by_cases z : j = i.toNat
      · rw [if_pos z, if_pos ⟨rfl, by omega⟩]
      · rw [if_neg z, if_neg (fun q => z (by omega))]
    exact congrArg (fun f => (Sum.inl (jcy G 0, N, Sum.inl (f)) : va_E)) (funext ef)
  refine va_iast c1 c2 c9.1 c11.1 c11.2 c10 k 0 (by rw [jwd_get G M hkn]; unfold jcel; rw [hk]; rfl) (by rfl) (jI_in h0 h1 (by omega)) hd (fun H1 locs1 hP hD hS => ?_)
  rw [jwd_set G hkn ec (fun j hj i' => jup_ne hj i')] at hP hD
  exact kk _ _ _ _ _ _ _ _ _ _ _ ⟨c1, c2, c3, c4, c5, c6, c7, c8, c9, hS, ⟨hP, hD⟩, c12⟩
theorem jr_last {k N : Nat} {i x : Int} (hd : decode y.2.1 pc = .ok (.lastore, 1)) (hn : n = pc + 1) (hk : jsh k = (1, N)) (hN : N < 1000) (h0 : 0 ≤ i) (h1 : i < N) (kk : jX G y R cl sl E Z n l st (jup M k i (x))) : jX G y R cl sl E Z pc l (.long (jL x) :: .int (jI i) :: .ref (jad G k) :: st) M := by
  subst hn
  intro p e s m args below meth c H locs ls hC
  obtain ⟨c1, c2, c3, c4, c5, c6, c7, c8, c9, c10, c11, c12⟩ := hC
  have hkn : k < jNC := jsh_lt (by rw [hk]; exact (by decide : (1 : Nat) < 99))
  have ex : jL x = jL (x) := rfl
  have ec : (Sum.inl (jcy G 1, N, Sum.inr (Sum.inl (vp_updL (fun j => jL (M k (j : Int))) (jI i).toNatClampNeg (jL x)))) : va_E) = jcel G (jup M k i (x)) k := by
    unfold jcel
    rw [hk]
    have e : (jI i).toNatClampNeg = i.toNat := jI_cl h0 (by omega)
    rw [e, ex]
    have ef : ∀ j : Nat, vp_updL (fun j => jL (M k (j : Int))) i.toNat (jL (x)) j = jL (jup M k i (x) k (j : Int)) := fun j => by
      unfold vp_updL jup
      by_cases z : j = i.toNat
      · rw [if_pos z, if_pos ⟨rfl, by omega⟩]
      · rw [if_neg z, if_neg (fun q => z (by omega))]
    exact congrArg (fun f => (Sum.inl (jcy G 1, N, Sum.inr (Sum.inl (f))) : va_E)) (funext ef)
  refine va_last c1 c2 c9.1 c11.1 c11.2 c10 k 1 (by rw [jwd_get G M hkn]; unfold jcel; rw [hk]; rfl) (by rfl) (jI_in h0 h1 (by omega)) hd (fun H1 locs1 hP hD hS => ?_)
  rw [jwd_set G hkn ec (fun j hj i' => jup_ne hj i')] at hP hD
  exact kk _ _ _ _ _ _ _ _ _ _ _ ⟨c1, c2, c3, c4, c5, c6, c7, c8, c9, hS, ⟨hP, hD⟩, c12⟩
theorem jr_bast {k N : Nat} {i x : Int} (hd : decode y.2.1 pc = .ok (.bastore, 1)) (hn : n = pc + 1) (hk : jsh k = (2, N)) (hN : N < 1000) (h0 : 0 ≤ i) (h1 : i < N) (kk : jX G y R cl sl E Z n l st (jup M k i (jbyt x))) : jX G y R cl sl E Z pc l (.int (jI x) :: .int (jI i) :: .ref (jad G k) :: st) M := by
  subst hn
  intro p e s m args below meth c H locs ls hC
  obtain ⟨c1, c2, c3, c4, c5, c6, c7, c8, c9, c10, c11, c12⟩ := hC
  have hkn : k < jNC := jsh_lt (by rw [hk]; exact (by decide : (2 : Nat) < 99))
  have ex : vp_nar .byte (jI x) = jI (jbyt x) := (jI_of _).symm
  have ec : (Sum.inl (jcy G 2, N, Sum.inl (upd (fun j => jI (M k (j : Int))) (jI i).toNatClampNeg (vp_nar .byte (jI x)))) : va_E) = jcel G (jup M k i (jbyt x)) k := by
    unfold jcel
    rw [hk]
    have e : (jI i).toNatClampNeg = i.toNat := jI_cl h0 (by omega)
    rw [e, ex]
    have ef : ∀ j : Nat, upd (fun j => jI (M k (j : Int))) i.toNat (jI (jbyt x)) j = jI (jup M k i (jbyt x) k (j : Int)) := fun j => by
      unfold upd jup
      by_cases z : j = i.toNat
      · rw [if_pos z, if_pos ⟨rfl, by omega⟩]
      · rw [if_neg z, if_neg (fun q => z (by omega))]
    exact congrArg (fun f => (Sum.inl (jcy G 2, N, Sum.inl (f)) : va_E)) (funext ef)
  refine va_bast c1 c2 c9.1 c11.1 c11.2 c10 k 2 (by rw [jwd_get G M hkn]; unfold jcel; rw [hk]; rfl) (by rfl) (jI_in h0 h1 (by omega)) hd (fun H1 locs1 hP hD hS => ?_)
  rw [jwd_set G hkn ec (fun j hj i' => jup_ne hj i')] at hP hD
  exact kk _ _ _ _ _ _ _ _ _ _ _ ⟨c1, c2, c3, c4, c5, c6, c7, c8, c9, hS, ⟨hP, hD⟩, c12⟩
theorem jr_zast {k N : Nat} {i x : Int} (hd : decode y.2.1 pc = .ok (.bastore, 1)) (hn : n = pc + 1) (hk : jsh k = (3, N)) (hN : N < 1000) (h0 : 0 ≤ i) (h1 : i < N) (hx : x = 0 ∨ x = 1) (kk : jX G y R cl sl E Z n l st (jup M k i (x))) : jX G y R cl sl E Z pc l (.int (jI x) :: .int (jI i) :: .ref (jad G k) :: st) M := by
  subst hn
  intro p e s m args below meth c H locs ls hC
  obtain ⟨c1, c2, c3, c4, c5, c6, c7, c8, c9, c10, c11, c12⟩ := hC
  have hkn : k < jNC := jsh_lt (by rw [hk]; exact (by decide : (3 : Nat) < 99))
  have ex : vp_nar .boolean (jI x) = jI (x) := by rcases hx with h | h <;> subst h <;> rfl
  have ec : (Sum.inl (jcy G 3, N, Sum.inl (upd (fun j => jI (M k (j : Int))) (jI i).toNatClampNeg (vp_nar .boolean (jI x)))) : va_E) = jcel G (jup M k i (x)) k := by
    unfold jcel
    rw [hk]
    have e : (jI i).toNatClampNeg = i.toNat := jI_cl h0 (by omega)
    rw [e, ex]
    have ef : ∀ j : Nat, upd (fun j => jI (M k (j : Int))) i.toNat (jI (x)) j = jI (jup M k i (x) k (j : Int)) := fun j => by
      unfold upd jup
      by_cases z : j = i.toNat
      · rw [if_pos z, if_pos ⟨rfl, by omega⟩]
      · rw [if_neg z, if_neg (fun q => z (by omega))]
    exact congrArg (fun f => (Sum.inl (jcy G 3, N, Sum.inl (f)) : va_E)) (funext ef)
  refine va_zast c1 c2 c9.1 c11.1 c11.2 c10 k 3 (by rw [jwd_get G M hkn]; unfold jcel; rw [hk]; rfl) (by rfl) (jI_in h0 h1 (by omega)) hd (fun H1 locs1 hP hD hS => ?_)
  rw [jwd_set G hkn ec (fun j hj i' => jup_ne hj i')] at hP hD
  exact kk _ _ _ _ _ _ _ _ _ _ _ ⟨c1, c2, c3, c4, c5, c6, c7, c8, c9, hS, ⟨hP, hD⟩, c12⟩
theorem jr_alen {k N a : Nat} (hd : decode y.2.1 pc = .ok (.arraylength, 1)) (hn : n = pc + 1) (hk : jsh k = (a, N)) (ha : a = 0 ∨ a = 1) (kk : jX G y R cl sl E Z n l (.int (jI N) :: st) M) : jX G y R cl sl E Z pc l (.ref (jad G k) :: st) M := by
  subst hn
  intro p e s m args below meth c H locs ls hC
  have hC0 := hC
  obtain ⟨c1, c2, c3, c4, c5, c6, c7, c8, c9, c10, c11, c12⟩ := hC0
  have hkn : k < jNC := jsh_lt (by rw [hk]; show a < 99; omega)
  have ev : Int32.ofNat N = jI (N : Int) := (Int32.ofInt_eq_ofNat).symm
  rcases ha with ha | ha <;> subst ha
  · exact va_alen c1 c2 c9.1 c11.1 k 0 (by rw [jwd_get G M hkn]; unfold jcel; rw [hk]; rfl) (by rfl) ev hd (kk _ _ _ _ _ _ _ _ _ _ _ hC)
  · exact va_alen c1 c2 c9.1 c11.1 k 1 (by rw [jwd_get G M hkn]; unfold jcel; rw [hk]; rfl) (by rfl) ev hd (kk _ _ _ _ _ _ _ _ _ _ _ hC)
end JR
