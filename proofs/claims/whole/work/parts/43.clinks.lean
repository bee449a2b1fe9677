abbrev mX2_init : jMD := (yX2_init, cX2_init, 1, none)
theorem kX2_init : jMk mX2_init 0 := ⟨jgd_of (by decide +kernel) (by decide +kernel), jgd_of (by decide +kernel) (by decide +kernel), by decide +kernel, ⟨by decide +kernel, by decide +kernel, by decide +kernel⟩, by decide⟩
theorem iX2_init : Cond.instanceMethod mX2_init.1 ∈ jgd := jgd_of (by decide +kernel) (by decide +kernel)
theorem oX2_init : Cond.methodLink RX2 3 objectInit ∈ jgd := jgd_of (by decide +kernel) (by decide +kernel)
theorem nX2_init : Cond.classLink RX7 7 RX2 ∈ jgd ∧ Cond.instantiable RX2 9 ∈ jgd ∧ Cond.initialized RX2 ∈ jgd := ⟨jgd_of (by decide +kernel) (by decide +kernel), jgd_of (by decide +kernel) (by decide +kernel), jgd_of (by decide +kernel) (by decide +kernel)⟩
theorem lX2_init : jLn RX7 9 mX2_init.1 := Or.inr ⟨"CourtHouse", jns_of (by decide +kernel) (by decide +kernel)⟩
abbrev mX4_init : jMD := (yX4_init, cX4_init, 1, none)
theorem kX4_init : jMk mX4_init 0 := ⟨jgd_of (by decide +kernel) (by decide +kernel), jgd_of (by decide +kernel) (by decide +kernel), by decide +kernel, ⟨by decide +kernel, by decide +kernel, by decide +kernel⟩, by decide⟩
theorem iX4_init : Cond.instanceMethod mX4_init.1 ∈ jgd := jgd_of (by decide +kernel) (by decide +kernel)
theorem oX4_init : Cond.methodLink RX4 3 objectInit ∈ jgd := jgd_of (by decide +kernel) (by decide +kernel)
theorem nX4_init : Cond.classLink RX7 16 RX4 ∈ jgd ∧ Cond.instantiable RX4 4 ∈ jgd ∧ Cond.initialized RX4 ∈ jgd := ⟨jgd_of (by decide +kernel) (by decide +kernel), jgd_of (by decide +kernel) (by decide +kernel), jgd_of (by decide +kernel) (by decide +kernel)⟩
theorem lX4_init : jLn RX7 18 mX4_init.1 := Or.inr ⟨"CourtHouse", jns_of (by decide +kernel) (by decide +kernel)⟩
abbrev mX0_init : jMD := (yX0_init, cX0_init, 1, none)
theorem kX0_init : jMk mX0_init 0 := ⟨jgd_of (by decide +kernel) (by decide +kernel), jgd_of (by decide +kernel) (by decide +kernel), by decide +kernel, ⟨by decide +kernel, by decide +kernel, by decide +kernel⟩, by decide⟩
theorem iX0_init : Cond.instanceMethod mX0_init.1 ∈ jgd := jgd_of (by decide +kernel) (by decide +kernel)
theorem oX0_init : Cond.methodLink RX0 3 objectInit ∈ jgd := jgd_of (by decide +kernel) (by decide +kernel)
theorem nX0_init : Cond.classLink RX7 23 RX0 ∈ jgd ∧ Cond.instantiable RX0 1 ∈ jgd ∧ Cond.initialized RX0 ∈ jgd := ⟨jgd_of (by decide +kernel) (by decide +kernel), jgd_of (by decide +kernel) (by decide +kernel), jgd_of (by decide +kernel) (by decide +kernel)⟩
theorem lX0_init : jLn RX7 25 mX0_init.1 := Or.inr ⟨"CourtHouse", jns_of (by decide +kernel) (by decide +kernel)⟩
abbrev mX1_init : jMD := (yX1_init, cX1_init, 1, none)
theorem kX1_init : jMk mX1_init 0 := ⟨jgd_of (by decide +kernel) (by decide +kernel), jgd_of (by decide +kernel) (by decide +kernel), by decide +kernel, ⟨by decide +kernel, by decide +kernel, by decide +kernel⟩, by decide⟩
theorem iX1_init : Cond.instanceMethod mX1_init.1 ∈ jgd := jgd_of (by decide +kernel) (by decide +kernel)
theorem oX1_init : Cond.methodLink RX1 3 objectInit ∈ jgd := jgd_of (by decide +kernel) (by decide +kernel)
theorem nX1_init : Cond.classLink RX7 30 RX1 ∈ jgd ∧ Cond.instantiable RX1 7 ∈ jgd ∧ Cond.initialized RX1 ∈ jgd := ⟨jgd_of (by decide +kernel) (by decide +kernel), jgd_of (by decide +kernel) (by decide +kernel), jgd_of (by decide +kernel) (by decide +kernel)⟩
theorem lX1_init : jLn RX7 32 mX1_init.1 := Or.inr ⟨"CourtHouse", jns_of (by decide +kernel) (by decide +kernel)⟩
abbrev mX5_init : jMD := (yX5_init, cX5_init, 1, none)
theorem kX5_init : jMk mX5_init 0 := ⟨jgd_of (by decide +kernel) (by decide +kernel), jgd_of (by decide +kernel) (by decide +kernel), by decide +kernel, ⟨by decide +kernel, by decide +kernel, by decide +kernel⟩, by decide⟩
theorem iX5_init : Cond.instanceMethod mX5_init.1 ∈ jgd := jgd_of (by decide +kernel) (by decide +kernel)
theorem oX5_init : Cond.methodLink RX5 3 objectInit ∈ jgd := jgd_of (by decide +kernel) (by decide +kernel)
theorem nX5_init : Cond.classLink RX7 37 RX5 ∈ jgd ∧ Cond.instantiable RX5 5 ∈ jgd ∧ Cond.initialized RX5 ∈ jgd := ⟨jgd_of (by decide +kernel) (by decide +kernel), jgd_of (by decide +kernel) (by decide +kernel), jgd_of (by decide +kernel) (by decide +kernel)⟩
theorem lX5_init : jLn RX7 39 mX5_init.1 := Or.inr ⟨"CourtHouse", jns_of (by decide +kernel) (by decide +kernel)⟩
abbrev mX3_init : jMD := (yX3_init, cX3_init, 1, none)
theorem kX3_init : jMk mX3_init 0 := ⟨jgd_of (by decide +kernel) (by decide +kernel), jgd_of (by decide +kernel) (by decide +kernel), by decide +kernel, ⟨by decide +kernel, by decide +kernel, by decide +kernel⟩, by decide⟩
theorem iX3_init : Cond.instanceMethod mX3_init.1 ∈ jgd := jgd_of (by decide +kernel) (by decide +kernel)
theorem oX3_init : Cond.methodLink RX3 3 objectInit ∈ jgd := jgd_of (by decide +kernel) (by decide +kernel)
theorem nX3_init : Cond.classLink RX7 44 RX3 ∈ jgd ∧ Cond.instantiable RX3 4 ∈ jgd ∧ Cond.initialized RX3 ∈ jgd := ⟨jgd_of (by decide +kernel) (by decide +kernel), jgd_of (by decide +kernel) (by decide +kernel), jgd_of (by decide +kernel) (by decide +kernel)⟩
theorem lX3_init : jLn RX7 46 mX3_init.1 := Or.inr ⟨"CourtHouse", jns_of (by decide +kernel) (by decide +kernel)⟩
abbrev mX6_init : jMD := (yX6_init, cX6_init, 1, none)
theorem kX6_init : jMk mX6_init 0 := ⟨jgd_of (by decide +kernel) (by decide +kernel), jgd_of (by decide +kernel) (by decide +kernel), by decide +kernel, ⟨by decide +kernel, by decide +kernel, by decide +kernel⟩, by decide⟩
theorem iX6_init : Cond.instanceMethod mX6_init.1 ∈ jgd := jgd_of (by decide +kernel) (by decide +kernel)
theorem oX6_init : Cond.methodLink RX6 3 objectInit ∈ jgd := jgd_of (by decide +kernel) (by decide +kernel)
theorem nX6_init : Cond.classLink RX7 51 RX6 ∈ jgd ∧ Cond.instantiable RX6 2 ∈ jgd ∧ Cond.initialized RX6 ∈ jgd := ⟨jgd_of (by decide +kernel) (by decide +kernel), jgd_of (by decide +kernel) (by decide +kernel), jgd_of (by decide +kernel) (by decide +kernel)⟩
theorem lX6_init : jLn RX7 53 mX6_init.1 := Or.inr ⟨"CourtHouse", jns_of (by decide +kernel) (by decide +kernel)⟩
abbrev mX7_init : jMD := (yX7_init, cX7_init, 1, none)
theorem kX7_init : jMk mX7_init 0 := ⟨jgd_of (by decide +kernel) (by decide +kernel), jgd_of (by decide +kernel) (by decide +kernel), by decide +kernel, ⟨by decide +kernel, by decide +kernel, by decide +kernel⟩, by decide⟩
theorem iX7_init : Cond.instanceMethod mX7_init.1 ∈ jgd := jgd_of (by decide +kernel) (by decide +kernel)
theorem oX7_init : Cond.methodLink RX7 1 objectInit ∈ jgd := jgd_of (by decide +kernel) (by decide +kernel)
theorem nX7_init : Cond.classLink "CourtHouseLaw" 7 RX7 ∈ jgd ∧ Cond.instantiable RX7 8 ∈ jgd ∧ Cond.initialized RX7 ∈ jgd := ⟨jgd_of (by decide +kernel) (by decide +kernel), jgd_of (by decide +kernel) (by decide +kernel), jgd_of (by decide +kernel) (by decide +kernel)⟩
theorem lX7_init : jLn "CourtHouseLaw" 9 mX7_init.1 := Or.inl (jgd_of (by decide +kernel) (by decide +kernel))
abbrev mX8_init : jMD := (yX8_init, cX8_init, 1, none)
theorem kX8_init : jMk mX8_init 0 := ⟨jgd_of (by decide +kernel) (by decide +kernel), jgd_of (by decide +kernel) (by decide +kernel), by decide +kernel, ⟨by decide +kernel, by decide +kernel, by decide +kernel⟩, by decide⟩
theorem iX8_init : Cond.instanceMethod mX8_init.1 ∈ jgd := jgd_of (by decide +kernel) (by decide +kernel)
theorem oX8_init : Cond.methodLink RX8 1 objectInit ∈ jgd := jgd_of (by decide +kernel) (by decide +kernel)
theorem nX8_init : Cond.classLink "CourtHouseLaw" 10 RX8 ∈ jgd ∧ Cond.instantiable RX8 31 ∈ jgd ∧ Cond.initialized RX8 ∈ jgd := ⟨jgd_of (by decide +kernel) (by decide +kernel), jgd_of (by decide +kernel) (by decide +kernel), jgd_of (by decide +kernel) (by decide +kernel)⟩
theorem lX8_init : jLn "CourtHouseLaw" 12 mX8_init.1 := Or.inl (jgd_of (by decide +kernel) (by decide +kernel))
theorem job : Cond.instanceMethod objectInit ∈ jgd ∧ Cond.code objectInit ⟨#[0xb1]⟩ 1 none ∈ jgd := ⟨jgd_of (by decide +kernel) (by decide +kernel), jgd_of (by decide +kernel) (by decide +kernel)⟩
theorem jar_int : Cond.arrayClass .int ∈ jgd := jgd_of (by decide +kernel) (by decide +kernel)
theorem jar_long : Cond.arrayClass .long ∈ jgd := jgd_of (by decide +kernel) (by decide +kernel)
theorem jar_byte : Cond.arrayClass .byte ∈ jgd := jgd_of (by decide +kernel) (by decide +kernel)
theorem jar_boolean : Cond.arrayClass .boolean ∈ jgd := jgd_of (by decide +kernel) (by decide +kernel)
def jFF (own : String) (idx ci k : Nat) : Prop := ∃ q : vw_C, jcls[ci]? = some q ∧ k < q.2.2 ∧ (∀ w ∈ u_ws q.1 q.2.1 q.2.2, w ∈ jgd) ∧ Cond.fieldLink own idx (q.2.1 k).1 (q.2.1 k).2.1 (q.2.1 k).2.2.1 ∈ jgd ∧ ((q.2.1 k).2.2.2 = true ∧ (q.2.1 k).1 = own) ∧ (∃ ty : Nat → FieldType, ∀ k, k < q.2.2 → parseFieldDescriptor (q.2.1 k).2.2.1 = some (ty k)) ∧ (∀ a, a < q.2.2 → ∀ b, b < q.2.2 → a ≠ b → (q.2.1 a).2.1 ≠ (q.2.1 b).2.1) ∧ ∃ ft : FieldType, parseFieldDescriptor (q.2.1 k).2.2.1 = some ft ∧ ∀ a : Nat, narrow ft (.ref a) = .ref a ∧ fits ft (.ref a) = true
theorem pX2_9 : jFF RX2 9 2 0 := ⟨_, rfl, by decide, jin_X2, jgd_of (by decide +kernel) (by decide +kernel), ⟨rfl, rfl⟩, ⟨tyX2, tyX2_ok⟩, nmX2, _, tyX2_ok 0 (by decide), fun _ => ⟨rfl, rfl⟩⟩
theorem pX2_15 : jFF RX2 15 2 1 := ⟨_, rfl, by decide, jin_X2, jgd_of (by decide +kernel) (by decide +kernel), ⟨rfl, rfl⟩, ⟨tyX2, tyX2_ok⟩, nmX2, _, tyX2_ok 1 (by decide), fun _ => ⟨rfl, rfl⟩⟩
theorem pX2_18 : jFF RX2 18 2 2 := ⟨_, rfl, by decide, jin_X2, jgd_of (by decide +kernel) (by decide +kernel), ⟨rfl, rfl⟩, ⟨tyX2, tyX2_ok⟩, nmX2, _, tyX2_ok 2 (by decide), fun _ => ⟨rfl, rfl⟩⟩
theorem pX2_21 : jFF RX2 21 2 3 := ⟨_, rfl, by decide, jin_X2, jgd_of (by decide +kernel) (by decide +kernel), ⟨rfl, rfl⟩, ⟨tyX2, tyX2_ok⟩, nmX2, _, tyX2_ok 3 (by decide), fun _ => ⟨rfl, rfl⟩⟩
theorem pX2_24 : jFF RX2 24 2 4 := ⟨_, rfl, by decide, jin_X2, jgd_of (by decide +kernel) (by decide +kernel), ⟨rfl, rfl⟩, ⟨tyX2, tyX2_ok⟩, nmX2, _, tyX2_ok 4 (by decide), fun _ => ⟨rfl, rfl⟩⟩
theorem pX2_27 : jFF RX2 27 2 5 := ⟨_, rfl, by decide, jin_X2, jgd_of (by decide +kernel) (by decide +kernel), ⟨rfl, rfl⟩, ⟨tyX2, tyX2_ok⟩, nmX2, _, tyX2_ok 5 (by decide), fun _ => ⟨rfl, rfl⟩⟩
theorem pX2_30 : jFF RX2 30 2 6 := ⟨_, rfl, by decide, jin_X2, jgd_of (by decide +kernel) (by decide +kernel), ⟨rfl, rfl⟩, ⟨tyX2, tyX2_ok⟩, nmX2, _, tyX2_ok 6 (by decide), fun _ => ⟨rfl, rfl⟩⟩
theorem pX2_33 : jFF RX2 33 2 7 := ⟨_, rfl, by decide, jin_X2, jgd_of (by decide +kernel) (by decide +kernel), ⟨rfl, rfl⟩, ⟨tyX2, tyX2_ok⟩, nmX2, _, tyX2_ok 7 (by decide), fun _ => ⟨rfl, rfl⟩⟩
theorem pX4_9 : jFF RX4 9 4 0 := ⟨_, rfl, by decide, jin_X4, jgd_of (by decide +kernel) (by decide +kernel), ⟨rfl, rfl⟩, ⟨tyX4, tyX4_ok⟩, nmX4, _, tyX4_ok 0 (by decide), fun _ => ⟨rfl, rfl⟩⟩
theorem pX4_15 : jFF RX4 15 4 1 := ⟨_, rfl, by decide, jin_X4, jgd_of (by decide +kernel) (by decide +kernel), ⟨rfl, rfl⟩, ⟨tyX4, tyX4_ok⟩, nmX4, _, tyX4_ok 1 (by decide), fun _ => ⟨rfl, rfl⟩⟩
theorem pX4_18 : jFF RX4 18 4 2 := ⟨_, rfl, by decide, jin_X4, jgd_of (by decide +kernel) (by decide +kernel), ⟨rfl, rfl⟩, ⟨tyX4, tyX4_ok⟩, nmX4, _, tyX4_ok 2 (by decide), fun _ => ⟨rfl, rfl⟩⟩
theorem pX0_9 : jFF RX0 9 0 0 := ⟨_, rfl, by decide, jin_X0, jgd_of (by decide +kernel) (by decide +kernel), ⟨rfl, rfl⟩, ⟨tyX0, tyX0_ok⟩, nmX0, _, tyX0_ok 0 (by decide), fun _ => ⟨rfl, rfl⟩⟩
theorem pX1_9 : jFF RX1 9 1 0 := ⟨_, rfl, by decide, jin_X1, jgd_of (by decide +kernel) (by decide +kernel), ⟨rfl, rfl⟩, ⟨tyX1, tyX1_ok⟩, nmX1, _, tyX1_ok 0 (by decide), fun _ => ⟨rfl, rfl⟩⟩
theorem pX1_15 : jFF RX1 15 1 1 := ⟨_, rfl, by decide, jin_X1, jgd_of (by decide +kernel) (by decide +kernel), ⟨rfl, rfl⟩, ⟨tyX1, tyX1_ok⟩, nmX1, _, tyX1_ok 1 (by decide), fun _ => ⟨rfl, rfl⟩⟩
theorem pX1_18 : jFF RX1 18 1 2 := ⟨_, rfl, by decide, jin_X1, jgd_of (by decide +kernel) (by decide +kernel), ⟨rfl, rfl⟩, ⟨tyX1, tyX1_ok⟩, nmX1, _, tyX1_ok 2 (by decide), fun _ => ⟨rfl, rfl⟩⟩
theorem pX1_21 : jFF RX1 21 1 3 := ⟨_, rfl, by decide, jin_X1, jgd_of (by decide +kernel) (by decide +kernel), ⟨rfl, rfl⟩, ⟨tyX1, tyX1_ok⟩, nmX1, _, tyX1_ok 3 (by decide), fun _ => ⟨rfl, rfl⟩⟩
theorem pX1_24 : jFF RX1 24 1 4 := ⟨_, rfl, by decide, jin_X1, jgd_of (by decide +kernel) (by decide +kernel), ⟨rfl, rfl⟩, ⟨tyX1, tyX1_ok⟩, nmX1, _, tyX1_ok 4 (by decide), fun _ => ⟨rfl, rfl⟩⟩
theorem pX1_27 : jFF RX1 27 1 5 := ⟨_, rfl, by decide, jin_X1, jgd_of (by decide +kernel) (by decide +kernel), ⟨rfl, rfl⟩, ⟨tyX1, tyX1_ok⟩, nmX1, _, tyX1_ok 5 (by decide), fun _ => ⟨rfl, rfl⟩⟩
theorem pX5_9 : jFF RX5 9 5 0 := ⟨_, rfl, by decide, jin_X5, jgd_of (by decide +kernel) (by decide +kernel), ⟨rfl, rfl⟩, ⟨tyX5, tyX5_ok⟩, nmX5, _, tyX5_ok 0 (by decide), fun _ => ⟨rfl, rfl⟩⟩
theorem pX5_15 : jFF RX5 15 5 1 := ⟨_, rfl, by decide, jin_X5, jgd_of (by decide +kernel) (by decide +kernel), ⟨rfl, rfl⟩, ⟨tyX5, tyX5_ok⟩, nmX5, _, tyX5_ok 1 (by decide), fun _ => ⟨rfl, rfl⟩⟩
theorem pX5_18 : jFF RX5 18 5 2 := ⟨_, rfl, by decide, jin_X5, jgd_of (by decide +kernel) (by decide +kernel), ⟨rfl, rfl⟩, ⟨tyX5, tyX5_ok⟩, nmX5, _, tyX5_ok 2 (by decide), fun _ => ⟨rfl, rfl⟩⟩
theorem pX5_21 : jFF RX5 21 5 3 := ⟨_, rfl, by decide, jin_X5, jgd_of (by decide +kernel) (by decide +kernel), ⟨rfl, rfl⟩, ⟨tyX5, tyX5_ok⟩, nmX5, _, tyX5_ok 3 (by decide), fun _ => ⟨rfl, rfl⟩⟩
theorem pX5_24 : jFF RX5 24 5 4 := ⟨_, rfl, by decide, jin_X5, jgd_of (by decide +kernel) (by decide +kernel), ⟨rfl, rfl⟩, ⟨tyX5, tyX5_ok⟩, nmX5, _, tyX5_ok 4 (by decide), fun _ => ⟨rfl, rfl⟩⟩
theorem pX3_9 : jFF RX3 9 3 0 := ⟨_, rfl, by decide, jin_X3, jgd_of (by decide +kernel) (by decide +kernel), ⟨rfl, rfl⟩, ⟨tyX3, tyX3_ok⟩, nmX3, _, tyX3_ok 0 (by decide), fun _ => ⟨rfl, rfl⟩⟩
theorem pX3_15 : jFF RX3 15 3 1 := ⟨_, rfl, by decide, jin_X3, jgd_of (by decide +kernel) (by decide +kernel), ⟨rfl, rfl⟩, ⟨tyX3, tyX3_ok⟩, nmX3, _, tyX3_ok 1 (by decide), fun _ => ⟨rfl, rfl⟩⟩
theorem pX3_18 : jFF RX3 18 3 2 := ⟨_, rfl, by decide, jin_X3, jgd_of (by decide +kernel) (by decide +kernel), ⟨rfl, rfl⟩, ⟨tyX3, tyX3_ok⟩, nmX3, _, tyX3_ok 2 (by decide), fun _ => ⟨rfl, rfl⟩⟩
theorem pX6_9 : jFF RX6 9 6 0 := ⟨_, rfl, by decide, jin_X6, jgd_of (by decide +kernel) (by decide +kernel), ⟨rfl, rfl⟩, ⟨tyX6, tyX6_ok⟩, nmX6, _, tyX6_ok 0 (by decide), fun _ => ⟨rfl, rfl⟩⟩
theorem pX6_15 : jFF RX6 15 6 1 := ⟨_, rfl, by decide, jin_X6, jgd_of (by decide +kernel) (by decide +kernel), ⟨rfl, rfl⟩, ⟨tyX6, tyX6_ok⟩, nmX6, _, tyX6_ok 1 (by decide), fun _ => ⟨rfl, rfl⟩⟩
theorem pX7_10 : jFF RX7 10 7 0 := ⟨_, rfl, by decide, jin_X7, jgd_of (by decide +kernel) (by decide +kernel), ⟨rfl, rfl⟩, ⟨tyX7, tyX7_ok⟩, nmX7, _, tyX7_ok 0 (by decide), fun _ => ⟨rfl, rfl⟩⟩
theorem pX7_19 : jFF RX7 19 7 1 := ⟨_, rfl, by decide, jin_X7, jgd_of (by decide +kernel) (by decide +kernel), ⟨rfl, rfl⟩, ⟨tyX7, tyX7_ok⟩, nmX7, _, tyX7_ok 1 (by decide), fun _ => ⟨rfl, rfl⟩⟩
theorem pX7_26 : jFF RX7 26 7 2 := ⟨_, rfl, by decide, jin_X7, jgd_of (by decide +kernel) (by decide +kernel), ⟨rfl, rfl⟩, ⟨tyX7, tyX7_ok⟩, nmX7, _, tyX7_ok 2 (by decide), fun _ => ⟨rfl, rfl⟩⟩
theorem pX7_33 : jFF RX7 33 7 3 := ⟨_, rfl, by decide, jin_X7, jgd_of (by decide +kernel) (by decide +kernel), ⟨rfl, rfl⟩, ⟨tyX7, tyX7_ok⟩, nmX7, _, tyX7_ok 3 (by decide), fun _ => ⟨rfl, rfl⟩⟩
theorem pX7_40 : jFF RX7 40 7 4 := ⟨_, rfl, by decide, jin_X7, jgd_of (by decide +kernel) (by decide +kernel), ⟨rfl, rfl⟩, ⟨tyX7, tyX7_ok⟩, nmX7, _, tyX7_ok 4 (by decide), fun _ => ⟨rfl, rfl⟩⟩
theorem pX7_47 : jFF RX7 47 7 5 := ⟨_, rfl, by decide, jin_X7, jgd_of (by decide +kernel) (by decide +kernel), ⟨rfl, rfl⟩, ⟨tyX7, tyX7_ok⟩, nmX7, _, tyX7_ok 5 (by decide), fun _ => ⟨rfl, rfl⟩⟩
theorem pX7_54 : jFF RX7 54 7 6 := ⟨_, rfl, by decide, jin_X7, jgd_of (by decide +kernel) (by decide +kernel), ⟨rfl, rfl⟩, ⟨tyX7, tyX7_ok⟩, nmX7, _, tyX7_ok 6 (by decide), fun _ => ⟨rfl, rfl⟩⟩
theorem pX7_58 : jFF RX7 58 7 7 := ⟨_, rfl, by decide, jin_X7, jgd_of (by decide +kernel) (by decide +kernel), ⟨rfl, rfl⟩, ⟨tyX7, tyX7_ok⟩, nmX7, _, tyX7_ok 7 (by decide), fun _ => ⟨rfl, rfl⟩⟩
theorem pX8_7 : jFF RX8 7 8 0 := ⟨_, rfl, by decide, jin_X8, jgd_of (by decide +kernel) (by decide +kernel), ⟨rfl, rfl⟩, ⟨tyX8, tyX8_ok⟩, nmX8, _, tyX8_ok 0 (by decide), fun _ => ⟨rfl, rfl⟩⟩
theorem pX8_13 : jFF RX8 13 8 1 := ⟨_, rfl, by decide, jin_X8, jgd_of (by decide +kernel) (by decide +kernel), ⟨rfl, rfl⟩, ⟨tyX8, tyX8_ok⟩, nmX8, _, tyX8_ok 1 (by decide), fun _ => ⟨rfl, rfl⟩⟩
theorem pX8_16 : jFF RX8 16 8 3 := ⟨_, rfl, by decide, jin_X8, jgd_of (by decide +kernel) (by decide +kernel), ⟨rfl, rfl⟩, ⟨tyX8, tyX8_ok⟩, nmX8, _, tyX8_ok 3 (by decide), fun _ => ⟨rfl, rfl⟩⟩
theorem pX8_19 : jFF RX8 19 8 4 := ⟨_, rfl, by decide, jin_X8, jgd_of (by decide +kernel) (by decide +kernel), ⟨rfl, rfl⟩, ⟨tyX8, tyX8_ok⟩, nmX8, _, tyX8_ok 4 (by decide), fun _ => ⟨rfl, rfl⟩⟩
theorem pX8_22 : jFF RX8 22 8 5 := ⟨_, rfl, by decide, jin_X8, jgd_of (by decide +kernel) (by decide +kernel), ⟨rfl, rfl⟩, ⟨tyX8, tyX8_ok⟩, nmX8, _, tyX8_ok 5 (by decide), fun _ => ⟨rfl, rfl⟩⟩
theorem pX8_25 : jFF RX8 25 8 6 := ⟨_, rfl, by decide, jin_X8, jgd_of (by decide +kernel) (by decide +kernel), ⟨rfl, rfl⟩, ⟨tyX8, tyX8_ok⟩, nmX8, _, tyX8_ok 6 (by decide), fun _ => ⟨rfl, rfl⟩⟩
theorem pX8_28 : jFF RX8 28 8 7 := ⟨_, rfl, by decide, jin_X8, jgd_of (by decide +kernel) (by decide +kernel), ⟨rfl, rfl⟩, ⟨tyX8, tyX8_ok⟩, nmX8, _, tyX8_ok 7 (by decide), fun _ => ⟨rfl, rfl⟩⟩
theorem pX8_31 : jFF RX8 31 8 9 := ⟨_, rfl, by decide, jin_X8, jgd_of (by decide +kernel) (by decide +kernel), ⟨rfl, rfl⟩, ⟨tyX8, tyX8_ok⟩, nmX8, _, tyX8_ok 9 (by decide), fun _ => ⟨rfl, rfl⟩⟩
theorem pX8_34 : jFF RX8 34 8 10 := ⟨_, rfl, by decide, jin_X8, jgd_of (by decide +kernel) (by decide +kernel), ⟨rfl, rfl⟩, ⟨tyX8, tyX8_ok⟩, nmX8, _, tyX8_ok 10 (by decide), fun _ => ⟨rfl, rfl⟩⟩
theorem pX8_37 : jFF RX8 37 8 11 := ⟨_, rfl, by decide, jin_X8, jgd_of (by decide +kernel) (by decide +kernel), ⟨rfl, rfl⟩, ⟨tyX8, tyX8_ok⟩, nmX8, _, tyX8_ok 11 (by decide), fun _ => ⟨rfl, rfl⟩⟩
theorem pX8_40 : jFF RX8 40 8 12 := ⟨_, rfl, by decide, jin_X8, jgd_of (by decide +kernel) (by decide +kernel), ⟨rfl, rfl⟩, ⟨tyX8, tyX8_ok⟩, nmX8, _, tyX8_ok 12 (by decide), fun _ => ⟨rfl, rfl⟩⟩
theorem pX8_43 : jFF RX8 43 8 13 := ⟨_, rfl, by decide, jin_X8, jgd_of (by decide +kernel) (by decide +kernel), ⟨rfl, rfl⟩, ⟨tyX8, tyX8_ok⟩, nmX8, _, tyX8_ok 13 (by decide), fun _ => ⟨rfl, rfl⟩⟩
theorem pX8_46 : jFF RX8 46 8 15 := ⟨_, rfl, by decide, jin_X8, jgd_of (by decide +kernel) (by decide +kernel), ⟨rfl, rfl⟩, ⟨tyX8, tyX8_ok⟩, nmX8, _, tyX8_ok 15 (by decide), fun _ => ⟨rfl, rfl⟩⟩
theorem pX8_49 : jFF RX8 49 8 16 := ⟨_, rfl, by decide, jin_X8, jgd_of (by decide +kernel) (by decide +kernel), ⟨rfl, rfl⟩, ⟨tyX8, tyX8_ok⟩, nmX8, _, tyX8_ok 16 (by decide), fun _ => ⟨rfl, rfl⟩⟩
theorem pX8_52 : jFF RX8 52 8 17 := ⟨_, rfl, by decide, jin_X8, jgd_of (by decide +kernel) (by decide +kernel), ⟨rfl, rfl⟩, ⟨tyX8, tyX8_ok⟩, nmX8, _, tyX8_ok 17 (by decide), fun _ => ⟨rfl, rfl⟩⟩
theorem pX8_55 : jFF RX8 55 8 18 := ⟨_, rfl, by decide, jin_X8, jgd_of (by decide +kernel) (by decide +kernel), ⟨rfl, rfl⟩, ⟨tyX8, tyX8_ok⟩, nmX8, _, tyX8_ok 18 (by decide), fun _ => ⟨rfl, rfl⟩⟩
theorem pX8_58 : jFF RX8 58 8 19 := ⟨_, rfl, by decide, jin_X8, jgd_of (by decide +kernel) (by decide +kernel), ⟨rfl, rfl⟩, ⟨tyX8, tyX8_ok⟩, nmX8, _, tyX8_ok 19 (by decide), fun _ => ⟨rfl, rfl⟩⟩
theorem pX8_61 : jFF RX8 61 8 20 := ⟨_, rfl, by decide, jin_X8, jgd_of (by decide +kernel) (by decide +kernel), ⟨rfl, rfl⟩, ⟨tyX8, tyX8_ok⟩, nmX8, _, tyX8_ok 20 (by decide), fun _ => ⟨rfl, rfl⟩⟩
theorem pX8_65 : jFF RX8 65 8 21 := ⟨_, rfl, by decide, jin_X8, jgd_of (by decide +kernel) (by decide +kernel), ⟨rfl, rfl⟩, ⟨tyX8, tyX8_ok⟩, nmX8, _, tyX8_ok 21 (by decide), fun _ => ⟨rfl, rfl⟩⟩
theorem pX8_68 : jFF RX8 68 8 22 := ⟨_, rfl, by decide, jin_X8, jgd_of (by decide +kernel) (by decide +kernel), ⟨rfl, rfl⟩, ⟨tyX8, tyX8_ok⟩, nmX8, _, tyX8_ok 22 (by decide), fun _ => ⟨rfl, rfl⟩⟩
theorem pX8_71 : jFF RX8 71 8 23 := ⟨_, rfl, by decide, jin_X8, jgd_of (by decide +kernel) (by decide +kernel), ⟨rfl, rfl⟩, ⟨tyX8, tyX8_ok⟩, nmX8, _, tyX8_ok 23 (by decide), fun _ => ⟨rfl, rfl⟩⟩
theorem pX8_74 : jFF RX8 74 8 24 := ⟨_, rfl, by decide, jin_X8, jgd_of (by decide +kernel) (by decide +kernel), ⟨rfl, rfl⟩, ⟨tyX8, tyX8_ok⟩, nmX8, _, tyX8_ok 24 (by decide), fun _ => ⟨rfl, rfl⟩⟩
theorem pX8_77 : jFF RX8 77 8 25 := ⟨_, rfl, by decide, jin_X8, jgd_of (by decide +kernel) (by decide +kernel), ⟨rfl, rfl⟩, ⟨tyX8, tyX8_ok⟩, nmX8, _, tyX8_ok 25 (by decide), fun _ => ⟨rfl, rfl⟩⟩
theorem pX8_80 : jFF RX8 80 8 27 := ⟨_, rfl, by decide, jin_X8, jgd_of (by decide +kernel) (by decide +kernel), ⟨rfl, rfl⟩, ⟨tyX8, tyX8_ok⟩, nmX8, _, tyX8_ok 27 (by decide), fun _ => ⟨rfl, rfl⟩⟩
theorem pX8_83 : jFF RX8 83 8 28 := ⟨_, rfl, by decide, jin_X8, jgd_of (by decide +kernel) (by decide +kernel), ⟨rfl, rfl⟩, ⟨tyX8, tyX8_ok⟩, nmX8, _, tyX8_ok 28 (by decide), fun _ => ⟨rfl, rfl⟩⟩
theorem pX8_86 : jFF RX8 86 8 29 := ⟨_, rfl, by decide, jin_X8, jgd_of (by decide +kernel) (by decide +kernel), ⟨rfl, rfl⟩, ⟨tyX8, tyX8_ok⟩, nmX8, _, tyX8_ok 29 (by decide), fun _ => ⟨rfl, rfl⟩⟩
theorem pX8_89 : jFF RX8 89 8 30 := ⟨_, rfl, by decide, jin_X8, jgd_of (by decide +kernel) (by decide +kernel), ⟨rfl, rfl⟩, ⟨tyX8, tyX8_ok⟩, nmX8, _, tyX8_ok 30 (by decide), fun _ => ⟨rfl, rfl⟩⟩
theorem lL_13 : jLn "CourtHouseLaw" 13 mX7_newCase.1 := Or.inl (jgd_of (by decide +kernel) (by decide +kernel))
theorem lL_17 : jLn "CourtHouseLaw" 17 mX8_newCase.1 := Or.inl (jgd_of (by decide +kernel) (by decide +kernel))
theorem lL_18 : jLn "CourtHouseLaw" 18 mX7_witness.1 := Or.inl (jgd_of (by decide +kernel) (by decide +kernel))
theorem lL_22 : jLn "CourtHouseLaw" 22 mX8_witness.1 := Or.inl (jgd_of (by decide +kernel) (by decide +kernel))
theorem lL_23 : jLn "CourtHouseLaw" 23 mX7_isOf.1 := Or.inl (jgd_of (by decide +kernel) (by decide +kernel))
theorem lL_26 : jLn "CourtHouseLaw" 26 mX8_isOf.1 := Or.inl (jgd_of (by decide +kernel) (by decide +kernel))
theorem lL_27 : jLn "CourtHouseLaw" 27 mX7_needs.1 := Or.inl (jgd_of (by decide +kernel) (by decide +kernel))
theorem lL_30 : jLn "CourtHouseLaw" 30 mX8_needs.1 := Or.inl (jgd_of (by decide +kernel) (by decide +kernel))
theorem lL_31 : jLn "CourtHouseLaw" 31 mX7_fold.1 := Or.inl (jgd_of (by decide +kernel) (by decide +kernel))
theorem lL_34 : jLn "CourtHouseLaw" 34 mX8_fold.1 := Or.inl (jgd_of (by decide +kernel) (by decide +kernel))
theorem lL_35 : jLn "CourtHouseLaw" 35 mX7_told.1 := Or.inl (jgd_of (by decide +kernel) (by decide +kernel))
theorem lL_38 : jLn "CourtHouseLaw" 38 mX8_told.1 := Or.inl (jgd_of (by decide +kernel) (by decide +kernel))
theorem lL_39 : jLn "CourtHouseLaw" 39 mX7_inList.1 := Or.inl (jgd_of (by decide +kernel) (by decide +kernel))
theorem lL_42 : jLn "CourtHouseLaw" 42 mX8_inList.1 := Or.inl (jgd_of (by decide +kernel) (by decide +kernel))
theorem lL_43 : jLn "CourtHouseLaw" 43 mX7_rule.1 := Or.inl (jgd_of (by decide +kernel) (by decide +kernel))
theorem lL_46 : jLn "CourtHouseLaw" 46 mX8_rule.1 := Or.inl (jgd_of (by decide +kernel) (by decide +kernel))
theorem lL_47 : jLn "CourtHouseLaw" 47 mX7_weight.1 := Or.inl (jgd_of (by decide +kernel) (by decide +kernel))
theorem lL_50 : jLn "CourtHouseLaw" 50 mX8_weight.1 := Or.inl (jgd_of (by decide +kernel) (by decide +kernel))
theorem lL_51 : jLn "CourtHouseLaw" 51 mX7_cost.1 := Or.inl (jgd_of (by decide +kernel) (by decide +kernel))
theorem lL_54 : jLn "CourtHouseLaw" 54 mX8_cost.1 := Or.inl (jgd_of (by decide +kernel) (by decide +kernel))
theorem lL_55 : jLn "CourtHouseLaw" 55 mX7_best.1 := Or.inl (jgd_of (by decide +kernel) (by decide +kernel))
theorem lL_59 : jLn "CourtHouseLaw" 59 mX8_best.1 := Or.inl (jgd_of (by decide +kernel) (by decide +kernel))
theorem lL_60 : jLn "CourtHouseLaw" 60 mX7_call.1 := Or.inl (jgd_of (by decide +kernel) (by decide +kernel))
theorem lL_63 : jLn "CourtHouseLaw" 63 mX8_call.1 := Or.inl (jgd_of (by decide +kernel) (by decide +kernel))
theorem lL_64 : jLn "CourtHouseLaw" 64 mX7_called.1 := Or.inl (jgd_of (by decide +kernel) (by decide +kernel))
theorem lL_67 : jLn "CourtHouseLaw" 67 mX8_called.1 := Or.inl (jgd_of (by decide +kernel) (by decide +kernel))
theorem lL_68 : jLn "CourtHouseLaw" 68 mX7_plan.1 := Or.inl (jgd_of (by decide +kernel) (by decide +kernel))
theorem lL_71 : jLn "CourtHouseLaw" 71 mX8_plan.1 := Or.inl (jgd_of (by decide +kernel) (by decide +kernel))
theorem lL_72 : jLn "CourtHouseLaw" 72 mX7_fate.1 := Or.inl (jgd_of (by decide +kernel) (by decide +kernel))
theorem lL_75 : jLn "CourtHouseLaw" 75 mX8_fate.1 := Or.inl (jgd_of (by decide +kernel) (by decide +kernel))
theorem lL_76 : jLn "CourtHouseLaw" 76 mX7_begins.1 := Or.inl (jgd_of (by decide +kernel) (by decide +kernel))
theorem lL_79 : jLn "CourtHouseLaw" 79 mX8_begins.1 := Or.inl (jgd_of (by decide +kernel) (by decide +kernel))
theorem lL_80 : jLn "CourtHouseLaw" 80 mX7_waited.1 := Or.inl (jgd_of (by decide +kernel) (by decide +kernel))
theorem lL_83 : jLn "CourtHouseLaw" 83 mX8_waited.1 := Or.inl (jgd_of (by decide +kernel) (by decide +kernel))
theorem lL_84 : jLn "CourtHouseLaw" 84 mX7_idle.1 := Or.inl (jgd_of (by decide +kernel) (by decide +kernel))
theorem lL_87 : jLn "CourtHouseLaw" 87 mX8_idle.1 := Or.inl (jgd_of (by decide +kernel) (by decide +kernel))
theorem lL_88 : jLn "CourtHouseLaw" 88 mX7_waits.1 := Or.inl (jgd_of (by decide +kernel) (by decide +kernel))
theorem lL_92 : jLn "CourtHouseLaw" 92 mX8_waits.1 := Or.inl (jgd_of (by decide +kernel) (by decide +kernel))
theorem lL_93 : jLn "CourtHouseLaw" 93 mX7_pay.1 := Or.inl (jgd_of (by decide +kernel) (by decide +kernel))
theorem lL_96 : jLn "CourtHouseLaw" 96 mX8_pay.1 := Or.inl (jgd_of (by decide +kernel) (by decide +kernel))
theorem lL_97 : jLn "CourtHouseLaw" 97 mX7_apart.1 := Or.inl (jgd_of (by decide +kernel) (by decide +kernel))
theorem lL_100 : jLn "CourtHouseLaw" 100 mX8_apart.1 := Or.inl (jgd_of (by decide +kernel) (by decide +kernel))
theorem lL_101 : jLn "CourtHouseLaw" 101 mX7_room.1 := Or.inl (jgd_of (by decide +kernel) (by decide +kernel))
theorem lL_104 : jLn "CourtHouseLaw" 104 mX8_room.1 := Or.inl (jgd_of (by decide +kernel) (by decide +kernel))
theorem lL_105 : jLn "CourtHouseLaw" 105 mX7_move.1 := Or.inl (jgd_of (by decide +kernel) (by decide +kernel))
theorem lL_108 : jLn "CourtHouseLaw" 108 mX8_move.1 := Or.inl (jgd_of (by decide +kernel) (by decide +kernel))
theorem lL_109 : jLn "CourtHouseLaw" 109 mX7_notice.1 := Or.inl (jgd_of (by decide +kernel) (by decide +kernel))
theorem lL_112 : jLn "CourtHouseLaw" 112 mX8_notice.1 := Or.inl (jgd_of (by decide +kernel) (by decide +kernel))
theorem lL_113 : jLn "CourtHouseLaw" 113 mX7_read.1 := Or.inl (jgd_of (by decide +kernel) (by decide +kernel))
theorem lL_116 : jLn "CourtHouseLaw" 116 mX8_read.1 := Or.inl (jgd_of (by decide +kernel) (by decide +kernel))
theorem lL_117 : jLn "CourtHouseLaw" 117 mX7_sheet.1 := Or.inl (jgd_of (by decide +kernel) (by decide +kernel))
theorem lL_120 : jLn "CourtHouseLaw" 120 mX8_sheet.1 := Or.inl (jgd_of (by decide +kernel) (by decide +kernel))
theorem lL_121 : jLn "CourtHouseLaw" 121 mX7_mark.1 := Or.inl (jgd_of (by decide +kernel) (by decide +kernel))
theorem lL_124 : jLn "CourtHouseLaw" 124 mX8_mark.1 := Or.inl (jgd_of (by decide +kernel) (by decide +kernel))
theorem lL_125 : jLn "CourtHouseLaw" 125 mX7_copy.1 := Or.inl (jgd_of (by decide +kernel) (by decide +kernel))
theorem lL_129 : jLn "CourtHouseLaw" 129 mX8_copy.1 := Or.inl (jgd_of (by decide +kernel) (by decide +kernel))
theorem lL_130 : jLn "CourtHouseLaw" 130 mX7_take.1 := Or.inl (jgd_of (by decide +kernel) (by decide +kernel))
theorem lL_133 : jLn "CourtHouseLaw" 133 mX8_take.1 := Or.inl (jgd_of (by decide +kernel) (by decide +kernel))
theorem lL_134 : jLn "CourtHouseLaw" 134 mX7_count.1 := Or.inl (jgd_of (by decide +kernel) (by decide +kernel))
theorem lL_137 : jLn "CourtHouseLaw" 137 mX8_count.1 := Or.inl (jgd_of (by decide +kernel) (by decide +kernel))
theorem jls_RULE_LEAST : Cond.laysStatic "CourtHouse" "RULE_LEAST" "[I" ∈ lw_tbl := by decide +kernel
theorem jls_RULE_MOST : Cond.laysStatic "CourtHouse" "RULE_MOST" "[I" ∈ lw_tbl := by decide +kernel
theorem jls_COUNTS_FOR : Cond.laysStatic "CourtHouse" "COUNTS_FOR" "[I" ∈ lw_tbl := by decide +kernel
