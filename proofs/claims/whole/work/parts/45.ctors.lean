def wX2 (cy : Nat → ClassId) (h : Nat) (q : Nat → Nat) : va_W := [(h, .inr (2, [.ref (q 0), .ref (q 1), .ref (q 2), .ref (q 3), .ref (q 4), .ref (q 5), .ref (q 6), .ref (q 7), .int (jI 0)])), (q 0, jci (cy 0) 12 jz), (q 1, jci (cy 0) 12 jz), (q 2, jci (cy 0) 12 jz), (q 3, jci (cy 0) 12 jz), (q 4, jci (cy 0) 12 jz), (q 5, jci (cy 0) 120 jz), (q 6, jci (cy 0) 18 jz), (q 7, jci (cy 0) 3 jz)]
def wX4 (cy : Nat → ClassId) (h : Nat) (q : Nat → Nat) : va_W := [(h, .inr (4, [.ref (q 0), .ref (q 1), .ref (q 2), .int (jI 0)])), (q 0, jci (cy 0) 10 jz), (q 1, jci (cy 0) 10 jz), (q 2, jci (cy 0) 10 jz)]
def wX0 (cy : Nat → ClassId) (h : Nat) (q : Nat → Nat) : va_W := [(h, .inr (0, [.ref (q 0)])), (q 0, jcl (cy 1) 49 jz)]
def wX1 (cy : Nat → ClassId) (h : Nat) (q : Nat → Nat) : va_W := [(h, .inr (1, [.ref (q 0), .ref (q 1), .ref (q 2), .ref (q 3), .ref (q 4), .ref (q 5), .int (jI 0)])), (q 0, jci (cy 0) 12 jz), (q 1, jci (cy 0) 12 jz), (q 2, jci (cy 0) 6 jz), (q 3, jci (cy 0) 3 jz), (q 4, jci (cy 0) 3 jz), (q 5, jci (cy 0) 10 jz)]
def wX5 (cy : Nat → ClassId) (h : Nat) (q : Nat → Nat) : va_W := [(h, .inr (5, [.ref (q 0), .ref (q 1), .ref (q 2), .ref (q 3), .ref (q 4)])), (q 0, jci (cy 0) 10 jz), (q 1, jci (cy 0) 10 jz), (q 2, jci (cy 0) 10 jz), (q 3, jci (cy 0) 10 jz), (q 4, jci (cy 0) 3 jz)]
def wX3 (cy : Nat → ClassId) (h : Nat) (q : Nat → Nat) : va_W := [(h, .inr (3, [.ref (q 0), .ref (q 1), .ref (q 2), .int (jI 0)])), (q 0, jci (cy 0) 60 jz), (q 1, jci (cy 0) 60 jz), (q 2, jci (cy 3) 60 jz)]
def wX6 (cy : Nat → ClassId) (h : Nat) (q : Nat → Nat) : va_W := [(h, .inr (6, [.ref (q 0), .ref (q 1)])), (q 0, jci (cy 2) 24 jz), (q 1, jci (cy 0) 2 (jfu (jfu jz 0 (-1)) 1 (-1)))]
def wX8 (cy : Nat → ClassId) (h : Nat) (q : Nat → Nat) : va_W := [(h, .inr (8, [.ref (q 0), .ref (q 1), .int (jI 0), .ref (q 2), .ref (q 3), .ref (q 4), .ref (q 5), .ref (q 6), .int (jI 0), .ref (q 7), .ref (q 8), .ref (q 9), .ref (q 10), .ref (q 11), .int (jI 0), .ref (q 12), .ref (q 13), .ref (q 14), .ref (q 15), .ref (q 16), .ref (q 17), .ref (q 18), .ref (q 19), .ref (q 20), .ref (q 21), .ref (q 22), .int (jI 0), .ref (q 23), .ref (q 24), .ref (q 25), .ref (q 26)])), (q 0, jci (cy 0) 3 jz), (q 1, jci (cy 0) 18 jz), (q 2, jci (cy 0) 12 jz), (q 3, jci (cy 0) 12 jz), (q 4, jci (cy 0) 12 jz), (q 5, jci (cy 0) 12 jz), (q 6, jci (cy 0) 12 jz), (q 7, jci (cy 0) 10 jz), (q 8, jci (cy 0) 10 jz), (q 9, jci (cy 0) 10 jz), (q 10, jci (cy 0) 120 jz), (q 11, jci (cy 0) 5 (jfu (jfu jz 0 1) 1 4)), (q 12, jci (cy 0) 60 jz), (q 13, jci (cy 0) 60 jz), (q 14, jci (cy 0) 60 jz), (q 15, jci (cy 0) 2 (jfu (jfu jz 0 (-1)) 1 (-1))), (q 16, jci (cy 0) 24 jz), (q 17, jcl (cy 1) 49 jz), (q 18, jcl (cy 1) 49 jz), (q 19, jci (cy 0) 12 jz), (q 20, jci (cy 0) 12 jz), (q 21, jci (cy 0) 6 jz), (q 22, jci (cy 0) 3 jz), (q 23, jci (cy 0) 10 jz), (q 24, jci (cy 0) 10 jz), (q 25, jci (cy 0) 10 jz), (q 26, jci (cy 0) 12 jz)]
def wX7 (cy : Nat → ClassId) (h : Nat) (q : Nat → Nat) : va_W := (h, .inr (7, [.ref (q 0), .ref (q 9), .ref (q 13), .ref (q 15), .ref (q 22), .ref (q 28), .ref (q 32), .ref (q 35)])) :: ((((((((wX2 cy (q 0) (fun k => q (1 + k))) ++ wX4 cy (q 9) (fun k => q (10 + k))) ++ wX0 cy (q 13) (fun k => q (14 + k))) ++ wX1 cy (q 15) (fun k => q (16 + k))) ++ wX5 cy (q 22) (fun k => q (23 + k))) ++ wX3 cy (q 28) (fun k => q (29 + k))) ++ wX6 cy (q 32) (fun k => q (33 + k))) ++ [(q 35, jci (cy 0) 5 (jfu (jfu (jfu (jfu (jfu jz 0 1) 1 4) 2 0) 3 0) 4 0))])
set_option maxRecDepth 20000 in
theorem con_X2 (Γ : jΓ) : jcon Γ mX2_init 1 8 201 2 [.null, .null, .null, .null, .null, .null, .null, .null, .int (jI 0)] (wX2 Γ.2.2) := by
  refine jcon_of kX2_init rfl (by decide) rfl (fun h0 A => ?_)
  refine jv_aload_n (n := 1) dX2_init_0 rfl rfl ?_
  refine jv_obj (n := 4) dX2_init_1 rfl oX2_init ⟨by decide, by decide⟩ ?_
  refine jv_aload_n (n := 5) dX2_init_4 rfl rfl ?_
  refine jv_bipush (n := 7) dX2_init_5 rfl (by decide) ?_
  refine jv_newa (n := 9) (t := 0) (N := 12) (cl' := 1) (sl' := 12) dX2_init_7 rfl rfl jar_int (by decide) (fun _ => rfl) rfl (by decide) (by decide) (jz_i 12) rfl rfl ⟨by decide, by decide⟩ (fun q0 => ?_)
  refine jv_put (n := 12) (ws' := [(h0, .inr (2, [.ref q0, .null, .null, .null, .null, .null, .null, .null, .int (jI 0)])), (q0, jci (Γ.2.2 0) 12 jz)]) (q0 := 0) dX2_init_9 rfl pX2_9 (fun _ _ _ h => h) 0 rfl (Nat.le_of_ble_eq_true rfl) rfl ?_
  refine jv_aload_n (n := 13) dX2_init_12 rfl rfl ?_
  refine jv_bipush (n := 15) dX2_init_13 rfl (by decide) ?_
  refine jv_newa (n := 17) (t := 0) (N := 12) (cl' := 2) (sl' := 24) dX2_init_15 rfl rfl jar_int (by decide) (fun _ => rfl) rfl (by decide) (by decide) (jz_i 12) rfl rfl ⟨by decide, by decide⟩ (fun q1 => ?_)
  refine jv_put (n := 20) (ws' := [(h0, .inr (2, [.ref q0, .ref q1, .null, .null, .null, .null, .null, .null, .int (jI 0)])), (q0, jci (Γ.2.2 0) 12 jz), (q1, jci (Γ.2.2 0) 12 jz)]) (q0 := 0) dX2_init_17 rfl pX2_15 (fun _ _ _ h => h) 0 rfl (Nat.le_of_ble_eq_true rfl) rfl ?_
  refine jv_aload_n (n := 21) dX2_init_20 rfl rfl ?_
  refine jv_bipush (n := 23) dX2_init_21 rfl (by decide) ?_
  refine jv_newa (n := 25) (t := 0) (N := 12) (cl' := 3) (sl' := 36) dX2_init_23 rfl rfl jar_int (by decide) (fun _ => rfl) rfl (by decide) (by decide) (jz_i 12) rfl rfl ⟨by decide, by decide⟩ (fun q2 => ?_)
  refine jv_put (n := 28) (ws' := [(h0, .inr (2, [.ref q0, .ref q1, .ref q2, .null, .null, .null, .null, .null, .int (jI 0)])), (q0, jci (Γ.2.2 0) 12 jz), (q1, jci (Γ.2.2 0) 12 jz), (q2, jci (Γ.2.2 0) 12 jz)]) (q0 := 0) dX2_init_25 rfl pX2_18 (fun _ _ _ h => h) 0 rfl (Nat.le_of_ble_eq_true rfl) rfl ?_
  refine jv_aload_n (n := 29) dX2_init_28 rfl rfl ?_
  refine jv_bipush (n := 31) dX2_init_29 rfl (by decide) ?_
  refine jv_newa (n := 33) (t := 0) (N := 12) (cl' := 4) (sl' := 48) dX2_init_31 rfl rfl jar_int (by decide) (fun _ => rfl) rfl (by decide) (by decide) (jz_i 12) rfl rfl ⟨by decide, by decide⟩ (fun q3 => ?_)
  refine jv_put (n := 36) (ws' := [(h0, .inr (2, [.ref q0, .ref q1, .ref q2, .ref q3, .null, .null, .null, .null, .int (jI 0)])), (q0, jci (Γ.2.2 0) 12 jz), (q1, jci (Γ.2.2 0) 12 jz), (q2, jci (Γ.2.2 0) 12 jz), (q3, jci (Γ.2.2 0) 12 jz)]) (q0 := 0) dX2_init_33 rfl pX2_21 (fun _ _ _ h => h) 0 rfl (Nat.le_of_ble_eq_true rfl) rfl ?_
  refine jv_aload_n (n := 37) dX2_init_36 rfl rfl ?_
  refine jv_bipush (n := 39) dX2_init_37 rfl (by decide) ?_
  refine jv_newa (n := 41) (t := 0) (N := 12) (cl' := 5) (sl' := 60) dX2_init_39 rfl rfl jar_int (by decide) (fun _ => rfl) rfl (by decide) (by decide) (jz_i 12) rfl rfl ⟨by decide, by decide⟩ (fun q4 => ?_)
  refine jv_put (n := 44) (ws' := [(h0, .inr (2, [.ref q0, .ref q1, .ref q2, .ref q3, .ref q4, .null, .null, .null, .int (jI 0)])), (q0, jci (Γ.2.2 0) 12 jz), (q1, jci (Γ.2.2 0) 12 jz), (q2, jci (Γ.2.2 0) 12 jz), (q3, jci (Γ.2.2 0) 12 jz), (q4, jci (Γ.2.2 0) 12 jz)]) (q0 := 0) dX2_init_41 rfl pX2_24 (fun _ _ _ h => h) 0 rfl (Nat.le_of_ble_eq_true rfl) rfl ?_
  refine jv_aload_n (n := 45) dX2_init_44 rfl rfl ?_
  refine jv_bipush (n := 47) dX2_init_45 rfl (by decide) ?_
  refine jv_newa (n := 49) (t := 0) (N := 120) (cl' := 6) (sl' := 180) dX2_init_47 rfl rfl jar_int (by decide) (fun _ => rfl) rfl (by decide) (by decide) (jz_i 120) rfl rfl ⟨by decide, by decide⟩ (fun q5 => ?_)
  refine jv_put (n := 52) (ws' := [(h0, .inr (2, [.ref q0, .ref q1, .ref q2, .ref q3, .ref q4, .ref q5, .null, .null, .int (jI 0)])), (q0, jci (Γ.2.2 0) 12 jz), (q1, jci (Γ.2.2 0) 12 jz), (q2, jci (Γ.2.2 0) 12 jz), (q3, jci (Γ.2.2 0) 12 jz), (q4, jci (Γ.2.2 0) 12 jz), (q5, jci (Γ.2.2 0) 120 jz)]) (q0 := 0) dX2_init_49 rfl pX2_27 (fun _ _ _ h => h) 0 rfl (Nat.le_of_ble_eq_true rfl) rfl ?_
  refine jv_aload_n (n := 53) dX2_init_52 rfl rfl ?_
  refine jv_bipush (n := 55) dX2_init_53 rfl (by decide) ?_
  refine jv_newa (n := 57) (t := 0) (N := 18) (cl' := 7) (sl' := 198) dX2_init_55 rfl rfl jar_int (by decide) (fun _ => rfl) rfl (by decide) (by decide) (jz_i 18) rfl rfl ⟨by decide, by decide⟩ (fun q6 => ?_)
  refine jv_put (n := 60) (ws' := [(h0, .inr (2, [.ref q0, .ref q1, .ref q2, .ref q3, .ref q4, .ref q5, .ref q6, .null, .int (jI 0)])), (q0, jci (Γ.2.2 0) 12 jz), (q1, jci (Γ.2.2 0) 12 jz), (q2, jci (Γ.2.2 0) 12 jz), (q3, jci (Γ.2.2 0) 12 jz), (q4, jci (Γ.2.2 0) 12 jz), (q5, jci (Γ.2.2 0) 120 jz), (q6, jci (Γ.2.2 0) 18 jz)]) (q0 := 0) dX2_init_57 rfl pX2_30 (fun _ _ _ h => h) 0 rfl (Nat.le_of_ble_eq_true rfl) rfl ?_
  refine jv_aload_n (n := 61) dX2_init_60 rfl rfl ?_
  refine jv_iconst (n := 62) dX2_init_61 rfl ?_
  refine jv_newa (n := 64) (t := 0) (N := 3) (cl' := 8) (sl' := 201) dX2_init_62 rfl rfl jar_int (by decide) (fun _ => rfl) rfl (by decide) (by decide) (jz_i 3) rfl rfl ⟨by decide, by decide⟩ (fun q7 => ?_)
  refine jv_put (n := 67) (ws' := [(h0, .inr (2, [.ref q0, .ref q1, .ref q2, .ref q3, .ref q4, .ref q5, .ref q6, .ref q7, .int (jI 0)])), (q0, jci (Γ.2.2 0) 12 jz), (q1, jci (Γ.2.2 0) 12 jz), (q2, jci (Γ.2.2 0) 12 jz), (q3, jci (Γ.2.2 0) 12 jz), (q4, jci (Γ.2.2 0) 12 jz), (q5, jci (Γ.2.2 0) 120 jz), (q6, jci (Γ.2.2 0) 18 jz), (q7, jci (Γ.2.2 0) 3 jz)]) (q0 := 0) dX2_init_64 rfl pX2_33 (fun _ _ _ h => h) 0 rfl (Nat.le_of_ble_eq_true rfl) rfl ?_
  exact jv_ret (fun k => [q0, q1, q2, q3, q4, q5, q6, q7].getD k 0) dX2_init_67 rfl rfl rfl rfl
set_option maxRecDepth 20000 in
theorem con_X4 (Γ : jΓ) : jcon Γ mX4_init 1 3 30 4 [.null, .null, .null, .int (jI 0)] (wX4 Γ.2.2) := by
  refine jcon_of kX4_init rfl (by decide) rfl (fun h0 A => ?_)
  refine jv_aload_n (n := 1) dX4_init_0 rfl rfl ?_
  refine jv_obj (n := 4) dX4_init_1 rfl oX4_init ⟨by decide, by decide⟩ ?_
  refine jv_aload_n (n := 5) dX4_init_4 rfl rfl ?_
  refine jv_bipush (n := 7) dX4_init_5 rfl (by decide) ?_
  refine jv_newa (n := 9) (t := 0) (N := 10) (cl' := 1) (sl' := 10) dX4_init_7 rfl rfl jar_int (by decide) (fun _ => rfl) rfl (by decide) (by decide) (jz_i 10) rfl rfl ⟨by decide, by decide⟩ (fun q0 => ?_)
  refine jv_put (n := 12) (ws' := [(h0, .inr (4, [.ref q0, .null, .null, .int (jI 0)])), (q0, jci (Γ.2.2 0) 10 jz)]) (q0 := 0) dX4_init_9 rfl pX4_9 (fun _ _ _ h => h) 0 rfl (Nat.le_of_ble_eq_true rfl) rfl ?_
  refine jv_aload_n (n := 13) dX4_init_12 rfl rfl ?_
  refine jv_bipush (n := 15) dX4_init_13 rfl (by decide) ?_
  refine jv_newa (n := 17) (t := 0) (N := 10) (cl' := 2) (sl' := 20) dX4_init_15 rfl rfl jar_int (by decide) (fun _ => rfl) rfl (by decide) (by decide) (jz_i 10) rfl rfl ⟨by decide, by decide⟩ (fun q1 => ?_)
  refine jv_put (n := 20) (ws' := [(h0, .inr (4, [.ref q0, .ref q1, .null, .int (jI 0)])), (q0, jci (Γ.2.2 0) 10 jz), (q1, jci (Γ.2.2 0) 10 jz)]) (q0 := 0) dX4_init_17 rfl pX4_15 (fun _ _ _ h => h) 0 rfl (Nat.le_of_ble_eq_true rfl) rfl ?_
  refine jv_aload_n (n := 21) dX4_init_20 rfl rfl ?_
  refine jv_bipush (n := 23) dX4_init_21 rfl (by decide) ?_
  refine jv_newa (n := 25) (t := 0) (N := 10) (cl' := 3) (sl' := 30) dX4_init_23 rfl rfl jar_int (by decide) (fun _ => rfl) rfl (by decide) (by decide) (jz_i 10) rfl rfl ⟨by decide, by decide⟩ (fun q2 => ?_)
  refine jv_put (n := 28) (ws' := [(h0, .inr (4, [.ref q0, .ref q1, .ref q2, .int (jI 0)])), (q0, jci (Γ.2.2 0) 10 jz), (q1, jci (Γ.2.2 0) 10 jz), (q2, jci (Γ.2.2 0) 10 jz)]) (q0 := 0) dX4_init_25 rfl pX4_18 (fun _ _ _ h => h) 0 rfl (Nat.le_of_ble_eq_true rfl) rfl ?_
  exact jv_ret (fun k => [q0, q1, q2].getD k 0) dX4_init_28 rfl rfl rfl rfl
set_option maxRecDepth 20000 in
theorem con_X0 (Γ : jΓ) : jcon Γ mX0_init 1 1 49 0 [.null] (wX0 Γ.2.2) := by
  refine jcon_of kX0_init rfl (by decide) rfl (fun h0 A => ?_)
  refine jv_aload_n (n := 1) dX0_init_0 rfl rfl ?_
  refine jv_obj (n := 4) dX0_init_1 rfl oX0_init ⟨by decide, by decide⟩ ?_
  refine jv_aload_n (n := 5) dX0_init_4 rfl rfl ?_
  refine jv_bipush (n := 7) dX0_init_5 rfl (by decide) ?_
  refine jv_newa (n := 9) (t := 1) (N := 49) (cl' := 1) (sl' := 49) dX0_init_7 rfl rfl jar_long (by decide) (fun _ => rfl) rfl (by decide) (by decide) (jz_l 49) rfl rfl ⟨by decide, by decide⟩ (fun q0 => ?_)
  refine jv_put (n := 12) (ws' := [(h0, .inr (0, [.ref q0])), (q0, jcl (Γ.2.2 1) 49 jz)]) (q0 := 0) dX0_init_9 rfl pX0_9 (fun _ _ _ h => h) 0 rfl (Nat.le_of_ble_eq_true rfl) rfl ?_
  exact jv_ret (fun k => [q0].getD k 0) dX0_init_12 rfl rfl rfl rfl
set_option maxRecDepth 20000 in
theorem con_X1 (Γ : jΓ) : jcon Γ mX1_init 1 6 46 1 [.null, .null, .null, .null, .null, .null, .int (jI 0)] (wX1 Γ.2.2) := by
  refine jcon_of kX1_init rfl (by decide) rfl (fun h0 A => ?_)
  refine jv_aload_n (n := 1) dX1_init_0 rfl rfl ?_
  refine jv_obj (n := 4) dX1_init_1 rfl oX1_init ⟨by decide, by decide⟩ ?_
  refine jv_aload_n (n := 5) dX1_init_4 rfl rfl ?_
  refine jv_bipush (n := 7) dX1_init_5 rfl (by decide) ?_
  refine jv_newa (n := 9) (t := 0) (N := 12) (cl' := 1) (sl' := 12) dX1_init_7 rfl rfl jar_int (by decide) (fun _ => rfl) rfl (by decide) (by decide) (jz_i 12) rfl rfl ⟨by decide, by decide⟩ (fun q0 => ?_)
  refine jv_put (n := 12) (ws' := [(h0, .inr (1, [.ref q0, .null, .null, .null, .null, .null, .int (jI 0)])), (q0, jci (Γ.2.2 0) 12 jz)]) (q0 := 0) dX1_init_9 rfl pX1_9 (fun _ _ _ h => h) 0 rfl (Nat.le_of_ble_eq_true rfl) rfl ?_
  refine jv_aload_n (n := 13) dX1_init_12 rfl rfl ?_
  refine jv_bipush (n := 15) dX1_init_13 rfl (by decide) ?_
  refine jv_newa (n := 17) (t := 0) (N := 12) (cl' := 2) (sl' := 24) dX1_init_15 rfl rfl jar_int (by decide) (fun _ => rfl) rfl (by decide) (by decide) (jz_i 12) rfl rfl ⟨by decide, by decide⟩ (fun q1 => ?_)
  refine jv_put (n := 20) (ws' := [(h0, .inr (1, [.ref q0, .ref q1, .null, .null, .null, .null, .int (jI 0)])), (q0, jci (Γ.2.2 0) 12 jz), (q1, jci (Γ.2.2 0) 12 jz)]) (q0 := 0) dX1_init_17 rfl pX1_15 (fun _ _ _ h => h) 0 rfl (Nat.le_of_ble_eq_true rfl) rfl ?_
  refine jv_aload_n (n := 21) dX1_init_20 rfl rfl ?_
  refine jv_bipush (n := 23) dX1_init_21 rfl (by decide) ?_
  refine jv_newa (n := 25) (t := 0) (N := 6) (cl' := 3) (sl' := 30) dX1_init_23 rfl rfl jar_int (by decide) (fun _ => rfl) rfl (by decide) (by decide) (jz_i 6) rfl rfl ⟨by decide, by decide⟩ (fun q2 => ?_)
  refine jv_put (n := 28) (ws' := [(h0, .inr (1, [.ref q0, .ref q1, .ref q2, .null, .null, .null, .int (jI 0)])), (q0, jci (Γ.2.2 0) 12 jz), (q1, jci (Γ.2.2 0) 12 jz), (q2, jci (Γ.2.2 0) 6 jz)]) (q0 := 0) dX1_init_25 rfl pX1_18 (fun _ _ _ h => h) 0 rfl (Nat.le_of_ble_eq_true rfl) rfl ?_
  refine jv_aload_n (n := 29) dX1_init_28 rfl rfl ?_
  refine jv_iconst (n := 30) dX1_init_29 rfl ?_
  refine jv_newa (n := 32) (t := 0) (N := 3) (cl' := 4) (sl' := 33) dX1_init_30 rfl rfl jar_int (by decide) (fun _ => rfl) rfl (by decide) (by decide) (jz_i 3) rfl rfl ⟨by decide, by decide⟩ (fun q3 => ?_)
  refine jv_put (n := 35) (ws' := [(h0, .inr (1, [.ref q0, .ref q1, .ref q2, .ref q3, .null, .null, .int (jI 0)])), (q0, jci (Γ.2.2 0) 12 jz), (q1, jci (Γ.2.2 0) 12 jz), (q2, jci (Γ.2.2 0) 6 jz), (q3, jci (Γ.2.2 0) 3 jz)]) (q0 := 0) dX1_init_32 rfl pX1_21 (fun _ _ _ h => h) 0 rfl (Nat.le_of_ble_eq_true rfl) rfl ?_
  refine jv_aload_n (n := 36) dX1_init_35 rfl rfl ?_
  refine jv_iconst (n := 37) dX1_init_36 rfl ?_
  refine jv_newa (n := 39) (t := 0) (N := 3) (cl' := 5) (sl' := 36) dX1_init_37 rfl rfl jar_int (by decide) (fun _ => rfl) rfl (by decide) (by decide) (jz_i 3) rfl rfl ⟨by decide, by decide⟩ (fun q4 => ?_)
  refine jv_put (n := 42) (ws' := [(h0, .inr (1, [.ref q0, .ref q1, .ref q2, .ref q3, .ref q4, .null, .int (jI 0)])), (q0, jci (Γ.2.2 0) 12 jz), (q1, jci (Γ.2.2 0) 12 jz), (q2, jci (Γ.2.2 0) 6 jz), (q3, jci (Γ.2.2 0) 3 jz), (q4, jci (Γ.2.2 0) 3 jz)]) (q0 := 0) dX1_init_39 rfl pX1_24 (fun _ _ _ h => h) 0 rfl (Nat.le_of_ble_eq_true rfl) rfl ?_
  refine jv_aload_n (n := 43) dX1_init_42 rfl rfl ?_
  refine jv_bipush (n := 45) dX1_init_43 rfl (by decide) ?_
  refine jv_newa (n := 47) (t := 0) (N := 10) (cl' := 6) (sl' := 46) dX1_init_45 rfl rfl jar_int (by decide) (fun _ => rfl) rfl (by decide) (by decide) (jz_i 10) rfl rfl ⟨by decide, by decide⟩ (fun q5 => ?_)
  refine jv_put (n := 50) (ws' := [(h0, .inr (1, [.ref q0, .ref q1, .ref q2, .ref q3, .ref q4, .ref q5, .int (jI 0)])), (q0, jci (Γ.2.2 0) 12 jz), (q1, jci (Γ.2.2 0) 12 jz), (q2, jci (Γ.2.2 0) 6 jz), (q3, jci (Γ.2.2 0) 3 jz), (q4, jci (Γ.2.2 0) 3 jz), (q5, jci (Γ.2.2 0) 10 jz)]) (q0 := 0) dX1_init_47 rfl pX1_27 (fun _ _ _ h => h) 0 rfl (Nat.le_of_ble_eq_true rfl) rfl ?_
  exact jv_ret (fun k => [q0, q1, q2, q3, q4, q5].getD k 0) dX1_init_50 rfl rfl rfl rfl
set_option maxRecDepth 20000 in
theorem con_X5 (Γ : jΓ) : jcon Γ mX5_init 1 5 43 5 [.null, .null, .null, .null, .null] (wX5 Γ.2.2) := by
  refine jcon_of kX5_init rfl (by decide) rfl (fun h0 A => ?_)
  refine jv_aload_n (n := 1) dX5_init_0 rfl rfl ?_
  refine jv_obj (n := 4) dX5_init_1 rfl oX5_init ⟨by decide, by decide⟩ ?_
  refine jv_aload_n (n := 5) dX5_init_4 rfl rfl ?_
  refine jv_bipush (n := 7) dX5_init_5 rfl (by decide) ?_
  refine jv_newa (n := 9) (t := 0) (N := 10) (cl' := 1) (sl' := 10) dX5_init_7 rfl rfl jar_int (by decide) (fun _ => rfl) rfl (by decide) (by decide) (jz_i 10) rfl rfl ⟨by decide, by decide⟩ (fun q0 => ?_)
  refine jv_put (n := 12) (ws' := [(h0, .inr (5, [.ref q0, .null, .null, .null, .null])), (q0, jci (Γ.2.2 0) 10 jz)]) (q0 := 0) dX5_init_9 rfl pX5_9 (fun _ _ _ h => h) 0 rfl (Nat.le_of_ble_eq_true rfl) rfl ?_
  refine jv_aload_n (n := 13) dX5_init_12 rfl rfl ?_
  refine jv_bipush (n := 15) dX5_init_13 rfl (by decide) ?_
  refine jv_newa (n := 17) (t := 0) (N := 10) (cl' := 2) (sl' := 20) dX5_init_15 rfl rfl jar_int (by decide) (fun _ => rfl) rfl (by decide) (by decide) (jz_i 10) rfl rfl ⟨by decide, by decide⟩ (fun q1 => ?_)
  refine jv_put (n := 20) (ws' := [(h0, .inr (5, [.ref q0, .ref q1, .null, .null, .null])), (q0, jci (Γ.2.2 0) 10 jz), (q1, jci (Γ.2.2 0) 10 jz)]) (q0 := 0) dX5_init_17 rfl pX5_15 (fun _ _ _ h => h) 0 rfl (Nat.le_of_ble_eq_true rfl) rfl ?_
  refine jv_aload_n (n := 21) dX5_init_20 rfl rfl ?_
  refine jv_bipush (n := 23) dX5_init_21 rfl (by decide) ?_
  refine jv_newa (n := 25) (t := 0) (N := 10) (cl' := 3) (sl' := 30) dX5_init_23 rfl rfl jar_int (by decide) (fun _ => rfl) rfl (by decide) (by decide) (jz_i 10) rfl rfl ⟨by decide, by decide⟩ (fun q2 => ?_)
  refine jv_put (n := 28) (ws' := [(h0, .inr (5, [.ref q0, .ref q1, .ref q2, .null, .null])), (q0, jci (Γ.2.2 0) 10 jz), (q1, jci (Γ.2.2 0) 10 jz), (q2, jci (Γ.2.2 0) 10 jz)]) (q0 := 0) dX5_init_25 rfl pX5_18 (fun _ _ _ h => h) 0 rfl (Nat.le_of_ble_eq_true rfl) rfl ?_
  refine jv_aload_n (n := 29) dX5_init_28 rfl rfl ?_
  refine jv_bipush (n := 31) dX5_init_29 rfl (by decide) ?_
  refine jv_newa (n := 33) (t := 0) (N := 10) (cl' := 4) (sl' := 40) dX5_init_31 rfl rfl jar_int (by decide) (fun _ => rfl) rfl (by decide) (by decide) (jz_i 10) rfl rfl ⟨by decide, by decide⟩ (fun q3 => ?_)
  refine jv_put (n := 36) (ws' := [(h0, .inr (5, [.ref q0, .ref q1, .ref q2, .ref q3, .null])), (q0, jci (Γ.2.2 0) 10 jz), (q1, jci (Γ.2.2 0) 10 jz), (q2, jci (Γ.2.2 0) 10 jz), (q3, jci (Γ.2.2 0) 10 jz)]) (q0 := 0) dX5_init_33 rfl pX5_21 (fun _ _ _ h => h) 0 rfl (Nat.le_of_ble_eq_true rfl) rfl ?_
  refine jv_aload_n (n := 37) dX5_init_36 rfl rfl ?_
  refine jv_iconst (n := 38) dX5_init_37 rfl ?_
  refine jv_newa (n := 40) (t := 0) (N := 3) (cl' := 5) (sl' := 43) dX5_init_38 rfl rfl jar_int (by decide) (fun _ => rfl) rfl (by decide) (by decide) (jz_i 3) rfl rfl ⟨by decide, by decide⟩ (fun q4 => ?_)
  refine jv_put (n := 43) (ws' := [(h0, .inr (5, [.ref q0, .ref q1, .ref q2, .ref q3, .ref q4])), (q0, jci (Γ.2.2 0) 10 jz), (q1, jci (Γ.2.2 0) 10 jz), (q2, jci (Γ.2.2 0) 10 jz), (q3, jci (Γ.2.2 0) 10 jz), (q4, jci (Γ.2.2 0) 3 jz)]) (q0 := 0) dX5_init_40 rfl pX5_24 (fun _ _ _ h => h) 0 rfl (Nat.le_of_ble_eq_true rfl) rfl ?_
  exact jv_ret (fun k => [q0, q1, q2, q3, q4].getD k 0) dX5_init_43 rfl rfl rfl rfl
set_option maxRecDepth 20000 in
theorem con_X3 (Γ : jΓ) : jcon Γ mX3_init 1 3 180 3 [.null, .null, .null, .int (jI 0)] (wX3 Γ.2.2) := by
  refine jcon_of kX3_init rfl (by decide) rfl (fun h0 A => ?_)
  refine jv_aload_n (n := 1) dX3_init_0 rfl rfl ?_
  refine jv_obj (n := 4) dX3_init_1 rfl oX3_init ⟨by decide, by decide⟩ ?_
  refine jv_aload_n (n := 5) dX3_init_4 rfl rfl ?_
  refine jv_bipush (n := 7) dX3_init_5 rfl (by decide) ?_
  refine jv_newa (n := 9) (t := 0) (N := 60) (cl' := 1) (sl' := 60) dX3_init_7 rfl rfl jar_int (by decide) (fun _ => rfl) rfl (by decide) (by decide) (jz_i 60) rfl rfl ⟨by decide, by decide⟩ (fun q0 => ?_)
  refine jv_put (n := 12) (ws' := [(h0, .inr (3, [.ref q0, .null, .null, .int (jI 0)])), (q0, jci (Γ.2.2 0) 60 jz)]) (q0 := 0) dX3_init_9 rfl pX3_9 (fun _ _ _ h => h) 0 rfl (Nat.le_of_ble_eq_true rfl) rfl ?_
  refine jv_aload_n (n := 13) dX3_init_12 rfl rfl ?_
  refine jv_bipush (n := 15) dX3_init_13 rfl (by decide) ?_
  refine jv_newa (n := 17) (t := 0) (N := 60) (cl' := 2) (sl' := 120) dX3_init_15 rfl rfl jar_int (by decide) (fun _ => rfl) rfl (by decide) (by decide) (jz_i 60) rfl rfl ⟨by decide, by decide⟩ (fun q1 => ?_)
  refine jv_put (n := 20) (ws' := [(h0, .inr (3, [.ref q0, .ref q1, .null, .int (jI 0)])), (q0, jci (Γ.2.2 0) 60 jz), (q1, jci (Γ.2.2 0) 60 jz)]) (q0 := 0) dX3_init_17 rfl pX3_15 (fun _ _ _ h => h) 0 rfl (Nat.le_of_ble_eq_true rfl) rfl ?_
  refine jv_aload_n (n := 21) dX3_init_20 rfl rfl ?_
  refine jv_bipush (n := 23) dX3_init_21 rfl (by decide) ?_
  refine jv_newa (n := 25) (t := 3) (N := 60) (cl' := 3) (sl' := 180) dX3_init_23 rfl rfl jar_boolean (by decide) (fun _ => rfl) rfl (by decide) (by decide) (jz_z 60) rfl rfl ⟨by decide, by decide⟩ (fun q2 => ?_)
  refine jv_put (n := 28) (ws' := [(h0, .inr (3, [.ref q0, .ref q1, .ref q2, .int (jI 0)])), (q0, jci (Γ.2.2 0) 60 jz), (q1, jci (Γ.2.2 0) 60 jz), (q2, jci (Γ.2.2 3) 60 jz)]) (q0 := 0) dX3_init_25 rfl pX3_18 (fun _ _ _ h => h) 0 rfl (Nat.le_of_ble_eq_true rfl) rfl ?_
  exact jv_ret (fun k => [q0, q1, q2].getD k 0) dX3_init_28 rfl rfl rfl rfl
set_option maxRecDepth 20000 in
theorem con_X6 (Γ : jΓ) : jcon Γ mX6_init 1 2 26 6 [.null, .null] (wX6 Γ.2.2) := by
  refine jcon_of kX6_init rfl (by decide) rfl (fun h0 A => ?_)
  refine jv_aload_n (n := 1) dX6_init_0 rfl rfl ?_
  refine jv_obj (n := 4) dX6_init_1 rfl oX6_init ⟨by decide, by decide⟩ ?_
  refine jv_aload_n (n := 5) dX6_init_4 rfl rfl ?_
  refine jv_bipush (n := 7) dX6_init_5 rfl (by decide) ?_
  refine jv_newa (n := 9) (t := 2) (N := 24) (cl' := 1) (sl' := 24) dX6_init_7 rfl rfl jar_byte (by decide) (fun _ => rfl) rfl (by decide) (by decide) (jz_b 24) rfl rfl ⟨by decide, by decide⟩ (fun q0 => ?_)
  refine jv_put (n := 12) (ws' := [(h0, .inr (6, [.ref q0, .null])), (q0, jci (Γ.2.2 2) 24 jz)]) (q0 := 0) dX6_init_9 rfl pX6_9 (fun _ _ _ h => h) 0 rfl (Nat.le_of_ble_eq_true rfl) rfl ?_
  refine jv_aload_n (n := 13) dX6_init_12 rfl rfl ?_
  refine jv_iconst (n := 14) dX6_init_13 rfl ?_
  refine jv_newa (n := 16) (t := 0) (N := 2) (cl' := 2) (sl' := 26) dX6_init_14 rfl rfl jar_int (by decide) (fun _ => rfl) rfl (by decide) (by decide) (jz_i 2) rfl rfl ⟨by decide, by decide⟩ (fun q1 => ?_)
  refine jv_dup (n := 17) dX6_init_16 rfl rfl ?_
  refine jv_iconst (n := 18) dX6_init_17 rfl ?_
  refine jv_iconst (n := 19) dX6_init_18 rfl ?_
  refine jv_iast (n := 20) (N := 2) (f := jz) (ws' := [(h0, .inr (6, [.ref q0, .null])), (q0, jci (Γ.2.2 2) 24 jz), (q1, jci (Γ.2.2 0) 2 (jfu jz 0 (-1)))]) dX6_init_19 rfl 2 rfl (by decide) (by decide) (by decide) rfl ?_
  refine jv_dup (n := 21) dX6_init_20 rfl rfl ?_
  refine jv_iconst (n := 22) dX6_init_21 rfl ?_
  refine jv_iconst (n := 23) dX6_init_22 rfl ?_
  refine jv_iast (n := 24) (N := 2) (f := (jfu jz 0 (-1))) (ws' := [(h0, .inr (6, [.ref q0, .null])), (q0, jci (Γ.2.2 2) 24 jz), (q1, jci (Γ.2.2 0) 2 (jfu (jfu jz 0 (-1)) 1 (-1)))]) dX6_init_23 rfl 2 rfl (by decide) (by decide) (by decide) rfl ?_
  refine jv_put (n := 27) (ws' := [(h0, .inr (6, [.ref q0, .ref q1])), (q0, jci (Γ.2.2 2) 24 jz), (q1, jci (Γ.2.2 0) 2 (jfu (jfu jz 0 (-1)) 1 (-1)))]) (q0 := 0) dX6_init_24 rfl pX6_15 (fun _ _ _ h => h) 0 rfl (Nat.le_of_ble_eq_true rfl) rfl ?_
  exact jv_ret (fun k => [q0, q1].getD k 0) dX6_init_27 rfl rfl rfl rfl
set_option maxRecDepth 20000 in
theorem con_X7 (Γ : jΓ) : jcon Γ mX7_init 2 36 612 7 [.null, .null, .null, .null, .null, .null, .null, .null] (wX7 Γ.2.2) := by
  refine jcon_of kX7_init rfl (by decide) rfl (fun h0 A => ?_)
  refine jv_aload_n (n := 1) dX7_init_0 rfl rfl ?_
  refine jv_obj (n := 4) dX7_init_1 rfl oX7_init ⟨by decide, by decide⟩ ?_
  refine jv_aload_n (n := 5) dX7_init_4 rfl rfl ?_
  refine jv_new (n := 8) (ci := 2) (N := 9) (C := RX2) (T := TX2) (ty := tyX2) (fs := [.null, .null, .null, .null, .null, .null, .null, .null, .int (jI 0)]) (cl' := 1) (sl' := 9) dX7_init_5 rfl nX2_init jin_X2 tyX2_ok rfl (fun j hj => by
    have hh : j = 0 ∨ j = 1 ∨ j = 2 ∨ j = 3 ∨ j = 4 ∨ j = 5 ∨ j = 6 ∨ j = 7 ∨ j = 8 := by omega
    rcases hh with rfl | rfl | rfl | rfl | rfl | rfl | rfl | rfl | rfl <;> rfl) rfl rfl ⟨by decide, by decide⟩ (fun q0 => ?_)
  refine jv_dup (n := 9) dX7_init_8 rfl rfl ?_
  refine jv_init (n := 12) (cl' := 9) (sl' := 210) (con_X2 Γ) dX7_init_9 rfl lX2_init kX2_init iX2_init rfl rfl (Nat.le_of_ble_eq_true rfl) rfl rfl ⟨by decide, by decide⟩ ⟨by decide, by decide⟩ (fun s0 => ?_)
  refine jv_put (n := 15) (ws' := (h0, .inr (7, [.ref q0, .null, .null, .null, .null, .null, .null, .null])) :: (wX2 Γ.2.2 q0 s0)) (q0 := 0) dX7_init_12 rfl pX7_10 (fun _ _ _ h => h) 0 rfl (Nat.le_of_ble_eq_true rfl) rfl ?_
  refine jv_aload_n (n := 16) dX7_init_15 rfl rfl ?_
  refine jv_new (n := 19) (ci := 4) (N := 4) (C := RX4) (T := TX4) (ty := tyX4) (fs := [.null, .null, .null, .int (jI 0)]) (cl' := 10) (sl' := 214) dX7_init_16 rfl nX4_init jin_X4 tyX4_ok rfl (fun j hj => by
    have hh : j = 0 ∨ j = 1 ∨ j = 2 ∨ j = 3 := by omega
    rcases hh with rfl | rfl | rfl | rfl <;> rfl) rfl rfl ⟨by decide, by decide⟩ (fun q1 => ?_)
  refine jv_dup (n := 20) dX7_init_19 rfl rfl ?_
  refine jv_init (n := 23) (cl' := 13) (sl' := 244) (con_X4 Γ) dX7_init_20 rfl lX4_init kX4_init iX4_init rfl rfl (Nat.le_of_ble_eq_true rfl) rfl rfl ⟨by decide, by decide⟩ ⟨by decide, by decide⟩ (fun s1 => ?_)
  refine jv_put (n := 26) (ws' := (h0, .inr (7, [.ref q0, .ref q1, .null, .null, .null, .null, .null, .null])) :: ((wX2 Γ.2.2 q0 s0) ++ wX4 Γ.2.2 q1 s1)) (q0 := 0) dX7_init_23 rfl pX7_19 (fun _ _ _ h => h) 0 rfl (Nat.le_of_ble_eq_true rfl) rfl ?_
  refine jv_aload_n (n := 27) dX7_init_26 rfl rfl ?_
  refine jv_new (n := 30) (ci := 0) (N := 1) (C := RX0) (T := TX0) (ty := tyX0) (fs := [.null]) (cl' := 14) (sl' := 245) dX7_init_27 rfl nX0_init jin_X0 tyX0_ok rfl (fun j hj => by
    have hh : j = 0 := by omega
    rcases hh with rfl <;> rfl) rfl rfl ⟨by decide, by decide⟩ (fun q2 => ?_)
  refine jv_dup (n := 31) dX7_init_30 rfl rfl ?_
  refine jv_init (n := 34) (cl' := 15) (sl' := 294) (con_X0 Γ) dX7_init_31 rfl lX0_init kX0_init iX0_init rfl rfl (Nat.le_of_ble_eq_true rfl) rfl rfl ⟨by decide, by decide⟩ ⟨by decide, by decide⟩ (fun s2 => ?_)
  refine jv_put (n := 37) (ws' := (h0, .inr (7, [.ref q0, .ref q1, .ref q2, .null, .null, .null, .null, .null])) :: (((wX2 Γ.2.2 q0 s0) ++ wX4 Γ.2.2 q1 s1) ++ wX0 Γ.2.2 q2 s2)) (q0 := 0) dX7_init_34 rfl pX7_26 (fun _ _ _ h => h) 0 rfl (Nat.le_of_ble_eq_true rfl) rfl ?_
  refine jv_aload_n (n := 38) dX7_init_37 rfl rfl ?_
  refine jv_new (n := 41) (ci := 1) (N := 7) (C := RX1) (T := TX1) (ty := tyX1) (fs := [.null, .null, .null, .null, .null, .null, .int (jI 0)]) (cl' := 16) (sl' := 301) dX7_init_38 rfl nX1_init jin_X1 tyX1_ok rfl (fun j hj => by
    have hh : j = 0 ∨ j = 1 ∨ j = 2 ∨ j = 3 ∨ j = 4 ∨ j = 5 ∨ j = 6 := by omega
    rcases hh with rfl | rfl | rfl | rfl | rfl | rfl | rfl <;> rfl) rfl rfl ⟨by decide, by decide⟩ (fun q3 => ?_)
  refine jv_dup (n := 42) dX7_init_41 rfl rfl ?_
  refine jv_init (n := 45) (cl' := 22) (sl' := 347) (con_X1 Γ) dX7_init_42 rfl lX1_init kX1_init iX1_init rfl rfl (Nat.le_of_ble_eq_true rfl) rfl rfl ⟨by decide, by decide⟩ ⟨by decide, by decide⟩ (fun s3 => ?_)
  refine jv_put (n := 48) (ws' := (h0, .inr (7, [.ref q0, .ref q1, .ref q2, .ref q3, .null, .null, .null, .null])) :: ((((wX2 Γ.2.2 q0 s0) ++ wX4 Γ.2.2 q1 s1) ++ wX0 Γ.2.2 q2 s2) ++ wX1 Γ.2.2 q3 s3)) (q0 := 0) dX7_init_45 rfl pX7_33 (fun _ _ _ h => h) 0 rfl (Nat.le_of_ble_eq_true rfl) rfl ?_
  refine jv_aload_n (n := 49) dX7_init_48 rfl rfl ?_
  refine jv_new (n := 52) (ci := 5) (N := 5) (C := RX5) (T := TX5) (ty := tyX5) (fs := [.null, .null, .null, .null, .null]) (cl' := 23) (sl' := 352) dX7_init_49 rfl nX5_init jin_X5 tyX5_ok rfl (fun j hj => by
    have hh : j = 0 ∨ j = 1 ∨ j = 2 ∨ j = 3 ∨ j = 4 := by omega
    rcases hh with rfl | rfl | rfl | rfl | rfl <;> rfl) rfl rfl ⟨by decide, by decide⟩ (fun q4 => ?_)
  refine jv_dup (n := 53) dX7_init_52 rfl rfl ?_
  refine jv_init (n := 56) (cl' := 28) (sl' := 395) (con_X5 Γ) dX7_init_53 rfl lX5_init kX5_init iX5_init rfl rfl (Nat.le_of_ble_eq_true rfl) rfl rfl ⟨by decide, by decide⟩ ⟨by decide, by decide⟩ (fun s4 => ?_)
  refine jv_put (n := 59) (ws' := (h0, .inr (7, [.ref q0, .ref q1, .ref q2, .ref q3, .ref q4, .null, .null, .null])) :: (((((wX2 Γ.2.2 q0 s0) ++ wX4 Γ.2.2 q1 s1) ++ wX0 Γ.2.2 q2 s2) ++ wX1 Γ.2.2 q3 s3) ++ wX5 Γ.2.2 q4 s4)) (q0 := 0) dX7_init_56 rfl pX7_40 (fun _ _ _ h => h) 0 rfl (Nat.le_of_ble_eq_true rfl) rfl ?_
  refine jv_aload_n (n := 60) dX7_init_59 rfl rfl ?_
  refine jv_new (n := 63) (ci := 3) (N := 4) (C := RX3) (T := TX3) (ty := tyX3) (fs := [.null, .null, .null, .int (jI 0)]) (cl' := 29) (sl' := 399) dX7_init_60 rfl nX3_init jin_X3 tyX3_ok rfl (fun j hj => by
    have hh : j = 0 ∨ j = 1 ∨ j = 2 ∨ j = 3 := by omega
    rcases hh with rfl | rfl | rfl | rfl <;> rfl) rfl rfl ⟨by decide, by decide⟩ (fun q5 => ?_)
  refine jv_dup (n := 64) dX7_init_63 rfl rfl ?_
  refine jv_init (n := 67) (cl' := 32) (sl' := 579) (con_X3 Γ) dX7_init_64 rfl lX3_init kX3_init iX3_init rfl rfl (Nat.le_of_ble_eq_true rfl) rfl rfl ⟨by decide, by decide⟩ ⟨by decide, by decide⟩ (fun s5 => ?_)
  refine jv_put (n := 70) (ws' := (h0, .inr (7, [.ref q0, .ref q1, .ref q2, .ref q3, .ref q4, .ref q5, .null, .null])) :: ((((((wX2 Γ.2.2 q0 s0) ++ wX4 Γ.2.2 q1 s1) ++ wX0 Γ.2.2 q2 s2) ++ wX1 Γ.2.2 q3 s3) ++ wX5 Γ.2.2 q4 s4) ++ wX3 Γ.2.2 q5 s5)) (q0 := 0) dX7_init_67 rfl pX7_47 (fun _ _ _ h => h) 0 rfl (Nat.le_of_ble_eq_true rfl) rfl ?_
  refine jv_aload_n (n := 71) dX7_init_70 rfl rfl ?_
  refine jv_new (n := 74) (ci := 6) (N := 2) (C := RX6) (T := TX6) (ty := tyX6) (fs := [.null, .null]) (cl' := 33) (sl' := 581) dX7_init_71 rfl nX6_init jin_X6 tyX6_ok rfl (fun j hj => by
    have hh : j = 0 ∨ j = 1 := by omega
    rcases hh with rfl | rfl <;> rfl) rfl rfl ⟨by decide, by decide⟩ (fun q6 => ?_)
  refine jv_dup (n := 75) dX7_init_74 rfl rfl ?_
  refine jv_init (n := 78) (cl' := 35) (sl' := 607) (con_X6 Γ) dX7_init_75 rfl lX6_init kX6_init iX6_init rfl rfl (Nat.le_of_ble_eq_true rfl) rfl rfl ⟨by decide, by decide⟩ ⟨by decide, by decide⟩ (fun s6 => ?_)
  refine jv_put (n := 81) (ws' := (h0, .inr (7, [.ref q0, .ref q1, .ref q2, .ref q3, .ref q4, .ref q5, .ref q6, .null])) :: (((((((wX2 Γ.2.2 q0 s0) ++ wX4 Γ.2.2 q1 s1) ++ wX0 Γ.2.2 q2 s2) ++ wX1 Γ.2.2 q3 s3) ++ wX5 Γ.2.2 q4 s4) ++ wX3 Γ.2.2 q5 s5) ++ wX6 Γ.2.2 q6 s6)) (q0 := 0) dX7_init_78 rfl pX7_54 (fun _ _ _ h => h) 0 rfl (Nat.le_of_ble_eq_true rfl) rfl ?_
  refine jv_aload_n (n := 82) dX7_init_81 rfl rfl ?_
  refine jv_iconst (n := 83) dX7_init_82 rfl ?_
  refine jv_newa (n := 85) (t := 0) (N := 5) (cl' := 36) (sl' := 612) dX7_init_83 rfl rfl jar_int (by decide) (fun _ => rfl) rfl (by decide) (by decide) (jz_i 5) rfl rfl ⟨by decide, by decide⟩ (fun q7 => ?_)
  refine jv_dup (n := 86) dX7_init_85 rfl rfl ?_
  refine jv_iconst (n := 87) dX7_init_86 rfl ?_
  refine jv_iconst (n := 88) dX7_init_87 rfl ?_
  refine jv_iast (n := 89) (N := 5) (f := jz) (ws' := (h0, .inr (7, [.ref q0, .ref q1, .ref q2, .ref q3, .ref q4, .ref q5, .ref q6, .null])) :: ((((((((wX2 Γ.2.2 q0 s0) ++ wX4 Γ.2.2 q1 s1) ++ wX0 Γ.2.2 q2 s2) ++ wX1 Γ.2.2 q3 s3) ++ wX5 Γ.2.2 q4 s4) ++ wX3 Γ.2.2 q5 s5) ++ wX6 Γ.2.2 q6 s6) ++ [(q7, jci (Γ.2.2 0) 5 (jfu jz 0 1))])) dX7_init_88 rfl 36 rfl (by decide) (by decide) (by decide) rfl ?_
  refine jv_dup (n := 90) dX7_init_89 rfl rfl ?_
  refine jv_iconst (n := 91) dX7_init_90 rfl ?_
  refine jv_iconst (n := 92) dX7_init_91 rfl ?_
  refine jv_iast (n := 93) (N := 5) (f := (jfu jz 0 1)) (ws' := (h0, .inr (7, [.ref q0, .ref q1, .ref q2, .ref q3, .ref q4, .ref q5, .ref q6, .null])) :: ((((((((wX2 Γ.2.2 q0 s0) ++ wX4 Γ.2.2 q1 s1) ++ wX0 Γ.2.2 q2 s2) ++ wX1 Γ.2.2 q3 s3) ++ wX5 Γ.2.2 q4 s4) ++ wX3 Γ.2.2 q5 s5) ++ wX6 Γ.2.2 q6 s6) ++ [(q7, jci (Γ.2.2 0) 5 (jfu (jfu jz 0 1) 1 4))])) dX7_init_92 rfl 36 rfl (by decide) (by decide) (by decide) rfl ?_
  refine jv_dup (n := 94) dX7_init_93 rfl rfl ?_
  refine jv_iconst (n := 95) dX7_init_94 rfl ?_
  refine jv_iconst (n := 96) dX7_init_95 rfl ?_
  refine jv_iast (n := 97) (N := 5) (f := (jfu (jfu jz 0 1) 1 4)) (ws' := (h0, .inr (7, [.ref q0, .ref q1, .ref q2, .ref q3, .ref q4, .ref q5, .ref q6, .null])) :: ((((((((wX2 Γ.2.2 q0 s0) ++ wX4 Γ.2.2 q1 s1) ++ wX0 Γ.2.2 q2 s2) ++ wX1 Γ.2.2 q3 s3) ++ wX5 Γ.2.2 q4 s4) ++ wX3 Γ.2.2 q5 s5) ++ wX6 Γ.2.2 q6 s6) ++ [(q7, jci (Γ.2.2 0) 5 (jfu (jfu (jfu jz 0 1) 1 4) 2 0))])) dX7_init_96 rfl 36 rfl (by decide) (by decide) (by decide) rfl ?_
  refine jv_dup (n := 98) dX7_init_97 rfl rfl ?_
  refine jv_iconst (n := 99) dX7_init_98 rfl ?_
  refine jv_iconst (n := 100) dX7_init_99 rfl ?_
  refine jv_iast (n := 101) (N := 5) (f := (jfu (jfu (jfu jz 0 1) 1 4) 2 0)) (ws' := (h0, .inr (7, [.ref q0, .ref q1, .ref q2, .ref q3, .ref q4, .ref q5, .ref q6, .null])) :: ((((((((wX2 Γ.2.2 q0 s0) ++ wX4 Γ.2.2 q1 s1) ++ wX0 Γ.2.2 q2 s2) ++ wX1 Γ.2.2 q3 s3) ++ wX5 Γ.2.2 q4 s4) ++ wX3 Γ.2.2 q5 s5) ++ wX6 Γ.2.2 q6 s6) ++ [(q7, jci (Γ.2.2 0) 5 (jfu (jfu (jfu (jfu jz 0 1) 1 4) 2 0) 3 0))])) dX7_init_100 rfl 36 rfl (by decide) (by decide) (by decide) rfl ?_
  refine jv_dup (n := 102) dX7_init_101 rfl rfl ?_
  refine jv_iconst (n := 103) dX7_init_102 rfl ?_
  refine jv_iconst (n := 104) dX7_init_103 rfl ?_
  refine jv_iast (n := 105) (N := 5) (f := (jfu (jfu (jfu (jfu jz 0 1) 1 4) 2 0) 3 0)) (ws' := (h0, .inr (7, [.ref q0, .ref q1, .ref q2, .ref q3, .ref q4, .ref q5, .ref q6, .null])) :: ((((((((wX2 Γ.2.2 q0 s0) ++ wX4 Γ.2.2 q1 s1) ++ wX0 Γ.2.2 q2 s2) ++ wX1 Γ.2.2 q3 s3) ++ wX5 Γ.2.2 q4 s4) ++ wX3 Γ.2.2 q5 s5) ++ wX6 Γ.2.2 q6 s6) ++ [(q7, jci (Γ.2.2 0) 5 (jfu (jfu (jfu (jfu (jfu jz 0 1) 1 4) 2 0) 3 0) 4 0))])) dX7_init_104 rfl 36 rfl (by decide) (by decide) (by decide) rfl ?_
  refine jv_put (n := 108) (ws' := (h0, .inr (7, [.ref q0, .ref q1, .ref q2, .ref q3, .ref q4, .ref q5, .ref q6, .ref q7])) :: ((((((((wX2 Γ.2.2 q0 s0) ++ wX4 Γ.2.2 q1 s1) ++ wX0 Γ.2.2 q2 s2) ++ wX1 Γ.2.2 q3 s3) ++ wX5 Γ.2.2 q4 s4) ++ wX3 Γ.2.2 q5 s5) ++ wX6 Γ.2.2 q6 s6) ++ [(q7, jci (Γ.2.2 0) 5 (jfu (jfu (jfu (jfu (jfu jz 0 1) 1 4) 2 0) 3 0) 4 0))])) (q0 := 0) dX7_init_105 rfl pX7_58 (fun _ _ _ h => h) 0 rfl (Nat.le_of_ble_eq_true rfl) rfl ?_
  exact jv_ret (fun k => [q0, s0 0, s0 1, s0 2, s0 3, s0 4, s0 5, s0 6, s0 7, q1, s1 0, s1 1, s1 2, q2, s2 0, q3, s3 0, s3 1, s3 2, s3 3, s3 4, s3 5, q4, s4 0, s4 1, s4 2, s4 3, s4 4, q5, s5 0, s5 1, s5 2, q6, s6 0, s6 1, q7].getD k 0) dX7_init_108 rfl rfl rfl rfl
set_option maxRecDepth 20000 in
theorem con_X8 (Γ : jΓ) : jcon Γ mX8_init 1 27 615 8 [.null, .null, .int (jI 0), .null, .null, .null, .null, .null, .int (jI 0), .null, .null, .null, .null, .null, .int (jI 0), .null, .null, .null, .null, .null, .null, .null, .null, .null, .null, .null, .int (jI 0), .null, .null, .null, .null] (wX8 Γ.2.2) := by
  refine jcon_of kX8_init rfl (by decide) rfl (fun h0 A => ?_)
  refine jv_aload_n (n := 1) dX8_init_0 rfl rfl ?_
  refine jv_obj (n := 4) dX8_init_1 rfl oX8_init ⟨by decide, by decide⟩ ?_
  refine jv_aload_n (n := 5) dX8_init_4 rfl rfl ?_
  refine jv_iconst (n := 6) dX8_init_5 rfl ?_
  refine jv_newa (n := 8) (t := 0) (N := 3) (cl' := 1) (sl' := 3) dX8_init_6 rfl rfl jar_int (by decide) (fun _ => rfl) rfl (by decide) (by decide) (jz_i 3) rfl rfl ⟨by decide, by decide⟩ (fun q0 => ?_)
  refine jv_put (n := 11) (ws' := [(h0, .inr (8, [.ref q0, .null, .int (jI 0), .null, .null, .null, .null, .null, .int (jI 0), .null, .null, .null, .null, .null, .int (jI 0), .null, .null, .null, .null, .null, .null, .null, .null, .null, .null, .null, .int (jI 0), .null, .null, .null, .null])), (q0, jci (Γ.2.2 0) 3 jz)]) (q0 := 0) dX8_init_8 rfl pX8_7 (fun _ _ _ h => h) 0 rfl (Nat.le_of_ble_eq_true rfl) rfl ?_
  refine jv_aload_n (n := 12) dX8_init_11 rfl rfl ?_
  refine jv_bipush (n := 14) dX8_init_12 rfl (by decide) ?_
  refine jv_newa (n := 16) (t := 0) (N := 18) (cl' := 2) (sl' := 21) dX8_init_14 rfl rfl jar_int (by decide) (fun _ => rfl) rfl (by decide) (by decide) (jz_i 18) rfl rfl ⟨by decide, by decide⟩ (fun q1 => ?_)
  refine jv_put (n := 19) (ws' := [(h0, .inr (8, [.ref q0, .ref q1, .int (jI 0), .null, .null, .null, .null, .null, .int (jI 0), .null, .null, .null, .null, .null, .int (jI 0), .null, .null, .null, .null, .null, .null, .null, .null, .null, .null, .null, .int (jI 0), .null, .null, .null, .null])), (q0, jci (Γ.2.2 0) 3 jz), (q1, jci (Γ.2.2 0) 18 jz)]) (q0 := 0) dX8_init_16 rfl pX8_13 (fun _ _ _ h => h) 0 rfl (Nat.le_of_ble_eq_true rfl) rfl ?_
  refine jv_aload_n (n := 20) dX8_init_19 rfl rfl ?_
  refine jv_bipush (n := 22) dX8_init_20 rfl (by decide) ?_
  refine jv_newa (n := 24) (t := 0) (N := 12) (cl' := 3) (sl' := 33) dX8_init_22 rfl rfl jar_int (by decide) (fun _ => rfl) rfl (by decide) (by decide) (jz_i 12) rfl rfl ⟨by decide, by decide⟩ (fun q2 => ?_)
  refine jv_put (n := 27) (ws' := [(h0, .inr (8, [.ref q0, .ref q1, .int (jI 0), .ref q2, .null, .null, .null, .null, .int (jI 0), .null, .null, .null, .null, .null, .int (jI 0), .null, .null, .null, .null, .null, .null, .null, .null, .null, .null, .null, .int (jI 0), .null, .null, .null, .null])), (q0, jci (Γ.2.2 0) 3 jz), (q1, jci (Γ.2.2 0) 18 jz), (q2, jci (Γ.2.2 0) 12 jz)]) (q0 := 0) dX8_init_24 rfl pX8_16 (fun _ _ _ h => h) 0 rfl (Nat.le_of_ble_eq_true rfl) rfl ?_
  refine jv_aload_n (n := 28) dX8_init_27 rfl rfl ?_
  refine jv_bipush (n := 30) dX8_init_28 rfl (by decide) ?_
  refine jv_newa (n := 32) (t := 0) (N := 12) (cl' := 4) (sl' := 45) dX8_init_30 rfl rfl jar_int (by decide) (fun _ => rfl) rfl (by decide) (by decide) (jz_i 12) rfl rfl ⟨by decide, by decide⟩ (fun q3 => ?_)
  refine jv_put (n := 35) (ws' := [(h0, .inr (8, [.ref q0, .ref q1, .int (jI 0), .ref q2, .ref q3, .null, .null, .null, .int (jI 0), .null, .null, .null, .null, .null, .int (jI 0), .null, .null, .null, .null, .null, .null, .null, .null, .null, .null, .null, .int (jI 0), .null, .null, .null, .null])), (q0, jci (Γ.2.2 0) 3 jz), (q1, jci (Γ.2.2 0) 18 jz), (q2, jci (Γ.2.2 0) 12 jz), (q3, jci (Γ.2.2 0) 12 jz)]) (q0 := 0) dX8_init_32 rfl pX8_19 (fun _ _ _ h => h) 0 rfl (Nat.le_of_ble_eq_true rfl) rfl ?_
  refine jv_aload_n (n := 36) dX8_init_35 rfl rfl ?_
  refine jv_bipush (n := 38) dX8_init_36 rfl (by decide) ?_
  refine jv_newa (n := 40) (t := 0) (N := 12) (cl' := 5) (sl' := 57) dX8_init_38 rfl rfl jar_int (by decide) (fun _ => rfl) rfl (by decide) (by decide) (jz_i 12) rfl rfl ⟨by decide, by decide⟩ (fun q4 => ?_)
  refine jv_put (n := 43) (ws' := [(h0, .inr (8, [.ref q0, .ref q1, .int (jI 0), .ref q2, .ref q3, .ref q4, .null, .null, .int (jI 0), .null, .null, .null, .null, .null, .int (jI 0), .null, .null, .null, .null, .null, .null, .null, .null, .null, .null, .null, .int (jI 0), .null, .null, .null, .null])), (q0, jci (Γ.2.2 0) 3 jz), (q1, jci (Γ.2.2 0) 18 jz), (q2, jci (Γ.2.2 0) 12 jz), (q3, jci (Γ.2.2 0) 12 jz), (q4, jci (Γ.2.2 0) 12 jz)]) (q0 := 0) dX8_init_40 rfl pX8_22 (fun _ _ _ h => h) 0 rfl (Nat.le_of_ble_eq_true rfl) rfl ?_
  refine jv_aload_n (n := 44) dX8_init_43 rfl rfl ?_
  refine jv_bipush (n := 46) dX8_init_44 rfl (by decide) ?_
  refine jv_newa (n := 48) (t := 0) (N := 12) (cl' := 6) (sl' := 69) dX8_init_46 rfl rfl jar_int (by decide) (fun _ => rfl) rfl (by decide) (by decide) (jz_i 12) rfl rfl ⟨by decide, by decide⟩ (fun q5 => ?_)
  refine jv_put (n := 51) (ws' := [(h0, .inr (8, [.ref q0, .ref q1, .int (jI 0), .ref q2, .ref q3, .ref q4, .ref q5, .null, .int (jI 0), .null, .null, .null, .null, .null, .int (jI 0), .null, .null, .null, .null, .null, .null, .null, .null, .null, .null, .null, .int (jI 0), .null, .null, .null, .null])), (q0, jci (Γ.2.2 0) 3 jz), (q1, jci (Γ.2.2 0) 18 jz), (q2, jci (Γ.2.2 0) 12 jz), (q3, jci (Γ.2.2 0) 12 jz), (q4, jci (Γ.2.2 0) 12 jz), (q5, jci (Γ.2.2 0) 12 jz)]) (q0 := 0) dX8_init_48 rfl pX8_25 (fun _ _ _ h => h) 0 rfl (Nat.le_of_ble_eq_true rfl) rfl ?_
  refine jv_aload_n (n := 52) dX8_init_51 rfl rfl ?_
  refine jv_bipush (n := 54) dX8_init_52 rfl (by decide) ?_
  refine jv_newa (n := 56) (t := 0) (N := 12) (cl' := 7) (sl' := 81) dX8_init_54 rfl rfl jar_int (by decide) (fun _ => rfl) rfl (by decide) (by decide) (jz_i 12) rfl rfl ⟨by decide, by decide⟩ (fun q6 => ?_)
  refine jv_put (n := 59) (ws' := [(h0, .inr (8, [.ref q0, .ref q1, .int (jI 0), .ref q2, .ref q3, .ref q4, .ref q5, .ref q6, .int (jI 0), .null, .null, .null, .null, .null, .int (jI 0), .null, .null, .null, .null, .null, .null, .null, .null, .null, .null, .null, .int (jI 0), .null, .null, .null, .null])), (q0, jci (Γ.2.2 0) 3 jz), (q1, jci (Γ.2.2 0) 18 jz), (q2, jci (Γ.2.2 0) 12 jz), (q3, jci (Γ.2.2 0) 12 jz), (q4, jci (Γ.2.2 0) 12 jz), (q5, jci (Γ.2.2 0) 12 jz), (q6, jci (Γ.2.2 0) 12 jz)]) (q0 := 0) dX8_init_56 rfl pX8_28 (fun _ _ _ h => h) 0 rfl (Nat.le_of_ble_eq_true rfl) rfl ?_
  refine jv_aload_n (n := 60) dX8_init_59 rfl rfl ?_
  refine jv_bipush (n := 62) dX8_init_60 rfl (by decide) ?_
  refine jv_newa (n := 64) (t := 0) (N := 10) (cl' := 8) (sl' := 91) dX8_init_62 rfl rfl jar_int (by decide) (fun _ => rfl) rfl (by decide) (by decide) (jz_i 10) rfl rfl ⟨by decide, by decide⟩ (fun q7 => ?_)
  refine jv_put (n := 67) (ws' := [(h0, .inr (8, [.ref q0, .ref q1, .int (jI 0), .ref q2, .ref q3, .ref q4, .ref q5, .ref q6, .int (jI 0), .ref q7, .null, .null, .null, .null, .int (jI 0), .null, .null, .null, .null, .null, .null, .null, .null, .null, .null, .null, .int (jI 0), .null, .null, .null, .null])), (q0, jci (Γ.2.2 0) 3 jz), (q1, jci (Γ.2.2 0) 18 jz), (q2, jci (Γ.2.2 0) 12 jz), (q3, jci (Γ.2.2 0) 12 jz), (q4, jci (Γ.2.2 0) 12 jz), (q5, jci (Γ.2.2 0) 12 jz), (q6, jci (Γ.2.2 0) 12 jz), (q7, jci (Γ.2.2 0) 10 jz)]) (q0 := 0) dX8_init_64 rfl pX8_31 (fun _ _ _ h => h) 0 rfl (Nat.le_of_ble_eq_true rfl) rfl ?_
  refine jv_aload_n (n := 68) dX8_init_67 rfl rfl ?_
  refine jv_bipush (n := 70) dX8_init_68 rfl (by decide) ?_
  refine jv_newa (n := 72) (t := 0) (N := 10) (cl' := 9) (sl' := 101) dX8_init_70 rfl rfl jar_int (by decide) (fun _ => rfl) rfl (by decide) (by decide) (jz_i 10) rfl rfl ⟨by decide, by decide⟩ (fun q8 => ?_)
  refine jv_put (n := 75) (ws' := [(h0, .inr (8, [.ref q0, .ref q1, .int (jI 0), .ref q2, .ref q3, .ref q4, .ref q5, .ref q6, .int (jI 0), .ref q7, .ref q8, .null, .null, .null, .int (jI 0), .null, .null, .null, .null, .null, .null, .null, .null, .null, .null, .null, .int (jI 0), .null, .null, .null, .null])), (q0, jci (Γ.2.2 0) 3 jz), (q1, jci (Γ.2.2 0) 18 jz), (q2, jci (Γ.2.2 0) 12 jz), (q3, jci (Γ.2.2 0) 12 jz), (q4, jci (Γ.2.2 0) 12 jz), (q5, jci (Γ.2.2 0) 12 jz), (q6, jci (Γ.2.2 0) 12 jz), (q7, jci (Γ.2.2 0) 10 jz), (q8, jci (Γ.2.2 0) 10 jz)]) (q0 := 0) dX8_init_72 rfl pX8_34 (fun _ _ _ h => h) 0 rfl (Nat.le_of_ble_eq_true rfl) rfl ?_
  refine jv_aload_n (n := 76) dX8_init_75 rfl rfl ?_
  refine jv_bipush (n := 78) dX8_init_76 rfl (by decide) ?_
  refine jv_newa (n := 80) (t := 0) (N := 10) (cl' := 10) (sl' := 111) dX8_init_78 rfl rfl jar_int (by decide) (fun _ => rfl) rfl (by decide) (by decide) (jz_i 10) rfl rfl ⟨by decide, by decide⟩ (fun q9 => ?_)
  refine jv_put (n := 83) (ws' := [(h0, .inr (8, [.ref q0, .ref q1, .int (jI 0), .ref q2, .ref q3, .ref q4, .ref q5, .ref q6, .int (jI 0), .ref q7, .ref q8, .ref q9, .null, .null, .int (jI 0), .null, .null, .null, .null, .null, .null, .null, .null, .null, .null, .null, .int (jI 0), .null, .null, .null, .null])), (q0, jci (Γ.2.2 0) 3 jz), (q1, jci (Γ.2.2 0) 18 jz), (q2, jci (Γ.2.2 0) 12 jz), (q3, jci (Γ.2.2 0) 12 jz), (q4, jci (Γ.2.2 0) 12 jz), (q5, jci (Γ.2.2 0) 12 jz), (q6, jci (Γ.2.2 0) 12 jz), (q7, jci (Γ.2.2 0) 10 jz), (q8, jci (Γ.2.2 0) 10 jz), (q9, jci (Γ.2.2 0) 10 jz)]) (q0 := 0) dX8_init_80 rfl pX8_37 (fun _ _ _ h => h) 0 rfl (Nat.le_of_ble_eq_true rfl) rfl ?_
  refine jv_aload_n (n := 84) dX8_init_83 rfl rfl ?_
  refine jv_bipush (n := 86) dX8_init_84 rfl (by decide) ?_
  refine jv_newa (n := 88) (t := 0) (N := 120) (cl' := 11) (sl' := 231) dX8_init_86 rfl rfl jar_int (by decide) (fun _ => rfl) rfl (by decide) (by decide) (jz_i 120) rfl rfl ⟨by decide, by decide⟩ (fun q10 => ?_)
  refine jv_put (n := 91) (ws' := [(h0, .inr (8, [.ref q0, .ref q1, .int (jI 0), .ref q2, .ref q3, .ref q4, .ref q5, .ref q6, .int (jI 0), .ref q7, .ref q8, .ref q9, .ref q10, .null, .int (jI 0), .null, .null, .null, .null, .null, .null, .null, .null, .null, .null, .null, .int (jI 0), .null, .null, .null, .null])), (q0, jci (Γ.2.2 0) 3 jz), (q1, jci (Γ.2.2 0) 18 jz), (q2, jci (Γ.2.2 0) 12 jz), (q3, jci (Γ.2.2 0) 12 jz), (q4, jci (Γ.2.2 0) 12 jz), (q5, jci (Γ.2.2 0) 12 jz), (q6, jci (Γ.2.2 0) 12 jz), (q7, jci (Γ.2.2 0) 10 jz), (q8, jci (Γ.2.2 0) 10 jz), (q9, jci (Γ.2.2 0) 10 jz), (q10, jci (Γ.2.2 0) 120 jz)]) (q0 := 0) dX8_init_88 rfl pX8_40 (fun _ _ _ h => h) 0 rfl (Nat.le_of_ble_eq_true rfl) rfl ?_
  refine jv_aload_n (n := 92) dX8_init_91 rfl rfl ?_
  refine jv_iconst (n := 93) dX8_init_92 rfl ?_
  refine jv_newa (n := 95) (t := 0) (N := 5) (cl' := 12) (sl' := 236) dX8_init_93 rfl rfl jar_int (by decide) (fun _ => rfl) rfl (by decide) (by decide) (jz_i 5) rfl rfl ⟨by decide, by decide⟩ (fun q11 => ?_)
  refine jv_put (n := 98) (ws' := [(h0, .inr (8, [.ref q0, .ref q1, .int (jI 0), .ref q2, .ref q3, .ref q4, .ref q5, .ref q6, .int (jI 0), .ref q7, .ref q8, .ref q9, .ref q10, .ref q11, .int (jI 0), .null, .null, .null, .null, .null, .null, .null, .null, .null, .null, .null, .int (jI 0), .null, .null, .null, .null])), (q0, jci (Γ.2.2 0) 3 jz), (q1, jci (Γ.2.2 0) 18 jz), (q2, jci (Γ.2.2 0) 12 jz), (q3, jci (Γ.2.2 0) 12 jz), (q4, jci (Γ.2.2 0) 12 jz), (q5, jci (Γ.2.2 0) 12 jz), (q6, jci (Γ.2.2 0) 12 jz), (q7, jci (Γ.2.2 0) 10 jz), (q8, jci (Γ.2.2 0) 10 jz), (q9, jci (Γ.2.2 0) 10 jz), (q10, jci (Γ.2.2 0) 120 jz), (q11, jci (Γ.2.2 0) 5 jz)]) (q0 := 0) dX8_init_95 rfl pX8_43 (fun _ _ _ h => h) 0 rfl (Nat.le_of_ble_eq_true rfl) rfl ?_
  refine jv_aload_n (n := 99) dX8_init_98 rfl rfl ?_
  refine jv_bipush (n := 101) dX8_init_99 rfl (by decide) ?_
  refine jv_newa (n := 103) (t := 0) (N := 60) (cl' := 13) (sl' := 296) dX8_init_101 rfl rfl jar_int (by decide) (fun _ => rfl) rfl (by decide) (by decide) (jz_i 60) rfl rfl ⟨by decide, by decide⟩ (fun q12 => ?_)
  refine jv_put (n := 106) (ws' := [(h0, .inr (8, [.ref q0, .ref q1, .int (jI 0), .ref q2, .ref q3, .ref q4, .ref q5, .ref q6, .int (jI 0), .ref q7, .ref q8, .ref q9, .ref q10, .ref q11, .int (jI 0), .ref q12, .null, .null, .null, .null, .null, .null, .null, .null, .null, .null, .int (jI 0), .null, .null, .null, .null])), (q0, jci (Γ.2.2 0) 3 jz), (q1, jci (Γ.2.2 0) 18 jz), (q2, jci (Γ.2.2 0) 12 jz), (q3, jci (Γ.2.2 0) 12 jz), (q4, jci (Γ.2.2 0) 12 jz), (q5, jci (Γ.2.2 0) 12 jz), (q6, jci (Γ.2.2 0) 12 jz), (q7, jci (Γ.2.2 0) 10 jz), (q8, jci (Γ.2.2 0) 10 jz), (q9, jci (Γ.2.2 0) 10 jz), (q10, jci (Γ.2.2 0) 120 jz), (q11, jci (Γ.2.2 0) 5 jz), (q12, jci (Γ.2.2 0) 60 jz)]) (q0 := 0) dX8_init_103 rfl pX8_46 (fun _ _ _ h => h) 0 rfl (Nat.le_of_ble_eq_true rfl) rfl ?_
  refine jv_aload_n (n := 107) dX8_init_106 rfl rfl ?_
  refine jv_bipush (n := 109) dX8_init_107 rfl (by decide) ?_
  refine jv_newa (n := 111) (t := 0) (N := 60) (cl' := 14) (sl' := 356) dX8_init_109 rfl rfl jar_int (by decide) (fun _ => rfl) rfl (by decide) (by decide) (jz_i 60) rfl rfl ⟨by decide, by decide⟩ (fun q13 => ?_)
  refine jv_put (n := 114) (ws' := [(h0, .inr (8, [.ref q0, .ref q1, .int (jI 0), .ref q2, .ref q3, .ref q4, .ref q5, .ref q6, .int (jI 0), .ref q7, .ref q8, .ref q9, .ref q10, .ref q11, .int (jI 0), .ref q12, .ref q13, .null, .null, .null, .null, .null, .null, .null, .null, .null, .int (jI 0), .null, .null, .null, .null])), (q0, jci (Γ.2.2 0) 3 jz), (q1, jci (Γ.2.2 0) 18 jz), (q2, jci (Γ.2.2 0) 12 jz), (q3, jci (Γ.2.2 0) 12 jz), (q4, jci (Γ.2.2 0) 12 jz), (q5, jci (Γ.2.2 0) 12 jz), (q6, jci (Γ.2.2 0) 12 jz), (q7, jci (Γ.2.2 0) 10 jz), (q8, jci (Γ.2.2 0) 10 jz), (q9, jci (Γ.2.2 0) 10 jz), (q10, jci (Γ.2.2 0) 120 jz), (q11, jci (Γ.2.2 0) 5 jz), (q12, jci (Γ.2.2 0) 60 jz), (q13, jci (Γ.2.2 0) 60 jz)]) (q0 := 0) dX8_init_111 rfl pX8_49 (fun _ _ _ h => h) 0 rfl (Nat.le_of_ble_eq_true rfl) rfl ?_
  refine jv_aload_n (n := 115) dX8_init_114 rfl rfl ?_
  refine jv_bipush (n := 117) dX8_init_115 rfl (by decide) ?_
  refine jv_newa (n := 119) (t := 0) (N := 60) (cl' := 15) (sl' := 416) dX8_init_117 rfl rfl jar_int (by decide) (fun _ => rfl) rfl (by decide) (by decide) (jz_i 60) rfl rfl ⟨by decide, by decide⟩ (fun q14 => ?_)
  refine jv_put (n := 122) (ws' := [(h0, .inr (8, [.ref q0, .ref q1, .int (jI 0), .ref q2, .ref q3, .ref q4, .ref q5, .ref q6, .int (jI 0), .ref q7, .ref q8, .ref q9, .ref q10, .ref q11, .int (jI 0), .ref q12, .ref q13, .ref q14, .null, .null, .null, .null, .null, .null, .null, .null, .int (jI 0), .null, .null, .null, .null])), (q0, jci (Γ.2.2 0) 3 jz), (q1, jci (Γ.2.2 0) 18 jz), (q2, jci (Γ.2.2 0) 12 jz), (q3, jci (Γ.2.2 0) 12 jz), (q4, jci (Γ.2.2 0) 12 jz), (q5, jci (Γ.2.2 0) 12 jz), (q6, jci (Γ.2.2 0) 12 jz), (q7, jci (Γ.2.2 0) 10 jz), (q8, jci (Γ.2.2 0) 10 jz), (q9, jci (Γ.2.2 0) 10 jz), (q10, jci (Γ.2.2 0) 120 jz), (q11, jci (Γ.2.2 0) 5 jz), (q12, jci (Γ.2.2 0) 60 jz), (q13, jci (Γ.2.2 0) 60 jz), (q14, jci (Γ.2.2 0) 60 jz)]) (q0 := 0) dX8_init_119 rfl pX8_52 (fun _ _ _ h => h) 0 rfl (Nat.le_of_ble_eq_true rfl) rfl ?_
  refine jv_aload_n (n := 123) dX8_init_122 rfl rfl ?_
  refine jv_iconst (n := 124) dX8_init_123 rfl ?_
  refine jv_newa (n := 126) (t := 0) (N := 2) (cl' := 16) (sl' := 418) dX8_init_124 rfl rfl jar_int (by decide) (fun _ => rfl) rfl (by decide) (by decide) (jz_i 2) rfl rfl ⟨by decide, by decide⟩ (fun q15 => ?_)
  refine jv_put (n := 129) (ws' := [(h0, .inr (8, [.ref q0, .ref q1, .int (jI 0), .ref q2, .ref q3, .ref q4, .ref q5, .ref q6, .int (jI 0), .ref q7, .ref q8, .ref q9, .ref q10, .ref q11, .int (jI 0), .ref q12, .ref q13, .ref q14, .ref q15, .null, .null, .null, .null, .null, .null, .null, .int (jI 0), .null, .null, .null, .null])), (q0, jci (Γ.2.2 0) 3 jz), (q1, jci (Γ.2.2 0) 18 jz), (q2, jci (Γ.2.2 0) 12 jz), (q3, jci (Γ.2.2 0) 12 jz), (q4, jci (Γ.2.2 0) 12 jz), (q5, jci (Γ.2.2 0) 12 jz), (q6, jci (Γ.2.2 0) 12 jz), (q7, jci (Γ.2.2 0) 10 jz), (q8, jci (Γ.2.2 0) 10 jz), (q9, jci (Γ.2.2 0) 10 jz), (q10, jci (Γ.2.2 0) 120 jz), (q11, jci (Γ.2.2 0) 5 jz), (q12, jci (Γ.2.2 0) 60 jz), (q13, jci (Γ.2.2 0) 60 jz), (q14, jci (Γ.2.2 0) 60 jz), (q15, jci (Γ.2.2 0) 2 jz)]) (q0 := 0) dX8_init_126 rfl pX8_55 (fun _ _ _ h => h) 0 rfl (Nat.le_of_ble_eq_true rfl) rfl ?_
  refine jv_aload_n (n := 130) dX8_init_129 rfl rfl ?_
  refine jv_bipush (n := 132) dX8_init_130 rfl (by decide) ?_
  refine jv_newa (n := 134) (t := 0) (N := 24) (cl' := 17) (sl' := 442) dX8_init_132 rfl rfl jar_int (by decide) (fun _ => rfl) rfl (by decide) (by decide) (jz_i 24) rfl rfl ⟨by decide, by decide⟩ (fun q16 => ?_)
  refine jv_put (n := 137) (ws' := [(h0, .inr (8, [.ref q0, .ref q1, .int (jI 0), .ref q2, .ref q3, .ref q4, .ref q5, .ref q6, .int (jI 0), .ref q7, .ref q8, .ref q9, .ref q10, .ref q11, .int (jI 0), .ref q12, .ref q13, .ref q14, .ref q15, .ref q16, .null, .null, .null, .null, .null, .null, .int (jI 0), .null, .null, .null, .null])), (q0, jci (Γ.2.2 0) 3 jz), (q1, jci (Γ.2.2 0) 18 jz), (q2, jci (Γ.2.2 0) 12 jz), (q3, jci (Γ.2.2 0) 12 jz), (q4, jci (Γ.2.2 0) 12 jz), (q5, jci (Γ.2.2 0) 12 jz), (q6, jci (Γ.2.2 0) 12 jz), (q7, jci (Γ.2.2 0) 10 jz), (q8, jci (Γ.2.2 0) 10 jz), (q9, jci (Γ.2.2 0) 10 jz), (q10, jci (Γ.2.2 0) 120 jz), (q11, jci (Γ.2.2 0) 5 jz), (q12, jci (Γ.2.2 0) 60 jz), (q13, jci (Γ.2.2 0) 60 jz), (q14, jci (Γ.2.2 0) 60 jz), (q15, jci (Γ.2.2 0) 2 jz), (q16, jci (Γ.2.2 0) 24 jz)]) (q0 := 0) dX8_init_134 rfl pX8_58 (fun _ _ _ h => h) 0 rfl (Nat.le_of_ble_eq_true rfl) rfl ?_
  refine jv_aload_n (n := 138) dX8_init_137 rfl rfl ?_
  refine jv_bipush (n := 140) dX8_init_138 rfl (by decide) ?_
  refine jv_newa (n := 142) (t := 1) (N := 49) (cl' := 18) (sl' := 491) dX8_init_140 rfl rfl jar_long (by decide) (fun _ => rfl) rfl (by decide) (by decide) (jz_l 49) rfl rfl ⟨by decide, by decide⟩ (fun q17 => ?_)
  refine jv_put (n := 145) (ws' := [(h0, .inr (8, [.ref q0, .ref q1, .int (jI 0), .ref q2, .ref q3, .ref q4, .ref q5, .ref q6, .int (jI 0), .ref q7, .ref q8, .ref q9, .ref q10, .ref q11, .int (jI 0), .ref q12, .ref q13, .ref q14, .ref q15, .ref q16, .ref q17, .null, .null, .null, .null, .null, .int (jI 0), .null, .null, .null, .null])), (q0, jci (Γ.2.2 0) 3 jz), (q1, jci (Γ.2.2 0) 18 jz), (q2, jci (Γ.2.2 0) 12 jz), (q3, jci (Γ.2.2 0) 12 jz), (q4, jci (Γ.2.2 0) 12 jz), (q5, jci (Γ.2.2 0) 12 jz), (q6, jci (Γ.2.2 0) 12 jz), (q7, jci (Γ.2.2 0) 10 jz), (q8, jci (Γ.2.2 0) 10 jz), (q9, jci (Γ.2.2 0) 10 jz), (q10, jci (Γ.2.2 0) 120 jz), (q11, jci (Γ.2.2 0) 5 jz), (q12, jci (Γ.2.2 0) 60 jz), (q13, jci (Γ.2.2 0) 60 jz), (q14, jci (Γ.2.2 0) 60 jz), (q15, jci (Γ.2.2 0) 2 jz), (q16, jci (Γ.2.2 0) 24 jz), (q17, jcl (Γ.2.2 1) 49 jz)]) (q0 := 0) dX8_init_142 rfl pX8_61 (fun _ _ _ h => h) 0 rfl (Nat.le_of_ble_eq_true rfl) rfl ?_
  refine jv_aload_n (n := 146) dX8_init_145 rfl rfl ?_
  refine jv_bipush (n := 148) dX8_init_146 rfl (by decide) ?_
  refine jv_newa (n := 150) (t := 1) (N := 49) (cl' := 19) (sl' := 540) dX8_init_148 rfl rfl jar_long (by decide) (fun _ => rfl) rfl (by decide) (by decide) (jz_l 49) rfl rfl ⟨by decide, by decide⟩ (fun q18 => ?_)
  refine jv_put (n := 153) (ws' := [(h0, .inr (8, [.ref q0, .ref q1, .int (jI 0), .ref q2, .ref q3, .ref q4, .ref q5, .ref q6, .int (jI 0), .ref q7, .ref q8, .ref q9, .ref q10, .ref q11, .int (jI 0), .ref q12, .ref q13, .ref q14, .ref q15, .ref q16, .ref q17, .ref q18, .null, .null, .null, .null, .int (jI 0), .null, .null, .null, .null])), (q0, jci (Γ.2.2 0) 3 jz), (q1, jci (Γ.2.2 0) 18 jz), (q2, jci (Γ.2.2 0) 12 jz), (q3, jci (Γ.2.2 0) 12 jz), (q4, jci (Γ.2.2 0) 12 jz), (q5, jci (Γ.2.2 0) 12 jz), (q6, jci (Γ.2.2 0) 12 jz), (q7, jci (Γ.2.2 0) 10 jz), (q8, jci (Γ.2.2 0) 10 jz), (q9, jci (Γ.2.2 0) 10 jz), (q10, jci (Γ.2.2 0) 120 jz), (q11, jci (Γ.2.2 0) 5 jz), (q12, jci (Γ.2.2 0) 60 jz), (q13, jci (Γ.2.2 0) 60 jz), (q14, jci (Γ.2.2 0) 60 jz), (q15, jci (Γ.2.2 0) 2 jz), (q16, jci (Γ.2.2 0) 24 jz), (q17, jcl (Γ.2.2 1) 49 jz), (q18, jcl (Γ.2.2 1) 49 jz)]) (q0 := 0) dX8_init_150 rfl pX8_65 (fun _ _ _ h => h) 0 rfl (Nat.le_of_ble_eq_true rfl) rfl ?_
  refine jv_aload_n (n := 154) dX8_init_153 rfl rfl ?_
  refine jv_bipush (n := 156) dX8_init_154 rfl (by decide) ?_
  refine jv_newa (n := 158) (t := 0) (N := 12) (cl' := 20) (sl' := 552) dX8_init_156 rfl rfl jar_int (by decide) (fun _ => rfl) rfl (by decide) (by decide) (jz_i 12) rfl rfl ⟨by decide, by decide⟩ (fun q19 => ?_)
  refine jv_put (n := 161) (ws' := [(h0, .inr (8, [.ref q0, .ref q1, .int (jI 0), .ref q2, .ref q3, .ref q4, .ref q5, .ref q6, .int (jI 0), .ref q7, .ref q8, .ref q9, .ref q10, .ref q11, .int (jI 0), .ref q12, .ref q13, .ref q14, .ref q15, .ref q16, .ref q17, .ref q18, .ref q19, .null, .null, .null, .int (jI 0), .null, .null, .null, .null])), (q0, jci (Γ.2.2 0) 3 jz), (q1, jci (Γ.2.2 0) 18 jz), (q2, jci (Γ.2.2 0) 12 jz), (q3, jci (Γ.2.2 0) 12 jz), (q4, jci (Γ.2.2 0) 12 jz), (q5, jci (Γ.2.2 0) 12 jz), (q6, jci (Γ.2.2 0) 12 jz), (q7, jci (Γ.2.2 0) 10 jz), (q8, jci (Γ.2.2 0) 10 jz), (q9, jci (Γ.2.2 0) 10 jz), (q10, jci (Γ.2.2 0) 120 jz), (q11, jci (Γ.2.2 0) 5 jz), (q12, jci (Γ.2.2 0) 60 jz), (q13, jci (Γ.2.2 0) 60 jz), (q14, jci (Γ.2.2 0) 60 jz), (q15, jci (Γ.2.2 0) 2 jz), (q16, jci (Γ.2.2 0) 24 jz), (q17, jcl (Γ.2.2 1) 49 jz), (q18, jcl (Γ.2.2 1) 49 jz), (q19, jci (Γ.2.2 0) 12 jz)]) (q0 := 0) dX8_init_158 rfl pX8_68 (fun _ _ _ h => h) 0 rfl (Nat.le_of_ble_eq_true rfl) rfl ?_
  refine jv_aload_n (n := 162) dX8_init_161 rfl rfl ?_
  refine jv_bipush (n := 164) dX8_init_162 rfl (by decide) ?_
  refine jv_newa (n := 166) (t := 0) (N := 12) (cl' := 21) (sl' := 564) dX8_init_164 rfl rfl jar_int (by decide) (fun _ => rfl) rfl (by decide) (by decide) (jz_i 12) rfl rfl ⟨by decide, by decide⟩ (fun q20 => ?_)
  refine jv_put (n := 169) (ws' := [(h0, .inr (8, [.ref q0, .ref q1, .int (jI 0), .ref q2, .ref q3, .ref q4, .ref q5, .ref q6, .int (jI 0), .ref q7, .ref q8, .ref q9, .ref q10, .ref q11, .int (jI 0), .ref q12, .ref q13, .ref q14, .ref q15, .ref q16, .ref q17, .ref q18, .ref q19, .ref q20, .null, .null, .int (jI 0), .null, .null, .null, .null])), (q0, jci (Γ.2.2 0) 3 jz), (q1, jci (Γ.2.2 0) 18 jz), (q2, jci (Γ.2.2 0) 12 jz), (q3, jci (Γ.2.2 0) 12 jz), (q4, jci (Γ.2.2 0) 12 jz), (q5, jci (Γ.2.2 0) 12 jz), (q6, jci (Γ.2.2 0) 12 jz), (q7, jci (Γ.2.2 0) 10 jz), (q8, jci (Γ.2.2 0) 10 jz), (q9, jci (Γ.2.2 0) 10 jz), (q10, jci (Γ.2.2 0) 120 jz), (q11, jci (Γ.2.2 0) 5 jz), (q12, jci (Γ.2.2 0) 60 jz), (q13, jci (Γ.2.2 0) 60 jz), (q14, jci (Γ.2.2 0) 60 jz), (q15, jci (Γ.2.2 0) 2 jz), (q16, jci (Γ.2.2 0) 24 jz), (q17, jcl (Γ.2.2 1) 49 jz), (q18, jcl (Γ.2.2 1) 49 jz), (q19, jci (Γ.2.2 0) 12 jz), (q20, jci (Γ.2.2 0) 12 jz)]) (q0 := 0) dX8_init_166 rfl pX8_71 (fun _ _ _ h => h) 0 rfl (Nat.le_of_ble_eq_true rfl) rfl ?_
  refine jv_aload_n (n := 170) dX8_init_169 rfl rfl ?_
  refine jv_bipush (n := 172) dX8_init_170 rfl (by decide) ?_
  refine jv_newa (n := 174) (t := 0) (N := 6) (cl' := 22) (sl' := 570) dX8_init_172 rfl rfl jar_int (by decide) (fun _ => rfl) rfl (by decide) (by decide) (jz_i 6) rfl rfl ⟨by decide, by decide⟩ (fun q21 => ?_)
  refine jv_put (n := 177) (ws' := [(h0, .inr (8, [.ref q0, .ref q1, .int (jI 0), .ref q2, .ref q3, .ref q4, .ref q5, .ref q6, .int (jI 0), .ref q7, .ref q8, .ref q9, .ref q10, .ref q11, .int (jI 0), .ref q12, .ref q13, .ref q14, .ref q15, .ref q16, .ref q17, .ref q18, .ref q19, .ref q20, .ref q21, .null, .int (jI 0), .null, .null, .null, .null])), (q0, jci (Γ.2.2 0) 3 jz), (q1, jci (Γ.2.2 0) 18 jz), (q2, jci (Γ.2.2 0) 12 jz), (q3, jci (Γ.2.2 0) 12 jz), (q4, jci (Γ.2.2 0) 12 jz), (q5, jci (Γ.2.2 0) 12 jz), (q6, jci (Γ.2.2 0) 12 jz), (q7, jci (Γ.2.2 0) 10 jz), (q8, jci (Γ.2.2 0) 10 jz), (q9, jci (Γ.2.2 0) 10 jz), (q10, jci (Γ.2.2 0) 120 jz), (q11, jci (Γ.2.2 0) 5 jz), (q12, jci (Γ.2.2 0) 60 jz), (q13, jci (Γ.2.2 0) 60 jz), (q14, jci (Γ.2.2 0) 60 jz), (q15, jci (Γ.2.2 0) 2 jz), (q16, jci (Γ.2.2 0) 24 jz), (q17, jcl (Γ.2.2 1) 49 jz), (q18, jcl (Γ.2.2 1) 49 jz), (q19, jci (Γ.2.2 0) 12 jz), (q20, jci (Γ.2.2 0) 12 jz), (q21, jci (Γ.2.2 0) 6 jz)]) (q0 := 0) dX8_init_174 rfl pX8_74 (fun _ _ _ h => h) 0 rfl (Nat.le_of_ble_eq_true rfl) rfl ?_
  refine jv_aload_n (n := 178) dX8_init_177 rfl rfl ?_
  refine jv_iconst (n := 179) dX8_init_178 rfl ?_
  refine jv_newa (n := 181) (t := 0) (N := 3) (cl' := 23) (sl' := 573) dX8_init_179 rfl rfl jar_int (by decide) (fun _ => rfl) rfl (by decide) (by decide) (jz_i 3) rfl rfl ⟨by decide, by decide⟩ (fun q22 => ?_)
  refine jv_put (n := 184) (ws' := [(h0, .inr (8, [.ref q0, .ref q1, .int (jI 0), .ref q2, .ref q3, .ref q4, .ref q5, .ref q6, .int (jI 0), .ref q7, .ref q8, .ref q9, .ref q10, .ref q11, .int (jI 0), .ref q12, .ref q13, .ref q14, .ref q15, .ref q16, .ref q17, .ref q18, .ref q19, .ref q20, .ref q21, .ref q22, .int (jI 0), .null, .null, .null, .null])), (q0, jci (Γ.2.2 0) 3 jz), (q1, jci (Γ.2.2 0) 18 jz), (q2, jci (Γ.2.2 0) 12 jz), (q3, jci (Γ.2.2 0) 12 jz), (q4, jci (Γ.2.2 0) 12 jz), (q5, jci (Γ.2.2 0) 12 jz), (q6, jci (Γ.2.2 0) 12 jz), (q7, jci (Γ.2.2 0) 10 jz), (q8, jci (Γ.2.2 0) 10 jz), (q9, jci (Γ.2.2 0) 10 jz), (q10, jci (Γ.2.2 0) 120 jz), (q11, jci (Γ.2.2 0) 5 jz), (q12, jci (Γ.2.2 0) 60 jz), (q13, jci (Γ.2.2 0) 60 jz), (q14, jci (Γ.2.2 0) 60 jz), (q15, jci (Γ.2.2 0) 2 jz), (q16, jci (Γ.2.2 0) 24 jz), (q17, jcl (Γ.2.2 1) 49 jz), (q18, jcl (Γ.2.2 1) 49 jz), (q19, jci (Γ.2.2 0) 12 jz), (q20, jci (Γ.2.2 0) 12 jz), (q21, jci (Γ.2.2 0) 6 jz), (q22, jci (Γ.2.2 0) 3 jz)]) (q0 := 0) dX8_init_181 rfl pX8_77 (fun _ _ _ h => h) 0 rfl (Nat.le_of_ble_eq_true rfl) rfl ?_
  refine jv_aload_n (n := 185) dX8_init_184 rfl rfl ?_
  refine jv_bipush (n := 187) dX8_init_185 rfl (by decide) ?_
  refine jv_newa (n := 189) (t := 0) (N := 10) (cl' := 24) (sl' := 583) dX8_init_187 rfl rfl jar_int (by decide) (fun _ => rfl) rfl (by decide) (by decide) (jz_i 10) rfl rfl ⟨by decide, by decide⟩ (fun q23 => ?_)
  refine jv_put (n := 192) (ws' := [(h0, .inr (8, [.ref q0, .ref q1, .int (jI 0), .ref q2, .ref q3, .ref q4, .ref q5, .ref q6, .int (jI 0), .ref q7, .ref q8, .ref q9, .ref q10, .ref q11, .int (jI 0), .ref q12, .ref q13, .ref q14, .ref q15, .ref q16, .ref q17, .ref q18, .ref q19, .ref q20, .ref q21, .ref q22, .int (jI 0), .ref q23, .null, .null, .null])), (q0, jci (Γ.2.2 0) 3 jz), (q1, jci (Γ.2.2 0) 18 jz), (q2, jci (Γ.2.2 0) 12 jz), (q3, jci (Γ.2.2 0) 12 jz), (q4, jci (Γ.2.2 0) 12 jz), (q5, jci (Γ.2.2 0) 12 jz), (q6, jci (Γ.2.2 0) 12 jz), (q7, jci (Γ.2.2 0) 10 jz), (q8, jci (Γ.2.2 0) 10 jz), (q9, jci (Γ.2.2 0) 10 jz), (q10, jci (Γ.2.2 0) 120 jz), (q11, jci (Γ.2.2 0) 5 jz), (q12, jci (Γ.2.2 0) 60 jz), (q13, jci (Γ.2.2 0) 60 jz), (q14, jci (Γ.2.2 0) 60 jz), (q15, jci (Γ.2.2 0) 2 jz), (q16, jci (Γ.2.2 0) 24 jz), (q17, jcl (Γ.2.2 1) 49 jz), (q18, jcl (Γ.2.2 1) 49 jz), (q19, jci (Γ.2.2 0) 12 jz), (q20, jci (Γ.2.2 0) 12 jz), (q21, jci (Γ.2.2 0) 6 jz), (q22, jci (Γ.2.2 0) 3 jz), (q23, jci (Γ.2.2 0) 10 jz)]) (q0 := 0) dX8_init_189 rfl pX8_80 (fun _ _ _ h => h) 0 rfl (Nat.le_of_ble_eq_true rfl) rfl ?_
  refine jv_aload_n (n := 193) dX8_init_192 rfl rfl ?_
  refine jv_bipush (n := 195) dX8_init_193 rfl (by decide) ?_
  refine jv_newa (n := 197) (t := 0) (N := 10) (cl' := 25) (sl' := 593) dX8_init_195 rfl rfl jar_int (by decide) (fun _ => rfl) rfl (by decide) (by decide) (jz_i 10) rfl rfl ⟨by decide, by decide⟩ (fun q24 => ?_)
  refine jv_put (n := 200) (ws' := [(h0, .inr (8, [.ref q0, .ref q1, .int (jI 0), .ref q2, .ref q3, .ref q4, .ref q5, .ref q6, .int (jI 0), .ref q7, .ref q8, .ref q9, .ref q10, .ref q11, .int (jI 0), .ref q12, .ref q13, .ref q14, .ref q15, .ref q16, .ref q17, .ref q18, .ref q19, .ref q20, .ref q21, .ref q22, .int (jI 0), .ref q23, .ref q24, .null, .null])), (q0, jci (Γ.2.2 0) 3 jz), (q1, jci (Γ.2.2 0) 18 jz), (q2, jci (Γ.2.2 0) 12 jz), (q3, jci (Γ.2.2 0) 12 jz), (q4, jci (Γ.2.2 0) 12 jz), (q5, jci (Γ.2.2 0) 12 jz), (q6, jci (Γ.2.2 0) 12 jz), (q7, jci (Γ.2.2 0) 10 jz), (q8, jci (Γ.2.2 0) 10 jz), (q9, jci (Γ.2.2 0) 10 jz), (q10, jci (Γ.2.2 0) 120 jz), (q11, jci (Γ.2.2 0) 5 jz), (q12, jci (Γ.2.2 0) 60 jz), (q13, jci (Γ.2.2 0) 60 jz), (q14, jci (Γ.2.2 0) 60 jz), (q15, jci (Γ.2.2 0) 2 jz), (q16, jci (Γ.2.2 0) 24 jz), (q17, jcl (Γ.2.2 1) 49 jz), (q18, jcl (Γ.2.2 1) 49 jz), (q19, jci (Γ.2.2 0) 12 jz), (q20, jci (Γ.2.2 0) 12 jz), (q21, jci (Γ.2.2 0) 6 jz), (q22, jci (Γ.2.2 0) 3 jz), (q23, jci (Γ.2.2 0) 10 jz), (q24, jci (Γ.2.2 0) 10 jz)]) (q0 := 0) dX8_init_197 rfl pX8_83 (fun _ _ _ h => h) 0 rfl (Nat.le_of_ble_eq_true rfl) rfl ?_
  refine jv_aload_n (n := 201) dX8_init_200 rfl rfl ?_
  refine jv_bipush (n := 203) dX8_init_201 rfl (by decide) ?_
  refine jv_newa (n := 205) (t := 0) (N := 10) (cl' := 26) (sl' := 603) dX8_init_203 rfl rfl jar_int (by decide) (fun _ => rfl) rfl (by decide) (by decide) (jz_i 10) rfl rfl ⟨by decide, by decide⟩ (fun q25 => ?_)
  refine jv_put (n := 208) (ws' := [(h0, .inr (8, [.ref q0, .ref q1, .int (jI 0), .ref q2, .ref q3, .ref q4, .ref q5, .ref q6, .int (jI 0), .ref q7, .ref q8, .ref q9, .ref q10, .ref q11, .int (jI 0), .ref q12, .ref q13, .ref q14, .ref q15, .ref q16, .ref q17, .ref q18, .ref q19, .ref q20, .ref q21, .ref q22, .int (jI 0), .ref q23, .ref q24, .ref q25, .null])), (q0, jci (Γ.2.2 0) 3 jz), (q1, jci (Γ.2.2 0) 18 jz), (q2, jci (Γ.2.2 0) 12 jz), (q3, jci (Γ.2.2 0) 12 jz), (q4, jci (Γ.2.2 0) 12 jz), (q5, jci (Γ.2.2 0) 12 jz), (q6, jci (Γ.2.2 0) 12 jz), (q7, jci (Γ.2.2 0) 10 jz), (q8, jci (Γ.2.2 0) 10 jz), (q9, jci (Γ.2.2 0) 10 jz), (q10, jci (Γ.2.2 0) 120 jz), (q11, jci (Γ.2.2 0) 5 jz), (q12, jci (Γ.2.2 0) 60 jz), (q13, jci (Γ.2.2 0) 60 jz), (q14, jci (Γ.2.2 0) 60 jz), (q15, jci (Γ.2.2 0) 2 jz), (q16, jci (Γ.2.2 0) 24 jz), (q17, jcl (Γ.2.2 1) 49 jz), (q18, jcl (Γ.2.2 1) 49 jz), (q19, jci (Γ.2.2 0) 12 jz), (q20, jci (Γ.2.2 0) 12 jz), (q21, jci (Γ.2.2 0) 6 jz), (q22, jci (Γ.2.2 0) 3 jz), (q23, jci (Γ.2.2 0) 10 jz), (q24, jci (Γ.2.2 0) 10 jz), (q25, jci (Γ.2.2 0) 10 jz)]) (q0 := 0) dX8_init_205 rfl pX8_86 (fun _ _ _ h => h) 0 rfl (Nat.le_of_ble_eq_true rfl) rfl ?_
  refine jv_aload_n (n := 209) dX8_init_208 rfl rfl ?_
  refine jv_bipush (n := 211) dX8_init_209 rfl (by decide) ?_
  refine jv_newa (n := 213) (t := 0) (N := 12) (cl' := 27) (sl' := 615) dX8_init_211 rfl rfl jar_int (by decide) (fun _ => rfl) rfl (by decide) (by decide) (jz_i 12) rfl rfl ⟨by decide, by decide⟩ (fun q26 => ?_)
  refine jv_put (n := 216) (ws' := [(h0, .inr (8, [.ref q0, .ref q1, .int (jI 0), .ref q2, .ref q3, .ref q4, .ref q5, .ref q6, .int (jI 0), .ref q7, .ref q8, .ref q9, .ref q10, .ref q11, .int (jI 0), .ref q12, .ref q13, .ref q14, .ref q15, .ref q16, .ref q17, .ref q18, .ref q19, .ref q20, .ref q21, .ref q22, .int (jI 0), .ref q23, .ref q24, .ref q25, .ref q26])), (q0, jci (Γ.2.2 0) 3 jz), (q1, jci (Γ.2.2 0) 18 jz), (q2, jci (Γ.2.2 0) 12 jz), (q3, jci (Γ.2.2 0) 12 jz), (q4, jci (Γ.2.2 0) 12 jz), (q5, jci (Γ.2.2 0) 12 jz), (q6, jci (Γ.2.2 0) 12 jz), (q7, jci (Γ.2.2 0) 10 jz), (q8, jci (Γ.2.2 0) 10 jz), (q9, jci (Γ.2.2 0) 10 jz), (q10, jci (Γ.2.2 0) 120 jz), (q11, jci (Γ.2.2 0) 5 jz), (q12, jci (Γ.2.2 0) 60 jz), (q13, jci (Γ.2.2 0) 60 jz), (q14, jci (Γ.2.2 0) 60 jz), (q15, jci (Γ.2.2 0) 2 jz), (q16, jci (Γ.2.2 0) 24 jz), (q17, jcl (Γ.2.2 1) 49 jz), (q18, jcl (Γ.2.2 1) 49 jz), (q19, jci (Γ.2.2 0) 12 jz), (q20, jci (Γ.2.2 0) 12 jz), (q21, jci (Γ.2.2 0) 6 jz), (q22, jci (Γ.2.2 0) 3 jz), (q23, jci (Γ.2.2 0) 10 jz), (q24, jci (Γ.2.2 0) 10 jz), (q25, jci (Γ.2.2 0) 10 jz), (q26, jci (Γ.2.2 0) 12 jz)]) (q0 := 0) dX8_init_213 rfl pX8_89 (fun _ _ _ h => h) 0 rfl (Nat.le_of_ble_eq_true rfl) rfl ?_
  refine jv_aload_n (n := 217) dX8_init_216 rfl rfl ?_
  refine jv_get (n := 220) (v := .ref q11) dX8_init_217 rfl fX8_43 0 rfl rfl ?_
  refine jv_iconst (n := 221) dX8_init_220 rfl ?_
  refine jv_iconst (n := 222) dX8_init_221 rfl ?_
  refine jv_iast (n := 223) (N := 5) (f := jz) (ws' := [(h0, .inr (8, [.ref q0, .ref q1, .int (jI 0), .ref q2, .ref q3, .ref q4, .ref q5, .ref q6, .int (jI 0), .ref q7, .ref q8, .ref q9, .ref q10, .ref q11, .int (jI 0), .ref q12, .ref q13, .ref q14, .ref q15, .ref q16, .ref q17, .ref q18, .ref q19, .ref q20, .ref q21, .ref q22, .int (jI 0), .ref q23, .ref q24, .ref q25, .ref q26])), (q0, jci (Γ.2.2 0) 3 jz), (q1, jci (Γ.2.2 0) 18 jz), (q2, jci (Γ.2.2 0) 12 jz), (q3, jci (Γ.2.2 0) 12 jz), (q4, jci (Γ.2.2 0) 12 jz), (q5, jci (Γ.2.2 0) 12 jz), (q6, jci (Γ.2.2 0) 12 jz), (q7, jci (Γ.2.2 0) 10 jz), (q8, jci (Γ.2.2 0) 10 jz), (q9, jci (Γ.2.2 0) 10 jz), (q10, jci (Γ.2.2 0) 120 jz), (q11, jci (Γ.2.2 0) 5 (jfu jz 0 1)), (q12, jci (Γ.2.2 0) 60 jz), (q13, jci (Γ.2.2 0) 60 jz), (q14, jci (Γ.2.2 0) 60 jz), (q15, jci (Γ.2.2 0) 2 jz), (q16, jci (Γ.2.2 0) 24 jz), (q17, jcl (Γ.2.2 1) 49 jz), (q18, jcl (Γ.2.2 1) 49 jz), (q19, jci (Γ.2.2 0) 12 jz), (q20, jci (Γ.2.2 0) 12 jz), (q21, jci (Γ.2.2 0) 6 jz), (q22, jci (Γ.2.2 0) 3 jz), (q23, jci (Γ.2.2 0) 10 jz), (q24, jci (Γ.2.2 0) 10 jz), (q25, jci (Γ.2.2 0) 10 jz), (q26, jci (Γ.2.2 0) 12 jz)]) dX8_init_222 rfl 12 rfl (by decide) (by decide) (by decide) rfl ?_
  refine jv_aload_n (n := 224) dX8_init_223 rfl rfl ?_
  refine jv_get (n := 227) (v := .ref q11) dX8_init_224 rfl fX8_43 0 rfl rfl ?_
  refine jv_iconst (n := 228) dX8_init_227 rfl ?_
  refine jv_iconst (n := 229) dX8_init_228 rfl ?_
  refine jv_iast (n := 230) (N := 5) (f := (jfu jz 0 1)) (ws' := [(h0, .inr (8, [.ref q0, .ref q1, .int (jI 0), .ref q2, .ref q3, .ref q4, .ref q5, .ref q6, .int (jI 0), .ref q7, .ref q8, .ref q9, .ref q10, .ref q11, .int (jI 0), .ref q12, .ref q13, .ref q14, .ref q15, .ref q16, .ref q17, .ref q18, .ref q19, .ref q20, .ref q21, .ref q22, .int (jI 0), .ref q23, .ref q24, .ref q25, .ref q26])), (q0, jci (Γ.2.2 0) 3 jz), (q1, jci (Γ.2.2 0) 18 jz), (q2, jci (Γ.2.2 0) 12 jz), (q3, jci (Γ.2.2 0) 12 jz), (q4, jci (Γ.2.2 0) 12 jz), (q5, jci (Γ.2.2 0) 12 jz), (q6, jci (Γ.2.2 0) 12 jz), (q7, jci (Γ.2.2 0) 10 jz), (q8, jci (Γ.2.2 0) 10 jz), (q9, jci (Γ.2.2 0) 10 jz), (q10, jci (Γ.2.2 0) 120 jz), (q11, jci (Γ.2.2 0) 5 (jfu (jfu jz 0 1) 1 4)), (q12, jci (Γ.2.2 0) 60 jz), (q13, jci (Γ.2.2 0) 60 jz), (q14, jci (Γ.2.2 0) 60 jz), (q15, jci (Γ.2.2 0) 2 jz), (q16, jci (Γ.2.2 0) 24 jz), (q17, jcl (Γ.2.2 1) 49 jz), (q18, jcl (Γ.2.2 1) 49 jz), (q19, jci (Γ.2.2 0) 12 jz), (q20, jci (Γ.2.2 0) 12 jz), (q21, jci (Γ.2.2 0) 6 jz), (q22, jci (Γ.2.2 0) 3 jz), (q23, jci (Γ.2.2 0) 10 jz), (q24, jci (Γ.2.2 0) 10 jz), (q25, jci (Γ.2.2 0) 10 jz), (q26, jci (Γ.2.2 0) 12 jz)]) dX8_init_229 rfl 12 rfl (by decide) (by decide) (by decide) rfl ?_
  refine jv_aload_n (n := 231) dX8_init_230 rfl rfl ?_
  refine jv_get (n := 234) (v := .ref q15) dX8_init_231 rfl fX8_55 0 rfl rfl ?_
  refine jv_iconst (n := 235) dX8_init_234 rfl ?_
  refine jv_iconst (n := 236) dX8_init_235 rfl ?_
  refine jv_iast (n := 237) (N := 2) (f := jz) (ws' := [(h0, .inr (8, [.ref q0, .ref q1, .int (jI 0), .ref q2, .ref q3, .ref q4, .ref q5, .ref q6, .int (jI 0), .ref q7, .ref q8, .ref q9, .ref q10, .ref q11, .int (jI 0), .ref q12, .ref q13, .ref q14, .ref q15, .ref q16, .ref q17, .ref q18, .ref q19, .ref q20, .ref q21, .ref q22, .int (jI 0), .ref q23, .ref q24, .ref q25, .ref q26])), (q0, jci (Γ.2.2 0) 3 jz), (q1, jci (Γ.2.2 0) 18 jz), (q2, jci (Γ.2.2 0) 12 jz), (q3, jci (Γ.2.2 0) 12 jz), (q4, jci (Γ.2.2 0) 12 jz), (q5, jci (Γ.2.2 0) 12 jz), (q6, jci (Γ.2.2 0) 12 jz), (q7, jci (Γ.2.2 0) 10 jz), (q8, jci (Γ.2.2 0) 10 jz), (q9, jci (Γ.2.2 0) 10 jz), (q10, jci (Γ.2.2 0) 120 jz), (q11, jci (Γ.2.2 0) 5 (jfu (jfu jz 0 1) 1 4)), (q12, jci (Γ.2.2 0) 60 jz), (q13, jci (Γ.2.2 0) 60 jz), (q14, jci (Γ.2.2 0) 60 jz), (q15, jci (Γ.2.2 0) 2 (jfu jz 0 (-1))), (q16, jci (Γ.2.2 0) 24 jz), (q17, jcl (Γ.2.2 1) 49 jz), (q18, jcl (Γ.2.2 1) 49 jz), (q19, jci (Γ.2.2 0) 12 jz), (q20, jci (Γ.2.2 0) 12 jz), (q21, jci (Γ.2.2 0) 6 jz), (q22, jci (Γ.2.2 0) 3 jz), (q23, jci (Γ.2.2 0) 10 jz), (q24, jci (Γ.2.2 0) 10 jz), (q25, jci (Γ.2.2 0) 10 jz), (q26, jci (Γ.2.2 0) 12 jz)]) dX8_init_236 rfl 16 rfl (by decide) (by decide) (by decide) rfl ?_
  refine jv_aload_n (n := 238) dX8_init_237 rfl rfl ?_
  refine jv_get (n := 241) (v := .ref q15) dX8_init_238 rfl fX8_55 0 rfl rfl ?_
  refine jv_iconst (n := 242) dX8_init_241 rfl ?_
  refine jv_iconst (n := 243) dX8_init_242 rfl ?_
  refine jv_iast (n := 244) (N := 2) (f := (jfu jz 0 (-1))) (ws' := [(h0, .inr (8, [.ref q0, .ref q1, .int (jI 0), .ref q2, .ref q3, .ref q4, .ref q5, .ref q6, .int (jI 0), .ref q7, .ref q8, .ref q9, .ref q10, .ref q11, .int (jI 0), .ref q12, .ref q13, .ref q14, .ref q15, .ref q16, .ref q17, .ref q18, .ref q19, .ref q20, .ref q21, .ref q22, .int (jI 0), .ref q23, .ref q24, .ref q25, .ref q26])), (q0, jci (Γ.2.2 0) 3 jz), (q1, jci (Γ.2.2 0) 18 jz), (q2, jci (Γ.2.2 0) 12 jz), (q3, jci (Γ.2.2 0) 12 jz), (q4, jci (Γ.2.2 0) 12 jz), (q5, jci (Γ.2.2 0) 12 jz), (q6, jci (Γ.2.2 0) 12 jz), (q7, jci (Γ.2.2 0) 10 jz), (q8, jci (Γ.2.2 0) 10 jz), (q9, jci (Γ.2.2 0) 10 jz), (q10, jci (Γ.2.2 0) 120 jz), (q11, jci (Γ.2.2 0) 5 (jfu (jfu jz 0 1) 1 4)), (q12, jci (Γ.2.2 0) 60 jz), (q13, jci (Γ.2.2 0) 60 jz), (q14, jci (Γ.2.2 0) 60 jz), (q15, jci (Γ.2.2 0) 2 (jfu (jfu jz 0 (-1)) 1 (-1))), (q16, jci (Γ.2.2 0) 24 jz), (q17, jcl (Γ.2.2 1) 49 jz), (q18, jcl (Γ.2.2 1) 49 jz), (q19, jci (Γ.2.2 0) 12 jz), (q20, jci (Γ.2.2 0) 12 jz), (q21, jci (Γ.2.2 0) 6 jz), (q22, jci (Γ.2.2 0) 3 jz), (q23, jci (Γ.2.2 0) 10 jz), (q24, jci (Γ.2.2 0) 10 jz), (q25, jci (Γ.2.2 0) 10 jz), (q26, jci (Γ.2.2 0) 12 jz)]) dX8_init_243 rfl 16 rfl (by decide) (by decide) (by decide) rfl ?_
  exact jv_ret (fun k => [q0, q1, q2, q3, q4, q5, q6, q7, q8, q9, q10, q11, q12, q13, q14, q15, q16, q17, q18, q19, q20, q21, q22, q23, q24, q25, q26].getD k 0) dX8_init_244 rfl rfl rfl rfl
