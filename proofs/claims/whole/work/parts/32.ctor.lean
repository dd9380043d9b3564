theorem zX2_init : Cond.code yX2_init cX2_init 1 none ∈ lw_ok ∧ Cond.instanceMethod yX2_init ∈ lw_ok ∧ Cond.initialized yX2_init.cls ∈ lw_ok ∧ (yX2_init.cls ≠ "java/lang/invoke/MethodHandle" ∧ yX2_init.cls ≠ "java/lang/invoke/VarHandle") ∧ (parseMethodDescriptor yX2_init.desc).map (fun d => d.parameters.length) = some 0 := ⟨mok (i := 98) (by decide +kernel) rfl, mok (i := 97) (by decide +kernel) rfl, mok (i := 60) (by decide +kernel) rfl, by decide +kernel, by decide +kernel⟩
theorem inX2_i : Cond.instantiable RX2 8 ∈ lw_ok := by decide +kernel
theorem zX8_init : Cond.code yX8_init cX8_init 1 none ∈ lw_ok ∧ Cond.instanceMethod yX8_init ∈ lw_ok ∧ Cond.initialized yX8_init.cls ∈ lw_ok ∧ (yX8_init.cls ≠ "java/lang/invoke/MethodHandle" ∧ yX8_init.cls ≠ "java/lang/invoke/VarHandle") ∧ (parseMethodDescriptor yX8_init.desc).map (fun d => d.parameters.length) = some 0 := ⟨mok (i := 83) (by decide +kernel) rfl, mok (i := 82) (by decide +kernel) rfl, mok (i := 59) (by decide +kernel) rfl, by decide +kernel, by decide +kernel⟩
theorem inX8_i : Cond.instantiable RX8 2 ∈ lw_ok := by decide +kernel
theorem zX1_init : Cond.code yX1_init cX1_init 1 none ∈ lw_ok ∧ Cond.instanceMethod yX1_init ∈ lw_ok ∧ Cond.initialized yX1_init.cls ∈ lw_ok ∧ (yX1_init.cls ≠ "java/lang/invoke/MethodHandle" ∧ yX1_init.cls ≠ "java/lang/invoke/VarHandle") ∧ (parseMethodDescriptor yX1_init.desc).map (fun d => d.parameters.length) = some 0 := ⟨mok (i := 193) (by decide +kernel) rfl, mok (i := 192) (by decide +kernel) rfl, mok (i := 64) (by decide +kernel) rfl, by decide +kernel, by decide +kernel⟩
theorem inX1_i : Cond.instantiable RX1 3 ∈ lw_ok := by decide +kernel
theorem zX5_init : Cond.code yX5_init cX5_init 1 none ∈ lw_ok ∧ Cond.instanceMethod yX5_init ∈ lw_ok ∧ Cond.initialized yX5_init.cls ∈ lw_ok ∧ (yX5_init.cls ≠ "java/lang/invoke/MethodHandle" ∧ yX5_init.cls ≠ "java/lang/invoke/VarHandle") ∧ (parseMethodDescriptor yX5_init.desc).map (fun d => d.parameters.length) = some 0 := ⟨mok (i := 168) (by decide +kernel) rfl, mok (i := 167) (by decide +kernel) rfl, mok (i := 62) (by decide +kernel) rfl, by decide +kernel, by decide +kernel⟩
theorem inX5_i : Cond.instantiable RX5 3 ∈ lw_ok := by decide +kernel
theorem zX0_init : Cond.code yX0_init cX0_init 1 none ∈ lw_ok ∧ Cond.instanceMethod yX0_init ∈ lw_ok ∧ Cond.initialized yX0_init.cls ∈ lw_ok ∧ (yX0_init.cls ≠ "java/lang/invoke/MethodHandle" ∧ yX0_init.cls ≠ "java/lang/invoke/VarHandle") ∧ (parseMethodDescriptor yX0_init.desc).map (fun d => d.parameters.length) = some 0 := ⟨mok (i := 299) (by decide +kernel) rfl, mok (i := 298) (by decide +kernel) rfl, mok (i := 67) (by decide +kernel) rfl, by decide +kernel, by decide +kernel⟩
theorem inX0_i : Cond.instantiable RX0 3 ∈ lw_ok := by decide +kernel
theorem zX7_init : Cond.code yX7_init cX7_init 1 none ∈ lw_ok ∧ Cond.instanceMethod yX7_init ∈ lw_ok ∧ Cond.initialized yX7_init.cls ∈ lw_ok ∧ (yX7_init.cls ≠ "java/lang/invoke/MethodHandle" ∧ yX7_init.cls ≠ "java/lang/invoke/VarHandle") ∧ (parseMethodDescriptor yX7_init.desc).map (fun d => d.parameters.length) = some 0 := ⟨mok (i := 231) (by decide +kernel) rfl, mok (i := 230) (by decide +kernel) rfl, mok (i := 65) (by decide +kernel) rfl, by decide +kernel, by decide +kernel⟩
theorem inX7_i : Cond.instantiable RX7 9 ∈ lw_ok := by decide +kernel
theorem zX3_init : Cond.code yX3_init cX3_init 1 none ∈ lw_ok ∧ Cond.instanceMethod yX3_init ∈ lw_ok ∧ Cond.initialized yX3_init.cls ∈ lw_ok ∧ (yX3_init.cls ≠ "java/lang/invoke/MethodHandle" ∧ yX3_init.cls ≠ "java/lang/invoke/VarHandle") ∧ (parseMethodDescriptor yX3_init.desc).map (fun d => d.parameters.length) = some 0 := ⟨mok (i := 270) (by decide +kernel) rfl, mok (i := 269) (by decide +kernel) rfl, mok (i := 66) (by decide +kernel) rfl, by decide +kernel, by decide +kernel⟩
theorem inX3_i : Cond.instantiable RX3 6 ∈ lw_ok := by decide +kernel
theorem zX4_init : Cond.code yX4_init cX4_init 1 none ∈ lw_ok ∧ Cond.instanceMethod yX4_init ∈ lw_ok ∧ Cond.initialized yX4_init.cls ∈ lw_ok ∧ (yX4_init.cls ≠ "java/lang/invoke/MethodHandle" ∧ yX4_init.cls ≠ "java/lang/invoke/VarHandle") ∧ (parseMethodDescriptor yX4_init.desc).map (fun d => d.parameters.length) = some 0 := ⟨mok (i := 187) (by decide +kernel) rfl, mok (i := 186) (by decide +kernel) rfl, mok (i := 63) (by decide +kernel) rfl, by decide +kernel, by decide +kernel⟩
theorem inX4_i : Cond.instantiable RX4 6 ∈ lw_ok := by decide +kernel
theorem zX6_init : Cond.code yX6_init cX6_init 2 none ∈ lw_ok ∧ Cond.instanceMethod yX6_init ∈ lw_ok ∧ Cond.initialized yX6_init.cls ∈ lw_ok ∧ (yX6_init.cls ≠ "java/lang/invoke/MethodHandle" ∧ yX6_init.cls ≠ "java/lang/invoke/VarHandle") ∧ (parseMethodDescriptor yX6_init.desc).map (fun d => d.parameters.length) = some 0 := ⟨mok (i := 148) (by decide +kernel) rfl, mok (i := 147) (by decide +kernel) rfl, mok (i := 61) (by decide +kernel) rfl, by decide +kernel, by decide +kernel⟩
theorem inX6_i : Cond.instantiable RX6 3 ∈ lw_ok := by decide +kernel
theorem zX9_init : Cond.code yX9_init cX9_init 2 none ∈ lw_ok ∧ Cond.instanceMethod yX9_init ∈ lw_ok ∧ Cond.initialized yX9_init.cls ∈ lw_ok ∧ (yX9_init.cls ≠ "java/lang/invoke/MethodHandle" ∧ yX9_init.cls ≠ "java/lang/invoke/VarHandle") ∧ (parseMethodDescriptor yX9_init.desc).map (fun d => d.parameters.length) = some 0 := ⟨mok (i := 75) (by decide +kernel) rfl, mok (i := 74) (by decide +kernel) rfl, mok (i := 58) (by decide +kernel) rfl, by decide +kernel, by decide +kernel⟩
theorem inX9_i : Cond.instantiable RX9 11 ∈ lw_ok := by decide +kernel
theorem zX10_init : Cond.code yX10_init cX10_init 1 none ∈ lw_ok ∧ Cond.instanceMethod yX10_init ∈ lw_ok ∧ Cond.initialized yX10_init.cls ∈ lw_ok ∧ (yX10_init.cls ≠ "java/lang/invoke/MethodHandle" ∧ yX10_init.cls ≠ "java/lang/invoke/VarHandle") ∧ (parseMethodDescriptor yX10_init.desc).map (fun d => d.parameters.length) = some 0 := ⟨mok (i := 824) (by decide +kernel) rfl, mok (i := 823) (by decide +kernel) rfl, mok (i := 68) (by decide +kernel) rfl, by decide +kernel, by decide +kernel⟩
theorem inX10_i : Cond.instantiable RX10 23 ∈ lw_ok := by decide +kernel
theorem qX9_1 : Cond.methodLink RX9 1 Lib.objectInit ∈ lw_ok := mok (i := 76) (by decide +kernel) rfl
theorem qX9_7 : Cond.classLink RX9 7 RX8 ∈ lw_ok := mok (i := 79) (by decide +kernel) rfl
theorem qX8_3 : Cond.methodLink RX8 3 Lib.objectInit ∈ lw_ok := mok (i := 84) (by decide +kernel) rfl
theorem qX9_16 : Cond.classLink RX9 16 RX2 ∈ lw_ok := mok (i := 94) (by decide +kernel) rfl
theorem qX2_3 : Cond.methodLink RX2 3 Lib.objectInit ∈ lw_ok := mok (i := 99) (by decide +kernel) rfl
theorem qX9_26 : Cond.classLink RX9 26 RX6 ∈ lw_ok := mok (i := 144) (by decide +kernel) rfl
theorem qX6_3 : Cond.methodLink RX6 3 Lib.objectInit ∈ lw_ok := mok (i := 149) (by decide +kernel) rfl
theorem qX6_9 : Cond.classLink RX6 9 RX2 ∈ lw_ok := mok (i := 150) (by decide +kernel) rfl
theorem qX9_37 : Cond.classLink RX9 37 RX5 ∈ lw_ok := mok (i := 164) (by decide +kernel) rfl
theorem qX5_3 : Cond.methodLink RX5 3 Lib.objectInit ∈ lw_ok := mok (i := 169) (by decide +kernel) rfl
theorem qX9_44 : Cond.classLink RX9 44 RX4 ∈ lw_ok := mok (i := 183) (by decide +kernel) rfl
theorem qX4_3 : Cond.methodLink RX4 3 Lib.objectInit ∈ lw_ok := mok (i := 188) (by decide +kernel) rfl
theorem qX4_9 : Cond.classLink RX4 9 RX1 ∈ lw_ok := mok (i := 189) (by decide +kernel) rfl
theorem qX1_3 : Cond.methodLink RX1 3 Lib.objectInit ∈ lw_ok := mok (i := 194) (by decide +kernel) rfl
theorem qX4_22 : Cond.classLink RX4 22 "[[I" ∈ lw_ok := mok (i := 205) (by decide +kernel) rfl
theorem qX9_51 : Cond.classLink RX9 51 RX7 ∈ lw_ok := mok (i := 227) (by decide +kernel) rfl
theorem qX7_3 : Cond.methodLink RX7 3 Lib.objectInit ∈ lw_ok := mok (i := 232) (by decide +kernel) rfl
theorem qX9_58 : Cond.classLink RX9 58 RX3 ∈ lw_ok := mok (i := 266) (by decide +kernel) rfl
theorem qX3_5 : Cond.methodLink RX3 5 Lib.objectInit ∈ lw_ok := mok (i := 271) (by decide +kernel) rfl
theorem qX3_11 : Cond.classLink RX3 11 RX1 ∈ lw_ok := mok (i := 272) (by decide +kernel) rfl
theorem qX9_65 : Cond.classLink RX9 65 RX0 ∈ lw_ok := mok (i := 295) (by decide +kernel) rfl
theorem qX0_3 : Cond.methodLink RX0 3 Lib.objectInit ∈ lw_ok := mok (i := 300) (by decide +kernel) rfl
theorem qX10_1 : Cond.methodLink RX10 1 Lib.objectInit ∈ lw_ok := mok (i := 825) (by decide +kernel) rfl
def wX2 (cA : Nat → ClassId) (h : Nat) (r : List Nat) : va_W := [(h, .inr (2, [.ref (r.getD 0 0), .int 0, .int 4, .int 0, .int 0, .int 0, .int 0, .int 0])), ((r.getD 0 0), .inl (cA 0, (8, .inl (fun _ => 0))))]
set_option maxHeartbeats 16000000 in
set_option maxRecDepth 20000 in
theorem kX2_init (l : Launch) (G : va_G) (cA : Nat → ClassId) : CI l yX2_init cX2_init 1 1 1 8 G cA (.inr (2, [.null, .int 0, .int 0, .int 0, .int 0, .int 0, .int 0, .int 0])) (wX2 cA) := by
  refine ci_of (by decide +kernel) rfl (by decide) (fun X h0 F hin Q hret => ?_)
  have F : Fk X l 1 G cA cX2_init RX2 1 1 8 := F
  refine k_aload_n F dX2_init_0 1 rfl 0 rfl ?_
  refine k_objInit F dX2_init_1 4 rfl qX2_3 (Nat.le_of_ble_eq_true rfl) (by decide) ?_
  refine k_aload_n F dX2_init_4 5 rfl 0 rfl ?_
  refine k_bipush (v := 8) F dX2_init_5 7 rfl (by decide) ?_
  refine k_newi (N := 8) F dX2_init_7 9 rfl (by decide) rfl (by decide) (by decide) (by decide) (fun q1 => ?_)
  refine k_cast (List.cons_append) ?_
  refine k_putF (j := 0) (fs' := [.ref q1, .int 0, .int 0, .int 0, .int 0, .int 0, .int 0, .int 0]) F dX2_init_9 12 rfl inX2 tyX2 tyX2_ok nmX2 rfl (by decide) qX2_9 rfl hin rfl (tyX2_ok 0 (by decide)) rfl rfl (Nat.le_of_ble_eq_true rfl) rfl ?_
  refine k_aload_n F dX2_init_12 13 rfl 0 rfl ?_
  refine k_iconst (v := 4) F dX2_init_13 14 rfl (by decide) ?_
  refine k_putI (j := 2) (fs' := [.ref q1, .int 0, .int 4, .int 0, .int 0, .int 0, .int 0, .int 0]) F dX2_init_14 17 rfl inX2 tyX2 tyX2_ok nmX2 rfl (by decide) qX2_15 rfl (tyX2_ok 2 (by decide)) rfl rfl (Nat.le_of_ble_eq_true rfl) rfl ?_
  refine k_cast (ws' := wX2 cA h0 [q1]) rfl ?_
  exact hret [q1] _ _ _ _ dX2_init_17 (by decide) (by decide)
def wX8 (cA : Nat → ClassId) (h : Nat) (r : List Nat) : va_W := [(h, .inr (8, [.ref (r.getD 0 0), .int 0])), ((r.getD 0 0), .inl (cA 0, (56, .inl (fun _ => 0))))]
set_option maxHeartbeats 16000000 in
set_option maxRecDepth 20000 in
theorem kX8_init (l : Launch) (G : va_G) (cA : Nat → ClassId) : CI l yX8_init cX8_init 1 1 1 56 G cA (.inr (8, [.null, .int 0])) (wX8 cA) := by
  refine ci_of (by decide +kernel) rfl (by decide) (fun X h0 F hin Q hret => ?_)
  have F : Fk X l 1 G cA cX8_init RX8 1 1 56 := F
  refine k_aload_n F dX8_init_0 1 rfl 0 rfl ?_
  refine k_objInit F dX8_init_1 4 rfl qX8_3 (Nat.le_of_ble_eq_true rfl) (by decide) ?_
  refine k_aload_n F dX8_init_4 5 rfl 0 rfl ?_
  refine k_bipush (v := 56) F dX8_init_5 7 rfl (by decide) ?_
  refine k_newi (N := 56) F dX8_init_7 9 rfl (by decide) rfl (by decide) (by decide) (by decide) (fun q1 => ?_)
  refine k_cast (List.cons_append) ?_
  refine k_putF (j := 0) (fs' := [.ref q1, .int 0]) F dX8_init_9 12 rfl inX8 tyX8 tyX8_ok nmX8 rfl (by decide) qX8_9 rfl hin rfl (tyX8_ok 0 (by decide)) rfl rfl (Nat.le_of_ble_eq_true rfl) rfl ?_
  refine k_cast (ws' := wX8 cA h0 [q1]) rfl ?_
  exact hret [q1] _ _ _ _ dX8_init_12 (by decide) (by decide)
def wX1 (cA : Nat → ClassId) (h : Nat) (r : List Nat) : va_W := [(h, .inr (1, [.ref (r.getD 0 0), .ref (r.getD 1 0), .ref (r.getD 2 0)])), ((r.getD 0 0), .inl (cA 0, (8, .inl (fun _ => 0)))), ((r.getD 1 0), .inl (cA 0, (8, .inl (fun _ => 0)))), ((r.getD 2 0), .inl (cA 0, (8, .inl (fun _ => 0))))]
set_option maxHeartbeats 16000000 in
set_option maxRecDepth 20000 in
theorem kX1_init (l : Launch) (G : va_G) (cA : Nat → ClassId) : CI l yX1_init cX1_init 1 1 3 24 G cA (.inr (1, [.null, .null, .null])) (wX1 cA) := by
  refine ci_of (by decide +kernel) rfl (by decide) (fun X h0 F hin Q hret => ?_)
  have F : Fk X l 1 G cA cX1_init RX1 1 3 24 := F
  refine k_aload_n F dX1_init_0 1 rfl 0 rfl ?_
  refine k_objInit F dX1_init_1 4 rfl qX1_3 (Nat.le_of_ble_eq_true rfl) (by decide) ?_
  refine k_aload_n F dX1_init_4 5 rfl 0 rfl ?_
  refine k_bipush (v := 8) F dX1_init_5 7 rfl (by decide) ?_
  refine k_newi (N := 8) F dX1_init_7 9 rfl (by decide) rfl (by decide) (by decide) (by decide) (fun q1 => ?_)
  refine k_cast (List.cons_append) ?_
  refine k_putF (j := 0) (fs' := [.ref q1, .null, .null]) F dX1_init_9 12 rfl inX1 tyX1 tyX1_ok nmX1 rfl (by decide) qX1_9 rfl hin rfl (tyX1_ok 0 (by decide)) rfl rfl (Nat.le_of_ble_eq_true rfl) rfl ?_
  refine k_aload_n F dX1_init_12 13 rfl 0 rfl ?_
  refine k_bipush (v := 8) F dX1_init_13 15 rfl (by decide) ?_
  refine k_newi (N := 8) F dX1_init_15 17 rfl (by decide) rfl (by decide) (by decide) (by decide) (fun q2 => ?_)
  refine k_cast (List.cons_append) ?_
  refine k_putF (j := 1) (fs' := [.ref q1, .ref q2, .null]) F dX1_init_17 20 rfl inX1 tyX1 tyX1_ok nmX1 rfl (by decide) qX1_15 rfl hin rfl (tyX1_ok 1 (by decide)) rfl rfl (Nat.le_of_ble_eq_true rfl) rfl ?_
  refine k_aload_n F dX1_init_20 21 rfl 0 rfl ?_
  refine k_bipush (v := 8) F dX1_init_21 23 rfl (by decide) ?_
  refine k_newi (N := 8) F dX1_init_23 25 rfl (by decide) rfl (by decide) (by decide) (by decide) (fun q3 => ?_)
  refine k_cast (List.cons_append) ?_
  refine k_putF (j := 2) (fs' := [.ref q1, .ref q2, .ref q3]) F dX1_init_25 28 rfl inX1 tyX1 tyX1_ok nmX1 rfl (by decide) qX1_18 rfl hin rfl (tyX1_ok 2 (by decide)) rfl rfl (Nat.le_of_ble_eq_true rfl) rfl ?_
  refine k_cast (ws' := wX1 cA h0 [q1, q2, q3]) rfl ?_
  exact hret [q1, q2, q3] _ _ _ _ dX1_init_28 (by decide) (by decide)
def wX5 (cA : Nat → ClassId) (h : Nat) (r : List Nat) : va_W := [(h, .inr (5, [.int 0, .int 0, .int 0]))]
set_option maxHeartbeats 16000000 in
set_option maxRecDepth 20000 in
theorem kX5_init (l : Launch) (G : va_G) (cA : Nat → ClassId) : CI l yX5_init cX5_init 1 1 0 0 G cA (.inr (5, [.int 0, .int 0, .int 0])) (wX5 cA) := by
  refine ci_of (by decide +kernel) rfl (by decide) (fun X h0 F hin Q hret => ?_)
  have F : Fk X l 1 G cA cX5_init RX5 1 0 0 := F
  refine k_aload_n F dX5_init_0 1 rfl 0 rfl ?_
  refine k_objInit F dX5_init_1 4 rfl qX5_3 (Nat.le_of_ble_eq_true rfl) (by decide) ?_
  refine k_cast (ws' := wX5 cA h0 []) rfl ?_
  exact hret [] _ _ _ _ dX5_init_4 (by decide) (by decide)
def wX0 (cA : Nat → ClassId) (h : Nat) (r : List Nat) : va_W := [(h, .inr (0, [.long 0, .int 0, .int 0]))]
set_option maxHeartbeats 16000000 in
set_option maxRecDepth 20000 in
theorem kX0_init (l : Launch) (G : va_G) (cA : Nat → ClassId) : CI l yX0_init cX0_init 1 1 0 0 G cA (.inr (0, [.long 0, .int 0, .int 0])) (wX0 cA) := by
  refine ci_of (by decide +kernel) rfl (by decide) (fun X h0 F hin Q hret => ?_)
  have F : Fk X l 1 G cA cX0_init RX0 1 0 0 := F
  refine k_aload_n F dX0_init_0 1 rfl 0 rfl ?_
  refine k_objInit F dX0_init_1 4 rfl qX0_3 (Nat.le_of_ble_eq_true rfl) (by decide) ?_
  refine k_cast (ws' := wX0 cA h0 []) rfl ?_
  exact hret [] _ _ _ _ dX0_init_4 (by decide) (by decide)
def wX7 (cA : Nat → ClassId) (h : Nat) (r : List Nat) : va_W := [(h, .inr (7, [.ref (r.getD 0 0), .ref (r.getD 1 0), .ref (r.getD 2 0), .ref (r.getD 3 0), .ref (r.getD 4 0), .int 0, .int 0, .int 0, .int 0])), ((r.getD 0 0), .inl (cA 0, (6, .inl (fun _ => 0)))), ((r.getD 1 0), .inl (cA 0, (6, .inl (fun _ => 0)))), ((r.getD 2 0), .inl (cA 1, (6, .inl (fun _ => 0)))), ((r.getD 3 0), .inl (cA 0, (6, .inl (fun _ => 0)))), ((r.getD 4 0), .inl (cA 0, (8, .inl (fun _ => 0))))]
set_option maxHeartbeats 16000000 in
set_option maxRecDepth 20000 in
theorem kX7_init (l : Launch) (G : va_G) (cA : Nat → ClassId) : CI l yX7_init cX7_init 1 1 5 32 G cA (.inr (7, [.null, .null, .null, .null, .null, .int 0, .int 0, .int 0, .int 0])) (wX7 cA) := by
  refine ci_of (by decide +kernel) rfl (by decide) (fun X h0 F hin Q hret => ?_)
  have F : Fk X l 1 G cA cX7_init RX7 1 5 32 := F
  refine k_aload_n F dX7_init_0 1 rfl 0 rfl ?_
  refine k_objInit F dX7_init_1 4 rfl qX7_3 (Nat.le_of_ble_eq_true rfl) (by decide) ?_
  refine k_aload_n F dX7_init_4 5 rfl 0 rfl ?_
  refine k_bipush (v := 6) F dX7_init_5 7 rfl (by decide) ?_
  refine k_newi (N := 6) F dX7_init_7 9 rfl (by decide) rfl (by decide) (by decide) (by decide) (fun q1 => ?_)
  refine k_cast (List.cons_append) ?_
  refine k_putF (j := 0) (fs' := [.ref q1, .null, .null, .null, .null, .int 0, .int 0, .int 0, .int 0]) F dX7_init_9 12 rfl inX7 tyX7 tyX7_ok nmX7 rfl (by decide) qX7_9 rfl hin rfl (tyX7_ok 0 (by decide)) rfl rfl (Nat.le_of_ble_eq_true rfl) rfl ?_
  refine k_aload_n F dX7_init_12 13 rfl 0 rfl ?_
  refine k_bipush (v := 6) F dX7_init_13 15 rfl (by decide) ?_
  refine k_newi (N := 6) F dX7_init_15 17 rfl (by decide) rfl (by decide) (by decide) (by decide) (fun q2 => ?_)
  refine k_cast (List.cons_append) ?_
  refine k_putF (j := 1) (fs' := [.ref q1, .ref q2, .null, .null, .null, .int 0, .int 0, .int 0, .int 0]) F dX7_init_17 20 rfl inX7 tyX7 tyX7_ok nmX7 rfl (by decide) qX7_15 rfl hin rfl (tyX7_ok 1 (by decide)) rfl rfl (Nat.le_of_ble_eq_true rfl) rfl ?_
  refine k_aload_n F dX7_init_20 21 rfl 0 rfl ?_
  refine k_bipush (v := 6) F dX7_init_21 23 rfl (by decide) ?_
  refine k_newz (N := 6) F dX7_init_23 25 rfl (by decide) rfl (by decide) (by decide) (by decide) (fun q3 => ?_)
  refine k_cast (List.cons_append) ?_
  refine k_putF (j := 2) (fs' := [.ref q1, .ref q2, .ref q3, .null, .null, .int 0, .int 0, .int 0, .int 0]) F dX7_init_25 28 rfl inX7 tyX7 tyX7_ok nmX7 rfl (by decide) qX7_18 rfl hin rfl (tyX7_ok 2 (by decide)) rfl rfl (Nat.le_of_ble_eq_true rfl) rfl ?_
  refine k_aload_n F dX7_init_28 29 rfl 0 rfl ?_
  refine k_bipush (v := 6) F dX7_init_29 31 rfl (by decide) ?_
  refine k_newi (N := 6) F dX7_init_31 33 rfl (by decide) rfl (by decide) (by decide) (by decide) (fun q4 => ?_)
  refine k_cast (List.cons_append) ?_
  refine k_putF (j := 3) (fs' := [.ref q1, .ref q2, .ref q3, .ref q4, .null, .int 0, .int 0, .int 0, .int 0]) F dX7_init_33 36 rfl inX7 tyX7 tyX7_ok nmX7 rfl (by decide) qX7_22 rfl hin rfl (tyX7_ok 3 (by decide)) rfl rfl (Nat.le_of_ble_eq_true rfl) rfl ?_
  refine k_aload_n F dX7_init_36 37 rfl 0 rfl ?_
  refine k_bipush (v := 8) F dX7_init_37 39 rfl (by decide) ?_
  refine k_newi (N := 8) F dX7_init_39 41 rfl (by decide) rfl (by decide) (by decide) (by decide) (fun q5 => ?_)
  refine k_cast (List.cons_append) ?_
  refine k_putF (j := 4) (fs' := [.ref q1, .ref q2, .ref q3, .ref q4, .ref q5, .int 0, .int 0, .int 0, .int 0]) F dX7_init_41 44 rfl inX7 tyX7 tyX7_ok nmX7 rfl (by decide) qX7_25 rfl hin rfl (tyX7_ok 4 (by decide)) rfl rfl (Nat.le_of_ble_eq_true rfl) rfl ?_
  refine k_cast (ws' := wX7 cA h0 [q1, q2, q3, q4, q5]) rfl ?_
  exact hret [q1, q2, q3, q4, q5] _ _ _ _ dX7_init_44 (by decide) (by decide)
def wX3 (cA : Nat → ClassId) (h : Nat) (r : List Nat) : va_W := [(h, .inr (3, [.ref (r.getD 0 0), .int 0, .int 0, .int 0, .int 0, .int 0])), ((r.getD 0 0), .inr (1, [.ref (r.getD 1 0), .ref (r.getD 2 0), .ref (r.getD 3 0)])), ((r.getD 1 0), .inl (cA 0, (8, .inl (fun _ => 0)))), ((r.getD 2 0), .inl (cA 0, (8, .inl (fun _ => 0)))), ((r.getD 3 0), .inl (cA 0, (8, .inl (fun _ => 0))))]
set_option maxHeartbeats 16000000 in
set_option maxRecDepth 20000 in
theorem kX3_init (l : Launch) (G : va_G) (cA : Nat → ClassId) : CI l yX3_init cX3_init 1 2 4 27 G cA (.inr (3, [.null, .int 0, .int 0, .int 0, .int 0, .int 0])) (wX3 cA) := by
  refine ci_of (by decide +kernel) rfl (by decide) (fun X h0 F hin Q hret => ?_)
  have F : Fk X l 1 G cA cX3_init RX3 2 4 27 := F
  refine k_aload_n F dX3_init_0 1 rfl 0 rfl ?_
  refine k_objInit F dX3_init_1 4 rfl qX3_5 (Nat.le_of_ble_eq_true rfl) (by decide) ?_
  refine k_aload_n F dX3_init_4 5 rfl 0 rfl ?_
  refine k_new (ci := 1) (fs := [.null, .null, .null]) F dX3_init_5 8 rfl inX1 tyX1 tyX1_ok qX3_11 inX1_i zX1_init.2.2.1 rfl (fun j hj => by rcases (show j = 0 ∨ j = 1 ∨ j = 2 by omega) with rfl | rfl | rfl <;> rfl) (by decide) (by decide) (fun q1 => ?_)
  refine k_dup F dX3_init_8 9 rfl rfl ?_
  refine k_ctor (q := q1) F dX3_init_9 12 rfl (kX1_init l G cA) qX3_13 zX1_init.1 zX1_init.2.1 zX1_init.2.2.1 zX1_init.2.2.2.1 zX1_init.2.2.2.2 rfl (by decide) (by decide) (Nat.le_of_ble_eq_true rfl) (by decide) (by decide) (fun r2 => ?_)
  refine k_cast (List.cons_append) ?_
  refine k_putF (j := 0) (fs' := [.ref q1, .int 0, .int 0, .int 0, .int 0, .int 0]) F dX3_init_12 15 rfl inX3 tyX3 tyX3_ok nmX3 rfl (by decide) qX3_14 rfl hin rfl (tyX3_ok 0 (by decide)) rfl rfl (Nat.le_of_ble_eq_true rfl) rfl ?_
  refine k_cast (ws' := wX3 cA h0 [q1, (r2.getD 0 0), (r2.getD 1 0), (r2.getD 2 0)]) rfl ?_
  exact hret [q1, (r2.getD 0 0), (r2.getD 1 0), (r2.getD 2 0)] _ _ _ _ dX3_init_15 (by decide) (by decide)
def wX4 (cA : Nat → ClassId) (h : Nat) (r : List Nat) : va_W := [(h, .inr (4, [.ref (r.getD 0 0), .ref (r.getD 4 0), .ref (r.getD 5 0), .ref (r.getD 9 0), .int 0, .int 0])), ((r.getD 0 0), .inr (1, [.ref (r.getD 1 0), .ref (r.getD 2 0), .ref (r.getD 3 0)])), ((r.getD 1 0), .inl (cA 0, (8, .inl (fun _ => 0)))), ((r.getD 2 0), .inl (cA 0, (8, .inl (fun _ => 0)))), ((r.getD 3 0), .inl (cA 0, (8, .inl (fun _ => 0)))), ((r.getD 4 0), .inl (cA 0, (3, .inl (fun _ => 0)))), ((r.getD 5 0), .inl (cA 3, (3, qs (va_up (va_up (va_up (fun _ => none) 0 (some (r.getD 6 0))) 1 (some (r.getD 7 0))) 2 (some (r.getD 8 0)))))), ((r.getD 6 0), .inl (cA 0, (256, .inl (fun _ => 0)))), ((r.getD 7 0), .inl (cA 0, (256, .inl (fun _ => 0)))), ((r.getD 8 0), .inl (cA 0, (256, .inl (fun _ => 0)))), ((r.getD 9 0), .inl (cA 3, (3, qs (va_up (va_up (va_up (fun _ => none) 0 (some (r.getD 10 0))) 1 (some (r.getD 11 0))) 2 (some (r.getD 12 0)))))), ((r.getD 10 0), .inl (cA 0, (81, .inl (fun _ => 0)))), ((r.getD 11 0), .inl (cA 0, (81, .inl (fun _ => 0)))), ((r.getD 12 0), .inl (cA 0, (81, .inl (fun _ => 0))))]
set_option maxHeartbeats 16000000 in
set_option maxRecDepth 20000 in
theorem kX4_init (l : Launch) (G : va_G) (cA : Nat → ClassId) : CI l yX4_init cX4_init 1 2 13 1047 G cA (.inr (4, [.null, .null, .null, .null, .int 0, .int 0])) (wX4 cA) := by
  refine ci_of (by decide +kernel) rfl (by decide) (fun X h0 F hin Q hret => ?_)
  have F : Fk X l 1 G cA cX4_init RX4 2 13 1047 := F
  refine k_aload_n F dX4_init_0 1 rfl 0 rfl ?_
  refine k_objInit F dX4_init_1 4 rfl qX4_3 (Nat.le_of_ble_eq_true rfl) (by decide) ?_
  refine k_aload_n F dX4_init_4 5 rfl 0 rfl ?_
  refine k_new (ci := 1) (fs := [.null, .null, .null]) F dX4_init_5 8 rfl inX1 tyX1 tyX1_ok qX4_9 inX1_i zX1_init.2.2.1 rfl (fun j hj => by rcases (show j = 0 ∨ j = 1 ∨ j = 2 by omega) with rfl | rfl | rfl <;> rfl) (by decide) (by decide) (fun q1 => ?_)
  refine k_dup F dX4_init_8 9 rfl rfl ?_
  refine k_ctor (q := q1) F dX4_init_9 12 rfl (kX1_init l G cA) qX4_11 zX1_init.1 zX1_init.2.1 zX1_init.2.2.1 zX1_init.2.2.2.1 zX1_init.2.2.2.2 rfl (by decide) (by decide) (Nat.le_of_ble_eq_true rfl) (by decide) (by decide) (fun r2 => ?_)
  refine k_cast (List.cons_append) ?_
  refine k_putF (j := 0) (fs' := [.ref q1, .null, .null, .null, .int 0, .int 0]) F dX4_init_12 15 rfl inX4 tyX4 tyX4_ok nmX4 rfl (by decide) qX4_12 rfl hin rfl (tyX4_ok 0 (by decide)) rfl rfl (Nat.le_of_ble_eq_true rfl) rfl ?_
  refine k_aload_n F dX4_init_15 16 rfl 0 rfl ?_
  refine k_iconst (v := 3) F dX4_init_16 17 rfl (by decide) ?_
  refine k_newi (N := 3) F dX4_init_17 19 rfl (by decide) rfl (by decide) (by decide) (by decide) (fun q3 => ?_)
  refine k_cast (List.cons_append) ?_
  refine k_putF (j := 1) (fs' := [.ref q1, .ref q3, .null, .null, .int 0, .int 0]) F dX4_init_19 22 rfl inX4 tyX4 tyX4_ok nmX4 rfl (by decide) qX4_18 rfl hin rfl (tyX4_ok 1 (by decide)) rfl rfl (Nat.le_of_ble_eq_true rfl) rfl ?_
  refine k_aload_n F dX4_init_22 23 rfl 0 rfl ?_
  refine k_iconst (v := 3) F dX4_init_23 24 rfl (by decide) ?_
  refine k_sipush (v := 256) F dX4_init_24 27 rfl (by decide) ?_
  refine k_mna (M := 256) F dX4_init_27 31 rfl qX4_22 (by decide) rfl (by decide) (by decide) (by decide) (fun q4 a5 a6 a7 => ?_)
  refine k_cast (List.cons_append) ?_
  refine k_putF (j := 2) (fs' := [.ref q1, .ref q3, .ref q4, .null, .int 0, .int 0]) F dX4_init_31 34 rfl inX4 tyX4 tyX4_ok nmX4 rfl (by decide) qX4_24 rfl hin rfl (tyX4_ok 2 (by decide)) rfl rfl (Nat.le_of_ble_eq_true rfl) rfl ?_
  refine k_aload_n F dX4_init_34 35 rfl 0 rfl ?_
  refine k_iconst (v := 3) F dX4_init_35 36 rfl (by decide) ?_
  refine k_bipush (v := 81) F dX4_init_36 38 rfl (by decide) ?_
  refine k_mna (M := 81) F dX4_init_38 42 rfl qX4_22 (by decide) rfl (by decide) (by decide) (by decide) (fun q8 a9 a10 a11 => ?_)
  refine k_cast (List.cons_append) ?_
  refine k_putF (j := 3) (fs' := [.ref q1, .ref q3, .ref q4, .ref q8, .int 0, .int 0]) F dX4_init_42 45 rfl inX4 tyX4 tyX4_ok nmX4 rfl (by decide) qX4_27 rfl hin rfl (tyX4_ok 3 (by decide)) rfl rfl (Nat.le_of_ble_eq_true rfl) rfl ?_
  refine k_cast (ws' := wX4 cA h0 [q1, (r2.getD 0 0), (r2.getD 1 0), (r2.getD 2 0), q3, q4, a5, a6, a7, q8, a9, a10, a11]) rfl ?_
  exact hret [q1, (r2.getD 0 0), (r2.getD 1 0), (r2.getD 2 0), q3, q4, a5, a6, a7, q8, a9, a10, a11] _ _ _ _ dX4_init_45 (by decide) (by decide)
