theorem zX2_init : Cond.code yX2_init cX2_init 1 none ∈ lw_ok ∧ Cond.instanceMethod yX2_init ∈ lw_ok ∧ Cond.initialized yX2_init.cls ∈ lw_ok ∧ (yX2_init.cls ≠ "java/lang/invoke/MethodHandle" ∧ yX2_init.cls ≠ "java/lang/invoke/VarHandle") ∧ (parseMethodDescriptor yX2_init.desc).map (fun d => d.parameters.length) = some 0 := ⟨mok (i := 97) (by decide +kernel) rfl, mok (i := 96) (by decide +kernel) rfl, mok (i := 59) (by decide +kernel) rfl, by decide +kernel, by decide +kernel⟩
theorem inX2_i : Cond.instantiable RX2 8 ∈ lw_ok := by decide +kernel
theorem zX8_init : Cond.code yX8_init cX8_init 1 none ∈ lw_ok ∧ Cond.instanceMethod yX8_init ∈ lw_ok ∧ Cond.initialized yX8_init.cls ∈ lw_ok ∧ (yX8_init.cls ≠ "java/lang/invoke/MethodHandle" ∧ yX8_init.cls ≠ "java/lang/invoke/VarHandle") ∧ (parseMethodDescriptor yX8_init.desc).map (fun d => d.parameters.length) = some 0 := ⟨mok (i := 82) (by decide +kernel) rfl, mok (i := 81) (by decide +kernel) rfl, mok (i := 58) (by decide +kernel) rfl, by decide +kernel, by decide +kernel⟩
theorem inX8_i : Cond.instantiable RX8 2 ∈ lw_ok := by decide +kernel
theorem zX1_init : Cond.code yX1_init cX1_init 1 none ∈ lw_ok ∧ Cond.instanceMethod yX1_init ∈ lw_ok ∧ Cond.initialized yX1_init.cls ∈ lw_ok ∧ (yX1_init.cls ≠ "java/lang/invoke/MethodHandle" ∧ yX1_init.cls ≠ "java/lang/invoke/VarHandle") ∧ (parseMethodDescriptor yX1_init.desc).map (fun d => d.parameters.length) = some 0 := ⟨mok (i := 192) (by decide +kernel) rfl, mok (i := 191) (by decide +kernel) rfl, mok (i := 63) (by decide +kernel) rfl, by decide +kernel, by decide +kernel⟩
theorem inX1_i : Cond.instantiable RX1 3 ∈ lw_ok := by decide +kernel
theorem zX5_init : Cond.code yX5_init cX5_init 1 none ∈ lw_ok ∧ Cond.instanceMethod yX5_init ∈ lw_ok ∧ Cond.initialized yX5_init.cls ∈ lw_ok ∧ (yX5_init.cls ≠ "java/lang/invoke/MethodHandle" ∧ yX5_init.cls ≠ "java/lang/invoke/VarHandle") ∧ (parseMethodDescriptor yX5_init.desc).map (fun d => d.parameters.length) = some 0 := ⟨mok (i := 167) (by decide +kernel) rfl, mok (i := 166) (by decide +kernel) rfl, mok (i := 61) (by decide +kernel) rfl, by decide +kernel, by decide +kernel⟩
theorem inX5_i : Cond.instantiable RX5 3 ∈ lw_ok := by decide +kernel
theorem zX0_init : Cond.code yX0_init cX0_init 1 none ∈ lw_ok ∧ Cond.instanceMethod yX0_init ∈ lw_ok ∧ Cond.initialized yX0_init.cls ∈ lw_ok ∧ (yX0_init.cls ≠ "java/lang/invoke/MethodHandle" ∧ yX0_init.cls ≠ "java/lang/invoke/VarHandle") ∧ (parseMethodDescriptor yX0_init.desc).map (fun d => d.parameters.length) = some 0 := ⟨mok (i := 298) (by decide +kernel) rfl, mok (i := 297) (by decide +kernel) rfl, mok (i := 66) (by decide +kernel) rfl, by decide +kernel, by decide +kernel⟩
theorem inX0_i : Cond.instantiable RX0 3 ∈ lw_ok := by decide +kernel
theorem zX7_init : Cond.code yX7_init cX7_init 1 none ∈ lw_ok ∧ Cond.instanceMethod yX7_init ∈ lw_ok ∧ Cond.initialized yX7_init.cls ∈ lw_ok ∧ (yX7_init.cls ≠ "java/lang/invoke/MethodHandle" ∧ yX7_init.cls ≠ "java/lang/invoke/VarHandle") ∧ (parseMethodDescriptor yX7_init.desc).map (fun d => d.parameters.length) = some 0 := ⟨mok (i := 230) (by decide +kernel) rfl, mok (i := 229) (by decide +kernel) rfl, mok (i := 64) (by decide +kernel) rfl, by decide +kernel, by decide +kernel⟩
theorem inX7_i : Cond.instantiable RX7 9 ∈ lw_ok := by decide +kernel
theorem zX3_init : Cond.code yX3_init cX3_init 1 none ∈ lw_ok ∧ Cond.instanceMethod yX3_init ∈ lw_ok ∧ Cond.initialized yX3_init.cls ∈ lw_ok ∧ (yX3_init.cls ≠ "java/lang/invoke/MethodHandle" ∧ yX3_init.cls ≠ "java/lang/invoke/VarHandle") ∧ (parseMethodDescriptor yX3_init.desc).map (fun d => d.parameters.length) = some 0 := ⟨mok (i := 269) (by decide +kernel) rfl, mok (i := 268) (by decide +kernel) rfl, mok (i := 65) (by decide +kernel) rfl, by decide +kernel, by decide +kernel⟩
theorem inX3_i : Cond.instantiable RX3 6 ∈ lw_ok := by decide +kernel
theorem zX4_init : Cond.code yX4_init cX4_init 1 none ∈ lw_ok ∧ Cond.instanceMethod yX4_init ∈ lw_ok ∧ Cond.initialized yX4_init.cls ∈ lw_ok ∧ (yX4_init.cls ≠ "java/lang/invoke/MethodHandle" ∧ yX4_init.cls ≠ "java/lang/invoke/VarHandle") ∧ (parseMethodDescriptor yX4_init.desc).map (fun d => d.parameters.length) = some 0 := ⟨mok (i := 186) (by decide +kernel) rfl, mok (i := 185) (by decide +kernel) rfl, mok (i := 62) (by decide +kernel) rfl, by decide +kernel, by decide +kernel⟩
theorem inX4_i : Cond.instantiable RX4 6 ∈ lw_ok := by decide +kernel
theorem zX6_init : Cond.code yX6_init cX6_init 2 none ∈ lw_ok ∧ Cond.instanceMethod yX6_init ∈ lw_ok ∧ Cond.initialized yX6_init.cls ∈ lw_ok ∧ (yX6_init.cls ≠ "java/lang/invoke/MethodHandle" ∧ yX6_init.cls ≠ "java/lang/invoke/VarHandle") ∧ (parseMethodDescriptor yX6_init.desc).map (fun d => d.parameters.length) = some 0 := ⟨mok (i := 147) (by decide +kernel) rfl, mok (i := 146) (by decide +kernel) rfl, mok (i := 60) (by decide +kernel) rfl, by decide +kernel, by decide +kernel⟩
theorem inX6_i : Cond.instantiable RX6 3 ∈ lw_ok := by decide +kernel
theorem zX9_init : Cond.code yX9_init cX9_init 2 none ∈ lw_ok ∧ Cond.instanceMethod yX9_init ∈ lw_ok ∧ Cond.initialized yX9_init.cls ∈ lw_ok ∧ (yX9_init.cls ≠ "java/lang/invoke/MethodHandle" ∧ yX9_init.cls ≠ "java/lang/invoke/VarHandle") ∧ (parseMethodDescriptor yX9_init.desc).map (fun d => d.parameters.length) = some 0 := ⟨mok (i := 74) (by decide +kernel) rfl, mok (i := 73) (by decide +kernel) rfl, mok (i := 57) (by decide +kernel) rfl, by decide +kernel, by decide +kernel⟩
theorem inX9_i : Cond.instantiable RX9 11 ∈ lw_ok := by decide +kernel
theorem zX10_init : Cond.code yX10_init cX10_init 1 none ∈ lw_ok ∧ Cond.instanceMethod yX10_init ∈ lw_ok ∧ Cond.initialized yX10_init.cls ∈ lw_ok ∧ (yX10_init.cls ≠ "java/lang/invoke/MethodHandle" ∧ yX10_init.cls ≠ "java/lang/invoke/VarHandle") ∧ (parseMethodDescriptor yX10_init.desc).map (fun d => d.parameters.length) = some 0 := ⟨mok (i := 816) (by decide +kernel) rfl, mok (i := 815) (by decide +kernel) rfl, mok (i := 67) (by decide +kernel) rfl, by decide +kernel, by decide +kernel⟩
theorem inX10_i : Cond.instantiable RX10 23 ∈ lw_ok := by decide +kernel
theorem qX9_1 : Cond.methodLink RX9 1 Lib.objectInit ∈ lw_ok := mok (i := 75) (by decide +kernel) rfl
theorem qX9_7 : Cond.classLink RX9 7 RX8 ∈ lw_ok := mok (i := 78) (by decide +kernel) rfl
theorem qX8_3 : Cond.methodLink RX8 3 Lib.objectInit ∈ lw_ok := mok (i := 83) (by decide +kernel) rfl
theorem qX9_16 : Cond.classLink RX9 16 RX2 ∈ lw_ok := mok (i := 93) (by decide +kernel) rfl
theorem qX2_3 : Cond.methodLink RX2 3 Lib.objectInit ∈ lw_ok := mok (i := 98) (by decide +kernel) rfl
theorem qX9_26 : Cond.classLink RX9 26 RX6 ∈ lw_ok := mok (i := 143) (by decide +kernel) rfl
theorem qX6_3 : Cond.methodLink RX6 3 Lib.objectInit ∈ lw_ok := mok (i := 148) (by decide +kernel) rfl
theorem qX6_9 : Cond.classLink RX6 9 RX2 ∈ lw_ok := mok (i := 149) (by decide +kernel) rfl
theorem qX9_37 : Cond.classLink RX9 37 RX5 ∈ lw_ok := mok (i := 163) (by decide +kernel) rfl
theorem qX5_3 : Cond.methodLink RX5 3 Lib.objectInit ∈ lw_ok := mok (i := 168) (by decide +kernel) rfl
theorem qX9_44 : Cond.classLink RX9 44 RX4 ∈ lw_ok := mok (i := 182) (by decide +kernel) rfl
theorem qX4_3 : Cond.methodLink RX4 3 Lib.objectInit ∈ lw_ok := mok (i := 187) (by decide +kernel) rfl
theorem qX4_9 : Cond.classLink RX4 9 RX1 ∈ lw_ok := mok (i := 188) (by decide +kernel) rfl
theorem qX1_3 : Cond.methodLink RX1 3 Lib.objectInit ∈ lw_ok := mok (i := 193) (by decide +kernel) rfl
theorem qX4_22 : Cond.classLink RX4 22 "[[I" ∈ lw_ok := mok (i := 204) (by decide +kernel) rfl
theorem qX9_51 : Cond.classLink RX9 51 RX7 ∈ lw_ok := mok (i := 226) (by decide +kernel) rfl
theorem qX7_3 : Cond.methodLink RX7 3 Lib.objectInit ∈ lw_ok := mok (i := 231) (by decide +kernel) rfl
theorem qX9_58 : Cond.classLink RX9 58 RX3 ∈ lw_ok := mok (i := 265) (by decide +kernel) rfl
theorem qX3_5 : Cond.methodLink RX3 5 Lib.objectInit ∈ lw_ok := mok (i := 270) (by decide +kernel) rfl
theorem qX3_11 : Cond.classLink RX3 11 RX1 ∈ lw_ok := mok (i := 271) (by decide +kernel) rfl
theorem qX9_65 : Cond.classLink RX9 65 RX0 ∈ lw_ok := mok (i := 294) (by decide +kernel) rfl
theorem qX0_3 : Cond.methodLink RX0 3 Lib.objectInit ∈ lw_ok := mok (i := 299) (by decide +kernel) rfl
theorem qX10_1 : Cond.methodLink RX10 1 Lib.objectInit ∈ lw_ok := mok (i := 817) (by decide +kernel) rfl
def wX2 (cA : Nat → ClassId) (h : Nat) (r : List Nat) : va_W := [(h, .inr (2, [.ref (r.getD 0 0), .int 0, .int 4, .int 0, .int 0, .int 0, .int 0, .int 0])), ((r.getD 0 0), .inl (cA 0, (8, .inl (fun _ => 0))))]
set_option maxRecDepth 20000 in
theorem kX2_init (l : Launch) (G : va_G) (cA : Nat → ClassId) : CI l yX2_init cX2_init 1 1 1 8 G cA (.inr (2, [.null, .int 0, .int 0, .int 0, .int 0, .int 0, .int 0, .int 0])) (wX2 cA) := by
  refine ci_of (by decide +kernel) rfl (by decide) (fun X h0 F hin Q hret => ?_)
  have F : Fk X l 1 G cA cX2_init RX2 1 1 8 := F
  refine k_aload_n F dX2_init_0 1 rfl 0 rfl ?_
  refine k_objInit F dX2_init_1 4 rfl qX2_3 (Nat.le_of_ble_eq_true rfl) (by decide) ?_
  refine k_aload_n F dX2_init_4 5 rfl 0 rfl ?_
  refine k_bipush (v := 8) F dX2_init_5 7 rfl (by decide) ?_
  refine k_newi (N := 8) F dX2_init_7 9 rfl (by decide) rfl (by decide) (by decide) (by decide) (fun q1 => ?_)
  refine k_cast (ws' := (h0, .inr (2, [.null, .int 0, .int 0, .int 0, .int 0, .int 0, .int 0, .int 0])) :: [(q1, .inl (cA 0, (8, .inl (fun _ => 0))))]) rfl ?_
  refine k_putF (j := 0) (fs' := [.ref q1, .int 0, .int 0, .int 0, .int 0, .int 0, .int 0, .int 0]) F dX2_init_9 12 rfl inX2 tyX2 tyX2_ok nmX2 rfl (by decide) qX2_9 rfl hin rfl (tyX2_ok 0 (by decide)) rfl rfl (Nat.le_of_ble_eq_true rfl) rfl ?_
  refine k_aload_n F dX2_init_12 13 rfl 0 rfl ?_
  refine k_iconst (v := 4) F dX2_init_13 14 rfl (by decide) ?_
  refine k_putI (j := 2) (fs' := [.ref q1, .int 0, .int 4, .int 0, .int 0, .int 0, .int 0, .int 0]) F dX2_init_14 17 rfl inX2 tyX2 tyX2_ok nmX2 rfl (by decide) qX2_15 rfl (tyX2_ok 2 (by decide)) rfl rfl (Nat.le_of_ble_eq_true rfl) rfl ?_
  refine k_cast (ws' := wX2 cA h0 [q1]) rfl ?_
  exact hret [q1] _ _ _ _ dX2_init_17 (by decide) (by decide)
def wX8 (cA : Nat → ClassId) (h : Nat) (r : List Nat) : va_W := [(h, .inr (8, [.ref (r.getD 0 0), .int 0])), ((r.getD 0 0), .inl (cA 0, (56, .inl (fun _ => 0))))]
set_option maxRecDepth 20000 in
theorem kX8_init (l : Launch) (G : va_G) (cA : Nat → ClassId) : CI l yX8_init cX8_init 1 1 1 56 G cA (.inr (8, [.null, .int 0])) (wX8 cA) := by
  refine ci_of (by decide +kernel) rfl (by decide) (fun X h0 F hin Q hret => ?_)
  have F : Fk X l 1 G cA cX8_init RX8 1 1 56 := F
  refine k_aload_n F dX8_init_0 1 rfl 0 rfl ?_
  refine k_objInit F dX8_init_1 4 rfl qX8_3 (Nat.le_of_ble_eq_true rfl) (by decide) ?_
  refine k_aload_n F dX8_init_4 5 rfl 0 rfl ?_
  refine k_bipush (v := 56) F dX8_init_5 7 rfl (by decide) ?_
  refine k_newi (N := 56) F dX8_init_7 9 rfl (by decide) rfl (by decide) (by decide) (by decide) (fun q1 => ?_)
  refine k_cast (ws' := (h0, .inr (8, [.null, .int 0])) :: [(q1, .inl (cA 0, (56, .inl (fun _ => 0))))]) rfl ?_
  refine k_putF (j := 0) (fs' := [.ref q1, .int 0]) F dX8_init_9 12 rfl inX8 tyX8 tyX8_ok nmX8 rfl (by decide) qX8_9 rfl hin rfl (tyX8_ok 0 (by decide)) rfl rfl (Nat.le_of_ble_eq_true rfl) rfl ?_
  refine k_cast (ws' := wX8 cA h0 [q1]) rfl ?_
  exact hret [q1] _ _ _ _ dX8_init_12 (by decide) (by decide)
def wX1 (cA : Nat → ClassId) (h : Nat) (r : List Nat) : va_W := [(h, .inr (1, [.ref (r.getD 0 0), .ref (r.getD 1 0), .ref (r.getD 2 0)])), ((r.getD 0 0), .inl (cA 0, (8, .inl (fun _ => 0)))), ((r.getD 1 0), .inl (cA 0, (8, .inl (fun _ => 0)))), ((r.getD 2 0), .inl (cA 0, (8, .inl (fun _ => 0))))]
set_option maxRecDepth 20000 in
theorem kX1_init (l : Launch) (G : va_G) (cA : Nat → ClassId) : CI l yX1_init cX1_init 1 1 3 24 G cA (.inr (1, [.null, .null, .null])) (wX1 cA) := by
  refine ci_of (by decide +kernel) rfl (by decide) (fun X h0 F hin Q hret => ?_)
  have F : Fk X l 1 G cA cX1_init RX1 1 3 24 := F
  refine k_aload_n F dX1_init_0 1 rfl 0 rfl ?_
  refine k_objInit F dX1_init_1 4 rfl qX1_3 (Nat.le_of_ble_eq_true rfl) (by decide) ?_
  refine k_aload_n F dX1_init_4 5 rfl 0 rfl ?_
  refine k_bipush (v := 8) F dX1_init_5 7 rfl (by decide) ?_
  refine k_newi (N := 8) F dX1_init_7 9 rfl (by decide) rfl (by decide) (by decide) (by decide) (fun q1 => ?_)
  refine k_cast (ws' := (h0, .inr (1, [.null, .null, .null])) :: [(q1, .inl (cA 0, (8, .inl (fun _ => 0))))]) rfl ?_
  refine k_putF (j := 0) (fs' := [.ref q1, .null, .null]) F dX1_init_9 12 rfl inX1 tyX1 tyX1_ok nmX1 rfl (by decide) qX1_9 rfl hin rfl (tyX1_ok 0 (by decide)) rfl rfl (Nat.le_of_ble_eq_true rfl) rfl ?_
  refine k_aload_n F dX1_init_12 13 rfl 0 rfl ?_
  refine k_bipush (v := 8) F dX1_init_13 15 rfl (by decide) ?_
  refine k_newi (N := 8) F dX1_init_15 17 rfl (by decide) rfl (by decide) (by decide) (by decide) (fun q2 => ?_)
  refine k_cast (ws' := (h0, .inr (1, [.ref q1, .null, .null])) :: ([(q1, .inl (cA 0, (8, .inl (fun _ => 0))))] ++ [(q2, .inl (cA 0, (8, .inl (fun _ => 0))))])) rfl ?_
  refine k_putF (j := 1) (fs' := [.ref q1, .ref q2, .null]) F dX1_init_17 20 rfl inX1 tyX1 tyX1_ok nmX1 rfl (by decide) qX1_15 rfl hin rfl (tyX1_ok 1 (by decide)) rfl rfl (Nat.le_of_ble_eq_true rfl) rfl ?_
  refine k_aload_n F dX1_init_20 21 rfl 0 rfl ?_
  refine k_bipush (v := 8) F dX1_init_21 23 rfl (by decide) ?_
  refine k_newi (N := 8) F dX1_init_23 25 rfl (by decide) rfl (by decide) (by decide) (by decide) (fun q3 => ?_)
  refine k_cast (ws' := (h0, .inr (1, [.ref q1, .ref q2, .null])) :: (([(q1, .inl (cA 0, (8, .inl (fun _ => 0))))] ++ [(q2, .inl (cA 0, (8, .inl (fun _ => 0))))]) ++ [(q3, .inl (cA 0, (8, .inl (fun _ => 0))))])) rfl ?_
  refine k_putF (j := 2) (fs' := [.ref q1, .ref q2, .ref q3]) F dX1_init_25 28 rfl inX1 tyX1 tyX1_ok nmX1 rfl (by decide) qX1_18 rfl hin rfl (tyX1_ok 2 (by decide)) rfl rfl (Nat.le_of_ble_eq_true rfl) rfl ?_
  refine k_cast (ws' := wX1 cA h0 [q1, q2, q3]) rfl ?_
  exact hret [q1, q2, q3] _ _ _ _ dX1_init_28 (by decide) (by decide)
def wX5 (cA : Nat → ClassId) (h : Nat) (r : List Nat) : va_W := [(h, .inr (5, [.int 0, .int 0, .int 0]))]
set_option maxRecDepth 20000 in
theorem kX5_init (l : Launch) (G : va_G) (cA : Nat → ClassId) : CI l yX5_init cX5_init 1 1 0 0 G cA (.inr (5, [.int 0, .int 0, .int 0])) (wX5 cA) := by
  refine ci_of (by decide +kernel) rfl (by decide) (fun X h0 F hin Q hret => ?_)
  have F : Fk X l 1 G cA cX5_init RX5 1 0 0 := F
  refine k_aload_n F dX5_init_0 1 rfl 0 rfl ?_
  refine k_objInit F dX5_init_1 4 rfl qX5_3 (Nat.le_of_ble_eq_true rfl) (by decide) ?_
  refine k_cast (ws' := wX5 cA h0 []) rfl ?_
  exact hret [] _ _ _ _ dX5_init_4 (by decide) (by decide)
def wX0 (cA : Nat → ClassId) (h : Nat) (r : List Nat) : va_W := [(h, .inr (0, [.long 0, .int 0, .int 0]))]
set_option maxRecDepth 20000 in
theorem kX0_init (l : Launch) (G : va_G) (cA : Nat → ClassId) : CI l yX0_init cX0_init 1 1 0 0 G cA (.inr (0, [.long 0, .int 0, .int 0])) (wX0 cA) := by
  refine ci_of (by decide +kernel) rfl (by decide) (fun X h0 F hin Q hret => ?_)
  have F : Fk X l 1 G cA cX0_init RX0 1 0 0 := F
  refine k_aload_n F dX0_init_0 1 rfl 0 rfl ?_
  refine k_objInit F dX0_init_1 4 rfl qX0_3 (Nat.le_of_ble_eq_true rfl) (by decide) ?_
  refine k_cast (ws' := wX0 cA h0 []) rfl ?_
  exact hret [] _ _ _ _ dX0_init_4 (by decide) (by decide)
def wX7 (cA : Nat → ClassId) (h : Nat) (r : List Nat) : va_W := [(h, .inr (7, [.ref (r.getD 0 0), .ref (r.getD 1 0), .ref (r.getD 2 0), .ref (r.getD 3 0), .ref (r.getD 4 0), .int 0, .int 0, .int 0, .int 0])), ((r.getD 0 0), .inl (cA 0, (6, .inl (fun _ => 0)))), ((r.getD 1 0), .inl (cA 0, (6, .inl (fun _ => 0)))), ((r.getD 2 0), .inl (cA 1, (6, .inl (fun _ => 0)))), ((r.getD 3 0), .inl (cA 0, (6, .inl (fun _ => 0)))), ((r.getD 4 0), .inl (cA 0, (8, .inl (fun _ => 0))))]
set_option maxRecDepth 20000 in
theorem kX7_init (l : Launch) (G : va_G) (cA : Nat → ClassId) : CI l yX7_init cX7_init 1 1 5 32 G cA (.inr (7, [.null, .null, .null, .null, .null, .int 0, .int 0, .int 0, .int 0])) (wX7 cA) := by
  refine ci_of (by decide +kernel) rfl (by decide) (fun X h0 F hin Q hret => ?_)
  have F : Fk X l 1 G cA cX7_init RX7 1 5 32 := F
  refine k_aload_n F dX7_init_0 1 rfl 0 rfl ?_
  refine k_objInit F dX7_init_1 4 rfl qX7_3 (Nat.le_of_ble_eq_true rfl) (by decide) ?_
  refine k_aload_n F dX7_init_4 5 rfl 0 rfl ?_
  refine k_bipush (v := 6) F dX7_init_5 7 rfl (by decide) ?_
  refine k_newi (N := 6) F dX7_init_7 9 rfl (by decide) rfl (by decide) (by decide) (by decide) (fun q1 => ?_)
  refine k_cast (ws' := (h0, .inr (7, [.null, .null, .null, .null, .null, .int 0, .int 0, .int 0, .int 0])) :: [(q1, .inl (cA 0, (6, .inl (fun _ => 0))))]) rfl ?_
  refine k_putF (j := 0) (fs' := [.ref q1, .null, .null, .null, .null, .int 0, .int 0, .int 0, .int 0]) F dX7_init_9 12 rfl inX7 tyX7 tyX7_ok nmX7 rfl (by decide) qX7_9 rfl hin rfl (tyX7_ok 0 (by decide)) rfl rfl (Nat.le_of_ble_eq_true rfl) rfl ?_
  refine k_aload_n F dX7_init_12 13 rfl 0 rfl ?_
  refine k_bipush (v := 6) F dX7_init_13 15 rfl (by decide) ?_
  refine k_newi (N := 6) F dX7_init_15 17 rfl (by decide) rfl (by decide) (by decide) (by decide) (fun q2 => ?_)
  refine k_cast (ws' := (h0, .inr (7, [.ref q1, .null, .null, .null, .null, .int 0, .int 0, .int 0, .int 0])) :: ([(q1, .inl (cA 0, (6, .inl (fun _ => 0))))] ++ [(q2, .inl (cA 0, (6, .inl (fun _ => 0))))])) rfl ?_
  refine k_putF (j := 1) (fs' := [.ref q1, .ref q2, .null, .null, .null, .int 0, .int 0, .int 0, .int 0]) F dX7_init_17 20 rfl inX7 tyX7 tyX7_ok nmX7 rfl (by decide) qX7_15 rfl hin rfl (tyX7_ok 1 (by decide)) rfl rfl (Nat.le_of_ble_eq_true rfl) rfl ?_
  refine k_aload_n F dX7_init_20 21 rfl 0 rfl ?_
  refine k_bipush (v := 6) F dX7_init_21 23 rfl (by decide) ?_
  refine k_newz (N := 6) F dX7_init_23 25 rfl (by decide) rfl (by decide) (by decide) (by decide) (fun q3 => ?_)
  refine k_cast (ws' := (h0, .inr (7, [.ref q1, .ref q2, .null, .null, .null, .int 0, .int 0, .int 0, .int 0])) :: (([(q1, .inl (cA 0, (6, .inl (fun _ => 0))))] ++ [(q2, .inl (cA 0, (6, .inl (fun _ => 0))))]) ++ [(q3, .inl (cA 1, (6, .inl (fun _ => 0))))])) rfl ?_
  refine k_putF (j := 2) (fs' := [.ref q1, .ref q2, .ref q3, .null, .null, .int 0, .int 0, .int 0, .int 0]) F dX7_init_25 28 rfl inX7 tyX7 tyX7_ok nmX7 rfl (by decide) qX7_18 rfl hin rfl (tyX7_ok 2 (by decide)) rfl rfl (Nat.le_of_ble_eq_true rfl) rfl ?_
  refine k_aload_n F dX7_init_28 29 rfl 0 rfl ?_
  refine k_bipush (v := 6) F dX7_init_29 31 rfl (by decide) ?_
  refine k_newi (N := 6) F dX7_init_31 33 rfl (by decide) rfl (by decide) (by decide) (by decide) (fun q4 => ?_)
  refine k_cast (ws' := (h0, .inr (7, [.ref q1, .ref q2, .ref q3, .null, .null, .int 0, .int 0, .int 0, .int 0])) :: ((([(q1, .inl (cA 0, (6, .inl (fun _ => 0))))] ++ [(q2, .inl (cA 0, (6, .inl (fun _ => 0))))]) ++ [(q3, .inl (cA 1, (6, .inl (fun _ => 0))))]) ++ [(q4, .inl (cA 0, (6, .inl (fun _ => 0))))])) rfl ?_
  refine k_putF (j := 3) (fs' := [.ref q1, .ref q2, .ref q3, .ref q4, .null, .int 0, .int 0, .int 0, .int 0]) F dX7_init_33 36 rfl inX7 tyX7 tyX7_ok nmX7 rfl (by decide) qX7_22 rfl hin rfl (tyX7_ok 3 (by decide)) rfl rfl (Nat.le_of_ble_eq_true rfl) rfl ?_
  refine k_aload_n F dX7_init_36 37 rfl 0 rfl ?_
  refine k_bipush (v := 8) F dX7_init_37 39 rfl (by decide) ?_
  refine k_newi (N := 8) F dX7_init_39 41 rfl (by decide) rfl (by decide) (by decide) (by decide) (fun q5 => ?_)
  refine k_cast (ws' := (h0, .inr (7, [.ref q1, .ref q2, .ref q3, .ref q4, .null, .int 0, .int 0, .int 0, .int 0])) :: (((([(q1, .inl (cA 0, (6, .inl (fun _ => 0))))] ++ [(q2, .inl (cA 0, (6, .inl (fun _ => 0))))]) ++ [(q3, .inl (cA 1, (6, .inl (fun _ => 0))))]) ++ [(q4, .inl (cA 0, (6, .inl (fun _ => 0))))]) ++ [(q5, .inl (cA 0, (8, .inl (fun _ => 0))))])) rfl ?_
  refine k_putF (j := 4) (fs' := [.ref q1, .ref q2, .ref q3, .ref q4, .ref q5, .int 0, .int 0, .int 0, .int 0]) F dX7_init_41 44 rfl inX7 tyX7 tyX7_ok nmX7 rfl (by decide) qX7_25 rfl hin rfl (tyX7_ok 4 (by decide)) rfl rfl (Nat.le_of_ble_eq_true rfl) rfl ?_
  refine k_cast (ws' := wX7 cA h0 [q1, q2, q3, q4, q5]) rfl ?_
  exact hret [q1, q2, q3, q4, q5] _ _ _ _ dX7_init_44 (by decide) (by decide)
def wX3 (cA : Nat → ClassId) (h : Nat) (r : List Nat) : va_W := [(h, .inr (3, [.ref (r.getD 0 0), .int 0, .int 0, .int 0, .int 0, .int 0])), ((r.getD 0 0), .inr (1, [.ref (r.getD 1 0), .ref (r.getD 2 0), .ref (r.getD 3 0)])), ((r.getD 1 0), .inl (cA 0, (8, .inl (fun _ => 0)))), ((r.getD 2 0), .inl (cA 0, (8, .inl (fun _ => 0)))), ((r.getD 3 0), .inl (cA 0, (8, .inl (fun _ => 0))))]
set_option maxRecDepth 20000 in
theorem kX3_init (l : Launch) (G : va_G) (cA : Nat → ClassId) : CI l yX3_init cX3_init 1 2 4 27 G cA (.inr (3, [.null, .int 0, .int 0, .int 0, .int 0, .int 0])) (wX3 cA) := by
  refine ci_of (by decide +kernel) rfl (by decide) (fun X h0 F hin Q hret => ?_)
  have F : Fk X l 1 G cA cX3_init RX3 2 4 27 := F
  refine k_aload_n F dX3_init_0 1 rfl 0 rfl ?_
  refine k_objInit F dX3_init_1 4 rfl qX3_5 (Nat.le_of_ble_eq_true rfl) (by decide) ?_
  refine k_aload_n F dX3_init_4 5 rfl 0 rfl ?_
  refine k_new (ci := 1) (fs := [.null, .null, .null]) F dX3_init_5 8 rfl inX1 tyX1 tyX1_ok qX3_11 inX1_i zX1_init.2.2.1 rfl (fun j hj => by rcases (show j = 0 ∨ j = 1 ∨ j = 2 by omega) with rfl | rfl | rfl <;> rfl) (by decide) (by decide) (fun q1 => ?_)
  refine k_dup F dX3_init_8 9 rfl rfl ?_
  refine k_ctor (q := q1) F dX3_init_9 12 rfl (kX1_init l G cA) qX3_13 zX1_init.1 zX1_init.2.1 zX1_init.2.2.1 zX1_init.2.2.2.1 zX1_init.2.2.2.2 rfl (by decide) (by decide) (Nat.le_of_ble_eq_true rfl) (by decide) (by decide) (fun r2 => ?_)
  refine k_cast (ws' := (h0, .inr (3, [.null, .int 0, .int 0, .int 0, .int 0, .int 0])) :: wX1 cA q1 r2) rfl ?_
  refine k_putF (j := 0) (fs' := [.ref q1, .int 0, .int 0, .int 0, .int 0, .int 0]) F dX3_init_12 15 rfl inX3 tyX3 tyX3_ok nmX3 rfl (by decide) qX3_14 rfl hin rfl (tyX3_ok 0 (by decide)) rfl rfl (Nat.le_of_ble_eq_true rfl) rfl ?_
  refine k_cast (ws' := wX3 cA h0 [q1, (r2.getD 0 0), (r2.getD 1 0), (r2.getD 2 0)]) rfl ?_
  exact hret [q1, (r2.getD 0 0), (r2.getD 1 0), (r2.getD 2 0)] _ _ _ _ dX3_init_15 (by decide) (by decide)
def wX4 (cA : Nat → ClassId) (h : Nat) (r : List Nat) : va_W := [(h, .inr (4, [.ref (r.getD 0 0), .ref (r.getD 4 0), .ref (r.getD 5 0), .ref (r.getD 9 0), .int 0, .int 0])), ((r.getD 0 0), .inr (1, [.ref (r.getD 1 0), .ref (r.getD 2 0), .ref (r.getD 3 0)])), ((r.getD 1 0), .inl (cA 0, (8, .inl (fun _ => 0)))), ((r.getD 2 0), .inl (cA 0, (8, .inl (fun _ => 0)))), ((r.getD 3 0), .inl (cA 0, (8, .inl (fun _ => 0)))), ((r.getD 4 0), .inl (cA 0, (3, .inl (fun _ => 0)))), ((r.getD 5 0), .inl (cA 3, (3, qs (va_up (va_up (va_up (fun _ => none) 0 (some (r.getD 6 0))) 1 (some (r.getD 7 0))) 2 (some (r.getD 8 0)))))), ((r.getD 6 0), .inl (cA 0, (256, .inl (fun _ => 0)))), ((r.getD 7 0), .inl (cA 0, (256, .inl (fun _ => 0)))), ((r.getD 8 0), .inl (cA 0, (256, .inl (fun _ => 0)))), ((r.getD 9 0), .inl (cA 3, (3, qs (va_up (va_up (va_up (fun _ => none) 0 (some (r.getD 10 0))) 1 (some (r.getD 11 0))) 2 (some (r.getD 12 0)))))), ((r.getD 10 0), .inl (cA 0, (81, .inl (fun _ => 0)))), ((r.getD 11 0), .inl (cA 0, (81, .inl (fun _ => 0)))), ((r.getD 12 0), .inl (cA 0, (81, .inl (fun _ => 0))))]
set_option maxRecDepth 20000 in
theorem kX4_init (l : Launch) (G : va_G) (cA : Nat → ClassId) : CI l yX4_init cX4_init 1 2 13 1047 G cA (.inr (4, [.null, .null, .null, .null, .int 0, .int 0])) (wX4 cA) := by
  refine ci_of (by decide +kernel) rfl (by decide) (fun X h0 F hin Q hret => ?_)
  have F : Fk X l 1 G cA cX4_init RX4 2 13 1047 := F
  refine k_aload_n F dX4_init_0 1 rfl 0 rfl ?_
  refine k_objInit F dX4_init_1 4 rfl qX4_3 (Nat.le_of_ble_eq_true rfl) (by decide) ?_
  refine k_aload_n F dX4_init_4 5 rfl 0 rfl ?_
  refine k_new (ci := 1) (fs := [.null, .null, .null]) F dX4_init_5 8 rfl inX1 tyX1 tyX1_ok qX4_9 inX1_i zX1_init.2.2.1 rfl (fun j hj => by rcases (show j = 0 ∨ j = 1 ∨ j = 2 by omega) with rfl | rfl | rfl <;> rfl) (by decide) (by decide) (fun q1 => ?_)
  refine k_dup F dX4_init_8 9 rfl rfl ?_
  refine k_ctor (q := q1) F dX4_init_9 12 rfl (kX1_init l G cA) qX4_11 zX1_init.1 zX1_init.2.1 zX1_init.2.2.1 zX1_init.2.2.2.1 zX1_init.2.2.2.2 rfl (by decide) (by decide) (Nat.le_of_ble_eq_true rfl) (by decide) (by decide) (fun r2 => ?_)
  refine k_cast (ws' := (h0, .inr (4, [.null, .null, .null, .null, .int 0, .int 0])) :: wX1 cA q1 r2) rfl ?_
  refine k_putF (j := 0) (fs' := [.ref q1, .null, .null, .null, .int 0, .int 0]) F dX4_init_12 15 rfl inX4 tyX4 tyX4_ok nmX4 rfl (by decide) qX4_12 rfl hin rfl (tyX4_ok 0 (by decide)) rfl rfl (Nat.le_of_ble_eq_true rfl) rfl ?_
  refine k_aload_n F dX4_init_15 16 rfl 0 rfl ?_
  refine k_iconst (v := 3) F dX4_init_16 17 rfl (by decide) ?_
  refine k_newi (N := 3) F dX4_init_17 19 rfl (by decide) rfl (by decide) (by decide) (by decide) (fun q3 => ?_)
  refine k_cast (ws' := (h0, .inr (4, [.ref q1, .null, .null, .null, .int 0, .int 0])) :: (wX1 cA q1 r2 ++ [(q3, .inl (cA 0, (3, .inl (fun _ => 0))))])) rfl ?_
  refine k_putF (j := 1) (fs' := [.ref q1, .ref q3, .null, .null, .int 0, .int 0]) F dX4_init_19 22 rfl inX4 tyX4 tyX4_ok nmX4 rfl (by decide) qX4_18 rfl hin rfl (tyX4_ok 1 (by decide)) rfl rfl (Nat.le_of_ble_eq_true rfl) rfl ?_
  refine k_aload_n F dX4_init_22 23 rfl 0 rfl ?_
  refine k_iconst (v := 3) F dX4_init_23 24 rfl (by decide) ?_
  refine k_sipush (v := 256) F dX4_init_24 27 rfl (by decide) ?_
  refine k_mna (M := 256) F dX4_init_27 31 rfl qX4_22 (by decide) rfl (by decide) (by decide) (by decide) (fun q4 a5 a6 a7 => ?_)
  refine k_cast (ws' := (h0, .inr (4, [.ref q1, .ref q3, .null, .null, .int 0, .int 0])) :: ((wX1 cA q1 r2 ++ [(q3, .inl (cA 0, (3, .inl (fun _ => 0))))]) ++ [(q4, .inl (cA 3, (3, qs (va_up (va_up (va_up (fun _ => none) 0 (some a5)) 1 (some a6)) 2 (some a7))))), (a5, .inl (cA 0, (256, .inl (fun _ => 0)))), (a6, .inl (cA 0, (256, .inl (fun _ => 0)))), (a7, .inl (cA 0, (256, .inl (fun _ => 0))))])) rfl ?_
  refine k_putF (j := 2) (fs' := [.ref q1, .ref q3, .ref q4, .null, .int 0, .int 0]) F dX4_init_31 34 rfl inX4 tyX4 tyX4_ok nmX4 rfl (by decide) qX4_24 rfl hin rfl (tyX4_ok 2 (by decide)) rfl rfl (Nat.le_of_ble_eq_true rfl) rfl ?_
  refine k_aload_n F dX4_init_34 35 rfl 0 rfl ?_
  refine k_iconst (v := 3) F dX4_init_35 36 rfl (by decide) ?_
  refine k_bipush (v := 81) F dX4_init_36 38 rfl (by decide) ?_
  refine k_mna (M := 81) F dX4_init_38 42 rfl qX4_22 (by decide) rfl (by decide) (by decide) (by decide) (fun q8 a9 a10 a11 => ?_)
  refine k_cast (ws' := (h0, .inr (4, [.ref q1, .ref q3, .ref q4, .null, .int 0, .int 0])) :: (((wX1 cA q1 r2 ++ [(q3, .inl (cA 0, (3, .inl (fun _ => 0))))]) ++ [(q4, .inl (cA 3, (3, qs (va_up (va_up (va_up (fun _ => none) 0 (some a5)) 1 (some a6)) 2 (some a7))))), (a5, .inl (cA 0, (256, .inl (fun _ => 0)))), (a6, .inl (cA 0, (256, .inl (fun _ => 0)))), (a7, .inl (cA 0, (256, .inl (fun _ => 0))))]) ++ [(q8, .inl (cA 3, (3, qs (va_up (va_up (va_up (fun _ => none) 0 (some a9)) 1 (some a10)) 2 (some a11))))), (a9, .inl (cA 0, (81, .inl (fun _ => 0)))), (a10, .inl (cA 0, (81, .inl (fun _ => 0)))), (a11, .inl (cA 0, (81, .inl (fun _ => 0))))])) rfl ?_
  refine k_putF (j := 3) (fs' := [.ref q1, .ref q3, .ref q4, .ref q8, .int 0, .int 0]) F dX4_init_42 45 rfl inX4 tyX4 tyX4_ok nmX4 rfl (by decide) qX4_27 rfl hin rfl (tyX4_ok 3 (by decide)) rfl rfl (Nat.le_of_ble_eq_true rfl) rfl ?_
  refine k_cast (ws' := wX4 cA h0 [q1, (r2.getD 0 0), (r2.getD 1 0), (r2.getD 2 0), q3, q4, a5, a6, a7, q8, a9, a10, a11]) rfl ?_
  exact hret [q1, (r2.getD 0 0), (r2.getD 1 0), (r2.getD 2 0), q3, q4, a5, a6, a7, q8, a9, a10, a11] _ _ _ _ dX4_init_45 (by decide) (by decide)
def wX6 (cA : Nat → ClassId) (h : Nat) (r : List Nat) : va_W := [(h, .inr (6, [.ref (r.getD 0 0), .int 0, .int 0])), ((r.getD 0 0), .inl (cA 2, (16, qs (va_up (va_up (va_up (va_up (va_up (va_up (va_up (va_up (va_up (va_up (va_up (va_up (va_up (va_up (va_up (va_up (fun _ => none) 0 (some (r.getD 1 0))) 1 (some (r.getD 3 0))) 2 (some (r.getD 5 0))) 3 (some (r.getD 7 0))) 4 (some (r.getD 9 0))) 5 (some (r.getD 11 0))) 6 (some (r.getD 13 0))) 7 (some (r.getD 15 0))) 8 (some (r.getD 17 0))) 9 (some (r.getD 19 0))) 10 (some (r.getD 21 0))) 11 (some (r.getD 23 0))) 12 (some (r.getD 25 0))) 13 (some (r.getD 27 0))) 14 (some (r.getD 29 0))) 15 (some (r.getD 31 0)))))), ((r.getD 1 0), .inr (2, [.ref (r.getD 2 0), .int 0, .int 4, .int 0, .int 0, .int 0, .int 0, .int 0])), ((r.getD 2 0), .inl (cA 0, (8, .inl (fun _ => 0)))), ((r.getD 3 0), .inr (2, [.ref (r.getD 4 0), .int 0, .int 4, .int 0, .int 0, .int 0, .int 0, .int 0])), ((r.getD 4 0), .inl (cA 0, (8, .inl (fun _ => 0)))), ((r.getD 5 0), .inr (2, [.ref (r.getD 6 0), .int 0, .int 4, .int 0, .int 0, .int 0, .int 0, .int 0])), ((r.getD 6 0), .inl (cA 0, (8, .inl (fun _ => 0)))), ((r.getD 7 0), .inr (2, [.ref (r.getD 8 0), .int 0, .int 4, .int 0, .int 0, .int 0, .int 0, .int 0])), ((r.getD 8 0), .inl (cA 0, (8, .inl (fun _ => 0)))), ((r.getD 9 0), .inr (2, [.ref (r.getD 10 0), .int 0, .int 4, .int 0, .int 0, .int 0, .int 0, .int 0])), ((r.getD 10 0), .inl (cA 0, (8, .inl (fun _ => 0)))), ((r.getD 11 0), .inr (2, [.ref (r.getD 12 0), .int 0, .int 4, .int 0, .int 0, .int 0, .int 0, .int 0])), ((r.getD 12 0), .inl (cA 0, (8, .inl (fun _ => 0)))), ((r.getD 13 0), .inr (2, [.ref (r.getD 14 0), .int 0, .int 4, .int 0, .int 0, .int 0, .int 0, .int 0])), ((r.getD 14 0), .inl (cA 0, (8, .inl (fun _ => 0)))), ((r.getD 15 0), .inr (2, [.ref (r.getD 16 0), .int 0, .int 4, .int 0, .int 0, .int 0, .int 0, .int 0])), ((r.getD 16 0), .inl (cA 0, (8, .inl (fun _ => 0)))), ((r.getD 17 0), .inr (2, [.ref (r.getD 18 0), .int 0, .int 4, .int 0, .int 0, .int 0, .int 0, .int 0])), ((r.getD 18 0), .inl (cA 0, (8, .inl (fun _ => 0)))), ((r.getD 19 0), .inr (2, [.ref (r.getD 20 0), .int 0, .int 4, .int 0, .int 0, .int 0, .int 0, .int 0])), ((r.getD 20 0), .inl (cA 0, (8, .inl (fun _ => 0)))), ((r.getD 21 0), .inr (2, [.ref (r.getD 22 0), .int 0, .int 4, .int 0, .int 0, .int 0, .int 0, .int 0])), ((r.getD 22 0), .inl (cA 0, (8, .inl (fun _ => 0)))), ((r.getD 23 0), .inr (2, [.ref (r.getD 24 0), .int 0, .int 4, .int 0, .int 0, .int 0, .int 0, .int 0])), ((r.getD 24 0), .inl (cA 0, (8, .inl (fun _ => 0)))), ((r.getD 25 0), .inr (2, [.ref (r.getD 26 0), .int 0, .int 4, .int 0, .int 0, .int 0, .int 0, .int 0])), ((r.getD 26 0), .inl (cA 0, (8, .inl (fun _ => 0)))), ((r.getD 27 0), .inr (2, [.ref (r.getD 28 0), .int 0, .int 4, .int 0, .int 0, .int 0, .int 0, .int 0])), ((r.getD 28 0), .inl (cA 0, (8, .inl (fun _ => 0)))), ((r.getD 29 0), .inr (2, [.ref (r.getD 30 0), .int 0, .int 4, .int 0, .int 0, .int 0, .int 0, .int 0])), ((r.getD 30 0), .inl (cA 0, (8, .inl (fun _ => 0)))), ((r.getD 31 0), .inr (2, [.ref (r.getD 32 0), .int 0, .int 4, .int 0, .int 0, .int 0, .int 0, .int 0])), ((r.getD 32 0), .inl (cA 0, (8, .inl (fun _ => 0))))]
set_option maxRecDepth 20000 in
theorem kX6_init (l : Launch) (G : va_G) (cA : Nat → ClassId) : CI l yX6_init cX6_init 2 2 33 272 G cA (.inr (6, [.null, .int 0, .int 0])) (wX6 cA) := by
  refine ci_of (by decide +kernel) rfl (by decide) (fun X h0 F hin Q hret => ?_)
  have F : Fk X l 2 G cA cX6_init RX6 2 33 272 := F
  refine k_aload_n F dX6_init_0 1 rfl 0 rfl ?_
  refine k_objInit F dX6_init_1 4 rfl qX6_3 (Nat.le_of_ble_eq_true rfl) (by decide) ?_
  refine k_aload_n F dX6_init_4 5 rfl 0 rfl ?_
  refine k_bipush (v := 16) F dX6_init_5 7 rfl (by decide) ?_
  refine k_newq (N := 16) F dX6_init_7 10 rfl qX6_9 (by decide) rfl (by decide) (by decide) (by decide) (fun q1 => ?_)
  refine k_cast (ws' := (h0, .inr (6, [.null, .int 0, .int 0])) :: [(q1, .inl (cA 2, (16, qs (fun _ => none))))]) rfl ?_
  refine k_putF (j := 0) (fs' := [.ref q1, .int 0, .int 0]) F dX6_init_10 13 rfl inX6 tyX6 tyX6_ok nmX6 rfl (by decide) qX6_11 rfl hin rfl (tyX6_ok 0 (by decide)) rfl rfl (Nat.le_of_ble_eq_true rfl) rfl ?_
  refine k_iconst (v := 0) F dX6_init_13 14 rfl (by decide) ?_
  refine k_istore_n F dX6_init_14 15 rfl 1 rfl (by decide) [(1, .int 0), (0, .ref h0)] rfl ?_
  refine k_iload_n F dX6_init_15 16 rfl 0 rfl ?_
  refine k_bipush (v := 16) F dX6_init_16 18 rfl (by decide) ?_
  refine k_icmp_ge F dX6_init_18 40 (by decide) 21 rfl (fun _ => ?_) (fun h9 => absurd (by decide) h9)
  refine k_aload_n F dX6_init_21 22 rfl 1 rfl ?_
  refine k_get (j := 0) F dX6_init_22 25 rfl inX6 rfl (by decide) qX6_11 rfl ?_
  refine k_iload_n F dX6_init_25 26 rfl 0 rfl ?_
  refine k_new (ci := 2) (fs := [.null, .int 0, .int 0, .int 0, .int 0, .int 0, .int 0, .int 0]) F dX6_init_26 29 rfl inX2 tyX2 tyX2_ok qX6_9 inX2_i zX2_init.2.2.1 rfl (fun j hj => by rcases (show j = 0 ∨ j = 1 ∨ j = 2 ∨ j = 3 ∨ j = 4 ∨ j = 5 ∨ j = 6 ∨ j = 7 by omega) with rfl | rfl | rfl | rfl | rfl | rfl | rfl | rfl <;> rfl) (by decide) (by decide) (fun q2 => ?_)
  refine k_dup F dX6_init_29 30 rfl rfl ?_
  refine k_ctor (q := q2) F dX6_init_30 33 rfl (kX2_init l G cA) qX6_17 zX2_init.1 zX2_init.2.1 zX2_init.2.2.1 zX2_init.2.2.2.1 zX2_init.2.2.2.2 rfl (by decide) (by decide) (Nat.le_of_ble_eq_true rfl) (by decide) (by decide) (fun r3 => ?_)
  refine k_cast (ws' := (h0, .inr (6, [.ref q1, .int 0, .int 0])) :: ([(q1, .inl (cA 2, (16, qs (fun _ => none))))] ++ wX2 cA q2 r3)) rfl ?_
  refine k_ast (q0 := 1) (wr := (h0, .inr (6, [.ref q1, .int 0, .int 0])) :: [(q1, .inl (cA 2, (16, qs (fun _ => none))))]) (ws' := (h0, .inr (6, [.ref q1, .int 0, .int 0])) :: ([(q1, .inl (cA 2, (16, qs (va_up (fun _ => none) 0 (some q2)))))] ++ wX2 cA q2 r3)) F dX6_init_33 34 rfl rfl rfl (vp_in_nI (n := 0) (by decide) (by decide)) rfl ?_
  refine k_iinc F dX6_init_34 37 rfl 0 rfl 1 (by decide) (by decide) [(1, .int 1), (0, .ref h0)] rfl ?_
  refine k_goto F dX6_init_37 15 (by decide) ?_
  refine k_iload_n F dX6_init_15 16 rfl 0 rfl ?_
  refine k_bipush (v := 16) F dX6_init_16 18 rfl (by decide) ?_
  refine k_icmp_ge F dX6_init_18 40 (by decide) 21 rfl (fun _ => ?_) (fun h9 => absurd (by decide) h9)
  refine k_aload_n F dX6_init_21 22 rfl 1 rfl ?_
  refine k_get (j := 0) F dX6_init_22 25 rfl inX6 rfl (by decide) qX6_11 rfl ?_
  refine k_iload_n F dX6_init_25 26 rfl 0 rfl ?_
  refine k_new (ci := 2) (fs := [.null, .int 0, .int 0, .int 0, .int 0, .int 0, .int 0, .int 0]) F dX6_init_26 29 rfl inX2 tyX2 tyX2_ok qX6_9 inX2_i zX2_init.2.2.1 rfl (fun j hj => by rcases (show j = 0 ∨ j = 1 ∨ j = 2 ∨ j = 3 ∨ j = 4 ∨ j = 5 ∨ j = 6 ∨ j = 7 by omega) with rfl | rfl | rfl | rfl | rfl | rfl | rfl | rfl <;> rfl) (by decide) (by decide) (fun q4 => ?_)
  refine k_dup F dX6_init_29 30 rfl rfl ?_
  refine k_ctor (q := q4) F dX6_init_30 33 rfl (kX2_init l G cA) qX6_17 zX2_init.1 zX2_init.2.1 zX2_init.2.2.1 zX2_init.2.2.2.1 zX2_init.2.2.2.2 rfl (by decide) (by decide) (Nat.le_of_ble_eq_true rfl) (by decide) (by decide) (fun r5 => ?_)
  refine k_cast (ws' := (h0, .inr (6, [.ref q1, .int 0, .int 0])) :: (([(q1, .inl (cA 2, (16, qs (va_up (fun _ => none) 0 (some q2)))))] ++ wX2 cA q2 r3) ++ wX2 cA q4 r5)) rfl ?_
  refine k_ast (q0 := 1) (wr := (h0, .inr (6, [.ref q1, .int 0, .int 0])) :: ([(q1, .inl (cA 2, (16, qs (va_up (fun _ => none) 0 (some q2)))))] ++ wX2 cA q2 r3)) (ws' := (h0, .inr (6, [.ref q1, .int 0, .int 0])) :: (([(q1, .inl (cA 2, (16, qs (va_up (va_up (fun _ => none) 0 (some q2)) 1 (some q4)))))] ++ wX2 cA q2 r3) ++ wX2 cA q4 r5)) F dX6_init_33 34 rfl rfl rfl (vp_in_nI (n := 1) (by decide) (by decide)) rfl ?_
  refine k_iinc F dX6_init_34 37 rfl 0 rfl 2 (by decide) (by decide) [(1, .int 2), (0, .ref h0)] rfl ?_
  refine k_goto F dX6_init_37 15 (by decide) ?_
  refine k_iload_n F dX6_init_15 16 rfl 0 rfl ?_
  refine k_bipush (v := 16) F dX6_init_16 18 rfl (by decide) ?_
  refine k_icmp_ge F dX6_init_18 40 (by decide) 21 rfl (fun _ => ?_) (fun h9 => absurd (by decide) h9)
  refine k_aload_n F dX6_init_21 22 rfl 1 rfl ?_
  refine k_get (j := 0) F dX6_init_22 25 rfl inX6 rfl (by decide) qX6_11 rfl ?_
  refine k_iload_n F dX6_init_25 26 rfl 0 rfl ?_
  refine k_new (ci := 2) (fs := [.null, .int 0, .int 0, .int 0, .int 0, .int 0, .int 0, .int 0]) F dX6_init_26 29 rfl inX2 tyX2 tyX2_ok qX6_9 inX2_i zX2_init.2.2.1 rfl (fun j hj => by rcases (show j = 0 ∨ j = 1 ∨ j = 2 ∨ j = 3 ∨ j = 4 ∨ j = 5 ∨ j = 6 ∨ j = 7 by omega) with rfl | rfl | rfl | rfl | rfl | rfl | rfl | rfl <;> rfl) (by decide) (by decide) (fun q6 => ?_)
  refine k_dup F dX6_init_29 30 rfl rfl ?_
  refine k_ctor (q := q6) F dX6_init_30 33 rfl (kX2_init l G cA) qX6_17 zX2_init.1 zX2_init.2.1 zX2_init.2.2.1 zX2_init.2.2.2.1 zX2_init.2.2.2.2 rfl (by decide) (by decide) (Nat.le_of_ble_eq_true rfl) (by decide) (by decide) (fun r7 => ?_)
  refine k_cast (ws' := (h0, .inr (6, [.ref q1, .int 0, .int 0])) :: ((([(q1, .inl (cA 2, (16, qs (va_up (va_up (fun _ => none) 0 (some q2)) 1 (some q4)))))] ++ wX2 cA q2 r3) ++ wX2 cA q4 r5) ++ wX2 cA q6 r7)) rfl ?_
  refine k_ast (q0 := 1) (wr := (h0, .inr (6, [.ref q1, .int 0, .int 0])) :: (([(q1, .inl (cA 2, (16, qs (va_up (va_up (fun _ => none) 0 (some q2)) 1 (some q4)))))] ++ wX2 cA q2 r3) ++ wX2 cA q4 r5)) (ws' := (h0, .inr (6, [.ref q1, .int 0, .int 0])) :: ((([(q1, .inl (cA 2, (16, qs (va_up (va_up (va_up (fun _ => none) 0 (some q2)) 1 (some q4)) 2 (some q6)))))] ++ wX2 cA q2 r3) ++ wX2 cA q4 r5) ++ wX2 cA q6 r7)) F dX6_init_33 34 rfl rfl rfl (vp_in_nI (n := 2) (by decide) (by decide)) rfl ?_
  refine k_iinc F dX6_init_34 37 rfl 0 rfl 3 (by decide) (by decide) [(1, .int 3), (0, .ref h0)] rfl ?_
  refine k_goto F dX6_init_37 15 (by decide) ?_
  refine k_iload_n F dX6_init_15 16 rfl 0 rfl ?_
  refine k_bipush (v := 16) F dX6_init_16 18 rfl (by decide) ?_
  refine k_icmp_ge F dX6_init_18 40 (by decide) 21 rfl (fun _ => ?_) (fun h9 => absurd (by decide) h9)
  refine k_aload_n F dX6_init_21 22 rfl 1 rfl ?_
  refine k_get (j := 0) F dX6_init_22 25 rfl inX6 rfl (by decide) qX6_11 rfl ?_
  refine k_iload_n F dX6_init_25 26 rfl 0 rfl ?_
  refine k_new (ci := 2) (fs := [.null, .int 0, .int 0, .int 0, .int 0, .int 0, .int 0, .int 0]) F dX6_init_26 29 rfl inX2 tyX2 tyX2_ok qX6_9 inX2_i zX2_init.2.2.1 rfl (fun j hj => by rcases (show j = 0 ∨ j = 1 ∨ j = 2 ∨ j = 3 ∨ j = 4 ∨ j = 5 ∨ j = 6 ∨ j = 7 by omega) with rfl | rfl | rfl | rfl | rfl | rfl | rfl | rfl <;> rfl) (by decide) (by decide) (fun q8 => ?_)
  refine k_dup F dX6_init_29 30 rfl rfl ?_
  refine k_ctor (q := q8) F dX6_init_30 33 rfl (kX2_init l G cA) qX6_17 zX2_init.1 zX2_init.2.1 zX2_init.2.2.1 zX2_init.2.2.2.1 zX2_init.2.2.2.2 rfl (by decide) (by decide) (Nat.le_of_ble_eq_true rfl) (by decide) (by decide) (fun r9 => ?_)
  refine k_cast (ws' := (h0, .inr (6, [.ref q1, .int 0, .int 0])) :: (((([(q1, .inl (cA 2, (16, qs (va_up (va_up (va_up (fun _ => none) 0 (some q2)) 1 (some q4)) 2 (some q6)))))] ++ wX2 cA q2 r3) ++ wX2 cA q4 r5) ++ wX2 cA q6 r7) ++ wX2 cA q8 r9)) rfl ?_
  refine k_ast (q0 := 1) (wr := (h0, .inr (6, [.ref q1, .int 0, .int 0])) :: ((([(q1, .inl (cA 2, (16, qs (va_up (va_up (va_up (fun _ => none) 0 (some q2)) 1 (some q4)) 2 (some q6)))))] ++ wX2 cA q2 r3) ++ wX2 cA q4 r5) ++ wX2 cA q6 r7)) (ws' := (h0, .inr (6, [.ref q1, .int 0, .int 0])) :: (((([(q1, .inl (cA 2, (16, qs (va_up (va_up (va_up (va_up (fun _ => none) 0 (some q2)) 1 (some q4)) 2 (some q6)) 3 (some q8)))))] ++ wX2 cA q2 r3) ++ wX2 cA q4 r5) ++ wX2 cA q6 r7) ++ wX2 cA q8 r9)) F dX6_init_33 34 rfl rfl rfl (vp_in_nI (n := 3) (by decide) (by decide)) rfl ?_
  refine k_iinc F dX6_init_34 37 rfl 0 rfl 4 (by decide) (by decide) [(1, .int 4), (0, .ref h0)] rfl ?_
  refine k_goto F dX6_init_37 15 (by decide) ?_
  refine k_iload_n F dX6_init_15 16 rfl 0 rfl ?_
  refine k_bipush (v := 16) F dX6_init_16 18 rfl (by decide) ?_
  refine k_icmp_ge F dX6_init_18 40 (by decide) 21 rfl (fun _ => ?_) (fun h9 => absurd (by decide) h9)
  refine k_aload_n F dX6_init_21 22 rfl 1 rfl ?_
  refine k_get (j := 0) F dX6_init_22 25 rfl inX6 rfl (by decide) qX6_11 rfl ?_
  refine k_iload_n F dX6_init_25 26 rfl 0 rfl ?_
  refine k_new (ci := 2) (fs := [.null, .int 0, .int 0, .int 0, .int 0, .int 0, .int 0, .int 0]) F dX6_init_26 29 rfl inX2 tyX2 tyX2_ok qX6_9 inX2_i zX2_init.2.2.1 rfl (fun j hj => by rcases (show j = 0 ∨ j = 1 ∨ j = 2 ∨ j = 3 ∨ j = 4 ∨ j = 5 ∨ j = 6 ∨ j = 7 by omega) with rfl | rfl | rfl | rfl | rfl | rfl | rfl | rfl <;> rfl) (by decide) (by decide) (fun q10 => ?_)
  refine k_dup F dX6_init_29 30 rfl rfl ?_
  refine k_ctor (q := q10) F dX6_init_30 33 rfl (kX2_init l G cA) qX6_17 zX2_init.1 zX2_init.2.1 zX2_init.2.2.1 zX2_init.2.2.2.1 zX2_init.2.2.2.2 rfl (by decide) (by decide) (Nat.le_of_ble_eq_true rfl) (by decide) (by decide) (fun r11 => ?_)
  refine k_cast (ws' := (h0, .inr (6, [.ref q1, .int 0, .int 0])) :: ((((([(q1, .inl (cA 2, (16, qs (va_up (va_up (va_up (va_up (fun _ => none) 0 (some q2)) 1 (some q4)) 2 (some q6)) 3 (some q8)))))] ++ wX2 cA q2 r3) ++ wX2 cA q4 r5) ++ wX2 cA q6 r7) ++ wX2 cA q8 r9) ++ wX2 cA q10 r11)) rfl ?_
  refine k_ast (q0 := 1) (wr := (h0, .inr (6, [.ref q1, .int 0, .int 0])) :: (((([(q1, .inl (cA 2, (16, qs (va_up (va_up (va_up (va_up (fun _ => none) 0 (some q2)) 1 (some q4)) 2 (some q6)) 3 (some q8)))))] ++ wX2 cA q2 r3) ++ wX2 cA q4 r5) ++ wX2 cA q6 r7) ++ wX2 cA q8 r9)) (ws' := (h0, .inr (6, [.ref q1, .int 0, .int 0])) :: ((((([(q1, .inl (cA 2, (16, qs (va_up (va_up (va_up (va_up (va_up (fun _ => none) 0 (some q2)) 1 (some q4)) 2 (some q6)) 3 (some q8)) 4 (some q10)))))] ++ wX2 cA q2 r3) ++ wX2 cA q4 r5) ++ wX2 cA q6 r7) ++ wX2 cA q8 r9) ++ wX2 cA q10 r11)) F dX6_init_33 34 rfl rfl rfl (vp_in_nI (n := 4) (by decide) (by decide)) rfl ?_
  refine k_iinc F dX6_init_34 37 rfl 0 rfl 5 (by decide) (by decide) [(1, .int 5), (0, .ref h0)] rfl ?_
  refine k_goto F dX6_init_37 15 (by decide) ?_
  refine k_iload_n F dX6_init_15 16 rfl 0 rfl ?_
  refine k_bipush (v := 16) F dX6_init_16 18 rfl (by decide) ?_
  refine k_icmp_ge F dX6_init_18 40 (by decide) 21 rfl (fun _ => ?_) (fun h9 => absurd (by decide) h9)
  refine k_aload_n F dX6_init_21 22 rfl 1 rfl ?_
  refine k_get (j := 0) F dX6_init_22 25 rfl inX6 rfl (by decide) qX6_11 rfl ?_
  refine k_iload_n F dX6_init_25 26 rfl 0 rfl ?_
  refine k_new (ci := 2) (fs := [.null, .int 0, .int 0, .int 0, .int 0, .int 0, .int 0, .int 0]) F dX6_init_26 29 rfl inX2 tyX2 tyX2_ok qX6_9 inX2_i zX2_init.2.2.1 rfl (fun j hj => by rcases (show j = 0 ∨ j = 1 ∨ j = 2 ∨ j = 3 ∨ j = 4 ∨ j = 5 ∨ j = 6 ∨ j = 7 by omega) with rfl | rfl | rfl | rfl | rfl | rfl | rfl | rfl <;> rfl) (by decide) (by decide) (fun q12 => ?_)
  refine k_dup F dX6_init_29 30 rfl rfl ?_
  refine k_ctor (q := q12) F dX6_init_30 33 rfl (kX2_init l G cA) qX6_17 zX2_init.1 zX2_init.2.1 zX2_init.2.2.1 zX2_init.2.2.2.1 zX2_init.2.2.2.2 rfl (by decide) (by decide) (Nat.le_of_ble_eq_true rfl) (by decide) (by decide) (fun r13 => ?_)
  refine k_cast (ws' := (h0, .inr (6, [.ref q1, .int 0, .int 0])) :: (((((([(q1, .inl (cA 2, (16, qs (va_up (va_up (va_up (va_up (va_up (fun _ => none) 0 (some q2)) 1 (some q4)) 2 (some q6)) 3 (some q8)) 4 (some q10)))))] ++ wX2 cA q2 r3) ++ wX2 cA q4 r5) ++ wX2 cA q6 r7) ++ wX2 cA q8 r9) ++ wX2 cA q10 r11) ++ wX2 cA q12 r13)) rfl ?_
  refine k_ast (q0 := 1) (wr := (h0, .inr (6, [.ref q1, .int 0, .int 0])) :: ((((([(q1, .inl (cA 2, (16, qs (va_up (va_up (va_up (va_up (va_up (fun _ => none) 0 (some q2)) 1 (some q4)) 2 (some q6)) 3 (some q8)) 4 (some q10)))))] ++ wX2 cA q2 r3) ++ wX2 cA q4 r5) ++ wX2 cA q6 r7) ++ wX2 cA q8 r9) ++ wX2 cA q10 r11)) (ws' := (h0, .inr (6, [.ref q1, .int 0, .int 0])) :: (((((([(q1, .inl (cA 2, (16, qs (va_up (va_up (va_up (va_up (va_up (va_up (fun _ => none) 0 (some q2)) 1 (some q4)) 2 (some q6)) 3 (some q8)) 4 (some q10)) 5 (some q12)))))] ++ wX2 cA q2 r3) ++ wX2 cA q4 r5) ++ wX2 cA q6 r7) ++ wX2 cA q8 r9) ++ wX2 cA q10 r11) ++ wX2 cA q12 r13)) F dX6_init_33 34 rfl rfl rfl (vp_in_nI (n := 5) (by decide) (by decide)) rfl ?_
  refine k_iinc F dX6_init_34 37 rfl 0 rfl 6 (by decide) (by decide) [(1, .int 6), (0, .ref h0)] rfl ?_
  refine k_goto F dX6_init_37 15 (by decide) ?_
  refine k_iload_n F dX6_init_15 16 rfl 0 rfl ?_
  refine k_bipush (v := 16) F dX6_init_16 18 rfl (by decide) ?_
  refine k_icmp_ge F dX6_init_18 40 (by decide) 21 rfl (fun _ => ?_) (fun h9 => absurd (by decide) h9)
  refine k_aload_n F dX6_init_21 22 rfl 1 rfl ?_
  refine k_get (j := 0) F dX6_init_22 25 rfl inX6 rfl (by decide) qX6_11 rfl ?_
  refine k_iload_n F dX6_init_25 26 rfl 0 rfl ?_
  refine k_new (ci := 2) (fs := [.null, .int 0, .int 0, .int 0, .int 0, .int 0, .int 0, .int 0]) F dX6_init_26 29 rfl inX2 tyX2 tyX2_ok qX6_9 inX2_i zX2_init.2.2.1 rfl (fun j hj => by rcases (show j = 0 ∨ j = 1 ∨ j = 2 ∨ j = 3 ∨ j = 4 ∨ j = 5 ∨ j = 6 ∨ j = 7 by omega) with rfl | rfl | rfl | rfl | rfl | rfl | rfl | rfl <;> rfl) (by decide) (by decide) (fun q14 => ?_)
  refine k_dup F dX6_init_29 30 rfl rfl ?_
  refine k_ctor (q := q14) F dX6_init_30 33 rfl (kX2_init l G cA) qX6_17 zX2_init.1 zX2_init.2.1 zX2_init.2.2.1 zX2_init.2.2.2.1 zX2_init.2.2.2.2 rfl (by decide) (by decide) (Nat.le_of_ble_eq_true rfl) (by decide) (by decide) (fun r15 => ?_)
  refine k_cast (ws' := (h0, .inr (6, [.ref q1, .int 0, .int 0])) :: ((((((([(q1, .inl (cA 2, (16, qs (va_up (va_up (va_up (va_up (va_up (va_up (fun _ => none) 0 (some q2)) 1 (some q4)) 2 (some q6)) 3 (some q8)) 4 (some q10)) 5 (some q12)))))] ++ wX2 cA q2 r3) ++ wX2 cA q4 r5) ++ wX2 cA q6 r7) ++ wX2 cA q8 r9) ++ wX2 cA q10 r11) ++ wX2 cA q12 r13) ++ wX2 cA q14 r15)) rfl ?_
  refine k_ast (q0 := 1) (wr := (h0, .inr (6, [.ref q1, .int 0, .int 0])) :: (((((([(q1, .inl (cA 2, (16, qs (va_up (va_up (va_up (va_up (va_up (va_up (fun _ => none) 0 (some q2)) 1 (some q4)) 2 (some q6)) 3 (some q8)) 4 (some q10)) 5 (some q12)))))] ++ wX2 cA q2 r3) ++ wX2 cA q4 r5) ++ wX2 cA q6 r7) ++ wX2 cA q8 r9) ++ wX2 cA q10 r11) ++ wX2 cA q12 r13)) (ws' := (h0, .inr (6, [.ref q1, .int 0, .int 0])) :: ((((((([(q1, .inl (cA 2, (16, qs (va_up (va_up (va_up (va_up (va_up (va_up (va_up (fun _ => none) 0 (some q2)) 1 (some q4)) 2 (some q6)) 3 (some q8)) 4 (some q10)) 5 (some q12)) 6 (some q14)))))] ++ wX2 cA q2 r3) ++ wX2 cA q4 r5) ++ wX2 cA q6 r7) ++ wX2 cA q8 r9) ++ wX2 cA q10 r11) ++ wX2 cA q12 r13) ++ wX2 cA q14 r15)) F dX6_init_33 34 rfl rfl rfl (vp_in_nI (n := 6) (by decide) (by decide)) rfl ?_
  refine k_iinc F dX6_init_34 37 rfl 0 rfl 7 (by decide) (by decide) [(1, .int 7), (0, .ref h0)] rfl ?_
  refine k_goto F dX6_init_37 15 (by decide) ?_
  refine k_iload_n F dX6_init_15 16 rfl 0 rfl ?_
  refine k_bipush (v := 16) F dX6_init_16 18 rfl (by decide) ?_
  refine k_icmp_ge F dX6_init_18 40 (by decide) 21 rfl (fun _ => ?_) (fun h9 => absurd (by decide) h9)
  refine k_aload_n F dX6_init_21 22 rfl 1 rfl ?_
  refine k_get (j := 0) F dX6_init_22 25 rfl inX6 rfl (by decide) qX6_11 rfl ?_
  refine k_iload_n F dX6_init_25 26 rfl 0 rfl ?_
  refine k_new (ci := 2) (fs := [.null, .int 0, .int 0, .int 0, .int 0, .int 0, .int 0, .int 0]) F dX6_init_26 29 rfl inX2 tyX2 tyX2_ok qX6_9 inX2_i zX2_init.2.2.1 rfl (fun j hj => by rcases (show j = 0 ∨ j = 1 ∨ j = 2 ∨ j = 3 ∨ j = 4 ∨ j = 5 ∨ j = 6 ∨ j = 7 by omega) with rfl | rfl | rfl | rfl | rfl | rfl | rfl | rfl <;> rfl) (by decide) (by decide) (fun q16 => ?_)
  refine k_dup F dX6_init_29 30 rfl rfl ?_
  refine k_ctor (q := q16) F dX6_init_30 33 rfl (kX2_init l G cA) qX6_17 zX2_init.1 zX2_init.2.1 zX2_init.2.2.1 zX2_init.2.2.2.1 zX2_init.2.2.2.2 rfl (by decide) (by decide) (Nat.le_of_ble_eq_true rfl) (by decide) (by decide) (fun r17 => ?_)
  refine k_cast (ws' := (h0, .inr (6, [.ref q1, .int 0, .int 0])) :: (((((((([(q1, .inl (cA 2, (16, qs (va_up (va_up (va_up (va_up (va_up (va_up (va_up (fun _ => none) 0 (some q2)) 1 (some q4)) 2 (some q6)) 3 (some q8)) 4 (some q10)) 5 (some q12)) 6 (some q14)))))] ++ wX2 cA q2 r3) ++ wX2 cA q4 r5) ++ wX2 cA q6 r7) ++ wX2 cA q8 r9) ++ wX2 cA q10 r11) ++ wX2 cA q12 r13) ++ wX2 cA q14 r15) ++ wX2 cA q16 r17)) rfl ?_
  refine k_ast (q0 := 1) (wr := (h0, .inr (6, [.ref q1, .int 0, .int 0])) :: ((((((([(q1, .inl (cA 2, (16, qs (va_up (va_up (va_up (va_up (va_up (va_up (va_up (fun _ => none) 0 (some q2)) 1 (some q4)) 2 (some q6)) 3 (some q8)) 4 (some q10)) 5 (some q12)) 6 (some q14)))))] ++ wX2 cA q2 r3) ++ wX2 cA q4 r5) ++ wX2 cA q6 r7) ++ wX2 cA q8 r9) ++ wX2 cA q10 r11) ++ wX2 cA q12 r13) ++ wX2 cA q14 r15)) (ws' := (h0, .inr (6, [.ref q1, .int 0, .int 0])) :: (((((((([(q1, .inl (cA 2, (16, qs (va_up (va_up (va_up (va_up (va_up (va_up (va_up (va_up (fun _ => none) 0 (some q2)) 1 (some q4)) 2 (some q6)) 3 (some q8)) 4 (some q10)) 5 (some q12)) 6 (some q14)) 7 (some q16)))))] ++ wX2 cA q2 r3) ++ wX2 cA q4 r5) ++ wX2 cA q6 r7) ++ wX2 cA q8 r9) ++ wX2 cA q10 r11) ++ wX2 cA q12 r13) ++ wX2 cA q14 r15) ++ wX2 cA q16 r17)) F dX6_init_33 34 rfl rfl rfl (vp_in_nI (n := 7) (by decide) (by decide)) rfl ?_
  refine k_iinc F dX6_init_34 37 rfl 0 rfl 8 (by decide) (by decide) [(1, .int 8), (0, .ref h0)] rfl ?_
  refine k_goto F dX6_init_37 15 (by decide) ?_
  refine k_iload_n F dX6_init_15 16 rfl 0 rfl ?_
  refine k_bipush (v := 16) F dX6_init_16 18 rfl (by decide) ?_
  refine k_icmp_ge F dX6_init_18 40 (by decide) 21 rfl (fun _ => ?_) (fun h9 => absurd (by decide) h9)
  refine k_aload_n F dX6_init_21 22 rfl 1 rfl ?_
  refine k_get (j := 0) F dX6_init_22 25 rfl inX6 rfl (by decide) qX6_11 rfl ?_
  refine k_iload_n F dX6_init_25 26 rfl 0 rfl ?_
  refine k_new (ci := 2) (fs := [.null, .int 0, .int 0, .int 0, .int 0, .int 0, .int 0, .int 0]) F dX6_init_26 29 rfl inX2 tyX2 tyX2_ok qX6_9 inX2_i zX2_init.2.2.1 rfl (fun j hj => by rcases (show j = 0 ∨ j = 1 ∨ j = 2 ∨ j = 3 ∨ j = 4 ∨ j = 5 ∨ j = 6 ∨ j = 7 by omega) with rfl | rfl | rfl | rfl | rfl | rfl | rfl | rfl <;> rfl) (by decide) (by decide) (fun q18 => ?_)
  refine k_dup F dX6_init_29 30 rfl rfl ?_
  refine k_ctor (q := q18) F dX6_init_30 33 rfl (kX2_init l G cA) qX6_17 zX2_init.1 zX2_init.2.1 zX2_init.2.2.1 zX2_init.2.2.2.1 zX2_init.2.2.2.2 rfl (by decide) (by decide) (Nat.le_of_ble_eq_true rfl) (by decide) (by decide) (fun r19 => ?_)
  refine k_cast (ws' := (h0, .inr (6, [.ref q1, .int 0, .int 0])) :: ((((((((([(q1, .inl (cA 2, (16, qs (va_up (va_up (va_up (va_up (va_up (va_up (va_up (va_up (fun _ => none) 0 (some q2)) 1 (some q4)) 2 (some q6)) 3 (some q8)) 4 (some q10)) 5 (some q12)) 6 (some q14)) 7 (some q16)))))] ++ wX2 cA q2 r3) ++ wX2 cA q4 r5) ++ wX2 cA q6 r7) ++ wX2 cA q8 r9) ++ wX2 cA q10 r11) ++ wX2 cA q12 r13) ++ wX2 cA q14 r15) ++ wX2 cA q16 r17) ++ wX2 cA q18 r19)) rfl ?_
  refine k_ast (q0 := 1) (wr := (h0, .inr (6, [.ref q1, .int 0, .int 0])) :: (((((((([(q1, .inl (cA 2, (16, qs (va_up (va_up (va_up (va_up (va_up (va_up (va_up (va_up (fun _ => none) 0 (some q2)) 1 (some q4)) 2 (some q6)) 3 (some q8)) 4 (some q10)) 5 (some q12)) 6 (some q14)) 7 (some q16)))))] ++ wX2 cA q2 r3) ++ wX2 cA q4 r5) ++ wX2 cA q6 r7) ++ wX2 cA q8 r9) ++ wX2 cA q10 r11) ++ wX2 cA q12 r13) ++ wX2 cA q14 r15) ++ wX2 cA q16 r17)) (ws' := (h0, .inr (6, [.ref q1, .int 0, .int 0])) :: ((((((((([(q1, .inl (cA 2, (16, qs (va_up (va_up (va_up (va_up (va_up (va_up (va_up (va_up (va_up (fun _ => none) 0 (some q2)) 1 (some q4)) 2 (some q6)) 3 (some q8)) 4 (some q10)) 5 (some q12)) 6 (some q14)) 7 (some q16)) 8 (some q18)))))] ++ wX2 cA q2 r3) ++ wX2 cA q4 r5) ++ wX2 cA q6 r7) ++ wX2 cA q8 r9) ++ wX2 cA q10 r11) ++ wX2 cA q12 r13) ++ wX2 cA q14 r15) ++ wX2 cA q16 r17) ++ wX2 cA q18 r19)) F dX6_init_33 34 rfl rfl rfl (vp_in_nI (n := 8) (by decide) (by decide)) rfl ?_
  refine k_iinc F dX6_init_34 37 rfl 0 rfl 9 (by decide) (by decide) [(1, .int 9), (0, .ref h0)] rfl ?_
  refine k_goto F dX6_init_37 15 (by decide) ?_
  refine k_iload_n F dX6_init_15 16 rfl 0 rfl ?_
  refine k_bipush (v := 16) F dX6_init_16 18 rfl (by decide) ?_
  refine k_icmp_ge F dX6_init_18 40 (by decide) 21 rfl (fun _ => ?_) (fun h9 => absurd (by decide) h9)
  refine k_aload_n F dX6_init_21 22 rfl 1 rfl ?_
  refine k_get (j := 0) F dX6_init_22 25 rfl inX6 rfl (by decide) qX6_11 rfl ?_
  refine k_iload_n F dX6_init_25 26 rfl 0 rfl ?_
  refine k_new (ci := 2) (fs := [.null, .int 0, .int 0, .int 0, .int 0, .int 0, .int 0, .int 0]) F dX6_init_26 29 rfl inX2 tyX2 tyX2_ok qX6_9 inX2_i zX2_init.2.2.1 rfl (fun j hj => by rcases (show j = 0 ∨ j = 1 ∨ j = 2 ∨ j = 3 ∨ j = 4 ∨ j = 5 ∨ j = 6 ∨ j = 7 by omega) with rfl | rfl | rfl | rfl | rfl | rfl | rfl | rfl <;> rfl) (by decide) (by decide) (fun q20 => ?_)
  refine k_dup F dX6_init_29 30 rfl rfl ?_
  refine k_ctor (q := q20) F dX6_init_30 33 rfl (kX2_init l G cA) qX6_17 zX2_init.1 zX2_init.2.1 zX2_init.2.2.1 zX2_init.2.2.2.1 zX2_init.2.2.2.2 rfl (by decide) (by decide) (Nat.le_of_ble_eq_true rfl) (by decide) (by decide) (fun r21 => ?_)
  refine k_cast (ws' := (h0, .inr (6, [.ref q1, .int 0, .int 0])) :: (((((((((([(q1, .inl (cA 2, (16, qs (va_up (va_up (va_up (va_up (va_up (va_up (va_up (va_up (va_up (fun _ => none) 0 (some q2)) 1 (some q4)) 2 (some q6)) 3 (some q8)) 4 (some q10)) 5 (some q12)) 6 (some q14)) 7 (some q16)) 8 (some q18)))))] ++ wX2 cA q2 r3) ++ wX2 cA q4 r5) ++ wX2 cA q6 r7) ++ wX2 cA q8 r9) ++ wX2 cA q10 r11) ++ wX2 cA q12 r13) ++ wX2 cA q14 r15) ++ wX2 cA q16 r17) ++ wX2 cA q18 r19) ++ wX2 cA q20 r21)) rfl ?_
  refine k_ast (q0 := 1) (wr := (h0, .inr (6, [.ref q1, .int 0, .int 0])) :: ((((((((([(q1, .inl (cA 2, (16, qs (va_up (va_up (va_up (va_up (va_up (va_up (va_up (va_up (va_up (fun _ => none) 0 (some q2)) 1 (some q4)) 2 (some q6)) 3 (some q8)) 4 (some q10)) 5 (some q12)) 6 (some q14)) 7 (some q16)) 8 (some q18)))))] ++ wX2 cA q2 r3) ++ wX2 cA q4 r5) ++ wX2 cA q6 r7) ++ wX2 cA q8 r9) ++ wX2 cA q10 r11) ++ wX2 cA q12 r13) ++ wX2 cA q14 r15) ++ wX2 cA q16 r17) ++ wX2 cA q18 r19)) (ws' := (h0, .inr (6, [.ref q1, .int 0, .int 0])) :: (((((((((([(q1, .inl (cA 2, (16, qs (va_up (va_up (va_up (va_up (va_up (va_up (va_up (va_up (va_up (va_up (fun _ => none) 0 (some q2)) 1 (some q4)) 2 (some q6)) 3 (some q8)) 4 (some q10)) 5 (some q12)) 6 (some q14)) 7 (some q16)) 8 (some q18)) 9 (some q20)))))] ++ wX2 cA q2 r3) ++ wX2 cA q4 r5) ++ wX2 cA q6 r7) ++ wX2 cA q8 r9) ++ wX2 cA q10 r11) ++ wX2 cA q12 r13) ++ wX2 cA q14 r15) ++ wX2 cA q16 r17) ++ wX2 cA q18 r19) ++ wX2 cA q20 r21)) F dX6_init_33 34 rfl rfl rfl (vp_in_nI (n := 9) (by decide) (by decide)) rfl ?_
  refine k_iinc F dX6_init_34 37 rfl 0 rfl 10 (by decide) (by decide) [(1, .int 10), (0, .ref h0)] rfl ?_
  refine k_goto F dX6_init_37 15 (by decide) ?_
  refine k_iload_n F dX6_init_15 16 rfl 0 rfl ?_
  refine k_bipush (v := 16) F dX6_init_16 18 rfl (by decide) ?_
  refine k_icmp_ge F dX6_init_18 40 (by decide) 21 rfl (fun _ => ?_) (fun h9 => absurd (by decide) h9)
  refine k_aload_n F dX6_init_21 22 rfl 1 rfl ?_
  refine k_get (j := 0) F dX6_init_22 25 rfl inX6 rfl (by decide) qX6_11 rfl ?_
  refine k_iload_n F dX6_init_25 26 rfl 0 rfl ?_
  refine k_new (ci := 2) (fs := [.null, .int 0, .int 0, .int 0, .int 0, .int 0, .int 0, .int 0]) F dX6_init_26 29 rfl inX2 tyX2 tyX2_ok qX6_9 inX2_i zX2_init.2.2.1 rfl (fun j hj => by rcases (show j = 0 ∨ j = 1 ∨ j = 2 ∨ j = 3 ∨ j = 4 ∨ j = 5 ∨ j = 6 ∨ j = 7 by omega) with rfl | rfl | rfl | rfl | rfl | rfl | rfl | rfl <;> rfl) (by decide) (by decide) (fun q22 => ?_)
  refine k_dup F dX6_init_29 30 rfl rfl ?_
  refine k_ctor (q := q22) F dX6_init_30 33 rfl (kX2_init l G cA) qX6_17 zX2_init.1 zX2_init.2.1 zX2_init.2.2.1 zX2_init.2.2.2.1 zX2_init.2.2.2.2 rfl (by decide) (by decide) (Nat.le_of_ble_eq_true rfl) (by decide) (by decide) (fun r23 => ?_)
  refine k_cast (ws' := (h0, .inr (6, [.ref q1, .int 0, .int 0])) :: ((((((((((([(q1, .inl (cA 2, (16, qs (va_up (va_up (va_up (va_up (va_up (va_up (va_up (va_up (va_up (va_up (fun _ => none) 0 (some q2)) 1 (some q4)) 2 (some q6)) 3 (some q8)) 4 (some q10)) 5 (some q12)) 6 (some q14)) 7 (some q16)) 8 (some q18)) 9 (some q20)))))] ++ wX2 cA q2 r3) ++ wX2 cA q4 r5) ++ wX2 cA q6 r7) ++ wX2 cA q8 r9) ++ wX2 cA q10 r11) ++ wX2 cA q12 r13) ++ wX2 cA q14 r15) ++ wX2 cA q16 r17) ++ wX2 cA q18 r19) ++ wX2 cA q20 r21) ++ wX2 cA q22 r23)) rfl ?_
  refine k_ast (q0 := 1) (wr := (h0, .inr (6, [.ref q1, .int 0, .int 0])) :: (((((((((([(q1, .inl (cA 2, (16, qs (va_up (va_up (va_up (va_up (va_up (va_up (va_up (va_up (va_up (va_up (fun _ => none) 0 (some q2)) 1 (some q4)) 2 (some q6)) 3 (some q8)) 4 (some q10)) 5 (some q12)) 6 (some q14)) 7 (some q16)) 8 (some q18)) 9 (some q20)))))] ++ wX2 cA q2 r3) ++ wX2 cA q4 r5) ++ wX2 cA q6 r7) ++ wX2 cA q8 r9) ++ wX2 cA q10 r11) ++ wX2 cA q12 r13) ++ wX2 cA q14 r15) ++ wX2 cA q16 r17) ++ wX2 cA q18 r19) ++ wX2 cA q20 r21)) (ws' := (h0, .inr (6, [.ref q1, .int 0, .int 0])) :: ((((((((((([(q1, .inl (cA 2, (16, qs (va_up (va_up (va_up (va_up (va_up (va_up (va_up (va_up (va_up (va_up (va_up (fun _ => none) 0 (some q2)) 1 (some q4)) 2 (some q6)) 3 (some q8)) 4 (some q10)) 5 (some q12)) 6 (some q14)) 7 (some q16)) 8 (some q18)) 9 (some q20)) 10 (some q22)))))] ++ wX2 cA q2 r3) ++ wX2 cA q4 r5) ++ wX2 cA q6 r7) ++ wX2 cA q8 r9) ++ wX2 cA q10 r11) ++ wX2 cA q12 r13) ++ wX2 cA q14 r15) ++ wX2 cA q16 r17) ++ wX2 cA q18 r19) ++ wX2 cA q20 r21) ++ wX2 cA q22 r23)) F dX6_init_33 34 rfl rfl rfl (vp_in_nI (n := 10) (by decide) (by decide)) rfl ?_
  refine k_iinc F dX6_init_34 37 rfl 0 rfl 11 (by decide) (by decide) [(1, .int 11), (0, .ref h0)] rfl ?_
  refine k_goto F dX6_init_37 15 (by decide) ?_
  refine k_iload_n F dX6_init_15 16 rfl 0 rfl ?_
  refine k_bipush (v := 16) F dX6_init_16 18 rfl (by decide) ?_
  refine k_icmp_ge F dX6_init_18 40 (by decide) 21 rfl (fun _ => ?_) (fun h9 => absurd (by decide) h9)
  refine k_aload_n F dX6_init_21 22 rfl 1 rfl ?_
  refine k_get (j := 0) F dX6_init_22 25 rfl inX6 rfl (by decide) qX6_11 rfl ?_
  refine k_iload_n F dX6_init_25 26 rfl 0 rfl ?_
  refine k_new (ci := 2) (fs := [.null, .int 0, .int 0, .int 0, .int 0, .int 0, .int 0, .int 0]) F dX6_init_26 29 rfl inX2 tyX2 tyX2_ok qX6_9 inX2_i zX2_init.2.2.1 rfl (fun j hj => by rcases (show j = 0 ∨ j = 1 ∨ j = 2 ∨ j = 3 ∨ j = 4 ∨ j = 5 ∨ j = 6 ∨ j = 7 by omega) with rfl | rfl | rfl | rfl | rfl | rfl | rfl | rfl <;> rfl) (by decide) (by decide) (fun q24 => ?_)
  refine k_dup F dX6_init_29 30 rfl rfl ?_
  refine k_ctor (q := q24) F dX6_init_30 33 rfl (kX2_init l G cA) qX6_17 zX2_init.1 zX2_init.2.1 zX2_init.2.2.1 zX2_init.2.2.2.1 zX2_init.2.2.2.2 rfl (by decide) (by decide) (Nat.le_of_ble_eq_true rfl) (by decide) (by decide) (fun r25 => ?_)
  refine k_cast (ws' := (h0, .inr (6, [.ref q1, .int 0, .int 0])) :: (((((((((((([(q1, .inl (cA 2, (16, qs (va_up (va_up (va_up (va_up (va_up (va_up (va_up (va_up (va_up (va_up (va_up (fun _ => none) 0 (some q2)) 1 (some q4)) 2 (some q6)) 3 (some q8)) 4 (some q10)) 5 (some q12)) 6 (some q14)) 7 (some q16)) 8 (some q18)) 9 (some q20)) 10 (some q22)))))] ++ wX2 cA q2 r3) ++ wX2 cA q4 r5) ++ wX2 cA q6 r7) ++ wX2 cA q8 r9) ++ wX2 cA q10 r11) ++ wX2 cA q12 r13) ++ wX2 cA q14 r15) ++ wX2 cA q16 r17) ++ wX2 cA q18 r19) ++ wX2 cA q20 r21) ++ wX2 cA q22 r23) ++ wX2 cA q24 r25)) rfl ?_
  refine k_ast (q0 := 1) (wr := (h0, .inr (6, [.ref q1, .int 0, .int 0])) :: ((((((((((([(q1, .inl (cA 2, (16, qs (va_up (va_up (va_up (va_up (va_up (va_up (va_up (va_up (va_up (va_up (va_up (fun _ => none) 0 (some q2)) 1 (some q4)) 2 (some q6)) 3 (some q8)) 4 (some q10)) 5 (some q12)) 6 (some q14)) 7 (some q16)) 8 (some q18)) 9 (some q20)) 10 (some q22)))))] ++ wX2 cA q2 r3) ++ wX2 cA q4 r5) ++ wX2 cA q6 r7) ++ wX2 cA q8 r9) ++ wX2 cA q10 r11) ++ wX2 cA q12 r13) ++ wX2 cA q14 r15) ++ wX2 cA q16 r17) ++ wX2 cA q18 r19) ++ wX2 cA q20 r21) ++ wX2 cA q22 r23)) (ws' := (h0, .inr (6, [.ref q1, .int 0, .int 0])) :: (((((((((((([(q1, .inl (cA 2, (16, qs (va_up (va_up (va_up (va_up (va_up (va_up (va_up (va_up (va_up (va_up (va_up (va_up (fun _ => none) 0 (some q2)) 1 (some q4)) 2 (some q6)) 3 (some q8)) 4 (some q10)) 5 (some q12)) 6 (some q14)) 7 (some q16)) 8 (some q18)) 9 (some q20)) 10 (some q22)) 11 (some q24)))))] ++ wX2 cA q2 r3) ++ wX2 cA q4 r5) ++ wX2 cA q6 r7) ++ wX2 cA q8 r9) ++ wX2 cA q10 r11) ++ wX2 cA q12 r13) ++ wX2 cA q14 r15) ++ wX2 cA q16 r17) ++ wX2 cA q18 r19) ++ wX2 cA q20 r21) ++ wX2 cA q22 r23) ++ wX2 cA q24 r25)) F dX6_init_33 34 rfl rfl rfl (vp_in_nI (n := 11) (by decide) (by decide)) rfl ?_
  refine k_iinc F dX6_init_34 37 rfl 0 rfl 12 (by decide) (by decide) [(1, .int 12), (0, .ref h0)] rfl ?_
  refine k_goto F dX6_init_37 15 (by decide) ?_
  refine k_iload_n F dX6_init_15 16 rfl 0 rfl ?_
  refine k_bipush (v := 16) F dX6_init_16 18 rfl (by decide) ?_
  refine k_icmp_ge F dX6_init_18 40 (by decide) 21 rfl (fun _ => ?_) (fun h9 => absurd (by decide) h9)
  refine k_aload_n F dX6_init_21 22 rfl 1 rfl ?_
  refine k_get (j := 0) F dX6_init_22 25 rfl inX6 rfl (by decide) qX6_11 rfl ?_
  refine k_iload_n F dX6_init_25 26 rfl 0 rfl ?_
  refine k_new (ci := 2) (fs := [.null, .int 0, .int 0, .int 0, .int 0, .int 0, .int 0, .int 0]) F dX6_init_26 29 rfl inX2 tyX2 tyX2_ok qX6_9 inX2_i zX2_init.2.2.1 rfl (fun j hj => by rcases (show j = 0 ∨ j = 1 ∨ j = 2 ∨ j = 3 ∨ j = 4 ∨ j = 5 ∨ j = 6 ∨ j = 7 by omega) with rfl | rfl | rfl | rfl | rfl | rfl | rfl | rfl <;> rfl) (by decide) (by decide) (fun q26 => ?_)
  refine k_dup F dX6_init_29 30 rfl rfl ?_
  refine k_ctor (q := q26) F dX6_init_30 33 rfl (kX2_init l G cA) qX6_17 zX2_init.1 zX2_init.2.1 zX2_init.2.2.1 zX2_init.2.2.2.1 zX2_init.2.2.2.2 rfl (by decide) (by decide) (Nat.le_of_ble_eq_true rfl) (by decide) (by decide) (fun r27 => ?_)
  refine k_cast (ws' := (h0, .inr (6, [.ref q1, .int 0, .int 0])) :: ((((((((((((([(q1, .inl (cA 2, (16, qs (va_up (va_up (va_up (va_up (va_up (va_up (va_up (va_up (va_up (va_up (va_up (va_up (fun _ => none) 0 (some q2)) 1 (some q4)) 2 (some q6)) 3 (some q8)) 4 (some q10)) 5 (some q12)) 6 (some q14)) 7 (some q16)) 8 (some q18)) 9 (some q20)) 10 (some q22)) 11 (some q24)))))] ++ wX2 cA q2 r3) ++ wX2 cA q4 r5) ++ wX2 cA q6 r7) ++ wX2 cA q8 r9) ++ wX2 cA q10 r11) ++ wX2 cA q12 r13) ++ wX2 cA q14 r15) ++ wX2 cA q16 r17) ++ wX2 cA q18 r19) ++ wX2 cA q20 r21) ++ wX2 cA q22 r23) ++ wX2 cA q24 r25) ++ wX2 cA q26 r27)) rfl ?_
  refine k_ast (q0 := 1) (wr := (h0, .inr (6, [.ref q1, .int 0, .int 0])) :: (((((((((((([(q1, .inl (cA 2, (16, qs (va_up (va_up (va_up (va_up (va_up (va_up (va_up (va_up (va_up (va_up (va_up (va_up (fun _ => none) 0 (some q2)) 1 (some q4)) 2 (some q6)) 3 (some q8)) 4 (some q10)) 5 (some q12)) 6 (some q14)) 7 (some q16)) 8 (some q18)) 9 (some q20)) 10 (some q22)) 11 (some q24)))))] ++ wX2 cA q2 r3) ++ wX2 cA q4 r5) ++ wX2 cA q6 r7) ++ wX2 cA q8 r9) ++ wX2 cA q10 r11) ++ wX2 cA q12 r13) ++ wX2 cA q14 r15) ++ wX2 cA q16 r17) ++ wX2 cA q18 r19) ++ wX2 cA q20 r21) ++ wX2 cA q22 r23) ++ wX2 cA q24 r25)) (ws' := (h0, .inr (6, [.ref q1, .int 0, .int 0])) :: ((((((((((((([(q1, .inl (cA 2, (16, qs (va_up (va_up (va_up (va_up (va_up (va_up (va_up (va_up (va_up (va_up (va_up (va_up (va_up (fun _ => none) 0 (some q2)) 1 (some q4)) 2 (some q6)) 3 (some q8)) 4 (some q10)) 5 (some q12)) 6 (some q14)) 7 (some q16)) 8 (some q18)) 9 (some q20)) 10 (some q22)) 11 (some q24)) 12 (some q26)))))] ++ wX2 cA q2 r3) ++ wX2 cA q4 r5) ++ wX2 cA q6 r7) ++ wX2 cA q8 r9) ++ wX2 cA q10 r11) ++ wX2 cA q12 r13) ++ wX2 cA q14 r15) ++ wX2 cA q16 r17) ++ wX2 cA q18 r19) ++ wX2 cA q20 r21) ++ wX2 cA q22 r23) ++ wX2 cA q24 r25) ++ wX2 cA q26 r27)) F dX6_init_33 34 rfl rfl rfl (vp_in_nI (n := 12) (by decide) (by decide)) rfl ?_
  refine k_iinc F dX6_init_34 37 rfl 0 rfl 13 (by decide) (by decide) [(1, .int 13), (0, .ref h0)] rfl ?_
  refine k_goto F dX6_init_37 15 (by decide) ?_
  refine k_iload_n F dX6_init_15 16 rfl 0 rfl ?_
  refine k_bipush (v := 16) F dX6_init_16 18 rfl (by decide) ?_
  refine k_icmp_ge F dX6_init_18 40 (by decide) 21 rfl (fun _ => ?_) (fun h9 => absurd (by decide) h9)
  refine k_aload_n F dX6_init_21 22 rfl 1 rfl ?_
  refine k_get (j := 0) F dX6_init_22 25 rfl inX6 rfl (by decide) qX6_11 rfl ?_
  refine k_iload_n F dX6_init_25 26 rfl 0 rfl ?_
  refine k_new (ci := 2) (fs := [.null, .int 0, .int 0, .int 0, .int 0, .int 0, .int 0, .int 0]) F dX6_init_26 29 rfl inX2 tyX2 tyX2_ok qX6_9 inX2_i zX2_init.2.2.1 rfl (fun j hj => by rcases (show j = 0 ∨ j = 1 ∨ j = 2 ∨ j = 3 ∨ j = 4 ∨ j = 5 ∨ j = 6 ∨ j = 7 by omega) with rfl | rfl | rfl | rfl | rfl | rfl | rfl | rfl <;> rfl) (by decide) (by decide) (fun q28 => ?_)
  refine k_dup F dX6_init_29 30 rfl rfl ?_
  refine k_ctor (q := q28) F dX6_init_30 33 rfl (kX2_init l G cA) qX6_17 zX2_init.1 zX2_init.2.1 zX2_init.2.2.1 zX2_init.2.2.2.1 zX2_init.2.2.2.2 rfl (by decide) (by decide) (Nat.le_of_ble_eq_true rfl) (by decide) (by decide) (fun r29 => ?_)
  refine k_cast (ws' := (h0, .inr (6, [.ref q1, .int 0, .int 0])) :: (((((((((((((([(q1, .inl (cA 2, (16, qs (va_up (va_up (va_up (va_up (va_up (va_up (va_up (va_up (va_up (va_up (va_up (va_up (va_up (fun _ => none) 0 (some q2)) 1 (some q4)) 2 (some q6)) 3 (some q8)) 4 (some q10)) 5 (some q12)) 6 (some q14)) 7 (some q16)) 8 (some q18)) 9 (some q20)) 10 (some q22)) 11 (some q24)) 12 (some q26)))))] ++ wX2 cA q2 r3) ++ wX2 cA q4 r5) ++ wX2 cA q6 r7) ++ wX2 cA q8 r9) ++ wX2 cA q10 r11) ++ wX2 cA q12 r13) ++ wX2 cA q14 r15) ++ wX2 cA q16 r17) ++ wX2 cA q18 r19) ++ wX2 cA q20 r21) ++ wX2 cA q22 r23) ++ wX2 cA q24 r25) ++ wX2 cA q26 r27) ++ wX2 cA q28 r29)) rfl ?_
  refine k_ast (q0 := 1) (wr := (h0, .inr (6, [.ref q1, .int 0, .int 0])) :: ((((((((((((([(q1, .inl (cA 2, (16, qs (va_up (va_up (va_up (va_up (va_up (va_up (va_up (va_up (va_up (va_up (va_up (va_up (va_up (fun _ => none) 0 (some q2)) 1 (some q4)) 2 (some q6)) 3 (some q8)) 4 (some q10)) 5 (some q12)) 6 (some q14)) 7 (some q16)) 8 (some q18)) 9 (some q20)) 10 (some q22)) 11 (some q24)) 12 (some q26)))))] ++ wX2 cA q2 r3) ++ wX2 cA q4 r5) ++ wX2 cA q6 r7) ++ wX2 cA q8 r9) ++ wX2 cA q10 r11) ++ wX2 cA q12 r13) ++ wX2 cA q14 r15) ++ wX2 cA q16 r17) ++ wX2 cA q18 r19) ++ wX2 cA q20 r21) ++ wX2 cA q22 r23) ++ wX2 cA q24 r25) ++ wX2 cA q26 r27)) (ws' := (h0, .inr (6, [.ref q1, .int 0, .int 0])) :: (((((((((((((([(q1, .inl (cA 2, (16, qs (va_up (va_up (va_up (va_up (va_up (va_up (va_up (va_up (va_up (va_up (va_up (va_up (va_up (va_up (fun _ => none) 0 (some q2)) 1 (some q4)) 2 (some q6)) 3 (some q8)) 4 (some q10)) 5 (some q12)) 6 (some q14)) 7 (some q16)) 8 (some q18)) 9 (some q20)) 10 (some q22)) 11 (some q24)) 12 (some q26)) 13 (some q28)))))] ++ wX2 cA q2 r3) ++ wX2 cA q4 r5) ++ wX2 cA q6 r7) ++ wX2 cA q8 r9) ++ wX2 cA q10 r11) ++ wX2 cA q12 r13) ++ wX2 cA q14 r15) ++ wX2 cA q16 r17) ++ wX2 cA q18 r19) ++ wX2 cA q20 r21) ++ wX2 cA q22 r23) ++ wX2 cA q24 r25) ++ wX2 cA q26 r27) ++ wX2 cA q28 r29)) F dX6_init_33 34 rfl rfl rfl (vp_in_nI (n := 13) (by decide) (by decide)) rfl ?_
  refine k_iinc F dX6_init_34 37 rfl 0 rfl 14 (by decide) (by decide) [(1, .int 14), (0, .ref h0)] rfl ?_
  refine k_goto F dX6_init_37 15 (by decide) ?_
  refine k_iload_n F dX6_init_15 16 rfl 0 rfl ?_
  refine k_bipush (v := 16) F dX6_init_16 18 rfl (by decide) ?_
  refine k_icmp_ge F dX6_init_18 40 (by decide) 21 rfl (fun _ => ?_) (fun h9 => absurd (by decide) h9)
  refine k_aload_n F dX6_init_21 22 rfl 1 rfl ?_
  refine k_get (j := 0) F dX6_init_22 25 rfl inX6 rfl (by decide) qX6_11 rfl ?_
  refine k_iload_n F dX6_init_25 26 rfl 0 rfl ?_
  refine k_new (ci := 2) (fs := [.null, .int 0, .int 0, .int 0, .int 0, .int 0, .int 0, .int 0]) F dX6_init_26 29 rfl inX2 tyX2 tyX2_ok qX6_9 inX2_i zX2_init.2.2.1 rfl (fun j hj => by rcases (show j = 0 ∨ j = 1 ∨ j = 2 ∨ j = 3 ∨ j = 4 ∨ j = 5 ∨ j = 6 ∨ j = 7 by omega) with rfl | rfl | rfl | rfl | rfl | rfl | rfl | rfl <;> rfl) (by decide) (by decide) (fun q30 => ?_)
  refine k_dup F dX6_init_29 30 rfl rfl ?_
  refine k_ctor (q := q30) F dX6_init_30 33 rfl (kX2_init l G cA) qX6_17 zX2_init.1 zX2_init.2.1 zX2_init.2.2.1 zX2_init.2.2.2.1 zX2_init.2.2.2.2 rfl (by decide) (by decide) (Nat.le_of_ble_eq_true rfl) (by decide) (by decide) (fun r31 => ?_)
  refine k_cast (ws' := (h0, .inr (6, [.ref q1, .int 0, .int 0])) :: ((((((((((((((([(q1, .inl (cA 2, (16, qs (va_up (va_up (va_up (va_up (va_up (va_up (va_up (va_up (va_up (va_up (va_up (va_up (va_up (va_up (fun _ => none) 0 (some q2)) 1 (some q4)) 2 (some q6)) 3 (some q8)) 4 (some q10)) 5 (some q12)) 6 (some q14)) 7 (some q16)) 8 (some q18)) 9 (some q20)) 10 (some q22)) 11 (some q24)) 12 (some q26)) 13 (some q28)))))] ++ wX2 cA q2 r3) ++ wX2 cA q4 r5) ++ wX2 cA q6 r7) ++ wX2 cA q8 r9) ++ wX2 cA q10 r11) ++ wX2 cA q12 r13) ++ wX2 cA q14 r15) ++ wX2 cA q16 r17) ++ wX2 cA q18 r19) ++ wX2 cA q20 r21) ++ wX2 cA q22 r23) ++ wX2 cA q24 r25) ++ wX2 cA q26 r27) ++ wX2 cA q28 r29) ++ wX2 cA q30 r31)) rfl ?_
  refine k_ast (q0 := 1) (wr := (h0, .inr (6, [.ref q1, .int 0, .int 0])) :: (((((((((((((([(q1, .inl (cA 2, (16, qs (va_up (va_up (va_up (va_up (va_up (va_up (va_up (va_up (va_up (va_up (va_up (va_up (va_up (va_up (fun _ => none) 0 (some q2)) 1 (some q4)) 2 (some q6)) 3 (some q8)) 4 (some q10)) 5 (some q12)) 6 (some q14)) 7 (some q16)) 8 (some q18)) 9 (some q20)) 10 (some q22)) 11 (some q24)) 12 (some q26)) 13 (some q28)))))] ++ wX2 cA q2 r3) ++ wX2 cA q4 r5) ++ wX2 cA q6 r7) ++ wX2 cA q8 r9) ++ wX2 cA q10 r11) ++ wX2 cA q12 r13) ++ wX2 cA q14 r15) ++ wX2 cA q16 r17) ++ wX2 cA q18 r19) ++ wX2 cA q20 r21) ++ wX2 cA q22 r23) ++ wX2 cA q24 r25) ++ wX2 cA q26 r27) ++ wX2 cA q28 r29)) (ws' := (h0, .inr (6, [.ref q1, .int 0, .int 0])) :: ((((((((((((((([(q1, .inl (cA 2, (16, qs (va_up (va_up (va_up (va_up (va_up (va_up (va_up (va_up (va_up (va_up (va_up (va_up (va_up (va_up (va_up (fun _ => none) 0 (some q2)) 1 (some q4)) 2 (some q6)) 3 (some q8)) 4 (some q10)) 5 (some q12)) 6 (some q14)) 7 (some q16)) 8 (some q18)) 9 (some q20)) 10 (some q22)) 11 (some q24)) 12 (some q26)) 13 (some q28)) 14 (some q30)))))] ++ wX2 cA q2 r3) ++ wX2 cA q4 r5) ++ wX2 cA q6 r7) ++ wX2 cA q8 r9) ++ wX2 cA q10 r11) ++ wX2 cA q12 r13) ++ wX2 cA q14 r15) ++ wX2 cA q16 r17) ++ wX2 cA q18 r19) ++ wX2 cA q20 r21) ++ wX2 cA q22 r23) ++ wX2 cA q24 r25) ++ wX2 cA q26 r27) ++ wX2 cA q28 r29) ++ wX2 cA q30 r31)) F dX6_init_33 34 rfl rfl rfl (vp_in_nI (n := 14) (by decide) (by decide)) rfl ?_
  refine k_iinc F dX6_init_34 37 rfl 0 rfl 15 (by decide) (by decide) [(1, .int 15), (0, .ref h0)] rfl ?_
  refine k_goto F dX6_init_37 15 (by decide) ?_
  refine k_iload_n F dX6_init_15 16 rfl 0 rfl ?_
  refine k_bipush (v := 16) F dX6_init_16 18 rfl (by decide) ?_
  refine k_icmp_ge F dX6_init_18 40 (by decide) 21 rfl (fun _ => ?_) (fun h9 => absurd (by decide) h9)
  refine k_aload_n F dX6_init_21 22 rfl 1 rfl ?_
  refine k_get (j := 0) F dX6_init_22 25 rfl inX6 rfl (by decide) qX6_11 rfl ?_
  refine k_iload_n F dX6_init_25 26 rfl 0 rfl ?_
  refine k_new (ci := 2) (fs := [.null, .int 0, .int 0, .int 0, .int 0, .int 0, .int 0, .int 0]) F dX6_init_26 29 rfl inX2 tyX2 tyX2_ok qX6_9 inX2_i zX2_init.2.2.1 rfl (fun j hj => by rcases (show j = 0 ∨ j = 1 ∨ j = 2 ∨ j = 3 ∨ j = 4 ∨ j = 5 ∨ j = 6 ∨ j = 7 by omega) with rfl | rfl | rfl | rfl | rfl | rfl | rfl | rfl <;> rfl) (by decide) (by decide) (fun q32 => ?_)
  refine k_dup F dX6_init_29 30 rfl rfl ?_
  refine k_ctor (q := q32) F dX6_init_30 33 rfl (kX2_init l G cA) qX6_17 zX2_init.1 zX2_init.2.1 zX2_init.2.2.1 zX2_init.2.2.2.1 zX2_init.2.2.2.2 rfl (by decide) (by decide) (Nat.le_of_ble_eq_true rfl) (by decide) (by decide) (fun r33 => ?_)
  refine k_cast (ws' := (h0, .inr (6, [.ref q1, .int 0, .int 0])) :: (((((((((((((((([(q1, .inl (cA 2, (16, qs (va_up (va_up (va_up (va_up (va_up (va_up (va_up (va_up (va_up (va_up (va_up (va_up (va_up (va_up (va_up (fun _ => none) 0 (some q2)) 1 (some q4)) 2 (some q6)) 3 (some q8)) 4 (some q10)) 5 (some q12)) 6 (some q14)) 7 (some q16)) 8 (some q18)) 9 (some q20)) 10 (some q22)) 11 (some q24)) 12 (some q26)) 13 (some q28)) 14 (some q30)))))] ++ wX2 cA q2 r3) ++ wX2 cA q4 r5) ++ wX2 cA q6 r7) ++ wX2 cA q8 r9) ++ wX2 cA q10 r11) ++ wX2 cA q12 r13) ++ wX2 cA q14 r15) ++ wX2 cA q16 r17) ++ wX2 cA q18 r19) ++ wX2 cA q20 r21) ++ wX2 cA q22 r23) ++ wX2 cA q24 r25) ++ wX2 cA q26 r27) ++ wX2 cA q28 r29) ++ wX2 cA q30 r31) ++ wX2 cA q32 r33)) rfl ?_
  refine k_ast (q0 := 1) (wr := (h0, .inr (6, [.ref q1, .int 0, .int 0])) :: ((((((((((((((([(q1, .inl (cA 2, (16, qs (va_up (va_up (va_up (va_up (va_up (va_up (va_up (va_up (va_up (va_up (va_up (va_up (va_up (va_up (va_up (fun _ => none) 0 (some q2)) 1 (some q4)) 2 (some q6)) 3 (some q8)) 4 (some q10)) 5 (some q12)) 6 (some q14)) 7 (some q16)) 8 (some q18)) 9 (some q20)) 10 (some q22)) 11 (some q24)) 12 (some q26)) 13 (some q28)) 14 (some q30)))))] ++ wX2 cA q2 r3) ++ wX2 cA q4 r5) ++ wX2 cA q6 r7) ++ wX2 cA q8 r9) ++ wX2 cA q10 r11) ++ wX2 cA q12 r13) ++ wX2 cA q14 r15) ++ wX2 cA q16 r17) ++ wX2 cA q18 r19) ++ wX2 cA q20 r21) ++ wX2 cA q22 r23) ++ wX2 cA q24 r25) ++ wX2 cA q26 r27) ++ wX2 cA q28 r29) ++ wX2 cA q30 r31)) (ws' := (h0, .inr (6, [.ref q1, .int 0, .int 0])) :: (((((((((((((((([(q1, .inl (cA 2, (16, qs (va_up (va_up (va_up (va_up (va_up (va_up (va_up (va_up (va_up (va_up (va_up (va_up (va_up (va_up (va_up (va_up (fun _ => none) 0 (some q2)) 1 (some q4)) 2 (some q6)) 3 (some q8)) 4 (some q10)) 5 (some q12)) 6 (some q14)) 7 (some q16)) 8 (some q18)) 9 (some q20)) 10 (some q22)) 11 (some q24)) 12 (some q26)) 13 (some q28)) 14 (some q30)) 15 (some q32)))))] ++ wX2 cA q2 r3) ++ wX2 cA q4 r5) ++ wX2 cA q6 r7) ++ wX2 cA q8 r9) ++ wX2 cA q10 r11) ++ wX2 cA q12 r13) ++ wX2 cA q14 r15) ++ wX2 cA q16 r17) ++ wX2 cA q18 r19) ++ wX2 cA q20 r21) ++ wX2 cA q22 r23) ++ wX2 cA q24 r25) ++ wX2 cA q26 r27) ++ wX2 cA q28 r29) ++ wX2 cA q30 r31) ++ wX2 cA q32 r33)) F dX6_init_33 34 rfl rfl rfl (vp_in_nI (n := 15) (by decide) (by decide)) rfl ?_
  refine k_iinc F dX6_init_34 37 rfl 0 rfl 16 (by decide) (by decide) [(1, .int 16), (0, .ref h0)] rfl ?_
  refine k_goto F dX6_init_37 15 (by decide) ?_
  refine k_iload_n F dX6_init_15 16 rfl 0 rfl ?_
  refine k_bipush (v := 16) F dX6_init_16 18 rfl (by decide) ?_
  refine k_icmp_ge F dX6_init_18 40 (by decide) 21 rfl (fun h9 => absurd h9 (by decide)) (fun _ => ?_)
  refine k_cast (ws' := wX6 cA h0 [q1, q2, (r3.getD 0 0), q4, (r5.getD 0 0), q6, (r7.getD 0 0), q8, (r9.getD 0 0), q10, (r11.getD 0 0), q12, (r13.getD 0 0), q14, (r15.getD 0 0), q16, (r17.getD 0 0), q18, (r19.getD 0 0), q20, (r21.getD 0 0), q22, (r23.getD 0 0), q24, (r25.getD 0 0), q26, (r27.getD 0 0), q28, (r29.getD 0 0), q30, (r31.getD 0 0), q32, (r33.getD 0 0)]) rfl ?_
  exact hret [q1, q2, (r3.getD 0 0), q4, (r5.getD 0 0), q6, (r7.getD 0 0), q8, (r9.getD 0 0), q10, (r11.getD 0 0), q12, (r13.getD 0 0), q14, (r15.getD 0 0), q16, (r17.getD 0 0), q18, (r19.getD 0 0), q20, (r21.getD 0 0), q22, (r23.getD 0 0), q24, (r25.getD 0 0), q26, (r27.getD 0 0), q28, (r29.getD 0 0), q30, (r31.getD 0 0), q32, (r33.getD 0 0)] _ _ _ _ dX6_init_40 (by decide) (by decide)
def wX9 (cA : Nat → ClassId) (h : Nat) (r : List Nat) : va_W := [(h, .inr (9, [.ref (r.getD 0 0), .ref (r.getD 2 0), .ref (r.getD 4 0), .ref (r.getD 6 0), .ref (r.getD 40 0), .int 0, .ref (r.getD 45 0), .ref (r.getD 46 0), .ref (r.getD 60 0), .ref (r.getD 66 0), .ref (r.getD 71 0)])), ((r.getD 0 0), .inr (8, [.ref (r.getD 1 0), .int 0])), ((r.getD 1 0), .inl (cA 0, (56, .inl (fun _ => 0)))), ((r.getD 2 0), .inr (2, [.ref (r.getD 3 0), .int 0, .int 4, .int 0, .int 0, .int 0, .int 0, .int 0])), ((r.getD 3 0), .inl (cA 0, (8, .inl (fun _ => 0)))), ((r.getD 4 0), .inr (2, [.ref (r.getD 5 0), .int 0, .int 4, .int 0, .int 0, .int 0, .int 0, .int 0])), ((r.getD 5 0), .inl (cA 0, (8, .inl (fun _ => 0)))), ((r.getD 6 0), .inr (6, [.ref (r.getD 7 0), .int 0, .int 0])), ((r.getD 7 0), .inl (cA 2, (16, qs (va_up (va_up (va_up (va_up (va_up (va_up (va_up (va_up (va_up (va_up (va_up (va_up (va_up (va_up (va_up (va_up (fun _ => none) 0 (some (r.getD 8 0))) 1 (some (r.getD 10 0))) 2 (some (r.getD 12 0))) 3 (some (r.getD 14 0))) 4 (some (r.getD 16 0))) 5 (some (r.getD 18 0))) 6 (some (r.getD 20 0))) 7 (some (r.getD 22 0))) 8 (some (r.getD 24 0))) 9 (some (r.getD 26 0))) 10 (some (r.getD 28 0))) 11 (some (r.getD 30 0))) 12 (some (r.getD 32 0))) 13 (some (r.getD 34 0))) 14 (some (r.getD 36 0))) 15 (some (r.getD 38 0)))))), ((r.getD 8 0), .inr (2, [.ref (r.getD 9 0), .int 0, .int 4, .int 0, .int 0, .int 0, .int 0, .int 0])), ((r.getD 9 0), .inl (cA 0, (8, .inl (fun _ => 0)))), ((r.getD 10 0), .inr (2, [.ref (r.getD 11 0), .int 0, .int 4, .int 0, .int 0, .int 0, .int 0, .int 0])), ((r.getD 11 0), .inl (cA 0, (8, .inl (fun _ => 0)))), ((r.getD 12 0), .inr (2, [.ref (r.getD 13 0), .int 0, .int 4, .int 0, .int 0, .int 0, .int 0, .int 0])), ((r.getD 13 0), .inl (cA 0, (8, .inl (fun _ => 0)))), ((r.getD 14 0), .inr (2, [.ref (r.getD 15 0), .int 0, .int 4, .int 0, .int 0, .int 0, .int 0, .int 0])), ((r.getD 15 0), .inl (cA 0, (8, .inl (fun _ => 0)))), ((r.getD 16 0), .inr (2, [.ref (r.getD 17 0), .int 0, .int 4, .int 0, .int 0, .int 0, .int 0, .int 0])), ((r.getD 17 0), .inl (cA 0, (8, .inl (fun _ => 0)))), ((r.getD 18 0), .inr (2, [.ref (r.getD 19 0), .int 0, .int 4, .int 0, .int 0, .int 0, .int 0, .int 0])), ((r.getD 19 0), .inl (cA 0, (8, .inl (fun _ => 0)))), ((r.getD 20 0), .inr (2, [.ref (r.getD 21 0), .int 0, .int 4, .int 0, .int 0, .int 0, .int 0, .int 0])), ((r.getD 21 0), .inl (cA 0, (8, .inl (fun _ => 0)))), ((r.getD 22 0), .inr (2, [.ref (r.getD 23 0), .int 0, .int 4, .int 0, .int 0, .int 0, .int 0, .int 0])), ((r.getD 23 0), .inl (cA 0, (8, .inl (fun _ => 0)))), ((r.getD 24 0), .inr (2, [.ref (r.getD 25 0), .int 0, .int 4, .int 0, .int 0, .int 0, .int 0, .int 0])), ((r.getD 25 0), .inl (cA 0, (8, .inl (fun _ => 0)))), ((r.getD 26 0), .inr (2, [.ref (r.getD 27 0), .int 0, .int 4, .int 0, .int 0, .int 0, .int 0, .int 0])), ((r.getD 27 0), .inl (cA 0, (8, .inl (fun _ => 0)))), ((r.getD 28 0), .inr (2, [.ref (r.getD 29 0), .int 0, .int 4, .int 0, .int 0, .int 0, .int 0, .int 0])), ((r.getD 29 0), .inl (cA 0, (8, .inl (fun _ => 0)))), ((r.getD 30 0), .inr (2, [.ref (r.getD 31 0), .int 0, .int 4, .int 0, .int 0, .int 0, .int 0, .int 0])), ((r.getD 31 0), .inl (cA 0, (8, .inl (fun _ => 0)))), ((r.getD 32 0), .inr (2, [.ref (r.getD 33 0), .int 0, .int 4, .int 0, .int 0, .int 0, .int 0, .int 0])), ((r.getD 33 0), .inl (cA 0, (8, .inl (fun _ => 0)))), ((r.getD 34 0), .inr (2, [.ref (r.getD 35 0), .int 0, .int 4, .int 0, .int 0, .int 0, .int 0, .int 0])), ((r.getD 35 0), .inl (cA 0, (8, .inl (fun _ => 0)))), ((r.getD 36 0), .inr (2, [.ref (r.getD 37 0), .int 0, .int 4, .int 0, .int 0, .int 0, .int 0, .int 0])), ((r.getD 37 0), .inl (cA 0, (8, .inl (fun _ => 0)))), ((r.getD 38 0), .inr (2, [.ref (r.getD 39 0), .int 0, .int 4, .int 0, .int 0, .int 0, .int 0, .int 0])), ((r.getD 39 0), .inl (cA 0, (8, .inl (fun _ => 0)))), ((r.getD 40 0), .inl (cA 2, (2, qs (va_up (va_up (fun _ => none) 0 (some (r.getD 41 0))) 1 (some (r.getD 43 0)))))), ((r.getD 41 0), .inr (2, [.ref (r.getD 42 0), .int 0, .int 4, .int 0, .int 0, .int 0, .int 0, .int 0])), ((r.getD 42 0), .inl (cA 0, (8, .inl (fun _ => 0)))), ((r.getD 43 0), .inr (2, [.ref (r.getD 44 0), .int 0, .int 4, .int 0, .int 0, .int 0, .int 0, .int 0])), ((r.getD 44 0), .inl (cA 0, (8, .inl (fun _ => 0)))), ((r.getD 45 0), .inr (5, [.int 0, .int 0, .int 0])), ((r.getD 46 0), .inr (4, [.ref (r.getD 47 0), .ref (r.getD 51 0), .ref (r.getD 52 0), .ref (r.getD 56 0), .int 0, .int 0])), ((r.getD 47 0), .inr (1, [.ref (r.getD 48 0), .ref (r.getD 49 0), .ref (r.getD 50 0)])), ((r.getD 48 0), .inl (cA 0, (8, .inl (fun _ => 0)))), ((r.getD 49 0), .inl (cA 0, (8, .inl (fun _ => 0)))), ((r.getD 50 0), .inl (cA 0, (8, .inl (fun _ => 0)))), ((r.getD 51 0), .inl (cA 0, (3, .inl (fun _ => 0)))), ((r.getD 52 0), .inl (cA 3, (3, qs (va_up (va_up (va_up (fun _ => none) 0 (some (r.getD 53 0))) 1 (some (r.getD 54 0))) 2 (some (r.getD 55 0)))))), ((r.getD 53 0), .inl (cA 0, (256, .inl (fun _ => 0)))), ((r.getD 54 0), .inl (cA 0, (256, .inl (fun _ => 0)))), ((r.getD 55 0), .inl (cA 0, (256, .inl (fun _ => 0)))), ((r.getD 56 0), .inl (cA 3, (3, qs (va_up (va_up (va_up (fun _ => none) 0 (some (r.getD 57 0))) 1 (some (r.getD 58 0))) 2 (some (r.getD 59 0)))))), ((r.getD 57 0), .inl (cA 0, (81, .inl (fun _ => 0)))), ((r.getD 58 0), .inl (cA 0, (81, .inl (fun _ => 0)))), ((r.getD 59 0), .inl (cA 0, (81, .inl (fun _ => 0)))), ((r.getD 60 0), .inr (7, [.ref (r.getD 61 0), .ref (r.getD 62 0), .ref (r.getD 63 0), .ref (r.getD 64 0), .ref (r.getD 65 0), .int 0, .int 0, .int 0, .int 0])), ((r.getD 61 0), .inl (cA 0, (6, .inl (fun _ => 0)))), ((r.getD 62 0), .inl (cA 0, (6, .inl (fun _ => 0)))), ((r.getD 63 0), .inl (cA 1, (6, .inl (fun _ => 0)))), ((r.getD 64 0), .inl (cA 0, (6, .inl (fun _ => 0)))), ((r.getD 65 0), .inl (cA 0, (8, .inl (fun _ => 0)))), ((r.getD 66 0), .inr (3, [.ref (r.getD 67 0), .int 0, .int 0, .int 0, .int 0, .int 0])), ((r.getD 67 0), .inr (1, [.ref (r.getD 68 0), .ref (r.getD 69 0), .ref (r.getD 70 0)])), ((r.getD 68 0), .inl (cA 0, (8, .inl (fun _ => 0)))), ((r.getD 69 0), .inl (cA 0, (8, .inl (fun _ => 0)))), ((r.getD 70 0), .inl (cA 0, (8, .inl (fun _ => 0)))), ((r.getD 71 0), .inr (0, [.long 0, .int 0, .int 0]))]
set_option maxRecDepth 20000 in
theorem kX9_init (l : Launch) (G : va_G) (cA : Nat → ClassId) : CI l yX9_init cX9_init 2 3 72 1532 G cA (.inr (9, [.null, .null, .null, .null, .null, .int 0, .null, .null, .null, .null, .null])) (wX9 cA) := by
  refine ci_of (by decide +kernel) rfl (by decide) (fun X h0 F hin Q hret => ?_)
  have F : Fk X l 2 G cA cX9_init RX9 3 72 1532 := F
  refine k_aload_n F dX9_init_0 1 rfl 0 rfl ?_
  refine k_objInit F dX9_init_1 4 rfl qX9_1 (Nat.le_of_ble_eq_true rfl) (by decide) ?_
  refine k_aload_n F dX9_init_4 5 rfl 0 rfl ?_
  refine k_new (ci := 8) (fs := [.null, .int 0]) F dX9_init_5 8 rfl inX8 tyX8 tyX8_ok qX9_7 inX8_i zX8_init.2.2.1 rfl (fun j hj => by rcases (show j = 0 ∨ j = 1 by omega) with rfl | rfl <;> rfl) (by decide) (by decide) (fun q1 => ?_)
  refine k_dup F dX9_init_8 9 rfl rfl ?_
  refine k_ctor (q := q1) F dX9_init_9 12 rfl (kX8_init l G cA) qX9_9 zX8_init.1 zX8_init.2.1 zX8_init.2.2.1 zX8_init.2.2.2.1 zX8_init.2.2.2.2 rfl (by decide) (by decide) (Nat.le_of_ble_eq_true rfl) (by decide) (by decide) (fun r2 => ?_)
  refine k_cast (ws' := (h0, .inr (9, [.null, .null, .null, .null, .null, .int 0, .null, .null, .null, .null, .null])) :: wX8 cA q1 r2) rfl ?_
  refine k_putF (j := 0) (fs' := [.ref q1, .null, .null, .null, .null, .int 0, .null, .null, .null, .null, .null]) F dX9_init_12 15 rfl inX9 tyX9 tyX9_ok nmX9 rfl (by decide) qX9_10 rfl hin rfl (tyX9_ok 0 (by decide)) rfl rfl (Nat.le_of_ble_eq_true rfl) rfl ?_
  refine k_aload_n F dX9_init_15 16 rfl 0 rfl ?_
  refine k_new (ci := 2) (fs := [.null, .int 0, .int 0, .int 0, .int 0, .int 0, .int 0, .int 0]) F dX9_init_16 19 rfl inX2 tyX2 tyX2_ok qX9_16 inX2_i zX2_init.2.2.1 rfl (fun j hj => by rcases (show j = 0 ∨ j = 1 ∨ j = 2 ∨ j = 3 ∨ j = 4 ∨ j = 5 ∨ j = 6 ∨ j = 7 by omega) with rfl | rfl | rfl | rfl | rfl | rfl | rfl | rfl <;> rfl) (by decide) (by decide) (fun q3 => ?_)
  refine k_dup F dX9_init_19 20 rfl rfl ?_
  refine k_ctor (q := q3) F dX9_init_20 23 rfl (kX2_init l G cA) qX9_18 zX2_init.1 zX2_init.2.1 zX2_init.2.2.1 zX2_init.2.2.2.1 zX2_init.2.2.2.2 rfl (by decide) (by decide) (Nat.le_of_ble_eq_true rfl) (by decide) (by decide) (fun r4 => ?_)
  refine k_cast (ws' := (h0, .inr (9, [.ref q1, .null, .null, .null, .null, .int 0, .null, .null, .null, .null, .null])) :: (wX8 cA q1 r2 ++ wX2 cA q3 r4)) rfl ?_
  refine k_putF (j := 1) (fs' := [.ref q1, .ref q3, .null, .null, .null, .int 0, .null, .null, .null, .null, .null]) F dX9_init_23 26 rfl inX9 tyX9 tyX9_ok nmX9 rfl (by decide) qX9_19 rfl hin rfl (tyX9_ok 1 (by decide)) rfl rfl (Nat.le_of_ble_eq_true rfl) rfl ?_
  refine k_aload_n F dX9_init_26 27 rfl 0 rfl ?_
  refine k_new (ci := 2) (fs := [.null, .int 0, .int 0, .int 0, .int 0, .int 0, .int 0, .int 0]) F dX9_init_27 30 rfl inX2 tyX2 tyX2_ok qX9_16 inX2_i zX2_init.2.2.1 rfl (fun j hj => by rcases (show j = 0 ∨ j = 1 ∨ j = 2 ∨ j = 3 ∨ j = 4 ∨ j = 5 ∨ j = 6 ∨ j = 7 by omega) with rfl | rfl | rfl | rfl | rfl | rfl | rfl | rfl <;> rfl) (by decide) (by decide) (fun q5 => ?_)
  refine k_dup F dX9_init_30 31 rfl rfl ?_
  refine k_ctor (q := q5) F dX9_init_31 34 rfl (kX2_init l G cA) qX9_18 zX2_init.1 zX2_init.2.1 zX2_init.2.2.1 zX2_init.2.2.2.1 zX2_init.2.2.2.2 rfl (by decide) (by decide) (Nat.le_of_ble_eq_true rfl) (by decide) (by decide) (fun r6 => ?_)
  refine k_cast (ws' := (h0, .inr (9, [.ref q1, .ref q3, .null, .null, .null, .int 0, .null, .null, .null, .null, .null])) :: ((wX8 cA q1 r2 ++ wX2 cA q3 r4) ++ wX2 cA q5 r6)) rfl ?_
  refine k_putF (j := 2) (fs' := [.ref q1, .ref q3, .ref q5, .null, .null, .int 0, .null, .null, .null, .null, .null]) F dX9_init_34 37 rfl inX9 tyX9 tyX9_ok nmX9 rfl (by decide) qX9_23 rfl hin rfl (tyX9_ok 2 (by decide)) rfl rfl (Nat.le_of_ble_eq_true rfl) rfl ?_
  refine k_aload_n F dX9_init_37 38 rfl 0 rfl ?_
  refine k_new (ci := 6) (fs := [.null, .int 0, .int 0]) F dX9_init_38 41 rfl inX6 tyX6 tyX6_ok qX9_26 inX6_i zX6_init.2.2.1 rfl (fun j hj => by rcases (show j = 0 ∨ j = 1 ∨ j = 2 by omega) with rfl | rfl | rfl <;> rfl) (by decide) (by decide) (fun q7 => ?_)
  refine k_dup F dX9_init_41 42 rfl rfl ?_
  refine k_ctor (q := q7) F dX9_init_42 45 rfl (kX6_init l G cA) qX9_28 zX6_init.1 zX6_init.2.1 zX6_init.2.2.1 zX6_init.2.2.2.1 zX6_init.2.2.2.2 rfl (by decide) (by decide) (Nat.le_of_ble_eq_true rfl) (by decide) (by decide) (fun r8 => ?_)
  refine k_cast (ws' := (h0, .inr (9, [.ref q1, .ref q3, .ref q5, .null, .null, .int 0, .null, .null, .null, .null, .null])) :: (((wX8 cA q1 r2 ++ wX2 cA q3 r4) ++ wX2 cA q5 r6) ++ wX6 cA q7 r8)) rfl ?_
  refine k_putF (j := 3) (fs' := [.ref q1, .ref q3, .ref q5, .ref q7, .null, .int 0, .null, .null, .null, .null, .null]) F dX9_init_45 48 rfl inX9 tyX9 tyX9_ok nmX9 rfl (by decide) qX9_29 rfl hin rfl (tyX9_ok 3 (by decide)) rfl rfl (Nat.le_of_ble_eq_true rfl) rfl ?_
  refine k_aload_n F dX9_init_48 49 rfl 0 rfl ?_
  refine k_iconst (v := 2) F dX9_init_49 50 rfl (by decide) ?_
  refine k_newq (N := 2) F dX9_init_50 53 rfl qX9_16 (by decide) rfl (by decide) (by decide) (by decide) (fun q9 => ?_)
  refine k_cast (ws' := (h0, .inr (9, [.ref q1, .ref q3, .ref q5, .ref q7, .null, .int 0, .null, .null, .null, .null, .null])) :: ((((wX8 cA q1 r2 ++ wX2 cA q3 r4) ++ wX2 cA q5 r6) ++ wX6 cA q7 r8) ++ [(q9, .inl (cA 2, (2, qs (fun _ => none))))])) rfl ?_
  refine k_putF (j := 4) (fs' := [.ref q1, .ref q3, .ref q5, .ref q7, .ref q9, .int 0, .null, .null, .null, .null, .null]) F dX9_init_53 56 rfl inX9 tyX9 tyX9_ok nmX9 rfl (by decide) qX9_33 rfl hin rfl (tyX9_ok 4 (by decide)) rfl rfl (Nat.le_of_ble_eq_true rfl) rfl ?_
  refine k_iconst (v := 0) F dX9_init_56 57 rfl (by decide) ?_
  refine k_istore_n F dX9_init_57 58 rfl 1 rfl (by decide) [(1, .int 0), (0, .ref h0)] rfl ?_
  refine k_iload_n F dX9_init_58 59 rfl 0 rfl ?_
  refine k_iconst (v := 2) F dX9_init_59 60 rfl (by decide) ?_
  refine k_icmp_ge F dX9_init_60 82 (by decide) 63 rfl (fun _ => ?_) (fun h9 => absurd (by decide) h9)
  refine k_aload_n F dX9_init_63 64 rfl 1 rfl ?_
  refine k_get (j := 4) F dX9_init_64 67 rfl inX9 rfl (by decide) qX9_33 rfl ?_
  refine k_iload_n F dX9_init_67 68 rfl 0 rfl ?_
  refine k_new (ci := 2) (fs := [.null, .int 0, .int 0, .int 0, .int 0, .int 0, .int 0, .int 0]) F dX9_init_68 71 rfl inX2 tyX2 tyX2_ok qX9_16 inX2_i zX2_init.2.2.1 rfl (fun j hj => by rcases (show j = 0 ∨ j = 1 ∨ j = 2 ∨ j = 3 ∨ j = 4 ∨ j = 5 ∨ j = 6 ∨ j = 7 by omega) with rfl | rfl | rfl | rfl | rfl | rfl | rfl | rfl <;> rfl) (by decide) (by decide) (fun q10 => ?_)
  refine k_dup F dX9_init_71 72 rfl rfl ?_
  refine k_ctor (q := q10) F dX9_init_72 75 rfl (kX2_init l G cA) qX9_18 zX2_init.1 zX2_init.2.1 zX2_init.2.2.1 zX2_init.2.2.2.1 zX2_init.2.2.2.2 rfl (by decide) (by decide) (Nat.le_of_ble_eq_true rfl) (by decide) (by decide) (fun r11 => ?_)
  refine k_cast (ws' := (h0, .inr (9, [.ref q1, .ref q3, .ref q5, .ref q7, .ref q9, .int 0, .null, .null, .null, .null, .null])) :: (((((wX8 cA q1 r2 ++ wX2 cA q3 r4) ++ wX2 cA q5 r6) ++ wX6 cA q7 r8) ++ [(q9, .inl (cA 2, (2, qs (fun _ => none))))]) ++ wX2 cA q10 r11)) rfl ?_
  refine k_ast (q0 := 41) (wr := (h0, .inr (9, [.ref q1, .ref q3, .ref q5, .ref q7, .ref q9, .int 0, .null, .null, .null, .null, .null])) :: ((((wX8 cA q1 r2 ++ wX2 cA q3 r4) ++ wX2 cA q5 r6) ++ wX6 cA q7 r8) ++ [(q9, .inl (cA 2, (2, qs (fun _ => none))))])) (ws' := (h0, .inr (9, [.ref q1, .ref q3, .ref q5, .ref q7, .ref q9, .int 0, .null, .null, .null, .null, .null])) :: (((((wX8 cA q1 r2 ++ wX2 cA q3 r4) ++ wX2 cA q5 r6) ++ wX6 cA q7 r8) ++ [(q9, .inl (cA 2, (2, qs (va_up (fun _ => none) 0 (some q10)))))]) ++ wX2 cA q10 r11)) F dX9_init_75 76 rfl rfl rfl (vp_in_nI (n := 0) (by decide) (by decide)) rfl ?_
  refine k_iinc F dX9_init_76 79 rfl 0 rfl 1 (by decide) (by decide) [(1, .int 1), (0, .ref h0)] rfl ?_
  refine k_goto F dX9_init_79 58 (by decide) ?_
  refine k_iload_n F dX9_init_58 59 rfl 0 rfl ?_
  refine k_iconst (v := 2) F dX9_init_59 60 rfl (by decide) ?_
  refine k_icmp_ge F dX9_init_60 82 (by decide) 63 rfl (fun _ => ?_) (fun h9 => absurd (by decide) h9)
  refine k_aload_n F dX9_init_63 64 rfl 1 rfl ?_
  refine k_get (j := 4) F dX9_init_64 67 rfl inX9 rfl (by decide) qX9_33 rfl ?_
  refine k_iload_n F dX9_init_67 68 rfl 0 rfl ?_
  refine k_new (ci := 2) (fs := [.null, .int 0, .int 0, .int 0, .int 0, .int 0, .int 0, .int 0]) F dX9_init_68 71 rfl inX2 tyX2 tyX2_ok qX9_16 inX2_i zX2_init.2.2.1 rfl (fun j hj => by rcases (show j = 0 ∨ j = 1 ∨ j = 2 ∨ j = 3 ∨ j = 4 ∨ j = 5 ∨ j = 6 ∨ j = 7 by omega) with rfl | rfl | rfl | rfl | rfl | rfl | rfl | rfl <;> rfl) (by decide) (by decide) (fun q12 => ?_)
  refine k_dup F dX9_init_71 72 rfl rfl ?_
  refine k_ctor (q := q12) F dX9_init_72 75 rfl (kX2_init l G cA) qX9_18 zX2_init.1 zX2_init.2.1 zX2_init.2.2.1 zX2_init.2.2.2.1 zX2_init.2.2.2.2 rfl (by decide) (by decide) (Nat.le_of_ble_eq_true rfl) (by decide) (by decide) (fun r13 => ?_)
  refine k_cast (ws' := (h0, .inr (9, [.ref q1, .ref q3, .ref q5, .ref q7, .ref q9, .int 0, .null, .null, .null, .null, .null])) :: ((((((wX8 cA q1 r2 ++ wX2 cA q3 r4) ++ wX2 cA q5 r6) ++ wX6 cA q7 r8) ++ [(q9, .inl (cA 2, (2, qs (va_up (fun _ => none) 0 (some q10)))))]) ++ wX2 cA q10 r11) ++ wX2 cA q12 r13)) rfl ?_
  refine k_ast (q0 := 41) (wr := (h0, .inr (9, [.ref q1, .ref q3, .ref q5, .ref q7, .ref q9, .int 0, .null, .null, .null, .null, .null])) :: (((((wX8 cA q1 r2 ++ wX2 cA q3 r4) ++ wX2 cA q5 r6) ++ wX6 cA q7 r8) ++ [(q9, .inl (cA 2, (2, qs (va_up (fun _ => none) 0 (some q10)))))]) ++ wX2 cA q10 r11)) (ws' := (h0, .inr (9, [.ref q1, .ref q3, .ref q5, .ref q7, .ref q9, .int 0, .null, .null, .null, .null, .null])) :: ((((((wX8 cA q1 r2 ++ wX2 cA q3 r4) ++ wX2 cA q5 r6) ++ wX6 cA q7 r8) ++ [(q9, .inl (cA 2, (2, qs (va_up (va_up (fun _ => none) 0 (some q10)) 1 (some q12)))))]) ++ wX2 cA q10 r11) ++ wX2 cA q12 r13)) F dX9_init_75 76 rfl rfl rfl (vp_in_nI (n := 1) (by decide) (by decide)) rfl ?_
  refine k_iinc F dX9_init_76 79 rfl 0 rfl 2 (by decide) (by decide) [(1, .int 2), (0, .ref h0)] rfl ?_
  refine k_goto F dX9_init_79 58 (by decide) ?_
  refine k_iload_n F dX9_init_58 59 rfl 0 rfl ?_
  refine k_iconst (v := 2) F dX9_init_59 60 rfl (by decide) ?_
  refine k_icmp_ge F dX9_init_60 82 (by decide) 63 rfl (fun h9 => absurd h9 (by decide)) (fun _ => ?_)
  refine k_aload_n F dX9_init_82 83 rfl 1 rfl ?_
  refine k_new (ci := 5) (fs := [.int 0, .int 0, .int 0]) F dX9_init_83 86 rfl inX5 tyX5 tyX5_ok qX9_37 inX5_i zX5_init.2.2.1 rfl (fun j hj => by rcases (show j = 0 ∨ j = 1 ∨ j = 2 by omega) with rfl | rfl | rfl <;> rfl) (by decide) (by decide) (fun q14 => ?_)
  refine k_dup F dX9_init_86 87 rfl rfl ?_
  refine k_ctor (q := q14) F dX9_init_87 90 rfl (kX5_init l G cA) qX9_39 zX5_init.1 zX5_init.2.1 zX5_init.2.2.1 zX5_init.2.2.2.1 zX5_init.2.2.2.2 rfl (by decide) (by decide) (Nat.le_of_ble_eq_true rfl) (by decide) (by decide) (fun r15 => ?_)
  refine k_cast (ws' := (h0, .inr (9, [.ref q1, .ref q3, .ref q5, .ref q7, .ref q9, .int 0, .null, .null, .null, .null, .null])) :: (((((((wX8 cA q1 r2 ++ wX2 cA q3 r4) ++ wX2 cA q5 r6) ++ wX6 cA q7 r8) ++ [(q9, .inl (cA 2, (2, qs (va_up (va_up (fun _ => none) 0 (some q10)) 1 (some q12)))))]) ++ wX2 cA q10 r11) ++ wX2 cA q12 r13) ++ wX5 cA q14 r15)) rfl ?_
  refine k_putF (j := 6) (fs' := [.ref q1, .ref q3, .ref q5, .ref q7, .ref q9, .int 0, .ref q14, .null, .null, .null, .null]) F dX9_init_90 93 rfl inX9 tyX9 tyX9_ok nmX9 rfl (by decide) qX9_40 rfl hin rfl (tyX9_ok 6 (by decide)) rfl rfl (Nat.le_of_ble_eq_true rfl) rfl ?_
  refine k_aload_n F dX9_init_93 94 rfl 1 rfl ?_
  refine k_new (ci := 4) (fs := [.null, .null, .null, .null, .int 0, .int 0]) F dX9_init_94 97 rfl inX4 tyX4 tyX4_ok qX9_44 inX4_i zX4_init.2.2.1 rfl (fun j hj => by rcases (show j = 0 ∨ j = 1 ∨ j = 2 ∨ j = 3 ∨ j = 4 ∨ j = 5 by omega) with rfl | rfl | rfl | rfl | rfl | rfl <;> rfl) (by decide) (by decide) (fun q16 => ?_)
  refine k_dup F dX9_init_97 98 rfl rfl ?_
  refine k_ctor (q := q16) F dX9_init_98 101 rfl (kX4_init l G cA) qX9_46 zX4_init.1 zX4_init.2.1 zX4_init.2.2.1 zX4_init.2.2.2.1 zX4_init.2.2.2.2 rfl (by decide) (by decide) (Nat.le_of_ble_eq_true rfl) (by decide) (by decide) (fun r17 => ?_)
  refine k_cast (ws' := (h0, .inr (9, [.ref q1, .ref q3, .ref q5, .ref q7, .ref q9, .int 0, .ref q14, .null, .null, .null, .null])) :: ((((((((wX8 cA q1 r2 ++ wX2 cA q3 r4) ++ wX2 cA q5 r6) ++ wX6 cA q7 r8) ++ [(q9, .inl (cA 2, (2, qs (va_up (va_up (fun _ => none) 0 (some q10)) 1 (some q12)))))]) ++ wX2 cA q10 r11) ++ wX2 cA q12 r13) ++ wX5 cA q14 r15) ++ wX4 cA q16 r17)) rfl ?_
  refine k_putF (j := 7) (fs' := [.ref q1, .ref q3, .ref q5, .ref q7, .ref q9, .int 0, .ref q14, .ref q16, .null, .null, .null]) F dX9_init_101 104 rfl inX9 tyX9 tyX9_ok nmX9 rfl (by decide) qX9_47 rfl hin rfl (tyX9_ok 7 (by decide)) rfl rfl (Nat.le_of_ble_eq_true rfl) rfl ?_
  refine k_aload_n F dX9_init_104 105 rfl 1 rfl ?_
  refine k_new (ci := 7) (fs := [.null, .null, .null, .null, .null, .int 0, .int 0, .int 0, .int 0]) F dX9_init_105 108 rfl inX7 tyX7 tyX7_ok qX9_51 inX7_i zX7_init.2.2.1 rfl (fun j hj => by rcases (show j = 0 ∨ j = 1 ∨ j = 2 ∨ j = 3 ∨ j = 4 ∨ j = 5 ∨ j = 6 ∨ j = 7 ∨ j = 8 by omega) with rfl | rfl | rfl | rfl | rfl | rfl | rfl | rfl | rfl <;> rfl) (by decide) (by decide) (fun q18 => ?_)
  refine k_dup F dX9_init_108 109 rfl rfl ?_
  refine k_ctor (q := q18) F dX9_init_109 112 rfl (kX7_init l G cA) qX9_53 zX7_init.1 zX7_init.2.1 zX7_init.2.2.1 zX7_init.2.2.2.1 zX7_init.2.2.2.2 rfl (by decide) (by decide) (Nat.le_of_ble_eq_true rfl) (by decide) (by decide) (fun r19 => ?_)
  refine k_cast (ws' := (h0, .inr (9, [.ref q1, .ref q3, .ref q5, .ref q7, .ref q9, .int 0, .ref q14, .ref q16, .null, .null, .null])) :: (((((((((wX8 cA q1 r2 ++ wX2 cA q3 r4) ++ wX2 cA q5 r6) ++ wX6 cA q7 r8) ++ [(q9, .inl (cA 2, (2, qs (va_up (va_up (fun _ => none) 0 (some q10)) 1 (some q12)))))]) ++ wX2 cA q10 r11) ++ wX2 cA q12 r13) ++ wX5 cA q14 r15) ++ wX4 cA q16 r17) ++ wX7 cA q18 r19)) rfl ?_
  refine k_putF (j := 8) (fs' := [.ref q1, .ref q3, .ref q5, .ref q7, .ref q9, .int 0, .ref q14, .ref q16, .ref q18, .null, .null]) F dX9_init_112 115 rfl inX9 tyX9 tyX9_ok nmX9 rfl (by decide) qX9_54 rfl hin rfl (tyX9_ok 8 (by decide)) rfl rfl (Nat.le_of_ble_eq_true rfl) rfl ?_
  refine k_aload_n F dX9_init_115 116 rfl 1 rfl ?_
  refine k_new (ci := 3) (fs := [.null, .int 0, .int 0, .int 0, .int 0, .int 0]) F dX9_init_116 119 rfl inX3 tyX3 tyX3_ok qX9_58 inX3_i zX3_init.2.2.1 rfl (fun j hj => by rcases (show j = 0 ∨ j = 1 ∨ j = 2 ∨ j = 3 ∨ j = 4 ∨ j = 5 by omega) with rfl | rfl | rfl | rfl | rfl | rfl <;> rfl) (by decide) (by decide) (fun q20 => ?_)
  refine k_dup F dX9_init_119 120 rfl rfl ?_
  refine k_ctor (q := q20) F dX9_init_120 123 rfl (kX3_init l G cA) qX9_60 zX3_init.1 zX3_init.2.1 zX3_init.2.2.1 zX3_init.2.2.2.1 zX3_init.2.2.2.2 rfl (by decide) (by decide) (Nat.le_of_ble_eq_true rfl) (by decide) (by decide) (fun r21 => ?_)
  refine k_cast (ws' := (h0, .inr (9, [.ref q1, .ref q3, .ref q5, .ref q7, .ref q9, .int 0, .ref q14, .ref q16, .ref q18, .null, .null])) :: ((((((((((wX8 cA q1 r2 ++ wX2 cA q3 r4) ++ wX2 cA q5 r6) ++ wX6 cA q7 r8) ++ [(q9, .inl (cA 2, (2, qs (va_up (va_up (fun _ => none) 0 (some q10)) 1 (some q12)))))]) ++ wX2 cA q10 r11) ++ wX2 cA q12 r13) ++ wX5 cA q14 r15) ++ wX4 cA q16 r17) ++ wX7 cA q18 r19) ++ wX3 cA q20 r21)) rfl ?_
  refine k_putF (j := 9) (fs' := [.ref q1, .ref q3, .ref q5, .ref q7, .ref q9, .int 0, .ref q14, .ref q16, .ref q18, .ref q20, .null]) F dX9_init_123 126 rfl inX9 tyX9 tyX9_ok nmX9 rfl (by decide) qX9_61 rfl hin rfl (tyX9_ok 9 (by decide)) rfl rfl (Nat.le_of_ble_eq_true rfl) rfl ?_
  refine k_aload_n F dX9_init_126 127 rfl 1 rfl ?_
  refine k_new (ci := 0) (fs := [.long 0, .int 0, .int 0]) F dX9_init_127 130 rfl inX0 tyX0 tyX0_ok qX9_65 inX0_i zX0_init.2.2.1 rfl (fun j hj => by rcases (show j = 0 ∨ j = 1 ∨ j = 2 by omega) with rfl | rfl | rfl <;> rfl) (by decide) (by decide) (fun q22 => ?_)
  refine k_dup F dX9_init_130 131 rfl rfl ?_
  refine k_ctor (q := q22) F dX9_init_131 134 rfl (kX0_init l G cA) qX9_67 zX0_init.1 zX0_init.2.1 zX0_init.2.2.1 zX0_init.2.2.2.1 zX0_init.2.2.2.2 rfl (by decide) (by decide) (Nat.le_of_ble_eq_true rfl) (by decide) (by decide) (fun r23 => ?_)
  refine k_cast (ws' := (h0, .inr (9, [.ref q1, .ref q3, .ref q5, .ref q7, .ref q9, .int 0, .ref q14, .ref q16, .ref q18, .ref q20, .null])) :: (((((((((((wX8 cA q1 r2 ++ wX2 cA q3 r4) ++ wX2 cA q5 r6) ++ wX6 cA q7 r8) ++ [(q9, .inl (cA 2, (2, qs (va_up (va_up (fun _ => none) 0 (some q10)) 1 (some q12)))))]) ++ wX2 cA q10 r11) ++ wX2 cA q12 r13) ++ wX5 cA q14 r15) ++ wX4 cA q16 r17) ++ wX7 cA q18 r19) ++ wX3 cA q20 r21) ++ wX0 cA q22 r23)) rfl ?_
  refine k_putF (j := 10) (fs' := [.ref q1, .ref q3, .ref q5, .ref q7, .ref q9, .int 0, .ref q14, .ref q16, .ref q18, .ref q20, .ref q22]) F dX9_init_134 137 rfl inX9 tyX9 tyX9_ok nmX9 rfl (by decide) qX9_68 rfl hin rfl (tyX9_ok 10 (by decide)) rfl rfl (Nat.le_of_ble_eq_true rfl) rfl ?_
  refine k_cast (ws' := wX9 cA h0 [q1, (r2.getD 0 0), q3, (r4.getD 0 0), q5, (r6.getD 0 0), q7, (r8.getD 0 0), (r8.getD 1 0), (r8.getD 2 0), (r8.getD 3 0), (r8.getD 4 0), (r8.getD 5 0), (r8.getD 6 0), (r8.getD 7 0), (r8.getD 8 0), (r8.getD 9 0), (r8.getD 10 0), (r8.getD 11 0), (r8.getD 12 0), (r8.getD 13 0), (r8.getD 14 0), (r8.getD 15 0), (r8.getD 16 0), (r8.getD 17 0), (r8.getD 18 0), (r8.getD 19 0), (r8.getD 20 0), (r8.getD 21 0), (r8.getD 22 0), (r8.getD 23 0), (r8.getD 24 0), (r8.getD 25 0), (r8.getD 26 0), (r8.getD 27 0), (r8.getD 28 0), (r8.getD 29 0), (r8.getD 30 0), (r8.getD 31 0), (r8.getD 32 0), q9, q10, (r11.getD 0 0), q12, (r13.getD 0 0), q14, q16, (r17.getD 0 0), (r17.getD 1 0), (r17.getD 2 0), (r17.getD 3 0), (r17.getD 4 0), (r17.getD 5 0), (r17.getD 6 0), (r17.getD 7 0), (r17.getD 8 0), (r17.getD 9 0), (r17.getD 10 0), (r17.getD 11 0), (r17.getD 12 0), q18, (r19.getD 0 0), (r19.getD 1 0), (r19.getD 2 0), (r19.getD 3 0), (r19.getD 4 0), q20, (r21.getD 0 0), (r21.getD 1 0), (r21.getD 2 0), (r21.getD 3 0), q22]) rfl ?_
  exact hret [q1, (r2.getD 0 0), q3, (r4.getD 0 0), q5, (r6.getD 0 0), q7, (r8.getD 0 0), (r8.getD 1 0), (r8.getD 2 0), (r8.getD 3 0), (r8.getD 4 0), (r8.getD 5 0), (r8.getD 6 0), (r8.getD 7 0), (r8.getD 8 0), (r8.getD 9 0), (r8.getD 10 0), (r8.getD 11 0), (r8.getD 12 0), (r8.getD 13 0), (r8.getD 14 0), (r8.getD 15 0), (r8.getD 16 0), (r8.getD 17 0), (r8.getD 18 0), (r8.getD 19 0), (r8.getD 20 0), (r8.getD 21 0), (r8.getD 22 0), (r8.getD 23 0), (r8.getD 24 0), (r8.getD 25 0), (r8.getD 26 0), (r8.getD 27 0), (r8.getD 28 0), (r8.getD 29 0), (r8.getD 30 0), (r8.getD 31 0), (r8.getD 32 0), q9, q10, (r11.getD 0 0), q12, (r13.getD 0 0), q14, q16, (r17.getD 0 0), (r17.getD 1 0), (r17.getD 2 0), (r17.getD 3 0), (r17.getD 4 0), (r17.getD 5 0), (r17.getD 6 0), (r17.getD 7 0), (r17.getD 8 0), (r17.getD 9 0), (r17.getD 10 0), (r17.getD 11 0), (r17.getD 12 0), q18, (r19.getD 0 0), (r19.getD 1 0), (r19.getD 2 0), (r19.getD 3 0), (r19.getD 4 0), q20, (r21.getD 0 0), (r21.getD 1 0), (r21.getD 2 0), (r21.getD 3 0), q22] _ _ _ _ dX9_init_137 (by decide) (by decide)
def wX10 (cA : Nat → ClassId) (h : Nat) (r : List Nat) : va_W := [(h, .inr (10, [.ref (r.getD 0 0), .ref (r.getD 1 0), .int 0, .int 0, .int 0, .ref (r.getD 2 0), .int 0, .ref (r.getD 3 0), .ref (r.getD 4 0), .ref (r.getD 5 0), .int 0, .int 0, .int 0, .ref (r.getD 6 0), .ref (r.getD 7 0), .ref (r.getD 8 0), .ref (r.getD 9 0), .ref (r.getD 10 0), .ref (r.getD 11 0), .ref (r.getD 12 0), .long 0, .ref (r.getD 13 0), .ref (r.getD 14 0)])), ((r.getD 0 0), .inl (cA 0, (28, .inl (upd (fun _ => 0) 11 4)))), ((r.getD 1 0), .inl (cA 0, (56, .inl (fun _ => 0)))), ((r.getD 2 0), .inl (cA 0, (224, .inl (fun _ => 0)))), ((r.getD 3 0), .inl (cA 0, (6, .inl (fun _ => 0)))), ((r.getD 4 0), .inl (cA 0, (6, .inl (fun _ => 0)))), ((r.getD 5 0), .inl (cA 1, (6, .inl (fun _ => 0)))), ((r.getD 6 0), .inl (cA 0, (8, .inl (fun _ => 0)))), ((r.getD 7 0), .inl (cA 0, (6, .inl (fun _ => 0)))), ((r.getD 8 0), .inl (cA 0, (6, .inl (fun _ => 0)))), ((r.getD 9 0), .inl (cA 0, (6, .inl (fun _ => 0)))), ((r.getD 10 0), .inl (cA 0, (6, .inl (fun _ => 0)))), ((r.getD 11 0), .inl (cA 0, (6, .inl (fun _ => 0)))), ((r.getD 12 0), .inl (cA 0, (6, .inl (fun _ => 0)))), ((r.getD 13 0), .inl (cA 1, (2, .inl (fun _ => 0)))), ((r.getD 14 0), .inl (cA 0, (28, .inl (fun _ => 0))))]
set_option maxRecDepth 20000 in
theorem kX10_init (l : Launch) (G : va_G) (cA : Nat → ClassId) : CI l yX10_init cX10_init 1 1 15 400 G cA (.inr (10, [.null, .null, .int 0, .int 0, .int 0, .null, .int 0, .null, .null, .null, .int 0, .int 0, .int 0, .null, .null, .null, .null, .null, .null, .null, .long 0, .null, .null])) (wX10 cA) := by
  refine ci_of (by decide +kernel) rfl (by decide) (fun X h0 F hin Q hret => ?_)
  have F : Fk X l 1 G cA cX10_init RX10 1 15 400 := F
  refine k_aload_n F dX10_init_0 1 rfl 0 rfl ?_
  refine k_objInit F dX10_init_1 4 rfl qX10_1 (Nat.le_of_ble_eq_true rfl) (by decide) ?_
  refine k_aload_n F dX10_init_4 5 rfl 0 rfl ?_
  refine k_bipush (v := 28) F dX10_init_5 7 rfl (by decide) ?_
  refine k_newi (N := 28) F dX10_init_7 9 rfl (by decide) rfl (by decide) (by decide) (by decide) (fun q1 => ?_)
  refine k_cast (ws' := (h0, .inr (10, [.null, .null, .int 0, .int 0, .int 0, .null, .int 0, .null, .null, .null, .int 0, .int 0, .int 0, .null, .null, .null, .null, .null, .null, .null, .long 0, .null, .null])) :: [(q1, .inl (cA 0, (28, .inl (fun _ => 0))))]) rfl ?_
  refine k_putF (j := 0) (fs' := [.ref q1, .null, .int 0, .int 0, .int 0, .null, .int 0, .null, .null, .null, .int 0, .int 0, .int 0, .null, .null, .null, .null, .null, .null, .null, .long 0, .null, .null]) F dX10_init_9 12 rfl inX10 tyX10 tyX10_ok nmX10 rfl (by decide) qX10_7 rfl hin rfl (tyX10_ok 0 (by decide)) rfl rfl (Nat.le_of_ble_eq_true rfl) rfl ?_
  refine k_aload_n F dX10_init_12 13 rfl 0 rfl ?_
  refine k_bipush (v := 56) F dX10_init_13 15 rfl (by decide) ?_
  refine k_newi (N := 56) F dX10_init_15 17 rfl (by decide) rfl (by decide) (by decide) (by decide) (fun q2 => ?_)
  refine k_cast (ws' := (h0, .inr (10, [.ref q1, .null, .int 0, .int 0, .int 0, .null, .int 0, .null, .null, .null, .int 0, .int 0, .int 0, .null, .null, .null, .null, .null, .null, .null, .long 0, .null, .null])) :: ([(q1, .inl (cA 0, (28, .inl (fun _ => 0))))] ++ [(q2, .inl (cA 0, (56, .inl (fun _ => 0))))])) rfl ?_
  refine k_putF (j := 1) (fs' := [.ref q1, .ref q2, .int 0, .int 0, .int 0, .null, .int 0, .null, .null, .null, .int 0, .int 0, .int 0, .null, .null, .null, .null, .null, .null, .null, .long 0, .null, .null]) F dX10_init_17 20 rfl inX10 tyX10 tyX10_ok nmX10 rfl (by decide) qX10_13 rfl hin rfl (tyX10_ok 1 (by decide)) rfl rfl (Nat.le_of_ble_eq_true rfl) rfl ?_
  refine k_aload_n F dX10_init_20 21 rfl 0 rfl ?_
  refine k_sipush (v := 224) F dX10_init_21 24 rfl (by decide) ?_
  refine k_newi (N := 224) F dX10_init_24 26 rfl (by decide) rfl (by decide) (by decide) (by decide) (fun q3 => ?_)
  refine k_cast (ws' := (h0, .inr (10, [.ref q1, .ref q2, .int 0, .int 0, .int 0, .null, .int 0, .null, .null, .null, .int 0, .int 0, .int 0, .null, .null, .null, .null, .null, .null, .null, .long 0, .null, .null])) :: (([(q1, .inl (cA 0, (28, .inl (fun _ => 0))))] ++ [(q2, .inl (cA 0, (56, .inl (fun _ => 0))))]) ++ [(q3, .inl (cA 0, (224, .inl (fun _ => 0))))])) rfl ?_
  refine k_putF (j := 5) (fs' := [.ref q1, .ref q2, .int 0, .int 0, .int 0, .ref q3, .int 0, .null, .null, .null, .int 0, .int 0, .int 0, .null, .null, .null, .null, .null, .null, .null, .long 0, .null, .null]) F dX10_init_26 29 rfl inX10 tyX10 tyX10_ok nmX10 rfl (by decide) qX10_16 rfl hin rfl (tyX10_ok 5 (by decide)) rfl rfl (Nat.le_of_ble_eq_true rfl) rfl ?_
  refine k_aload_n F dX10_init_29 30 rfl 0 rfl ?_
  refine k_bipush (v := 6) F dX10_init_30 32 rfl (by decide) ?_
  refine k_newi (N := 6) F dX10_init_32 34 rfl (by decide) rfl (by decide) (by decide) (by decide) (fun q4 => ?_)
  refine k_cast (ws' := (h0, .inr (10, [.ref q1, .ref q2, .int 0, .int 0, .int 0, .ref q3, .int 0, .null, .null, .null, .int 0, .int 0, .int 0, .null, .null, .null, .null, .null, .null, .null, .long 0, .null, .null])) :: ((([(q1, .inl (cA 0, (28, .inl (fun _ => 0))))] ++ [(q2, .inl (cA 0, (56, .inl (fun _ => 0))))]) ++ [(q3, .inl (cA 0, (224, .inl (fun _ => 0))))]) ++ [(q4, .inl (cA 0, (6, .inl (fun _ => 0))))])) rfl ?_
  refine k_putF (j := 7) (fs' := [.ref q1, .ref q2, .int 0, .int 0, .int 0, .ref q3, .int 0, .ref q4, .null, .null, .int 0, .int 0, .int 0, .null, .null, .null, .null, .null, .null, .null, .long 0, .null, .null]) F dX10_init_34 37 rfl inX10 tyX10 tyX10_ok nmX10 rfl (by decide) qX10_19 rfl hin rfl (tyX10_ok 7 (by decide)) rfl rfl (Nat.le_of_ble_eq_true rfl) rfl ?_
  refine k_aload_n F dX10_init_37 38 rfl 0 rfl ?_
  refine k_bipush (v := 6) F dX10_init_38 40 rfl (by decide) ?_
  refine k_newi (N := 6) F dX10_init_40 42 rfl (by decide) rfl (by decide) (by decide) (by decide) (fun q5 => ?_)
  refine k_cast (ws' := (h0, .inr (10, [.ref q1, .ref q2, .int 0, .int 0, .int 0, .ref q3, .int 0, .ref q4, .null, .null, .int 0, .int 0, .int 0, .null, .null, .null, .null, .null, .null, .null, .long 0, .null, .null])) :: (((([(q1, .inl (cA 0, (28, .inl (fun _ => 0))))] ++ [(q2, .inl (cA 0, (56, .inl (fun _ => 0))))]) ++ [(q3, .inl (cA 0, (224, .inl (fun _ => 0))))]) ++ [(q4, .inl (cA 0, (6, .inl (fun _ => 0))))]) ++ [(q5, .inl (cA 0, (6, .inl (fun _ => 0))))])) rfl ?_
  refine k_putF (j := 8) (fs' := [.ref q1, .ref q2, .int 0, .int 0, .int 0, .ref q3, .int 0, .ref q4, .ref q5, .null, .int 0, .int 0, .int 0, .null, .null, .null, .null, .null, .null, .null, .long 0, .null, .null]) F dX10_init_42 45 rfl inX10 tyX10 tyX10_ok nmX10 rfl (by decide) qX10_22 rfl hin rfl (tyX10_ok 8 (by decide)) rfl rfl (Nat.le_of_ble_eq_true rfl) rfl ?_
  refine k_aload_n F dX10_init_45 46 rfl 0 rfl ?_
  refine k_bipush (v := 6) F dX10_init_46 48 rfl (by decide) ?_
  refine k_newz (N := 6) F dX10_init_48 50 rfl (by decide) rfl (by decide) (by decide) (by decide) (fun q6 => ?_)
  refine k_cast (ws' := (h0, .inr (10, [.ref q1, .ref q2, .int 0, .int 0, .int 0, .ref q3, .int 0, .ref q4, .ref q5, .null, .int 0, .int 0, .int 0, .null, .null, .null, .null, .null, .null, .null, .long 0, .null, .null])) :: ((((([(q1, .inl (cA 0, (28, .inl (fun _ => 0))))] ++ [(q2, .inl (cA 0, (56, .inl (fun _ => 0))))]) ++ [(q3, .inl (cA 0, (224, .inl (fun _ => 0))))]) ++ [(q4, .inl (cA 0, (6, .inl (fun _ => 0))))]) ++ [(q5, .inl (cA 0, (6, .inl (fun _ => 0))))]) ++ [(q6, .inl (cA 1, (6, .inl (fun _ => 0))))])) rfl ?_
  refine k_putF (j := 9) (fs' := [.ref q1, .ref q2, .int 0, .int 0, .int 0, .ref q3, .int 0, .ref q4, .ref q5, .ref q6, .int 0, .int 0, .int 0, .null, .null, .null, .null, .null, .null, .null, .long 0, .null, .null]) F dX10_init_50 53 rfl inX10 tyX10 tyX10_ok nmX10 rfl (by decide) qX10_25 rfl hin rfl (tyX10_ok 9 (by decide)) rfl rfl (Nat.le_of_ble_eq_true rfl) rfl ?_
  refine k_aload_n F dX10_init_53 54 rfl 0 rfl ?_
  refine k_bipush (v := 8) F dX10_init_54 56 rfl (by decide) ?_
  refine k_newi (N := 8) F dX10_init_56 58 rfl (by decide) rfl (by decide) (by decide) (by decide) (fun q7 => ?_)
  refine k_cast (ws' := (h0, .inr (10, [.ref q1, .ref q2, .int 0, .int 0, .int 0, .ref q3, .int 0, .ref q4, .ref q5, .ref q6, .int 0, .int 0, .int 0, .null, .null, .null, .null, .null, .null, .null, .long 0, .null, .null])) :: (((((([(q1, .inl (cA 0, (28, .inl (fun _ => 0))))] ++ [(q2, .inl (cA 0, (56, .inl (fun _ => 0))))]) ++ [(q3, .inl (cA 0, (224, .inl (fun _ => 0))))]) ++ [(q4, .inl (cA 0, (6, .inl (fun _ => 0))))]) ++ [(q5, .inl (cA 0, (6, .inl (fun _ => 0))))]) ++ [(q6, .inl (cA 1, (6, .inl (fun _ => 0))))]) ++ [(q7, .inl (cA 0, (8, .inl (fun _ => 0))))])) rfl ?_
  refine k_putF (j := 13) (fs' := [.ref q1, .ref q2, .int 0, .int 0, .int 0, .ref q3, .int 0, .ref q4, .ref q5, .ref q6, .int 0, .int 0, .int 0, .ref q7, .null, .null, .null, .null, .null, .null, .long 0, .null, .null]) F dX10_init_58 61 rfl inX10 tyX10 tyX10_ok nmX10 rfl (by decide) qX10_29 rfl hin rfl (tyX10_ok 13 (by decide)) rfl rfl (Nat.le_of_ble_eq_true rfl) rfl ?_
  refine k_aload_n F dX10_init_61 62 rfl 0 rfl ?_
  refine k_bipush (v := 6) F dX10_init_62 64 rfl (by decide) ?_
  refine k_newi (N := 6) F dX10_init_64 66 rfl (by decide) rfl (by decide) (by decide) (by decide) (fun q8 => ?_)
  refine k_cast (ws' := (h0, .inr (10, [.ref q1, .ref q2, .int 0, .int 0, .int 0, .ref q3, .int 0, .ref q4, .ref q5, .ref q6, .int 0, .int 0, .int 0, .ref q7, .null, .null, .null, .null, .null, .null, .long 0, .null, .null])) :: ((((((([(q1, .inl (cA 0, (28, .inl (fun _ => 0))))] ++ [(q2, .inl (cA 0, (56, .inl (fun _ => 0))))]) ++ [(q3, .inl (cA 0, (224, .inl (fun _ => 0))))]) ++ [(q4, .inl (cA 0, (6, .inl (fun _ => 0))))]) ++ [(q5, .inl (cA 0, (6, .inl (fun _ => 0))))]) ++ [(q6, .inl (cA 1, (6, .inl (fun _ => 0))))]) ++ [(q7, .inl (cA 0, (8, .inl (fun _ => 0))))]) ++ [(q8, .inl (cA 0, (6, .inl (fun _ => 0))))])) rfl ?_
  refine k_putF (j := 14) (fs' := [.ref q1, .ref q2, .int 0, .int 0, .int 0, .ref q3, .int 0, .ref q4, .ref q5, .ref q6, .int 0, .int 0, .int 0, .ref q7, .ref q8, .null, .null, .null, .null, .null, .long 0, .null, .null]) F dX10_init_66 69 rfl inX10 tyX10 tyX10_ok nmX10 rfl (by decide) qX10_32 rfl hin rfl (tyX10_ok 14 (by decide)) rfl rfl (Nat.le_of_ble_eq_true rfl) rfl ?_
  refine k_aload_n F dX10_init_69 70 rfl 0 rfl ?_
  refine k_bipush (v := 6) F dX10_init_70 72 rfl (by decide) ?_
  refine k_newi (N := 6) F dX10_init_72 74 rfl (by decide) rfl (by decide) (by decide) (by decide) (fun q9 => ?_)
  refine k_cast (ws' := (h0, .inr (10, [.ref q1, .ref q2, .int 0, .int 0, .int 0, .ref q3, .int 0, .ref q4, .ref q5, .ref q6, .int 0, .int 0, .int 0, .ref q7, .ref q8, .null, .null, .null, .null, .null, .long 0, .null, .null])) :: (((((((([(q1, .inl (cA 0, (28, .inl (fun _ => 0))))] ++ [(q2, .inl (cA 0, (56, .inl (fun _ => 0))))]) ++ [(q3, .inl (cA 0, (224, .inl (fun _ => 0))))]) ++ [(q4, .inl (cA 0, (6, .inl (fun _ => 0))))]) ++ [(q5, .inl (cA 0, (6, .inl (fun _ => 0))))]) ++ [(q6, .inl (cA 1, (6, .inl (fun _ => 0))))]) ++ [(q7, .inl (cA 0, (8, .inl (fun _ => 0))))]) ++ [(q8, .inl (cA 0, (6, .inl (fun _ => 0))))]) ++ [(q9, .inl (cA 0, (6, .inl (fun _ => 0))))])) rfl ?_
  refine k_putF (j := 15) (fs' := [.ref q1, .ref q2, .int 0, .int 0, .int 0, .ref q3, .int 0, .ref q4, .ref q5, .ref q6, .int 0, .int 0, .int 0, .ref q7, .ref q8, .ref q9, .null, .null, .null, .null, .long 0, .null, .null]) F dX10_init_74 77 rfl inX10 tyX10 tyX10_ok nmX10 rfl (by decide) qX10_35 rfl hin rfl (tyX10_ok 15 (by decide)) rfl rfl (Nat.le_of_ble_eq_true rfl) rfl ?_
  refine k_aload_n F dX10_init_77 78 rfl 0 rfl ?_
  refine k_bipush (v := 6) F dX10_init_78 80 rfl (by decide) ?_
  refine k_newi (N := 6) F dX10_init_80 82 rfl (by decide) rfl (by decide) (by decide) (by decide) (fun q10 => ?_)
  refine k_cast (ws' := (h0, .inr (10, [.ref q1, .ref q2, .int 0, .int 0, .int 0, .ref q3, .int 0, .ref q4, .ref q5, .ref q6, .int 0, .int 0, .int 0, .ref q7, .ref q8, .ref q9, .null, .null, .null, .null, .long 0, .null, .null])) :: ((((((((([(q1, .inl (cA 0, (28, .inl (fun _ => 0))))] ++ [(q2, .inl (cA 0, (56, .inl (fun _ => 0))))]) ++ [(q3, .inl (cA 0, (224, .inl (fun _ => 0))))]) ++ [(q4, .inl (cA 0, (6, .inl (fun _ => 0))))]) ++ [(q5, .inl (cA 0, (6, .inl (fun _ => 0))))]) ++ [(q6, .inl (cA 1, (6, .inl (fun _ => 0))))]) ++ [(q7, .inl (cA 0, (8, .inl (fun _ => 0))))]) ++ [(q8, .inl (cA 0, (6, .inl (fun _ => 0))))]) ++ [(q9, .inl (cA 0, (6, .inl (fun _ => 0))))]) ++ [(q10, .inl (cA 0, (6, .inl (fun _ => 0))))])) rfl ?_
  refine k_putF (j := 16) (fs' := [.ref q1, .ref q2, .int 0, .int 0, .int 0, .ref q3, .int 0, .ref q4, .ref q5, .ref q6, .int 0, .int 0, .int 0, .ref q7, .ref q8, .ref q9, .ref q10, .null, .null, .null, .long 0, .null, .null]) F dX10_init_82 85 rfl inX10 tyX10 tyX10_ok nmX10 rfl (by decide) qX10_38 rfl hin rfl (tyX10_ok 16 (by decide)) rfl rfl (Nat.le_of_ble_eq_true rfl) rfl ?_
  refine k_aload_n F dX10_init_85 86 rfl 0 rfl ?_
  refine k_bipush (v := 6) F dX10_init_86 88 rfl (by decide) ?_
  refine k_newi (N := 6) F dX10_init_88 90 rfl (by decide) rfl (by decide) (by decide) (by decide) (fun q11 => ?_)
  refine k_cast (ws' := (h0, .inr (10, [.ref q1, .ref q2, .int 0, .int 0, .int 0, .ref q3, .int 0, .ref q4, .ref q5, .ref q6, .int 0, .int 0, .int 0, .ref q7, .ref q8, .ref q9, .ref q10, .null, .null, .null, .long 0, .null, .null])) :: (((((((((([(q1, .inl (cA 0, (28, .inl (fun _ => 0))))] ++ [(q2, .inl (cA 0, (56, .inl (fun _ => 0))))]) ++ [(q3, .inl (cA 0, (224, .inl (fun _ => 0))))]) ++ [(q4, .inl (cA 0, (6, .inl (fun _ => 0))))]) ++ [(q5, .inl (cA 0, (6, .inl (fun _ => 0))))]) ++ [(q6, .inl (cA 1, (6, .inl (fun _ => 0))))]) ++ [(q7, .inl (cA 0, (8, .inl (fun _ => 0))))]) ++ [(q8, .inl (cA 0, (6, .inl (fun _ => 0))))]) ++ [(q9, .inl (cA 0, (6, .inl (fun _ => 0))))]) ++ [(q10, .inl (cA 0, (6, .inl (fun _ => 0))))]) ++ [(q11, .inl (cA 0, (6, .inl (fun _ => 0))))])) rfl ?_
  refine k_putF (j := 17) (fs' := [.ref q1, .ref q2, .int 0, .int 0, .int 0, .ref q3, .int 0, .ref q4, .ref q5, .ref q6, .int 0, .int 0, .int 0, .ref q7, .ref q8, .ref q9, .ref q10, .ref q11, .null, .null, .long 0, .null, .null]) F dX10_init_90 93 rfl inX10 tyX10 tyX10_ok nmX10 rfl (by decide) qX10_41 rfl hin rfl (tyX10_ok 17 (by decide)) rfl rfl (Nat.le_of_ble_eq_true rfl) rfl ?_
  refine k_aload_n F dX10_init_93 94 rfl 0 rfl ?_
  refine k_bipush (v := 6) F dX10_init_94 96 rfl (by decide) ?_
  refine k_newi (N := 6) F dX10_init_96 98 rfl (by decide) rfl (by decide) (by decide) (by decide) (fun q12 => ?_)
  refine k_cast (ws' := (h0, .inr (10, [.ref q1, .ref q2, .int 0, .int 0, .int 0, .ref q3, .int 0, .ref q4, .ref q5, .ref q6, .int 0, .int 0, .int 0, .ref q7, .ref q8, .ref q9, .ref q10, .ref q11, .null, .null, .long 0, .null, .null])) :: ((((((((((([(q1, .inl (cA 0, (28, .inl (fun _ => 0))))] ++ [(q2, .inl (cA 0, (56, .inl (fun _ => 0))))]) ++ [(q3, .inl (cA 0, (224, .inl (fun _ => 0))))]) ++ [(q4, .inl (cA 0, (6, .inl (fun _ => 0))))]) ++ [(q5, .inl (cA 0, (6, .inl (fun _ => 0))))]) ++ [(q6, .inl (cA 1, (6, .inl (fun _ => 0))))]) ++ [(q7, .inl (cA 0, (8, .inl (fun _ => 0))))]) ++ [(q8, .inl (cA 0, (6, .inl (fun _ => 0))))]) ++ [(q9, .inl (cA 0, (6, .inl (fun _ => 0))))]) ++ [(q10, .inl (cA 0, (6, .inl (fun _ => 0))))]) ++ [(q11, .inl (cA 0, (6, .inl (fun _ => 0))))]) ++ [(q12, .inl (cA 0, (6, .inl (fun _ => 0))))])) rfl ?_
  refine k_putF (j := 18) (fs' := [.ref q1, .ref q2, .int 0, .int 0, .int 0, .ref q3, .int 0, .ref q4, .ref q5, .ref q6, .int 0, .int 0, .int 0, .ref q7, .ref q8, .ref q9, .ref q10, .ref q11, .ref q12, .null, .long 0, .null, .null]) F dX10_init_98 101 rfl inX10 tyX10 tyX10_ok nmX10 rfl (by decide) qX10_44 rfl hin rfl (tyX10_ok 18 (by decide)) rfl rfl (Nat.le_of_ble_eq_true rfl) rfl ?_
  refine k_aload_n F dX10_init_101 102 rfl 0 rfl ?_
  refine k_bipush (v := 6) F dX10_init_102 104 rfl (by decide) ?_
  refine k_newi (N := 6) F dX10_init_104 106 rfl (by decide) rfl (by decide) (by decide) (by decide) (fun q13 => ?_)
  refine k_cast (ws' := (h0, .inr (10, [.ref q1, .ref q2, .int 0, .int 0, .int 0, .ref q3, .int 0, .ref q4, .ref q5, .ref q6, .int 0, .int 0, .int 0, .ref q7, .ref q8, .ref q9, .ref q10, .ref q11, .ref q12, .null, .long 0, .null, .null])) :: (((((((((((([(q1, .inl (cA 0, (28, .inl (fun _ => 0))))] ++ [(q2, .inl (cA 0, (56, .inl (fun _ => 0))))]) ++ [(q3, .inl (cA 0, (224, .inl (fun _ => 0))))]) ++ [(q4, .inl (cA 0, (6, .inl (fun _ => 0))))]) ++ [(q5, .inl (cA 0, (6, .inl (fun _ => 0))))]) ++ [(q6, .inl (cA 1, (6, .inl (fun _ => 0))))]) ++ [(q7, .inl (cA 0, (8, .inl (fun _ => 0))))]) ++ [(q8, .inl (cA 0, (6, .inl (fun _ => 0))))]) ++ [(q9, .inl (cA 0, (6, .inl (fun _ => 0))))]) ++ [(q10, .inl (cA 0, (6, .inl (fun _ => 0))))]) ++ [(q11, .inl (cA 0, (6, .inl (fun _ => 0))))]) ++ [(q12, .inl (cA 0, (6, .inl (fun _ => 0))))]) ++ [(q13, .inl (cA 0, (6, .inl (fun _ => 0))))])) rfl ?_
  refine k_putF (j := 19) (fs' := [.ref q1, .ref q2, .int 0, .int 0, .int 0, .ref q3, .int 0, .ref q4, .ref q5, .ref q6, .int 0, .int 0, .int 0, .ref q7, .ref q8, .ref q9, .ref q10, .ref q11, .ref q12, .ref q13, .long 0, .null, .null]) F dX10_init_106 109 rfl inX10 tyX10 tyX10_ok nmX10 rfl (by decide) qX10_47 rfl hin rfl (tyX10_ok 19 (by decide)) rfl rfl (Nat.le_of_ble_eq_true rfl) rfl ?_
  refine k_aload_n F dX10_init_109 110 rfl 0 rfl ?_
  refine k_iconst (v := 2) F dX10_init_110 111 rfl (by decide) ?_
  refine k_newz (N := 2) F dX10_init_111 113 rfl (by decide) rfl (by decide) (by decide) (by decide) (fun q14 => ?_)
  refine k_cast (ws' := (h0, .inr (10, [.ref q1, .ref q2, .int 0, .int 0, .int 0, .ref q3, .int 0, .ref q4, .ref q5, .ref q6, .int 0, .int 0, .int 0, .ref q7, .ref q8, .ref q9, .ref q10, .ref q11, .ref q12, .ref q13, .long 0, .null, .null])) :: ((((((((((((([(q1, .inl (cA 0, (28, .inl (fun _ => 0))))] ++ [(q2, .inl (cA 0, (56, .inl (fun _ => 0))))]) ++ [(q3, .inl (cA 0, (224, .inl (fun _ => 0))))]) ++ [(q4, .inl (cA 0, (6, .inl (fun _ => 0))))]) ++ [(q5, .inl (cA 0, (6, .inl (fun _ => 0))))]) ++ [(q6, .inl (cA 1, (6, .inl (fun _ => 0))))]) ++ [(q7, .inl (cA 0, (8, .inl (fun _ => 0))))]) ++ [(q8, .inl (cA 0, (6, .inl (fun _ => 0))))]) ++ [(q9, .inl (cA 0, (6, .inl (fun _ => 0))))]) ++ [(q10, .inl (cA 0, (6, .inl (fun _ => 0))))]) ++ [(q11, .inl (cA 0, (6, .inl (fun _ => 0))))]) ++ [(q12, .inl (cA 0, (6, .inl (fun _ => 0))))]) ++ [(q13, .inl (cA 0, (6, .inl (fun _ => 0))))]) ++ [(q14, .inl (cA 1, (2, .inl (fun _ => 0))))])) rfl ?_
  refine k_putF (j := 21) (fs' := [.ref q1, .ref q2, .int 0, .int 0, .int 0, .ref q3, .int 0, .ref q4, .ref q5, .ref q6, .int 0, .int 0, .int 0, .ref q7, .ref q8, .ref q9, .ref q10, .ref q11, .ref q12, .ref q13, .long 0, .ref q14, .null]) F dX10_init_113 116 rfl inX10 tyX10 tyX10_ok nmX10 rfl (by decide) qX10_50 rfl hin rfl (tyX10_ok 21 (by decide)) rfl rfl (Nat.le_of_ble_eq_true rfl) rfl ?_
  refine k_aload_n F dX10_init_116 117 rfl 0 rfl ?_
  refine k_bipush (v := 28) F dX10_init_117 119 rfl (by decide) ?_
  refine k_newi (N := 28) F dX10_init_119 121 rfl (by decide) rfl (by decide) (by decide) (by decide) (fun q15 => ?_)
  refine k_cast (ws' := (h0, .inr (10, [.ref q1, .ref q2, .int 0, .int 0, .int 0, .ref q3, .int 0, .ref q4, .ref q5, .ref q6, .int 0, .int 0, .int 0, .ref q7, .ref q8, .ref q9, .ref q10, .ref q11, .ref q12, .ref q13, .long 0, .ref q14, .null])) :: (((((((((((((([(q1, .inl (cA 0, (28, .inl (fun _ => 0))))] ++ [(q2, .inl (cA 0, (56, .inl (fun _ => 0))))]) ++ [(q3, .inl (cA 0, (224, .inl (fun _ => 0))))]) ++ [(q4, .inl (cA 0, (6, .inl (fun _ => 0))))]) ++ [(q5, .inl (cA 0, (6, .inl (fun _ => 0))))]) ++ [(q6, .inl (cA 1, (6, .inl (fun _ => 0))))]) ++ [(q7, .inl (cA 0, (8, .inl (fun _ => 0))))]) ++ [(q8, .inl (cA 0, (6, .inl (fun _ => 0))))]) ++ [(q9, .inl (cA 0, (6, .inl (fun _ => 0))))]) ++ [(q10, .inl (cA 0, (6, .inl (fun _ => 0))))]) ++ [(q11, .inl (cA 0, (6, .inl (fun _ => 0))))]) ++ [(q12, .inl (cA 0, (6, .inl (fun _ => 0))))]) ++ [(q13, .inl (cA 0, (6, .inl (fun _ => 0))))]) ++ [(q14, .inl (cA 1, (2, .inl (fun _ => 0))))]) ++ [(q15, .inl (cA 0, (28, .inl (fun _ => 0))))])) rfl ?_
  refine k_putF (j := 22) (fs' := [.ref q1, .ref q2, .int 0, .int 0, .int 0, .ref q3, .int 0, .ref q4, .ref q5, .ref q6, .int 0, .int 0, .int 0, .ref q7, .ref q8, .ref q9, .ref q10, .ref q11, .ref q12, .ref q13, .long 0, .ref q14, .ref q15]) F dX10_init_121 124 rfl inX10 tyX10 tyX10_ok nmX10 rfl (by decide) qX10_53 rfl hin rfl (tyX10_ok 22 (by decide)) rfl rfl (Nat.le_of_ble_eq_true rfl) rfl ?_
  refine k_aload_n F dX10_init_124 125 rfl 0 rfl ?_
  refine k_get (j := 0) F dX10_init_125 128 rfl inX10 rfl (by decide) qX10_7 rfl ?_
  refine k_bipush (v := 11) F dX10_init_128 130 rfl (by decide) ?_
  refine k_iconst (v := 4) F dX10_init_130 131 rfl (by decide) ?_
  refine k_iast (q0 := 1) (ws' := (h0, .inr (10, [.ref q1, .ref q2, .int 0, .int 0, .int 0, .ref q3, .int 0, .ref q4, .ref q5, .ref q6, .int 0, .int 0, .int 0, .ref q7, .ref q8, .ref q9, .ref q10, .ref q11, .ref q12, .ref q13, .long 0, .ref q14, .ref q15])) :: (((((((((((((([(q1, .inl (cA 0, (28, .inl (upd (fun _ => 0) 11 4))))] ++ [(q2, .inl (cA 0, (56, .inl (fun _ => 0))))]) ++ [(q3, .inl (cA 0, (224, .inl (fun _ => 0))))]) ++ [(q4, .inl (cA 0, (6, .inl (fun _ => 0))))]) ++ [(q5, .inl (cA 0, (6, .inl (fun _ => 0))))]) ++ [(q6, .inl (cA 1, (6, .inl (fun _ => 0))))]) ++ [(q7, .inl (cA 0, (8, .inl (fun _ => 0))))]) ++ [(q8, .inl (cA 0, (6, .inl (fun _ => 0))))]) ++ [(q9, .inl (cA 0, (6, .inl (fun _ => 0))))]) ++ [(q10, .inl (cA 0, (6, .inl (fun _ => 0))))]) ++ [(q11, .inl (cA 0, (6, .inl (fun _ => 0))))]) ++ [(q12, .inl (cA 0, (6, .inl (fun _ => 0))))]) ++ [(q13, .inl (cA 0, (6, .inl (fun _ => 0))))]) ++ [(q14, .inl (cA 1, (2, .inl (fun _ => 0))))]) ++ [(q15, .inl (cA 0, (28, .inl (fun _ => 0))))])) F dX10_init_131 132 rfl rfl (vp_in_nI (n := 11) (by decide) (by decide)) rfl ?_
  refine k_cast (ws' := wX10 cA h0 [q1, q2, q3, q4, q5, q6, q7, q8, q9, q10, q11, q12, q13, q14, q15]) rfl ?_
  exact hret [q1, q2, q3, q4, q5, q6, q7, q8, q9, q10, q11, q12, q13, q14, q15] _ _ _ _ dX10_init_132 (by decide) (by decide)
