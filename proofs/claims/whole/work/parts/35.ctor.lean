def wX10 (cA : Nat → ClassId) (h : Nat) (r : List Nat) : va_W := [(h, .inr (10, [.ref (r.getD 0 0), .ref (r.getD 1 0), .int 0, .int 0, .int 0, .ref (r.getD 2 0), .int 0, .ref (r.getD 3 0), .ref (r.getD 4 0), .ref (r.getD 5 0), .int 0, .int 0, .int 0, .ref (r.getD 6 0), .ref (r.getD 7 0), .ref (r.getD 8 0), .ref (r.getD 9 0), .ref (r.getD 10 0), .ref (r.getD 11 0), .ref (r.getD 12 0), .long 0, .ref (r.getD 13 0), .ref (r.getD 14 0)])), ((r.getD 0 0), .inl (cA 0, (28, .inl (upd (fun _ => 0) 11 4)))), ((r.getD 1 0), .inl (cA 0, (56, .inl (fun _ => 0)))), ((r.getD 2 0), .inl (cA 0, (224, .inl (fun _ => 0)))), ((r.getD 3 0), .inl (cA 0, (6, .inl (fun _ => 0)))), ((r.getD 4 0), .inl (cA 0, (6, .inl (fun _ => 0)))), ((r.getD 5 0), .inl (cA 1, (6, .inl (fun _ => 0)))), ((r.getD 6 0), .inl (cA 0, (8, .inl (fun _ => 0)))), ((r.getD 7 0), .inl (cA 0, (6, .inl (fun _ => 0)))), ((r.getD 8 0), .inl (cA 0, (6, .inl (fun _ => 0)))), ((r.getD 9 0), .inl (cA 0, (6, .inl (fun _ => 0)))), ((r.getD 10 0), .inl (cA 0, (6, .inl (fun _ => 0)))), ((r.getD 11 0), .inl (cA 0, (6, .inl (fun _ => 0)))), ((r.getD 12 0), .inl (cA 0, (6, .inl (fun _ => 0)))), ((r.getD 13 0), .inl (cA 1, (2, .inl (fun _ => 0)))), ((r.getD 14 0), .inl (cA 0, (28, .inl (fun _ => 0))))]
set_option maxHeartbeats 16000000 in
set_option maxRecDepth 20000 in
theorem kX10_init (l : Launch) (G : va_G) (cA : Nat → ClassId) : CI l yX10_init cX10_init 1 1 15 400 G cA (.inr (10, [.null, .null, .int 0, .int 0, .int 0, .null, .int 0, .null, .null, .null, .int 0, .int 0, .int 0, .null, .null, .null, .null, .null, .null, .null, .long 0, .null, .null])) (wX10 cA) := by
  refine ci_of (by decide +kernel) rfl (by decide) (fun X h0 F hin Q hret => ?_)
  have F : Fk X l 1 G cA cX10_init RX10 1 15 400 := F
  refine k_aload_n F dX10_init_0 1 rfl 0 rfl ?_
  refine k_objInit F dX10_init_1 4 rfl qX10_1 (Nat.le_of_ble_eq_true rfl) (by decide) ?_
  refine k_aload_n F dX10_init_4 5 rfl 0 rfl ?_
  refine k_bipush (v := 28) F dX10_init_5 7 rfl (by decide) ?_
  refine k_newi (N := 28) F dX10_init_7 9 rfl (by decide) rfl (by decide) (by decide) (by decide) (fun q1 => ?_)
  refine k_cast (List.cons_append) ?_
  refine k_putF (j := 0) (fs' := [.ref q1, .null, .int 0, .int 0, .int 0, .null, .int 0, .null, .null, .null, .int 0, .int 0, .int 0, .null, .null, .null, .null, .null, .null, .null, .long 0, .null, .null]) F dX10_init_9 12 rfl inX10 tyX10 tyX10_ok nmX10 rfl (by decide) qX10_7 rfl hin rfl (tyX10_ok 0 (by decide)) rfl rfl (Nat.le_of_ble_eq_true rfl) rfl ?_
  refine k_aload_n F dX10_init_12 13 rfl 0 rfl ?_
  refine k_bipush (v := 56) F dX10_init_13 15 rfl (by decide) ?_
  refine k_newi (N := 56) F dX10_init_15 17 rfl (by decide) rfl (by decide) (by decide) (by decide) (fun q2 => ?_)
  refine k_cast (List.cons_append) ?_
  refine k_putF (j := 1) (fs' := [.ref q1, .ref q2, .int 0, .int 0, .int 0, .null, .int 0, .null, .null, .null, .int 0, .int 0, .int 0, .null, .null, .null, .null, .null, .null, .null, .long 0, .null, .null]) F dX10_init_17 20 rfl inX10 tyX10 tyX10_ok nmX10 rfl (by decide) qX10_13 rfl hin rfl (tyX10_ok 1 (by decide)) rfl rfl (Nat.le_of_ble_eq_true rfl) rfl ?_
  refine k_aload_n F dX10_init_20 21 rfl 0 rfl ?_
  refine k_sipush (v := 224) F dX10_init_21 24 rfl (by decide) ?_
  refine k_newi (N := 224) F dX10_init_24 26 rfl (by decide) rfl (by decide) (by decide) (by decide) (fun q3 => ?_)
  refine k_cast (List.cons_append) ?_
  refine k_putF (j := 5) (fs' := [.ref q1, .ref q2, .int 0, .int 0, .int 0, .ref q3, .int 0, .null, .null, .null, .int 0, .int 0, .int 0, .null, .null, .null, .null, .null, .null, .null, .long 0, .null, .null]) F dX10_init_26 29 rfl inX10 tyX10 tyX10_ok nmX10 rfl (by decide) qX10_16 rfl hin rfl (tyX10_ok 5 (by decide)) rfl rfl (Nat.le_of_ble_eq_true rfl) rfl ?_
  refine k_aload_n F dX10_init_29 30 rfl 0 rfl ?_
  refine k_bipush (v := 6) F dX10_init_30 32 rfl (by decide) ?_
  refine k_newi (N := 6) F dX10_init_32 34 rfl (by decide) rfl (by decide) (by decide) (by decide) (fun q4 => ?_)
  refine k_cast (List.cons_append) ?_
  refine k_putF (j := 7) (fs' := [.ref q1, .ref q2, .int 0, .int 0, .int 0, .ref q3, .int 0, .ref q4, .null, .null, .int 0, .int 0, .int 0, .null, .null, .null, .null, .null, .null, .null, .long 0, .null, .null]) F dX10_init_34 37 rfl inX10 tyX10 tyX10_ok nmX10 rfl (by decide) qX10_19 rfl hin rfl (tyX10_ok 7 (by decide)) rfl rfl (Nat.le_of_ble_eq_true rfl) rfl ?_
  refine k_aload_n F dX10_init_37 38 rfl 0 rfl ?_
  refine k_bipush (v := 6) F dX10_init_38 40 rfl (by decide) ?_
  refine k_newi (N := 6) F dX10_init_40 42 rfl (by decide) rfl (by decide) (by decide) (by decide) (fun q5 => ?_)
  refine k_cast (List.cons_append) ?_
  refine k_putF (j := 8) (fs' := [.ref q1, .ref q2, .int 0, .int 0, .int 0, .ref q3, .int 0, .ref q4, .ref q5, .null, .int 0, .int 0, .int 0, .null, .null, .null, .null, .null, .null, .null, .long 0, .null, .null]) F dX10_init_42 45 rfl inX10 tyX10 tyX10_ok nmX10 rfl (by decide) qX10_22 rfl hin rfl (tyX10_ok 8 (by decide)) rfl rfl (Nat.le_of_ble_eq_true rfl) rfl ?_
  refine k_aload_n F dX10_init_45 46 rfl 0 rfl ?_
  refine k_bipush (v := 6) F dX10_init_46 48 rfl (by decide) ?_
  refine k_newz (N := 6) F dX10_init_48 50 rfl (by decide) rfl (by decide) (by decide) (by decide) (fun q6 => ?_)
  refine k_cast (List.cons_append) ?_
  refine k_putF (j := 9) (fs' := [.ref q1, .ref q2, .int 0, .int 0, .int 0, .ref q3, .int 0, .ref q4, .ref q5, .ref q6, .int 0, .int 0, .int 0, .null, .null, .null, .null, .null, .null, .null, .long 0, .null, .null]) F dX10_init_50 53 rfl inX10 tyX10 tyX10_ok nmX10 rfl (by decide) qX10_25 rfl hin rfl (tyX10_ok 9 (by decide)) rfl rfl (Nat.le_of_ble_eq_true rfl) rfl ?_
  refine k_aload_n F dX10_init_53 54 rfl 0 rfl ?_
  refine k_bipush (v := 8) F dX10_init_54 56 rfl (by decide) ?_
  refine k_newi (N := 8) F dX10_init_56 58 rfl (by decide) rfl (by decide) (by decide) (by decide) (fun q7 => ?_)
  refine k_cast (List.cons_append) ?_
  refine k_putF (j := 13) (fs' := [.ref q1, .ref q2, .int 0, .int 0, .int 0, .ref q3, .int 0, .ref q4, .ref q5, .ref q6, .int 0, .int 0, .int 0, .ref q7, .null, .null, .null, .null, .null, .null, .long 0, .null, .null]) F dX10_init_58 61 rfl inX10 tyX10 tyX10_ok nmX10 rfl (by decide) qX10_29 rfl hin rfl (tyX10_ok 13 (by decide)) rfl rfl (Nat.le_of_ble_eq_true rfl) rfl ?_
  refine k_aload_n F dX10_init_61 62 rfl 0 rfl ?_
  refine k_bipush (v := 6) F dX10_init_62 64 rfl (by decide) ?_
  refine k_newi (N := 6) F dX10_init_64 66 rfl (by decide) rfl (by decide) (by decide) (by decide) (fun q8 => ?_)
  refine k_cast (List.cons_append) ?_
  refine k_putF (j := 14) (fs' := [.ref q1, .ref q2, .int 0, .int 0, .int 0, .ref q3, .int 0, .ref q4, .ref q5, .ref q6, .int 0, .int 0, .int 0, .ref q7, .ref q8, .null, .null, .null, .null, .null, .long 0, .null, .null]) F dX10_init_66 69 rfl inX10 tyX10 tyX10_ok nmX10 rfl (by decide) qX10_32 rfl hin rfl (tyX10_ok 14 (by decide)) rfl rfl (Nat.le_of_ble_eq_true rfl) rfl ?_
  refine k_aload_n F dX10_init_69 70 rfl 0 rfl ?_
  refine k_bipush (v := 6) F dX10_init_70 72 rfl (by decide) ?_
  refine k_newi (N := 6) F dX10_init_72 74 rfl (by decide) rfl (by decide) (by decide) (by decide) (fun q9 => ?_)
  refine k_cast (List.cons_append) ?_
  refine k_putF (j := 15) (fs' := [.ref q1, .ref q2, .int 0, .int 0, .int 0, .ref q3, .int 0, .ref q4, .ref q5, .ref q6, .int 0, .int 0, .int 0, .ref q7, .ref q8, .ref q9, .null, .null, .null, .null, .long 0, .null, .null]) F dX10_init_74 77 rfl inX10 tyX10 tyX10_ok nmX10 rfl (by decide) qX10_35 rfl hin rfl (tyX10_ok 15 (by decide)) rfl rfl (Nat.le_of_ble_eq_true rfl) rfl ?_
  refine k_aload_n F dX10_init_77 78 rfl 0 rfl ?_
  refine k_bipush (v := 6) F dX10_init_78 80 rfl (by decide) ?_
  refine k_newi (N := 6) F dX10_init_80 82 rfl (by decide) rfl (by decide) (by decide) (by decide) (fun q10 => ?_)
  refine k_cast (List.cons_append) ?_
  refine k_putF (j := 16) (fs' := [.ref q1, .ref q2, .int 0, .int 0, .int 0, .ref q3, .int 0, .ref q4, .ref q5, .ref q6, .int 0, .int 0, .int 0, .ref q7, .ref q8, .ref q9, .ref q10, .null, .null, .null, .long 0, .null, .null]) F dX10_init_82 85 rfl inX10 tyX10 tyX10_ok nmX10 rfl (by decide) qX10_38 rfl hin rfl (tyX10_ok 16 (by decide)) rfl rfl (Nat.le_of_ble_eq_true rfl) rfl ?_
  refine k_aload_n F dX10_init_85 86 rfl 0 rfl ?_
  refine k_bipush (v := 6) F dX10_init_86 88 rfl (by decide) ?_
  refine k_newi (N := 6) F dX10_init_88 90 rfl (by decide) rfl (by decide) (by decide) (by decide) (fun q11 => ?_)
  refine k_cast (List.cons_append) ?_
  refine k_putF (j := 17) (fs' := [.ref q1, .ref q2, .int 0, .int 0, .int 0, .ref q3, .int 0, .ref q4, .ref q5, .ref q6, .int 0, .int 0, .int 0, .ref q7, .ref q8, .ref q9, .ref q10, .ref q11, .null, .null, .long 0, .null, .null]) F dX10_init_90 93 rfl inX10 tyX10 tyX10_ok nmX10 rfl (by decide) qX10_41 rfl hin rfl (tyX10_ok 17 (by decide)) rfl rfl (Nat.le_of_ble_eq_true rfl) rfl ?_
  refine k_aload_n F dX10_init_93 94 rfl 0 rfl ?_
  refine k_bipush (v := 6) F dX10_init_94 96 rfl (by decide) ?_
  refine k_newi (N := 6) F dX10_init_96 98 rfl (by decide) rfl (by decide) (by decide) (by decide) (fun q12 => ?_)
  refine k_cast (List.cons_append) ?_
  refine k_putF (j := 18) (fs' := [.ref q1, .ref q2, .int 0, .int 0, .int 0, .ref q3, .int 0, .ref q4, .ref q5, .ref q6, .int 0, .int 0, .int 0, .ref q7, .ref q8, .ref q9, .ref q10, .ref q11, .ref q12, .null, .long 0, .null, .null]) F dX10_init_98 101 rfl inX10 tyX10 tyX10_ok nmX10 rfl (by decide) qX10_44 rfl hin rfl (tyX10_ok 18 (by decide)) rfl rfl (Nat.le_of_ble_eq_true rfl) rfl ?_
  refine k_aload_n F dX10_init_101 102 rfl 0 rfl ?_
  refine k_bipush (v := 6) F dX10_init_102 104 rfl (by decide) ?_
  refine k_newi (N := 6) F dX10_init_104 106 rfl (by decide) rfl (by decide) (by decide) (by decide) (fun q13 => ?_)
  refine k_cast (List.cons_append) ?_
  refine k_putF (j := 19) (fs' := [.ref q1, .ref q2, .int 0, .int 0, .int 0, .ref q3, .int 0, .ref q4, .ref q5, .ref q6, .int 0, .int 0, .int 0, .ref q7, .ref q8, .ref q9, .ref q10, .ref q11, .ref q12, .ref q13, .long 0, .null, .null]) F dX10_init_106 109 rfl inX10 tyX10 tyX10_ok nmX10 rfl (by decide) qX10_47 rfl hin rfl (tyX10_ok 19 (by decide)) rfl rfl (Nat.le_of_ble_eq_true rfl) rfl ?_
  refine k_aload_n F dX10_init_109 110 rfl 0 rfl ?_
  refine k_iconst (v := 2) F dX10_init_110 111 rfl (by decide) ?_
  refine k_newz (N := 2) F dX10_init_111 113 rfl (by decide) rfl (by decide) (by decide) (by decide) (fun q14 => ?_)
  refine k_cast (List.cons_append) ?_
  refine k_putF (j := 21) (fs' := [.ref q1, .ref q2, .int 0, .int 0, .int 0, .ref q3, .int 0, .ref q4, .ref q5, .ref q6, .int 0, .int 0, .int 0, .ref q7, .ref q8, .ref q9, .ref q10, .ref q11, .ref q12, .ref q13, .long 0, .ref q14, .null]) F dX10_init_113 116 rfl inX10 tyX10 tyX10_ok nmX10 rfl (by decide) qX10_50 rfl hin rfl (tyX10_ok 21 (by decide)) rfl rfl (Nat.le_of_ble_eq_true rfl) rfl ?_
  refine k_aload_n F dX10_init_116 117 rfl 0 rfl ?_
  refine k_bipush (v := 28) F dX10_init_117 119 rfl (by decide) ?_
  refine k_newi (N := 28) F dX10_init_119 121 rfl (by decide) rfl (by decide) (by decide) (by decide) (fun q15 => ?_)
  refine k_cast (List.cons_append) ?_
  refine k_putF (j := 22) (fs' := [.ref q1, .ref q2, .int 0, .int 0, .int 0, .ref q3, .int 0, .ref q4, .ref q5, .ref q6, .int 0, .int 0, .int 0, .ref q7, .ref q8, .ref q9, .ref q10, .ref q11, .ref q12, .ref q13, .long 0, .ref q14, .ref q15]) F dX10_init_121 124 rfl inX10 tyX10 tyX10_ok nmX10 rfl (by decide) qX10_53 rfl hin rfl (tyX10_ok 22 (by decide)) rfl rfl (Nat.le_of_ble_eq_true rfl) rfl ?_
  refine k_aload_n F dX10_init_124 125 rfl 0 rfl ?_
  refine k_get (j := 0) F dX10_init_125 128 rfl inX10 rfl (by decide) qX10_7 rfl ?_
  refine k_bipush (v := 11) F dX10_init_128 130 rfl (by decide) ?_
  refine k_iconst (v := 4) F dX10_init_130 131 rfl (by decide) ?_
  refine k_iast (q0 := 1) (ws' := (h0, .inr (10, [.ref q1, .ref q2, .int 0, .int 0, .int 0, .ref q3, .int 0, .ref q4, .ref q5, .ref q6, .int 0, .int 0, .int 0, .ref q7, .ref q8, .ref q9, .ref q10, .ref q11, .ref q12, .ref q13, .long 0, .ref q14, .ref q15])) :: (((((((((((((([(q1, .inl (cA 0, (28, .inl (upd (fun _ => 0) 11 4))))] ++ [(q2, .inl (cA 0, (56, .inl (fun _ => 0))))]) ++ [(q3, .inl (cA 0, (224, .inl (fun _ => 0))))]) ++ [(q4, .inl (cA 0, (6, .inl (fun _ => 0))))]) ++ [(q5, .inl (cA 0, (6, .inl (fun _ => 0))))]) ++ [(q6, .inl (cA 1, (6, .inl (fun _ => 0))))]) ++ [(q7, .inl (cA 0, (8, .inl (fun _ => 0))))]) ++ [(q8, .inl (cA 0, (6, .inl (fun _ => 0))))]) ++ [(q9, .inl (cA 0, (6, .inl (fun _ => 0))))]) ++ [(q10, .inl (cA 0, (6, .inl (fun _ => 0))))]) ++ [(q11, .inl (cA 0, (6, .inl (fun _ => 0))))]) ++ [(q12, .inl (cA 0, (6, .inl (fun _ => 0))))]) ++ [(q13, .inl (cA 0, (6, .inl (fun _ => 0))))]) ++ [(q14, .inl (cA 1, (2, .inl (fun _ => 0))))]) ++ [(q15, .inl (cA 0, (28, .inl (fun _ => 0))))])) F dX10_init_131 132 rfl rfl (vp_in_nI (n := 11) (by decide) (by decide)) rfl ?_
  refine k_cast (ws' := wX10 cA h0 [q1, q2, q3, q4, q5, q6, q7, q8, q9, q10, q11, q12, q13, q14, q15]) rfl ?_
  exact hret [q1, q2, q3, q4, q5, q6, q7, q8, q9, q10, q11, q12, q13, q14, q15] _ _ _ _ dX10_init_132 (by decide) (by decide)
