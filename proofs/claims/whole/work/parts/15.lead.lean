def fX3_lead_155 (rc : Mm → Int32 → Int32 → Int32 → Int32 → Int32 → Int32 × Mm) (a2 : Int32) (a3 : Int32) (a4 : Int32) (a5 : Int32) (a6 : Int32) (kb83 : Mm → Int32 → Int32 → Int32 → Int32 → Nat → Int32 × Mm) (s_155 : Mm) (x6_155 : Int32) (x7_155 : Int32) (x8_155 : Int32) (x9_155 : Int32) (k10_155 : Nat) (x11_155 : Int32) (x12_155 : Int32) : Int32 × Mm := if x8_155 < ((fX3_gainOf s_155 (nI k10_155)) - (rc s_155 (a2 - 1) (a3 ||| x12_155) (a4 ||| x11_155) ((fX3_gainOf s_155 (nI k10_155)) - a6) ((fX3_gainOf s_155 (nI k10_155)) - (if a5 < x8_155 then x8_155 else a5))).1) then (kb83 ((rc s_155 (a2 - 1) (a3 ||| x12_155) (a4 ||| x11_155) ((fX3_gainOf s_155 (nI k10_155)) - a6) ((fX3_gainOf s_155 (nI k10_155)) - (if a5 < x8_155 then x8_155 else a5))).2) x6_155 x7_155 ((fX3_gainOf s_155 (nI k10_155)) - (rc s_155 (a2 - 1) (a3 ||| x12_155) (a4 ||| x11_155) ((fX3_gainOf s_155 (nI k10_155)) - a6) ((fX3_gainOf s_155 (nI k10_155)) - (if a5 < x8_155 then x8_155 else a5))).1) (nI k10_155) (k10_155 + 1)) else (kb83 ((rc s_155 (a2 - 1) (a3 ||| x12_155) (a4 ||| x11_155) ((fX3_gainOf s_155 (nI k10_155)) - a6) ((fX3_gainOf s_155 (nI k10_155)) - (if a5 < x8_155 then x8_155 else a5))).2) x6_155 x7_155 x8_155 x9_155 (k10_155 + 1))
def fX3_lead_140 (rc : Mm → Int32 → Int32 → Int32 → Int32 → Int32 → Int32 × Mm) (a2 : Int32) (a3 : Int32) (a4 : Int32) (a5 : Int32) (a6 : Int32) (kb83 : Mm → Int32 → Int32 → Int32 → Int32 → Nat → Int32 × Mm) (s_140 : Mm) (x6_140 : Int32) (x7_140 : Int32) (x8_140 : Int32) (x9_140 : Int32) (k10_140 : Nat) (x11_140 : Int32) (xt0_140 : Int32) : Int32 × Mm := if (nI k10_140) = 0 then (fX3_lead_155 rc a2 a3 a4 a5 a6 kb83 s_140 x6_140 x7_140 x8_140 x9_140 k10_140 x11_140 xt0_140) else (if (x11_140 ||| xt0_140) = 0 then (kb83 s_140 x6_140 x7_140 x8_140 x9_140 (k10_140 + 1)) else (fX3_lead_155 rc a2 a3 a4 a5 a6 kb83 s_140 x6_140 x7_140 x8_140 x9_140 k10_140 x11_140 xt0_140))
def fX3_lead_117 (rc : Mm → Int32 → Int32 → Int32 → Int32 → Int32 → Int32 × Mm) (a2 : Int32) (a3 : Int32) (a4 : Int32) (a5 : Int32) (a6 : Int32) (kb83 : Mm → Int32 → Int32 → Int32 → Int32 → Nat → Int32 × Mm) (s_117 : Mm) (x6_117 : Int32) (x7_117 : Int32) (x8_117 : Int32) (x9_117 : Int32) (k10_117 : Nat) (xt0_117 : Int32) : Int32 × Mm := if (nI k10_117) < 11 then (fX3_lead_140 rc a2 a3 a4 a5 a6 kb83 s_117 x6_117 x7_117 x8_117 x9_117 k10_117 xt0_117 0) else (fX3_lead_140 rc a2 a3 a4 a5 a6 kb83 s_117 x6_117 x7_117 x8_117 x9_117 k10_117 xt0_117 ((1 <<< (((nI k10_117) - 11) &&& 31)) &&& x7_117))
def fX3_lead_83 (rc : Mm → Int32 → Int32 → Int32 → Int32 → Int32 → Int32 × Mm) (a2 : Int32) (a3 : Int32) (a4 : Int32) (a5 : Int32) (a6 : Int32)  : Nat → Mm → Int32 → Int32 → Int32 → Int32 → Nat → Int32 × Mm
  | 0, s_83, _, _, _, _, _ => (0, s_83)
  | n + 1, s_83, x6_83, x7_83, x8_83, x9_83, k10_83 => if (nI k10_83) ≤ 18 then (if x8_83 < a6 then (if (nI k10_83) < 11 then (fX3_lead_117 rc a2 a3 a4 a5 a6 (fX3_lead_83 rc a2 a3 a4 a5 a6 n) s_83 x6_83 x7_83 x8_83 x9_83 k10_83 (((1 <<< ((nI k10_83) &&& 31)) >>> (1 &&& 31)) &&& x6_83)) else (fX3_lead_117 rc a2 a3 a4 a5 a6 (fX3_lead_83 rc a2 a3 a4 a5 a6 n) s_83 x6_83 x7_83 x8_83 x9_83 k10_83 0)) else ((x8_83, (up s_83 21 5 x9_83)))) else ((x8_83, (up s_83 21 5 x9_83)))
def fX3_lead (rc : Mm → Int32 → Int32 → Int32 → Int32 → Int32 → Int32 × Mm) (σ : Mm) (a2 : Int32) (a3 : Int32) (a4 : Int32) (a5 : Int32) (a6 : Int32) : Int32 × Mm := if a2 ≤ 0 then ((0, (up σ 21 5 0))) else (if a2 = 1 then (((fX3_leadByLastTurn σ ((fX1_lastAmong σ 22 (((σ.1 21 1) &&& (a3 ^^^ (-1))) &&& ((σ.1 21 2) ^^^ (-1)))) &&& (a4 ^^^ (-1)))).1, (fX3_leadByLastTurn σ ((fX1_lastAmong σ 22 (((σ.1 21 1) &&& (a3 ^^^ (-1))) &&& ((σ.1 21 2) ^^^ (-1)))) &&& (a4 ^^^ (-1)))).2)) else (fX3_lead_83 rc a2 a3 a4 a5 a6 20 σ ((fX1_lastAmong σ 22 (((σ.1 21 1) &&& (a3 ^^^ (-1))) &&& ((σ.1 21 2) ^^^ (-1)))) &&& (a4 ^^^ (-1))) ((((σ.1 21 1) &&& (a3 ^^^ (-1))) &&& (a4 ^^^ (-1))) &&& ((σ.1 21 3) ^^^ (-1))) (-1000) 0 0))
set_option maxRecDepth 20000 in
theorem kX3_leadB (l : Launch) (D : Dm) (d : Nat) (hd : 8 ≤ d) (rc : Mm → Int32 → Int32 → Int32 → Int32 → Int32 → Int32 × Mm) (a2 : Int32) (a3 : Int32) (a4 : Int32) (a5 : Int32) (a6 : Int32) (σ : Mm) (hrec : ∀ (τ : Mm) (b2 b3 b4 b5 b6 : Int32), 1 < a2.toInt → b2 = a2 - 1 → Ct l yX3_lead cX3_lead 16 (some .int) d D [.ref (D.2.1 21), .int b2, .int b3, .int b4, .int b5, .int b6] τ (some (.int (rc τ b2 b3 b4 b5 b6).1), (rc τ b2 b3 b4 b5 b6).2)) : Ct l yX3_lead cX3_lead 16 (some .int) (d + 1) D [.ref (D.2.1 21), .int a2, .int a3, .int a4, .int a5, .int a6] σ (some (.int (fX3_lead rc σ a2 a3 a4 a5 a6).1), (fX3_lead rc σ a2 a3 a4 a5 a6).2) := by
  refine ct_of (by decide +kernel) (Nat.le_of_ble_eq_true rfl) (fun X F => ?_)
  have F : Fx X l 16 D cX3_lead RX3 (d + 1) (some .int) := F
  show JJ X 16 D σ 0 [(0, .ref (D.2.1 21)), (1, .int a2), (2, .int a3), (3, .int a4), (4, .int a5), (5, .int a6)] [] (QQ X D (some (.int (fX3_lead rc σ a2 a3 a4 a5 a6).1), (fX3_lead rc σ a2 a3 a4 a5 a6).2))
  rw [fX3_lead]
  refine j_iload_n F dX3_lead_0 1 rfl 1 rfl ?_
  refine j_if_gt F dX3_lead_1 11 (by decide) 4 rfl (fun c_1 => ?_) (fun c_1 => ?_)
  · rw [if_pos c_1]
    refine j_aload_n F dX3_lead_4 5 rfl 0 rfl ?_
    refine j_iconst (v := 0) F dX3_lead_5 6 rfl (by decide) ?_
    refine j_put (j := 5) F dX3_lead_6 9 rfl inX3 tyX3 tyX3_ok nmX3 rfl (by decide) sh21 sh21 (by decide) qX3_53 rfl (tyX3_ok 5 (by decide)) (Nat.le_of_ble_eq_true rfl) ?_
    refine j_iconst (v := 0) F dX3_lead_9 10 rfl (by decide) ?_
    exact j_ret_i F dX3_lead_10 rfl rfl rfl
  · rw [if_neg c_1]
    refine j_aload_n F dX3_lead_11 12 rfl 0 rfl ?_
    refine j_get (j := 0) F dX3_lead_12 15 rfl inX3 rfl (by decide) sh21 (by decide) qX3_14 rfl ?_
    refine j_aload_n F dX3_lead_15 16 rfl 0 rfl ?_
    refine j_get (j := 1) F dX3_lead_16 19 rfl inX3 rfl (by decide) sh21 (by decide) qX3_28 rfl ?_
    refine j_iload_n F dX3_lead_19 20 rfl 2 rfl ?_
    refine j_iconst (v := (-1)) F dX3_lead_20 21 rfl (by decide) ?_
    refine j_ixor F dX3_lead_21 22 rfl ?_
    refine j_iand F dX3_lead_22 23 rfl ?_
    refine j_aload_n F dX3_lead_23 24 rfl 0 rfl ?_
    refine j_get (j := 2) F dX3_lead_24 27 rfl inX3 rfl (by decide) sh21 (by decide) qX3_35 rfl ?_
    refine j_iconst (v := (-1)) F dX3_lead_27 28 rfl (by decide) ?_
    refine j_ixor F dX3_lead_28 29 rfl ?_
    refine j_iand F dX3_lead_29 30 rfl ?_
    refine j_callVr (as := [.int (((σ.1 21 1) &&& (a3 ^^^ (-1))) &&& ((σ.1 21 2) ^^^ (-1)))]) (st := []) (r := .int (fX1_lastAmong σ 22 (((σ.1 21 1) &&& (a3 ^^^ (-1))) &&& ((σ.1 21 2) ^^^ (-1))))) (σ9 := σ) F zX1_lastAmong dX3_lead_30 33 rfl pX1_lastAmong rfl (by omega) (by decide) (Nat.le_of_ble_eq_true rfl) rfl qX3_56 rfl rfl (gdP.lt gd22) (shG gd22) (kX1_lastAmong l D 22 (((σ.1 21 1) &&& (a3 ^^^ (-1))) &&& ((σ.1 21 2) ^^^ (-1))) σ gd22) ?_
    refine j_iload_n F dX3_lead_33 34 rfl 3 rfl ?_
    refine j_iconst (v := (-1)) F dX3_lead_34 35 rfl (by decide) ?_
    refine j_ixor F dX3_lead_35 36 rfl ?_
    refine j_iand F dX3_lead_36 37 rfl ?_
    refine j_istore F dX3_lead_37 39 rfl (by decide) [(6, .int ((fX1_lastAmong σ 22 (((σ.1 21 1) &&& (a3 ^^^ (-1))) &&& ((σ.1 21 2) ^^^ (-1)))) &&& (a4 ^^^ (-1)))), (0, .ref (D.2.1 21)), (1, .int a2), (2, .int a3), (3, .int a4), (4, .int a5), (5, .int a6)] rfl ?_
    refine j_iload_n F dX3_lead_39 40 rfl 2 rfl ?_
    refine j_iconst (v := 1) F dX3_lead_40 41 rfl (by decide) ?_
    refine j_icmp_ne F dX3_lead_41 51 (by decide) 44 rfl (fun c_41 => ?_) (fun c_41 => ?_)
    · rw [if_pos c_41]
      refine j_aload_n F dX3_lead_44 45 rfl 1 rfl ?_
      refine j_iload F dX3_lead_45 47 rfl 0 rfl ?_
      refine j_callVr (as := [.int ((fX1_lastAmong σ 22 (((σ.1 21 1) &&& (a3 ^^^ (-1))) &&& ((σ.1 21 2) ^^^ (-1)))) &&& (a4 ^^^ (-1)))]) (st := []) (r := .int ((fX3_leadByLastTurn σ ((fX1_lastAmong σ 22 (((σ.1 21 1) &&& (a3 ^^^ (-1))) &&& ((σ.1 21 2) ^^^ (-1)))) &&& (a4 ^^^ (-1)))).1)) (σ9 := (fX3_leadByLastTurn σ ((fX1_lastAmong σ 22 (((σ.1 21 1) &&& (a3 ^^^ (-1))) &&& ((σ.1 21 2) ^^^ (-1)))) &&& (a4 ^^^ (-1)))).2) F zX3_leadByLastTurn dX3_lead_47 50 rfl pX3_leadByLastTurn rfl (by omega) (by decide) (Nat.le_of_ble_eq_true rfl) rfl qX3_60 rfl rfl (by decide) sh21 (kX3_leadByLastTurn l D ((fX1_lastAmong σ 22 (((σ.1 21 1) &&& (a3 ^^^ (-1))) &&& ((σ.1 21 2) ^^^ (-1)))) &&& (a4 ^^^ (-1))) σ) ?_
      exact j_ret_i F dX3_lead_50 rfl rfl rfl
    · rw [if_neg c_41]
      refine j_aload_n F dX3_lead_51 52 rfl 1 rfl ?_
      refine j_get (j := 1) F dX3_lead_52 55 rfl inX3 rfl (by decide) sh21 (by decide) qX3_28 rfl ?_
      refine j_iload_n F dX3_lead_55 56 rfl 3 rfl ?_
      refine j_iconst (v := (-1)) F dX3_lead_56 57 rfl (by decide) ?_
      refine j_ixor F dX3_lead_57 58 rfl ?_
      refine j_iand F dX3_lead_58 59 rfl ?_
      refine j_iload_n F dX3_lead_59 60 rfl 4 rfl ?_
      refine j_iconst (v := (-1)) F dX3_lead_60 61 rfl (by decide) ?_
      refine j_ixor F dX3_lead_61 62 rfl ?_
      refine j_iand F dX3_lead_62 63 rfl ?_
      refine j_aload_n F dX3_lead_63 64 rfl 1 rfl ?_
      refine j_get (j := 3) F dX3_lead_64 67 rfl inX3 rfl (by decide) sh21 (by decide) qX3_39 rfl ?_
      refine j_iconst (v := (-1)) F dX3_lead_67 68 rfl (by decide) ?_
      refine j_ixor F dX3_lead_68 69 rfl ?_
      refine j_iand F dX3_lead_69 70 rfl ?_
      refine j_istore F dX3_lead_70 72 rfl (by decide) [(7, .int ((((σ.1 21 1) &&& (a3 ^^^ (-1))) &&& (a4 ^^^ (-1))) &&& ((σ.1 21 3) ^^^ (-1)))), (6, .int ((fX1_lastAmong σ 22 (((σ.1 21 1) &&& (a3 ^^^ (-1))) &&& ((σ.1 21 2) ^^^ (-1)))) &&& (a4 ^^^ (-1)))), (0, .ref (D.2.1 21)), (1, .int a2), (2, .int a3), (3, .int a4), (4, .int a5), (5, .int a6)] rfl ?_
      refine j_sipush (v := (-1000)) F dX3_lead_72 75 rfl (by decide) ?_
      refine j_istore F dX3_lead_75 77 rfl (by decide) [(8, .int (-1000)), (7, .int ((((σ.1 21 1) &&& (a3 ^^^ (-1))) &&& (a4 ^^^ (-1))) &&& ((σ.1 21 3) ^^^ (-1)))), (6, .int ((fX1_lastAmong σ 22 (((σ.1 21 1) &&& (a3 ^^^ (-1))) &&& ((σ.1 21 2) ^^^ (-1)))) &&& (a4 ^^^ (-1)))), (0, .ref (D.2.1 21)), (1, .int a2), (2, .int a3), (3, .int a4), (4, .int a5), (5, .int a6)] rfl ?_
      refine j_iconst (v := 0) F dX3_lead_77 78 rfl (by decide) ?_
      refine j_istore F dX3_lead_78 80 rfl (by decide) [(9, .int 0), (8, .int (-1000)), (7, .int ((((σ.1 21 1) &&& (a3 ^^^ (-1))) &&& (a4 ^^^ (-1))) &&& ((σ.1 21 3) ^^^ (-1)))), (6, .int ((fX1_lastAmong σ 22 (((σ.1 21 1) &&& (a3 ^^^ (-1))) &&& ((σ.1 21 2) ^^^ (-1)))) &&& (a4 ^^^ (-1)))), (0, .ref (D.2.1 21)), (1, .int a2), (2, .int a3), (3, .int a4), (4, .int a5), (5, .int a6)] rfl ?_
      refine j_iconst (v := 0) F dX3_lead_80 81 rfl (by decide) ?_
      refine j_istore F dX3_lead_81 83 rfl (by decide) [(10, .int 0), (9, .int 0), (8, .int (-1000)), (7, .int ((((σ.1 21 1) &&& (a3 ^^^ (-1))) &&& (a4 ^^^ (-1))) &&& ((σ.1 21 3) ^^^ (-1)))), (6, .int ((fX1_lastAmong σ 22 (((σ.1 21 1) &&& (a3 ^^^ (-1))) &&& ((σ.1 21 2) ^^^ (-1)))) &&& (a4 ^^^ (-1)))), (0, .ref (D.2.1 21)), (1, .int a2), (2, .int a3), (3, .int a4), (4, .int a5), (5, .int a6)] rfl ?_
      have lp_83 : ∀ (n_83 : Nat) (s_83 : Mm) (x8_83 : Int32) (x9_83 : Int32) (k10_83 : Nat), k10_83 ≤ 19 → 19 < k10_83 + n_83 → JJ X 16 D s_83 83 [(0, .ref (D.2.1 21)), (1, .int a2), (2, .int a3), (3, .int a4), (4, .int a5), (5, .int a6), (6, .int ((fX1_lastAmong σ 22 (((σ.1 21 1) &&& (a3 ^^^ (-1))) &&& ((σ.1 21 2) ^^^ (-1)))) &&& (a4 ^^^ (-1)))), (7, .int ((((σ.1 21 1) &&& (a3 ^^^ (-1))) &&& (a4 ^^^ (-1))) &&& ((σ.1 21 3) ^^^ (-1)))), (8, .int x8_83), (9, .int x9_83), (10, .int (nI k10_83))] [] (QQ X D (some (.int (fX3_lead_83 rc a2 a3 a4 a5 a6 n_83 s_83 ((fX1_lastAmong σ 22 (((σ.1 21 1) &&& (a3 ^^^ (-1))) &&& ((σ.1 21 2) ^^^ (-1)))) &&& (a4 ^^^ (-1))) ((((σ.1 21 1) &&& (a3 ^^^ (-1))) &&& (a4 ^^^ (-1))) &&& ((σ.1 21 3) ^^^ (-1))) x8_83 x9_83 k10_83).1), (fX3_lead_83 rc a2 a3 a4 a5 a6 n_83 s_83 ((fX1_lastAmong σ 22 (((σ.1 21 1) &&& (a3 ^^^ (-1))) &&& ((σ.1 21 2) ^^^ (-1)))) &&& (a4 ^^^ (-1))) ((((σ.1 21 1) &&& (a3 ^^^ (-1))) &&& (a4 ^^^ (-1))) &&& ((σ.1 21 3) ^^^ (-1))) x8_83 x9_83 k10_83).2)) := by
        intro n_83
        induction n_83 with
        | zero => intro s_83 x8_83 x9_83 k10_83 hk_83 hn_83; exact absurd hn_83 (by omega)
        | succ n_83 ih_83 =>
          intro s_83 x8_83 x9_83 k10_83 hk_83 hn_83
          rw [fX3_lead_83]
          refine j_iload F dX3_lead_83 85 rfl 10 rfl ?_
          refine j_bipush (v := 18) F dX3_lead_85 87 rfl (by decide) ?_
          refine j_icmp_gt F dX3_lead_87 223 (by decide) 90 rfl (fun c_87 => ?_) (fun c_87 => ?_)
          · rw [if_pos c_87]
            have h_87 : k10_83 < 19 := nle c_87 (by decide) (by omega)
            refine j_iload F dX3_lead_90 92 rfl 8 rfl ?_
            refine j_iload F dX3_lead_92 94 rfl 5 rfl ?_
            refine j_icmp_ge F dX3_lead_94 223 (by decide) 97 rfl (fun c_94 => ?_) (fun c_94 => ?_)
            · rw [if_pos c_94]
              refine j_iload F dX3_lead_97 99 rfl 10 rfl ?_
              refine j_bipush (v := 11) F dX3_lead_99 101 rfl (by decide) ?_
              have jn_117 : ∀ (xt0_117 : Int32), JJ X 16 D s_83 117 [(0, .ref (D.2.1 21)), (1, .int a2), (2, .int a3), (3, .int a4), (4, .int a5), (5, .int a6), (6, .int ((fX1_lastAmong σ 22 (((σ.1 21 1) &&& (a3 ^^^ (-1))) &&& ((σ.1 21 2) ^^^ (-1)))) &&& (a4 ^^^ (-1)))), (7, .int ((((σ.1 21 1) &&& (a3 ^^^ (-1))) &&& (a4 ^^^ (-1))) &&& ((σ.1 21 3) ^^^ (-1)))), (8, .int x8_83), (9, .int x9_83), (10, .int (nI k10_83))] [.int xt0_117] (QQ X D (some (.int (fX3_lead_117 rc a2 a3 a4 a5 a6 (fX3_lead_83 rc a2 a3 a4 a5 a6 n_83) s_83 ((fX1_lastAmong σ 22 (((σ.1 21 1) &&& (a3 ^^^ (-1))) &&& ((σ.1 21 2) ^^^ (-1)))) &&& (a4 ^^^ (-1))) ((((σ.1 21 1) &&& (a3 ^^^ (-1))) &&& (a4 ^^^ (-1))) &&& ((σ.1 21 3) ^^^ (-1))) x8_83 x9_83 k10_83 xt0_117).1), (fX3_lead_117 rc a2 a3 a4 a5 a6 (fX3_lead_83 rc a2 a3 a4 a5 a6 n_83) s_83 ((fX1_lastAmong σ 22 (((σ.1 21 1) &&& (a3 ^^^ (-1))) &&& ((σ.1 21 2) ^^^ (-1)))) &&& (a4 ^^^ (-1))) ((((σ.1 21 1) &&& (a3 ^^^ (-1))) &&& (a4 ^^^ (-1))) &&& ((σ.1 21 3) ^^^ (-1))) x8_83 x9_83 k10_83 xt0_117).2)) := by
                intro xt0_117
                rw [fX3_lead_117]
                refine j_istore F dX3_lead_117 119 rfl (by decide) [(11, .int xt0_117), (0, .ref (D.2.1 21)), (1, .int a2), (2, .int a3), (3, .int a4), (4, .int a5), (5, .int a6), (6, .int ((fX1_lastAmong σ 22 (((σ.1 21 1) &&& (a3 ^^^ (-1))) &&& ((σ.1 21 2) ^^^ (-1)))) &&& (a4 ^^^ (-1)))), (7, .int ((((σ.1 21 1) &&& (a3 ^^^ (-1))) &&& (a4 ^^^ (-1))) &&& ((σ.1 21 3) ^^^ (-1)))), (8, .int x8_83), (9, .int x9_83), (10, .int (nI k10_83))] rfl ?_
                refine j_iload F dX3_lead_119 121 rfl 11 rfl ?_
                refine j_bipush (v := 11) F dX3_lead_121 123 rfl (by decide) ?_
                have jn_140 : ∀ (xt0_140 : Int32), JJ X 16 D s_83 140 [(0, .ref (D.2.1 21)), (1, .int a2), (2, .int a3), (3, .int a4), (4, .int a5), (5, .int a6), (6, .int ((fX1_lastAmong σ 22 (((σ.1 21 1) &&& (a3 ^^^ (-1))) &&& ((σ.1 21 2) ^^^ (-1)))) &&& (a4 ^^^ (-1)))), (7, .int ((((σ.1 21 1) &&& (a3 ^^^ (-1))) &&& (a4 ^^^ (-1))) &&& ((σ.1 21 3) ^^^ (-1)))), (8, .int x8_83), (9, .int x9_83), (10, .int (nI k10_83)), (11, .int xt0_117)] [.int xt0_140] (QQ X D (some (.int (fX3_lead_140 rc a2 a3 a4 a5 a6 (fX3_lead_83 rc a2 a3 a4 a5 a6 n_83) s_83 ((fX1_lastAmong σ 22 (((σ.1 21 1) &&& (a3 ^^^ (-1))) &&& ((σ.1 21 2) ^^^ (-1)))) &&& (a4 ^^^ (-1))) ((((σ.1 21 1) &&& (a3 ^^^ (-1))) &&& (a4 ^^^ (-1))) &&& ((σ.1 21 3) ^^^ (-1))) x8_83 x9_83 k10_83 xt0_117 xt0_140).1), (fX3_lead_140 rc a2 a3 a4 a5 a6 (fX3_lead_83 rc a2 a3 a4 a5 a6 n_83) s_83 ((fX1_lastAmong σ 22 (((σ.1 21 1) &&& (a3 ^^^ (-1))) &&& ((σ.1 21 2) ^^^ (-1)))) &&& (a4 ^^^ (-1))) ((((σ.1 21 1) &&& (a3 ^^^ (-1))) &&& (a4 ^^^ (-1))) &&& ((σ.1 21 3) ^^^ (-1))) x8_83 x9_83 k10_83 xt0_117 xt0_140).2)) := by
                  intro xt0_140
                  rw [fX3_lead_140]
                  refine j_istore F dX3_lead_140 142 rfl (by decide) [(12, .int xt0_140), (0, .ref (D.2.1 21)), (1, .int a2), (2, .int a3), (3, .int a4), (4, .int a5), (5, .int a6), (6, .int ((fX1_lastAmong σ 22 (((σ.1 21 1) &&& (a3 ^^^ (-1))) &&& ((σ.1 21 2) ^^^ (-1)))) &&& (a4 ^^^ (-1)))), (7, .int ((((σ.1 21 1) &&& (a3 ^^^ (-1))) &&& (a4 ^^^ (-1))) &&& ((σ.1 21 3) ^^^ (-1)))), (8, .int x8_83), (9, .int x9_83), (10, .int (nI k10_83)), (11, .int xt0_117)] rfl ?_
                  refine j_iload F dX3_lead_142 144 rfl 11 rfl ?_
                  have jn_155 : JJ X 16 D s_83 155 [(0, .ref (D.2.1 21)), (1, .int a2), (2, .int a3), (3, .int a4), (4, .int a5), (5, .int a6), (6, .int ((fX1_lastAmong σ 22 (((σ.1 21 1) &&& (a3 ^^^ (-1))) &&& ((σ.1 21 2) ^^^ (-1)))) &&& (a4 ^^^ (-1)))), (7, .int ((((σ.1 21 1) &&& (a3 ^^^ (-1))) &&& (a4 ^^^ (-1))) &&& ((σ.1 21 3) ^^^ (-1)))), (8, .int x8_83), (9, .int x9_83), (10, .int (nI k10_83)), (11, .int xt0_117), (12, .int xt0_140)] [] (QQ X D (some (.int (fX3_lead_155 rc a2 a3 a4 a5 a6 (fX3_lead_83 rc a2 a3 a4 a5 a6 n_83) s_83 ((fX1_lastAmong σ 22 (((σ.1 21 1) &&& (a3 ^^^ (-1))) &&& ((σ.1 21 2) ^^^ (-1)))) &&& (a4 ^^^ (-1))) ((((σ.1 21 1) &&& (a3 ^^^ (-1))) &&& (a4 ^^^ (-1))) &&& ((σ.1 21 3) ^^^ (-1))) x8_83 x9_83 k10_83 xt0_117 xt0_140).1), (fX3_lead_155 rc a2 a3 a4 a5 a6 (fX3_lead_83 rc a2 a3 a4 a5 a6 n_83) s_83 ((fX1_lastAmong σ 22 (((σ.1 21 1) &&& (a3 ^^^ (-1))) &&& ((σ.1 21 2) ^^^ (-1)))) &&& (a4 ^^^ (-1))) ((((σ.1 21 1) &&& (a3 ^^^ (-1))) &&& (a4 ^^^ (-1))) &&& ((σ.1 21 3) ^^^ (-1))) x8_83 x9_83 k10_83 xt0_117 xt0_140).2)) := by
                    rw [fX3_lead_155]
                    refine j_aload_n F dX3_lead_155 156 rfl 0 rfl ?_
                    refine j_iload F dX3_lead_156 158 rfl 10 rfl ?_
                    refine j_callVr (as := [.int (nI k10_83)]) (st := []) (r := .int (fX3_gainOf s_83 (nI k10_83))) (σ9 := s_83) F zX3_gainOf dX3_lead_158 161 rfl pX3_gainOf rfl (by omega) (by decide) (Nat.le_of_ble_eq_true rfl) rfl qX3_63 rfl rfl (by decide) sh21 (kX3_gainOf l D (nI k10_83) s_83) ?_
                    refine j_istore F dX3_lead_161 163 rfl (by decide) [(13, .int (fX3_gainOf s_83 (nI k10_83))), (0, .ref (D.2.1 21)), (1, .int a2), (2, .int a3), (3, .int a4), (4, .int a5), (5, .int a6), (6, .int ((fX1_lastAmong σ 22 (((σ.1 21 1) &&& (a3 ^^^ (-1))) &&& ((σ.1 21 2) ^^^ (-1)))) &&& (a4 ^^^ (-1)))), (7, .int ((((σ.1 21 1) &&& (a3 ^^^ (-1))) &&& (a4 ^^^ (-1))) &&& ((σ.1 21 3) ^^^ (-1)))), (8, .int x8_83), (9, .int x9_83), (10, .int (nI k10_83)), (11, .int xt0_117), (12, .int xt0_140)] rfl ?_
                    refine j_iload F dX3_lead_163 165 rfl 0 rfl ?_
                    refine j_iload F dX3_lead_165 167 rfl 5 rfl ?_
                    refine j_iload F dX3_lead_167 169 rfl 9 rfl ?_
                    refine j_mmax F dX3_lead_169 172 rfl (by omega) (Nat.le_of_ble_eq_true rfl) qX3_66 mth_max.1 mth_max.2.1 mth_max.2.2 ?_
                    refine j_isub F dX3_lead_172 173 rfl ?_
                    refine j_istore F dX3_lead_173 175 rfl (by decide) [(14, .int ((fX3_gainOf s_83 (nI k10_83)) - (if a5 < x8_83 then x8_83 else a5))), (13, .int (fX3_gainOf s_83 (nI k10_83))), (0, .ref (D.2.1 21)), (1, .int a2), (2, .int a3), (3, .int a4), (4, .int a5), (5, .int a6), (6, .int ((fX1_lastAmong σ 22 (((σ.1 21 1) &&& (a3 ^^^ (-1))) &&& ((σ.1 21 2) ^^^ (-1)))) &&& (a4 ^^^ (-1)))), (7, .int ((((σ.1 21 1) &&& (a3 ^^^ (-1))) &&& (a4 ^^^ (-1))) &&& ((σ.1 21 3) ^^^ (-1)))), (8, .int x8_83), (9, .int x9_83), (10, .int (nI k10_83)), (11, .int xt0_117), (12, .int xt0_140)] rfl ?_
                    refine j_iload F dX3_lead_175 177 rfl 1 rfl ?_
                    refine j_aload_n F dX3_lead_177 178 rfl 2 rfl ?_
                    refine j_iload_n F dX3_lead_178 179 rfl 3 rfl ?_
                    refine j_iconst (v := 1) F dX3_lead_179 180 rfl (by decide) ?_
                    refine j_isub F dX3_lead_180 181 rfl ?_
                    refine j_iload_n F dX3_lead_181 182 rfl 4 rfl ?_
                    refine j_iload F dX3_lead_182 184 rfl 14 rfl ?_
                    refine j_ior F dX3_lead_184 185 rfl ?_
                    refine j_iload_n F dX3_lead_185 186 rfl 5 rfl ?_
                    refine j_iload F dX3_lead_186 188 rfl 13 rfl ?_
                    refine j_ior F dX3_lead_188 189 rfl ?_
                    refine j_iload F dX3_lead_189 191 rfl 1 rfl ?_
                    refine j_iload F dX3_lead_191 193 rfl 7 rfl ?_
                    refine j_isub F dX3_lead_193 194 rfl ?_
                    refine j_iload F dX3_lead_194 196 rfl 0 rfl ?_
                    refine j_callSr (as := [.ref (D.2.1 21), .int (a2 - 1), .int (a3 ||| xt0_140), .int (a4 ||| xt0_117), .int ((fX3_gainOf s_83 (nI k10_83)) - a6), .int ((fX3_gainOf s_83 (nI k10_83)) - (if a5 < x8_83 then x8_83 else a5))]) (st := [.int (fX3_gainOf s_83 (nI k10_83))]) (r := .int ((rc s_83 (a2 - 1) (a3 ||| xt0_140) (a4 ||| xt0_117) ((fX3_gainOf s_83 (nI k10_83)) - a6) ((fX3_gainOf s_83 (nI k10_83)) - (if a5 < x8_83 then x8_83 else a5))).1)) (σ9 := (rc s_83 (a2 - 1) (a3 ||| xt0_140) (a4 ||| xt0_117) ((fX3_gainOf s_83 (nI k10_83)) - a6) ((fX3_gainOf s_83 (nI k10_83)) - (if a5 < x8_83 then x8_83 else a5))).2) F zX3_lead dX3_lead_196 199 rfl pX3_lead rfl (by omega) (by decide) (Nat.le_of_ble_eq_true rfl) rfl qX3_46 (hrec s_83 (a2 - 1) (a3 ||| xt0_140) (a4 ||| xt0_117) ((fX3_gainOf s_83 (nI k10_83)) - a6) ((fX3_gainOf s_83 (nI k10_83)) - (if a5 < x8_83 then x8_83 else a5)) (lt1 c_1 c_41) rfl) ?_
                    refine j_isub F dX3_lead_199 200 rfl ?_
                    refine j_istore F dX3_lead_200 202 rfl (by decide) [(15, .int ((fX3_gainOf s_83 (nI k10_83)) - (rc s_83 (a2 - 1) (a3 ||| xt0_140) (a4 ||| xt0_117) ((fX3_gainOf s_83 (nI k10_83)) - a6) ((fX3_gainOf s_83 (nI k10_83)) - (if a5 < x8_83 then x8_83 else a5))).1)), (14, .int ((fX3_gainOf s_83 (nI k10_83)) - (if a5 < x8_83 then x8_83 else a5))), (13, .int (fX3_gainOf s_83 (nI k10_83))), (0, .ref (D.2.1 21)), (1, .int a2), (2, .int a3), (3, .int a4), (4, .int a5), (5, .int a6), (6, .int ((fX1_lastAmong σ 22 (((σ.1 21 1) &&& (a3 ^^^ (-1))) &&& ((σ.1 21 2) ^^^ (-1)))) &&& (a4 ^^^ (-1)))), (7, .int ((((σ.1 21 1) &&& (a3 ^^^ (-1))) &&& (a4 ^^^ (-1))) &&& ((σ.1 21 3) ^^^ (-1)))), (8, .int x8_83), (9, .int x9_83), (10, .int (nI k10_83)), (11, .int xt0_117), (12, .int xt0_140)] rfl ?_
                    refine j_iload F dX3_lead_202 204 rfl 0 rfl ?_
                    refine j_iload F dX3_lead_204 206 rfl 11 rfl ?_
                    refine j_icmp_le F dX3_lead_206 217 (by decide) 209 rfl (fun c_206 => ?_) (fun c_206 => ?_)
                    · rw [if_pos c_206]
                      refine j_iload F dX3_lead_209 211 rfl 0 rfl ?_
                      refine j_istore F dX3_lead_211 213 rfl (by decide) [(8, .int ((fX3_gainOf s_83 (nI k10_83)) - (rc s_83 (a2 - 1) (a3 ||| xt0_140) (a4 ||| xt0_117) ((fX3_gainOf s_83 (nI k10_83)) - a6) ((fX3_gainOf s_83 (nI k10_83)) - (if a5 < x8_83 then x8_83 else a5))).1)), (15, .int ((fX3_gainOf s_83 (nI k10_83)) - (rc s_83 (a2 - 1) (a3 ||| xt0_140) (a4 ||| xt0_117) ((fX3_gainOf s_83 (nI k10_83)) - a6) ((fX3_gainOf s_83 (nI k10_83)) - (if a5 < x8_83 then x8_83 else a5))).1)), (14, .int ((fX3_gainOf s_83 (nI k10_83)) - (if a5 < x8_83 then x8_83 else a5))), (13, .int (fX3_gainOf s_83 (nI k10_83))), (0, .ref (D.2.1 21)), (1, .int a2), (2, .int a3), (3, .int a4), (4, .int a5), (5, .int a6), (6, .int ((fX1_lastAmong σ 22 (((σ.1 21 1) &&& (a3 ^^^ (-1))) &&& ((σ.1 21 2) ^^^ (-1)))) &&& (a4 ^^^ (-1)))), (7, .int ((((σ.1 21 1) &&& (a3 ^^^ (-1))) &&& (a4 ^^^ (-1))) &&& ((σ.1 21 3) ^^^ (-1)))), (9, .int x9_83), (10, .int (nI k10_83)), (11, .int xt0_117), (12, .int xt0_140)] rfl ?_
                      refine j_iload F dX3_lead_213 215 rfl 13 rfl ?_
                      refine j_istore F dX3_lead_215 217 rfl (by decide) [(9, .int (nI k10_83)), (8, .int ((fX3_gainOf s_83 (nI k10_83)) - (rc s_83 (a2 - 1) (a3 ||| xt0_140) (a4 ||| xt0_117) ((fX3_gainOf s_83 (nI k10_83)) - a6) ((fX3_gainOf s_83 (nI k10_83)) - (if a5 < x8_83 then x8_83 else a5))).1)), (15, .int ((fX3_gainOf s_83 (nI k10_83)) - (rc s_83 (a2 - 1) (a3 ||| xt0_140) (a4 ||| xt0_117) ((fX3_gainOf s_83 (nI k10_83)) - a6) ((fX3_gainOf s_83 (nI k10_83)) - (if a5 < x8_83 then x8_83 else a5))).1)), (14, .int ((fX3_gainOf s_83 (nI k10_83)) - (if a5 < x8_83 then x8_83 else a5))), (13, .int (fX3_gainOf s_83 (nI k10_83))), (0, .ref (D.2.1 21)), (1, .int a2), (2, .int a3), (3, .int a4), (4, .int a5), (5, .int a6), (6, .int ((fX1_lastAmong σ 22 (((σ.1 21 1) &&& (a3 ^^^ (-1))) &&& ((σ.1 21 2) ^^^ (-1)))) &&& (a4 ^^^ (-1)))), (7, .int ((((σ.1 21 1) &&& (a3 ^^^ (-1))) &&& (a4 ^^^ (-1))) &&& ((σ.1 21 3) ^^^ (-1)))), (10, .int (nI k10_83)), (11, .int xt0_117), (12, .int xt0_140)] rfl ?_
                      refine j_iinc F dX3_lead_217 220 rfl 13 rfl (nI (k10_83 + 1)) (nI_inc k10_83) (by decide) [(10, .int (nI (k10_83 + 1))), (9, .int (nI k10_83)), (8, .int ((fX3_gainOf s_83 (nI k10_83)) - (rc s_83 (a2 - 1) (a3 ||| xt0_140) (a4 ||| xt0_117) ((fX3_gainOf s_83 (nI k10_83)) - a6) ((fX3_gainOf s_83 (nI k10_83)) - (if a5 < x8_83 then x8_83 else a5))).1)), (15, .int ((fX3_gainOf s_83 (nI k10_83)) - (rc s_83 (a2 - 1) (a3 ||| xt0_140) (a4 ||| xt0_117) ((fX3_gainOf s_83 (nI k10_83)) - a6) ((fX3_gainOf s_83 (nI k10_83)) - (if a5 < x8_83 then x8_83 else a5))).1)), (14, .int ((fX3_gainOf s_83 (nI k10_83)) - (if a5 < x8_83 then x8_83 else a5))), (13, .int (fX3_gainOf s_83 (nI k10_83))), (0, .ref (D.2.1 21)), (1, .int a2), (2, .int a3), (3, .int a4), (4, .int a5), (5, .int a6), (6, .int ((fX1_lastAmong σ 22 (((σ.1 21 1) &&& (a3 ^^^ (-1))) &&& ((σ.1 21 2) ^^^ (-1)))) &&& (a4 ^^^ (-1)))), (7, .int ((((σ.1 21 1) &&& (a3 ^^^ (-1))) &&& (a4 ^^^ (-1))) &&& ((σ.1 21 3) ^^^ (-1)))), (11, .int xt0_117), (12, .int xt0_140)] rfl ?_
                      refine j_goto F dX3_lead_220 83 (by decide) ?_
                      refine j_pick [6, 7, 8, 9, 10, 11, 12, 13, 2, 1, 0] [(0, .ref (D.2.1 21)), (1, .int a2), (2, .int a3), (3, .int a4), (4, .int a5), (5, .int a6), (6, .int ((fX1_lastAmong σ 22 (((σ.1 21 1) &&& (a3 ^^^ (-1))) &&& ((σ.1 21 2) ^^^ (-1)))) &&& (a4 ^^^ (-1)))), (7, .int ((((σ.1 21 1) &&& (a3 ^^^ (-1))) &&& (a4 ^^^ (-1))) &&& ((σ.1 21 3) ^^^ (-1)))), (8, .int ((fX3_gainOf s_83 (nI k10_83)) - (rc s_83 (a2 - 1) (a3 ||| xt0_140) (a4 ||| xt0_117) ((fX3_gainOf s_83 (nI k10_83)) - a6) ((fX3_gainOf s_83 (nI k10_83)) - (if a5 < x8_83 then x8_83 else a5))).1)), (9, .int (nI k10_83)), (10, .int (nI (k10_83 + 1)))] rfl ?_
                      exact ih_83 ((rc s_83 (a2 - 1) (a3 ||| xt0_140) (a4 ||| xt0_117) ((fX3_gainOf s_83 (nI k10_83)) - a6) ((fX3_gainOf s_83 (nI k10_83)) - (if a5 < x8_83 then x8_83 else a5))).2) ((fX3_gainOf s_83 (nI k10_83)) - (rc s_83 (a2 - 1) (a3 ||| xt0_140) (a4 ||| xt0_117) ((fX3_gainOf s_83 (nI k10_83)) - a6) ((fX3_gainOf s_83 (nI k10_83)) - (if a5 < x8_83 then x8_83 else a5))).1) (nI k10_83) (k10_83 + 1) (by omega) (by omega)
                    · rw [if_neg c_206]
                      refine j_iinc F dX3_lead_217 220 rfl 13 rfl (nI (k10_83 + 1)) (nI_inc k10_83) (by decide) [(10, .int (nI (k10_83 + 1))), (15, .int ((fX3_gainOf s_83 (nI k10_83)) - (rc s_83 (a2 - 1) (a3 ||| xt0_140) (a4 ||| xt0_117) ((fX3_gainOf s_83 (nI k10_83)) - a6) ((fX3_gainOf s_83 (nI k10_83)) - (if a5 < x8_83 then x8_83 else a5))).1)), (14, .int ((fX3_gainOf s_83 (nI k10_83)) - (if a5 < x8_83 then x8_83 else a5))), (13, .int (fX3_gainOf s_83 (nI k10_83))), (0, .ref (D.2.1 21)), (1, .int a2), (2, .int a3), (3, .int a4), (4, .int a5), (5, .int a6), (6, .int ((fX1_lastAmong σ 22 (((σ.1 21 1) &&& (a3 ^^^ (-1))) &&& ((σ.1 21 2) ^^^ (-1)))) &&& (a4 ^^^ (-1)))), (7, .int ((((σ.1 21 1) &&& (a3 ^^^ (-1))) &&& (a4 ^^^ (-1))) &&& ((σ.1 21 3) ^^^ (-1)))), (8, .int x8_83), (9, .int x9_83), (11, .int xt0_117), (12, .int xt0_140)] rfl ?_
                      refine j_goto F dX3_lead_220 83 (by decide) ?_
                      refine j_pick [4, 5, 6, 7, 8, 9, 10, 11, 12, 13, 0] [(0, .ref (D.2.1 21)), (1, .int a2), (2, .int a3), (3, .int a4), (4, .int a5), (5, .int a6), (6, .int ((fX1_lastAmong σ 22 (((σ.1 21 1) &&& (a3 ^^^ (-1))) &&& ((σ.1 21 2) ^^^ (-1)))) &&& (a4 ^^^ (-1)))), (7, .int ((((σ.1 21 1) &&& (a3 ^^^ (-1))) &&& (a4 ^^^ (-1))) &&& ((σ.1 21 3) ^^^ (-1)))), (8, .int x8_83), (9, .int x9_83), (10, .int (nI (k10_83 + 1)))] rfl ?_
                      exact ih_83 ((rc s_83 (a2 - 1) (a3 ||| xt0_140) (a4 ||| xt0_117) ((fX3_gainOf s_83 (nI k10_83)) - a6) ((fX3_gainOf s_83 (nI k10_83)) - (if a5 < x8_83 then x8_83 else a5))).2) x8_83 x9_83 (k10_83 + 1) (by omega) (by omega)
                  refine j_if_eq F dX3_lead_144 155 (by decide) 147 rfl (fun c_144 => ?_) (fun c_144 => ?_)
                  · rw [if_neg c_144]
                    refine j_iload F dX3_lead_147 149 rfl 12 rfl ?_
                    refine j_iload F dX3_lead_149 151 rfl 0 rfl ?_
                    refine j_ior F dX3_lead_151 152 rfl ?_
                    refine j_if_eq F dX3_lead_152 217 (by decide) 155 rfl (fun c_152 => ?_) (fun c_152 => ?_)
                    · rw [if_neg c_152]
                      refine j_pick [1, 2, 3, 4, 5, 6, 7, 8, 9, 10, 11, 12, 0] [(0, .ref (D.2.1 21)), (1, .int a2), (2, .int a3), (3, .int a4), (4, .int a5), (5, .int a6), (6, .int ((fX1_lastAmong σ 22 (((σ.1 21 1) &&& (a3 ^^^ (-1))) &&& ((σ.1 21 2) ^^^ (-1)))) &&& (a4 ^^^ (-1)))), (7, .int ((((σ.1 21 1) &&& (a3 ^^^ (-1))) &&& (a4 ^^^ (-1))) &&& ((σ.1 21 3) ^^^ (-1)))), (8, .int x8_83), (9, .int x9_83), (10, .int (nI k10_83)), (11, .int xt0_117), (12, .int xt0_140)] rfl ?_
                      exact jn_155
                    · rw [if_pos c_152]
                      refine j_iinc F dX3_lead_217 220 rfl 11 rfl (nI (k10_83 + 1)) (nI_inc k10_83) (by decide) [(10, .int (nI (k10_83 + 1))), (12, .int xt0_140), (0, .ref (D.2.1 21)), (1, .int a2), (2, .int a3), (3, .int a4), (4, .int a5), (5, .int a6), (6, .int ((fX1_lastAmong σ 22 (((σ.1 21 1) &&& (a3 ^^^ (-1))) &&& ((σ.1 21 2) ^^^ (-1)))) &&& (a4 ^^^ (-1)))), (7, .int ((((σ.1 21 1) &&& (a3 ^^^ (-1))) &&& (a4 ^^^ (-1))) &&& ((σ.1 21 3) ^^^ (-1)))), (8, .int x8_83), (9, .int x9_83), (11, .int xt0_117)] rfl ?_
                      refine j_goto F dX3_lead_220 83 (by decide) ?_
                      refine j_pick [2, 3, 4, 5, 6, 7, 8, 9, 10, 11, 0] [(0, .ref (D.2.1 21)), (1, .int a2), (2, .int a3), (3, .int a4), (4, .int a5), (5, .int a6), (6, .int ((fX1_lastAmong σ 22 (((σ.1 21 1) &&& (a3 ^^^ (-1))) &&& ((σ.1 21 2) ^^^ (-1)))) &&& (a4 ^^^ (-1)))), (7, .int ((((σ.1 21 1) &&& (a3 ^^^ (-1))) &&& (a4 ^^^ (-1))) &&& ((σ.1 21 3) ^^^ (-1)))), (8, .int x8_83), (9, .int x9_83), (10, .int (nI (k10_83 + 1)))] rfl ?_
                      exact ih_83 s_83 x8_83 x9_83 (k10_83 + 1) (by omega) (by omega)
                  · rw [if_pos c_144]
                    refine j_pick [1, 2, 3, 4, 5, 6, 7, 8, 9, 10, 11, 12, 0] [(0, .ref (D.2.1 21)), (1, .int a2), (2, .int a3), (3, .int a4), (4, .int a5), (5, .int a6), (6, .int ((fX1_lastAmong σ 22 (((σ.1 21 1) &&& (a3 ^^^ (-1))) &&& ((σ.1 21 2) ^^^ (-1)))) &&& (a4 ^^^ (-1)))), (7, .int ((((σ.1 21 1) &&& (a3 ^^^ (-1))) &&& (a4 ^^^ (-1))) &&& ((σ.1 21 3) ^^^ (-1)))), (8, .int x8_83), (9, .int x9_83), (10, .int (nI k10_83)), (11, .int xt0_117), (12, .int xt0_140)] rfl ?_
                    exact jn_155
                refine j_icmp_ge F dX3_lead_123 130 (by decide) 126 rfl (fun c_123 => ?_) (fun c_123 => ?_)
                · rw [if_pos c_123]
                  refine j_iconst (v := 0) F dX3_lead_126 127 rfl (by decide) ?_
                  refine j_goto F dX3_lead_127 140 (by decide) ?_
                  refine j_pick [1, 2, 3, 4, 5, 6, 7, 8, 9, 10, 11, 0] [(0, .ref (D.2.1 21)), (1, .int a2), (2, .int a3), (3, .int a4), (4, .int a5), (5, .int a6), (6, .int ((fX1_lastAmong σ 22 (((σ.1 21 1) &&& (a3 ^^^ (-1))) &&& ((σ.1 21 2) ^^^ (-1)))) &&& (a4 ^^^ (-1)))), (7, .int ((((σ.1 21 1) &&& (a3 ^^^ (-1))) &&& (a4 ^^^ (-1))) &&& ((σ.1 21 3) ^^^ (-1)))), (8, .int x8_83), (9, .int x9_83), (10, .int (nI k10_83)), (11, .int xt0_117)] rfl ?_
                  exact jn_140 0
                · rw [if_neg c_123]
                  refine j_iconst (v := 1) F dX3_lead_130 131 rfl (by decide) ?_
                  refine j_iload F dX3_lead_131 133 rfl 11 rfl ?_
                  refine j_bipush (v := 11) F dX3_lead_133 135 rfl (by decide) ?_
                  refine j_isub F dX3_lead_135 136 rfl ?_
                  refine j_ishl F dX3_lead_136 137 rfl ?_
                  refine j_iload F dX3_lead_137 139 rfl 8 rfl ?_
                  refine j_iand F dX3_lead_139 140 rfl ?_
                  refine j_pick [1, 2, 3, 4, 5, 6, 7, 8, 9, 10, 11, 0] [(0, .ref (D.2.1 21)), (1, .int a2), (2, .int a3), (3, .int a4), (4, .int a5), (5, .int a6), (6, .int ((fX1_lastAmong σ 22 (((σ.1 21 1) &&& (a3 ^^^ (-1))) &&& ((σ.1 21 2) ^^^ (-1)))) &&& (a4 ^^^ (-1)))), (7, .int ((((σ.1 21 1) &&& (a3 ^^^ (-1))) &&& (a4 ^^^ (-1))) &&& ((σ.1 21 3) ^^^ (-1)))), (8, .int x8_83), (9, .int x9_83), (10, .int (nI k10_83)), (11, .int xt0_117)] rfl ?_
                  exact jn_140 ((1 <<< (((nI k10_83) - 11) &&& 31)) &&& ((((σ.1 21 1) &&& (a3 ^^^ (-1))) &&& (a4 ^^^ (-1))) &&& ((σ.1 21 3) ^^^ (-1))))
              refine j_icmp_ge F dX3_lead_101 116 (by decide) 104 rfl (fun c_101 => ?_) (fun c_101 => ?_)
              · rw [if_pos c_101]
                refine j_iconst (v := 1) F dX3_lead_104 105 rfl (by decide) ?_
                refine j_iload F dX3_lead_105 107 rfl 10 rfl ?_
                refine j_ishl F dX3_lead_107 108 rfl ?_
                refine j_iconst (v := 1) F dX3_lead_108 109 rfl (by decide) ?_
                refine j_ishr F dX3_lead_109 110 rfl ?_
                refine j_iload F dX3_lead_110 112 rfl 6 rfl ?_
                refine j_iand F dX3_lead_112 113 rfl ?_
                refine j_goto F dX3_lead_113 117 (by decide) ?_
                exact jn_117 (((1 <<< ((nI k10_83) &&& 31)) >>> (1 &&& 31)) &&& ((fX1_lastAmong σ 22 (((σ.1 21 1) &&& (a3 ^^^ (-1))) &&& ((σ.1 21 2) ^^^ (-1)))) &&& (a4 ^^^ (-1))))
              · rw [if_neg c_101]
                refine j_iconst (v := 0) F dX3_lead_116 117 rfl (by decide) ?_
                exact jn_117 0
            · rw [if_neg c_94]
              refine j_aload_n F dX3_lead_223 224 rfl 0 rfl ?_
              refine j_iload F dX3_lead_224 226 rfl 9 rfl ?_
              refine j_put (j := 5) F dX3_lead_226 229 rfl inX3 tyX3 tyX3_ok nmX3 rfl (by decide) sh21 sh21 (by decide) qX3_53 rfl (tyX3_ok 5 (by decide)) (Nat.le_of_ble_eq_true rfl) ?_
              refine j_iload F dX3_lead_229 231 rfl 8 rfl ?_
              exact j_ret_i F dX3_lead_231 rfl rfl rfl
          · rw [if_neg c_87]
            refine j_aload_n F dX3_lead_223 224 rfl 0 rfl ?_
            refine j_iload F dX3_lead_224 226 rfl 9 rfl ?_
            refine j_put (j := 5) F dX3_lead_226 229 rfl inX3 tyX3 tyX3_ok nmX3 rfl (by decide) sh21 sh21 (by decide) qX3_53 rfl (tyX3_ok 5 (by decide)) (Nat.le_of_ble_eq_true rfl) ?_
            refine j_iload F dX3_lead_229 231 rfl 8 rfl ?_
            exact j_ret_i F dX3_lead_231 rfl rfl rfl
      refine j_pick [5, 6, 7, 8, 9, 10, 4, 3, 2, 1, 0] [(0, .ref (D.2.1 21)), (1, .int a2), (2, .int a3), (3, .int a4), (4, .int a5), (5, .int a6), (6, .int ((fX1_lastAmong σ 22 (((σ.1 21 1) &&& (a3 ^^^ (-1))) &&& ((σ.1 21 2) ^^^ (-1)))) &&& (a4 ^^^ (-1)))), (7, .int ((((σ.1 21 1) &&& (a3 ^^^ (-1))) &&& (a4 ^^^ (-1))) &&& ((σ.1 21 3) ^^^ (-1)))), (8, .int (-1000)), (9, .int 0), (10, .int 0)] rfl ?_
      exact lp_83 20 σ (-1000) 0 0 (by omega) (by omega)
