def fX0_lastAfter_27 (h1 : Nat) (a2 : Int32) (a3 : Int32) (kb18 : Mm → Int32 → Int32 → Nat → Int32 × Mm) : Nat → Mm → Int32 → Int32 → Nat → Nat → Int32 × Mm
  | 0, s_27, _, _, _, _ => (0, s_27)
  | n + 1, s_27, x4_27, x5_27, k6_27, k7_27 => if (nI k7_27) < 8 then (if (fX9_holds (x4_27 &&& x5_27) (nI k7_27)) = true then (if (rmL (((((upL s_27 32 (((s_27.2 32) * 6364136223846793005) + 1442695040888963407)).2 32)).toUInt64 >>> (((33 : Int32)).toInt64.toUInt64 &&& Int64.toUInt64 63)).toInt64) 10) < a3.toInt64 then (fX0_lastAfter_27 h1 a2 a3 kb18 n (upL s_27 32 (((s_27.2 32) * 6364136223846793005) + 1442695040888963407)) (x4_27 &&& ((1 <<< ((nI k7_27) &&& 31)) ^^^ (-1))) x5_27 k6_27 (k7_27 + 1)) else (fX0_lastAfter_27 h1 a2 a3 kb18 n (upL s_27 32 (((s_27.2 32) * 6364136223846793005) + 1442695040888963407)) x4_27 x5_27 k6_27 (k7_27 + 1))) else (fX0_lastAfter_27 h1 a2 a3 kb18 n s_27 x4_27 x5_27 k6_27 (k7_27 + 1))) else (kb18 s_27 x4_27 x5_27 (k6_27 + 1))
def mX0_lastAfter_18 (h1 : Nat) (a2 : Int32) (a3 : Int32)  : Nat := (a2 : Int32).toNatClampNeg
def fX0_lastAfter_18 (h1 : Nat) (a2 : Int32) (a3 : Int32)  : Nat → Mm → Int32 → Int32 → Nat → Int32 × Mm
  | 0, s_18, _, _, _ => (0, s_18)
  | n + 1, s_18, x4_18, x5_18, k6_18 => if (nI k6_18) < a2 then (fX0_lastAfter_27 h1 a2 a3 (fX0_lastAfter_18 h1 a2 a3 n) 9 s_18 x4_18 x5_18 k6_18 0) else (((fX2_lastOnesBy s_18 h1 (s_18.1 h1 2) x4_18), s_18))
def fX0_lastAfter (σ : Mm) (h1 : Nat) (a2 : Int32) (a3 : Int32) : Int32 × Mm := fX0_lastAfter_18 h1 a2 a3 (mX0_lastAfter_18 h1 a2 a3 + 1) σ (fX2_shown σ h1) ((fX2_shown σ h1) &&& (fX2_breakable σ h1)) 0
set_option maxRecDepth 20000 in
theorem kX0_lastAfter (l : Launch) (D : Dm) (h1 : Nat) (a2 : Int32) (a3 : Int32) (σ : Mm) (hh1 : hsP h1) : Ct l yX0_lastAfter cX0_lastAfter 8 (some .int) 5 D [.ref (D.2.1 32), .ref (D.2.1 h1), .int a2, .int a3] σ (some (.int (fX0_lastAfter σ h1 a2 a3).1), (fX0_lastAfter σ h1 a2 a3).2) := by
  refine ct_of (by decide +kernel) (Nat.le_of_ble_eq_true rfl) (fun X F => ?_)
  have F : Fx X l 8 D cX0_lastAfter RX0 5 (some .int) := F
  show JJ X 8 D σ 0 [(0, .ref (D.2.1 32)), (1, .ref (D.2.1 h1)), (2, .int a2), (3, .int a3)] [] (QQ X D (some (.int (fX0_lastAfter σ h1 a2 a3).1), (fX0_lastAfter σ h1 a2 a3).2))
  rw [fX0_lastAfter]
  refine j_aload_n F dX0_lastAfter_0 1 rfl 1 rfl ?_
  refine j_callVr (as := []) (st := []) (r := .int (fX2_shown σ h1)) (σ9 := σ) F zX2_shown dX0_lastAfter_1 4 rfl pX2_shown rfl (by decide) (by decide) (Nat.le_of_ble_eq_true rfl) rfl qX0_9 rfl rfl (hsP.lt hh1) (shH hh1) (kX2_shown l D h1 σ hh1) ?_
  refine j_istore F dX0_lastAfter_4 6 rfl (by decide) [(4, .int (fX2_shown σ h1)), (0, .ref (D.2.1 32)), (1, .ref (D.2.1 h1)), (2, .int a2), (3, .int a3)] rfl ?_
  refine j_iload F dX0_lastAfter_6 8 rfl 0 rfl ?_
  refine j_aload_n F dX0_lastAfter_8 9 rfl 2 rfl ?_
  refine j_callVr (as := []) (st := [.int (fX2_shown σ h1)]) (r := .int (fX2_breakable σ h1)) (σ9 := σ) F zX2_breakable dX0_lastAfter_9 12 rfl pX2_breakable rfl (by decide) (by decide) (Nat.le_of_ble_eq_true rfl) rfl qX0_15 rfl rfl (hsP.lt hh1) (shH hh1) (kX2_breakable l D h1 σ hh1) ?_
  refine j_iand F dX0_lastAfter_12 13 rfl ?_
  refine j_istore F dX0_lastAfter_13 15 rfl (by decide) [(5, .int ((fX2_shown σ h1) &&& (fX2_breakable σ h1))), (4, .int (fX2_shown σ h1)), (0, .ref (D.2.1 32)), (1, .ref (D.2.1 h1)), (2, .int a2), (3, .int a3)] rfl ?_
  refine j_iconst (v := 0) F dX0_lastAfter_15 16 rfl (by decide) ?_
  refine j_istore F dX0_lastAfter_16 18 rfl (by decide) [(6, .int 0), (5, .int ((fX2_shown σ h1) &&& (fX2_breakable σ h1))), (4, .int (fX2_shown σ h1)), (0, .ref (D.2.1 32)), (1, .ref (D.2.1 h1)), (2, .int a2), (3, .int a3)] rfl ?_
  have lp_18 : ∀ (n_18 : Nat) (s_18 : Mm) (x4_18 : Int32) (k6_18 : Nat), k6_18 ≤ ((a2 : Int32).toNatClampNeg) → ((a2 : Int32).toNatClampNeg) < k6_18 + n_18 → JJ X 8 D s_18 18 [(0, .ref (D.2.1 32)), (1, .ref (D.2.1 h1)), (2, .int a2), (3, .int a3), (4, .int x4_18), (5, .int ((fX2_shown σ h1) &&& (fX2_breakable σ h1))), (6, .int (nI k6_18))] [] (QQ X D (some (.int (fX0_lastAfter_18 h1 a2 a3 n_18 s_18 x4_18 ((fX2_shown σ h1) &&& (fX2_breakable σ h1)) k6_18).1), (fX0_lastAfter_18 h1 a2 a3 n_18 s_18 x4_18 ((fX2_shown σ h1) &&& (fX2_breakable σ h1)) k6_18).2)) := by
    intro n_18
    induction n_18 with
    | zero => intro s_18 x4_18 k6_18 hk_18 hn_18; exact absurd hn_18 (by omega)
    | succ n_18 ih_18 =>
      intro s_18 x4_18 k6_18 hk_18 hn_18
      rw [fX0_lastAfter_18]
      refine j_iload F dX0_lastAfter_18 20 rfl 6 rfl ?_
      refine j_iload_n F dX0_lastAfter_20 21 rfl 2 rfl ?_
      refine j_icmp_ge F dX0_lastAfter_21 106 (by decide) 24 rfl (fun c_21 => ?_) (fun c_21 => ?_)
      · rw [if_pos c_21]
        have h_21 : k6_18 < ((a2 : Int32).toNatClampNeg) := nltd c_21 hk_18
        refine j_iconst (v := 0) F dX0_lastAfter_24 25 rfl (by decide) ?_
        refine j_istore F dX0_lastAfter_25 27 rfl (by decide) [(7, .int 0), (0, .ref (D.2.1 32)), (1, .ref (D.2.1 h1)), (2, .int a2), (3, .int a3), (4, .int x4_18), (5, .int ((fX2_shown σ h1) &&& (fX2_breakable σ h1))), (6, .int (nI k6_18))] rfl ?_
        have lp_27 : ∀ (n_27 : Nat) (s_27 : Mm) (x4_27 : Int32) (k7_27 : Nat), k7_27 ≤ 8 → 8 < k7_27 + n_27 → JJ X 8 D s_27 27 [(0, .ref (D.2.1 32)), (1, .ref (D.2.1 h1)), (2, .int a2), (3, .int a3), (4, .int x4_27), (5, .int ((fX2_shown σ h1) &&& (fX2_breakable σ h1))), (6, .int (nI k6_18)), (7, .int (nI k7_27))] [] (QQ X D (some (.int (fX0_lastAfter_27 h1 a2 a3 (fX0_lastAfter_18 h1 a2 a3 n_18) n_27 s_27 x4_27 ((fX2_shown σ h1) &&& (fX2_breakable σ h1)) k6_18 k7_27).1), (fX0_lastAfter_27 h1 a2 a3 (fX0_lastAfter_18 h1 a2 a3 n_18) n_27 s_27 x4_27 ((fX2_shown σ h1) &&& (fX2_breakable σ h1)) k6_18 k7_27).2)) := by
          intro n_27
          induction n_27 with
          | zero => intro s_27 x4_27 k7_27 hk_27 hn_27; exact absurd hn_27 (by omega)
          | succ n_27 ih_27 =>
            intro s_27 x4_27 k7_27 hk_27 hn_27
            rw [fX0_lastAfter_27]
            refine j_iload F dX0_lastAfter_27 29 rfl 7 rfl ?_
            refine j_bipush (v := 8) F dX0_lastAfter_29 31 rfl (by decide) ?_
            refine j_icmp_ge F dX0_lastAfter_31 100 (by decide) 34 rfl (fun c_31 => ?_) (fun c_31 => ?_)
            · rw [if_pos c_31]
              have h_31 : k7_27 < 8 := nlt c_31 (by decide) (by omega)
              refine j_iload F dX0_lastAfter_34 36 rfl 4 rfl ?_
              refine j_iload F dX0_lastAfter_36 38 rfl 5 rfl ?_
              refine j_iand F dX0_lastAfter_38 39 rfl ?_
              refine j_iload F dX0_lastAfter_39 41 rfl 7 rfl ?_
              refine j_callSNr (as := [.int (x4_27 &&& ((fX2_shown σ h1) &&& (fX2_breakable σ h1))), .int (nI k7_27)]) (st := []) (r := .int (bi (fX9_holds (x4_27 &&& ((fX2_shown σ h1) &&& (fX2_breakable σ h1))) (nI k7_27)))) (σ9 := s_27) F zX9_holds dX0_lastAfter_41 44 rfl pX9_holds rfl (by decide) (by decide) (Nat.le_of_ble_eq_true rfl) rfl qX0_34 (kX9_holds l D (x4_27 &&& ((fX2_shown σ h1) &&& (fX2_breakable σ h1))) (nI k7_27) s_27) ?_
              refine j_ifb_ne F dX0_lastAfter_44 50 (by decide) 47 rfl (fun c_44 => ?_) (fun c_44 => ?_)
              · rw [if_neg c_44]
                refine j_goto F dX0_lastAfter_47 94 (by decide) ?_
                refine j_iinc F dX0_lastAfter_94 97 rfl 7 rfl (nI (k7_27 + 1)) (nI_inc k7_27) (by decide) [(7, .int (nI (k7_27 + 1))), (0, .ref (D.2.1 32)), (1, .ref (D.2.1 h1)), (2, .int a2), (3, .int a3), (4, .int x4_27), (5, .int ((fX2_shown σ h1) &&& (fX2_breakable σ h1))), (6, .int (nI k6_18))] rfl ?_
                refine j_goto F dX0_lastAfter_97 27 (by decide) ?_
                refine j_pick [1, 2, 3, 4, 5, 6, 7, 0] [(0, .ref (D.2.1 32)), (1, .ref (D.2.1 h1)), (2, .int a2), (3, .int a3), (4, .int x4_27), (5, .int ((fX2_shown σ h1) &&& (fX2_breakable σ h1))), (6, .int (nI k6_18)), (7, .int (nI (k7_27 + 1)))] rfl ?_
                exact ih_27 s_27 x4_27 (k7_27 + 1) (by omega) (by omega)
              · rw [if_pos c_44]
                refine j_aload_n F dX0_lastAfter_50 51 rfl 0 rfl ?_
                refine j_aload_n F dX0_lastAfter_51 52 rfl 0 rfl ?_
                refine j_get (j := 0) F dX0_lastAfter_52 55 rfl inX0 rfl (by decide) sh32 (by decide) qX0_47 rfl ?_
                refine j_ldc2 F dX0_lastAfter_55 58 rfl qX0_51 ?_
                refine j_lmul F dX0_lastAfter_58 59 rfl ?_
                refine j_ldc2 F dX0_lastAfter_59 62 rfl qX0_53 ?_
                refine j_ladd F dX0_lastAfter_62 63 rfl ?_
                refine j_putL (j := 0) F dX0_lastAfter_63 66 rfl inX0 tyX0 tyX0_ok nmX0 rfl (by decide) sh32 sh32 (by decide) qX0_47 rfl (tyX0_ok 0 (by decide)) (Nat.le_of_ble_eq_true rfl) ?_
                refine j_aload_n F dX0_lastAfter_66 67 rfl 0 rfl ?_
                refine j_get (j := 0) F dX0_lastAfter_67 70 rfl inX0 rfl (by decide) sh32 (by decide) qX0_47 rfl ?_
                refine j_bipush (v := 33) F dX0_lastAfter_70 72 rfl (by decide) ?_
                refine j_lushr F dX0_lastAfter_72 73 rfl ?_
                refine j_ldc2 F dX0_lastAfter_73 76 rfl qX0_55 ?_
                refine j_lrem F dX0_lastAfter_76 77 rfl (by decide) ?_
                refine j_iload_n F dX0_lastAfter_77 78 rfl 3 rfl ?_
                refine j_i2l F dX0_lastAfter_78 79 rfl ?_
                refine j_lcmp F dX0_lastAfter_79 80 rfl ?_
                refine j_ifl_ge F dX0_lastAfter_80 94 (by decide) 83 rfl (fun c_80 => ?_) (fun c_80 => ?_)
                · rw [if_pos c_80]
                  refine j_iload F dX0_lastAfter_83 85 rfl 4 rfl ?_
                  refine j_iconst (v := 1) F dX0_lastAfter_85 86 rfl (by decide) ?_
                  refine j_iload F dX0_lastAfter_86 88 rfl 7 rfl ?_
                  refine j_ishl F dX0_lastAfter_88 89 rfl ?_
                  refine j_iconst (v := (-1)) F dX0_lastAfter_89 90 rfl (by decide) ?_
                  refine j_ixor F dX0_lastAfter_90 91 rfl ?_
                  refine j_iand F dX0_lastAfter_91 92 rfl ?_
                  refine j_istore F dX0_lastAfter_92 94 rfl (by decide) [(4, .int (x4_27 &&& ((1 <<< ((nI k7_27) &&& 31)) ^^^ (-1)))), (0, .ref (D.2.1 32)), (1, .ref (D.2.1 h1)), (2, .int a2), (3, .int a3), (5, .int ((fX2_shown σ h1) &&& (fX2_breakable σ h1))), (6, .int (nI k6_18)), (7, .int (nI k7_27))] rfl ?_
                  refine j_iinc F dX0_lastAfter_94 97 rfl 7 rfl (nI (k7_27 + 1)) (nI_inc k7_27) (by decide) [(7, .int (nI (k7_27 + 1))), (4, .int (x4_27 &&& ((1 <<< ((nI k7_27) &&& 31)) ^^^ (-1)))), (0, .ref (D.2.1 32)), (1, .ref (D.2.1 h1)), (2, .int a2), (3, .int a3), (5, .int ((fX2_shown σ h1) &&& (fX2_breakable σ h1))), (6, .int (nI k6_18))] rfl ?_
                  refine j_goto F dX0_lastAfter_97 27 (by decide) ?_
                  refine j_pick [2, 3, 4, 5, 1, 6, 7, 0] [(0, .ref (D.2.1 32)), (1, .ref (D.2.1 h1)), (2, .int a2), (3, .int a3), (4, .int (x4_27 &&& ((1 <<< ((nI k7_27) &&& 31)) ^^^ (-1)))), (5, .int ((fX2_shown σ h1) &&& (fX2_breakable σ h1))), (6, .int (nI k6_18)), (7, .int (nI (k7_27 + 1)))] rfl ?_
                  exact ih_27 (upL s_27 32 (((s_27.2 32) * 6364136223846793005) + 1442695040888963407)) (x4_27 &&& ((1 <<< ((nI k7_27) &&& 31)) ^^^ (-1))) (k7_27 + 1) (by omega) (by omega)
                · rw [if_neg c_80]
                  refine j_iinc F dX0_lastAfter_94 97 rfl 7 rfl (nI (k7_27 + 1)) (nI_inc k7_27) (by decide) [(7, .int (nI (k7_27 + 1))), (0, .ref (D.2.1 32)), (1, .ref (D.2.1 h1)), (2, .int a2), (3, .int a3), (4, .int x4_27), (5, .int ((fX2_shown σ h1) &&& (fX2_breakable σ h1))), (6, .int (nI k6_18))] rfl ?_
                  refine j_goto F dX0_lastAfter_97 27 (by decide) ?_
                  refine j_pick [1, 2, 3, 4, 5, 6, 7, 0] [(0, .ref (D.2.1 32)), (1, .ref (D.2.1 h1)), (2, .int a2), (3, .int a3), (4, .int x4_27), (5, .int ((fX2_shown σ h1) &&& (fX2_breakable σ h1))), (6, .int (nI k6_18)), (7, .int (nI (k7_27 + 1)))] rfl ?_
                  exact ih_27 (upL s_27 32 (((s_27.2 32) * 6364136223846793005) + 1442695040888963407)) x4_27 (k7_27 + 1) (by omega) (by omega)
            · rw [if_neg c_31]
              refine j_iinc F dX0_lastAfter_100 103 rfl 6 rfl (nI (k6_18 + 1)) (nI_inc k6_18) (by decide) [(6, .int (nI (k6_18 + 1))), (0, .ref (D.2.1 32)), (1, .ref (D.2.1 h1)), (2, .int a2), (3, .int a3), (4, .int x4_27), (5, .int ((fX2_shown σ h1) &&& (fX2_breakable σ h1))), (7, .int (nI k7_27))] rfl ?_
              refine j_goto F dX0_lastAfter_103 18 (by decide) ?_
              refine j_pick [1, 2, 3, 4, 5, 6, 0] [(0, .ref (D.2.1 32)), (1, .ref (D.2.1 h1)), (2, .int a2), (3, .int a3), (4, .int x4_27), (5, .int ((fX2_shown σ h1) &&& (fX2_breakable σ h1))), (6, .int (nI (k6_18 + 1)))] rfl ?_
              exact ih_18 s_27 x4_27 (k6_18 + 1) (by omega) (by omega)
        refine j_pick [1, 2, 3, 4, 5, 6, 7, 0] [(0, .ref (D.2.1 32)), (1, .ref (D.2.1 h1)), (2, .int a2), (3, .int a3), (4, .int x4_18), (5, .int ((fX2_shown σ h1) &&& (fX2_breakable σ h1))), (6, .int (nI k6_18)), (7, .int 0)] rfl ?_
        exact lp_27 9 s_18 x4_18 0 (by omega) (by omega)
      · rw [if_neg c_21]
        refine j_aload_n F dX0_lastAfter_106 107 rfl 1 rfl ?_
        refine j_aload_n F dX0_lastAfter_107 108 rfl 1 rfl ?_
        refine j_get (j := 2) F dX0_lastAfter_108 111 rfl inX2 rfl (hsP.lt hh1) (shH hh1) (by decide) qX0_18 rfl ?_
        refine j_iload F dX0_lastAfter_111 113 rfl 4 rfl ?_
        refine j_callVr (as := [.int (s_18.1 h1 2), .int x4_18]) (st := []) (r := .int (fX2_lastOnesBy s_18 h1 (s_18.1 h1 2) x4_18)) (σ9 := s_18) F zX2_lastOnesBy dX0_lastAfter_113 116 rfl pX2_lastOnesBy rfl (by decide) (by decide) (Nat.le_of_ble_eq_true rfl) rfl qX0_57 rfl rfl (hsP.lt hh1) (shH hh1) (kX2_lastOnesBy l D h1 (s_18.1 h1 2) x4_18 s_18 hh1) ?_
        exact j_ret_i F dX0_lastAfter_116 rfl rfl rfl
  refine j_pick [3, 4, 5, 6, 2, 1, 0] [(0, .ref (D.2.1 32)), (1, .ref (D.2.1 h1)), (2, .int a2), (3, .int a3), (4, .int (fX2_shown σ h1)), (5, .int ((fX2_shown σ h1) &&& (fX2_breakable σ h1))), (6, .int 0)] rfl ?_
  exact lp_18 (mX0_lastAfter_18 h1 a2 a3 + 1) σ (fX2_shown σ h1) 0 (Nat.zero_le _) (by show ((a2 : Int32).toNatClampNeg) < 0 + (((a2 : Int32).toNatClampNeg) + 1); omega)
def fX0_reduce_38   (s_38 : Mm) (x1_38 : Int32) : Mm := if x1_38 = 0 then (s_38) else ((up (up s_38 32 1 ((s_38.1 32 1) / x1_38)) 32 2 (((up s_38 32 1 ((s_38.1 32 1) / x1_38)).1 32 2) / x1_38)))
def fX0_reduce_12   : Nat → Mm → Int32 → Int32 → Nat → Mm
  | 0, s_12, _, _, _ => s_12
  | n + 1, s_12, x1_12, x2_12, k3_12 => if (nI k3_12) < 64 then (if x2_12 = 0 then (fX0_reduce_38 s_12 x1_12) else (fX0_reduce_12 n s_12 x2_12 (rm x1_12 x2_12) (k3_12 + 1))) else (fX0_reduce_38 s_12 x1_12)
def fX0_reduce (σ : Mm)  : Mm := fX0_reduce_12 65 σ (σ.1 32 2) (σ.1 32 1) 0
set_option maxRecDepth 20000 in
theorem kX0_reduce (l : Launch) (D : Dm)  (σ : Mm)  : Ct l yX0_reduce cX0_reduce 5 none 1 D [.ref (D.2.1 32)] σ (none, fX0_reduce σ) := by
  refine ct_of (by decide +kernel) (Nat.le_of_ble_eq_true rfl) (fun X F => ?_)
  have F : Fx X l 5 D cX0_reduce RX0 1 none := F
  show JJ X 5 D σ 0 [(0, .ref (D.2.1 32))] [] (QQ X D (none, fX0_reduce σ))
  rw [fX0_reduce]
  refine j_aload_n F dX0_reduce_0 1 rfl 0 rfl ?_
  refine j_get (j := 2) F dX0_reduce_1 4 rfl inX0 rfl (by decide) sh32 (by decide) qX0_31 rfl ?_
  refine j_istore_n F dX0_reduce_4 5 rfl 1 rfl (by decide) [(1, .int (σ.1 32 2)), (0, .ref (D.2.1 32))] rfl ?_
  refine j_aload_n F dX0_reduce_5 6 rfl 1 rfl ?_
  refine j_get (j := 1) F dX0_reduce_6 9 rfl inX0 rfl (by decide) sh32 (by decide) qX0_26 rfl ?_
  refine j_istore_n F dX0_reduce_9 10 rfl 2 rfl (by decide) [(2, .int (σ.1 32 1)), (1, .int (σ.1 32 2)), (0, .ref (D.2.1 32))] rfl ?_
  refine j_iconst (v := 0) F dX0_reduce_10 11 rfl (by decide) ?_
  refine j_istore_n F dX0_reduce_11 12 rfl 3 rfl (by decide) [(3, .int 0), (2, .int (σ.1 32 1)), (1, .int (σ.1 32 2)), (0, .ref (D.2.1 32))] rfl ?_
  have hx_38 : ∀ (x1_38 : Int32), JJ X 5 D σ 38 [(0, .ref (D.2.1 32)), (1, .int x1_38)] [] (QQ X D (none, fX0_reduce_38 σ x1_38)) := by
    intro x1_38
    rw [fX0_reduce_38]
    refine j_iload_n F dX0_reduce_38 39 rfl 1 rfl ?_
    refine j_if_eq F dX0_reduce_39 62 (by decide) 42 rfl (fun c_39 => ?_) (fun c_39 => ?_)
    · rw [if_neg c_39]
      refine j_aload_n F dX0_reduce_42 43 rfl 0 rfl ?_
      refine j_dup F dX0_reduce_43 44 rfl rfl ?_
      refine j_get (j := 1) F dX0_reduce_44 47 rfl inX0 rfl (by decide) sh32 (by decide) qX0_26 rfl ?_
      refine j_iload_n F dX0_reduce_47 48 rfl 1 rfl ?_
      refine j_idiv F dX0_reduce_48 49 rfl (by first | assumption | exact ne_pos (by assumption)) ?_
      refine j_put (j := 1) F dX0_reduce_49 52 rfl inX0 tyX0 tyX0_ok nmX0 rfl (by decide) sh32 sh32 (by decide) qX0_26 rfl (tyX0_ok 1 (by decide)) (Nat.le_of_ble_eq_true rfl) ?_
      refine j_aload_n F dX0_reduce_52 53 rfl 0 rfl ?_
      refine j_dup F dX0_reduce_53 54 rfl rfl ?_
      refine j_get (j := 2) F dX0_reduce_54 57 rfl inX0 rfl (by decide) sh32 (by decide) qX0_31 rfl ?_
      refine j_iload_n F dX0_reduce_57 58 rfl 1 rfl ?_
      refine j_idiv F dX0_reduce_58 59 rfl (by first | assumption | exact ne_pos (by assumption)) ?_
      refine j_put (j := 2) F dX0_reduce_59 62 rfl inX0 tyX0 tyX0_ok nmX0 rfl (by decide) sh32 sh32 (by decide) qX0_31 rfl (tyX0_ok 2 (by decide)) (Nat.le_of_ble_eq_true rfl) ?_
      exact j_ret_v F dX0_reduce_62 rfl rfl rfl
    · rw [if_pos c_39]
      exact j_ret_v F dX0_reduce_62 rfl rfl rfl
  have lp_12 : ∀ (n_12 : Nat) (x1_12 : Int32) (x2_12 : Int32) (k3_12 : Nat), k3_12 ≤ 64 → 64 < k3_12 + n_12 → JJ X 5 D σ 12 [(0, .ref (D.2.1 32)), (1, .int x1_12), (2, .int x2_12), (3, .int (nI k3_12))] [] (QQ X D (none, fX0_reduce_12 n_12 σ x1_12 x2_12 k3_12)) := by
    intro n_12
    induction n_12 with
    | zero => intro x1_12 x2_12 k3_12 hk_12 hn_12; exact absurd hn_12 (by omega)
    | succ n_12 ih_12 =>
      intro x1_12 x2_12 k3_12 hk_12 hn_12
      rw [fX0_reduce_12]
      refine j_iload_n F dX0_reduce_12 13 rfl 3 rfl ?_
      refine j_bipush (v := 64) F dX0_reduce_13 15 rfl (by decide) ?_
      refine j_icmp_ge F dX0_reduce_15 38 (by decide) 18 rfl (fun c_15 => ?_) (fun c_15 => ?_)
      · rw [if_pos c_15]
        have h_15 : k3_12 < 64 := nlt c_15 (by decide) (by omega)
        refine j_iload_n F dX0_reduce_18 19 rfl 2 rfl ?_
        refine j_if_eq F dX0_reduce_19 38 (by decide) 22 rfl (fun c_19 => ?_) (fun c_19 => ?_)
        · rw [if_neg c_19]
          refine j_iload_n F dX0_reduce_22 23 rfl 1 rfl ?_
          refine j_iload_n F dX0_reduce_23 24 rfl 2 rfl ?_
          refine j_irem F dX0_reduce_24 25 rfl (by first | assumption | exact ne_pos (by assumption)) ?_
          refine j_istore F dX0_reduce_25 27 rfl (by decide) [(4, .int (rm x1_12 x2_12)), (0, .ref (D.2.1 32)), (1, .int x1_12), (2, .int x2_12), (3, .int (nI k3_12))] rfl ?_
          refine j_iload_n F dX0_reduce_27 28 rfl 3 rfl ?_
          refine j_istore_n F dX0_reduce_28 29 rfl 1 rfl (by decide) [(1, .int x2_12), (4, .int (rm x1_12 x2_12)), (0, .ref (D.2.1 32)), (2, .int x2_12), (3, .int (nI k3_12))] rfl ?_
          refine j_iload F dX0_reduce_29 31 rfl 1 rfl ?_
          refine j_istore_n F dX0_reduce_31 32 rfl 2 rfl (by decide) [(2, .int (rm x1_12 x2_12)), (1, .int x2_12), (4, .int (rm x1_12 x2_12)), (0, .ref (D.2.1 32)), (3, .int (nI k3_12))] rfl ?_
          refine j_iinc F dX0_reduce_32 35 rfl 4 rfl (nI (k3_12 + 1)) (nI_inc k3_12) (by decide) [(3, .int (nI (k3_12 + 1))), (2, .int (rm x1_12 x2_12)), (1, .int x2_12), (4, .int (rm x1_12 x2_12)), (0, .ref (D.2.1 32))] rfl ?_
          refine j_goto F dX0_reduce_35 12 (by decide) ?_
          refine j_pick [4, 2, 1, 0] [(0, .ref (D.2.1 32)), (1, .int x2_12), (2, .int (rm x1_12 x2_12)), (3, .int (nI (k3_12 + 1)))] rfl ?_
          exact ih_12 x2_12 (rm x1_12 x2_12) (k3_12 + 1) (by omega) (by omega)
        · rw [if_pos c_19]
          refine j_pick [0, 1] [(0, .ref (D.2.1 32)), (1, .int x1_12)] rfl ?_
          exact hx_38 x1_12
      · rw [if_neg c_15]
        refine j_pick [0, 1] [(0, .ref (D.2.1 32)), (1, .int x1_12)] rfl ?_
        exact hx_38 x1_12
  refine j_pick [3, 2, 1, 0] [(0, .ref (D.2.1 32)), (1, .int (σ.1 32 2)), (2, .int (σ.1 32 1)), (3, .int 0)] rfl ?_
  exact lp_12 65 (σ.1 32 2) (σ.1 32 1) 0 (by omega) (by omega)
def mX0_weigh_89 (h1 : Nat) (a2 : Int32) (a3 : Int32) (x6_89 : Int32) : Nat := ((fJ6_bitCount x6_89) : Int32).toNatClampNeg
def fX0_weigh_89 (h1 : Nat) (a2 : Int32) (a3 : Int32)  : Nat → Mm → Int32 → Nat → Mm
  | 0, s_89, _, _ => s_89
  | n + 1, s_89, x6_89, k7_89 => if (nI k7_89) < (fJ6_bitCount x6_89) then (fX0_weigh_89 h1 a2 a3 n (up (up s_89 32 1 ((s_89.1 32 1) * a3)) 32 2 (((up s_89 32 1 ((s_89.1 32 1) * a3)).1 32 2) * 10)) x6_89 (k7_89 + 1)) else ((fX0_reduce s_89))
def fX0_weigh_77 (h1 : Nat) (a2 : Int32) (a3 : Int32)  (s_77 : Mm) (x6_77 : Int32) (xt0_77 : Int32) : Mm := fX0_weigh_89 h1 a2 a3 (mX0_weigh_89 h1 a2 a3 x6_77 + 1) (up (up s_77 32 1 xt0_77) 32 2 10) x6_77 0
def fX0_weigh_38 (h1 : Nat) (a2 : Int32) (a3 : Int32)  (s_38 : Mm) (x4_38 : Int32) (x5_38 : Int32) (x6_38 : Int32) : Mm := if (fX9_holds x4_38 a2) = true then (if (x6_38 &&& (x5_38 ^^^ (-1))) = 0 then (if (fX9_holds x5_38 a2) = true then (fX0_weigh_77 h1 a2 a3 s_38 x6_38 (10 - a3)) else (fX0_weigh_77 h1 a2 a3 s_38 x6_38 10)) else (s_38)) else (s_38)
def fX0_weigh (σ : Mm) (h1 : Nat) (a2 : Int32) (a3 : Int32) : Mm := fX0_weigh_38 h1 a2 a3 (up (up σ 32 1 0) 32 2 1) (fX2_shown σ h1) ((fX2_shown σ h1) &&& (fX2_breakable σ h1)) (fX2_alikeTo σ h1 a2 (σ.1 h1 2) (fX2_shown σ h1))
set_option maxRecDepth 20000 in
theorem kX0_weigh (l : Launch) (D : Dm) (h1 : Nat) (a2 : Int32) (a3 : Int32) (σ : Mm) (hh1 : hsP h1) : Ct l yX0_weigh cX0_weigh 8 none 4 D [.ref (D.2.1 32), .ref (D.2.1 h1), .int a2, .int a3] σ (none, fX0_weigh σ h1 a2 a3) := by
  refine ct_of (by decide +kernel) (Nat.le_of_ble_eq_true rfl) (fun X F => ?_)
  have F : Fx X l 8 D cX0_weigh RX0 4 none := F
  show JJ X 8 D σ 0 [(0, .ref (D.2.1 32)), (1, .ref (D.2.1 h1)), (2, .int a2), (3, .int a3)] [] (QQ X D (none, fX0_weigh σ h1 a2 a3))
  rw [fX0_weigh]
  refine j_aload_n F dX0_weigh_0 1 rfl 1 rfl ?_
  refine j_callVr (as := []) (st := []) (r := .int (fX2_shown σ h1)) (σ9 := σ) F zX2_shown dX0_weigh_1 4 rfl pX2_shown rfl (by decide) (by decide) (Nat.le_of_ble_eq_true rfl) rfl qX0_9 rfl rfl (hsP.lt hh1) (shH hh1) (kX2_shown l D h1 σ hh1) ?_
  refine j_istore F dX0_weigh_4 6 rfl (by decide) [(4, .int (fX2_shown σ h1)), (0, .ref (D.2.1 32)), (1, .ref (D.2.1 h1)), (2, .int a2), (3, .int a3)] rfl ?_
  refine j_iload F dX0_weigh_6 8 rfl 0 rfl ?_
  refine j_aload_n F dX0_weigh_8 9 rfl 2 rfl ?_
  refine j_callVr (as := []) (st := [.int (fX2_shown σ h1)]) (r := .int (fX2_breakable σ h1)) (σ9 := σ) F zX2_breakable dX0_weigh_9 12 rfl pX2_breakable rfl (by decide) (by decide) (Nat.le_of_ble_eq_true rfl) rfl qX0_15 rfl rfl (hsP.lt hh1) (shH hh1) (kX2_breakable l D h1 σ hh1) ?_
  refine j_iand F dX0_weigh_12 13 rfl ?_
  refine j_istore F dX0_weigh_13 15 rfl (by decide) [(5, .int ((fX2_shown σ h1) &&& (fX2_breakable σ h1))), (4, .int (fX2_shown σ h1)), (0, .ref (D.2.1 32)), (1, .ref (D.2.1 h1)), (2, .int a2), (3, .int a3)] rfl ?_
  refine j_aload_n F dX0_weigh_15 16 rfl 3 rfl ?_
  refine j_iload_n F dX0_weigh_16 17 rfl 4 rfl ?_
  refine j_aload_n F dX0_weigh_17 18 rfl 3 rfl ?_
  refine j_get (j := 2) F dX0_weigh_18 21 rfl inX2 rfl (hsP.lt hh1) (shH hh1) (by decide) qX0_18 rfl ?_
  refine j_iload F dX0_weigh_21 23 rfl 1 rfl ?_
  refine j_callVr (as := [.int a2, .int (σ.1 h1 2), .int (fX2_shown σ h1)]) (st := []) (r := .int (fX2_alikeTo σ h1 a2 (σ.1 h1 2) (fX2_shown σ h1))) (σ9 := σ) F zX2_alikeTo dX0_weigh_23 26 rfl pX2_alikeTo rfl (by decide) (by decide) (Nat.le_of_ble_eq_true rfl) rfl qX0_22 rfl rfl (hsP.lt hh1) (shH hh1) (kX2_alikeTo l D h1 a2 (σ.1 h1 2) (fX2_shown σ h1) σ hh1) ?_
  refine j_istore F dX0_weigh_26 28 rfl (by decide) [(6, .int (fX2_alikeTo σ h1 a2 (σ.1 h1 2) (fX2_shown σ h1))), (5, .int ((fX2_shown σ h1) &&& (fX2_breakable σ h1))), (4, .int (fX2_shown σ h1)), (0, .ref (D.2.1 32)), (1, .ref (D.2.1 h1)), (2, .int a2), (3, .int a3)] rfl ?_
  refine j_aload_n F dX0_weigh_28 29 rfl 3 rfl ?_
  refine j_iconst (v := 0) F dX0_weigh_29 30 rfl (by decide) ?_
  refine j_put (j := 1) F dX0_weigh_30 33 rfl inX0 tyX0 tyX0_ok nmX0 rfl (by decide) sh32 sh32 (by decide) qX0_26 rfl (tyX0_ok 1 (by decide)) (Nat.le_of_ble_eq_true rfl) ?_
  refine j_aload_n F dX0_weigh_33 34 rfl 3 rfl ?_
  refine j_iconst (v := 1) F dX0_weigh_34 35 rfl (by decide) ?_
  refine j_put (j := 2) F dX0_weigh_35 38 rfl inX0 tyX0 tyX0_ok nmX0 rfl (by decide) sh32 sh32 (by decide) qX0_31 rfl (tyX0_ok 2 (by decide)) (Nat.le_of_ble_eq_true rfl) ?_
  refine j_pick [3, 5, 6, 2, 1, 0] [(0, .ref (D.2.1 32)), (2, .int a2), (3, .int a3), (4, .int (fX2_shown σ h1)), (5, .int ((fX2_shown σ h1) &&& (fX2_breakable σ h1))), (6, .int (fX2_alikeTo σ h1 a2 (σ.1 h1 2) (fX2_shown σ h1)))] rfl ?_
  have jn_38 : ∀ (s_38 : Mm), JJ X 8 D s_38 38 [(0, .ref (D.2.1 32)), (2, .int a2), (3, .int a3), (4, .int (fX2_shown σ h1)), (5, .int ((fX2_shown σ h1) &&& (fX2_breakable σ h1))), (6, .int (fX2_alikeTo σ h1 a2 (σ.1 h1 2) (fX2_shown σ h1)))] [] (QQ X D (none, fX0_weigh_38 h1 a2 a3 s_38 (fX2_shown σ h1) ((fX2_shown σ h1) &&& (fX2_breakable σ h1)) (fX2_alikeTo σ h1 a2 (σ.1 h1 2) (fX2_shown σ h1)))) := by
    intro s_38
    rw [fX0_weigh_38]
    refine j_iload F dX0_weigh_38 40 rfl 3 rfl ?_
    refine j_iload_n F dX0_weigh_40 41 rfl 1 rfl ?_
    refine j_callSNr (as := [.int (fX2_shown σ h1), .int a2]) (st := []) (r := .int (bi (fX9_holds (fX2_shown σ h1) a2))) (σ9 := s_38) F zX9_holds dX0_weigh_41 44 rfl pX9_holds rfl (by decide) (by decide) (Nat.le_of_ble_eq_true rfl) rfl qX0_34 (kX9_holds l D (fX2_shown σ h1) a2 s_38) ?_
    refine j_ifb_eq F dX0_weigh_44 57 (by decide) 47 rfl (fun c_44 => ?_) (fun c_44 => ?_)
    · rw [if_pos c_44]
      refine j_iload F dX0_weigh_47 49 rfl 5 rfl ?_
      refine j_iload F dX0_weigh_49 51 rfl 4 rfl ?_
      refine j_iconst (v := (-1)) F dX0_weigh_51 52 rfl (by decide) ?_
      refine j_ixor F dX0_weigh_52 53 rfl ?_
      refine j_iand F dX0_weigh_53 54 rfl ?_
      refine j_if_eq F dX0_weigh_54 58 (by decide) 57 rfl (fun c_54 => ?_) (fun c_54 => ?_)
      · rw [if_neg c_54]
        exact j_ret_v F dX0_weigh_57 rfl rfl rfl
      · rw [if_pos c_54]
        refine j_aload_n F dX0_weigh_58 59 rfl 0 rfl ?_
        refine j_iload F dX0_weigh_59 61 rfl 4 rfl ?_
        refine j_iload_n F dX0_weigh_61 62 rfl 1 rfl ?_
        refine j_callSNr (as := [.int ((fX2_shown σ h1) &&& (fX2_breakable σ h1)), .int a2]) (st := [.ref (D.2.1 32)]) (r := .int (bi (fX9_holds ((fX2_shown σ h1) &&& (fX2_breakable σ h1)) a2))) (σ9 := s_38) F zX9_holds dX0_weigh_62 65 rfl pX9_holds rfl (by decide) (by decide) (Nat.le_of_ble_eq_true rfl) rfl qX0_34 (kX9_holds l D ((fX2_shown σ h1) &&& (fX2_breakable σ h1)) a2 s_38) ?_
        have jn_77 : ∀ (xt0_77 : Int32), JJ X 8 D s_38 77 [(0, .ref (D.2.1 32)), (3, .int a3), (6, .int (fX2_alikeTo σ h1 a2 (σ.1 h1 2) (fX2_shown σ h1)))] [.int xt0_77, .ref (D.2.1 32)] (QQ X D (none, fX0_weigh_77 h1 a2 a3 s_38 (fX2_alikeTo σ h1 a2 (σ.1 h1 2) (fX2_shown σ h1)) xt0_77)) := by
          intro xt0_77
          rw [fX0_weigh_77]
          refine j_put (j := 1) F dX0_weigh_77 80 rfl inX0 tyX0 tyX0_ok nmX0 rfl (by decide) sh32 sh32 (by decide) qX0_26 rfl (tyX0_ok 1 (by decide)) (Nat.le_of_ble_eq_true rfl) ?_
          refine j_aload_n F dX0_weigh_80 81 rfl 0 rfl ?_
          refine j_bipush (v := 10) F dX0_weigh_81 83 rfl (by decide) ?_
          refine j_put (j := 2) F dX0_weigh_83 86 rfl inX0 tyX0 tyX0_ok nmX0 rfl (by decide) sh32 sh32 (by decide) qX0_31 rfl (tyX0_ok 2 (by decide)) (Nat.le_of_ble_eq_true rfl) ?_
          refine j_iconst (v := 0) F dX0_weigh_86 87 rfl (by decide) ?_
          refine j_istore F dX0_weigh_87 89 rfl (by decide) [(7, .int 0), (0, .ref (D.2.1 32)), (3, .int a3), (6, .int (fX2_alikeTo σ h1 a2 (σ.1 h1 2) (fX2_shown σ h1)))] rfl ?_
          have lp_89 : ∀ (n_89 : Nat) (s_89 : Mm) (k7_89 : Nat), k7_89 ≤ (((fJ6_bitCount (fX2_alikeTo σ h1 a2 (σ.1 h1 2) (fX2_shown σ h1))) : Int32).toNatClampNeg) → (((fJ6_bitCount (fX2_alikeTo σ h1 a2 (σ.1 h1 2) (fX2_shown σ h1))) : Int32).toNatClampNeg) < k7_89 + n_89 → JJ X 8 D s_89 89 [(0, .ref (D.2.1 32)), (3, .int a3), (6, .int (fX2_alikeTo σ h1 a2 (σ.1 h1 2) (fX2_shown σ h1))), (7, .int (nI k7_89))] [] (QQ X D (none, fX0_weigh_89 h1 a2 a3 n_89 s_89 (fX2_alikeTo σ h1 a2 (σ.1 h1 2) (fX2_shown σ h1)) k7_89)) := by
            intro n_89
            induction n_89 with
            | zero => intro s_89 k7_89 hk_89 hn_89; exact absurd hn_89 (by omega)
            | succ n_89 ih_89 =>
              intro s_89 k7_89 hk_89 hn_89
              rw [fX0_weigh_89]
              refine j_iload F dX0_weigh_89 91 rfl 3 rfl ?_
              refine j_iload F dX0_weigh_91 93 rfl 2 rfl ?_
              refine j_callSr (as := [.int (fX2_alikeTo σ h1 a2 (σ.1 h1 2) (fX2_shown σ h1))]) (st := [.int (nI k7_89)]) (r := .int (fJ6_bitCount (fX2_alikeTo σ h1 a2 (σ.1 h1 2) (fX2_shown σ h1)))) (σ9 := s_89) F zJ6_bitCount dX0_weigh_93 96 rfl pJ6_bitCount rfl (by decide) (by decide) (Nat.le_of_ble_eq_true rfl) rfl qX0_38 (kJ6_bitCount l D (fX2_alikeTo σ h1 a2 (σ.1 h1 2) (fX2_shown σ h1)) s_89) ?_
              refine j_icmp_ge F dX0_weigh_96 126 (by decide) 99 rfl (fun c_96 => ?_) (fun c_96 => ?_)
              · rw [if_pos c_96]
                have h_96 : k7_89 < (((fJ6_bitCount (fX2_alikeTo σ h1 a2 (σ.1 h1 2) (fX2_shown σ h1))) : Int32).toNatClampNeg) := nltd c_96 hk_89
                refine j_aload_n F dX0_weigh_99 100 rfl 0 rfl ?_
                refine j_dup F dX0_weigh_100 101 rfl rfl ?_
                refine j_get (j := 1) F dX0_weigh_101 104 rfl inX0 rfl (by decide) sh32 (by decide) qX0_26 rfl ?_
                refine j_iload_n F dX0_weigh_104 105 rfl 1 rfl ?_
                refine j_imul F dX0_weigh_105 106 rfl ?_
                refine j_put (j := 1) F dX0_weigh_106 109 rfl inX0 tyX0 tyX0_ok nmX0 rfl (by decide) sh32 sh32 (by decide) qX0_26 rfl (tyX0_ok 1 (by decide)) (Nat.le_of_ble_eq_true rfl) ?_
                refine j_aload_n F dX0_weigh_109 110 rfl 0 rfl ?_
                refine j_dup F dX0_weigh_110 111 rfl rfl ?_
                refine j_get (j := 2) F dX0_weigh_111 114 rfl inX0 rfl (by decide) sh32 (by decide) qX0_31 rfl ?_
                refine j_bipush (v := 10) F dX0_weigh_114 116 rfl (by decide) ?_
                refine j_imul F dX0_weigh_116 117 rfl ?_
                refine j_put (j := 2) F dX0_weigh_117 120 rfl inX0 tyX0 tyX0_ok nmX0 rfl (by decide) sh32 sh32 (by decide) qX0_31 rfl (tyX0_ok 2 (by decide)) (Nat.le_of_ble_eq_true rfl) ?_
                refine j_iinc F dX0_weigh_120 123 rfl 3 rfl (nI (k7_89 + 1)) (nI_inc k7_89) (by decide) [(7, .int (nI (k7_89 + 1))), (0, .ref (D.2.1 32)), (3, .int a3), (6, .int (fX2_alikeTo σ h1 a2 (σ.1 h1 2) (fX2_shown σ h1)))] rfl ?_
                refine j_goto F dX0_weigh_123 89 (by decide) ?_
                refine j_pick [1, 2, 3, 0] [(0, .ref (D.2.1 32)), (3, .int a3), (6, .int (fX2_alikeTo σ h1 a2 (σ.1 h1 2) (fX2_shown σ h1))), (7, .int (nI (k7_89 + 1)))] rfl ?_
                exact ih_89 (up (up s_89 32 1 ((s_89.1 32 1) * a3)) 32 2 (((up s_89 32 1 ((s_89.1 32 1) * a3)).1 32 2) * 10)) (k7_89 + 1) (by omega) (by omega)
              · rw [if_neg c_96]
                refine j_aload_n F dX0_weigh_126 127 rfl 0 rfl ?_
                refine j_callVv (as := []) (st := []) (σ9 := (fX0_reduce s_89)) F zX0_reduce dX0_weigh_127 130 rfl pX0_reduce rfl (by decide) (by decide) (Nat.le_of_ble_eq_true rfl) rfl qX0_44 rfl rfl (by decide) sh32 (kX0_reduce l D s_89) ?_
                exact j_ret_v F dX0_weigh_130 rfl rfl rfl
          refine j_pick [1, 2, 3, 0] [(0, .ref (D.2.1 32)), (3, .int a3), (6, .int (fX2_alikeTo σ h1 a2 (σ.1 h1 2) (fX2_shown σ h1))), (7, .int 0)] rfl ?_
          exact lp_89 (mX0_weigh_89 h1 a2 a3 (fX2_alikeTo σ h1 a2 (σ.1 h1 2) (fX2_shown σ h1)) + 1) (up (up s_38 32 1 xt0_77) 32 2 10) 0 (Nat.zero_le _) (by show (((fJ6_bitCount (fX2_alikeTo σ h1 a2 (σ.1 h1 2) (fX2_shown σ h1))) : Int32).toNatClampNeg) < 0 + ((((fJ6_bitCount (fX2_alikeTo σ h1 a2 (σ.1 h1 2) (fX2_shown σ h1))) : Int32).toNatClampNeg) + 1); omega)
        refine j_ifb_eq F dX0_weigh_65 75 (by decide) 68 rfl (fun c_65 => ?_) (fun c_65 => ?_)
        · rw [if_pos c_65]
          refine j_bipush (v := 10) F dX0_weigh_68 70 rfl (by decide) ?_
          refine j_iload_n F dX0_weigh_70 71 rfl 2 rfl ?_
          refine j_isub F dX0_weigh_71 72 rfl ?_
          refine j_goto F dX0_weigh_72 77 (by decide) ?_
          refine j_pick [0, 2, 5] [(0, .ref (D.2.1 32)), (3, .int a3), (6, .int (fX2_alikeTo σ h1 a2 (σ.1 h1 2) (fX2_shown σ h1)))] rfl ?_
          exact jn_77 (10 - a3)
        · rw [if_neg c_65]
          refine j_bipush (v := 10) F dX0_weigh_75 77 rfl (by decide) ?_
          refine j_pick [0, 2, 5] [(0, .ref (D.2.1 32)), (3, .int a3), (6, .int (fX2_alikeTo σ h1 a2 (σ.1 h1 2) (fX2_shown σ h1)))] rfl ?_
          exact jn_77 10
    · rw [if_neg c_44]
      exact j_ret_v F dX0_weigh_57 rfl rfl rfl
  exact jn_38 (up (up σ 32 1 0) 32 2 1) 
def fX1_cost (σ : Mm) (g : Nat) (a1 : Int32) : Int32 := (fX9_at σ (g + 3) 8 a1)
set_option maxRecDepth 20000 in
theorem kX1_cost (l : Launch) (D : Dm) (g : Nat) (a1 : Int32) (σ : Mm) (hg : gdP g) : Ct l yX1_cost cX1_cost 2 (some .int) 2 D [.ref (D.2.1 g), .int a1] σ (some (.int (fX1_cost σ g a1)), σ) := by
  refine ct_of (by decide +kernel) (Nat.le_of_ble_eq_true rfl) (fun X F => ?_)
  have F : Fx X l 2 D cX1_cost RX1 2 (some .int) := F
  show JJ X 2 D σ 0 [(0, .ref (D.2.1 g)), (1, .int a1)] [] (QQ X D (some (.int (fX1_cost σ g a1)), σ))
  rw [fX1_cost]
  refine j_aload_n F dX1_cost_0 1 rfl 0 rfl ?_
  refine j_get (j := 2) F dX1_cost_1 4 rfl inX1 rfl (gdP.lt hg) (shG hg) (by decide) qX1_18 rfl ?_
  refine j_iload_n F dX1_cost_4 5 rfl 1 rfl ?_
  refine j_callSNr (as := [.ref (D.2.1 (g + 3)), .int a1]) (st := []) (r := .int (fX9_at σ (g + 3) 8 a1)) (σ9 := σ) F zX9_at dX1_cost_5 8 rfl pX9_at rfl (by decide) (by decide) (Nat.le_of_ble_eq_true rfl) rfl qX1_43 (kX9_at l D (g + 3) 8 a1 σ (iaG3 hg)) ?_
  exact j_ret_i F dX1_cost_8 rfl rfl rfl
def fX1_lastAmong_4 (σ : Mm) (g : Nat) (a1 : Int32)  : Nat → Int32 → Nat → Int32
  | 0, _, _ => 0
  | n + 1, x2_4, k3_4 => if (nI k3_4) < 8 then (if (a1 &&& (1 <<< ((nI k3_4) &&& 31))) = 0 then (fX1_lastAmong_4 σ g a1 n x2_4 (k3_4 + 1)) else (if ((σ.1 (g + 1) k3_4) &&& a1) = 0 then (fX1_lastAmong_4 σ g a1 n (x2_4 ||| (1 <<< ((nI k3_4) &&& 31))) (k3_4 + 1)) else (fX1_lastAmong_4 σ g a1 n x2_4 (k3_4 + 1)))) else (x2_4)
def fX1_lastAmong (σ : Mm) (g : Nat) (a1 : Int32) : Int32 := fX1_lastAmong_4 σ g a1 9 0 0
set_option maxRecDepth 20000 in
theorem kX1_lastAmong (l : Launch) (D : Dm) (g : Nat) (a1 : Int32) (σ : Mm) (hg : gdP g) : Ct l yX1_lastAmong cX1_lastAmong 4 (some .int) 1 D [.ref (D.2.1 g), .int a1] σ (some (.int (fX1_lastAmong σ g a1)), σ) := by
  refine ct_of (by decide +kernel) (Nat.le_of_ble_eq_true rfl) (fun X F => ?_)
  have F : Fx X l 4 D cX1_lastAmong RX1 1 (some .int) := F
  show JJ X 4 D σ 0 [(0, .ref (D.2.1 g)), (1, .int a1)] [] (QQ X D (some (.int (fX1_lastAmong σ g a1)), σ))
  rw [fX1_lastAmong]
  refine j_iconst (v := 0) F dX1_lastAmong_0 1 rfl (by decide) ?_
  refine j_istore_n F dX1_lastAmong_1 2 rfl 2 rfl (by decide) [(2, .int 0), (0, .ref (D.2.1 g)), (1, .int a1)] rfl ?_
  refine j_iconst (v := 0) F dX1_lastAmong_2 3 rfl (by decide) ?_
  refine j_istore_n F dX1_lastAmong_3 4 rfl 3 rfl (by decide) [(3, .int 0), (2, .int 0), (0, .ref (D.2.1 g)), (1, .int a1)] rfl ?_
  have lp_4 : ∀ (n_4 : Nat) (x2_4 : Int32) (k3_4 : Nat), k3_4 ≤ 8 → 8 < k3_4 + n_4 → JJ X 4 D σ 4 [(0, .ref (D.2.1 g)), (1, .int a1), (2, .int x2_4), (3, .int (nI k3_4))] [] (QQ X D (some (.int (fX1_lastAmong_4 σ g a1 n_4 x2_4 k3_4)), σ)) := by
    intro n_4
    induction n_4 with
    | zero => intro x2_4 k3_4 hk_4 hn_4; exact absurd hn_4 (by omega)
    | succ n_4 ih_4 =>
      intro x2_4 k3_4 hk_4 hn_4
      rw [fX1_lastAmong_4]
      refine j_iload_n F dX1_lastAmong_4 5 rfl 3 rfl ?_
      refine j_bipush (v := 8) F dX1_lastAmong_5 7 rfl (by decide) ?_
      refine j_icmp_ge F dX1_lastAmong_7 41 (by decide) 10 rfl (fun c_7 => ?_) (fun c_7 => ?_)
      · rw [if_pos c_7]
        have h_7 : k3_4 < 8 := nlt c_7 (by decide) (by omega)
        refine j_iload_n F dX1_lastAmong_10 11 rfl 1 rfl ?_
        refine j_iconst (v := 1) F dX1_lastAmong_11 12 rfl (by decide) ?_
        refine j_iload_n F dX1_lastAmong_12 13 rfl 3 rfl ?_
        refine j_ishl F dX1_lastAmong_13 14 rfl ?_
        refine j_iand F dX1_lastAmong_14 15 rfl ?_
        refine j_if_eq F dX1_lastAmong_15 35 (by decide) 18 rfl (fun c_15 => ?_) (fun c_15 => ?_)
        · rw [if_neg c_15]
          refine j_aload_n F dX1_lastAmong_18 19 rfl 0 rfl ?_
          refine j_get (j := 0) F dX1_lastAmong_19 22 rfl inX1 rfl (gdP.lt hg) (shG hg) (by decide) qX1_9 rfl ?_
          refine j_iload_n F dX1_lastAmong_22 23 rfl 3 rfl ?_
          refine j_iald_n F dX1_lastAmong_23 24 rfl (iaG1 hg) k3_4 rfl (by omega) ?_
          refine j_iload_n F dX1_lastAmong_24 25 rfl 1 rfl ?_
          refine j_iand F dX1_lastAmong_25 26 rfl ?_
          refine j_if_ne F dX1_lastAmong_26 35 (by decide) 29 rfl (fun c_26 => ?_) (fun c_26 => ?_)
          · rw [if_pos c_26]
            refine j_iload_n F dX1_lastAmong_29 30 rfl 2 rfl ?_
            refine j_iconst (v := 1) F dX1_lastAmong_30 31 rfl (by decide) ?_
            refine j_iload_n F dX1_lastAmong_31 32 rfl 3 rfl ?_
            refine j_ishl F dX1_lastAmong_32 33 rfl ?_
            refine j_ior F dX1_lastAmong_33 34 rfl ?_
            refine j_istore_n F dX1_lastAmong_34 35 rfl 2 rfl (by decide) [(2, .int (x2_4 ||| (1 <<< ((nI k3_4) &&& 31)))), (0, .ref (D.2.1 g)), (1, .int a1), (3, .int (nI k3_4))] rfl ?_
            refine j_iinc F dX1_lastAmong_35 38 rfl 3 rfl (nI (k3_4 + 1)) (nI_inc k3_4) (by decide) [(3, .int (nI (k3_4 + 1))), (2, .int (x2_4 ||| (1 <<< ((nI k3_4) &&& 31)))), (0, .ref (D.2.1 g)), (1, .int a1)] rfl ?_
            refine j_goto F dX1_lastAmong_38 4 (by decide) ?_
            refine j_pick [2, 3, 1, 0] [(0, .ref (D.2.1 g)), (1, .int a1), (2, .int (x2_4 ||| (1 <<< ((nI k3_4) &&& 31)))), (3, .int (nI (k3_4 + 1)))] rfl ?_
            exact ih_4 (x2_4 ||| (1 <<< ((nI k3_4) &&& 31))) (k3_4 + 1) (by omega) (by omega)
          · rw [if_neg c_26]
            refine j_iinc F dX1_lastAmong_35 38 rfl 3 rfl (nI (k3_4 + 1)) (nI_inc k3_4) (by decide) [(3, .int (nI (k3_4 + 1))), (0, .ref (D.2.1 g)), (1, .int a1), (2, .int x2_4)] rfl ?_
            refine j_goto F dX1_lastAmong_38 4 (by decide) ?_
            refine j_pick [1, 2, 3, 0] [(0, .ref (D.2.1 g)), (1, .int a1), (2, .int x2_4), (3, .int (nI (k3_4 + 1)))] rfl ?_
            exact ih_4 x2_4 (k3_4 + 1) (by omega) (by omega)
        · rw [if_pos c_15]
          refine j_iinc F dX1_lastAmong_35 38 rfl 3 rfl (nI (k3_4 + 1)) (nI_inc k3_4) (by decide) [(3, .int (nI (k3_4 + 1))), (0, .ref (D.2.1 g)), (1, .int a1), (2, .int x2_4)] rfl ?_
          refine j_goto F dX1_lastAmong_38 4 (by decide) ?_
          refine j_pick [1, 2, 3, 0] [(0, .ref (D.2.1 g)), (1, .int a1), (2, .int x2_4), (3, .int (nI (k3_4 + 1)))] rfl ?_
          exact ih_4 x2_4 (k3_4 + 1) (by omega) (by omega)
      · rw [if_neg c_7]
        refine j_iload_n F dX1_lastAmong_41 42 rfl 2 rfl ?_
        exact j_ret_i F dX1_lastAmong_42 rfl rfl rfl
  refine j_pick [2, 3, 1, 0] [(0, .ref (D.2.1 g)), (1, .int a1), (2, .int 0), (3, .int 0)] rfl ?_
  exact lp_4 9 0 0 (by omega) (by omega)
def fX1_learn_60 (g : Nat) (h1 : Nat) (kb2 : Mm → Nat → Mm) (s_60 : Mm) (k2_60 : Nat) (b3_60 : Bool) (xt0_60 : Int32) (kt1_60 : Nat) : Mm := if b3_60 = true then (kb2 (up (up s_60 (g + 2) kt1_60 xt0_60) (g + 3) k2_60 (fX2_figure (up s_60 (g + 2) kt1_60 xt0_60) h1 (nI k2_60) 6)) (k2_60 + 1)) else (kb2 (up (up s_60 (g + 2) kt1_60 xt0_60) (g + 3) k2_60 0) (k2_60 + 1))
def fX1_learn_40 (g : Nat) (h1 : Nat) (kb2 : Mm → Nat → Mm) (s_40 : Mm) (k2_40 : Nat) (b3_40 : Bool) (xt0_40 : Int32) (kt1_40 : Nat) : Mm := if b3_40 = true then (fX1_learn_60 g h1 kb2 (up s_40 (g + 1) kt1_40 xt0_40) k2_40 b3_40 (fX2_figure (up s_40 (g + 1) kt1_40 xt0_40) h1 (nI k2_40) 5) k2_40) else (fX1_learn_60 g h1 kb2 (up s_40 (g + 1) kt1_40 xt0_40) k2_40 b3_40 0 k2_40)
def fX1_learn_2 (g : Nat) (h1 : Nat)  : Nat → Mm → Nat → Mm
  | 0, s_2, _ => s_2
  | n + 1, s_2, k2_2 => if (nI k2_2) < 8 then (if (fX2_has s_2 h1 (nI k2_2)) = true then (fX1_learn_40 g h1 (fX1_learn_2 g h1 n) s_2 k2_2 (fX2_has s_2 h1 (nI k2_2)) (fX2_alikeTo s_2 h1 (nI k2_2) (s_2.1 h1 2) (fX2_all s_2 h1)) k2_2) else (fX1_learn_40 g h1 (fX1_learn_2 g h1 n) s_2 k2_2 (fX2_has s_2 h1 (nI k2_2)) 0 k2_2)) else (s_2)
def fX1_learn (σ : Mm) (g : Nat) (h1 : Nat) : Mm := fX1_learn_2 g h1 9 σ 0
set_option maxRecDepth 20000 in
theorem kX1_learn (l : Launch) (D : Dm) (g : Nat) (h1 : Nat) (σ : Mm) (hg : gdP g) (hh1 : hsP h1) : Ct l yX1_learn cX1_learn 4 none 4 D [.ref (D.2.1 g), .ref (D.2.1 h1)] σ (none, fX1_learn σ g h1) := by
  refine ct_of (by decide +kernel) (Nat.le_of_ble_eq_true rfl) (fun X F => ?_)
  have F : Fx X l 4 D cX1_learn RX1 4 none := F
  show JJ X 4 D σ 0 [(0, .ref (D.2.1 g)), (1, .ref (D.2.1 h1))] [] (QQ X D (none, fX1_learn σ g h1))
  rw [fX1_learn]
  refine j_iconst (v := 0) F dX1_learn_0 1 rfl (by decide) ?_
  refine j_istore_n F dX1_learn_1 2 rfl 2 rfl (by decide) [(2, .int 0), (0, .ref (D.2.1 g)), (1, .ref (D.2.1 h1))] rfl ?_
  have lp_2 : ∀ (n_2 : Nat) (s_2 : Mm) (k2_2 : Nat), k2_2 ≤ 8 → 8 < k2_2 + n_2 → JJ X 4 D s_2 2 [(0, .ref (D.2.1 g)), (1, .ref (D.2.1 h1)), (2, .int (nI k2_2))] [] (QQ X D (none, fX1_learn_2 g h1 n_2 s_2 k2_2)) := by
    intro n_2
    induction n_2 with
    | zero => intro s_2 k2_2 hk_2 hn_2; exact absurd hn_2 (by omega)
    | succ n_2 ih_2 =>
      intro s_2 k2_2 hk_2 hn_2
      rw [fX1_learn_2]
      refine j_iload_n F dX1_learn_2 3 rfl 2 rfl ?_
      refine j_bipush (v := 8) F dX1_learn_3 5 rfl (by decide) ?_
      refine j_icmp_ge F dX1_learn_5 88 (by decide) 8 rfl (fun c_5 => ?_) (fun c_5 => ?_)
      · rw [if_pos c_5]
        have h_5 : k2_2 < 8 := nlt c_5 (by decide) (by omega)
        refine j_aload_n F dX1_learn_8 9 rfl 1 rfl ?_
        refine j_iload_n F dX1_learn_9 10 rfl 2 rfl ?_
        refine j_callVr (as := [.int (nI k2_2)]) (st := []) (r := .int (bi (fX2_has s_2 h1 (nI k2_2)))) (σ9 := s_2) F zX2_has dX1_learn_10 13 rfl pX2_has rfl (by decide) (by decide) (Nat.le_of_ble_eq_true rfl) rfl qX1_21 rfl rfl (hsP.lt hh1) (shH hh1) (kX2_has l D h1 (nI k2_2) s_2 hh1) ?_
        refine j_istore_n F dX1_learn_13 14 rfl 3 rfl (by decide) [(3, .int (bi (fX2_has s_2 h1 (nI k2_2)))), (0, .ref (D.2.1 g)), (1, .ref (D.2.1 h1)), (2, .int (nI k2_2))] rfl ?_
        refine j_aload_n F dX1_learn_14 15 rfl 1 rfl ?_
        refine j_get (j := 0) F dX1_learn_15 18 rfl inX1 rfl (gdP.lt hg) (shG hg) (by decide) qX1_9 rfl ?_
        refine j_iload_n F dX1_learn_18 19 rfl 3 rfl ?_
        refine j_iload_n F dX1_learn_19 20 rfl 0 rfl ?_
        have jn_40 : ∀ (xt0_40 : Int32), JJ X 4 D s_2 40 [(0, .ref (D.2.1 g)), (1, .ref (D.2.1 h1)), (2, .int (nI k2_2)), (3, .int (bi (fX2_has s_2 h1 (nI k2_2))))] [.int xt0_40, .int (nI k2_2), .ref (D.2.1 (g + 1))] (QQ X D (none, fX1_learn_40 g h1 (fX1_learn_2 g h1 n_2) s_2 k2_2 (fX2_has s_2 h1 (nI k2_2)) xt0_40 k2_2)) := by
          intro xt0_40
          rw [fX1_learn_40]
          refine j_iast_n F dX1_learn_40 41 rfl (iaG1 hg) k2_2 rfl (by omega) ?_
          refine j_aload_n F dX1_learn_41 42 rfl 0 rfl ?_
          refine j_get (j := 1) F dX1_learn_42 45 rfl inX1 rfl (gdP.lt hg) (shG hg) (by decide) qX1_15 rfl ?_
          refine j_iload_n F dX1_learn_45 46 rfl 2 rfl ?_
          refine j_iload_n F dX1_learn_46 47 rfl 3 rfl ?_
          have jn_60 : ∀ (xt0_60 : Int32), JJ X 4 D (up s_2 (g + 1) k2_2 xt0_40) 60 [(0, .ref (D.2.1 g)), (1, .ref (D.2.1 h1)), (2, .int (nI k2_2)), (3, .int (bi (fX2_has s_2 h1 (nI k2_2))))] [.int xt0_60, .int (nI k2_2), .ref (D.2.1 (g + 2))] (QQ X D (none, fX1_learn_60 g h1 (fX1_learn_2 g h1 n_2) (up s_2 (g + 1) k2_2 xt0_40) k2_2 (fX2_has s_2 h1 (nI k2_2)) xt0_60 k2_2)) := by
            intro xt0_60
            rw [fX1_learn_60]
            refine j_iast_n F dX1_learn_60 61 rfl (iaG2 hg) k2_2 rfl (by omega) ?_
            refine j_aload_n F dX1_learn_61 62 rfl 0 rfl ?_
            refine j_get (j := 2) F dX1_learn_62 65 rfl inX1 rfl (gdP.lt hg) (shG hg) (by decide) qX1_18 rfl ?_
            refine j_iload_n F dX1_learn_65 66 rfl 2 rfl ?_
            refine j_iload_n F dX1_learn_66 67 rfl 3 rfl ?_
            refine j_ifb_eq F dX1_learn_67 80 (by decide) 70 rfl (fun c_67 => ?_) (fun c_67 => ?_)
            · rw [if_pos c_67]
              refine j_aload_n F dX1_learn_70 71 rfl 1 rfl ?_
              refine j_iload_n F dX1_learn_71 72 rfl 2 rfl ?_
              refine j_bipush (v := 6) F dX1_learn_72 74 rfl (by decide) ?_
              refine j_callVr (as := [.int (nI k2_2), .int 6]) (st := [.int (nI k2_2), .ref (D.2.1 (g + 3))]) (r := .int (fX2_figure (up (up s_2 (g + 1) k2_2 xt0_40) (g + 2) k2_2 xt0_60) h1 (nI k2_2) 6)) (σ9 := (up (up s_2 (g + 1) k2_2 xt0_40) (g + 2) k2_2 xt0_60)) F zX2_figure dX1_learn_74 77 rfl pX2_figure rfl (by decide) (by decide) (Nat.le_of_ble_eq_true rfl) rfl qX1_39 rfl rfl (hsP.lt hh1) (shH hh1) (kX2_figure l D h1 (nI k2_2) 6 (up (up s_2 (g + 1) k2_2 xt0_40) (g + 2) k2_2 xt0_60) hh1) ?_
              refine j_goto F dX1_learn_77 81 (by decide) ?_
              refine j_iast_n F dX1_learn_81 82 rfl (iaG3 hg) k2_2 rfl (by omega) ?_
              refine j_iinc F dX1_learn_82 85 rfl 2 rfl (nI (k2_2 + 1)) (nI_inc k2_2) (by decide) [(2, .int (nI (k2_2 + 1))), (0, .ref (D.2.1 g)), (1, .ref (D.2.1 h1)), (3, .int (bi (fX2_has s_2 h1 (nI k2_2))))] rfl ?_
              refine j_goto F dX1_learn_85 2 (by decide) ?_
              refine j_pick [1, 2, 0] [(0, .ref (D.2.1 g)), (1, .ref (D.2.1 h1)), (2, .int (nI (k2_2 + 1)))] rfl ?_
              exact ih_2 (up (up (up s_2 (g + 1) k2_2 xt0_40) (g + 2) k2_2 xt0_60) (g + 3) k2_2 (fX2_figure (up (up s_2 (g + 1) k2_2 xt0_40) (g + 2) k2_2 xt0_60) h1 (nI k2_2) 6)) (k2_2 + 1) (by omega) (by omega)
            · rw [if_neg c_67]
              refine j_iconst (v := 0) F dX1_learn_80 81 rfl (by decide) ?_
              refine j_iast_n F dX1_learn_81 82 rfl (iaG3 hg) k2_2 rfl (by omega) ?_
              refine j_iinc F dX1_learn_82 85 rfl 2 rfl (nI (k2_2 + 1)) (nI_inc k2_2) (by decide) [(2, .int (nI (k2_2 + 1))), (0, .ref (D.2.1 g)), (1, .ref (D.2.1 h1)), (3, .int (bi (fX2_has s_2 h1 (nI k2_2))))] rfl ?_
              refine j_goto F dX1_learn_85 2 (by decide) ?_
              refine j_pick [1, 2, 0] [(0, .ref (D.2.1 g)), (1, .ref (D.2.1 h1)), (2, .int (nI (k2_2 + 1)))] rfl ?_
              exact ih_2 (up (up (up s_2 (g + 1) k2_2 xt0_40) (g + 2) k2_2 xt0_60) (g + 3) k2_2 0) (k2_2 + 1) (by omega) (by omega)
          refine j_ifb_eq F dX1_learn_47 59 (by decide) 50 rfl (fun c_47 => ?_) (fun c_47 => ?_)
          · rw [if_pos c_47]
            refine j_aload_n F dX1_learn_50 51 rfl 1 rfl ?_
            refine j_iload_n F dX1_learn_51 52 rfl 2 rfl ?_
            refine j_iconst (v := 5) F dX1_learn_52 53 rfl (by decide) ?_
            refine j_callVr (as := [.int (nI k2_2), .int 5]) (st := [.int (nI k2_2), .ref (D.2.1 (g + 2))]) (r := .int (fX2_figure (up s_2 (g + 1) k2_2 xt0_40) h1 (nI k2_2) 5)) (σ9 := (up s_2 (g + 1) k2_2 xt0_40)) F zX2_figure dX1_learn_53 56 rfl pX2_figure rfl (by decide) (by decide) (Nat.le_of_ble_eq_true rfl) rfl qX1_39 rfl rfl (hsP.lt hh1) (shH hh1) (kX2_figure l D h1 (nI k2_2) 5 (up s_2 (g + 1) k2_2 xt0_40) hh1) ?_
            refine j_goto F dX1_learn_56 60 (by decide) ?_
            exact jn_60 (fX2_figure (up s_2 (g + 1) k2_2 xt0_40) h1 (nI k2_2) 5)
          · rw [if_neg c_47]
            refine j_iconst (v := 0) F dX1_learn_59 60 rfl (by decide) ?_
            exact jn_60 0
        refine j_ifb_eq F dX1_learn_20 39 (by decide) 23 rfl (fun c_20 => ?_) (fun c_20 => ?_)
        · rw [if_pos c_20]
          refine j_aload_n F dX1_learn_23 24 rfl 2 rfl ?_
          refine j_iload_n F dX1_learn_24 25 rfl 3 rfl ?_
          refine j_aload_n F dX1_learn_25 26 rfl 2 rfl ?_
          refine j_get (j := 2) F dX1_learn_26 29 rfl inX2 rfl (hsP.lt hh1) (shH hh1) (by decide) qX1_27 rfl ?_
          refine j_aload_n F dX1_learn_29 30 rfl 2 rfl ?_
          refine j_callVr (as := []) (st := [.int (s_2.1 h1 2), .int (nI k2_2), .ref (D.2.1 h1), .int (nI k2_2), .ref (D.2.1 (g + 1))]) (r := .int (fX2_all s_2 h1)) (σ9 := s_2) F zX2_all dX1_learn_30 33 rfl pX2_all rfl (by decide) (by decide) (Nat.le_of_ble_eq_true rfl) rfl qX1_31 rfl rfl (hsP.lt hh1) (shH hh1) (kX2_all l D h1 s_2 hh1) ?_
          refine j_callVr (as := [.int (nI k2_2), .int (s_2.1 h1 2), .int (fX2_all s_2 h1)]) (st := [.int (nI k2_2), .ref (D.2.1 (g + 1))]) (r := .int (fX2_alikeTo s_2 h1 (nI k2_2) (s_2.1 h1 2) (fX2_all s_2 h1))) (σ9 := s_2) F zX2_alikeTo dX1_learn_33 36 rfl pX2_alikeTo rfl (by decide) (by decide) (Nat.le_of_ble_eq_true rfl) rfl qX1_35 rfl rfl (hsP.lt hh1) (shH hh1) (kX2_alikeTo l D h1 (nI k2_2) (s_2.1 h1 2) (fX2_all s_2 h1) s_2 hh1) ?_
          refine j_goto F dX1_learn_36 40 (by decide) ?_
          refine j_pick [1, 2, 3, 0] [(0, .ref (D.2.1 g)), (1, .ref (D.2.1 h1)), (2, .int (nI k2_2)), (3, .int (bi (fX2_has s_2 h1 (nI k2_2))))] rfl ?_
          exact jn_40 (fX2_alikeTo s_2 h1 (nI k2_2) (s_2.1 h1 2) (fX2_all s_2 h1))
        · rw [if_neg c_20]
          refine j_iconst (v := 0) F dX1_learn_39 40 rfl (by decide) ?_
          refine j_pick [1, 2, 3, 0] [(0, .ref (D.2.1 g)), (1, .ref (D.2.1 h1)), (2, .int (nI k2_2)), (3, .int (bi (fX2_has s_2 h1 (nI k2_2))))] rfl ?_
          exact jn_40 0
      · rw [if_neg c_5]
        exact j_ret_v F dX1_learn_88 rfl rfl rfl
  refine j_pick [1, 2, 0] [(0, .ref (D.2.1 g)), (1, .ref (D.2.1 h1)), (2, .int 0)] rfl ?_
  exact lp_2 9 σ 0 (by omega) (by omega)
def fX1_pricesAmong_5 (σ : Mm) (g : Nat) (a1 : Int32) (a2 : Int32)  : Nat → Int32 → Nat → Int32
  | 0, _, _ => 0
  | n + 1, x3_5, k4_5 => if (nI k4_5) < 8 then (if ((a1 &&& a2) &&& (1 <<< ((nI k4_5) &&& 31))) = 0 then (fX1_pricesAmong_5 σ g a1 a2 n x3_5 (k4_5 + 1)) else (fX1_pricesAmong_5 σ g a1 a2 n (x3_5 + (fX2_shareOf (σ.1 (g + 2) k4_5) (((σ.1 (g + 1) k4_5) &&& a2) ||| (1 <<< ((nI k4_5) &&& 31))))) (k4_5 + 1))) else (x3_5)
def fX1_pricesAmong (σ : Mm) (g : Nat) (a1 : Int32) (a2 : Int32) : Int32 := fX1_pricesAmong_5 σ g a1 a2 9 0 0
set_option maxRecDepth 20000 in
theorem kX1_pricesAmong (l : Launch) (D : Dm) (g : Nat) (a1 : Int32) (a2 : Int32) (σ : Mm) (hg : gdP g) : Ct l yX1_pricesAmong cX1_pricesAmong 5 (some .int) 3 D [.ref (D.2.1 g), .int a1, .int a2] σ (some (.int (fX1_pricesAmong σ g a1 a2)), σ) := by
  refine ct_of (by decide +kernel) (Nat.le_of_ble_eq_true rfl) (fun X F => ?_)
  have F : Fx X l 5 D cX1_pricesAmong RX1 3 (some .int) := F
  show JJ X 5 D σ 0 [(0, .ref (D.2.1 g)), (1, .int a1), (2, .int a2)] [] (QQ X D (some (.int (fX1_pricesAmong σ g a1 a2)), σ))
  rw [fX1_pricesAmong]
  refine j_iconst (v := 0) F dX1_pricesAmong_0 1 rfl (by decide) ?_
  refine j_istore_n F dX1_pricesAmong_1 2 rfl 3 rfl (by decide) [(3, .int 0), (0, .ref (D.2.1 g)), (1, .int a1), (2, .int a2)] rfl ?_
  refine j_iconst (v := 0) F dX1_pricesAmong_2 3 rfl (by decide) ?_
  refine j_istore F dX1_pricesAmong_3 5 rfl (by decide) [(4, .int 0), (3, .int 0), (0, .ref (D.2.1 g)), (1, .int a1), (2, .int a2)] rfl ?_
  have lp_5 : ∀ (n_5 : Nat) (x3_5 : Int32) (k4_5 : Nat), k4_5 ≤ 8 → 8 < k4_5 + n_5 → JJ X 5 D σ 5 [(0, .ref (D.2.1 g)), (1, .int a1), (2, .int a2), (3, .int x3_5), (4, .int (nI k4_5))] [] (QQ X D (some (.int (fX1_pricesAmong_5 σ g a1 a2 n_5 x3_5 k4_5)), σ)) := by
    intro n_5
    induction n_5 with
    | zero => intro x3_5 k4_5 hk_5 hn_5; exact absurd hn_5 (by omega)
    | succ n_5 ih_5 =>
      intro x3_5 k4_5 hk_5 hn_5
      rw [fX1_pricesAmong_5]
      refine j_iload F dX1_pricesAmong_5 7 rfl 4 rfl ?_
      refine j_bipush (v := 8) F dX1_pricesAmong_7 9 rfl (by decide) ?_
      refine j_icmp_ge F dX1_pricesAmong_9 56 (by decide) 12 rfl (fun c_9 => ?_) (fun c_9 => ?_)
      · rw [if_pos c_9]
        have h_9 : k4_5 < 8 := nlt c_9 (by decide) (by omega)
        refine j_iload_n F dX1_pricesAmong_12 13 rfl 1 rfl ?_
        refine j_iload_n F dX1_pricesAmong_13 14 rfl 2 rfl ?_
        refine j_iand F dX1_pricesAmong_14 15 rfl ?_
        refine j_iconst (v := 1) F dX1_pricesAmong_15 16 rfl (by decide) ?_
        refine j_iload F dX1_pricesAmong_16 18 rfl 4 rfl ?_
        refine j_ishl F dX1_pricesAmong_18 19 rfl ?_
        refine j_iand F dX1_pricesAmong_19 20 rfl ?_
        refine j_if_eq F dX1_pricesAmong_20 50 (by decide) 23 rfl (fun c_20 => ?_) (fun c_20 => ?_)
        · rw [if_neg c_20]
          refine j_iload_n F dX1_pricesAmong_23 24 rfl 3 rfl ?_
          refine j_aload_n F dX1_pricesAmong_24 25 rfl 0 rfl ?_
          refine j_get (j := 1) F dX1_pricesAmong_25 28 rfl inX1 rfl (gdP.lt hg) (shG hg) (by decide) qX1_15 rfl ?_
          refine j_iload F dX1_pricesAmong_28 30 rfl 4 rfl ?_
          refine j_iald_n F dX1_pricesAmong_30 31 rfl (iaG2 hg) k4_5 rfl (by omega) ?_
          refine j_aload_n F dX1_pricesAmong_31 32 rfl 0 rfl ?_
          refine j_get (j := 0) F dX1_pricesAmong_32 35 rfl inX1 rfl (gdP.lt hg) (shG hg) (by decide) qX1_9 rfl ?_
          refine j_iload F dX1_pricesAmong_35 37 rfl 4 rfl ?_
          refine j_iald_n F dX1_pricesAmong_37 38 rfl (iaG1 hg) k4_5 rfl (by omega) ?_
          refine j_iload_n F dX1_pricesAmong_38 39 rfl 2 rfl ?_
          refine j_iand F dX1_pricesAmong_39 40 rfl ?_
          refine j_iconst (v := 1) F dX1_pricesAmong_40 41 rfl (by decide) ?_
          refine j_iload F dX1_pricesAmong_41 43 rfl 4 rfl ?_
          refine j_ishl F dX1_pricesAmong_43 44 rfl ?_
          refine j_ior F dX1_pricesAmong_44 45 rfl ?_
          refine j_callSr (as := [.int (σ.1 (g + 2) k4_5), .int (((σ.1 (g + 1) k4_5) &&& a2) ||| (1 <<< ((nI k4_5) &&& 31)))]) (st := [.int x3_5]) (r := .int (fX2_shareOf (σ.1 (g + 2) k4_5) (((σ.1 (g + 1) k4_5) &&& a2) ||| (1 <<< ((nI k4_5) &&& 31))))) (σ9 := σ) F zX2_shareOf dX1_pricesAmong_45 48 rfl pX2_shareOf rfl (by decide) (by decide) (Nat.le_of_ble_eq_true rfl) rfl qX1_47 (kX2_shareOf l D (σ.1 (g + 2) k4_5) (((σ.1 (g + 1) k4_5) &&& a2) ||| (1 <<< ((nI k4_5) &&& 31))) σ) ?_
          refine j_iadd F dX1_pricesAmong_48 49 rfl ?_
          refine j_istore_n F dX1_pricesAmong_49 50 rfl 3 rfl (by decide) [(3, .int (x3_5 + (fX2_shareOf (σ.1 (g + 2) k4_5) (((σ.1 (g + 1) k4_5) &&& a2) ||| (1 <<< ((nI k4_5) &&& 31)))))), (0, .ref (D.2.1 g)), (1, .int a1), (2, .int a2), (4, .int (nI k4_5))] rfl ?_
          refine j_iinc F dX1_pricesAmong_50 53 rfl 4 rfl (nI (k4_5 + 1)) (nI_inc k4_5) (by decide) [(4, .int (nI (k4_5 + 1))), (3, .int (x3_5 + (fX2_shareOf (σ.1 (g + 2) k4_5) (((σ.1 (g + 1) k4_5) &&& a2) ||| (1 <<< ((nI k4_5) &&& 31)))))), (0, .ref (D.2.1 g)), (1, .int a1), (2, .int a2)] rfl ?_
          refine j_goto F dX1_pricesAmong_53 5 (by decide) ?_
          refine j_pick [2, 3, 4, 1, 0] [(0, .ref (D.2.1 g)), (1, .int a1), (2, .int a2), (3, .int (x3_5 + (fX2_shareOf (σ.1 (g + 2) k4_5) (((σ.1 (g + 1) k4_5) &&& a2) ||| (1 <<< ((nI k4_5) &&& 31)))))), (4, .int (nI (k4_5 + 1)))] rfl ?_
          exact ih_5 (x3_5 + (fX2_shareOf (σ.1 (g + 2) k4_5) (((σ.1 (g + 1) k4_5) &&& a2) ||| (1 <<< ((nI k4_5) &&& 31))))) (k4_5 + 1) (by omega) (by omega)
        · rw [if_pos c_20]
          refine j_iinc F dX1_pricesAmong_50 53 rfl 4 rfl (nI (k4_5 + 1)) (nI_inc k4_5) (by decide) [(4, .int (nI (k4_5 + 1))), (0, .ref (D.2.1 g)), (1, .int a1), (2, .int a2), (3, .int x3_5)] rfl ?_
          refine j_goto F dX1_pricesAmong_53 5 (by decide) ?_
          refine j_pick [1, 2, 3, 4, 0] [(0, .ref (D.2.1 g)), (1, .int a1), (2, .int a2), (3, .int x3_5), (4, .int (nI (k4_5 + 1)))] rfl ?_
          exact ih_5 x3_5 (k4_5 + 1) (by omega) (by omega)
      · rw [if_neg c_9]
        refine j_iload_n F dX1_pricesAmong_56 57 rfl 3 rfl ?_
        exact j_ret_i F dX1_pricesAmong_57 rfl rfl rfl
  refine j_pick [2, 3, 4, 1, 0] [(0, .ref (D.2.1 g)), (1, .int a1), (2, .int a2), (3, .int 0), (4, .int 0)] rfl ?_
  exact lp_5 9 0 0 (by omega) (by omega)
def fX1_worth (σ : Mm) (g : Nat) (a1 : Int32) : Int32 := (fX9_at σ (g + 2) 8 a1)
set_option maxRecDepth 20000 in
theorem kX1_worth (l : Launch) (D : Dm) (g : Nat) (a1 : Int32) (σ : Mm) (hg : gdP g) : Ct l yX1_worth cX1_worth 2 (some .int) 2 D [.ref (D.2.1 g), .int a1] σ (some (.int (fX1_worth σ g a1)), σ) := by
  refine ct_of (by decide +kernel) (Nat.le_of_ble_eq_true rfl) (fun X F => ?_)
  have F : Fx X l 2 D cX1_worth RX1 2 (some .int) := F
  show JJ X 2 D σ 0 [(0, .ref (D.2.1 g)), (1, .int a1)] [] (QQ X D (some (.int (fX1_worth σ g a1)), σ))
  rw [fX1_worth]
  refine j_aload_n F dX1_worth_0 1 rfl 0 rfl ?_
  refine j_get (j := 1) F dX1_worth_1 4 rfl inX1 rfl (gdP.lt hg) (shG hg) (by decide) qX1_15 rfl ?_
  refine j_iload_n F dX1_worth_4 5 rfl 1 rfl ?_
  refine j_callSNr (as := [.ref (D.2.1 (g + 2)), .int a1]) (st := []) (r := .int (fX9_at σ (g + 2) 8 a1)) (σ9 := σ) F zX9_at dX1_worth_5 8 rfl pX9_at rfl (by decide) (by decide) (Nat.le_of_ble_eq_true rfl) rfl qX1_43 (kX9_at l D (g + 2) 8 a1 σ (iaG2 hg)) ?_
  exact j_ret_i F dX1_worth_8 rfl rfl rfl
def fX5_costToBreak_4 (σ : Mm) (h1 : Nat) (a2 : Int32)  : Nat → Int32 → Nat → Int32
  | 0, _, _ => 0
  | n + 1, x2_4, k3_4 => if (nI k3_4) < 8 then (if (fX9_holds a2 (nI k3_4)) = true then (if (fX9_holds (σ.1 h1 4) (nI k3_4)) = true then (fX5_costToBreak_4 σ h1 a2 n (x2_4 + ((fX2_figure σ h1 (nI k3_4) 6) + 5)) (k3_4 + 1)) else (fX5_costToBreak_4 σ h1 a2 n (x2_4 + ((fX2_figure σ h1 (nI k3_4) 6) + 0)) (k3_4 + 1))) else (fX5_costToBreak_4 σ h1 a2 n x2_4 (k3_4 + 1))) else (x2_4)
def fX5_costToBreak (σ : Mm) (h1 : Nat) (a2 : Int32) : Int32 := fX5_costToBreak_4 σ h1 a2 9 0 0
set_option maxRecDepth 20000 in
theorem kX5_costToBreak (l : Launch) (D : Dm) (h1 : Nat) (a2 : Int32) (σ : Mm) (hh1 : hsP h1) : Ct l yX5_costToBreak cX5_costToBreak 4 (some .int) 3 D [.ref (D.2.1 h1), .int a2] σ (some (.int (fX5_costToBreak σ h1 a2)), σ) := by
  refine ct_of (by decide +kernel) (Nat.le_of_ble_eq_true rfl) (fun X F => ?_)
  have F : Fx X l 4 D cX5_costToBreak RX5 3 (some .int) := F
  show JJ X 4 D σ 0 [(0, .ref (D.2.1 h1)), (1, .int a2)] [] (QQ X D (some (.int (fX5_costToBreak σ h1 a2)), σ))
  rw [fX5_costToBreak]
  refine j_iconst (v := 0) F dX5_costToBreak_0 1 rfl (by decide) ?_
  refine j_istore_n F dX5_costToBreak_1 2 rfl 2 rfl (by decide) [(2, .int 0), (0, .ref (D.2.1 h1)), (1, .int a2)] rfl ?_
  refine j_iconst (v := 0) F dX5_costToBreak_2 3 rfl (by decide) ?_
  refine j_istore_n F dX5_costToBreak_3 4 rfl 3 rfl (by decide) [(3, .int 0), (2, .int 0), (0, .ref (D.2.1 h1)), (1, .int a2)] rfl ?_
  have lp_4 : ∀ (n_4 : Nat) (x2_4 : Int32) (k3_4 : Nat), k3_4 ≤ 8 → 8 < k3_4 + n_4 → JJ X 4 D σ 4 [(0, .ref (D.2.1 h1)), (1, .int a2), (2, .int x2_4), (3, .int (nI k3_4))] [] (QQ X D (some (.int (fX5_costToBreak_4 σ h1 a2 n_4 x2_4 k3_4)), σ)) := by
    intro n_4
    induction n_4 with
    | zero => intro x2_4 k3_4 hk_4 hn_4; exact absurd hn_4 (by omega)
    | succ n_4 ih_4 =>
      intro x2_4 k3_4 hk_4 hn_4
      rw [fX5_costToBreak_4]
      refine j_iload_n F dX5_costToBreak_4 5 rfl 3 rfl ?_
      refine j_bipush (v := 8) F dX5_costToBreak_5 7 rfl (by decide) ?_
      refine j_icmp_ge F dX5_costToBreak_7 51 (by decide) 10 rfl (fun c_7 => ?_) (fun c_7 => ?_)
      · rw [if_pos c_7]
        have h_7 : k3_4 < 8 := nlt c_7 (by decide) (by omega)
        refine j_iload_n F dX5_costToBreak_10 11 rfl 1 rfl ?_
        refine j_iload_n F dX5_costToBreak_11 12 rfl 3 rfl ?_
        refine j_callSNr (as := [.int a2, .int (nI k3_4)]) (st := []) (r := .int (bi (fX9_holds a2 (nI k3_4)))) (σ9 := σ) F zX9_holds dX5_costToBreak_12 15 rfl pX9_holds rfl (by decide) (by decide) (Nat.le_of_ble_eq_true rfl) rfl qX5_63 (kX9_holds l D a2 (nI k3_4) σ) ?_
        refine j_ifb_eq F dX5_costToBreak_15 45 (by decide) 18 rfl (fun c_15 => ?_) (fun c_15 => ?_)
        · rw [if_pos c_15]
          refine j_iload_n F dX5_costToBreak_18 19 rfl 2 rfl ?_
          refine j_aload_n F dX5_costToBreak_19 20 rfl 0 rfl ?_
          refine j_iload_n F dX5_costToBreak_20 21 rfl 3 rfl ?_
          refine j_bipush (v := 6) F dX5_costToBreak_21 23 rfl (by decide) ?_
          refine j_callVr (as := [.int (nI k3_4), .int 6]) (st := [.int x2_4]) (r := .int (fX2_figure σ h1 (nI k3_4) 6)) (σ9 := σ) F zX2_figure dX5_costToBreak_23 26 rfl pX2_figure rfl (by decide) (by decide) (Nat.le_of_ble_eq_true rfl) rfl qX5_67 rfl rfl (hsP.lt hh1) (shH hh1) (kX2_figure l D h1 (nI k3_4) 6 σ hh1) ?_
          refine j_aload_n F dX5_costToBreak_26 27 rfl 0 rfl ?_
          refine j_get (j := 4) F dX5_costToBreak_27 30 rfl inX2 rfl (hsP.lt hh1) (shH hh1) (by decide) qX5_70 rfl ?_
          refine j_iload_n F dX5_costToBreak_30 31 rfl 3 rfl ?_
          refine j_callSNr (as := [.int (σ.1 h1 4), .int (nI k3_4)]) (st := [.int (fX2_figure σ h1 (nI k3_4) 6), .int x2_4]) (r := .int (bi (fX9_holds (σ.1 h1 4) (nI k3_4)))) (σ9 := σ) F zX9_holds dX5_costToBreak_31 34 rfl pX9_holds rfl (by decide) (by decide) (Nat.le_of_ble_eq_true rfl) rfl qX5_63 (kX9_holds l D (σ.1 h1 4) (nI k3_4) σ) ?_
          refine j_ifb_eq F dX5_costToBreak_34 41 (by decide) 37 rfl (fun c_34 => ?_) (fun c_34 => ?_)
          · rw [if_pos c_34]
            refine j_iconst (v := 5) F dX5_costToBreak_37 38 rfl (by decide) ?_
            refine j_goto F dX5_costToBreak_38 42 (by decide) ?_
            refine j_iadd F dX5_costToBreak_42 43 rfl ?_
            refine j_iadd F dX5_costToBreak_43 44 rfl ?_
            refine j_istore_n F dX5_costToBreak_44 45 rfl 2 rfl (by decide) [(2, .int (x2_4 + ((fX2_figure σ h1 (nI k3_4) 6) + 5))), (0, .ref (D.2.1 h1)), (1, .int a2), (3, .int (nI k3_4))] rfl ?_
            refine j_iinc F dX5_costToBreak_45 48 rfl 3 rfl (nI (k3_4 + 1)) (nI_inc k3_4) (by decide) [(3, .int (nI (k3_4 + 1))), (2, .int (x2_4 + ((fX2_figure σ h1 (nI k3_4) 6) + 5))), (0, .ref (D.2.1 h1)), (1, .int a2)] rfl ?_
            refine j_goto F dX5_costToBreak_48 4 (by decide) ?_
            refine j_pick [2, 3, 1, 0] [(0, .ref (D.2.1 h1)), (1, .int a2), (2, .int (x2_4 + ((fX2_figure σ h1 (nI k3_4) 6) + 5))), (3, .int (nI (k3_4 + 1)))] rfl ?_
            exact ih_4 (x2_4 + ((fX2_figure σ h1 (nI k3_4) 6) + 5)) (k3_4 + 1) (by omega) (by omega)
          · rw [if_neg c_34]
            refine j_iconst (v := 0) F dX5_costToBreak_41 42 rfl (by decide) ?_
            refine j_iadd F dX5_costToBreak_42 43 rfl ?_
            refine j_iadd F dX5_costToBreak_43 44 rfl ?_
            refine j_istore_n F dX5_costToBreak_44 45 rfl 2 rfl (by decide) [(2, .int (x2_4 + ((fX2_figure σ h1 (nI k3_4) 6) + 0))), (0, .ref (D.2.1 h1)), (1, .int a2), (3, .int (nI k3_4))] rfl ?_
            refine j_iinc F dX5_costToBreak_45 48 rfl 3 rfl (nI (k3_4 + 1)) (nI_inc k3_4) (by decide) [(3, .int (nI (k3_4 + 1))), (2, .int (x2_4 + ((fX2_figure σ h1 (nI k3_4) 6) + 0))), (0, .ref (D.2.1 h1)), (1, .int a2)] rfl ?_
            refine j_goto F dX5_costToBreak_48 4 (by decide) ?_
            refine j_pick [2, 3, 1, 0] [(0, .ref (D.2.1 h1)), (1, .int a2), (2, .int (x2_4 + ((fX2_figure σ h1 (nI k3_4) 6) + 0))), (3, .int (nI (k3_4 + 1)))] rfl ?_
            exact ih_4 (x2_4 + ((fX2_figure σ h1 (nI k3_4) 6) + 0)) (k3_4 + 1) (by omega) (by omega)
        · rw [if_neg c_15]
          refine j_iinc F dX5_costToBreak_45 48 rfl 3 rfl (nI (k3_4 + 1)) (nI_inc k3_4) (by decide) [(3, .int (nI (k3_4 + 1))), (0, .ref (D.2.1 h1)), (1, .int a2), (2, .int x2_4)] rfl ?_
          refine j_goto F dX5_costToBreak_48 4 (by decide) ?_
          refine j_pick [1, 2, 3, 0] [(0, .ref (D.2.1 h1)), (1, .int a2), (2, .int x2_4), (3, .int (nI (k3_4 + 1)))] rfl ?_
          exact ih_4 x2_4 (k3_4 + 1) (by omega) (by omega)
      · rw [if_neg c_7]
        refine j_iload_n F dX5_costToBreak_51 52 rfl 2 rfl ?_
        exact j_ret_i F dX5_costToBreak_52 rfl rfl rfl
  refine j_pick [2, 3, 1, 0] [(0, .ref (D.2.1 h1)), (1, .int a2), (2, .int 0), (3, .int 0)] rfl ?_
  exact lp_4 9 0 0 (by omega) (by omega)
def fX5_frees_42 (σ : Mm) (h1 : Nat) (a2 : Int32) (a3 : Int32) (kb15 : Nat → Bool) (k3_42 : Nat) (bt0_42 : Bool) : Bool := if bt0_42 = true then (if (σ.1 h1 2) ≤ (fJ6_bitCount (a3 &&& (fX2_sameMarks σ h1 a2 (nI k3_42)))) then (false) else (kb15 (k3_42 + 1))) else (kb15 (k3_42 + 1))
def fX5_frees_41 (σ : Mm) (h1 : Nat) (a2 : Int32) (a3 : Int32) (kb15 : Nat → Bool) (k3_41 : Nat) : Bool := fX5_frees_42 σ h1 a2 a3 kb15 k3_41 false
def fX5_frees_15 (σ : Mm) (h1 : Nat) (a2 : Int32) (a3 : Int32)  : Nat → Nat → Bool
  | 0, _ => false
  | n + 1, k3_15 => if (nI k3_15) < 8 then (if (nI k3_15) = a2 then (fX5_frees_41 σ h1 a2 a3 (fX5_frees_15 σ h1 a2 a3 n) k3_15) else (if (fX9_holds (fX2_shown σ h1) (nI k3_15)) = true then (fX5_frees_42 σ h1 a2 a3 (fX5_frees_15 σ h1 a2 a3 n) k3_15 true) else (fX5_frees_41 σ h1 a2 a3 (fX5_frees_15 σ h1 a2 a3 n) k3_15))) else (true)
def fX5_frees (σ : Mm) (h1 : Nat) (a2 : Int32) (a3 : Int32) : Bool := if (fJ6_bitCount a3) < (σ.1 h1 2) then (false) else (fX5_frees_15 σ h1 a2 a3 9 0)
set_option maxRecDepth 20000 in
theorem kX5_frees (l : Launch) (D : Dm) (h1 : Nat) (a2 : Int32) (a3 : Int32) (σ : Mm) (hh1 : hsP h1) : Ct l yX5_frees cX5_frees 5 (some .boolean) 4 D [.ref (D.2.1 h1), .int a2, .int a3] σ (some (.int (bi (fX5_frees σ h1 a2 a3))), σ) := by
  refine ct_of (by decide +kernel) (Nat.le_of_ble_eq_true rfl) (fun X F => ?_)
  have F : Fx X l 5 D cX5_frees RX5 4 (some .boolean) := F
  show JJ X 5 D σ 0 [(0, .ref (D.2.1 h1)), (1, .int a2), (2, .int a3)] [] (QQ X D (some (.int (bi (fX5_frees σ h1 a2 a3))), σ))
  rw [fX5_frees]
  refine j_iload_n F dX5_frees_0 1 rfl 2 rfl ?_
  refine j_callSr (as := [.int a3]) (st := []) (r := .int (fJ6_bitCount a3)) (σ9 := σ) F zJ6_bitCount dX5_frees_1 4 rfl pJ6_bitCount rfl (by decide) (by decide) (Nat.le_of_ble_eq_true rfl) rfl qX5_47 (kJ6_bitCount l D a3 σ) ?_
  refine j_aload_n F dX5_frees_4 5 rfl 0 rfl ?_
  refine j_get (j := 2) F dX5_frees_5 8 rfl inX2 rfl (hsP.lt hh1) (shH hh1) (by decide) qX5_34 rfl ?_
  refine j_icmp_ge F dX5_frees_8 13 (by decide) 11 rfl (fun c_8 => ?_) (fun c_8 => ?_)
  · rw [if_pos c_8]
    refine j_iconst (v := 0) F dX5_frees_11 12 rfl (by decide) ?_
    exact j_ret_b (b := false) F dX5_frees_12 rfl rfl rfl
  · rw [if_neg c_8]
    refine j_iconst (v := 0) F dX5_frees_13 14 rfl (by decide) ?_
    refine j_istore_n F dX5_frees_14 15 rfl 3 rfl (by decide) [(3, .int 0), (0, .ref (D.2.1 h1)), (1, .int a2), (2, .int a3)] rfl ?_
    have lp_15 : ∀ (n_15 : Nat) (k3_15 : Nat), k3_15 ≤ 8 → 8 < k3_15 + n_15 → JJ X 5 D σ 15 [(0, .ref (D.2.1 h1)), (1, .int a2), (2, .int a3), (3, .int (nI k3_15))] [] (QQ X D (some (.int (bi (fX5_frees_15 σ h1 a2 a3 n_15 k3_15))), σ)) := by
      intro n_15
      induction n_15 with
      | zero => intro k3_15 hk_15 hn_15; exact absurd hn_15 (by omega)
      | succ n_15 ih_15 =>
        intro k3_15 hk_15 hn_15
        rw [fX5_frees_15]
        refine j_iload_n F dX5_frees_15 16 rfl 3 rfl ?_
        refine j_bipush (v := 8) F dX5_frees_16 18 rfl (by decide) ?_
        refine j_icmp_ge F dX5_frees_18 75 (by decide) 21 rfl (fun c_18 => ?_) (fun c_18 => ?_)
        · rw [if_pos c_18]
          have h_18 : k3_15 < 8 := nlt c_18 (by decide) (by omega)
          refine j_iload_n F dX5_frees_21 22 rfl 3 rfl ?_
          refine j_iload_n F dX5_frees_22 23 rfl 1 rfl ?_
          have jn_42 : ∀ (bt0_42 : Bool), JJ X 5 D σ 42 [(0, .ref (D.2.1 h1)), (1, .int a2), (2, .int a3), (3, .int (nI k3_15))] [.int (bi bt0_42)] (QQ X D (some (.int (bi (fX5_frees_42 σ h1 a2 a3 (fX5_frees_15 σ h1 a2 a3 n_15) k3_15 bt0_42))), σ)) := by
            intro bt0_42
            rw [fX5_frees_42]
            refine j_istore F dX5_frees_42 44 rfl (by decide) [(4, .int (bi bt0_42)), (0, .ref (D.2.1 h1)), (1, .int a2), (2, .int a3), (3, .int (nI k3_15))] rfl ?_
            refine j_iload F dX5_frees_44 46 rfl 0 rfl ?_
            refine j_ifb_eq F dX5_frees_46 69 (by decide) 49 rfl (fun c_46 => ?_) (fun c_46 => ?_)
            · rw [if_pos c_46]
              refine j_iload_n F dX5_frees_49 50 rfl 3 rfl ?_
              refine j_aload_n F dX5_frees_50 51 rfl 1 rfl ?_
              refine j_iload_n F dX5_frees_51 52 rfl 2 rfl ?_
              refine j_iload_n F dX5_frees_52 53 rfl 4 rfl ?_
              refine j_callVr (as := [.int a2, .int (nI k3_15)]) (st := [.int a3]) (r := .int (fX2_sameMarks σ h1 a2 (nI k3_15))) (σ9 := σ) F zX2_sameMarks dX5_frees_53 56 rfl pX2_sameMarks rfl (by decide) (by decide) (Nat.le_of_ble_eq_true rfl) rfl qX5_73 rfl rfl (hsP.lt hh1) (shH hh1) (kX2_sameMarks l D h1 a2 (nI k3_15) σ hh1) ?_
              refine j_iand F dX5_frees_56 57 rfl ?_
              refine j_callSr (as := [.int (a3 &&& (fX2_sameMarks σ h1 a2 (nI k3_15)))]) (st := []) (r := .int (fJ6_bitCount (a3 &&& (fX2_sameMarks σ h1 a2 (nI k3_15))))) (σ9 := σ) F zJ6_bitCount dX5_frees_57 60 rfl pJ6_bitCount rfl (by decide) (by decide) (Nat.le_of_ble_eq_true rfl) rfl qX5_47 (kJ6_bitCount l D (a3 &&& (fX2_sameMarks σ h1 a2 (nI k3_15))) σ) ?_
              refine j_aload_n F dX5_frees_60 61 rfl 1 rfl ?_
              refine j_get (j := 2) F dX5_frees_61 64 rfl inX2 rfl (hsP.lt hh1) (shH hh1) (by decide) qX5_34 rfl ?_
              refine j_icmp_lt F dX5_frees_64 69 (by decide) 67 rfl (fun c_64 => ?_) (fun c_64 => ?_)
              · rw [if_pos c_64]
                refine j_iconst (v := 0) F dX5_frees_67 68 rfl (by decide) ?_
                exact j_ret_b (b := false) F dX5_frees_68 rfl rfl rfl
              · rw [if_neg c_64]
                refine j_iinc F dX5_frees_69 72 rfl 4 rfl (nI (k3_15 + 1)) (nI_inc k3_15) (by decide) [(3, .int (nI (k3_15 + 1))), (4, .int (bi bt0_42)), (0, .ref (D.2.1 h1)), (1, .int a2), (2, .int a3)] rfl ?_
                refine j_goto F dX5_frees_72 15 (by decide) ?_
                refine j_pick [2, 3, 4, 0] [(0, .ref (D.2.1 h1)), (1, .int a2), (2, .int a3), (3, .int (nI (k3_15 + 1)))] rfl ?_
                exact ih_15 (k3_15 + 1) (by omega) (by omega)
            · rw [if_neg c_46]
              refine j_iinc F dX5_frees_69 72 rfl 4 rfl (nI (k3_15 + 1)) (nI_inc k3_15) (by decide) [(3, .int (nI (k3_15 + 1))), (4, .int (bi bt0_42)), (0, .ref (D.2.1 h1)), (1, .int a2), (2, .int a3)] rfl ?_
              refine j_goto F dX5_frees_72 15 (by decide) ?_
              refine j_pick [2, 3, 4, 0] [(0, .ref (D.2.1 h1)), (1, .int a2), (2, .int a3), (3, .int (nI (k3_15 + 1)))] rfl ?_
              exact ih_15 (k3_15 + 1) (by omega) (by omega)
          have jn_41 : JJ X 5 D σ 41 [(0, .ref (D.2.1 h1)), (1, .int a2), (2, .int a3), (3, .int (nI k3_15))] [] (QQ X D (some (.int (bi (fX5_frees_41 σ h1 a2 a3 (fX5_frees_15 σ h1 a2 a3 n_15) k3_15))), σ)) := by
            rw [fX5_frees_41]
            refine j_iconst (v := 0) F dX5_frees_41 42 rfl (by decide) ?_
            exact jn_42 false
          refine j_icmp_eq F dX5_frees_23 41 (by decide) 26 rfl (fun c_23 => ?_) (fun c_23 => ?_)
          · rw [if_neg c_23]
            refine j_aload_n F dX5_frees_26 27 rfl 0 rfl ?_
            refine j_callVr (as := []) (st := []) (r := .int (fX2_shown σ h1)) (σ9 := σ) F zX2_shown dX5_frees_27 30 rfl pX2_shown rfl (by decide) (by decide) (Nat.le_of_ble_eq_true rfl) rfl qX5_21 rfl rfl (hsP.lt hh1) (shH hh1) (kX2_shown l D h1 σ hh1) ?_
            refine j_iload_n F dX5_frees_30 31 rfl 3 rfl ?_
            refine j_callSNr (as := [.int (fX2_shown σ h1), .int (nI k3_15)]) (st := []) (r := .int (bi (fX9_holds (fX2_shown σ h1) (nI k3_15)))) (σ9 := σ) F zX9_holds dX5_frees_31 34 rfl pX9_holds rfl (by decide) (by decide) (Nat.le_of_ble_eq_true rfl) rfl qX5_63 (kX9_holds l D (fX2_shown σ h1) (nI k3_15) σ) ?_
            refine j_ifb_eq F dX5_frees_34 41 (by decide) 37 rfl (fun c_34 => ?_) (fun c_34 => ?_)
            · rw [if_pos c_34]
              refine j_iconst (v := 1) F dX5_frees_37 38 rfl (by decide) ?_
              refine j_goto F dX5_frees_38 42 (by decide) ?_
              exact jn_42 true
            · rw [if_neg c_34]
              exact jn_41
          · rw [if_pos c_23]
            exact jn_41
        · rw [if_neg c_18]
          refine j_iconst (v := 1) F dX5_frees_75 76 rfl (by decide) ?_
          exact j_ret_b (b := true) F dX5_frees_76 rfl rfl rfl
    refine j_pick [1, 2, 3, 0] [(0, .ref (D.2.1 h1)), (1, .int a2), (2, .int a3), (3, .int 0)] rfl ?_
    exact lp_15 9 0 (by omega) (by omega)
def fX5_lastBy (σ : Mm) (h1 : Nat) (a2 : Int32) : Int32 := (fJ6_bitCount (fX2_lastOnesBy σ h1 a2 (fX2_shown σ h1)))
set_option maxRecDepth 20000 in
theorem kX5_lastBy (l : Launch) (D : Dm) (h1 : Nat) (a2 : Int32) (σ : Mm) (hh1 : hsP h1) : Ct l yX5_lastBy cX5_lastBy 3 (some .int) 5 D [.ref (D.2.1 6), .ref (D.2.1 h1), .int a2] σ (some (.int (fX5_lastBy σ h1 a2)), σ) := by
  refine ct_of (by decide +kernel) (Nat.le_of_ble_eq_true rfl) (fun X F => ?_)
  have F : Fx X l 3 D cX5_lastBy RX5 5 (some .int) := F
  show JJ X 3 D σ 0 [(0, .ref (D.2.1 6)), (1, .ref (D.2.1 h1)), (2, .int a2)] [] (QQ X D (some (.int (fX5_lastBy σ h1 a2)), σ))
  rw [fX5_lastBy]
  refine j_aload_n F dX5_lastBy_0 1 rfl 1 rfl ?_
  refine j_iload_n F dX5_lastBy_1 2 rfl 2 rfl ?_
  refine j_aload_n F dX5_lastBy_2 3 rfl 1 rfl ?_
  refine j_callVr (as := []) (st := [.int a2, .ref (D.2.1 h1)]) (r := .int (fX2_shown σ h1)) (σ9 := σ) F zX2_shown dX5_lastBy_3 6 rfl pX2_shown rfl (by decide) (by decide) (Nat.le_of_ble_eq_true rfl) rfl qX5_21 rfl rfl (hsP.lt hh1) (shH hh1) (kX2_shown l D h1 σ hh1) ?_
  refine j_callVr (as := [.int a2, .int (fX2_shown σ h1)]) (st := []) (r := .int (fX2_lastOnesBy σ h1 a2 (fX2_shown σ h1))) (σ9 := σ) F zX2_lastOnesBy dX5_lastBy_6 9 rfl pX2_lastOnesBy rfl (by decide) (by decide) (Nat.le_of_ble_eq_true rfl) rfl qX5_59 rfl rfl (hsP.lt hh1) (shH hh1) (kX2_lastOnesBy l D h1 a2 (fX2_shown σ h1) σ hh1) ?_
  refine j_callSr (as := [.int (fX2_lastOnesBy σ h1 a2 (fX2_shown σ h1))]) (st := []) (r := .int (fJ6_bitCount (fX2_lastOnesBy σ h1 a2 (fX2_shown σ h1)))) (σ9 := σ) F zJ6_bitCount dX5_lastBy_9 12 rfl pJ6_bitCount rfl (by decide) (by decide) (Nat.le_of_ble_eq_true rfl) rfl qX5_47 (kJ6_bitCount l D (fX2_lastOnesBy σ h1 a2 (fX2_shown σ h1)) σ) ?_
  exact j_ret_i F dX5_lastBy_12 rfl rfl rfl
def fX5_leastCopy_36 (σ : Mm) (h1 : Nat) (a2 : Int32) (kb6 : Int32 → Nat → Int32) (x3_36 : Int32) (k4_36 : Nat) (bt0_36 : Bool) : Int32 := if bt0_36 = true then (if (fX5_frees σ h1 a2 (nI k4_36)) = true then (kb6 (nI k4_36) (k4_36 + 1)) else (kb6 x3_36 (k4_36 + 1))) else (kb6 x3_36 (k4_36 + 1))
def fX5_leastCopy_31 (σ : Mm) (h1 : Nat) (a2 : Int32) (kb6 : Int32 → Nat → Int32) (x3_31 : Int32) (k4_31 : Nat) : Int32 := fX5_leastCopy_36 σ h1 a2 kb6 x3_31 k4_31 true
def fX5_leastCopy_6 (σ : Mm) (h1 : Nat) (a2 : Int32)  : Nat → Int32 → Nat → Int32
  | 0, _, _ => 0
  | n + 1, x3_6, k4_6 => if (nI k4_6) < 16 then (if x3_6 = (-9) then (fX5_leastCopy_31 σ h1 a2 (fX5_leastCopy_6 σ h1 a2 n) x3_6 k4_6) else (if (fJ6_bitCount (nI k4_6)) < (fJ6_bitCount x3_6) then (fX5_leastCopy_31 σ h1 a2 (fX5_leastCopy_6 σ h1 a2 n) x3_6 k4_6) else (fX5_leastCopy_36 σ h1 a2 (fX5_leastCopy_6 σ h1 a2 n) x3_6 k4_6 false))) else (x3_6)
def fX5_leastCopy (σ : Mm) (h1 : Nat) (a2 : Int32) : Int32 := fX5_leastCopy_6 σ h1 a2 17 (-9) 0
set_option maxRecDepth 20000 in
theorem kX5_leastCopy (l : Launch) (D : Dm) (h1 : Nat) (a2 : Int32) (σ : Mm) (hh1 : hsP h1) : Ct l yX5_leastCopy cX5_leastCopy 6 (some .int) 5 D [.ref (D.2.1 6), .ref (D.2.1 h1), .int a2] σ (some (.int (fX5_leastCopy σ h1 a2)), σ) := by
  refine ct_of (by decide +kernel) (Nat.le_of_ble_eq_true rfl) (fun X F => ?_)
  have F : Fx X l 6 D cX5_leastCopy RX5 5 (some .int) := F
  show JJ X 6 D σ 0 [(0, .ref (D.2.1 6)), (1, .ref (D.2.1 h1)), (2, .int a2)] [] (QQ X D (some (.int (fX5_leastCopy σ h1 a2)), σ))
  rw [fX5_leastCopy]
  refine j_bipush (v := (-9)) F dX5_leastCopy_0 2 rfl (by decide) ?_
  refine j_istore_n F dX5_leastCopy_2 3 rfl 3 rfl (by decide) [(3, .int (-9)), (0, .ref (D.2.1 6)), (1, .ref (D.2.1 h1)), (2, .int a2)] rfl ?_
  refine j_iconst (v := 0) F dX5_leastCopy_3 4 rfl (by decide) ?_
  refine j_istore F dX5_leastCopy_4 6 rfl (by decide) [(4, .int 0), (3, .int (-9)), (0, .ref (D.2.1 6)), (1, .ref (D.2.1 h1)), (2, .int a2)] rfl ?_
  have lp_6 : ∀ (n_6 : Nat) (x3_6 : Int32) (k4_6 : Nat), k4_6 ≤ 16 → 16 < k4_6 + n_6 → JJ X 6 D σ 6 [(1, .ref (D.2.1 h1)), (2, .int a2), (3, .int x3_6), (4, .int (nI k4_6))] [] (QQ X D (some (.int (fX5_leastCopy_6 σ h1 a2 n_6 x3_6 k4_6)), σ)) := by
    intro n_6
    induction n_6 with
    | zero => intro x3_6 k4_6 hk_6 hn_6; exact absurd hn_6 (by omega)
    | succ n_6 ih_6 =>
      intro x3_6 k4_6 hk_6 hn_6
      rw [fX5_leastCopy_6]
      refine j_iload F dX5_leastCopy_6 8 rfl 3 rfl ?_
      refine j_bipush (v := 16) F dX5_leastCopy_8 10 rfl (by decide) ?_
      refine j_icmp_ge F dX5_leastCopy_10 62 (by decide) 13 rfl (fun c_10 => ?_) (fun c_10 => ?_)
      · rw [if_pos c_10]
        have h_10 : k4_6 < 16 := nlt c_10 (by decide) (by omega)
        refine j_iload_n F dX5_leastCopy_13 14 rfl 2 rfl ?_
        refine j_bipush (v := (-9)) F dX5_leastCopy_14 16 rfl (by decide) ?_
        have jn_36 : ∀ (bt0_36 : Bool), JJ X 6 D σ 36 [(1, .ref (D.2.1 h1)), (2, .int a2), (3, .int x3_6), (4, .int (nI k4_6))] [.int (bi bt0_36)] (QQ X D (some (.int (fX5_leastCopy_36 σ h1 a2 (fX5_leastCopy_6 σ h1 a2 n_6) x3_6 k4_6 bt0_36)), σ)) := by
          intro bt0_36
          rw [fX5_leastCopy_36]
          refine j_istore F dX5_leastCopy_36 38 rfl (by decide) [(5, .int (bi bt0_36)), (1, .ref (D.2.1 h1)), (2, .int a2), (3, .int x3_6), (4, .int (nI k4_6))] rfl ?_
          refine j_iload F dX5_leastCopy_38 40 rfl 0 rfl ?_
          refine j_ifb_eq F dX5_leastCopy_40 56 (by decide) 43 rfl (fun c_40 => ?_) (fun c_40 => ?_)
          · rw [if_pos c_40]
            refine j_aload_n F dX5_leastCopy_43 44 rfl 1 rfl ?_
            refine j_iload_n F dX5_leastCopy_44 45 rfl 2 rfl ?_
            refine j_iload F dX5_leastCopy_45 47 rfl 4 rfl ?_
            refine j_callSr (as := [.ref (D.2.1 h1), .int a2, .int (nI k4_6)]) (st := []) (r := .int (bi (fX5_frees σ h1 a2 (nI k4_6)))) (σ9 := σ) F zX5_frees dX5_leastCopy_47 50 rfl pX5_frees rfl (by decide) (by decide) (Nat.le_of_ble_eq_true rfl) rfl qX5_52 (kX5_frees l D h1 a2 (nI k4_6) σ hh1) ?_
            refine j_ifb_eq F dX5_leastCopy_50 56 (by decide) 53 rfl (fun c_50 => ?_) (fun c_50 => ?_)
            · rw [if_pos c_50]
              refine j_iload F dX5_leastCopy_53 55 rfl 4 rfl ?_
              refine j_istore_n F dX5_leastCopy_55 56 rfl 3 rfl (by decide) [(3, .int (nI k4_6)), (5, .int (bi bt0_36)), (1, .ref (D.2.1 h1)), (2, .int a2), (4, .int (nI k4_6))] rfl ?_
              refine j_iinc F dX5_leastCopy_56 59 rfl 4 rfl (nI (k4_6 + 1)) (nI_inc k4_6) (by decide) [(4, .int (nI (k4_6 + 1))), (3, .int (nI k4_6)), (5, .int (bi bt0_36)), (1, .ref (D.2.1 h1)), (2, .int a2)] rfl ?_
              refine j_goto F dX5_leastCopy_59 6 (by decide) ?_
              refine j_pick [3, 4, 1, 0] [(1, .ref (D.2.1 h1)), (2, .int a2), (3, .int (nI k4_6)), (4, .int (nI (k4_6 + 1)))] rfl ?_
              exact ih_6 (nI k4_6) (k4_6 + 1) (by omega) (by omega)
            · rw [if_neg c_50]
              refine j_iinc F dX5_leastCopy_56 59 rfl 4 rfl (nI (k4_6 + 1)) (nI_inc k4_6) (by decide) [(4, .int (nI (k4_6 + 1))), (5, .int (bi bt0_36)), (1, .ref (D.2.1 h1)), (2, .int a2), (3, .int x3_6)] rfl ?_
              refine j_goto F dX5_leastCopy_59 6 (by decide) ?_
              refine j_pick [2, 3, 4, 0] [(1, .ref (D.2.1 h1)), (2, .int a2), (3, .int x3_6), (4, .int (nI (k4_6 + 1)))] rfl ?_
              exact ih_6 x3_6 (k4_6 + 1) (by omega) (by omega)
          · rw [if_neg c_40]
            refine j_iinc F dX5_leastCopy_56 59 rfl 4 rfl (nI (k4_6 + 1)) (nI_inc k4_6) (by decide) [(4, .int (nI (k4_6 + 1))), (5, .int (bi bt0_36)), (1, .ref (D.2.1 h1)), (2, .int a2), (3, .int x3_6)] rfl ?_
            refine j_goto F dX5_leastCopy_59 6 (by decide) ?_
            refine j_pick [2, 3, 4, 0] [(1, .ref (D.2.1 h1)), (2, .int a2), (3, .int x3_6), (4, .int (nI (k4_6 + 1)))] rfl ?_
            exact ih_6 x3_6 (k4_6 + 1) (by omega) (by omega)
        have jn_31 : JJ X 6 D σ 31 [(1, .ref (D.2.1 h1)), (2, .int a2), (3, .int x3_6), (4, .int (nI k4_6))] [] (QQ X D (some (.int (fX5_leastCopy_31 σ h1 a2 (fX5_leastCopy_6 σ h1 a2 n_6) x3_6 k4_6)), σ)) := by
          rw [fX5_leastCopy_31]
          refine j_iconst (v := 1) F dX5_leastCopy_31 32 rfl (by decide) ?_
          refine j_goto F dX5_leastCopy_32 36 (by decide) ?_
          exact jn_36 true
        refine j_icmp_eq F dX5_leastCopy_16 31 (by decide) 19 rfl (fun c_16 => ?_) (fun c_16 => ?_)
        · rw [if_neg c_16]
          refine j_iload F dX5_leastCopy_19 21 rfl 3 rfl ?_
          refine j_callSr (as := [.int (nI k4_6)]) (st := []) (r := .int (fJ6_bitCount (nI k4_6))) (σ9 := σ) F zJ6_bitCount dX5_leastCopy_21 24 rfl pJ6_bitCount rfl (by decide) (by decide) (Nat.le_of_ble_eq_true rfl) rfl qX5_47 (kJ6_bitCount l D (nI k4_6) σ) ?_
          refine j_iload_n F dX5_leastCopy_24 25 rfl 2 rfl ?_
          refine j_callSr (as := [.int x3_6]) (st := [.int (fJ6_bitCount (nI k4_6))]) (r := .int (fJ6_bitCount x3_6)) (σ9 := σ) F zJ6_bitCount dX5_leastCopy_25 28 rfl pJ6_bitCount rfl (by decide) (by decide) (Nat.le_of_ble_eq_true rfl) rfl qX5_47 (kJ6_bitCount l D x3_6 σ) ?_
          refine j_icmp_ge F dX5_leastCopy_28 35 (by decide) 31 rfl (fun c_28 => ?_) (fun c_28 => ?_)
          · rw [if_pos c_28]
            exact jn_31
          · rw [if_neg c_28]
            refine j_iconst (v := 0) F dX5_leastCopy_35 36 rfl (by decide) ?_
            exact jn_36 false
        · rw [if_pos c_16]
          exact jn_31
      · rw [if_neg c_10]
        refine j_iload_n F dX5_leastCopy_62 63 rfl 2 rfl ?_
        exact j_ret_i F dX5_leastCopy_63 rfl rfl rfl
  refine j_pick [3, 4, 1, 0] [(1, .ref (D.2.1 h1)), (2, .int a2), (3, .int (-9)), (4, .int 0)] rfl ?_
  exact lp_6 17 (-9) 0 (by omega) (by omega)
def fX5_seekCampaign_99 (h1 : Nat) (a2 : Int32) (kb20 : Mm → Nat → Mm) (s_99 : Mm) (k3_99 : Nat) (x4_99 : Int32) : Mm := kb20 (up s_99 6 2 x4_99) (k3_99 + 1)
def fX5_seekCampaign_88 (h1 : Nat) (a2 : Int32) (kb20 : Mm → Nat → Mm) (s_88 : Mm) (k3_88 : Nat) (x4_88 : Int32) (x5_88 : Int32) : Mm := fX5_seekCampaign_99 h1 a2 kb20 (up (up s_88 6 0 x5_88) 6 1 (nI k3_88)) k3_88 x4_88
def fX5_seekCampaign_20 (h1 : Nat) (a2 : Int32)  : Nat → Mm → Nat → Mm
  | 0, s_20, _ => s_20
  | n + 1, s_20, k3_20 => if (nI k3_20) ≤ 4 then (if ((fX2_alikeTo s_20 h1 a2 (nI k3_20) (fX2_shown s_20 h1)) &&& (s_20.1 h1 7)) = 0 then (if (s_20.1 6 0) = (-9) then (fX5_seekCampaign_88 h1 a2 (fX5_seekCampaign_20 h1 a2 n) s_20 k3_20 (fX2_alikeTo s_20 h1 a2 (nI k3_20) (fX2_shown s_20 h1)) ((3 * (if 0 ≤ ((nI k3_20) - (s_20.1 h1 2)) then ((nI k3_20) - (s_20.1 h1 2)) else 0 - ((nI k3_20) - (s_20.1 h1 2)))) + (fX5_costToBreak s_20 h1 (fX2_alikeTo s_20 h1 a2 (nI k3_20) (fX2_shown s_20 h1))))) else (if ((3 * (if 0 ≤ ((nI k3_20) - (s_20.1 h1 2)) then ((nI k3_20) - (s_20.1 h1 2)) else 0 - ((nI k3_20) - (s_20.1 h1 2)))) + (fX5_costToBreak s_20 h1 (fX2_alikeTo s_20 h1 a2 (nI k3_20) (fX2_shown s_20 h1)))) < (s_20.1 6 0) then (fX5_seekCampaign_88 h1 a2 (fX5_seekCampaign_20 h1 a2 n) s_20 k3_20 (fX2_alikeTo s_20 h1 a2 (nI k3_20) (fX2_shown s_20 h1)) ((3 * (if 0 ≤ ((nI k3_20) - (s_20.1 h1 2)) then ((nI k3_20) - (s_20.1 h1 2)) else 0 - ((nI k3_20) - (s_20.1 h1 2)))) + (fX5_costToBreak s_20 h1 (fX2_alikeTo s_20 h1 a2 (nI k3_20) (fX2_shown s_20 h1))))) else (fX5_seekCampaign_20 h1 a2 n s_20 (k3_20 + 1)))) else (fX5_seekCampaign_20 h1 a2 n s_20 (k3_20 + 1))) else (s_20)
def fX5_seekCampaign_12 (h1 : Nat) (a2 : Int32)  (s_12 : Mm) : Mm := fX5_seekCampaign_20 h1 a2 6 (up s_12 6 2 (-9)) 1
def fX5_seekCampaign (σ : Mm) (h1 : Nat) (a2 : Int32) : Mm := fX5_seekCampaign_12 h1 a2 (up (up σ 6 0 (-9)) 6 1 (-9))
set_option maxRecDepth 20000 in
theorem kX5_seekCampaign (l : Launch) (D : Dm) (h1 : Nat) (a2 : Int32) (σ : Mm) (hh1 : hsP h1) : Ct l yX5_seekCampaign cX5_seekCampaign 6 none 4 D [.ref (D.2.1 6), .ref (D.2.1 h1), .int a2] σ (none, fX5_seekCampaign σ h1 a2) := by
  refine ct_of (by decide +kernel) (Nat.le_of_ble_eq_true rfl) (fun X F => ?_)
  have F : Fx X l 6 D cX5_seekCampaign RX5 4 none := F
  show JJ X 6 D σ 0 [(0, .ref (D.2.1 6)), (1, .ref (D.2.1 h1)), (2, .int a2)] [] (QQ X D (none, fX5_seekCampaign σ h1 a2))
  rw [fX5_seekCampaign]
  refine j_aload_n F dX5_seekCampaign_0 1 rfl 0 rfl ?_
  refine j_bipush (v := (-9)) F dX5_seekCampaign_1 3 rfl (by decide) ?_
  refine j_put (j := 0) F dX5_seekCampaign_3 6 rfl inX5 tyX5 tyX5_ok nmX5 rfl (by decide) sh6 sh6 (by decide) qX5_9 rfl (tyX5_ok 0 (by decide)) (Nat.le_of_ble_eq_true rfl) ?_
  refine j_aload_n F dX5_seekCampaign_6 7 rfl 0 rfl ?_
  refine j_bipush (v := (-9)) F dX5_seekCampaign_7 9 rfl (by decide) ?_
  refine j_put (j := 1) F dX5_seekCampaign_9 12 rfl inX5 tyX5 tyX5_ok nmX5 rfl (by decide) sh6 sh6 (by decide) qX5_15 rfl (tyX5_ok 1 (by decide)) (Nat.le_of_ble_eq_true rfl) ?_
  have jn_12 : ∀ (s_12 : Mm), JJ X 6 D s_12 12 [(0, .ref (D.2.1 6)), (1, .ref (D.2.1 h1)), (2, .int a2)] [] (QQ X D (none, fX5_seekCampaign_12 h1 a2 s_12)) := by
    intro s_12
    rw [fX5_seekCampaign_12]
    refine j_aload_n F dX5_seekCampaign_12 13 rfl 0 rfl ?_
    refine j_bipush (v := (-9)) F dX5_seekCampaign_13 15 rfl (by decide) ?_
    refine j_put (j := 2) F dX5_seekCampaign_15 18 rfl inX5 tyX5 tyX5_ok nmX5 rfl (by decide) sh6 sh6 (by decide) qX5_18 rfl (tyX5_ok 2 (by decide)) (Nat.le_of_ble_eq_true rfl) ?_
    refine j_iconst (v := 1) F dX5_seekCampaign_18 19 rfl (by decide) ?_
    refine j_istore_n F dX5_seekCampaign_19 20 rfl 3 rfl (by decide) [(3, .int 1), (0, .ref (D.2.1 6)), (1, .ref (D.2.1 h1)), (2, .int a2)] rfl ?_
    have lp_20 : ∀ (n_20 : Nat) (s_20 : Mm) (k3_20 : Nat), k3_20 ≤ 5 → 5 < k3_20 + n_20 → JJ X 6 D s_20 20 [(0, .ref (D.2.1 6)), (1, .ref (D.2.1 h1)), (2, .int a2), (3, .int (nI k3_20))] [] (QQ X D (none, fX5_seekCampaign_20 h1 a2 n_20 s_20 k3_20)) := by
      intro n_20
      induction n_20 with
      | zero => intro s_20 k3_20 hk_20 hn_20; exact absurd hn_20 (by omega)
      | succ n_20 ih_20 =>
        intro s_20 k3_20 hk_20 hn_20
        rw [fX5_seekCampaign_20]
        refine j_iload_n F dX5_seekCampaign_20 21 rfl 3 rfl ?_
        refine j_iconst (v := 4) F dX5_seekCampaign_21 22 rfl (by decide) ?_
        refine j_icmp_gt F dX5_seekCampaign_22 111 (by decide) 25 rfl (fun c_22 => ?_) (fun c_22 => ?_)
        · rw [if_pos c_22]
          have h_22 : k3_20 < 5 := nle c_22 (by decide) (by omega)
          refine j_aload_n F dX5_seekCampaign_25 26 rfl 1 rfl ?_
          refine j_iload_n F dX5_seekCampaign_26 27 rfl 2 rfl ?_
          refine j_iload_n F dX5_seekCampaign_27 28 rfl 3 rfl ?_
          refine j_aload_n F dX5_seekCampaign_28 29 rfl 1 rfl ?_
          refine j_callVr (as := []) (st := [.int (nI k3_20), .int a2, .ref (D.2.1 h1)]) (r := .int (fX2_shown s_20 h1)) (σ9 := s_20) F zX2_shown dX5_seekCampaign_29 32 rfl pX2_shown rfl (by decide) (by decide) (Nat.le_of_ble_eq_true rfl) rfl qX5_21 rfl rfl (hsP.lt hh1) (shH hh1) (kX2_shown l D h1 s_20 hh1) ?_
          refine j_callVr (as := [.int a2, .int (nI k3_20), .int (fX2_shown s_20 h1)]) (st := []) (r := .int (fX2_alikeTo s_20 h1 a2 (nI k3_20) (fX2_shown s_20 h1))) (σ9 := s_20) F zX2_alikeTo dX5_seekCampaign_32 35 rfl pX2_alikeTo rfl (by decide) (by decide) (Nat.le_of_ble_eq_true rfl) rfl qX5_27 rfl rfl (hsP.lt hh1) (shH hh1) (kX2_alikeTo l D h1 a2 (nI k3_20) (fX2_shown s_20 h1) s_20 hh1) ?_
          refine j_istore F dX5_seekCampaign_35 37 rfl (by decide) [(4, .int (fX2_alikeTo s_20 h1 a2 (nI k3_20) (fX2_shown s_20 h1))), (0, .ref (D.2.1 6)), (1, .ref (D.2.1 h1)), (2, .int a2), (3, .int (nI k3_20))] rfl ?_
          refine j_iload F dX5_seekCampaign_37 39 rfl 0 rfl ?_
          refine j_aload_n F dX5_seekCampaign_39 40 rfl 2 rfl ?_
          refine j_get (j := 7) F dX5_seekCampaign_40 43 rfl inX2 rfl (hsP.lt hh1) (shH hh1) (by decide) qX5_31 rfl ?_
          refine j_iand F dX5_seekCampaign_43 44 rfl ?_
          refine j_if_eq F dX5_seekCampaign_44 50 (by decide) 47 rfl (fun c_44 => ?_) (fun c_44 => ?_)
          · rw [if_neg c_44]
            refine j_goto F dX5_seekCampaign_47 105 (by decide) ?_
            refine j_iinc F dX5_seekCampaign_105 108 rfl 4 rfl (nI (k3_20 + 1)) (nI_inc k3_20) (by decide) [(3, .int (nI (k3_20 + 1))), (4, .int (fX2_alikeTo s_20 h1 a2 (nI k3_20) (fX2_shown s_20 h1))), (0, .ref (D.2.1 6)), (1, .ref (D.2.1 h1)), (2, .int a2)] rfl ?_
            refine j_goto F dX5_seekCampaign_108 20 (by decide) ?_
            refine j_pick [2, 3, 4, 0] [(0, .ref (D.2.1 6)), (1, .ref (D.2.1 h1)), (2, .int a2), (3, .int (nI (k3_20 + 1)))] rfl ?_
            exact ih_20 s_20 (k3_20 + 1) (by omega) (by omega)
          · rw [if_pos c_44]
            refine j_iconst (v := 3) F dX5_seekCampaign_50 51 rfl (by decide) ?_
            refine j_iload_n F dX5_seekCampaign_51 52 rfl 4 rfl ?_
            refine j_aload_n F dX5_seekCampaign_52 53 rfl 2 rfl ?_
            refine j_get (j := 2) F dX5_seekCampaign_53 56 rfl inX2 rfl (hsP.lt hh1) (shH hh1) (by decide) qX5_34 rfl ?_
            refine j_isub F dX5_seekCampaign_56 57 rfl ?_
            refine j_mabs F dX5_seekCampaign_57 60 rfl (by decide) (Nat.le_of_ble_eq_true rfl) qX5_37 mth_abs.1 mth_abs.2.1 mth_abs.2.2 ?_
            refine j_imul F dX5_seekCampaign_60 61 rfl ?_
            refine j_aload_n F dX5_seekCampaign_61 62 rfl 2 rfl ?_
            refine j_iload F dX5_seekCampaign_62 64 rfl 0 rfl ?_
            refine j_callSr (as := [.ref (D.2.1 h1), .int (fX2_alikeTo s_20 h1 a2 (nI k3_20) (fX2_shown s_20 h1))]) (st := [.int (3 * (if 0 ≤ ((nI k3_20) - (s_20.1 h1 2)) then ((nI k3_20) - (s_20.1 h1 2)) else 0 - ((nI k3_20) - (s_20.1 h1 2))))]) (r := .int (fX5_costToBreak s_20 h1 (fX2_alikeTo s_20 h1 a2 (nI k3_20) (fX2_shown s_20 h1)))) (σ9 := s_20) F zX5_costToBreak dX5_seekCampaign_64 67 rfl pX5_costToBreak rfl (by decide) (by decide) (Nat.le_of_ble_eq_true rfl) rfl qX5_43 (kX5_costToBreak l D h1 (fX2_alikeTo s_20 h1 a2 (nI k3_20) (fX2_shown s_20 h1)) s_20 hh1) ?_
            refine j_iadd F dX5_seekCampaign_67 68 rfl ?_
            refine j_istore F dX5_seekCampaign_68 70 rfl (by decide) [(5, .int ((3 * (if 0 ≤ ((nI k3_20) - (s_20.1 h1 2)) then ((nI k3_20) - (s_20.1 h1 2)) else 0 - ((nI k3_20) - (s_20.1 h1 2)))) + (fX5_costToBreak s_20 h1 (fX2_alikeTo s_20 h1 a2 (nI k3_20) (fX2_shown s_20 h1))))), (4, .int (fX2_alikeTo s_20 h1 a2 (nI k3_20) (fX2_shown s_20 h1))), (0, .ref (D.2.1 6)), (1, .ref (D.2.1 h1)), (2, .int a2), (3, .int (nI k3_20))] rfl ?_
            refine j_aload_n F dX5_seekCampaign_70 71 rfl 2 rfl ?_
            refine j_get (j := 0) F dX5_seekCampaign_71 74 rfl inX5 rfl (by decide) sh6 (by decide) qX5_9 rfl ?_
            refine j_bipush (v := (-9)) F dX5_seekCampaign_74 76 rfl (by decide) ?_
            have jn_88 : JJ X 6 D s_20 88 [(0, .ref (D.2.1 6)), (1, .ref (D.2.1 h1)), (2, .int a2), (3, .int (nI k3_20)), (4, .int (fX2_alikeTo s_20 h1 a2 (nI k3_20) (fX2_shown s_20 h1))), (5, .int ((3 * (if 0 ≤ ((nI k3_20) - (s_20.1 h1 2)) then ((nI k3_20) - (s_20.1 h1 2)) else 0 - ((nI k3_20) - (s_20.1 h1 2)))) + (fX5_costToBreak s_20 h1 (fX2_alikeTo s_20 h1 a2 (nI k3_20) (fX2_shown s_20 h1)))))] [] (QQ X D (none, fX5_seekCampaign_88 h1 a2 (fX5_seekCampaign_20 h1 a2 n_20) s_20 k3_20 (fX2_alikeTo s_20 h1 a2 (nI k3_20) (fX2_shown s_20 h1)) ((3 * (if 0 ≤ ((nI k3_20) - (s_20.1 h1 2)) then ((nI k3_20) - (s_20.1 h1 2)) else 0 - ((nI k3_20) - (s_20.1 h1 2)))) + (fX5_costToBreak s_20 h1 (fX2_alikeTo s_20 h1 a2 (nI k3_20) (fX2_shown s_20 h1)))))) := by
              rw [fX5_seekCampaign_88]
              refine j_aload_n F dX5_seekCampaign_88 89 rfl 0 rfl ?_
              refine j_iload F dX5_seekCampaign_89 91 rfl 5 rfl ?_
              refine j_put (j := 0) F dX5_seekCampaign_91 94 rfl inX5 tyX5 tyX5_ok nmX5 rfl (by decide) sh6 sh6 (by decide) qX5_9 rfl (tyX5_ok 0 (by decide)) (Nat.le_of_ble_eq_true rfl) ?_
              refine j_aload_n F dX5_seekCampaign_94 95 rfl 0 rfl ?_
              refine j_iload_n F dX5_seekCampaign_95 96 rfl 3 rfl ?_
              refine j_put (j := 1) F dX5_seekCampaign_96 99 rfl inX5 tyX5 tyX5_ok nmX5 rfl (by decide) sh6 sh6 (by decide) qX5_15 rfl (tyX5_ok 1 (by decide)) (Nat.le_of_ble_eq_true rfl) ?_
              refine j_pick [0, 1, 2, 3, 4] [(0, .ref (D.2.1 6)), (1, .ref (D.2.1 h1)), (2, .int a2), (3, .int (nI k3_20)), (4, .int (fX2_alikeTo s_20 h1 a2 (nI k3_20) (fX2_shown s_20 h1)))] rfl ?_
              have jn_99 : ∀ (s_99 : Mm), JJ X 6 D s_99 99 [(0, .ref (D.2.1 6)), (1, .ref (D.2.1 h1)), (2, .int a2), (3, .int (nI k3_20)), (4, .int (fX2_alikeTo s_20 h1 a2 (nI k3_20) (fX2_shown s_20 h1)))] [] (QQ X D (none, fX5_seekCampaign_99 h1 a2 (fX5_seekCampaign_20 h1 a2 n_20) s_99 k3_20 (fX2_alikeTo s_20 h1 a2 (nI k3_20) (fX2_shown s_20 h1)))) := by
                intro s_99
                rw [fX5_seekCampaign_99]
                refine j_aload_n F dX5_seekCampaign_99 100 rfl 0 rfl ?_
                refine j_iload F dX5_seekCampaign_100 102 rfl 4 rfl ?_
                refine j_put (j := 2) F dX5_seekCampaign_102 105 rfl inX5 tyX5 tyX5_ok nmX5 rfl (by decide) sh6 sh6 (by decide) qX5_18 rfl (tyX5_ok 2 (by decide)) (Nat.le_of_ble_eq_true rfl) ?_
                refine j_iinc F dX5_seekCampaign_105 108 rfl 3 rfl (nI (k3_20 + 1)) (nI_inc k3_20) (by decide) [(3, .int (nI (k3_20 + 1))), (0, .ref (D.2.1 6)), (1, .ref (D.2.1 h1)), (2, .int a2), (4, .int (fX2_alikeTo s_20 h1 a2 (nI k3_20) (fX2_shown s_20 h1)))] rfl ?_
                refine j_goto F dX5_seekCampaign_108 20 (by decide) ?_
                refine j_pick [1, 2, 3, 0] [(0, .ref (D.2.1 6)), (1, .ref (D.2.1 h1)), (2, .int a2), (3, .int (nI (k3_20 + 1)))] rfl ?_
                exact ih_20 (up s_99 6 2 (fX2_alikeTo s_20 h1 a2 (nI k3_20) (fX2_shown s_20 h1))) (k3_20 + 1) (by omega) (by omega)
              exact jn_99 (up (up s_20 6 0 ((3 * (if 0 ≤ ((nI k3_20) - (s_20.1 h1 2)) then ((nI k3_20) - (s_20.1 h1 2)) else 0 - ((nI k3_20) - (s_20.1 h1 2)))) + (fX5_costToBreak s_20 h1 (fX2_alikeTo s_20 h1 a2 (nI k3_20) (fX2_shown s_20 h1))))) 6 1 (nI k3_20)) 
            refine j_icmp_eq F dX5_seekCampaign_76 88 (by decide) 79 rfl (fun c_76 => ?_) (fun c_76 => ?_)
            · rw [if_neg c_76]
              refine j_iload F dX5_seekCampaign_79 81 rfl 0 rfl ?_
              refine j_aload_n F dX5_seekCampaign_81 82 rfl 2 rfl ?_
              refine j_get (j := 0) F dX5_seekCampaign_82 85 rfl inX5 rfl (by decide) sh6 (by decide) qX5_9 rfl ?_
              refine j_icmp_ge F dX5_seekCampaign_85 105 (by decide) 88 rfl (fun c_85 => ?_) (fun c_85 => ?_)
              · rw [if_pos c_85]
                refine j_pick [2, 3, 4, 5, 1, 0] [(0, .ref (D.2.1 6)), (1, .ref (D.2.1 h1)), (2, .int a2), (3, .int (nI k3_20)), (4, .int (fX2_alikeTo s_20 h1 a2 (nI k3_20) (fX2_shown s_20 h1))), (5, .int ((3 * (if 0 ≤ ((nI k3_20) - (s_20.1 h1 2)) then ((nI k3_20) - (s_20.1 h1 2)) else 0 - ((nI k3_20) - (s_20.1 h1 2)))) + (fX5_costToBreak s_20 h1 (fX2_alikeTo s_20 h1 a2 (nI k3_20) (fX2_shown s_20 h1)))))] rfl ?_
                exact jn_88
              · rw [if_neg c_85]
                refine j_iinc F dX5_seekCampaign_105 108 rfl 5 rfl (nI (k3_20 + 1)) (nI_inc k3_20) (by decide) [(3, .int (nI (k3_20 + 1))), (5, .int ((3 * (if 0 ≤ ((nI k3_20) - (s_20.1 h1 2)) then ((nI k3_20) - (s_20.1 h1 2)) else 0 - ((nI k3_20) - (s_20.1 h1 2)))) + (fX5_costToBreak s_20 h1 (fX2_alikeTo s_20 h1 a2 (nI k3_20) (fX2_shown s_20 h1))))), (4, .int (fX2_alikeTo s_20 h1 a2 (nI k3_20) (fX2_shown s_20 h1))), (0, .ref (D.2.1 6)), (1, .ref (D.2.1 h1)), (2, .int a2)] rfl ?_
                refine j_goto F dX5_seekCampaign_108 20 (by decide) ?_
                refine j_pick [3, 4, 5, 0] [(0, .ref (D.2.1 6)), (1, .ref (D.2.1 h1)), (2, .int a2), (3, .int (nI (k3_20 + 1)))] rfl ?_
                exact ih_20 s_20 (k3_20 + 1) (by omega) (by omega)
            · rw [if_pos c_76]
              refine j_pick [2, 3, 4, 5, 1, 0] [(0, .ref (D.2.1 6)), (1, .ref (D.2.1 h1)), (2, .int a2), (3, .int (nI k3_20)), (4, .int (fX2_alikeTo s_20 h1 a2 (nI k3_20) (fX2_shown s_20 h1))), (5, .int ((3 * (if 0 ≤ ((nI k3_20) - (s_20.1 h1 2)) then ((nI k3_20) - (s_20.1 h1 2)) else 0 - ((nI k3_20) - (s_20.1 h1 2)))) + (fX5_costToBreak s_20 h1 (fX2_alikeTo s_20 h1 a2 (nI k3_20) (fX2_shown s_20 h1)))))] rfl ?_
              exact jn_88
        · rw [if_neg c_22]
          exact j_ret_v F dX5_seekCampaign_111 rfl rfl rfl
    refine j_pick [1, 2, 3, 0] [(0, .ref (D.2.1 6)), (1, .ref (D.2.1 h1)), (2, .int a2), (3, .int 1)] rfl ?_
    exact lp_20 6 (up s_12 6 2 (-9)) 1 (by omega) (by omega)
  exact jn_12 (up (up σ 6 0 (-9)) 6 1 (-9)) 
def fX5_wordOfMostLast_50 (σ : Mm) (h1 : Nat) (kb4 : Int32 → Nat → Int32) (x2_50 : Int32) (k3_50 : Nat) (x4_50 : Int32) (bt0_50 : Bool) : Int32 := if x4_50 ≤ 0 then (if x4_50 = 0 then (if bt0_50 = true then (kb4 (nI k3_50) (k3_50 + 1)) else (kb4 x2_50 (k3_50 + 1))) else (kb4 x2_50 (k3_50 + 1))) else (kb4 (nI k3_50) (k3_50 + 1))
def fX5_wordOfMostLast_4 (σ : Mm) (h1 : Nat)  : Nat → Int32 → Nat → Int32
  | 0, _, _ => 0
  | n + 1, x2_4, k3_4 => if (nI k3_4) ≤ 4 then (if (if 0 ≤ ((nI k3_4) - (σ.1 h1 2)) then ((nI k3_4) - (σ.1 h1 2)) else 0 - ((nI k3_4) - (σ.1 h1 2))) < (if 0 ≤ (x2_4 - (σ.1 h1 2)) then (x2_4 - (σ.1 h1 2)) else 0 - (x2_4 - (σ.1 h1 2))) then (fX5_wordOfMostLast_50 σ h1 (fX5_wordOfMostLast_4 σ h1 n) x2_4 k3_4 ((fX5_lastBy σ h1 (nI k3_4)) - (fX5_lastBy σ h1 x2_4)) true) else (fX5_wordOfMostLast_50 σ h1 (fX5_wordOfMostLast_4 σ h1 n) x2_4 k3_4 ((fX5_lastBy σ h1 (nI k3_4)) - (fX5_lastBy σ h1 x2_4)) false)) else (x2_4)
def fX5_wordOfMostLast (σ : Mm) (h1 : Nat) : Int32 := fX5_wordOfMostLast_4 σ h1 6 1 2
set_option maxRecDepth 20000 in
theorem kX5_wordOfMostLast (l : Launch) (D : Dm) (h1 : Nat) (σ : Mm) (hh1 : hsP h1) : Ct l yX5_wordOfMostLast cX5_wordOfMostLast 6 (some .int) 6 D [.ref (D.2.1 6), .ref (D.2.1 h1)] σ (some (.int (fX5_wordOfMostLast σ h1)), σ) := by
  refine ct_of (by decide +kernel) (Nat.le_of_ble_eq_true rfl) (fun X F => ?_)
  have F : Fx X l 6 D cX5_wordOfMostLast RX5 6 (some .int) := F
  show JJ X 6 D σ 0 [(0, .ref (D.2.1 6)), (1, .ref (D.2.1 h1))] [] (QQ X D (some (.int (fX5_wordOfMostLast σ h1)), σ))
  rw [fX5_wordOfMostLast]
  refine j_iconst (v := 1) F dX5_wordOfMostLast_0 1 rfl (by decide) ?_
  refine j_istore_n F dX5_wordOfMostLast_1 2 rfl 2 rfl (by decide) [(2, .int 1), (0, .ref (D.2.1 6)), (1, .ref (D.2.1 h1))] rfl ?_
  refine j_iconst (v := 2) F dX5_wordOfMostLast_2 3 rfl (by decide) ?_
  refine j_istore_n F dX5_wordOfMostLast_3 4 rfl 3 rfl (by decide) [(3, .int 2), (2, .int 1), (0, .ref (D.2.1 6)), (1, .ref (D.2.1 h1))] rfl ?_
  have lp_4 : ∀ (n_4 : Nat) (x2_4 : Int32) (k3_4 : Nat), k3_4 ≤ 5 → 5 < k3_4 + n_4 → JJ X 6 D σ 4 [(0, .ref (D.2.1 6)), (1, .ref (D.2.1 h1)), (2, .int x2_4), (3, .int (nI k3_4))] [] (QQ X D (some (.int (fX5_wordOfMostLast_4 σ h1 n_4 x2_4 k3_4)), σ)) := by
    intro n_4
    induction n_4 with
    | zero => intro x2_4 k3_4 hk_4 hn_4; exact absurd hn_4 (by omega)
    | succ n_4 ih_4 =>
      intro x2_4 k3_4 hk_4 hn_4
      rw [fX5_wordOfMostLast_4]
      refine j_iload_n F dX5_wordOfMostLast_4 5 rfl 3 rfl ?_
      refine j_iconst (v := 4) F dX5_wordOfMostLast_5 6 rfl (by decide) ?_
      refine j_icmp_gt F dX5_wordOfMostLast_6 75 (by decide) 9 rfl (fun c_6 => ?_) (fun c_6 => ?_)
      · rw [if_pos c_6]
        have h_6 : k3_4 < 5 := nle c_6 (by decide) (by omega)
        refine j_aload_n F dX5_wordOfMostLast_9 10 rfl 0 rfl ?_
        refine j_aload_n F dX5_wordOfMostLast_10 11 rfl 1 rfl ?_
        refine j_iload_n F dX5_wordOfMostLast_11 12 rfl 3 rfl ?_
        refine j_callVr (as := [.ref (D.2.1 h1), .int (nI k3_4)]) (st := []) (r := .int (fX5_lastBy σ h1 (nI k3_4))) (σ9 := σ) F zX5_lastBy dX5_wordOfMostLast_12 15 rfl pX5_lastBy rfl (by decide) (by decide) (Nat.le_of_ble_eq_true rfl) rfl qX5_56 rfl rfl (by decide) sh6 (kX5_lastBy l D h1 (nI k3_4) σ hh1) ?_
        refine j_aload_n F dX5_wordOfMostLast_15 16 rfl 0 rfl ?_
        refine j_aload_n F dX5_wordOfMostLast_16 17 rfl 1 rfl ?_
        refine j_iload_n F dX5_wordOfMostLast_17 18 rfl 2 rfl ?_
        refine j_callVr (as := [.ref (D.2.1 h1), .int x2_4]) (st := [.int (fX5_lastBy σ h1 (nI k3_4))]) (r := .int (fX5_lastBy σ h1 x2_4)) (σ9 := σ) F zX5_lastBy dX5_wordOfMostLast_18 21 rfl pX5_lastBy rfl (by decide) (by decide) (Nat.le_of_ble_eq_true rfl) rfl qX5_56 rfl rfl (by decide) sh6 (kX5_lastBy l D h1 x2_4 σ hh1) ?_
        refine j_isub F dX5_wordOfMostLast_21 22 rfl ?_
        refine j_istore F dX5_wordOfMostLast_22 24 rfl (by decide) [(4, .int ((fX5_lastBy σ h1 (nI k3_4)) - (fX5_lastBy σ h1 x2_4))), (0, .ref (D.2.1 6)), (1, .ref (D.2.1 h1)), (2, .int x2_4), (3, .int (nI k3_4))] rfl ?_
        refine j_iload_n F dX5_wordOfMostLast_24 25 rfl 4 rfl ?_
        refine j_aload_n F dX5_wordOfMostLast_25 26 rfl 2 rfl ?_
        refine j_get (j := 2) F dX5_wordOfMostLast_26 29 rfl inX2 rfl (hsP.lt hh1) (shH hh1) (by decide) qX5_34 rfl ?_
        refine j_isub F dX5_wordOfMostLast_29 30 rfl ?_
        refine j_mabs F dX5_wordOfMostLast_30 33 rfl (by decide) (Nat.le_of_ble_eq_true rfl) qX5_37 mth_abs.1 mth_abs.2.1 mth_abs.2.2 ?_
        refine j_iload_n F dX5_wordOfMostLast_33 34 rfl 3 rfl ?_
        refine j_aload_n F dX5_wordOfMostLast_34 35 rfl 2 rfl ?_
        refine j_get (j := 2) F dX5_wordOfMostLast_35 38 rfl inX2 rfl (hsP.lt hh1) (shH hh1) (by decide) qX5_34 rfl ?_
        refine j_isub F dX5_wordOfMostLast_38 39 rfl ?_
        refine j_mabs F dX5_wordOfMostLast_39 42 rfl (by decide) (Nat.le_of_ble_eq_true rfl) qX5_37 mth_abs.1 mth_abs.2.1 mth_abs.2.2 ?_
        have jn_50 : ∀ (bt0_50 : Bool), JJ X 6 D σ 50 [(0, .ref (D.2.1 6)), (1, .ref (D.2.1 h1)), (2, .int x2_4), (3, .int (nI k3_4)), (4, .int ((fX5_lastBy σ h1 (nI k3_4)) - (fX5_lastBy σ h1 x2_4)))] [.int (bi bt0_50)] (QQ X D (some (.int (fX5_wordOfMostLast_50 σ h1 (fX5_wordOfMostLast_4 σ h1 n_4) x2_4 k3_4 ((fX5_lastBy σ h1 (nI k3_4)) - (fX5_lastBy σ h1 x2_4)) bt0_50)), σ)) := by
          intro bt0_50
          rw [fX5_wordOfMostLast_50]
          refine j_istore F dX5_wordOfMostLast_50 52 rfl (by decide) [(5, .int (bi bt0_50)), (0, .ref (D.2.1 6)), (1, .ref (D.2.1 h1)), (2, .int x2_4), (3, .int (nI k3_4)), (4, .int ((fX5_lastBy σ h1 (nI k3_4)) - (fX5_lastBy σ h1 x2_4)))] rfl ?_
          refine j_iload F dX5_wordOfMostLast_52 54 rfl 5 rfl ?_
          refine j_if_gt F dX5_wordOfMostLast_54 67 (by decide) 57 rfl (fun c_54 => ?_) (fun c_54 => ?_)
          · rw [if_pos c_54]
            refine j_iload F dX5_wordOfMostLast_57 59 rfl 5 rfl ?_
            refine j_if_ne F dX5_wordOfMostLast_59 69 (by decide) 62 rfl (fun c_59 => ?_) (fun c_59 => ?_)
            · rw [if_pos c_59]
              refine j_iload F dX5_wordOfMostLast_62 64 rfl 0 rfl ?_
              refine j_ifb_eq F dX5_wordOfMostLast_64 69 (by decide) 67 rfl (fun c_64 => ?_) (fun c_64 => ?_)
              · rw [if_pos c_64]
                refine j_iload_n F dX5_wordOfMostLast_67 68 rfl 4 rfl ?_
                refine j_istore_n F dX5_wordOfMostLast_68 69 rfl 2 rfl (by decide) [(2, .int (nI k3_4)), (5, .int (bi bt0_50)), (0, .ref (D.2.1 6)), (1, .ref (D.2.1 h1)), (3, .int (nI k3_4)), (4, .int ((fX5_lastBy σ h1 (nI k3_4)) - (fX5_lastBy σ h1 x2_4)))] rfl ?_
                refine j_iinc F dX5_wordOfMostLast_69 72 rfl 4 rfl (nI (k3_4 + 1)) (nI_inc k3_4) (by decide) [(3, .int (nI (k3_4 + 1))), (2, .int (nI k3_4)), (5, .int (bi bt0_50)), (0, .ref (D.2.1 6)), (1, .ref (D.2.1 h1)), (4, .int ((fX5_lastBy σ h1 (nI k3_4)) - (fX5_lastBy σ h1 x2_4)))] rfl ?_
                refine j_goto F dX5_wordOfMostLast_72 4 (by decide) ?_
                refine j_pick [3, 4, 1, 0] [(0, .ref (D.2.1 6)), (1, .ref (D.2.1 h1)), (2, .int (nI k3_4)), (3, .int (nI (k3_4 + 1)))] rfl ?_
                exact ih_4 (nI k3_4) (k3_4 + 1) (by omega) (by omega)
              · rw [if_neg c_64]
                refine j_iinc F dX5_wordOfMostLast_69 72 rfl 4 rfl (nI (k3_4 + 1)) (nI_inc k3_4) (by decide) [(3, .int (nI (k3_4 + 1))), (5, .int (bi bt0_50)), (0, .ref (D.2.1 6)), (1, .ref (D.2.1 h1)), (2, .int x2_4), (4, .int ((fX5_lastBy σ h1 (nI k3_4)) - (fX5_lastBy σ h1 x2_4)))] rfl ?_
                refine j_goto F dX5_wordOfMostLast_72 4 (by decide) ?_
                refine j_pick [2, 3, 4, 0] [(0, .ref (D.2.1 6)), (1, .ref (D.2.1 h1)), (2, .int x2_4), (3, .int (nI (k3_4 + 1)))] rfl ?_
                exact ih_4 x2_4 (k3_4 + 1) (by omega) (by omega)
            · rw [if_neg c_59]
              refine j_iinc F dX5_wordOfMostLast_69 72 rfl 4 rfl (nI (k3_4 + 1)) (nI_inc k3_4) (by decide) [(3, .int (nI (k3_4 + 1))), (5, .int (bi bt0_50)), (0, .ref (D.2.1 6)), (1, .ref (D.2.1 h1)), (2, .int x2_4), (4, .int ((fX5_lastBy σ h1 (nI k3_4)) - (fX5_lastBy σ h1 x2_4)))] rfl ?_
              refine j_goto F dX5_wordOfMostLast_72 4 (by decide) ?_
              refine j_pick [2, 3, 4, 0] [(0, .ref (D.2.1 6)), (1, .ref (D.2.1 h1)), (2, .int x2_4), (3, .int (nI (k3_4 + 1)))] rfl ?_
              exact ih_4 x2_4 (k3_4 + 1) (by omega) (by omega)
          · rw [if_neg c_54]
            refine j_iload_n F dX5_wordOfMostLast_67 68 rfl 4 rfl ?_
            refine j_istore_n F dX5_wordOfMostLast_68 69 rfl 2 rfl (by decide) [(2, .int (nI k3_4)), (5, .int (bi bt0_50)), (0, .ref (D.2.1 6)), (1, .ref (D.2.1 h1)), (3, .int (nI k3_4)), (4, .int ((fX5_lastBy σ h1 (nI k3_4)) - (fX5_lastBy σ h1 x2_4)))] rfl ?_
            refine j_iinc F dX5_wordOfMostLast_69 72 rfl 4 rfl (nI (k3_4 + 1)) (nI_inc k3_4) (by decide) [(3, .int (nI (k3_4 + 1))), (2, .int (nI k3_4)), (5, .int (bi bt0_50)), (0, .ref (D.2.1 6)), (1, .ref (D.2.1 h1)), (4, .int ((fX5_lastBy σ h1 (nI k3_4)) - (fX5_lastBy σ h1 x2_4)))] rfl ?_
            refine j_goto F dX5_wordOfMostLast_72 4 (by decide) ?_
            refine j_pick [3, 4, 1, 0] [(0, .ref (D.2.1 6)), (1, .ref (D.2.1 h1)), (2, .int (nI k3_4)), (3, .int (nI (k3_4 + 1)))] rfl ?_
            exact ih_4 (nI k3_4) (k3_4 + 1) (by omega) (by omega)
        refine j_icmp_ge F dX5_wordOfMostLast_42 49 (by decide) 45 rfl (fun c_42 => ?_) (fun c_42 => ?_)
        · rw [if_pos c_42]
          refine j_iconst (v := 1) F dX5_wordOfMostLast_45 46 rfl (by decide) ?_
          refine j_goto F dX5_wordOfMostLast_46 50 (by decide) ?_
          refine j_pick [1, 2, 3, 4, 0] [(0, .ref (D.2.1 6)), (1, .ref (D.2.1 h1)), (2, .int x2_4), (3, .int (nI k3_4)), (4, .int ((fX5_lastBy σ h1 (nI k3_4)) - (fX5_lastBy σ h1 x2_4)))] rfl ?_
          exact jn_50 true
        · rw [if_neg c_42]
          refine j_iconst (v := 0) F dX5_wordOfMostLast_49 50 rfl (by decide) ?_
          refine j_pick [1, 2, 3, 4, 0] [(0, .ref (D.2.1 6)), (1, .ref (D.2.1 h1)), (2, .int x2_4), (3, .int (nI k3_4)), (4, .int ((fX5_lastBy σ h1 (nI k3_4)) - (fX5_lastBy σ h1 x2_4)))] rfl ?_
          exact jn_50 false
      · rw [if_neg c_6]
        refine j_iload_n F dX5_wordOfMostLast_75 76 rfl 2 rfl ?_
        exact j_ret_i F dX5_wordOfMostLast_76 rfl rfl rfl
  refine j_pick [2, 3, 1, 0] [(0, .ref (D.2.1 6)), (1, .ref (D.2.1 h1)), (2, .int 1), (3, .int 2)] rfl ?_
  exact lp_4 6 1 2 (by omega) (by omega)
def fX6_clear (σ : Mm)  : Mm := (up σ 4 2 0)
set_option maxRecDepth 20000 in
theorem kX6_clear (l : Launch) (D : Dm)  (σ : Mm)  : Ct l yX6_clear cX6_clear 1 none 1 D [.ref (D.2.1 4)] σ (none, fX6_clear σ) := by
  refine ct_of (by decide +kernel) (Nat.le_of_ble_eq_true rfl) (fun X F => ?_)
  have F : Fx X l 1 D cX6_clear RX6 1 none := F
  show JJ X 1 D σ 0 [(0, .ref (D.2.1 4))] [] (QQ X D (none, fX6_clear σ))
  rw [fX6_clear]
  refine j_aload_n F dX6_clear_0 1 rfl 0 rfl ?_
  refine j_iconst (v := 0) F dX6_clear_1 2 rfl (by decide) ?_
  refine j_put (j := 2) F dX6_clear_2 5 rfl inX6 tyX6 tyX6_ok nmX6 rfl (by decide) sh4 sh4 (by decide) qX6_18 rfl (tyX6_ok 2 (by decide)) (Nat.le_of_ble_eq_true rfl) ?_
  exact j_ret_v F dX6_clear_5 rfl rfl rfl
def fX6_placeAt (σ : Mm) (a1 : Int32) : Nat := (57 + 2 * a1.toNatClampNeg)
set_option maxRecDepth 20000 in
theorem kX6_placeAt (l : Launch) (D : Dm) (a1 : Int32) (σ : Mm) (hv : vp_in a1 16) : Ct l yX6_placeAt cX6_placeAt 2 (some (.object "LastOfKind$House")) 1 D [.ref (D.2.1 4), .int a1] σ (some (.ref (D.2.1 (fX6_placeAt σ a1))), σ) := by
  refine ct_of (by decide +kernel) (Nat.le_of_ble_eq_true rfl) (fun X F => ?_)
  have F : Fx X l 2 D cX6_placeAt RX6 1 (some (.object "LastOfKind$House")) := F
  show JJ X 2 D σ 0 [(0, .ref (D.2.1 4)), (1, .int a1)] [] (QQ X D (some (.ref (D.2.1 (fX6_placeAt σ a1))), σ))
  rw [fX6_placeAt]
  refine j_iload_n F dX6_placeAt_0 1 rfl 1 rfl ?_
  refine j_if_lt F dX6_placeAt_1 22 (by decide) 4 rfl (fun c_1 => ?_) (fun c_1 => ?_)
  · skip
    refine j_iload_n F dX6_placeAt_4 5 rfl 1 rfl ?_
    refine j_aload_n F dX6_placeAt_5 6 rfl 0 rfl ?_
    refine j_get (j := 0) F dX6_placeAt_6 9 rfl inX6 rfl (by decide) sh4 (by decide) qX6_11 rfl ?_
    refine j_alenq F dX6_placeAt_9 10 rfl (by decide) sh5 ?_
    refine j_icmp_ge F dX6_placeAt_10 22 (by decide) 13 rfl (fun c_10 => ?_) (fun c_10 => ?_)
    · skip
      refine j_aload_n F dX6_placeAt_13 14 rfl 0 rfl ?_
      refine j_get (j := 0) F dX6_placeAt_14 17 rfl inX6 rfl (by decide) sh4 (by decide) qX6_11 rfl ?_
      refine j_iload_n F dX6_placeAt_17 18 rfl 1 rfl ?_
      refine j_qald F dX6_placeAt_18 19 rfl (by decide) sh5 (by first | assumption | exact vin_c (by assumption) (by assumption) (by decide) | exact vin_d (by assumption) (by assumption) (by decide) | exact vin_k (by assumption) (by assumption) (by decide) | exact vin_mono (by assumption) (by decide) | exact vin_mono (isThing_in (by assumption) (by assumption)) (by decide)) rfl ?_
      refine j_goto F dX6_placeAt_19 23 (by decide) ?_
      exact j_ret_a F dX6_placeAt_23 rfl rfl rfl
    · exact absurd (vinN hv (by decide)) c_10
  · exact absurd (vin0 hv) c_1
def fX6_remember_32 (h1 : Nat)  (s_32 : Mm) : Mm := (up s_32 4 2 (if 16 < ((s_32.1 4 2) + 1) then 16 else ((s_32.1 4 2) + 1)))
def fX6_remember (σ : Mm) (h1 : Nat) : Mm := fX6_remember_32 h1 (up (fX2_copyFrom σ (fX6_placeAt σ (σ.1 4 1)) h1) 4 1 (rm (((fX2_copyFrom σ (fX6_placeAt σ (σ.1 4 1)) h1).1 4 1) + 1) 16))
set_option maxRecDepth 20000 in
theorem kX6_remember (l : Launch) (D : Dm) (h1 : Nat) (σ : Mm) (hh1 : hsP h1) (hx : vp_in (σ.1 4 1) 16) : Ct l yX6_remember cX6_remember 3 none 3 D [.ref (D.2.1 4), .ref (D.2.1 h1)] σ (none, fX6_remember σ h1) := by
  refine ct_of (by decide +kernel) (Nat.le_of_ble_eq_true rfl) (fun X F => ?_)
  have F : Fx X l 3 D cX6_remember RX6 3 none := F
  show JJ X 3 D σ 0 [(0, .ref (D.2.1 4)), (1, .ref (D.2.1 h1))] [] (QQ X D (none, fX6_remember σ h1))
  rw [fX6_remember]
  refine j_aload_n F dX6_remember_0 1 rfl 0 rfl ?_
  refine j_aload_n F dX6_remember_1 2 rfl 0 rfl ?_
  refine j_get (j := 1) F dX6_remember_2 5 rfl inX6 rfl (by decide) sh4 (by decide) qX6_22 rfl ?_
  refine j_callVr (as := [.int (σ.1 4 1)]) (st := []) (r := .ref (D.2.1 (fX6_placeAt σ (σ.1 4 1)))) (σ9 := σ) F zX6_placeAt dX6_remember_5 8 rfl pX6_placeAt rfl (by decide) (by decide) (Nat.le_of_ble_eq_true rfl) rfl qX6_25 rfl rfl (by decide) sh4 (kX6_placeAt l D (σ.1 4 1) σ (by first | assumption | exact isThing_in (by assumption) (by assumption) | exact vin_mono (by assumption) (by decide) | omega | decide)) ?_
  refine j_astore_n F dX6_remember_8 9 rfl 2 rfl (by decide) [(2, .ref (D.2.1 (fX6_placeAt σ (σ.1 4 1)))), (0, .ref (D.2.1 4)), (1, .ref (D.2.1 h1))] rfl ?_
  refine j_aload_n F dX6_remember_9 10 rfl 0 rfl ?_
  refine j_nonnull F dX6_remember_10 14 (by decide) ?_
  refine j_aload_n F dX6_remember_14 15 rfl 0 rfl ?_
  refine j_aload_n F dX6_remember_15 16 rfl 2 rfl ?_
  refine j_callVv (as := [.ref (D.2.1 h1)]) (st := []) (σ9 := (fX2_copyFrom σ (fX6_placeAt σ (σ.1 4 1)) h1)) F zX2_copyFrom dX6_remember_16 19 rfl pX2_copyFrom rfl (by decide) (by decide) (Nat.le_of_ble_eq_true rfl) rfl qX6_29 rfl rfl (hsP.lt (hsR (by first | assumption | exact isThing_in (by assumption) (by assumption) | exact vin_mono (by assumption) (by decide) | omega | decide))) (shH (hsR (by first | assumption | exact isThing_in (by assumption) (by assumption) | exact vin_mono (by assumption) (by decide) | omega | decide))) (kX2_copyFrom l D (fX6_placeAt σ (σ.1 4 1)) h1 σ (hsR (by first | assumption | exact isThing_in (by assumption) (by assumption) | exact vin_mono (by assumption) (by decide) | omega | decide)) hh1) ?_
  refine j_aload_n F dX6_remember_19 20 rfl 1 rfl ?_
  refine j_aload_n F dX6_remember_20 21 rfl 1 rfl ?_
  refine j_get (j := 1) F dX6_remember_21 24 rfl inX6 rfl (by decide) sh4 (by decide) qX6_22 rfl ?_
  refine j_iconst (v := 1) F dX6_remember_24 25 rfl (by decide) ?_
  refine j_iadd F dX6_remember_25 26 rfl ?_
  refine j_bipush (v := 16) F dX6_remember_26 28 rfl (by decide) ?_
  refine j_irem F dX6_remember_28 29 rfl (by decide) ?_
  refine j_put (j := 1) F dX6_remember_29 32 rfl inX6 tyX6 tyX6_ok nmX6 rfl (by decide) sh4 sh4 (by decide) qX6_22 rfl (tyX6_ok 1 (by decide)) (Nat.le_of_ble_eq_true rfl) ?_
  refine j_pick [1] [(0, .ref (D.2.1 4))] rfl ?_
  have jn_32 : ∀ (s_32 : Mm), JJ X 3 D s_32 32 [(0, .ref (D.2.1 4))] [] (QQ X D (none, fX6_remember_32 h1 s_32)) := by
    intro s_32
    rw [fX6_remember_32]
    refine j_aload_n F dX6_remember_32 33 rfl 0 rfl ?_
    refine j_aload_n F dX6_remember_33 34 rfl 0 rfl ?_
    refine j_get (j := 2) F dX6_remember_34 37 rfl inX6 rfl (by decide) sh4 (by decide) qX6_18 rfl ?_
    refine j_iconst (v := 1) F dX6_remember_37 38 rfl (by decide) ?_
    refine j_iadd F dX6_remember_38 39 rfl ?_
    refine j_bipush (v := 16) F dX6_remember_39 41 rfl (by decide) ?_
    refine j_mmin F dX6_remember_41 44 rfl (by decide) (Nat.le_of_ble_eq_true rfl) qX6_33 mth_min.1 mth_min.2.1 mth_min.2.2 ?_
    refine j_put (j := 2) F dX6_remember_44 47 rfl inX6 tyX6 tyX6_ok nmX6 rfl (by decide) sh4 sh4 (by decide) qX6_18 rfl (tyX6_ok 2 (by decide)) (Nat.le_of_ble_eq_true rfl) ?_
    exact j_ret_v F dX6_remember_47 rfl rfl rfl
  exact jn_32 (up (fX2_copyFrom σ (fX6_placeAt σ (σ.1 4 1)) h1) 4 1 (rm (((fX2_copyFrom σ (fX6_placeAt σ (σ.1 4 1)) h1).1 4 1) + 1) 16)) 
def fX6_takeBack_42 (h1 : Nat)  (s_42 : Mm) : Bool × Mm := (true, (up s_42 4 2 ((s_42.1 4 2) - 1)))
def fX6_takeBack (σ : Mm) (h1 : Nat) : Bool × Mm := if 0 < (σ.1 4 2) then (fX6_takeBack_42 h1 (up (fX2_copyFrom σ h1 (fX6_placeAt σ (rm (((σ.1 4 1) + 16) - 1) 16))) 4 1 (rm (((σ.1 4 1) + 16) - 1) 16))) else ((false, σ))
set_option maxRecDepth 20000 in
theorem kX6_takeBack (l : Launch) (D : Dm) (h1 : Nat) (σ : Mm) (hh1 : hsP h1) (hx : vp_in (σ.1 4 1) 16) : Ct l yX6_takeBack cX6_takeBack 4 (some .boolean) 3 D [.ref (D.2.1 4), .ref (D.2.1 h1)] σ (some (.int (bi (fX6_takeBack σ h1).1)), (fX6_takeBack σ h1).2) := by
  refine ct_of (by decide +kernel) (Nat.le_of_ble_eq_true rfl) (fun X F => ?_)
  have F : Fx X l 4 D cX6_takeBack RX6 3 (some .boolean) := F
  show JJ X 4 D σ 0 [(0, .ref (D.2.1 4)), (1, .ref (D.2.1 h1))] [] (QQ X D (some (.int (bi (fX6_takeBack σ h1).1)), (fX6_takeBack σ h1).2))
  rw [fX6_takeBack]
  refine j_aload_n F dX6_takeBack_0 1 rfl 0 rfl ?_
  refine j_get (j := 1) F dX6_takeBack_1 4 rfl inX6 rfl (by decide) sh4 (by decide) qX6_22 rfl ?_
  refine j_bipush (v := 16) F dX6_takeBack_4 6 rfl (by decide) ?_
  refine j_iadd F dX6_takeBack_6 7 rfl ?_
  refine j_iconst (v := 1) F dX6_takeBack_7 8 rfl (by decide) ?_
  refine j_isub F dX6_takeBack_8 9 rfl ?_
  refine j_bipush (v := 16) F dX6_takeBack_9 11 rfl (by decide) ?_
  refine j_irem F dX6_takeBack_11 12 rfl (by decide) ?_
  refine j_istore_n F dX6_takeBack_12 13 rfl 2 rfl (by decide) [(2, .int (rm (((σ.1 4 1) + 16) - 1) 16)), (0, .ref (D.2.1 4)), (1, .ref (D.2.1 h1))] rfl ?_
  refine j_aload_n F dX6_takeBack_13 14 rfl 1 rfl ?_
  refine j_iload_n F dX6_takeBack_14 15 rfl 0 rfl ?_
  refine j_callVr (as := [.int (rm (((σ.1 4 1) + 16) - 1) 16)]) (st := []) (r := .ref (D.2.1 (fX6_placeAt σ (rm (((σ.1 4 1) + 16) - 1) 16)))) (σ9 := σ) F zX6_placeAt dX6_takeBack_15 18 rfl pX6_placeAt rfl (by decide) (by decide) (Nat.le_of_ble_eq_true rfl) rfl qX6_25 rfl rfl (by decide) sh4 (kX6_placeAt l D (rm (((σ.1 4 1) + 16) - 1) 16) σ (vin_rm hx)) ?_
  refine j_astore_n F dX6_takeBack_18 19 rfl 3 rfl (by decide) [(3, .ref (D.2.1 (fX6_placeAt σ (rm (((σ.1 4 1) + 16) - 1) 16)))), (2, .int (rm (((σ.1 4 1) + 16) - 1) 16)), (0, .ref (D.2.1 4)), (1, .ref (D.2.1 h1))] rfl ?_
  refine j_aload_n F dX6_takeBack_19 20 rfl 2 rfl ?_
  refine j_get (j := 2) F dX6_takeBack_20 23 rfl inX6 rfl (by decide) sh4 (by decide) qX6_18 rfl ?_
  refine j_if_le F dX6_takeBack_23 30 (by decide) 26 rfl (fun c_23 => ?_) (fun c_23 => ?_)
  · rw [if_pos c_23]
    refine j_aload_n F dX6_takeBack_26 27 rfl 0 rfl ?_
    refine j_nonnull F dX6_takeBack_27 32 (by decide) ?_
    refine j_aload_n F dX6_takeBack_32 33 rfl 3 rfl ?_
    refine j_aload_n F dX6_takeBack_33 34 rfl 0 rfl ?_
    refine j_callVv (as := [.ref (D.2.1 (fX6_placeAt σ (rm (((σ.1 4 1) + 16) - 1) 16)))]) (st := []) (σ9 := (fX2_copyFrom σ h1 (fX6_placeAt σ (rm (((σ.1 4 1) + 16) - 1) 16)))) F zX2_copyFrom dX6_takeBack_34 37 rfl pX2_copyFrom rfl (by decide) (by decide) (Nat.le_of_ble_eq_true rfl) rfl qX6_29 rfl rfl (hsP.lt hh1) (shH hh1) (kX2_copyFrom l D h1 (fX6_placeAt σ (rm (((σ.1 4 1) + 16) - 1) 16)) σ hh1 (hsR (vin_rm hx))) ?_
    refine j_aload_n F dX6_takeBack_37 38 rfl 2 rfl ?_
    refine j_iload_n F dX6_takeBack_38 39 rfl 1 rfl ?_
    refine j_put (j := 1) F dX6_takeBack_39 42 rfl inX6 tyX6 tyX6_ok nmX6 rfl (by decide) sh4 sh4 (by decide) qX6_22 rfl (tyX6_ok 1 (by decide)) (Nat.le_of_ble_eq_true rfl) ?_
    refine j_pick [2] [(0, .ref (D.2.1 4))] rfl ?_
    have jn_42 : ∀ (s_42 : Mm), JJ X 4 D s_42 42 [(0, .ref (D.2.1 4))] [] (QQ X D (some (.int (bi (fX6_takeBack_42 h1 s_42).1)), (fX6_takeBack_42 h1 s_42).2)) := by
      intro s_42
      rw [fX6_takeBack_42]
      refine j_aload_n F dX6_takeBack_42 43 rfl 0 rfl ?_
      refine j_dup F dX6_takeBack_43 44 rfl rfl ?_
      refine j_get (j := 2) F dX6_takeBack_44 47 rfl inX6 rfl (by decide) sh4 (by decide) qX6_18 rfl ?_
      refine j_iconst (v := 1) F dX6_takeBack_47 48 rfl (by decide) ?_
      refine j_isub F dX6_takeBack_48 49 rfl ?_
      refine j_put (j := 2) F dX6_takeBack_49 52 rfl inX6 tyX6 tyX6_ok nmX6 rfl (by decide) sh4 sh4 (by decide) qX6_18 rfl (tyX6_ok 2 (by decide)) (Nat.le_of_ble_eq_true rfl) ?_
      refine j_iconst (v := 1) F dX6_takeBack_52 53 rfl (by decide) ?_
      exact j_ret_b (b := true) F dX6_takeBack_53 rfl rfl rfl
    exact jn_42 (up (fX2_copyFrom σ h1 (fX6_placeAt σ (rm (((σ.1 4 1) + 16) - 1) 16))) 4 1 (rm (((σ.1 4 1) + 16) - 1) 16)) 
  · rw [if_neg c_23]
    refine j_iconst (v := 0) F dX6_takeBack_30 31 rfl (by decide) ?_
    exact j_ret_b (b := false) F dX6_takeBack_31 rfl rfl rfl
def fX7_append_38 (a1 : Int32) (a2 : Int32) (a3 : Bool)  (s_38 : Mm) : Bool × Mm := (true, (up (up s_38 29 (s_38.1 26 5).toNatClampNeg (bi a3)) 26 5 (((up s_38 29 (s_38.1 26 5).toNatClampNeg (bi a3)).1 26 5) + 1)))
def fX7_append (σ : Mm) (a1 : Int32) (a2 : Int32) (a3 : Bool) : Bool × Mm := if 0 ≤ (σ.1 26 5) then (if 6 ≤ (σ.1 26 5) then ((false, σ)) else (fX7_append_38 a1 a2 a3 (up (up σ 27 (σ.1 26 5).toNatClampNeg a1) 28 ((up σ 27 (σ.1 26 5).toNatClampNeg a1).1 26 5).toNatClampNeg a2))) else ((false, σ))
set_option maxRecDepth 20000 in
theorem kX7_append (l : Launch) (D : Dm) (a1 : Int32) (a2 : Int32) (a3 : Bool) (σ : Mm)  : Ct l yX7_append cX7_append 4 (some .boolean) 1 D [.ref (D.2.1 26), .int a1, .int a2, .int (bi a3)] σ (some (.int (bi (fX7_append σ a1 a2 a3).1)), (fX7_append σ a1 a2 a3).2) := by
  refine ct_of (by decide +kernel) (Nat.le_of_ble_eq_true rfl) (fun X F => ?_)
  have F : Fx X l 4 D cX7_append RX7 1 (some .boolean) := F
  show JJ X 4 D σ 0 [(0, .ref (D.2.1 26)), (1, .int a1), (2, .int a2), (3, .int (bi a3))] [] (QQ X D (some (.int (bi (fX7_append σ a1 a2 a3).1)), (fX7_append σ a1 a2 a3).2))
  rw [fX7_append]
  refine j_aload_n F dX7_append_0 1 rfl 0 rfl ?_
  refine j_get (j := 5) F dX7_append_1 4 rfl inX7 rfl (by decide) sh26 (by decide) qX7_28 rfl ?_
  refine j_if_lt F dX7_append_4 16 (by decide) 7 rfl (fun c_4 => ?_) (fun c_4 => ?_)
  · rw [if_pos c_4]
    refine j_aload_n F dX7_append_7 8 rfl 0 rfl ?_
    refine j_get (j := 5) F dX7_append_8 11 rfl inX7 rfl (by decide) sh26 (by decide) qX7_28 rfl ?_
    refine j_bipush (v := 6) F dX7_append_11 13 rfl (by decide) ?_
    refine j_icmp_lt F dX7_append_13 18 (by decide) 16 rfl (fun c_13 => ?_) (fun c_13 => ?_)
    · rw [if_pos c_13]
      refine j_iconst (v := 0) F dX7_append_16 17 rfl (by decide) ?_
      exact j_ret_b (b := false) F dX7_append_17 rfl rfl rfl
    · rw [if_neg c_13]
      refine j_aload_n F dX7_append_18 19 rfl 0 rfl ?_
      refine j_get (j := 0) F dX7_append_19 22 rfl inX7 rfl (by decide) sh26 (by decide) qX7_9 rfl ?_
      refine j_aload_n F dX7_append_22 23 rfl 0 rfl ?_
      refine j_get (j := 5) F dX7_append_23 26 rfl inX7 rfl (by decide) sh26 (by decide) qX7_28 rfl ?_
      refine j_iload_n F dX7_append_26 27 rfl 1 rfl ?_
      refine j_iast F dX7_append_27 28 rfl ia27 (by first | assumption | exact vin_c (by assumption) (by assumption) (by decide) | exact vin_d (by assumption) (by assumption) (by decide) | exact vin_k (by assumption) (by assumption) (by decide) | exact vin_mono (by assumption) (by decide) | exact vin_mono (isThing_in (by assumption) (by assumption)) (by decide)) ?_
      refine j_aload_n F dX7_append_28 29 rfl 0 rfl ?_
      refine j_get (j := 1) F dX7_append_29 32 rfl inX7 rfl (by decide) sh26 (by decide) qX7_15 rfl ?_
      refine j_aload_n F dX7_append_32 33 rfl 0 rfl ?_
      refine j_get (j := 5) F dX7_append_33 36 rfl inX7 rfl (by decide) sh26 (by decide) qX7_28 rfl ?_
      refine j_iload_n F dX7_append_36 37 rfl 2 rfl ?_
      refine j_iast F dX7_append_37 38 rfl ia28 (by first | assumption | exact vin_c (by assumption) (by assumption) (by decide) | exact vin_d (by assumption) (by assumption) (by decide) | exact vin_k (by assumption) (by assumption) (by decide) | exact vin_mono (by assumption) (by decide) | exact vin_mono (isThing_in (by assumption) (by assumption)) (by decide)) ?_
      refine j_pick [0, 3] [(0, .ref (D.2.1 26)), (3, .int (bi a3))] rfl ?_
      have jn_38 : ∀ (s_38 : Mm), (s_38.1 26 5 = σ.1 26 5) → JJ X 4 D s_38 38 [(0, .ref (D.2.1 26)), (3, .int (bi a3))] [] (QQ X D (some (.int (bi (fX7_append_38 a1 a2 a3 s_38).1)), (fX7_append_38 a1 a2 a3 s_38).2)) := by
        intro s_38 hs38
        rw [fX7_append_38]
        refine j_aload_n F dX7_append_38 39 rfl 0 rfl ?_
        refine j_get (j := 2) F dX7_append_39 42 rfl inX7 rfl (by decide) sh26 (by decide) qX7_18 rfl ?_
        refine j_aload_n F dX7_append_42 43 rfl 0 rfl ?_
        refine j_get (j := 5) F dX7_append_43 46 rfl inX7 rfl (by decide) sh26 (by decide) qX7_28 rfl ?_
        refine j_iload_n F dX7_append_46 47 rfl 1 rfl ?_
        refine j_zast (v' := (bi a3)) F dX7_append_47 48 rfl (by decide) (fun _ _ => sh29) (by rw [hs38]; exact vin_d (N := 6) c_4 c_13 (by decide)) (nar_bi _) ?_
        refine j_aload_n F dX7_append_48 49 rfl 0 rfl ?_
        refine j_dup F dX7_append_49 50 rfl rfl ?_
        refine j_get (j := 5) F dX7_append_50 53 rfl inX7 rfl (by decide) sh26 (by decide) qX7_28 rfl ?_
        refine j_iconst (v := 1) F dX7_append_53 54 rfl (by decide) ?_
        refine j_iadd F dX7_append_54 55 rfl ?_
        refine j_put (j := 5) F dX7_append_55 58 rfl inX7 tyX7 tyX7_ok nmX7 rfl (by decide) sh26 sh26 (by decide) qX7_28 rfl (tyX7_ok 5 (by decide)) (Nat.le_of_ble_eq_true rfl) ?_
        refine j_iconst (v := 1) F dX7_append_58 59 rfl (by decide) ?_
        exact j_ret_b (b := true) F dX7_append_59 rfl rfl rfl
      exact jn_38 (up (up σ 27 (σ.1 26 5).toNatClampNeg a1) 28 ((up σ 27 (σ.1 26 5).toNatClampNeg a1).1 26 5).toNatClampNeg a2) rfl
  · rw [if_neg c_4]
    refine j_iconst (v := 0) F dX7_append_16 17 rfl (by decide) ?_
    exact j_ret_b (b := false) F dX7_append_17 rfl rfl rfl
def fX7_isSo_41 (σ : Mm) (a1 : Int32) (a2 : Int32) (kb2 : Nat → Bool) (k3_41 : Nat) (bt0_41 : Bool) : Bool := if (σ.1 27 k3_41) < a2 then (if (bi bt0_41) = (σ.1 29 k3_41) then (kb2 (k3_41 + 1)) else (false)) else (kb2 (k3_41 + 1))
def fX7_isSo_2 (σ : Mm) (a1 : Int32) (a2 : Int32)  : Nat → Nat → Bool
  | 0, _ => false
  | n + 1, k3_2 => if (nI k3_2) < 6 then (if (nI k3_2) < (σ.1 26 5) then (if (σ.1 28 k3_2) ≤ (fJ6_bitCount ((σ.1 30 k3_2) &&& a1)) then (fX7_isSo_41 σ a1 a2 (fX7_isSo_2 σ a1 a2 n) k3_2 true) else (fX7_isSo_41 σ a1 a2 (fX7_isSo_2 σ a1 a2 n) k3_2 false)) else (true)) else (true)
def fX7_isSo (σ : Mm) (a1 : Int32) (a2 : Int32) : Bool := fX7_isSo_2 σ a1 a2 7 0
set_option maxRecDepth 20000 in
theorem kX7_isSo (l : Launch) (D : Dm) (a1 : Int32) (a2 : Int32) (σ : Mm)  : Ct l yX7_isSo cX7_isSo 5 (some .boolean) 2 D [.ref (D.2.1 26), .int a1, .int a2] σ (some (.int (bi (fX7_isSo σ a1 a2))), σ) := by
  refine ct_of (by decide +kernel) (Nat.le_of_ble_eq_true rfl) (fun X F => ?_)
  have F : Fx X l 5 D cX7_isSo RX7 2 (some .boolean) := F
  show JJ X 5 D σ 0 [(0, .ref (D.2.1 26)), (1, .int a1), (2, .int a2)] [] (QQ X D (some (.int (bi (fX7_isSo σ a1 a2))), σ))
  rw [fX7_isSo]
  refine j_iconst (v := 0) F dX7_isSo_0 1 rfl (by decide) ?_
  refine j_istore_n F dX7_isSo_1 2 rfl 3 rfl (by decide) [(3, .int 0), (0, .ref (D.2.1 26)), (1, .int a1), (2, .int a2)] rfl ?_
  have lp_2 : ∀ (n_2 : Nat) (k3_2 : Nat), k3_2 ≤ 6 → 6 < k3_2 + n_2 → JJ X 5 D σ 2 [(0, .ref (D.2.1 26)), (1, .int a1), (2, .int a2), (3, .int (nI k3_2))] [] (QQ X D (some (.int (bi (fX7_isSo_2 σ a1 a2 n_2 k3_2))), σ)) := by
    intro n_2
    induction n_2 with
    | zero => intro k3_2 hk_2 hn_2; exact absurd hn_2 (by omega)
    | succ n_2 ih_2 =>
      intro k3_2 hk_2 hn_2
      rw [fX7_isSo_2]
      refine j_iload_n F dX7_isSo_2 3 rfl 3 rfl ?_
      refine j_bipush (v := 6) F dX7_isSo_3 5 rfl (by decide) ?_
      refine j_icmp_ge F dX7_isSo_5 72 (by decide) 8 rfl (fun c_5 => ?_) (fun c_5 => ?_)
      · rw [if_pos c_5]
        have h_5 : k3_2 < 6 := nlt c_5 (by decide) (by omega)
        refine j_iload_n F dX7_isSo_8 9 rfl 3 rfl ?_
        refine j_aload_n F dX7_isSo_9 10 rfl 0 rfl ?_
        refine j_get (j := 5) F dX7_isSo_10 13 rfl inX7 rfl (by decide) sh26 (by decide) qX7_28 rfl ?_
        refine j_icmp_ge F dX7_isSo_13 72 (by decide) 16 rfl (fun c_13 => ?_) (fun c_13 => ?_)
        · rw [if_pos c_13]
          refine j_aload_n F dX7_isSo_16 17 rfl 0 rfl ?_
          refine j_get (j := 3) F dX7_isSo_17 20 rfl inX7 rfl (by decide) sh26 (by decide) qX7_22 rfl ?_
          refine j_iload_n F dX7_isSo_20 21 rfl 3 rfl ?_
          refine j_iald_n F dX7_isSo_21 22 rfl ia30 k3_2 rfl (by omega) ?_
          refine j_iload_n F dX7_isSo_22 23 rfl 1 rfl ?_
          refine j_iand F dX7_isSo_23 24 rfl ?_
          refine j_callSr (as := [.int ((σ.1 30 k3_2) &&& a1)]) (st := []) (r := .int (fJ6_bitCount ((σ.1 30 k3_2) &&& a1))) (σ9 := σ) F zJ6_bitCount dX7_isSo_24 27 rfl pJ6_bitCount rfl (by decide) (by decide) (Nat.le_of_ble_eq_true rfl) rfl qX7_88 (kJ6_bitCount l D ((σ.1 30 k3_2) &&& a1) σ) ?_
          refine j_aload_n F dX7_isSo_27 28 rfl 0 rfl ?_
          refine j_get (j := 1) F dX7_isSo_28 31 rfl inX7 rfl (by decide) sh26 (by decide) qX7_15 rfl ?_
          refine j_iload_n F dX7_isSo_31 32 rfl 3 rfl ?_
          refine j_iald_n F dX7_isSo_32 33 rfl ia28 k3_2 rfl (by omega) ?_
          have jn_41 : ∀ (bt0_41 : Bool), JJ X 5 D σ 41 [(0, .ref (D.2.1 26)), (1, .int a1), (2, .int a2), (3, .int (nI k3_2))] [.int (bi bt0_41)] (QQ X D (some (.int (bi (fX7_isSo_41 σ a1 a2 (fX7_isSo_2 σ a1 a2 n_2) k3_2 bt0_41))), σ)) := by
            intro bt0_41
            rw [fX7_isSo_41]
            refine j_istore F dX7_isSo_41 43 rfl (by decide) [(4, .int (bi bt0_41)), (0, .ref (D.2.1 26)), (1, .int a1), (2, .int a2), (3, .int (nI k3_2))] rfl ?_
            refine j_aload_n F dX7_isSo_43 44 rfl 1 rfl ?_
            refine j_get (j := 0) F dX7_isSo_44 47 rfl inX7 rfl (by decide) sh26 (by decide) qX7_9 rfl ?_
            refine j_iload_n F dX7_isSo_47 48 rfl 4 rfl ?_
            refine j_iald_n F dX7_isSo_48 49 rfl ia27 k3_2 rfl (by omega) ?_
            refine j_iload_n F dX7_isSo_49 50 rfl 3 rfl ?_
            refine j_icmp_ge F dX7_isSo_50 66 (by decide) 53 rfl (fun c_50 => ?_) (fun c_50 => ?_)
            · rw [if_pos c_50]
              refine j_iload F dX7_isSo_53 55 rfl 0 rfl ?_
              refine j_aload_n F dX7_isSo_55 56 rfl 1 rfl ?_
              refine j_get (j := 2) F dX7_isSo_56 59 rfl inX7 rfl (by decide) sh26 (by decide) qX7_18 rfl ?_
              refine j_iload_n F dX7_isSo_59 60 rfl 4 rfl ?_
              refine j_zald_n F dX7_isSo_60 61 rfl (by decide) (by decide) (fun _ _ => sh29) k3_2 rfl (by omega) ?_
              refine j_icmp_eq F dX7_isSo_61 66 (by decide) 64 rfl (fun c_61 => ?_) (fun c_61 => ?_)
              · rw [if_neg c_61]
                refine j_iconst (v := 0) F dX7_isSo_64 65 rfl (by decide) ?_
                exact j_ret_b (b := false) F dX7_isSo_65 rfl rfl rfl
              · rw [if_pos c_61]
                refine j_iinc F dX7_isSo_66 69 rfl 4 rfl (nI (k3_2 + 1)) (nI_inc k3_2) (by decide) [(3, .int (nI (k3_2 + 1))), (4, .int (bi bt0_41)), (0, .ref (D.2.1 26)), (1, .int a1), (2, .int a2)] rfl ?_
                refine j_goto F dX7_isSo_69 2 (by decide) ?_
                refine j_pick [2, 3, 4, 0] [(0, .ref (D.2.1 26)), (1, .int a1), (2, .int a2), (3, .int (nI (k3_2 + 1)))] rfl ?_
                exact ih_2 (k3_2 + 1) (by omega) (by omega)
            · rw [if_neg c_50]
              refine j_iinc F dX7_isSo_66 69 rfl 4 rfl (nI (k3_2 + 1)) (nI_inc k3_2) (by decide) [(3, .int (nI (k3_2 + 1))), (4, .int (bi bt0_41)), (0, .ref (D.2.1 26)), (1, .int a1), (2, .int a2)] rfl ?_
              refine j_goto F dX7_isSo_69 2 (by decide) ?_
              refine j_pick [2, 3, 4, 0] [(0, .ref (D.2.1 26)), (1, .int a1), (2, .int a2), (3, .int (nI (k3_2 + 1)))] rfl ?_
              exact ih_2 (k3_2 + 1) (by omega) (by omega)
          refine j_icmp_lt F dX7_isSo_33 40 (by decide) 36 rfl (fun c_33 => ?_) (fun c_33 => ?_)
          · rw [if_pos c_33]
            refine j_iconst (v := 1) F dX7_isSo_36 37 rfl (by decide) ?_
            refine j_goto F dX7_isSo_37 41 (by decide) ?_
            exact jn_41 true
          · rw [if_neg c_33]
            refine j_iconst (v := 0) F dX7_isSo_40 41 rfl (by decide) ?_
            exact jn_41 false
        · rw [if_neg c_13]
          refine j_iconst (v := 1) F dX7_isSo_72 73 rfl (by decide) ?_
          exact j_ret_b (b := true) F dX7_isSo_73 rfl rfl rfl
      · rw [if_neg c_5]
        refine j_iconst (v := 1) F dX7_isSo_72 73 rfl (by decide) ?_
        exact j_ret_b (b := true) F dX7_isSo_73 rfl rfl rfl
  refine j_pick [1, 2, 3, 0] [(0, .ref (D.2.1 26)), (1, .int a1), (2, .int a2), (3, .int 0)] rfl ?_
  exact lp_2 7 0 (by omega) (by omega)
def fX7_learn_58 (h1 : Nat)  : Nat → Mm → Nat → Mm
  | 0, s_58, _ => s_58
  | n + 1, s_58, k2_58 => if (nI k2_58) < 8 then (fX7_learn_58 h1 n (up s_58 31 k2_58 0) (k2_58 + 1)) else (s_58)
def fX7_learn_56 (h1 : Nat)  (s_56 : Mm) : Mm := fX7_learn_58 h1 9 s_56 0
def fX7_learn_2 (h1 : Nat)  : Nat → Mm → Nat → Mm
  | 0, s_2, _ => s_2
  | n + 1, s_2, k2_2 => if (nI k2_2) < 6 then (if (fX2_has s_2 h1 (s_2.1 27 k2_2)) = true then (fX7_learn_2 h1 n (up s_2 30 k2_2 ((fX2_alikeTo s_2 h1 (s_2.1 27 k2_2) (s_2.1 h1 2) (fX2_all s_2 h1)) ||| (1 <<< ((s_2.1 27 k2_2) &&& 31)))) (k2_2 + 1)) else (fX7_learn_2 h1 n (up s_2 30 k2_2 0) (k2_2 + 1))) else (fX7_learn_56 h1 s_2)
def fX7_learn (σ : Mm) (h1 : Nat) : Mm := fX7_learn_2 h1 7 σ 0
set_option maxRecDepth 20000 in
theorem kX7_learn (l : Launch) (D : Dm) (h1 : Nat) (σ : Mm) (hh1 : hsP h1) : Ct l yX7_learn cX7_learn 4 none 4 D [.ref (D.2.1 26), .ref (D.2.1 h1)] σ (none, fX7_learn σ h1) := by
  refine ct_of (by decide +kernel) (Nat.le_of_ble_eq_true rfl) (fun X F => ?_)
  have F : Fx X l 4 D cX7_learn RX7 4 none := F
  show JJ X 4 D σ 0 [(0, .ref (D.2.1 26)), (1, .ref (D.2.1 h1))] [] (QQ X D (none, fX7_learn σ h1))
  rw [fX7_learn]
  refine j_iconst (v := 0) F dX7_learn_0 1 rfl (by decide) ?_
  refine j_istore_n F dX7_learn_1 2 rfl 2 rfl (by decide) [(2, .int 0), (0, .ref (D.2.1 26)), (1, .ref (D.2.1 h1))] rfl ?_
  have hx_56 : ∀ (s_56 : Mm), JJ X 4 D s_56 56 [(0, .ref (D.2.1 26))] [] (QQ X D (none, fX7_learn_56 h1 s_56)) := by
    intro s_56
    rw [fX7_learn_56]
    refine j_iconst (v := 0) F dX7_learn_56 57 rfl (by decide) ?_
    refine j_istore_n F dX7_learn_57 58 rfl 2 rfl (by decide) [(2, .int 0), (0, .ref (D.2.1 26))] rfl ?_
    have lp_58 : ∀ (n_58 : Nat) (s_58 : Mm) (k2_58 : Nat), k2_58 ≤ 8 → 8 < k2_58 + n_58 → JJ X 4 D s_58 58 [(0, .ref (D.2.1 26)), (2, .int (nI k2_58))] [] (QQ X D (none, fX7_learn_58 h1 n_58 s_58 k2_58)) := by
      intro n_58
      induction n_58 with
      | zero => intro s_58 k2_58 hk_58 hn_58; exact absurd hn_58 (by omega)
      | succ n_58 ih_58 =>
        intro s_58 k2_58 hk_58 hn_58
        rw [fX7_learn_58]
        refine j_iload_n F dX7_learn_58 59 rfl 1 rfl ?_
        refine j_bipush (v := 8) F dX7_learn_59 61 rfl (by decide) ?_
        refine j_icmp_ge F dX7_learn_61 77 (by decide) 64 rfl (fun c_61 => ?_) (fun c_61 => ?_)
        · rw [if_pos c_61]
          have h_61 : k2_58 < 8 := nlt c_61 (by decide) (by omega)
          refine j_aload_n F dX7_learn_64 65 rfl 0 rfl ?_
          refine j_get (j := 4) F dX7_learn_65 68 rfl inX7 rfl (by decide) sh26 (by decide) qX7_25 rfl ?_
          refine j_iload_n F dX7_learn_68 69 rfl 1 rfl ?_
          refine j_iconst (v := 0) F dX7_learn_69 70 rfl (by decide) ?_
          refine j_iast_n F dX7_learn_70 71 rfl ia31 k2_58 rfl (by omega) ?_
          refine j_iinc F dX7_learn_71 74 rfl 1 rfl (nI (k2_58 + 1)) (nI_inc k2_58) (by decide) [(2, .int (nI (k2_58 + 1))), (0, .ref (D.2.1 26))] rfl ?_
          refine j_goto F dX7_learn_74 58 (by decide) ?_
          refine j_pick [1, 0] [(0, .ref (D.2.1 26)), (2, .int (nI (k2_58 + 1)))] rfl ?_
          exact ih_58 (up s_58 31 k2_58 0) (k2_58 + 1) (by omega) (by omega)
        · rw [if_neg c_61]
          exact j_ret_v F dX7_learn_77 rfl rfl rfl
    refine j_pick [1, 0] [(0, .ref (D.2.1 26)), (2, .int 0)] rfl ?_
    exact lp_58 9 s_56 0 (by omega) (by omega)
  have lp_2 : ∀ (n_2 : Nat) (s_2 : Mm) (k2_2 : Nat), k2_2 ≤ 6 → 6 < k2_2 + n_2 → JJ X 4 D s_2 2 [(0, .ref (D.2.1 26)), (1, .ref (D.2.1 h1)), (2, .int (nI k2_2))] [] (QQ X D (none, fX7_learn_2 h1 n_2 s_2 k2_2)) := by
    intro n_2
    induction n_2 with
    | zero => intro s_2 k2_2 hk_2 hn_2; exact absurd hn_2 (by omega)
    | succ n_2 ih_2 =>
      intro s_2 k2_2 hk_2 hn_2
      rw [fX7_learn_2]
      refine j_iload_n F dX7_learn_2 3 rfl 2 rfl ?_
      refine j_bipush (v := 6) F dX7_learn_3 5 rfl (by decide) ?_
      refine j_icmp_ge F dX7_learn_5 56 (by decide) 8 rfl (fun c_5 => ?_) (fun c_5 => ?_)
      · rw [if_pos c_5]
        have h_5 : k2_2 < 6 := nlt c_5 (by decide) (by omega)
        refine j_aload_n F dX7_learn_8 9 rfl 0 rfl ?_
        refine j_get (j := 0) F dX7_learn_9 12 rfl inX7 rfl (by decide) sh26 (by decide) qX7_9 rfl ?_
        refine j_iload_n F dX7_learn_12 13 rfl 2 rfl ?_
        refine j_iald_n F dX7_learn_13 14 rfl ia27 k2_2 rfl (by omega) ?_
        refine j_istore_n F dX7_learn_14 15 rfl 3 rfl (by decide) [(3, .int (s_2.1 27 k2_2)), (0, .ref (D.2.1 26)), (1, .ref (D.2.1 h1)), (2, .int (nI k2_2))] rfl ?_
        refine j_aload_n F dX7_learn_15 16 rfl 1 rfl ?_
        refine j_get (j := 3) F dX7_learn_16 19 rfl inX7 rfl (by decide) sh26 (by decide) qX7_22 rfl ?_
        refine j_iload_n F dX7_learn_19 20 rfl 3 rfl ?_
        refine j_aload_n F dX7_learn_20 21 rfl 2 rfl ?_
        refine j_iload_n F dX7_learn_21 22 rfl 0 rfl ?_
        refine j_callVr (as := [.int (s_2.1 27 k2_2)]) (st := [.int (nI k2_2), .ref (D.2.1 30)]) (r := .int (bi (fX2_has s_2 h1 (s_2.1 27 k2_2)))) (σ9 := s_2) F zX2_has dX7_learn_22 25 rfl pX2_has rfl (by decide) (by decide) (Nat.le_of_ble_eq_true rfl) rfl qX7_74 rfl rfl (hsP.lt hh1) (shH hh1) (kX2_has l D h1 (s_2.1 27 k2_2) s_2 hh1) ?_
        refine j_ifb_eq F dX7_learn_25 48 (by decide) 28 rfl (fun c_25 => ?_) (fun c_25 => ?_)
        · rw [if_pos c_25]
          refine j_aload_n F dX7_learn_28 29 rfl 2 rfl ?_
          refine j_iload_n F dX7_learn_29 30 rfl 0 rfl ?_
          refine j_aload_n F dX7_learn_30 31 rfl 2 rfl ?_
          refine j_get (j := 2) F dX7_learn_31 34 rfl inX2 rfl (hsP.lt hh1) (shH hh1) (by decide) qX7_78 rfl ?_
          refine j_aload_n F dX7_learn_34 35 rfl 2 rfl ?_
          refine j_callVr (as := []) (st := [.int (s_2.1 h1 2), .int (s_2.1 27 k2_2), .ref (D.2.1 h1), .int (nI k2_2), .ref (D.2.1 30)]) (r := .int (fX2_all s_2 h1)) (σ9 := s_2) F zX2_all dX7_learn_35 38 rfl pX2_all rfl (by decide) (by decide) (Nat.le_of_ble_eq_true rfl) rfl qX7_81 rfl rfl (hsP.lt hh1) (shH hh1) (kX2_all l D h1 s_2 hh1) ?_
          refine j_callVr (as := [.int (s_2.1 27 k2_2), .int (s_2.1 h1 2), .int (fX2_all s_2 h1)]) (st := [.int (nI k2_2), .ref (D.2.1 30)]) (r := .int (fX2_alikeTo s_2 h1 (s_2.1 27 k2_2) (s_2.1 h1 2) (fX2_all s_2 h1))) (σ9 := s_2) F zX2_alikeTo dX7_learn_38 41 rfl pX2_alikeTo rfl (by decide) (by decide) (Nat.le_of_ble_eq_true rfl) rfl qX7_84 rfl rfl (hsP.lt hh1) (shH hh1) (kX2_alikeTo l D h1 (s_2.1 27 k2_2) (s_2.1 h1 2) (fX2_all s_2 h1) s_2 hh1) ?_
          refine j_iconst (v := 1) F dX7_learn_41 42 rfl (by decide) ?_
          refine j_iload_n F dX7_learn_42 43 rfl 0 rfl ?_
          refine j_ishl F dX7_learn_43 44 rfl ?_
          refine j_ior F dX7_learn_44 45 rfl ?_
          refine j_goto F dX7_learn_45 49 (by decide) ?_
          refine j_iast_n F dX7_learn_49 50 rfl ia30 k2_2 rfl (by omega) ?_
          refine j_iinc F dX7_learn_50 53 rfl 3 rfl (nI (k2_2 + 1)) (nI_inc k2_2) (by decide) [(2, .int (nI (k2_2 + 1))), (3, .int (s_2.1 27 k2_2)), (0, .ref (D.2.1 26)), (1, .ref (D.2.1 h1))] rfl ?_
          refine j_goto F dX7_learn_53 2 (by decide) ?_
          refine j_pick [2, 3, 0] [(0, .ref (D.2.1 26)), (1, .ref (D.2.1 h1)), (2, .int (nI (k2_2 + 1)))] rfl ?_
          exact ih_2 (up s_2 30 k2_2 ((fX2_alikeTo s_2 h1 (s_2.1 27 k2_2) (s_2.1 h1 2) (fX2_all s_2 h1)) ||| (1 <<< ((s_2.1 27 k2_2) &&& 31)))) (k2_2 + 1) (by omega) (by omega)
        · rw [if_neg c_25]
          refine j_iconst (v := 0) F dX7_learn_48 49 rfl (by decide) ?_
          refine j_iast_n F dX7_learn_49 50 rfl ia30 k2_2 rfl (by omega) ?_
          refine j_iinc F dX7_learn_50 53 rfl 3 rfl (nI (k2_2 + 1)) (nI_inc k2_2) (by decide) [(2, .int (nI (k2_2 + 1))), (3, .int (s_2.1 27 k2_2)), (0, .ref (D.2.1 26)), (1, .ref (D.2.1 h1))] rfl ?_
          refine j_goto F dX7_learn_53 2 (by decide) ?_
          refine j_pick [2, 3, 0] [(0, .ref (D.2.1 26)), (1, .ref (D.2.1 h1)), (2, .int (nI (k2_2 + 1)))] rfl ?_
          exact ih_2 (up s_2 30 k2_2 0) (k2_2 + 1) (by omega) (by omega)
      · rw [if_neg c_5]
        refine j_pick [0] [(0, .ref (D.2.1 26))] rfl ?_
        exact hx_56 s_2
  refine j_pick [1, 2, 0] [(0, .ref (D.2.1 26)), (1, .ref (D.2.1 h1)), (2, .int 0)] rfl ?_
  exact lp_2 7 σ 0 (by omega) (by omega)
def fX7_mostTelling_25 (σ : Mm) (h1 : Nat)  : Nat → Int32 → Int32 → Int32 → Nat → Int32
  | 0, _, _, _, _ => 0
  | n + 1, x2_25, x3_25, x4_25, k5_25 => if (nI k5_25) < 8 then (if (fX9_holds x2_25 (nI k5_25)) = true then (if x4_25 < (if ((σ.1 26 6) - (σ.1 31 k5_25)) < (σ.1 31 k5_25) then ((σ.1 26 6) - (σ.1 31 k5_25)) else (σ.1 31 k5_25)) then (fX7_mostTelling_25 σ h1 n x2_25 (nI k5_25) (if ((σ.1 26 6) - (σ.1 31 k5_25)) < (σ.1 31 k5_25) then ((σ.1 26 6) - (σ.1 31 k5_25)) else (σ.1 31 k5_25)) (k5_25 + 1)) else (fX7_mostTelling_25 σ h1 n x2_25 x3_25 x4_25 (k5_25 + 1))) else (fX7_mostTelling_25 σ h1 n x2_25 x3_25 x4_25 (k5_25 + 1))) else (x3_25)
def fX7_mostTelling_15 (σ : Mm) (h1 : Nat)  (xt0_15 : Int32) : Int32 := fX7_mostTelling_25 σ h1 9 xt0_15 (-9) (-1) 0
def fX7_mostTelling (σ : Mm) (h1 : Nat) : Int32 := if 0 < (σ.1 26 6) then (fX7_mostTelling_15 σ h1 (fX2_unseen σ h1)) else (fX7_mostTelling_15 σ h1 0)
set_option maxRecDepth 20000 in
theorem kX7_mostTelling (l : Launch) (D : Dm) (h1 : Nat) (σ : Mm) (hh1 : hsP h1) : Ct l yX7_mostTelling cX7_mostTelling 7 (some .int) 4 D [.ref (D.2.1 26), .ref (D.2.1 h1)] σ (some (.int (fX7_mostTelling σ h1)), σ) := by
  refine ct_of (by decide +kernel) (Nat.le_of_ble_eq_true rfl) (fun X F => ?_)
  have F : Fx X l 7 D cX7_mostTelling RX7 4 (some .int) := F
  show JJ X 7 D σ 0 [(0, .ref (D.2.1 26)), (1, .ref (D.2.1 h1))] [] (QQ X D (some (.int (fX7_mostTelling σ h1)), σ))
  rw [fX7_mostTelling]
  refine j_aload_n F dX7_mostTelling_0 1 rfl 0 rfl ?_
  refine j_get (j := 6) F dX7_mostTelling_1 4 rfl inX7 rfl (by decide) sh26 (by decide) qX7_42 rfl ?_
  have jn_15 : ∀ (xt0_15 : Int32), JJ X 7 D σ 15 [(0, .ref (D.2.1 26))] [.int xt0_15] (QQ X D (some (.int (fX7_mostTelling_15 σ h1 xt0_15)), σ)) := by
    intro xt0_15
    rw [fX7_mostTelling_15]
    refine j_istore_n F dX7_mostTelling_15 16 rfl 2 rfl (by decide) [(2, .int xt0_15), (0, .ref (D.2.1 26))] rfl ?_
    refine j_bipush (v := (-9)) F dX7_mostTelling_16 18 rfl (by decide) ?_
    refine j_istore_n F dX7_mostTelling_18 19 rfl 3 rfl (by decide) [(3, .int (-9)), (2, .int xt0_15), (0, .ref (D.2.1 26))] rfl ?_
    refine j_iconst (v := (-1)) F dX7_mostTelling_19 20 rfl (by decide) ?_
    refine j_istore F dX7_mostTelling_20 22 rfl (by decide) [(4, .int (-1)), (3, .int (-9)), (2, .int xt0_15), (0, .ref (D.2.1 26))] rfl ?_
    refine j_iconst (v := 0) F dX7_mostTelling_22 23 rfl (by decide) ?_
    refine j_istore F dX7_mostTelling_23 25 rfl (by decide) [(5, .int 0), (4, .int (-1)), (3, .int (-9)), (2, .int xt0_15), (0, .ref (D.2.1 26))] rfl ?_
    have lp_25 : ∀ (n_25 : Nat) (x3_25 : Int32) (x4_25 : Int32) (k5_25 : Nat), k5_25 ≤ 8 → 8 < k5_25 + n_25 → JJ X 7 D σ 25 [(0, .ref (D.2.1 26)), (2, .int xt0_15), (3, .int x3_25), (4, .int x4_25), (5, .int (nI k5_25))] [] (QQ X D (some (.int (fX7_mostTelling_25 σ h1 n_25 xt0_15 x3_25 x4_25 k5_25)), σ)) := by
      intro n_25
      induction n_25 with
      | zero => intro x3_25 x4_25 k5_25 hk_25 hn_25; exact absurd hn_25 (by omega)
      | succ n_25 ih_25 =>
        intro x3_25 x4_25 k5_25 hk_25 hn_25
        rw [fX7_mostTelling_25]
        refine j_iload F dX7_mostTelling_25 27 rfl 4 rfl ?_
        refine j_bipush (v := 8) F dX7_mostTelling_27 29 rfl (by decide) ?_
        refine j_icmp_ge F dX7_mostTelling_29 85 (by decide) 32 rfl (fun c_29 => ?_) (fun c_29 => ?_)
        · rw [if_pos c_29]
          have h_29 : k5_25 < 8 := nlt c_29 (by decide) (by omega)
          refine j_aload_n F dX7_mostTelling_32 33 rfl 0 rfl ?_
          refine j_get (j := 4) F dX7_mostTelling_33 36 rfl inX7 rfl (by decide) sh26 (by decide) qX7_25 rfl ?_
          refine j_iload F dX7_mostTelling_36 38 rfl 4 rfl ?_
          refine j_iald_n F dX7_mostTelling_38 39 rfl ia31 k5_25 rfl (by omega) ?_
          refine j_aload_n F dX7_mostTelling_39 40 rfl 0 rfl ?_
          refine j_get (j := 6) F dX7_mostTelling_40 43 rfl inX7 rfl (by decide) sh26 (by decide) qX7_42 rfl ?_
          refine j_aload_n F dX7_mostTelling_43 44 rfl 0 rfl ?_
          refine j_get (j := 4) F dX7_mostTelling_44 47 rfl inX7 rfl (by decide) sh26 (by decide) qX7_25 rfl ?_
          refine j_iload F dX7_mostTelling_47 49 rfl 4 rfl ?_
          refine j_iald_n F dX7_mostTelling_49 50 rfl ia31 k5_25 rfl (by omega) ?_
          refine j_isub F dX7_mostTelling_50 51 rfl ?_
          refine j_mmin F dX7_mostTelling_51 54 rfl (by decide) (Nat.le_of_ble_eq_true rfl) qX7_65 mth_min.1 mth_min.2.1 mth_min.2.2 ?_
          refine j_istore F dX7_mostTelling_54 56 rfl (by decide) [(6, .int (if ((σ.1 26 6) - (σ.1 31 k5_25)) < (σ.1 31 k5_25) then ((σ.1 26 6) - (σ.1 31 k5_25)) else (σ.1 31 k5_25))), (0, .ref (D.2.1 26)), (2, .int xt0_15), (3, .int x3_25), (4, .int x4_25), (5, .int (nI k5_25))] rfl ?_
          refine j_iload_n F dX7_mostTelling_56 57 rfl 2 rfl ?_
          refine j_iload F dX7_mostTelling_57 59 rfl 5 rfl ?_
          refine j_callSNr (as := [.int xt0_15, .int (nI k5_25)]) (st := []) (r := .int (bi (fX9_holds xt0_15 (nI k5_25)))) (σ9 := σ) F zX9_holds dX7_mostTelling_59 62 rfl pX9_holds rfl (by decide) (by decide) (Nat.le_of_ble_eq_true rfl) rfl qX7_71 (kX9_holds l D xt0_15 (nI k5_25) σ) ?_
          refine j_ifb_eq F dX7_mostTelling_62 79 (by decide) 65 rfl (fun c_62 => ?_) (fun c_62 => ?_)
          · rw [if_pos c_62]
            refine j_iload F dX7_mostTelling_65 67 rfl 0 rfl ?_
            refine j_iload F dX7_mostTelling_67 69 rfl 4 rfl ?_
            refine j_icmp_le F dX7_mostTelling_69 79 (by decide) 72 rfl (fun c_69 => ?_) (fun c_69 => ?_)
            · rw [if_pos c_69]
              refine j_iload F dX7_mostTelling_72 74 rfl 5 rfl ?_
              refine j_istore_n F dX7_mostTelling_74 75 rfl 3 rfl (by decide) [(3, .int (nI k5_25)), (6, .int (if ((σ.1 26 6) - (σ.1 31 k5_25)) < (σ.1 31 k5_25) then ((σ.1 26 6) - (σ.1 31 k5_25)) else (σ.1 31 k5_25))), (0, .ref (D.2.1 26)), (2, .int xt0_15), (4, .int x4_25), (5, .int (nI k5_25))] rfl ?_
              refine j_iload F dX7_mostTelling_75 77 rfl 1 rfl ?_
              refine j_istore F dX7_mostTelling_77 79 rfl (by decide) [(4, .int (if ((σ.1 26 6) - (σ.1 31 k5_25)) < (σ.1 31 k5_25) then ((σ.1 26 6) - (σ.1 31 k5_25)) else (σ.1 31 k5_25))), (3, .int (nI k5_25)), (6, .int (if ((σ.1 26 6) - (σ.1 31 k5_25)) < (σ.1 31 k5_25) then ((σ.1 26 6) - (σ.1 31 k5_25)) else (σ.1 31 k5_25))), (0, .ref (D.2.1 26)), (2, .int xt0_15), (5, .int (nI k5_25))] rfl ?_
              refine j_iinc F dX7_mostTelling_79 82 rfl 5 rfl (nI (k5_25 + 1)) (nI_inc k5_25) (by decide) [(5, .int (nI (k5_25 + 1))), (4, .int (if ((σ.1 26 6) - (σ.1 31 k5_25)) < (σ.1 31 k5_25) then ((σ.1 26 6) - (σ.1 31 k5_25)) else (σ.1 31 k5_25))), (3, .int (nI k5_25)), (6, .int (if ((σ.1 26 6) - (σ.1 31 k5_25)) < (σ.1 31 k5_25) then ((σ.1 26 6) - (σ.1 31 k5_25)) else (σ.1 31 k5_25))), (0, .ref (D.2.1 26)), (2, .int xt0_15)] rfl ?_
              refine j_goto F dX7_mostTelling_82 25 (by decide) ?_
              refine j_pick [4, 5, 2, 1, 0] [(0, .ref (D.2.1 26)), (2, .int xt0_15), (3, .int (nI k5_25)), (4, .int (if ((σ.1 26 6) - (σ.1 31 k5_25)) < (σ.1 31 k5_25) then ((σ.1 26 6) - (σ.1 31 k5_25)) else (σ.1 31 k5_25))), (5, .int (nI (k5_25 + 1)))] rfl ?_
              exact ih_25 (nI k5_25) (if ((σ.1 26 6) - (σ.1 31 k5_25)) < (σ.1 31 k5_25) then ((σ.1 26 6) - (σ.1 31 k5_25)) else (σ.1 31 k5_25)) (k5_25 + 1) (by omega) (by omega)
            · rw [if_neg c_69]
              refine j_iinc F dX7_mostTelling_79 82 rfl 5 rfl (nI (k5_25 + 1)) (nI_inc k5_25) (by decide) [(5, .int (nI (k5_25 + 1))), (6, .int (if ((σ.1 26 6) - (σ.1 31 k5_25)) < (σ.1 31 k5_25) then ((σ.1 26 6) - (σ.1 31 k5_25)) else (σ.1 31 k5_25))), (0, .ref (D.2.1 26)), (2, .int xt0_15), (3, .int x3_25), (4, .int x4_25)] rfl ?_
              refine j_goto F dX7_mostTelling_82 25 (by decide) ?_
              refine j_pick [2, 3, 4, 5, 0] [(0, .ref (D.2.1 26)), (2, .int xt0_15), (3, .int x3_25), (4, .int x4_25), (5, .int (nI (k5_25 + 1)))] rfl ?_
              exact ih_25 x3_25 x4_25 (k5_25 + 1) (by omega) (by omega)
          · rw [if_neg c_62]
            refine j_iinc F dX7_mostTelling_79 82 rfl 5 rfl (nI (k5_25 + 1)) (nI_inc k5_25) (by decide) [(5, .int (nI (k5_25 + 1))), (6, .int (if ((σ.1 26 6) - (σ.1 31 k5_25)) < (σ.1 31 k5_25) then ((σ.1 26 6) - (σ.1 31 k5_25)) else (σ.1 31 k5_25))), (0, .ref (D.2.1 26)), (2, .int xt0_15), (3, .int x3_25), (4, .int x4_25)] rfl ?_
            refine j_goto F dX7_mostTelling_82 25 (by decide) ?_
            refine j_pick [2, 3, 4, 5, 0] [(0, .ref (D.2.1 26)), (2, .int xt0_15), (3, .int x3_25), (4, .int x4_25), (5, .int (nI (k5_25 + 1)))] rfl ?_
            exact ih_25 x3_25 x4_25 (k5_25 + 1) (by omega) (by omega)
        · rw [if_neg c_29]
          refine j_iload_n F dX7_mostTelling_85 86 rfl 2 rfl ?_
          exact j_ret_i F dX7_mostTelling_86 rfl rfl rfl
    refine j_pick [4, 3, 2, 1, 0] [(0, .ref (D.2.1 26)), (2, .int xt0_15), (3, .int (-9)), (4, .int (-1)), (5, .int 0)] rfl ?_
    exact lp_25 9 (-9) (-1) 0 (by omega) (by omega)
  refine j_if_le F dX7_mostTelling_4 14 (by decide) 7 rfl (fun c_4 => ?_) (fun c_4 => ?_)
  · rw [if_pos c_4]
    refine j_aload_n F dX7_mostTelling_7 8 rfl 1 rfl ?_
    refine j_callVr (as := []) (st := []) (r := .int (fX2_unseen σ h1)) (σ9 := σ) F zX2_unseen dX7_mostTelling_8 11 rfl pX2_unseen rfl (by decide) (by decide) (Nat.le_of_ble_eq_true rfl) rfl qX7_32 rfl rfl (hsP.lt hh1) (shH hh1) (kX2_unseen l D h1 σ hh1) ?_
    refine j_goto F dX7_mostTelling_11 15 (by decide) ?_
    refine j_pick [0] [(0, .ref (D.2.1 26))] rfl ?_
    exact jn_15 (fX2_unseen σ h1)
  · rw [if_neg c_4]
    refine j_iconst (v := 0) F dX7_mostTelling_14 15 rfl (by decide) ?_
    refine j_pick [0] [(0, .ref (D.2.1 26))] rfl ?_
    exact jn_15 0
def fX7_tally_2 (a1 : Int32)  : Nat → Mm → Nat → Mm
  | 0, s_2, _ => s_2
  | n + 1, s_2, k2_2 => if (nI k2_2) < 8 then (fX7_tally_2 a1 n (up s_2 31 k2_2 ((s_2.1 31 k2_2) + ((a1 >>> ((nI k2_2) &&& 31)) &&& 1))) (k2_2 + 1)) else (s_2)
def fX7_tally (σ : Mm) (a1 : Int32) : Mm := fX7_tally_2 a1 9 σ 0
set_option maxRecDepth 20000 in
theorem kX7_tally (l : Launch) (D : Dm) (a1 : Int32) (σ : Mm)  : Ct l yX7_tally cX7_tally 3 none 1 D [.ref (D.2.1 26), .int a1] σ (none, fX7_tally σ a1) := by
  refine ct_of (by decide +kernel) (Nat.le_of_ble_eq_true rfl) (fun X F => ?_)
  have F : Fx X l 3 D cX7_tally RX7 1 none := F
  show JJ X 3 D σ 0 [(0, .ref (D.2.1 26)), (1, .int a1)] [] (QQ X D (none, fX7_tally σ a1))
  rw [fX7_tally]
  refine j_iconst (v := 0) F dX7_tally_0 1 rfl (by decide) ?_
  refine j_istore_n F dX7_tally_1 2 rfl 2 rfl (by decide) [(2, .int 0), (0, .ref (D.2.1 26)), (1, .int a1)] rfl ?_
  have lp_2 : ∀ (n_2 : Nat) (s_2 : Mm) (k2_2 : Nat), k2_2 ≤ 8 → 8 < k2_2 + n_2 → JJ X 3 D s_2 2 [(0, .ref (D.2.1 26)), (1, .int a1), (2, .int (nI k2_2))] [] (QQ X D (none, fX7_tally_2 a1 n_2 s_2 k2_2)) := by
    intro n_2
    induction n_2 with
    | zero => intro s_2 k2_2 hk_2 hn_2; exact absurd hn_2 (by omega)
    | succ n_2 ih_2 =>
      intro s_2 k2_2 hk_2 hn_2
      rw [fX7_tally_2]
      refine j_iload_n F dX7_tally_2 3 rfl 2 rfl ?_
      refine j_bipush (v := 8) F dX7_tally_3 5 rfl (by decide) ?_
      refine j_icmp_ge F dX7_tally_5 28 (by decide) 8 rfl (fun c_5 => ?_) (fun c_5 => ?_)
      · rw [if_pos c_5]
        have h_5 : k2_2 < 8 := nlt c_5 (by decide) (by omega)
        refine j_aload_n F dX7_tally_8 9 rfl 0 rfl ?_
        refine j_get (j := 4) F dX7_tally_9 12 rfl inX7 rfl (by decide) sh26 (by decide) qX7_25 rfl ?_
        refine j_iload_n F dX7_tally_12 13 rfl 2 rfl ?_
        refine j_dup2 F dX7_tally_13 14 rfl rfl rfl ?_
        refine j_iald_n F dX7_tally_14 15 rfl ia31 k2_2 rfl (by omega) ?_
        refine j_iload_n F dX7_tally_15 16 rfl 1 rfl ?_
        refine j_iload_n F dX7_tally_16 17 rfl 2 rfl ?_
        refine j_ishr F dX7_tally_17 18 rfl ?_
        refine j_iconst (v := 1) F dX7_tally_18 19 rfl (by decide) ?_
        refine j_iand F dX7_tally_19 20 rfl ?_
        refine j_iadd F dX7_tally_20 21 rfl ?_
        refine j_iast_n F dX7_tally_21 22 rfl ia31 k2_2 rfl (by omega) ?_
        refine j_iinc F dX7_tally_22 25 rfl 2 rfl (nI (k2_2 + 1)) (nI_inc k2_2) (by decide) [(2, .int (nI (k2_2 + 1))), (0, .ref (D.2.1 26)), (1, .int a1)] rfl ?_
        refine j_goto F dX7_tally_25 2 (by decide) ?_
        refine j_pick [1, 2, 0] [(0, .ref (D.2.1 26)), (1, .int a1), (2, .int (nI (k2_2 + 1)))] rfl ?_
        exact ih_2 (up s_2 31 k2_2 ((s_2.1 31 k2_2) + ((a1 >>> ((nI k2_2) &&& 31)) &&& 1))) (k2_2 + 1) (by omega) (by omega)
      · rw [if_neg c_5]
        exact j_ret_v F dX7_tally_28 rfl rfl rfl
  refine j_pick [1, 2, 0] [(0, .ref (D.2.1 26)), (1, .int a1), (2, .int 0)] rfl ?_
  exact lp_2 9 σ 0 (by omega) (by omega)
def fX7_survey_79 (h1 : Nat) (kb27 : Mm → Int32 → Nat → Mm) (s_79 : Mm) (x2_79 : Int32) (k3_79 : Nat) : Mm := kb27 (fX7_tally (up s_79 26 8 ((s_79.1 26 8) &&& ((nI k3_79) ^^^ (-1)))) (nI k3_79)) x2_79 (k3_79 + 1)
def fX7_survey_27 (h1 : Nat)  : Nat → Mm → Int32 → Nat → Mm
  | 0, s_27, _, _ => s_27
  | n + 1, s_27, x2_27, k3_27 => if (nI k3_27) < 256 then (if ((nI k3_27) &&& (x2_27 ^^^ (-1))) = 0 then (if (fX7_isSo s_27 ((nI k3_27) ||| (fX2_shown s_27 h1)) (s_27.1 h1 1)) = true then (fX7_survey_79 h1 (fX7_survey_27 h1 n) (up (up s_27 26 6 ((s_27.1 26 6) + 1)) 26 7 (((up s_27 26 6 ((s_27.1 26 6) + 1)).1 26 7) &&& (nI k3_27))) x2_27 k3_27) else (fX7_survey_27 h1 n s_27 x2_27 (k3_27 + 1))) else (fX7_survey_27 h1 n s_27 x2_27 (k3_27 + 1))) else (s_27)
def fX7_survey_15 (h1 : Nat)  (s_15 : Mm) (x2_15 : Int32) : Mm := fX7_survey_27 h1 257 (up (up s_15 26 7 x2_15) 26 8 x2_15) x2_15 0
def fX7_survey (σ : Mm) (h1 : Nat) : Mm := fX7_survey_15 h1 (up (fX7_learn σ h1) 26 6 0) (fX2_unseen σ h1)
set_option maxRecDepth 20000 in
theorem kX7_survey (l : Launch) (D : Dm) (h1 : Nat) (σ : Mm) (hh1 : hsP h1) : Ct l yX7_survey cX7_survey 4 none 5 D [.ref (D.2.1 26), .ref (D.2.1 h1)] σ (none, fX7_survey σ h1) := by
  refine ct_of (by decide +kernel) (Nat.le_of_ble_eq_true rfl) (fun X F => ?_)
  have F : Fx X l 4 D cX7_survey RX7 5 none := F
  show JJ X 4 D σ 0 [(0, .ref (D.2.1 26)), (1, .ref (D.2.1 h1))] [] (QQ X D (none, fX7_survey σ h1))
  rw [fX7_survey]
  refine j_aload_n F dX7_survey_0 1 rfl 1 rfl ?_
  refine j_callVr (as := []) (st := []) (r := .int (fX2_unseen σ h1)) (σ9 := σ) F zX2_unseen dX7_survey_1 4 rfl pX2_unseen rfl (by decide) (by decide) (Nat.le_of_ble_eq_true rfl) rfl qX7_32 rfl rfl (hsP.lt hh1) (shH hh1) (kX2_unseen l D h1 σ hh1) ?_
  refine j_istore_n F dX7_survey_4 5 rfl 2 rfl (by decide) [(2, .int (fX2_unseen σ h1)), (0, .ref (D.2.1 26)), (1, .ref (D.2.1 h1))] rfl ?_
  refine j_aload_n F dX7_survey_5 6 rfl 1 rfl ?_
  refine j_aload_n F dX7_survey_6 7 rfl 2 rfl ?_
  refine j_callVv (as := [.ref (D.2.1 h1)]) (st := []) (σ9 := (fX7_learn σ h1)) F zX7_learn dX7_survey_7 10 rfl pX7_learn rfl (by decide) (by decide) (Nat.le_of_ble_eq_true rfl) rfl qX7_38 rfl rfl (by decide) sh26 (kX7_learn l D h1 σ hh1) ?_
  refine j_aload_n F dX7_survey_10 11 rfl 1 rfl ?_
  refine j_iconst (v := 0) F dX7_survey_11 12 rfl (by decide) ?_
  refine j_put (j := 6) F dX7_survey_12 15 rfl inX7 tyX7 tyX7_ok nmX7 rfl (by decide) sh26 sh26 (by decide) qX7_42 rfl (tyX7_ok 6 (by decide)) (Nat.le_of_ble_eq_true rfl) ?_
  refine j_pick [1, 2, 0] [(0, .ref (D.2.1 26)), (1, .ref (D.2.1 h1)), (2, .int (fX2_unseen σ h1))] rfl ?_
  have jn_15 : ∀ (s_15 : Mm), JJ X 4 D s_15 15 [(0, .ref (D.2.1 26)), (1, .ref (D.2.1 h1)), (2, .int (fX2_unseen σ h1))] [] (QQ X D (none, fX7_survey_15 h1 s_15 (fX2_unseen σ h1))) := by
    intro s_15
    rw [fX7_survey_15]
    refine j_aload_n F dX7_survey_15 16 rfl 0 rfl ?_
    refine j_iload_n F dX7_survey_16 17 rfl 2 rfl ?_
    refine j_put (j := 7) F dX7_survey_17 20 rfl inX7 tyX7 tyX7_ok nmX7 rfl (by decide) sh26 sh26 (by decide) qX7_45 rfl (tyX7_ok 7 (by decide)) (Nat.le_of_ble_eq_true rfl) ?_
    refine j_aload_n F dX7_survey_20 21 rfl 0 rfl ?_
    refine j_iload_n F dX7_survey_21 22 rfl 2 rfl ?_
    refine j_put (j := 8) F dX7_survey_22 25 rfl inX7 tyX7 tyX7_ok nmX7 rfl (by decide) sh26 sh26 (by decide) qX7_48 rfl (tyX7_ok 8 (by decide)) (Nat.le_of_ble_eq_true rfl) ?_
    refine j_iconst (v := 0) F dX7_survey_25 26 rfl (by decide) ?_
    refine j_istore_n F dX7_survey_26 27 rfl 3 rfl (by decide) [(3, .int 0), (0, .ref (D.2.1 26)), (1, .ref (D.2.1 h1)), (2, .int (fX2_unseen σ h1))] rfl ?_
    have lp_27 : ∀ (n_27 : Nat) (s_27 : Mm) (k3_27 : Nat), k3_27 ≤ 256 → 256 < k3_27 + n_27 → JJ X 4 D s_27 27 [(0, .ref (D.2.1 26)), (1, .ref (D.2.1 h1)), (2, .int (fX2_unseen σ h1)), (3, .int (nI k3_27))] [] (QQ X D (none, fX7_survey_27 h1 n_27 s_27 (fX2_unseen σ h1) k3_27)) := by
      intro n_27
      induction n_27 with
      | zero => intro s_27 k3_27 hk_27 hn_27; exact absurd hn_27 (by omega)
      | succ n_27 ih_27 =>
        intro s_27 k3_27 hk_27 hn_27
        rw [fX7_survey_27]
        refine j_iload_n F dX7_survey_27 28 rfl 3 rfl ?_
        refine j_sipush (v := 256) F dX7_survey_28 31 rfl (by decide) ?_
        refine j_icmp_ge F dX7_survey_31 102 (by decide) 34 rfl (fun c_31 => ?_) (fun c_31 => ?_)
        · rw [if_pos c_31]
          have h_31 : k3_27 < 256 := nlt c_31 (by decide) (by omega)
          refine j_iload_n F dX7_survey_34 35 rfl 3 rfl ?_
          refine j_iload_n F dX7_survey_35 36 rfl 2 rfl ?_
          refine j_iconst (v := (-1)) F dX7_survey_36 37 rfl (by decide) ?_
          refine j_ixor F dX7_survey_37 38 rfl ?_
          refine j_iand F dX7_survey_38 39 rfl ?_
          refine j_if_ne F dX7_survey_39 96 (by decide) 42 rfl (fun c_39 => ?_) (fun c_39 => ?_)
          · rw [if_pos c_39]
            refine j_aload_n F dX7_survey_42 43 rfl 0 rfl ?_
            refine j_iload_n F dX7_survey_43 44 rfl 3 rfl ?_
            refine j_aload_n F dX7_survey_44 45 rfl 1 rfl ?_
            refine j_callVr (as := []) (st := [.int (nI k3_27), .ref (D.2.1 26)]) (r := .int (fX2_shown s_27 h1)) (σ9 := s_27) F zX2_shown dX7_survey_45 48 rfl pX2_shown rfl (by decide) (by decide) (Nat.le_of_ble_eq_true rfl) rfl qX7_51 rfl rfl (hsP.lt hh1) (shH hh1) (kX2_shown l D h1 s_27 hh1) ?_
            refine j_ior F dX7_survey_48 49 rfl ?_
            refine j_aload_n F dX7_survey_49 50 rfl 1 rfl ?_
            refine j_get (j := 1) F dX7_survey_50 53 rfl inX2 rfl (hsP.lt hh1) (shH hh1) (by decide) qX7_54 rfl ?_
            refine j_callVr (as := [.int ((nI k3_27) ||| (fX2_shown s_27 h1)), .int (s_27.1 h1 1)]) (st := []) (r := .int (bi (fX7_isSo s_27 ((nI k3_27) ||| (fX2_shown s_27 h1)) (s_27.1 h1 1)))) (σ9 := s_27) F zX7_isSo dX7_survey_53 56 rfl pX7_isSo rfl (by decide) (by decide) (Nat.le_of_ble_eq_true rfl) rfl qX7_57 rfl rfl (by decide) sh26 (kX7_isSo l D ((nI k3_27) ||| (fX2_shown s_27 h1)) (s_27.1 h1 1) s_27) ?_
            refine j_ifb_eq F dX7_survey_56 96 (by decide) 59 rfl (fun c_56 => ?_) (fun c_56 => ?_)
            · rw [if_pos c_56]
              refine j_aload_n F dX7_survey_59 60 rfl 0 rfl ?_
              refine j_dup F dX7_survey_60 61 rfl rfl ?_
              refine j_get (j := 6) F dX7_survey_61 64 rfl inX7 rfl (by decide) sh26 (by decide) qX7_42 rfl ?_
              refine j_iconst (v := 1) F dX7_survey_64 65 rfl (by decide) ?_
              refine j_iadd F dX7_survey_65 66 rfl ?_
              refine j_put (j := 6) F dX7_survey_66 69 rfl inX7 tyX7 tyX7_ok nmX7 rfl (by decide) sh26 sh26 (by decide) qX7_42 rfl (tyX7_ok 6 (by decide)) (Nat.le_of_ble_eq_true rfl) ?_
              refine j_aload_n F dX7_survey_69 70 rfl 0 rfl ?_
              refine j_dup F dX7_survey_70 71 rfl rfl ?_
              refine j_get (j := 7) F dX7_survey_71 74 rfl inX7 rfl (by decide) sh26 (by decide) qX7_45 rfl ?_
              refine j_iload_n F dX7_survey_74 75 rfl 3 rfl ?_
              refine j_iand F dX7_survey_75 76 rfl ?_
              refine j_put (j := 7) F dX7_survey_76 79 rfl inX7 tyX7 tyX7_ok nmX7 rfl (by decide) sh26 sh26 (by decide) qX7_45 rfl (tyX7_ok 7 (by decide)) (Nat.le_of_ble_eq_true rfl) ?_
              have jn_79 : ∀ (s_79 : Mm), JJ X 4 D s_79 79 [(0, .ref (D.2.1 26)), (1, .ref (D.2.1 h1)), (2, .int (fX2_unseen σ h1)), (3, .int (nI k3_27))] [] (QQ X D (none, fX7_survey_79 h1 (fX7_survey_27 h1 n_27) s_79 (fX2_unseen σ h1) k3_27)) := by
                intro s_79
                rw [fX7_survey_79]
                refine j_aload_n F dX7_survey_79 80 rfl 0 rfl ?_
                refine j_dup F dX7_survey_80 81 rfl rfl ?_
                refine j_get (j := 8) F dX7_survey_81 84 rfl inX7 rfl (by decide) sh26 (by decide) qX7_48 rfl ?_
                refine j_iload_n F dX7_survey_84 85 rfl 3 rfl ?_
                refine j_iconst (v := (-1)) F dX7_survey_85 86 rfl (by decide) ?_
                refine j_ixor F dX7_survey_86 87 rfl ?_
                refine j_iand F dX7_survey_87 88 rfl ?_
                refine j_put (j := 8) F dX7_survey_88 91 rfl inX7 tyX7 tyX7_ok nmX7 rfl (by decide) sh26 sh26 (by decide) qX7_48 rfl (tyX7_ok 8 (by decide)) (Nat.le_of_ble_eq_true rfl) ?_
                refine j_aload_n F dX7_survey_91 92 rfl 0 rfl ?_
                refine j_iload_n F dX7_survey_92 93 rfl 3 rfl ?_
                refine j_callVv (as := [.int (nI k3_27)]) (st := []) (σ9 := (fX7_tally (up s_79 26 8 ((s_79.1 26 8) &&& ((nI k3_27) ^^^ (-1)))) (nI k3_27))) F zX7_tally dX7_survey_93 96 rfl pX7_tally rfl (by decide) (by decide) (Nat.le_of_ble_eq_true rfl) rfl qX7_61 rfl rfl (by decide) sh26 (kX7_tally l D (nI k3_27) (up s_79 26 8 ((s_79.1 26 8) &&& ((nI k3_27) ^^^ (-1))))) ?_
                refine j_iinc F dX7_survey_96 99 rfl 3 rfl (nI (k3_27 + 1)) (nI_inc k3_27) (by decide) [(3, .int (nI (k3_27 + 1))), (0, .ref (D.2.1 26)), (1, .ref (D.2.1 h1)), (2, .int (fX2_unseen σ h1))] rfl ?_
                refine j_goto F dX7_survey_99 27 (by decide) ?_
                refine j_pick [1, 2, 3, 0] [(0, .ref (D.2.1 26)), (1, .ref (D.2.1 h1)), (2, .int (fX2_unseen σ h1)), (3, .int (nI (k3_27 + 1)))] rfl ?_
                exact ih_27 (fX7_tally (up s_79 26 8 ((s_79.1 26 8) &&& ((nI k3_27) ^^^ (-1)))) (nI k3_27)) (k3_27 + 1) (by omega) (by omega)
              exact jn_79 (up (up s_27 26 6 ((s_27.1 26 6) + 1)) 26 7 (((up s_27 26 6 ((s_27.1 26 6) + 1)).1 26 7) &&& (nI k3_27))) 
            · rw [if_neg c_56]
              refine j_iinc F dX7_survey_96 99 rfl 3 rfl (nI (k3_27 + 1)) (nI_inc k3_27) (by decide) [(3, .int (nI (k3_27 + 1))), (0, .ref (D.2.1 26)), (1, .ref (D.2.1 h1)), (2, .int (fX2_unseen σ h1))] rfl ?_
              refine j_goto F dX7_survey_99 27 (by decide) ?_
              refine j_pick [1, 2, 3, 0] [(0, .ref (D.2.1 26)), (1, .ref (D.2.1 h1)), (2, .int (fX2_unseen σ h1)), (3, .int (nI (k3_27 + 1)))] rfl ?_
              exact ih_27 s_27 (k3_27 + 1) (by omega) (by omega)
          · rw [if_neg c_39]
            refine j_iinc F dX7_survey_96 99 rfl 3 rfl (nI (k3_27 + 1)) (nI_inc k3_27) (by decide) [(3, .int (nI (k3_27 + 1))), (0, .ref (D.2.1 26)), (1, .ref (D.2.1 h1)), (2, .int (fX2_unseen σ h1))] rfl ?_
            refine j_goto F dX7_survey_99 27 (by decide) ?_
            refine j_pick [1, 2, 3, 0] [(0, .ref (D.2.1 26)), (1, .ref (D.2.1 h1)), (2, .int (fX2_unseen σ h1)), (3, .int (nI (k3_27 + 1)))] rfl ?_
            exact ih_27 s_27 (k3_27 + 1) (by omega) (by omega)
        · rw [if_neg c_31]
          exact j_ret_v F dX7_survey_102 rfl rfl rfl
    refine j_pick [1, 2, 3, 0] [(0, .ref (D.2.1 26)), (1, .ref (D.2.1 h1)), (2, .int (fX2_unseen σ h1)), (3, .int 0)] rfl ?_
    exact lp_27 257 (up (up s_15 26 7 (fX2_unseen σ h1)) 26 8 (fX2_unseen σ h1)) 0 (by omega) (by omega)
  exact jn_15 (up (fX7_learn σ h1) 26 6 0) 
