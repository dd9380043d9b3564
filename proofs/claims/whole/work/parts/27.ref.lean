def fX10_again_26 (a1 : Int32)  : Nat → Mm → Nat → Int32 × Mm
  | 0, s_26, _ => (0, s_26)
  | n + 1, s_26, k2_26 => if (nI k2_26) < 14 then (fX10_again_26 a1 n (up s_26 34 k2_26 (s_26.1 48 ((14 * a1) + (nI k2_26)).toNatClampNeg)) (k2_26 + 1)) else ((((up s_26 33 3 0).1 34 13), (up s_26 33 3 0)))
def fX10_again (σ : Mm) (a1 : Int32) : Int32 × Mm := if (fX10_in (a1.toInt64) 0 1) = true then (if (σ.1 47 a1.toNatClampNeg) = 0 then (((-3), σ)) else (fX10_again_26 a1 15 σ 0)) else (((-1), σ))
set_option maxRecDepth 20000 in
theorem kX10_again (l : Launch) (D : Dm) (a1 : Int32) (σ : Mm)  : Ct l yX10_again cX10_again 3 (some .int) 2 D [.ref (D.2.1 33), .int a1] σ (some (.int (fX10_again σ a1).1), (fX10_again σ a1).2) := by
  refine ct_of (by decide +kernel) (Nat.le_of_ble_eq_true rfl) (fun X F => ?_)
  have F : Fx X l 3 D cX10_again RX10 2 (some .int) := F
  show JJ X 3 D σ 0 [(0, .ref (D.2.1 33)), (1, .int a1)] [] (QQ X D (some (.int (fX10_again σ a1).1), (fX10_again σ a1).2))
  rw [fX10_again]
  refine j_iload_n F dX10_again_0 1 rfl 1 rfl ?_
  refine j_i2l F dX10_again_1 2 rfl ?_
  refine j_lconst (v := 0) F dX10_again_2 3 rfl (by decide) ?_
  refine j_lconst (v := 1) F dX10_again_3 4 rfl (by decide) ?_
  refine j_callSr (as := [.long (a1.toInt64), .long 0, .long 1]) (st := []) (r := .int (bi (fX10_in (a1.toInt64) 0 1))) (σ9 := σ) F zX10_in dX10_again_4 7 rfl pX10_in rfl (by decide) (by decide) (Nat.le_of_ble_eq_true rfl) rfl qX10_58 (kX10_in l D (a1.toInt64) 0 1 σ) ?_
  refine j_ifb_ne F dX10_again_7 12 (by decide) 10 rfl (fun c_7 => ?_) (fun c_7 => ?_)
  · rw [if_neg c_7]
    refine j_iconst (v := (-1)) F dX10_again_10 11 rfl (by decide) ?_
    exact j_ret_i F dX10_again_11 rfl rfl rfl
  · rw [if_pos c_7]
    refine j_aload_n F dX10_again_12 13 rfl 0 rfl ?_
    refine j_get (j := 21) F dX10_again_13 16 rfl inX10 rfl (by decide) sh33 (by decide) qX10_50 rfl ?_
    refine j_iload_n F dX10_again_16 17 rfl 1 rfl ?_
    refine j_zald F dX10_again_17 18 rfl (by decide) (fun _ _ => sh47) (in_0_1 c_7) ?_
    refine j_if_ne F dX10_again_18 24 (by decide) 21 rfl (fun c_18 => ?_) (fun c_18 => ?_)
    · rw [if_pos c_18]
      refine j_bipush (v := (-3)) F dX10_again_21 23 rfl (by decide) ?_
      exact j_ret_i F dX10_again_23 rfl rfl rfl
    · rw [if_neg c_18]
      refine j_iconst (v := 0) F dX10_again_24 25 rfl (by decide) ?_
      refine j_istore_n F dX10_again_25 26 rfl 2 rfl (by decide) [(2, .int 0), (0, .ref (D.2.1 33)), (1, .int a1)] rfl ?_
      have lp_26 : ∀ (n_26 : Nat) (s_26 : Mm) (k2_26 : Nat), k2_26 ≤ 14 → 14 < k2_26 + n_26 → JJ X 3 D s_26 26 [(0, .ref (D.2.1 33)), (1, .int a1), (2, .int (nI k2_26))] [] (QQ X D (some (.int (fX10_again_26 a1 n_26 s_26 k2_26).1), (fX10_again_26 a1 n_26 s_26 k2_26).2)) := by
        intro n_26
        induction n_26 with
        | zero => intro s_26 k2_26 hk_26 hn_26; exact absurd hn_26 (by omega)
        | succ n_26 ih_26 =>
          intro s_26 k2_26 hk_26 hn_26
          rw [fX10_again_26]
          refine j_iload_n F dX10_again_26 27 rfl 2 rfl ?_
          refine j_bipush (v := 14) F dX10_again_27 29 rfl (by decide) ?_
          refine j_icmp_ge F dX10_again_29 55 (by decide) 32 rfl (fun c_29 => ?_) (fun c_29 => ?_)
          · rw [if_pos c_29]
            have h_29 : k2_26 < 14 := nlt c_29 (by decide) (by omega)
            refine j_aload_n F dX10_again_32 33 rfl 0 rfl ?_
            refine j_get (j := 0) F dX10_again_33 36 rfl inX10 rfl (by decide) sh33 (by decide) qX10_7 rfl ?_
            refine j_iload_n F dX10_again_36 37 rfl 2 rfl ?_
            refine j_aload_n F dX10_again_37 38 rfl 0 rfl ?_
            refine j_get (j := 22) F dX10_again_38 41 rfl inX10 rfl (by decide) sh33 (by decide) qX10_53 rfl ?_
            refine j_bipush (v := 14) F dX10_again_41 43 rfl (by decide) ?_
            refine j_iload_n F dX10_again_43 44 rfl 1 rfl ?_
            refine j_imul F dX10_again_44 45 rfl ?_
            refine j_iload_n F dX10_again_45 46 rfl 2 rfl ?_
            refine j_iadd F dX10_again_46 47 rfl ?_
            refine j_iald F dX10_again_47 48 rfl ia48 (vin_kp (in_0_1 c_7) (by omega)) ?_
            refine j_iast_n F dX10_again_48 49 rfl ia34 k2_26 rfl (by omega) ?_
            refine j_iinc F dX10_again_49 52 rfl 2 rfl (nI (k2_26 + 1)) (nI_inc k2_26) (by decide) [(2, .int (nI (k2_26 + 1))), (0, .ref (D.2.1 33)), (1, .int a1)] rfl ?_
            refine j_goto F dX10_again_52 26 (by decide) ?_
            refine j_pick [1, 2, 0] [(0, .ref (D.2.1 33)), (1, .int a1), (2, .int (nI (k2_26 + 1)))] rfl ?_
            exact ih_26 (up s_26 34 k2_26 (s_26.1 48 ((14 * a1) + (nI k2_26)).toNatClampNeg)) (k2_26 + 1) (by omega) (by omega)
          · rw [if_neg c_29]
            refine j_aload_n F dX10_again_55 56 rfl 0 rfl ?_
            refine j_iconst (v := 0) F dX10_again_56 57 rfl (by decide) ?_
            refine j_put (j := 3) F dX10_again_57 60 rfl inX10 tyX10 tyX10_ok nmX10 rfl (by decide) sh33 sh33 (by decide) qX10_92 rfl (tyX10_ok 3 (by decide)) (Nat.le_of_ble_eq_true rfl) ?_
            refine j_aload_n F dX10_again_60 61 rfl 0 rfl ?_
            refine j_callVr (as := []) (st := []) (r := .int ((up s_26 33 3 0).1 34 13)) (σ9 := (up s_26 33 3 0)) F zX10_many dX10_again_61 64 rfl pX10_many rfl (by decide) (by decide) (Nat.le_of_ble_eq_true rfl) rfl qX10_105 rfl rfl (by decide) sh33 (kX10_many l D (up s_26 33 3 0)) ?_
            exact j_ret_i F dX10_again_64 rfl rfl rfl
      refine j_pick [1, 2, 0] [(0, .ref (D.2.1 33)), (1, .int a1), (2, .int 0)] rfl ?_
      exact lp_26 15 σ 0 (by omega) (by omega)
def fX10_canMove_43 (σ : Mm) (a1 : Int32) (a2 : Int32)  (x3_43 : Int32) : Bool := if (fX10_has (σ.1 42 a1.toNatClampNeg) x3_43) = true then (false) else (if 10 < a2 then (if (fX10_has (σ.1 41 a1.toNatClampNeg) x3_43) = true then (false) else (if (fX10_guardOf σ x3_43) = 0 then (true) else (false))) else ((fX10_has (fX10_lastOf σ ((((1 <<< ((σ.1 34 13) &&& 31)) - 1) &&& ((σ.1 41 a1.toNatClampNeg) ^^^ (-1))) &&& ((σ.1 34 9) ^^^ (-1))) (σ.1 34 11)) x3_43)))
def fX10_canMove_22 (σ : Mm) (a1 : Int32) (a2 : Int32)  (xt0_22 : Int32) : Bool := if (fX10_isThing σ xt0_22) = true then (if 8 < a2 then (if 11 ≤ a2 then (fX10_canMove_43 σ a1 a2 xt0_22) else (false)) else (fX10_canMove_43 σ a1 a2 xt0_22)) else (false)
def fX10_canMove (σ : Mm) (a1 : Int32) (a2 : Int32) : Bool := if a2 = 0 then (true) else (if 10 < a2 then (fX10_canMove_22 σ a1 a2 (a2 - 11)) else (fX10_canMove_22 σ a1 a2 (a2 - 1)))
set_option maxRecDepth 20000 in
theorem kX10_canMove (l : Launch) (D : Dm) (a1 : Int32) (a2 : Int32) (σ : Mm) (hv1 : vp_in a1 6) (hM : vp_in (σ.1 34 13) 9) : Ct l yX10_canMove cX10_canMove 5 (some .boolean) 6 D [.ref (D.2.1 33), .int a1, .int a2] σ (some (.int (bi (fX10_canMove σ a1 a2))), σ) := by
  refine ct_of (by decide +kernel) (Nat.le_of_ble_eq_true rfl) (fun X F => ?_)
  have F : Fx X l 5 D cX10_canMove RX10 6 (some .boolean) := F
  show JJ X 5 D σ 0 [(0, .ref (D.2.1 33)), (1, .int a1), (2, .int a2)] [] (QQ X D (some (.int (bi (fX10_canMove σ a1 a2))), σ))
  rw [fX10_canMove]
  refine j_iload_n F dX10_canMove_0 1 rfl 2 rfl ?_
  refine j_if_ne F dX10_canMove_1 6 (by decide) 4 rfl (fun c_1 => ?_) (fun c_1 => ?_)
  · rw [if_pos c_1]
    refine j_iconst (v := 1) F dX10_canMove_4 5 rfl (by decide) ?_
    exact j_ret_b (b := true) F dX10_canMove_5 rfl rfl rfl
  · rw [if_neg c_1]
    refine j_iload_n F dX10_canMove_6 7 rfl 2 rfl ?_
    refine j_bipush (v := 10) F dX10_canMove_7 9 rfl (by decide) ?_
    have jn_22 : ∀ (xt0_22 : Int32), JJ X 5 D σ 22 [(0, .ref (D.2.1 33)), (1, .int a1), (2, .int a2)] [.int xt0_22] (QQ X D (some (.int (bi (fX10_canMove_22 σ a1 a2 xt0_22))), σ)) := by
      intro xt0_22
      rw [fX10_canMove_22]
      refine j_istore_n F dX10_canMove_22 23 rfl 3 rfl (by decide) [(3, .int xt0_22), (0, .ref (D.2.1 33)), (1, .int a1), (2, .int a2)] rfl ?_
      refine j_aload_n F dX10_canMove_23 24 rfl 1 rfl ?_
      refine j_iload_n F dX10_canMove_24 25 rfl 0 rfl ?_
      refine j_callVr (as := [.int xt0_22]) (st := []) (r := .int (bi (fX10_isThing σ xt0_22))) (σ9 := σ) F zX10_isThing dX10_canMove_25 28 rfl pX10_isThing rfl (by decide) (by decide) (Nat.le_of_ble_eq_true rfl) rfl qX10_128 rfl rfl (by decide) sh33 (kX10_isThing l D xt0_22 σ) ?_
      refine j_ifb_eq F dX10_canMove_28 56 (by decide) 31 rfl (fun c_28 => ?_) (fun c_28 => ?_)
      · rw [if_pos c_28]
        refine j_iload_n F dX10_canMove_31 32 rfl 3 rfl ?_
        refine j_bipush (v := 8) F dX10_canMove_32 34 rfl (by decide) ?_
        have jn_43 : JJ X 5 D σ 43 [(0, .ref (D.2.1 33)), (1, .int a1), (2, .int a2), (3, .int xt0_22)] [] (QQ X D (some (.int (bi (fX10_canMove_43 σ a1 a2 xt0_22))), σ)) := by
          rw [fX10_canMove_43]
          refine j_aload_n F dX10_canMove_43 44 rfl 0 rfl ?_
          refine j_get (j := 15) F dX10_canMove_44 47 rfl inX10 rfl (by decide) sh33 (by decide) qX10_35 rfl ?_
          refine j_iload_n F dX10_canMove_47 48 rfl 1 rfl ?_
          refine j_iald F dX10_canMove_48 49 rfl ia42 (by first | assumption | exact vin_c (by assumption) (by assumption) (by decide) | exact vin_d (by assumption) (by assumption) (by decide) | exact vin_k (by assumption) (by assumption) (by decide) | exact vin_mono (by assumption) (by decide) | exact vin_mono (isThing_in (by assumption) (by assumption)) (by decide)) ?_
          refine j_iload_n F dX10_canMove_49 50 rfl 3 rfl ?_
          refine j_callSr (as := [.int (σ.1 42 a1.toNatClampNeg), .int xt0_22]) (st := []) (r := .int (bi (fX10_has (σ.1 42 a1.toNatClampNeg) xt0_22))) (σ9 := σ) F zX10_has dX10_canMove_50 53 rfl pX10_has rfl (by decide) (by decide) (Nat.le_of_ble_eq_true rfl) rfl qX10_108 (kX10_has l D (σ.1 42 a1.toNatClampNeg) xt0_22 σ) ?_
          refine j_ifb_eq F dX10_canMove_53 58 (by decide) 56 rfl (fun c_53 => ?_) (fun c_53 => ?_)
          · rw [if_pos c_53]
            refine j_iconst (v := 0) F dX10_canMove_56 57 rfl (by decide) ?_
            exact j_ret_b (b := false) F dX10_canMove_57 rfl rfl rfl
          · rw [if_neg c_53]
            refine j_iload_n F dX10_canMove_58 59 rfl 2 rfl ?_
            refine j_bipush (v := 10) F dX10_canMove_59 61 rfl (by decide) ?_
            refine j_icmp_le F dX10_canMove_61 91 (by decide) 64 rfl (fun c_61 => ?_) (fun c_61 => ?_)
            · rw [if_pos c_61]
              refine j_aload_n F dX10_canMove_64 65 rfl 0 rfl ?_
              refine j_get (j := 14) F dX10_canMove_65 68 rfl inX10 rfl (by decide) sh33 (by decide) qX10_32 rfl ?_
              refine j_iload_n F dX10_canMove_68 69 rfl 1 rfl ?_
              refine j_iald F dX10_canMove_69 70 rfl ia41 (by first | assumption | exact vin_c (by assumption) (by assumption) (by decide) | exact vin_d (by assumption) (by assumption) (by decide) | exact vin_k (by assumption) (by assumption) (by decide) | exact vin_mono (by assumption) (by decide) | exact vin_mono (isThing_in (by assumption) (by assumption)) (by decide)) ?_
              refine j_iload_n F dX10_canMove_70 71 rfl 3 rfl ?_
              refine j_callSr (as := [.int (σ.1 41 a1.toNatClampNeg), .int xt0_22]) (st := []) (r := .int (bi (fX10_has (σ.1 41 a1.toNatClampNeg) xt0_22))) (σ9 := σ) F zX10_has dX10_canMove_71 74 rfl pX10_has rfl (by decide) (by decide) (Nat.le_of_ble_eq_true rfl) rfl qX10_108 (kX10_has l D (σ.1 41 a1.toNatClampNeg) xt0_22 σ) ?_
              refine j_ifb_ne F dX10_canMove_74 89 (by decide) 77 rfl (fun c_74 => ?_) (fun c_74 => ?_)
              · rw [if_neg c_74]
                refine j_aload_n F dX10_canMove_77 78 rfl 0 rfl ?_
                refine j_iload_n F dX10_canMove_78 79 rfl 3 rfl ?_
                refine j_callVr (as := [.int xt0_22]) (st := []) (r := .int (fX10_guardOf σ xt0_22)) (σ9 := σ) F zX10_guardOf dX10_canMove_79 82 rfl pX10_guardOf rfl (by decide) (by decide) (Nat.le_of_ble_eq_true rfl) rfl qX10_140 rfl rfl (by decide) sh33 (kX10_guardOf l D xt0_22 σ (by first | assumption | exact isThing_in (by assumption) (by assumption) | exact vin_mono (by assumption) (by decide) | omega | decide)) ?_
                refine j_if_ne F dX10_canMove_82 89 (by decide) 85 rfl (fun c_82 => ?_) (fun c_82 => ?_)
                · rw [if_pos c_82]
                  refine j_iconst (v := 1) F dX10_canMove_85 86 rfl (by decide) ?_
                  refine j_goto F dX10_canMove_86 90 (by decide) ?_
                  exact j_ret_b (b := true) F dX10_canMove_90 rfl rfl rfl
                · rw [if_neg c_82]
                  refine j_iconst (v := 0) F dX10_canMove_89 90 rfl (by decide) ?_
                  exact j_ret_b (b := false) F dX10_canMove_90 rfl rfl rfl
              · rw [if_pos c_74]
                refine j_iconst (v := 0) F dX10_canMove_89 90 rfl (by decide) ?_
                exact j_ret_b (b := false) F dX10_canMove_90 rfl rfl rfl
            · rw [if_neg c_61]
              refine j_iconst (v := 1) F dX10_canMove_91 92 rfl (by decide) ?_
              refine j_aload_n F dX10_canMove_92 93 rfl 0 rfl ?_
              refine j_callVr (as := []) (st := [.int 1]) (r := .int (σ.1 34 13)) (σ9 := σ) F zX10_many dX10_canMove_93 96 rfl pX10_many rfl (by decide) (by decide) (Nat.le_of_ble_eq_true rfl) rfl qX10_105 rfl rfl (by decide) sh33 (kX10_many l D σ) ?_
              refine j_ishl F dX10_canMove_96 97 rfl ?_
              refine j_iconst (v := 1) F dX10_canMove_97 98 rfl (by decide) ?_
              refine j_isub F dX10_canMove_98 99 rfl ?_
              refine j_aload_n F dX10_canMove_99 100 rfl 0 rfl ?_
              refine j_get (j := 14) F dX10_canMove_100 103 rfl inX10 rfl (by decide) sh33 (by decide) qX10_32 rfl ?_
              refine j_iload_n F dX10_canMove_103 104 rfl 1 rfl ?_
              refine j_iald F dX10_canMove_104 105 rfl ia41 (by first | assumption | exact vin_c (by assumption) (by assumption) (by decide) | exact vin_d (by assumption) (by assumption) (by decide) | exact vin_k (by assumption) (by assumption) (by decide) | exact vin_mono (by assumption) (by decide) | exact vin_mono (isThing_in (by assumption) (by assumption)) (by decide)) ?_
              refine j_iconst (v := (-1)) F dX10_canMove_105 106 rfl (by decide) ?_
              refine j_ixor F dX10_canMove_106 107 rfl ?_
              refine j_iand F dX10_canMove_107 108 rfl ?_
              refine j_aload_n F dX10_canMove_108 109 rfl 0 rfl ?_
              refine j_get (j := 0) F dX10_canMove_109 112 rfl inX10 rfl (by decide) sh33 (by decide) qX10_7 rfl ?_
              refine j_bipush (v := 9) F dX10_canMove_112 114 rfl (by decide) ?_
              refine j_iald_n F dX10_canMove_114 115 rfl ia34 9 rfl (by decide) ?_
              refine j_iconst (v := (-1)) F dX10_canMove_115 116 rfl (by decide) ?_
              refine j_ixor F dX10_canMove_116 117 rfl ?_
              refine j_iand F dX10_canMove_117 118 rfl ?_
              refine j_istore F dX10_canMove_118 120 rfl (by decide) [(4, .int ((((1 <<< ((σ.1 34 13) &&& 31)) - 1) &&& ((σ.1 41 a1.toNatClampNeg) ^^^ (-1))) &&& ((σ.1 34 9) ^^^ (-1)))), (0, .ref (D.2.1 33)), (1, .int a1), (2, .int a2), (3, .int xt0_22)] rfl ?_
              refine j_aload_n F dX10_canMove_120 121 rfl 1 rfl ?_
              refine j_iload F dX10_canMove_121 123 rfl 0 rfl ?_
              refine j_aload_n F dX10_canMove_123 124 rfl 1 rfl ?_
              refine j_get (j := 0) F dX10_canMove_124 127 rfl inX10 rfl (by decide) sh33 (by decide) qX10_7 rfl ?_
              refine j_bipush (v := 11) F dX10_canMove_127 129 rfl (by decide) ?_
              refine j_iald_n F dX10_canMove_129 130 rfl ia34 11 rfl (by decide) ?_
              refine j_callVr (as := [.int ((((1 <<< ((σ.1 34 13) &&& 31)) - 1) &&& ((σ.1 41 a1.toNatClampNeg) ^^^ (-1))) &&& ((σ.1 34 9) ^^^ (-1))), .int (σ.1 34 11)]) (st := []) (r := .int (fX10_lastOf σ ((((1 <<< ((σ.1 34 13) &&& 31)) - 1) &&& ((σ.1 41 a1.toNatClampNeg) ^^^ (-1))) &&& ((σ.1 34 9) ^^^ (-1))) (σ.1 34 11))) (σ9 := σ) F zX10_lastOf dX10_canMove_130 133 rfl pX10_lastOf rfl (by decide) (by decide) (Nat.le_of_ble_eq_true rfl) rfl qX10_125 rfl rfl (by decide) sh33 (kX10_lastOf l D ((((1 <<< ((σ.1 34 13) &&& 31)) - 1) &&& ((σ.1 41 a1.toNatClampNeg) ^^^ (-1))) &&& ((σ.1 34 9) ^^^ (-1))) (σ.1 34 11) σ (by first | assumption | exact isThing_in (by assumption) (by assumption) | exact vin_mono (by assumption) (by decide) | omega | decide)) ?_
              refine j_iload_n F dX10_canMove_133 134 rfl 4 rfl ?_
              refine j_callSr (as := [.int (fX10_lastOf σ ((((1 <<< ((σ.1 34 13) &&& 31)) - 1) &&& ((σ.1 41 a1.toNatClampNeg) ^^^ (-1))) &&& ((σ.1 34 9) ^^^ (-1))) (σ.1 34 11)), .int xt0_22]) (st := []) (r := .int (bi (fX10_has (fX10_lastOf σ ((((1 <<< ((σ.1 34 13) &&& 31)) - 1) &&& ((σ.1 41 a1.toNatClampNeg) ^^^ (-1))) &&& ((σ.1 34 9) ^^^ (-1))) (σ.1 34 11)) xt0_22))) (σ9 := σ) F zX10_has dX10_canMove_134 137 rfl pX10_has rfl (by decide) (by decide) (Nat.le_of_ble_eq_true rfl) rfl qX10_108 (kX10_has l D (fX10_lastOf σ ((((1 <<< ((σ.1 34 13) &&& 31)) - 1) &&& ((σ.1 41 a1.toNatClampNeg) ^^^ (-1))) &&& ((σ.1 34 9) ^^^ (-1))) (σ.1 34 11)) xt0_22 σ) ?_
              exact j_ret_b (b := (fX10_has (fX10_lastOf σ ((((1 <<< ((σ.1 34 13) &&& 31)) - 1) &&& ((σ.1 41 a1.toNatClampNeg) ^^^ (-1))) &&& ((σ.1 34 9) ^^^ (-1))) (σ.1 34 11)) xt0_22)) F dX10_canMove_137 rfl rfl rfl
        refine j_icmp_le F dX10_canMove_34 43 (by decide) 37 rfl (fun c_34 => ?_) (fun c_34 => ?_)
        · rw [if_pos c_34]
          refine j_iload_n F dX10_canMove_37 38 rfl 3 rfl ?_
          refine j_bipush (v := 11) F dX10_canMove_38 40 rfl (by decide) ?_
          refine j_icmp_lt F dX10_canMove_40 56 (by decide) 43 rfl (fun c_40 => ?_) (fun c_40 => ?_)
          · rw [if_pos c_40]
            refine j_pick [1, 2, 3, 0] [(0, .ref (D.2.1 33)), (1, .int a1), (2, .int a2), (3, .int xt0_22)] rfl ?_
            exact jn_43
          · rw [if_neg c_40]
            refine j_iconst (v := 0) F dX10_canMove_56 57 rfl (by decide) ?_
            exact j_ret_b (b := false) F dX10_canMove_57 rfl rfl rfl
        · rw [if_neg c_34]
          refine j_pick [1, 2, 3, 0] [(0, .ref (D.2.1 33)), (1, .int a1), (2, .int a2), (3, .int xt0_22)] rfl ?_
          exact jn_43
      · rw [if_neg c_28]
        refine j_iconst (v := 0) F dX10_canMove_56 57 rfl (by decide) ?_
        exact j_ret_b (b := false) F dX10_canMove_57 rfl rfl rfl
    refine j_icmp_le F dX10_canMove_9 19 (by decide) 12 rfl (fun c_9 => ?_) (fun c_9 => ?_)
    · rw [if_pos c_9]
      refine j_iload_n F dX10_canMove_12 13 rfl 2 rfl ?_
      refine j_bipush (v := 11) F dX10_canMove_13 15 rfl (by decide) ?_
      refine j_isub F dX10_canMove_15 16 rfl ?_
      refine j_goto F dX10_canMove_16 22 (by decide) ?_
      exact jn_22 (a2 - 11)
    · rw [if_neg c_9]
      refine j_iload_n F dX10_canMove_19 20 rfl 2 rfl ?_
      refine j_iconst (v := 1) F dX10_canMove_20 21 rfl (by decide) ?_
      refine j_isub F dX10_canMove_21 22 rfl ?_
      exact jn_22 (a2 - 1)
def fX10_go_108 (a1 : Int32) (a2 : Int32)  (s_108 : Mm) (x4_108 : Int32) (x5_108 : Int32) (xt0_108 : Int32) (xt1_108 : Int32) : Mm := (fX10_begin (up s_108 46 xt1_108.toNatClampNeg xt0_108) (a1 + 1) x4_108 x5_108)
def fX10_go_73 (a1 : Int32) (a2 : Int32)  (s_73 : Mm) (x3_73 : Int32) (x4_73 : Int32) (xt0_73 : Int32) : Mm := if a2 = 0 then (fX10_go_108 a1 a2 s_73 x4_73 xt0_73 0 a1) else (if 10 < a2 then (fX10_go_108 a1 a2 s_73 x4_73 xt0_73 (-(fX10_costOf s_73 x3_73)) a1) else (fX10_go_108 a1 a2 s_73 x4_73 xt0_73 (fX10_worthOf s_73 x3_73) a1))
def fX10_go_67 (a1 : Int32) (a2 : Int32)  (s_67 : Mm) (x3_67 : Int32) (x4_67 : Int32) : Mm := fX10_go_73 a1 a2 s_67 x3_67 x4_67 (s_67.1 42 a1.toNatClampNeg)
def fX10_go_42 (a1 : Int32) (a2 : Int32)  (s_42 : Mm) (x3_42 : Int32) (xt0_42 : Int32) : Mm := if 0 < a2 then (if a2 < 9 then (fX10_go_73 a1 a2 s_42 x3_42 xt0_42 ((s_42.1 42 a1.toNatClampNeg) ||| (1 <<< (x3_42 &&& 31)))) else (fX10_go_67 a1 a2 s_42 x3_42 xt0_42)) else (fX10_go_67 a1 a2 s_42 x3_42 xt0_42)
def fX10_go_16 (a1 : Int32) (a2 : Int32)  (s_16 : Mm) (xt0_16 : Int32) : Mm := if 10 < a2 then (fX10_go_42 a1 a2 s_16 xt0_16 ((s_16.1 41 a1.toNatClampNeg) ||| (1 <<< (xt0_16 &&& 31)))) else (fX10_go_42 a1 a2 s_16 xt0_16 (s_16.1 41 a1.toNatClampNeg))
def fX10_go (σ : Mm) (a1 : Int32) (a2 : Int32) : Mm := if 10 < a2 then (fX10_go_16 a1 a2 σ (a2 - 11)) else (fX10_go_16 a1 a2 σ (a2 - 1))
set_option maxRecDepth 20000 in
theorem kX10_go (l : Launch) (D : Dm) (a1 : Int32) (a2 : Int32) (σ : Mm) (hv1 : vp_in a1 5) (hM : vp_in (σ.1 34 13) 9) (ht : a2 = 0 ∨ vp_in (if 10 < a2 then (a2 - 11) else (a2 - 1)) 8) : Ct l yX10_go cX10_go 6 none 2 D [.ref (D.2.1 33), .int a1, .int a2] σ (none, fX10_go σ a1 a2) := by
  refine ct_of (by decide +kernel) (Nat.le_of_ble_eq_true rfl) (fun X F => ?_)
  have F : Fx X l 6 D cX10_go RX10 2 none := F
  show JJ X 6 D σ 0 [(0, .ref (D.2.1 33)), (1, .int a1), (2, .int a2)] [] (QQ X D (none, fX10_go σ a1 a2))
  rw [fX10_go]
  refine j_iload_n F dX10_go_0 1 rfl 2 rfl ?_
  refine j_bipush (v := 10) F dX10_go_1 3 rfl (by decide) ?_
  have jn_16 : ∀ (xt0_16 : Int32), a2 = 0 ∨ vp_in xt0_16 8 → JJ X 6 D σ 16 [(0, .ref (D.2.1 33)), (1, .int a1), (2, .int a2)] [.int xt0_16] (QQ X D (none, fX10_go_16 a1 a2 σ xt0_16)) := by
    intro xt0_16 hn_16
    rw [fX10_go_16]
    refine j_istore_n F dX10_go_16 17 rfl 3 rfl (by decide) [(3, .int xt0_16), (0, .ref (D.2.1 33)), (1, .int a1), (2, .int a2)] rfl ?_
    refine j_iload_n F dX10_go_17 18 rfl 3 rfl ?_
    refine j_bipush (v := 10) F dX10_go_18 20 rfl (by decide) ?_
    have jn_42 : ∀ (xt0_42 : Int32), JJ X 6 D σ 42 [(0, .ref (D.2.1 33)), (1, .int a1), (2, .int a2), (3, .int xt0_16)] [.int xt0_42] (QQ X D (none, fX10_go_42 a1 a2 σ xt0_16 xt0_42)) := by
      intro xt0_42
      rw [fX10_go_42]
      refine j_istore F dX10_go_42 44 rfl (by decide) [(4, .int xt0_42), (0, .ref (D.2.1 33)), (1, .int a1), (2, .int a2), (3, .int xt0_16)] rfl ?_
      refine j_iload_n F dX10_go_44 45 rfl 3 rfl ?_
      have jn_73 : ∀ (xt0_73 : Int32), JJ X 6 D σ 73 [(0, .ref (D.2.1 33)), (1, .int a1), (2, .int a2), (3, .int xt0_16), (4, .int xt0_42)] [.int xt0_73] (QQ X D (none, fX10_go_73 a1 a2 σ xt0_16 xt0_42 xt0_73)) := by
        intro xt0_73
        rw [fX10_go_73]
        refine j_istore F dX10_go_73 75 rfl (by decide) [(5, .int xt0_73), (0, .ref (D.2.1 33)), (1, .int a1), (2, .int a2), (3, .int xt0_16), (4, .int xt0_42)] rfl ?_
        refine j_aload_n F dX10_go_75 76 rfl 1 rfl ?_
        refine j_get (j := 19) F dX10_go_76 79 rfl inX10 rfl (by decide) sh33 (by decide) qX10_47 rfl ?_
        refine j_iload_n F dX10_go_79 80 rfl 2 rfl ?_
        refine j_iload_n F dX10_go_80 81 rfl 3 rfl ?_
        have jn_108 : ∀ (xt0_108 : Int32), JJ X 6 D σ 108 [(0, .ref (D.2.1 33)), (1, .int a1), (4, .int xt0_42), (5, .int xt0_73)] [.int xt0_108, .int a1, .ref (D.2.1 46)] (QQ X D (none, fX10_go_108 a1 a2 σ xt0_42 xt0_73 xt0_108 a1)) := by
          intro xt0_108
          rw [fX10_go_108]
          refine j_iast F dX10_go_108 109 rfl ia46 (by first | assumption | exact vin_c (by assumption) (by assumption) (by decide) | exact vin_d (by assumption) (by assumption) (by decide) | exact vin_k (by assumption) (by assumption) (by decide) | exact vin_mono (by assumption) (by decide) | exact vin_mono (isThing_in (by assumption) (by assumption)) (by decide)) ?_
          refine j_aload_n F dX10_go_109 110 rfl 0 rfl ?_
          refine j_iload_n F dX10_go_110 111 rfl 1 rfl ?_
          refine j_iconst (v := 1) F dX10_go_111 112 rfl (by decide) ?_
          refine j_iadd F dX10_go_112 113 rfl ?_
          refine j_iload F dX10_go_113 115 rfl 2 rfl ?_
          refine j_iload F dX10_go_115 117 rfl 3 rfl ?_
          refine j_callVv (as := [.int (a1 + 1), .int xt0_42, .int xt0_73]) (st := []) (σ9 := (fX10_begin (up σ 46 a1.toNatClampNeg xt0_108) (a1 + 1) xt0_42 xt0_73)) F zX10_begin dX10_go_117 120 rfl pX10_begin rfl (by decide) (by decide) (Nat.le_of_ble_eq_true rfl) rfl qX10_233 rfl rfl (by decide) sh33 (kX10_begin l D (a1 + 1) xt0_42 xt0_73 (up σ 46 a1.toNatClampNeg xt0_108) (vin_s hv1)) ?_
          exact j_ret_v F dX10_go_120 rfl rfl rfl
        refine j_if_ne F dX10_go_81 88 (by decide) 84 rfl (fun c_81 => ?_) (fun c_81 => ?_)
        · rw [if_pos c_81]
          refine j_iconst (v := 0) F dX10_go_84 85 rfl (by decide) ?_
          refine j_goto F dX10_go_85 108 (by decide) ?_
          refine j_pick [1, 2, 5, 0] [(0, .ref (D.2.1 33)), (1, .int a1), (4, .int xt0_42), (5, .int xt0_73)] rfl ?_
          exact jn_108 0
        · rw [if_neg c_81]
          refine j_iload_n F dX10_go_88 89 rfl 3 rfl ?_
          refine j_bipush (v := 10) F dX10_go_89 91 rfl (by decide) ?_
          refine j_icmp_le F dX10_go_91 103 (by decide) 94 rfl (fun c_91 => ?_) (fun c_91 => ?_)
          · rw [if_pos c_91]
            refine j_aload_n F dX10_go_94 95 rfl 1 rfl ?_
            refine j_iload_n F dX10_go_95 96 rfl 4 rfl ?_
            refine j_callVr (as := [.int xt0_16]) (st := [.int a1, .ref (D.2.1 46)]) (r := .int (fX10_costOf σ xt0_16)) (σ9 := σ) F zX10_costOf dX10_go_96 99 rfl pX10_costOf rfl (by decide) (by decide) (Nat.le_of_ble_eq_true rfl) rfl qX10_137 rfl rfl (by decide) sh33 (kX10_costOf l D xt0_16 σ (hn_16.resolve_left c_81)) ?_
            refine j_ineg F dX10_go_99 100 rfl ?_
            refine j_goto F dX10_go_100 108 (by decide) ?_
            refine j_pick [1, 2, 5, 0] [(0, .ref (D.2.1 33)), (1, .int a1), (4, .int xt0_42), (5, .int xt0_73)] rfl ?_
            exact jn_108 (-(fX10_costOf σ xt0_16))
          · rw [if_neg c_91]
            refine j_aload_n F dX10_go_103 104 rfl 1 rfl ?_
            refine j_iload_n F dX10_go_104 105 rfl 4 rfl ?_
            refine j_callVr (as := [.int xt0_16]) (st := [.int a1, .ref (D.2.1 46)]) (r := .int (fX10_worthOf σ xt0_16)) (σ9 := σ) F zX10_worthOf dX10_go_105 108 rfl pX10_worthOf rfl (by decide) (by decide) (Nat.le_of_ble_eq_true rfl) rfl qX10_134 rfl rfl (by decide) sh33 (kX10_worthOf l D xt0_16 σ (hn_16.resolve_left c_81)) ?_
            refine j_pick [1, 2, 5, 0] [(0, .ref (D.2.1 33)), (1, .int a1), (4, .int xt0_42), (5, .int xt0_73)] rfl ?_
            exact jn_108 (fX10_worthOf σ xt0_16)
      have jn_67 : JJ X 6 D σ 67 [(0, .ref (D.2.1 33)), (1, .int a1), (2, .int a2), (3, .int xt0_16), (4, .int xt0_42)] [] (QQ X D (none, fX10_go_67 a1 a2 σ xt0_16 xt0_42)) := by
        rw [fX10_go_67]
        refine j_aload_n F dX10_go_67 68 rfl 0 rfl ?_
        refine j_get (j := 15) F dX10_go_68 71 rfl inX10 rfl (by decide) sh33 (by decide) qX10_35 rfl ?_
        refine j_iload_n F dX10_go_71 72 rfl 1 rfl ?_
        refine j_iald F dX10_go_72 73 rfl ia42 (by first | assumption | exact vin_c (by assumption) (by assumption) (by decide) | exact vin_d (by assumption) (by assumption) (by decide) | exact vin_k (by assumption) (by assumption) (by decide) | exact vin_mono (by assumption) (by decide) | exact vin_mono (isThing_in (by assumption) (by assumption)) (by decide)) ?_
        exact jn_73 (σ.1 42 a1.toNatClampNeg)
      refine j_if_le F dX10_go_45 67 (by decide) 48 rfl (fun c_45 => ?_) (fun c_45 => ?_)
      · rw [if_pos c_45]
        refine j_iload_n F dX10_go_48 49 rfl 3 rfl ?_
        refine j_bipush (v := 9) F dX10_go_49 51 rfl (by decide) ?_
        refine j_icmp_ge F dX10_go_51 67 (by decide) 54 rfl (fun c_51 => ?_) (fun c_51 => ?_)
        · rw [if_pos c_51]
          refine j_aload_n F dX10_go_54 55 rfl 1 rfl ?_
          refine j_get (j := 15) F dX10_go_55 58 rfl inX10 rfl (by decide) sh33 (by decide) qX10_35 rfl ?_
          refine j_iload_n F dX10_go_58 59 rfl 2 rfl ?_
          refine j_iald F dX10_go_59 60 rfl ia42 (by first | assumption | exact vin_c (by assumption) (by assumption) (by decide) | exact vin_d (by assumption) (by assumption) (by decide) | exact vin_k (by assumption) (by assumption) (by decide) | exact vin_mono (by assumption) (by decide) | exact vin_mono (isThing_in (by assumption) (by assumption)) (by decide)) ?_
          refine j_iconst (v := 1) F dX10_go_60 61 rfl (by decide) ?_
          refine j_iload_n F dX10_go_61 62 rfl 4 rfl ?_
          refine j_ishl F dX10_go_62 63 rfl ?_
          refine j_ior F dX10_go_63 64 rfl ?_
          refine j_goto F dX10_go_64 73 (by decide) ?_
          refine j_pick [1, 2, 3, 4, 0] [(0, .ref (D.2.1 33)), (1, .int a1), (2, .int a2), (3, .int xt0_16), (4, .int xt0_42)] rfl ?_
          exact jn_73 ((σ.1 42 a1.toNatClampNeg) ||| (1 <<< (xt0_16 &&& 31)))
        · rw [if_neg c_51]
          refine j_pick [1, 2, 3, 4, 0] [(0, .ref (D.2.1 33)), (1, .int a1), (2, .int a2), (3, .int xt0_16), (4, .int xt0_42)] rfl ?_
          exact jn_67
      · rw [if_neg c_45]
        refine j_pick [1, 2, 3, 4, 0] [(0, .ref (D.2.1 33)), (1, .int a1), (2, .int a2), (3, .int xt0_16), (4, .int xt0_42)] rfl ?_
        exact jn_67
    refine j_icmp_le F dX10_go_20 36 (by decide) 23 rfl (fun c_20 => ?_) (fun c_20 => ?_)
    · rw [if_pos c_20]
      refine j_aload_n F dX10_go_23 24 rfl 1 rfl ?_
      refine j_get (j := 14) F dX10_go_24 27 rfl inX10 rfl (by decide) sh33 (by decide) qX10_32 rfl ?_
      refine j_iload_n F dX10_go_27 28 rfl 2 rfl ?_
      refine j_iald F dX10_go_28 29 rfl ia41 (by first | assumption | exact vin_c (by assumption) (by assumption) (by decide) | exact vin_d (by assumption) (by assumption) (by decide) | exact vin_k (by assumption) (by assumption) (by decide) | exact vin_mono (by assumption) (by decide) | exact vin_mono (isThing_in (by assumption) (by assumption)) (by decide)) ?_
      refine j_iconst (v := 1) F dX10_go_29 30 rfl (by decide) ?_
      refine j_iload_n F dX10_go_30 31 rfl 0 rfl ?_
      refine j_ishl F dX10_go_31 32 rfl ?_
      refine j_ior F dX10_go_32 33 rfl ?_
      refine j_goto F dX10_go_33 42 (by decide) ?_
      refine j_pick [1, 2, 3, 0] [(0, .ref (D.2.1 33)), (1, .int a1), (2, .int a2), (3, .int xt0_16)] rfl ?_
      exact jn_42 ((σ.1 41 a1.toNatClampNeg) ||| (1 <<< (xt0_16 &&& 31)))
    · rw [if_neg c_20]
      refine j_aload_n F dX10_go_36 37 rfl 1 rfl ?_
      refine j_get (j := 14) F dX10_go_37 40 rfl inX10 rfl (by decide) sh33 (by decide) qX10_32 rfl ?_
      refine j_iload_n F dX10_go_40 41 rfl 2 rfl ?_
      refine j_iald F dX10_go_41 42 rfl ia41 (by first | assumption | exact vin_c (by assumption) (by assumption) (by decide) | exact vin_d (by assumption) (by assumption) (by decide) | exact vin_k (by assumption) (by assumption) (by decide) | exact vin_mono (by assumption) (by decide) | exact vin_mono (isThing_in (by assumption) (by assumption)) (by decide)) ?_
      refine j_pick [1, 2, 3, 0] [(0, .ref (D.2.1 33)), (1, .int a1), (2, .int a2), (3, .int xt0_16)] rfl ?_
      exact jn_42 (σ.1 41 a1.toNatClampNeg)
  refine j_icmp_le F dX10_go_3 13 (by decide) 6 rfl (fun c_3 => ?_) (fun c_3 => ?_)
  · rw [if_pos c_3]
    refine j_iload_n F dX10_go_6 7 rfl 2 rfl ?_
    refine j_bipush (v := 11) F dX10_go_7 9 rfl (by decide) ?_
    refine j_isub F dX10_go_9 10 rfl ?_
    refine j_goto F dX10_go_10 16 (by decide) ?_
    exact jn_16 (a2 - 11) (by first | (rw [if_pos c_3] at ht; exact ht) | (rw [if_neg c_3] at ht; exact ht))
  · rw [if_neg c_3]
    refine j_iload_n F dX10_go_13 14 rfl 2 rfl ?_
    refine j_iconst (v := 1) F dX10_go_14 15 rfl (by decide) ?_
    refine j_isub F dX10_go_15 16 rfl ?_
    exact jn_16 (a2 - 1) (by first | (rw [if_pos c_3] at ht; exact ht) | (rw [if_neg c_3] at ht; exact ht))
def fX10_count (σ : Mm) (a1 : Int32) : Int32 := if a1 = 0 then ((σ.1 33 2)) else if a1 = 1 then ((σ.1 34 13)) else if a1 = 2 then ((σ.1 34 11)) else if a1 = 3 then ((σ.1 34 12)) else if a1 = 4 then ((fX10_shown σ 0)) else if a1 = 5 then ((fX10_last σ)) else if a1 = 6 then ((σ.1 34 10)) else if a1 = 7 then ((fX10_hiddenThere σ)) else if a1 = 8 then ((σ.1 34 8)) else if a1 = 9 then ((σ.1 33 3)) else if a1 = 10 then ((σ.1 33 6)) else ((-2))
set_option maxRecDepth 20000 in
theorem kX10_count (l : Launch) (D : Dm) (a1 : Int32) (σ : Mm) (hM : vp_in (σ.1 34 13) 9) : Ct l yX10_count cX10_count 2 (some .int) 7 D [.ref (D.2.1 33), .int a1] σ (some (.int (fX10_count σ a1)), σ) := by
  refine ct_of (by decide +kernel) (Nat.le_of_ble_eq_true rfl) (fun X F => ?_)
  have F : Fx X l 2 D cX10_count RX10 7 (some .int) := F
  show JJ X 2 D σ 0 [(0, .ref (D.2.1 33)), (1, .int a1)] [] (QQ X D (some (.int (fX10_count σ a1)), σ))
  rw [fX10_count]
  refine j_iload_n F dX10_count_0 1 rfl 1 rfl ?_
  refine j_by (a1 = 0) (fun c_1_0 => ?_) (fun c_1_0 => ?_)
  · rw [if_pos c_1_0]
    refine j_tin (z := 0) F dX10_count_1 c_1_0 (by decide) (by decide) (by decide) rfl 60 (by decide) ?_
    refine j_aload_n F dX10_count_60 61 rfl 0 rfl ?_
    refine j_get (j := 2) F dX10_count_61 64 rfl inX10 rfl (by decide) sh33 (by decide) qX10_62 rfl ?_
    exact j_ret_i F dX10_count_64 rfl rfl rfl
  · rw [if_neg c_1_0]
    refine j_by (a1 = 1) (fun c_1_1 => ?_) (fun c_1_1 => ?_)
    · rw [if_pos c_1_1]
      refine j_tin (z := 1) F dX10_count_1 c_1_1 (by decide) (by decide) (by decide) rfl 65 (by decide) ?_
      refine j_aload_n F dX10_count_65 66 rfl 0 rfl ?_
      refine j_callVr (as := []) (st := []) (r := .int (σ.1 34 13)) (σ9 := σ) F zX10_many dX10_count_66 69 rfl pX10_many rfl (by decide) (by decide) (Nat.le_of_ble_eq_true rfl) rfl qX10_105 rfl rfl (by decide) sh33 (kX10_many l D σ) ?_
      exact j_ret_i F dX10_count_69 rfl rfl rfl
    · rw [if_neg c_1_1]
      refine j_by (a1 = 2) (fun c_1_2 => ?_) (fun c_1_2 => ?_)
      · rw [if_pos c_1_2]
        refine j_tin (z := 2) F dX10_count_1 c_1_2 (by decide) (by decide) (by decide) rfl 70 (by decide) ?_
        refine j_aload_n F dX10_count_70 71 rfl 0 rfl ?_
        refine j_get (j := 0) F dX10_count_71 74 rfl inX10 rfl (by decide) sh33 (by decide) qX10_7 rfl ?_
        refine j_bipush (v := 11) F dX10_count_74 76 rfl (by decide) ?_
        refine j_iald_n F dX10_count_76 77 rfl ia34 11 rfl (by decide) ?_
        exact j_ret_i F dX10_count_77 rfl rfl rfl
      · rw [if_neg c_1_2]
        refine j_by (a1 = 3) (fun c_1_3 => ?_) (fun c_1_3 => ?_)
        · rw [if_pos c_1_3]
          refine j_tin (z := 3) F dX10_count_1 c_1_3 (by decide) (by decide) (by decide) rfl 78 (by decide) ?_
          refine j_aload_n F dX10_count_78 79 rfl 0 rfl ?_
          refine j_get (j := 0) F dX10_count_79 82 rfl inX10 rfl (by decide) sh33 (by decide) qX10_7 rfl ?_
          refine j_bipush (v := 12) F dX10_count_82 84 rfl (by decide) ?_
          refine j_iald_n F dX10_count_84 85 rfl ia34 12 rfl (by decide) ?_
          exact j_ret_i F dX10_count_85 rfl rfl rfl
        · rw [if_neg c_1_3]
          refine j_by (a1 = 4) (fun c_1_4 => ?_) (fun c_1_4 => ?_)
          · rw [if_pos c_1_4]
            refine j_tin (z := 4) F dX10_count_1 c_1_4 (by decide) (by decide) (by decide) rfl 86 (by decide) ?_
            refine j_aload_n F dX10_count_86 87 rfl 0 rfl ?_
            refine j_iconst (v := 0) F dX10_count_87 88 rfl (by decide) ?_
            refine j_callVr (as := [.int (nI 0)]) (st := []) (r := .int (fX10_shown σ 0)) (σ9 := σ) F zX10_shown dX10_count_88 91 rfl pX10_shown rfl (by decide) (by decide) (Nat.le_of_ble_eq_true rfl) rfl qX10_122 rfl rfl (by decide) sh33 (kX10_shown l D 0 σ (by decide)) ?_
            exact j_ret_i F dX10_count_91 rfl rfl rfl
          · rw [if_neg c_1_4]
            refine j_by (a1 = 5) (fun c_1_5 => ?_) (fun c_1_5 => ?_)
            · rw [if_pos c_1_5]
              refine j_tin (z := 5) F dX10_count_1 c_1_5 (by decide) (by decide) (by decide) rfl 92 (by decide) ?_
              refine j_aload_n F dX10_count_92 93 rfl 0 rfl ?_
              refine j_callVr (as := []) (st := []) (r := .int (fX10_last σ)) (σ9 := σ) F zX10_last dX10_count_93 96 rfl pX10_last rfl (by decide) (by decide) (Nat.le_of_ble_eq_true rfl) rfl qX10_143 rfl rfl (by decide) sh33 (kX10_last l D σ (by first | assumption | exact isThing_in (by assumption) (by assumption) | exact vin_mono (by assumption) (by decide) | omega | decide)) ?_
              exact j_ret_i F dX10_count_96 rfl rfl rfl
            · rw [if_neg c_1_5]
              refine j_by (a1 = 6) (fun c_1_6 => ?_) (fun c_1_6 => ?_)
              · rw [if_pos c_1_6]
                refine j_tin (z := 6) F dX10_count_1 c_1_6 (by decide) (by decide) (by decide) rfl 97 (by decide) ?_
                refine j_aload_n F dX10_count_97 98 rfl 0 rfl ?_
                refine j_get (j := 0) F dX10_count_98 101 rfl inX10 rfl (by decide) sh33 (by decide) qX10_7 rfl ?_
                refine j_bipush (v := 10) F dX10_count_101 103 rfl (by decide) ?_
                refine j_iald_n F dX10_count_103 104 rfl ia34 10 rfl (by decide) ?_
                exact j_ret_i F dX10_count_104 rfl rfl rfl
              · rw [if_neg c_1_6]
                refine j_by (a1 = 7) (fun c_1_7 => ?_) (fun c_1_7 => ?_)
                · rw [if_pos c_1_7]
                  refine j_tin (z := 7) F dX10_count_1 c_1_7 (by decide) (by decide) (by decide) rfl 105 (by decide) ?_
                  refine j_aload_n F dX10_count_105 106 rfl 0 rfl ?_
                  refine j_callVr (as := []) (st := []) (r := .int (fX10_hiddenThere σ)) (σ9 := σ) F zX10_hiddenThere dX10_count_106 109 rfl pX10_hiddenThere rfl (by decide) (by decide) (Nat.le_of_ble_eq_true rfl) rfl qX10_214 rfl rfl (by decide) sh33 (kX10_hiddenThere l D σ) ?_
                  exact j_ret_i F dX10_count_109 rfl rfl rfl
                · rw [if_neg c_1_7]
                  refine j_by (a1 = 8) (fun c_1_8 => ?_) (fun c_1_8 => ?_)
                  · rw [if_pos c_1_8]
                    refine j_tin (z := 8) F dX10_count_1 c_1_8 (by decide) (by decide) (by decide) rfl 110 (by decide) ?_
                    refine j_aload_n F dX10_count_110 111 rfl 0 rfl ?_
                    refine j_get (j := 0) F dX10_count_111 114 rfl inX10 rfl (by decide) sh33 (by decide) qX10_7 rfl ?_
                    refine j_bipush (v := 8) F dX10_count_114 116 rfl (by decide) ?_
                    refine j_iald_n F dX10_count_116 117 rfl ia34 8 rfl (by decide) ?_
                    exact j_ret_i F dX10_count_117 rfl rfl rfl
                  · rw [if_neg c_1_8]
                    refine j_by (a1 = 9) (fun c_1_9 => ?_) (fun c_1_9 => ?_)
                    · rw [if_pos c_1_9]
                      refine j_tin (z := 9) F dX10_count_1 c_1_9 (by decide) (by decide) (by decide) rfl 118 (by decide) ?_
                      refine j_aload_n F dX10_count_118 119 rfl 0 rfl ?_
                      refine j_get (j := 3) F dX10_count_119 122 rfl inX10 rfl (by decide) sh33 (by decide) qX10_92 rfl ?_
                      exact j_ret_i F dX10_count_122 rfl rfl rfl
                    · rw [if_neg c_1_9]
                      refine j_by (a1 = 10) (fun c_1_10 => ?_) (fun c_1_10 => ?_)
                      · rw [if_pos c_1_10]
                        refine j_tin (z := 10) F dX10_count_1 c_1_10 (by decide) (by decide) (by decide) rfl 123 (by decide) ?_
                        refine j_aload_n F dX10_count_123 124 rfl 0 rfl ?_
                        refine j_get (j := 6) F dX10_count_124 127 rfl inX10 rfl (by decide) sh33 (by decide) qX10_211 rfl ?_
                        exact j_ret_i F dX10_count_127 rfl rfl rfl
                      · rw [if_neg c_1_10]
                        refine j_tout F dX10_count_1 (by have e0 := lv_neT c_1_0 (show (0 : Int32).toInt = 0 from by decide); have e1 := lv_neT c_1_1 (show (1 : Int32).toInt = 1 from by decide); have e2 := lv_neT c_1_2 (show (2 : Int32).toInt = 2 from by decide); have e3 := lv_neT c_1_3 (show (3 : Int32).toInt = 3 from by decide); have e4 := lv_neT c_1_4 (show (4 : Int32).toInt = 4 from by decide); have e5 := lv_neT c_1_5 (show (5 : Int32).toInt = 5 from by decide); have e6 := lv_neT c_1_6 (show (6 : Int32).toInt = 6 from by decide); have e7 := lv_neT c_1_7 (show (7 : Int32).toInt = 7 from by decide); have e8 := lv_neT c_1_8 (show (8 : Int32).toInt = 8 from by decide); have e9 := lv_neT c_1_9 (show (9 : Int32).toInt = 9 from by decide); have e10 := lv_neT c_1_10 (show (10 : Int32).toInt = 10 from by decide); omega) 128 (by decide) ?_
                        refine j_bipush (v := (-2)) F dX10_count_128 130 rfl (by decide) ?_
                        exact j_ret_i F dX10_count_130 rfl rfl rfl
def fX10_isSighted_75 (σ : Mm) (a1 : Int32) (kb4 : Bool → Nat → Bool) (k3_75 : Nat) (bt0_75 : Bool) : Bool := if (bi bt0_75) = (σ.1 39 k3_75) then (kb4 true (k3_75 + 1)) else (kb4 false (k3_75 + 1))
def mX10_isSighted_4 (σ : Mm) (a1 : Int32)  : Nat := ((σ.1 33 6) : Int32).toNatClampNeg
def fX10_isSighted_4 (σ : Mm) (a1 : Int32)  : Nat → Bool → Nat → Bool
  | 0, _, _ => false
  | n + 1, b2_4, k3_4 => if (nI k3_4) < (σ.1 33 6) then (if (fX10_isThing σ (σ.1 37 k3_4)) = true then (if b2_4 = true then (if (σ.1 38 k3_4) ≤ ((fX10_ones (fX10_alikeOf σ (σ.1 37 k3_4) a1 (σ.1 34 11))) + ((a1 >>> ((σ.1 37 k3_4) &&& 31)) &&& 1)) then (fX10_isSighted_75 σ a1 (fX10_isSighted_4 σ a1 n) k3_4 true) else (fX10_isSighted_75 σ a1 (fX10_isSighted_4 σ a1 n) k3_4 false)) else (fX10_isSighted_4 σ a1 n false (k3_4 + 1))) else (fX10_isSighted_4 σ a1 n b2_4 (k3_4 + 1))) else (b2_4)
def fX10_isSighted (σ : Mm) (a1 : Int32) : Bool := fX10_isSighted_4 σ a1 (mX10_isSighted_4 σ a1 + 1) true 0
set_option maxRecDepth 20000 in
theorem kX10_isSighted (l : Launch) (D : Dm) (a1 : Int32) (σ : Mm) (hM : vp_in (σ.1 34 13) 9) (hS : vp_in (σ.1 33 6) 7) : Ct l yX10_isSighted cX10_isSighted 6 (some .boolean) 5 D [.ref (D.2.1 33), .int a1] σ (some (.int (bi (fX10_isSighted σ a1))), σ) := by
  refine ct_of (by decide +kernel) (Nat.le_of_ble_eq_true rfl) (fun X F => ?_)
  have F : Fx X l 6 D cX10_isSighted RX10 5 (some .boolean) := F
  show JJ X 6 D σ 0 [(0, .ref (D.2.1 33)), (1, .int a1)] [] (QQ X D (some (.int (bi (fX10_isSighted σ a1))), σ))
  rw [fX10_isSighted]
  have hs6 := vin_le hS
  refine j_iconst (v := 1) F dX10_isSighted_0 1 rfl (by decide) ?_
  refine j_istore_n F dX10_isSighted_1 2 rfl 2 rfl (by decide) [(2, .int 1), (0, .ref (D.2.1 33)), (1, .int a1)] rfl ?_
  refine j_iconst (v := 0) F dX10_isSighted_2 3 rfl (by decide) ?_
  refine j_istore_n F dX10_isSighted_3 4 rfl 3 rfl (by decide) [(3, .int 0), (2, .int 1), (0, .ref (D.2.1 33)), (1, .int a1)] rfl ?_
  have lp_4 : ∀ (n_4 : Nat) (b2_4 : Bool) (k3_4 : Nat), k3_4 ≤ (((σ.1 33 6) : Int32).toNatClampNeg) → (((σ.1 33 6) : Int32).toNatClampNeg) < k3_4 + n_4 → JJ X 6 D σ 4 [(0, .ref (D.2.1 33)), (1, .int a1), (2, .int (bi b2_4)), (3, .int (nI k3_4))] [] (QQ X D (some (.int (bi (fX10_isSighted_4 σ a1 n_4 b2_4 k3_4))), σ)) := by
    intro n_4
    induction n_4 with
    | zero => intro b2_4 k3_4 hk_4 hn_4; exact absurd hn_4 (by omega)
    | succ n_4 ih_4 =>
      intro b2_4 k3_4 hk_4 hn_4
      rw [fX10_isSighted_4]
      refine j_iload_n F dX10_isSighted_4 5 rfl 3 rfl ?_
      refine j_aload_n F dX10_isSighted_5 6 rfl 0 rfl ?_
      refine j_get (j := 6) F dX10_isSighted_6 9 rfl inX10 rfl (by decide) sh33 (by decide) qX10_211 rfl ?_
      refine j_icmp_ge F dX10_isSighted_9 96 (by decide) 12 rfl (fun c_9 => ?_) (fun c_9 => ?_)
      · rw [if_pos c_9]
        have h_9 : k3_4 < (((σ.1 33 6) : Int32).toNatClampNeg) := nltd c_9 hk_4
        refine j_aload_n F dX10_isSighted_12 13 rfl 0 rfl ?_
        refine j_get (j := 7) F dX10_isSighted_13 16 rfl inX10 rfl (by decide) sh33 (by decide) qX10_19 rfl ?_
        refine j_iload_n F dX10_isSighted_16 17 rfl 3 rfl ?_
        refine j_iald_n F dX10_isSighted_17 18 rfl ia37 k3_4 rfl (by omega) ?_
        refine j_istore F dX10_isSighted_18 20 rfl (by decide) [(4, .int (σ.1 37 k3_4)), (0, .ref (D.2.1 33)), (1, .int a1), (2, .int (bi b2_4)), (3, .int (nI k3_4))] rfl ?_
        refine j_aload_n F dX10_isSighted_20 21 rfl 1 rfl ?_
        refine j_iload F dX10_isSighted_21 23 rfl 0 rfl ?_
        refine j_callVr (as := [.int (σ.1 37 k3_4)]) (st := []) (r := .int (bi (fX10_isThing σ (σ.1 37 k3_4)))) (σ9 := σ) F zX10_isThing dX10_isSighted_23 26 rfl pX10_isThing rfl (by decide) (by decide) (Nat.le_of_ble_eq_true rfl) rfl qX10_128 rfl rfl (by decide) sh33 (kX10_isThing l D (σ.1 37 k3_4) σ) ?_
        refine j_ifb_eq F dX10_isSighted_26 90 (by decide) 29 rfl (fun c_26 => ?_) (fun c_26 => ?_)
        · rw [if_pos c_26]
          refine j_aload_n F dX10_isSighted_29 30 rfl 1 rfl ?_
          refine j_iload F dX10_isSighted_30 32 rfl 0 rfl ?_
          refine j_iload_n F dX10_isSighted_32 33 rfl 2 rfl ?_
          refine j_aload_n F dX10_isSighted_33 34 rfl 1 rfl ?_
          refine j_get (j := 0) F dX10_isSighted_34 37 rfl inX10 rfl (by decide) sh33 (by decide) qX10_7 rfl ?_
          refine j_bipush (v := 11) F dX10_isSighted_37 39 rfl (by decide) ?_
          refine j_iald_n F dX10_isSighted_39 40 rfl ia34 11 rfl (by decide) ?_
          refine j_callVr (as := [.int (σ.1 37 k3_4), .int a1, .int (σ.1 34 11)]) (st := []) (r := .int (fX10_alikeOf σ (σ.1 37 k3_4) a1 (σ.1 34 11))) (σ9 := σ) F zX10_alikeOf dX10_isSighted_40 43 rfl pX10_alikeOf rfl (by decide) (by decide) (Nat.le_of_ble_eq_true rfl) rfl qX10_118 rfl rfl (by decide) sh33 (kX10_alikeOf l D (σ.1 37 k3_4) a1 (σ.1 34 11) σ (by first | assumption | exact isThing_in (by assumption) (by assumption) | exact vin_mono (by assumption) (by decide) | omega | decide) (by first | assumption | exact isThing_in (by assumption) (by assumption) | exact vin_mono (by assumption) (by decide) | omega | decide)) ?_
          refine j_callSr (as := [.int (fX10_alikeOf σ (σ.1 37 k3_4) a1 (σ.1 34 11))]) (st := []) (r := .int (fX10_ones (fX10_alikeOf σ (σ.1 37 k3_4) a1 (σ.1 34 11)))) (σ9 := σ) F zX10_ones dX10_isSighted_43 46 rfl pX10_ones rfl (by decide) (by decide) (Nat.le_of_ble_eq_true rfl) rfl qX10_115 (kX10_ones l D (fX10_alikeOf σ (σ.1 37 k3_4) a1 (σ.1 34 11)) σ) ?_
          refine j_iload_n F dX10_isSighted_46 47 rfl 2 rfl ?_
          refine j_iload F dX10_isSighted_47 49 rfl 0 rfl ?_
          refine j_ishr F dX10_isSighted_49 50 rfl ?_
          refine j_iconst (v := 1) F dX10_isSighted_50 51 rfl (by decide) ?_
          refine j_iand F dX10_isSighted_51 52 rfl ?_
          refine j_iadd F dX10_isSighted_52 53 rfl ?_
          refine j_istore F dX10_isSighted_53 55 rfl (by decide) [(5, .int ((fX10_ones (fX10_alikeOf σ (σ.1 37 k3_4) a1 (σ.1 34 11))) + ((a1 >>> ((σ.1 37 k3_4) &&& 31)) &&& 1))), (4, .int (σ.1 37 k3_4)), (0, .ref (D.2.1 33)), (1, .int a1), (2, .int (bi b2_4)), (3, .int (nI k3_4))] rfl ?_
          refine j_iload_n F dX10_isSighted_55 56 rfl 4 rfl ?_
          refine j_ifb_eq F dX10_isSighted_56 88 (by decide) 59 rfl (fun c_56 => ?_) (fun c_56 => ?_)
          · rw [if_pos c_56]
            refine j_iload F dX10_isSighted_59 61 rfl 0 rfl ?_
            refine j_aload_n F dX10_isSighted_61 62 rfl 2 rfl ?_
            refine j_get (j := 8) F dX10_isSighted_62 65 rfl inX10 rfl (by decide) sh33 (by decide) qX10_22 rfl ?_
            refine j_iload_n F dX10_isSighted_65 66 rfl 5 rfl ?_
            refine j_iald_n F dX10_isSighted_66 67 rfl ia38 k3_4 rfl (by omega) ?_
            have jn_75 : ∀ (bt0_75 : Bool), JJ X 6 D σ 75 [(0, .ref (D.2.1 33)), (1, .int a1), (3, .int (nI k3_4))] [.int (bi bt0_75)] (QQ X D (some (.int (bi (fX10_isSighted_75 σ a1 (fX10_isSighted_4 σ a1 n_4) k3_4 bt0_75))), σ)) := by
              intro bt0_75
              rw [fX10_isSighted_75]
              refine j_aload_n F dX10_isSighted_75 76 rfl 0 rfl ?_
              refine j_get (j := 9) F dX10_isSighted_76 79 rfl inX10 rfl (by decide) sh33 (by decide) qX10_25 rfl ?_
              refine j_iload_n F dX10_isSighted_79 80 rfl 2 rfl ?_
              refine j_zald_n F dX10_isSighted_80 81 rfl (by decide) (by decide) (fun _ _ => sh39) k3_4 rfl (by omega) ?_
              refine j_icmp_ne F dX10_isSighted_81 88 (by decide) 84 rfl (fun c_81 => ?_) (fun c_81 => ?_)
              · rw [if_pos c_81]
                refine j_iconst (v := 1) F dX10_isSighted_84 85 rfl (by decide) ?_
                refine j_goto F dX10_isSighted_85 89 (by decide) ?_
                refine j_istore_n F dX10_isSighted_89 90 rfl 2 rfl (by decide) [(2, .int 1), (0, .ref (D.2.1 33)), (1, .int a1), (3, .int (nI k3_4))] rfl ?_
                refine j_iinc F dX10_isSighted_90 93 rfl 3 rfl (nI (k3_4 + 1)) (nI_inc k3_4) (by decide) [(3, .int (nI (k3_4 + 1))), (2, .int 1), (0, .ref (D.2.1 33)), (1, .int a1)] rfl ?_
                refine j_goto F dX10_isSighted_93 4 (by decide) ?_
                refine j_pick [2, 3, 1, 0] [(0, .ref (D.2.1 33)), (1, .int a1), (2, .int 1), (3, .int (nI (k3_4 + 1)))] rfl ?_
                exact ih_4 true (k3_4 + 1) (by omega) (by omega)
              · rw [if_neg c_81]
                refine j_iconst (v := 0) F dX10_isSighted_88 89 rfl (by decide) ?_
                refine j_istore_n F dX10_isSighted_89 90 rfl 2 rfl (by decide) [(2, .int 0), (0, .ref (D.2.1 33)), (1, .int a1), (3, .int (nI k3_4))] rfl ?_
                refine j_iinc F dX10_isSighted_90 93 rfl 3 rfl (nI (k3_4 + 1)) (nI_inc k3_4) (by decide) [(3, .int (nI (k3_4 + 1))), (2, .int 0), (0, .ref (D.2.1 33)), (1, .int a1)] rfl ?_
                refine j_goto F dX10_isSighted_93 4 (by decide) ?_
                refine j_pick [2, 3, 1, 0] [(0, .ref (D.2.1 33)), (1, .int a1), (2, .int 0), (3, .int (nI (k3_4 + 1)))] rfl ?_
                exact ih_4 false (k3_4 + 1) (by omega) (by omega)
            refine j_icmp_lt F dX10_isSighted_67 74 (by decide) 70 rfl (fun c_67 => ?_) (fun c_67 => ?_)
            · rw [if_pos c_67]
              refine j_iconst (v := 1) F dX10_isSighted_70 71 rfl (by decide) ?_
              refine j_goto F dX10_isSighted_71 75 (by decide) ?_
              refine j_pick [2, 3, 5] [(0, .ref (D.2.1 33)), (1, .int a1), (3, .int (nI k3_4))] rfl ?_
              exact jn_75 true
            · rw [if_neg c_67]
              refine j_iconst (v := 0) F dX10_isSighted_74 75 rfl (by decide) ?_
              refine j_pick [2, 3, 5] [(0, .ref (D.2.1 33)), (1, .int a1), (3, .int (nI k3_4))] rfl ?_
              exact jn_75 false
          · rw [if_neg c_56]
            refine j_iconst (v := 0) F dX10_isSighted_88 89 rfl (by decide) ?_
            refine j_istore_n F dX10_isSighted_89 90 rfl 2 rfl (by decide) [(2, .int 0), (5, .int ((fX10_ones (fX10_alikeOf σ (σ.1 37 k3_4) a1 (σ.1 34 11))) + ((a1 >>> ((σ.1 37 k3_4) &&& 31)) &&& 1))), (4, .int (σ.1 37 k3_4)), (0, .ref (D.2.1 33)), (1, .int a1), (3, .int (nI k3_4))] rfl ?_
            refine j_iinc F dX10_isSighted_90 93 rfl 5 rfl (nI (k3_4 + 1)) (nI_inc k3_4) (by decide) [(3, .int (nI (k3_4 + 1))), (2, .int 0), (5, .int ((fX10_ones (fX10_alikeOf σ (σ.1 37 k3_4) a1 (σ.1 34 11))) + ((a1 >>> ((σ.1 37 k3_4) &&& 31)) &&& 1))), (4, .int (σ.1 37 k3_4)), (0, .ref (D.2.1 33)), (1, .int a1)] rfl ?_
            refine j_goto F dX10_isSighted_93 4 (by decide) ?_
            refine j_pick [4, 5, 1, 0] [(0, .ref (D.2.1 33)), (1, .int a1), (2, .int 0), (3, .int (nI (k3_4 + 1)))] rfl ?_
            exact ih_4 false (k3_4 + 1) (by omega) (by omega)
        · rw [if_neg c_26]
          refine j_iinc F dX10_isSighted_90 93 rfl 4 rfl (nI (k3_4 + 1)) (nI_inc k3_4) (by decide) [(3, .int (nI (k3_4 + 1))), (4, .int (σ.1 37 k3_4)), (0, .ref (D.2.1 33)), (1, .int a1), (2, .int (bi b2_4))] rfl ?_
          refine j_goto F dX10_isSighted_93 4 (by decide) ?_
          refine j_pick [2, 3, 4, 0] [(0, .ref (D.2.1 33)), (1, .int a1), (2, .int (bi b2_4)), (3, .int (nI (k3_4 + 1)))] rfl ?_
          exact ih_4 b2_4 (k3_4 + 1) (by omega) (by omega)
      · rw [if_neg c_9]
        refine j_iload_n F dX10_isSighted_96 97 rfl 2 rfl ?_
        exact j_ret_b (b := b2_4) F dX10_isSighted_97 rfl rfl rfl
  refine j_pick [2, 3, 1, 0] [(0, .ref (D.2.1 33)), (1, .int a1), (2, .int 1), (3, .int 0)] rfl ?_
  exact lp_4 (mX10_isSighted_4 σ a1 + 1) true 0 (Nat.zero_le _) (by show (((σ.1 33 6) : Int32).toNatClampNeg) < 0 + ((((σ.1 33 6) : Int32).toNatClampNeg) + 1); omega)
def fX10_keep_21 (a1 : Int32)  : Nat → Mm → Nat → Int32 × Mm
  | 0, s_21, _ => (0, s_21)
  | n + 1, s_21, k2_21 => if (nI k2_21) < 14 then (fX10_keep_21 a1 n (up s_21 48 ((14 * a1) + (nI k2_21)).toNatClampNeg (s_21.1 34 k2_21)) (k2_21 + 1)) else (((s_21.1 34 13), s_21))
def fX10_keep (σ : Mm) (a1 : Int32) : Int32 × Mm := if (fX10_in (a1.toInt64) 0 1) = true then (fX10_keep_21 a1 15 (up σ 47 a1.toNatClampNeg 1) 0) else (((-1), σ))
set_option maxRecDepth 20000 in
theorem kX10_keep (l : Launch) (D : Dm) (a1 : Int32) (σ : Mm)  : Ct l yX10_keep cX10_keep 3 (some .int) 2 D [.ref (D.2.1 33), .int a1] σ (some (.int (fX10_keep σ a1).1), (fX10_keep σ a1).2) := by
  refine ct_of (by decide +kernel) (Nat.le_of_ble_eq_true rfl) (fun X F => ?_)
  have F : Fx X l 3 D cX10_keep RX10 2 (some .int) := F
  show JJ X 3 D σ 0 [(0, .ref (D.2.1 33)), (1, .int a1)] [] (QQ X D (some (.int (fX10_keep σ a1).1), (fX10_keep σ a1).2))
  rw [fX10_keep]
  refine j_iload_n F dX10_keep_0 1 rfl 1 rfl ?_
  refine j_i2l F dX10_keep_1 2 rfl ?_
  refine j_lconst (v := 0) F dX10_keep_2 3 rfl (by decide) ?_
  refine j_lconst (v := 1) F dX10_keep_3 4 rfl (by decide) ?_
  refine j_callSr (as := [.long (a1.toInt64), .long 0, .long 1]) (st := []) (r := .int (bi (fX10_in (a1.toInt64) 0 1))) (σ9 := σ) F zX10_in dX10_keep_4 7 rfl pX10_in rfl (by decide) (by decide) (Nat.le_of_ble_eq_true rfl) rfl qX10_58 (kX10_in l D (a1.toInt64) 0 1 σ) ?_
  refine j_ifb_ne F dX10_keep_7 12 (by decide) 10 rfl (fun c_7 => ?_) (fun c_7 => ?_)
  · rw [if_neg c_7]
    refine j_iconst (v := (-1)) F dX10_keep_10 11 rfl (by decide) ?_
    exact j_ret_i F dX10_keep_11 rfl rfl rfl
  · rw [if_pos c_7]
    refine j_aload_n F dX10_keep_12 13 rfl 0 rfl ?_
    refine j_get (j := 21) F dX10_keep_13 16 rfl inX10 rfl (by decide) sh33 (by decide) qX10_50 rfl ?_
    refine j_iload_n F dX10_keep_16 17 rfl 1 rfl ?_
    refine j_iconst (v := 1) F dX10_keep_17 18 rfl (by decide) ?_
    refine j_zast (v' := 1) F dX10_keep_18 19 rfl (by decide) (fun _ _ => sh47) (in_0_1 c_7) (by decide) ?_
    refine j_iconst (v := 0) F dX10_keep_19 20 rfl (by decide) ?_
    refine j_istore_n F dX10_keep_20 21 rfl 2 rfl (by decide) [(2, .int 0), (0, .ref (D.2.1 33)), (1, .int a1)] rfl ?_
    have lp_21 : ∀ (n_21 : Nat) (s_21 : Mm) (k2_21 : Nat), k2_21 ≤ 14 → 14 < k2_21 + n_21 → JJ X 3 D s_21 21 [(0, .ref (D.2.1 33)), (1, .int a1), (2, .int (nI k2_21))] [] (QQ X D (some (.int (fX10_keep_21 a1 n_21 s_21 k2_21).1), (fX10_keep_21 a1 n_21 s_21 k2_21).2)) := by
      intro n_21
      induction n_21 with
      | zero => intro s_21 k2_21 hk_21 hn_21; exact absurd hn_21 (by omega)
      | succ n_21 ih_21 =>
        intro s_21 k2_21 hk_21 hn_21
        rw [fX10_keep_21]
        refine j_iload_n F dX10_keep_21 22 rfl 2 rfl ?_
        refine j_bipush (v := 14) F dX10_keep_22 24 rfl (by decide) ?_
        refine j_icmp_ge F dX10_keep_24 50 (by decide) 27 rfl (fun c_24 => ?_) (fun c_24 => ?_)
        · rw [if_pos c_24]
          have h_24 : k2_21 < 14 := nlt c_24 (by decide) (by omega)
          refine j_aload_n F dX10_keep_27 28 rfl 0 rfl ?_
          refine j_get (j := 22) F dX10_keep_28 31 rfl inX10 rfl (by decide) sh33 (by decide) qX10_53 rfl ?_
          refine j_bipush (v := 14) F dX10_keep_31 33 rfl (by decide) ?_
          refine j_iload_n F dX10_keep_33 34 rfl 1 rfl ?_
          refine j_imul F dX10_keep_34 35 rfl ?_
          refine j_iload_n F dX10_keep_35 36 rfl 2 rfl ?_
          refine j_iadd F dX10_keep_36 37 rfl ?_
          refine j_aload_n F dX10_keep_37 38 rfl 0 rfl ?_
          refine j_get (j := 0) F dX10_keep_38 41 rfl inX10 rfl (by decide) sh33 (by decide) qX10_7 rfl ?_
          refine j_iload_n F dX10_keep_41 42 rfl 2 rfl ?_
          refine j_iald_n F dX10_keep_42 43 rfl ia34 k2_21 rfl (by omega) ?_
          refine j_iast F dX10_keep_43 44 rfl ia48 (vin_kp (in_0_1 c_7) (by omega)) ?_
          refine j_iinc F dX10_keep_44 47 rfl 2 rfl (nI (k2_21 + 1)) (nI_inc k2_21) (by decide) [(2, .int (nI (k2_21 + 1))), (0, .ref (D.2.1 33)), (1, .int a1)] rfl ?_
          refine j_goto F dX10_keep_47 21 (by decide) ?_
          refine j_pick [1, 2, 0] [(0, .ref (D.2.1 33)), (1, .int a1), (2, .int (nI (k2_21 + 1)))] rfl ?_
          exact ih_21 (up s_21 48 ((14 * a1) + (nI k2_21)).toNatClampNeg (s_21.1 34 k2_21)) (k2_21 + 1) (by omega) (by omega)
        · rw [if_neg c_24]
          refine j_aload_n F dX10_keep_50 51 rfl 0 rfl ?_
          refine j_callVr (as := []) (st := []) (r := .int (s_21.1 34 13)) (σ9 := s_21) F zX10_many dX10_keep_51 54 rfl pX10_many rfl (by decide) (by decide) (Nat.le_of_ble_eq_true rfl) rfl qX10_105 rfl rfl (by decide) sh33 (kX10_many l D s_21) ?_
          exact j_ret_i F dX10_keep_54 rfl rfl rfl
    refine j_pick [1, 2, 0] [(0, .ref (D.2.1 33)), (1, .int a1), (2, .int 0)] rfl ?_
    exact lp_21 15 (up σ 47 a1.toNatClampNeg 1) 0 (by omega) (by omega)
def fX10_layWorlds_104  (kb43 : Mm → Int32 → Nat → Mm) : Nat → Mm → Int32 → Nat → Nat → Mm
  | 0, s_104, _, _, _ => s_104
  | n + 1, s_104, x1_104, k2_104, k3_104 => if (nI k3_104) < 8 then (fX10_layWorlds_104 kb43 n (up s_104 40 k3_104 ((s_104.1 40 k3_104) + (((nI k2_104) >>> ((nI k3_104) &&& 31)) &&& 1))) x1_104 k2_104 (k3_104 + 1)) else (kb43 s_104 x1_104 (k2_104 + 1))
def fX10_layWorlds_92  (kb43 : Mm → Int32 → Nat → Mm) (s_92 : Mm) (x1_92 : Int32) (k2_92 : Nat) : Mm := fX10_layWorlds_104 kb43 9 (up s_92 33 12 ((s_92.1 33 12) ||| (nI k2_92))) x1_92 k2_92 0
def fX10_layWorlds_43   : Nat → Mm → Int32 → Nat → Mm
  | 0, s_43, _, _ => s_43
  | n + 1, s_43, x1_43, k2_43 => if (nI k2_43) < 256 then (if ((nI k2_43) &&& (x1_43 ^^^ (-1))) = 0 then (if (fX10_isSighted s_43 ((fX10_shown s_43 0) ||| (nI k2_43))) = true then (fX10_layWorlds_92 (fX10_layWorlds_43 n) (up (up s_43 33 10 ((s_43.1 33 10) + 1)) 33 11 (((up s_43 33 10 ((s_43.1 33 10) + 1)).1 33 11) &&& (nI k2_43))) x1_43 k2_43) else (fX10_layWorlds_43 n s_43 x1_43 (k2_43 + 1))) else (fX10_layWorlds_43 n s_43 x1_43 (k2_43 + 1))) else (s_43)
def fX10_layWorlds_41   (s_41 : Mm) (x1_41 : Int32) : Mm := fX10_layWorlds_43 257 s_41 x1_41 0
def fX10_layWorlds_22   : Nat → Mm → Int32 → Nat → Mm
  | 0, s_22, _, _ => s_22
  | n + 1, s_22, x1_22, k2_22 => if (nI k2_22) < 8 then (fX10_layWorlds_22 n (up s_22 40 k2_22 0) x1_22 (k2_22 + 1)) else (fX10_layWorlds_41 s_22 x1_22)
def fX10_layWorlds_15   (s_15 : Mm) (x1_15 : Int32) : Mm := fX10_layWorlds_22 9 (up s_15 33 12 0) x1_15 0
def fX10_layWorlds (σ : Mm)  : Mm := fX10_layWorlds_15 (up (up σ 33 10 0) 33 11 (fX10_hiddenThere σ)) (fX10_hiddenThere σ)
set_option maxRecDepth 20000 in
theorem kX10_layWorlds (l : Launch) (D : Dm)  (σ : Mm) (hM : vp_in (σ.1 34 13) 9) (hS : vp_in (σ.1 33 6) 7) : Ct l yX10_layWorlds cX10_layWorlds 4 none 6 D [.ref (D.2.1 33)] σ (none, fX10_layWorlds σ) := by
  refine ct_of (by decide +kernel) (Nat.le_of_ble_eq_true rfl) (fun X F => ?_)
  have F : Fx X l 4 D cX10_layWorlds RX10 6 none := F
  show JJ X 4 D σ 0 [(0, .ref (D.2.1 33))] [] (QQ X D (none, fX10_layWorlds σ))
  rw [fX10_layWorlds]
  refine j_aload_n F dX10_layWorlds_0 1 rfl 0 rfl ?_
  refine j_callVr (as := []) (st := []) (r := .int (fX10_hiddenThere σ)) (σ9 := σ) F zX10_hiddenThere dX10_layWorlds_1 4 rfl pX10_hiddenThere rfl (by decide) (by decide) (Nat.le_of_ble_eq_true rfl) rfl qX10_214 rfl rfl (by decide) sh33 (kX10_hiddenThere l D σ) ?_
  refine j_istore_n F dX10_layWorlds_4 5 rfl 1 rfl (by decide) [(1, .int (fX10_hiddenThere σ)), (0, .ref (D.2.1 33))] rfl ?_
  refine j_aload_n F dX10_layWorlds_5 6 rfl 1 rfl ?_
  refine j_iconst (v := 0) F dX10_layWorlds_6 7 rfl (by decide) ?_
  refine j_put (j := 10) F dX10_layWorlds_7 10 rfl inX10 tyX10 tyX10_ok nmX10 rfl (by decide) sh33 sh33 (by decide) qX10_217 rfl (tyX10_ok 10 (by decide)) (Nat.le_of_ble_eq_true rfl) ?_
  refine j_aload_n F dX10_layWorlds_10 11 rfl 1 rfl ?_
  refine j_iload_n F dX10_layWorlds_11 12 rfl 0 rfl ?_
  refine j_put (j := 11) F dX10_layWorlds_12 15 rfl inX10 tyX10 tyX10_ok nmX10 rfl (by decide) sh33 sh33 (by decide) qX10_220 rfl (tyX10_ok 11 (by decide)) (Nat.le_of_ble_eq_true rfl) ?_
  refine j_pick [1, 0] [(0, .ref (D.2.1 33)), (1, .int (fX10_hiddenThere σ))] rfl ?_
  have jn_15 : ∀ (s_15 : Mm), (vp_in (s_15.1 34 13) 9 ∧ vp_in (s_15.1 33 6) 7) → JJ X 4 D s_15 15 [(0, .ref (D.2.1 33)), (1, .int (fX10_hiddenThere σ))] [] (QQ X D (none, fX10_layWorlds_15 s_15 (fX10_hiddenThere σ))) := by
    intro s_15 hW15
    rw [fX10_layWorlds_15]
    refine j_aload_n F dX10_layWorlds_15 16 rfl 0 rfl ?_
    refine j_iconst (v := 0) F dX10_layWorlds_16 17 rfl (by decide) ?_
    refine j_put (j := 12) F dX10_layWorlds_17 20 rfl inX10 tyX10 tyX10_ok nmX10 rfl (by decide) sh33 sh33 (by decide) qX10_223 rfl (tyX10_ok 12 (by decide)) (Nat.le_of_ble_eq_true rfl) ?_
    refine j_iconst (v := 0) F dX10_layWorlds_20 21 rfl (by decide) ?_
    refine j_istore_n F dX10_layWorlds_21 22 rfl 2 rfl (by decide) [(2, .int 0), (0, .ref (D.2.1 33)), (1, .int (fX10_hiddenThere σ))] rfl ?_
    have hx_41 : ∀ (s_41 : Mm), vp_in (s_41.1 34 13) 9 ∧ vp_in (s_41.1 33 6) 7 → JJ X 4 D s_41 41 [(0, .ref (D.2.1 33)), (1, .int (fX10_hiddenThere σ))] [] (QQ X D (none, fX10_layWorlds_41 s_41 (fX10_hiddenThere σ))) := by
      intro s_41 hn_41
      rw [fX10_layWorlds_41]
      refine j_iconst (v := 0) F dX10_layWorlds_41 42 rfl (by decide) ?_
      refine j_istore_n F dX10_layWorlds_42 43 rfl 2 rfl (by decide) [(2, .int 0), (0, .ref (D.2.1 33)), (1, .int (fX10_hiddenThere σ))] rfl ?_
      have lp_43 : ∀ (n_43 : Nat) (s_43 : Mm) (k2_43 : Nat), k2_43 ≤ 256 → 256 < k2_43 + n_43 → vp_in (s_43.1 34 13) 9 ∧ vp_in (s_43.1 33 6) 7 → JJ X 4 D s_43 43 [(0, .ref (D.2.1 33)), (1, .int (fX10_hiddenThere σ)), (2, .int (nI k2_43))] [] (QQ X D (none, fX10_layWorlds_43 n_43 s_43 (fX10_hiddenThere σ) k2_43)) := by
        intro n_43
        induction n_43 with
        | zero => intro s_43 k2_43 hk_43 hn_43 hi_43; exact absurd hn_43 (by omega)
        | succ n_43 ih_43 =>
          intro s_43 k2_43 hk_43 hn_43 hi_43
          rw [fX10_layWorlds_43]
          refine j_iload_n F dX10_layWorlds_43 44 rfl 2 rfl ?_
          refine j_sipush (v := 256) F dX10_layWorlds_44 47 rfl (by decide) ?_
          refine j_icmp_ge F dX10_layWorlds_47 136 (by decide) 50 rfl (fun c_47 => ?_) (fun c_47 => ?_)
          · rw [if_pos c_47]
            have h_47 : k2_43 < 256 := nlt c_47 (by decide) (by omega)
            refine j_iload_n F dX10_layWorlds_50 51 rfl 2 rfl ?_
            refine j_iload_n F dX10_layWorlds_51 52 rfl 1 rfl ?_
            refine j_iconst (v := (-1)) F dX10_layWorlds_52 53 rfl (by decide) ?_
            refine j_ixor F dX10_layWorlds_53 54 rfl ?_
            refine j_iand F dX10_layWorlds_54 55 rfl ?_
            refine j_if_ne F dX10_layWorlds_55 130 (by decide) 58 rfl (fun c_55 => ?_) (fun c_55 => ?_)
            · rw [if_pos c_55]
              refine j_aload_n F dX10_layWorlds_58 59 rfl 0 rfl ?_
              refine j_aload_n F dX10_layWorlds_59 60 rfl 0 rfl ?_
              refine j_iconst (v := 0) F dX10_layWorlds_60 61 rfl (by decide) ?_
              refine j_callVr (as := [.int (nI 0)]) (st := [.ref (D.2.1 33)]) (r := .int (fX10_shown s_43 0)) (σ9 := s_43) F zX10_shown dX10_layWorlds_61 64 rfl pX10_shown rfl (by decide) (by decide) (Nat.le_of_ble_eq_true rfl) rfl qX10_122 rfl rfl (by decide) sh33 (kX10_shown l D 0 s_43 (by decide)) ?_
              refine j_iload_n F dX10_layWorlds_64 65 rfl 2 rfl ?_
              refine j_ior F dX10_layWorlds_65 66 rfl ?_
              refine j_callVr (as := [.int ((fX10_shown s_43 0) ||| (nI k2_43))]) (st := []) (r := .int (bi (fX10_isSighted s_43 ((fX10_shown s_43 0) ||| (nI k2_43))))) (σ9 := s_43) F zX10_isSighted dX10_layWorlds_66 69 rfl pX10_isSighted rfl (by decide) (by decide) (Nat.le_of_ble_eq_true rfl) rfl qX10_226 rfl rfl (by decide) sh33 (kX10_isSighted l D ((fX10_shown s_43 0) ||| (nI k2_43)) s_43 hi_43.1 hi_43.2) ?_
              refine j_ifb_eq F dX10_layWorlds_69 130 (by decide) 72 rfl (fun c_69 => ?_) (fun c_69 => ?_)
              · rw [if_pos c_69]
                refine j_aload_n F dX10_layWorlds_72 73 rfl 0 rfl ?_
                refine j_dup F dX10_layWorlds_73 74 rfl rfl ?_
                refine j_get (j := 10) F dX10_layWorlds_74 77 rfl inX10 rfl (by decide) sh33 (by decide) qX10_217 rfl ?_
                refine j_iconst (v := 1) F dX10_layWorlds_77 78 rfl (by decide) ?_
                refine j_iadd F dX10_layWorlds_78 79 rfl ?_
                refine j_put (j := 10) F dX10_layWorlds_79 82 rfl inX10 tyX10 tyX10_ok nmX10 rfl (by decide) sh33 sh33 (by decide) qX10_217 rfl (tyX10_ok 10 (by decide)) (Nat.le_of_ble_eq_true rfl) ?_
                refine j_aload_n F dX10_layWorlds_82 83 rfl 0 rfl ?_
                refine j_dup F dX10_layWorlds_83 84 rfl rfl ?_
                refine j_get (j := 11) F dX10_layWorlds_84 87 rfl inX10 rfl (by decide) sh33 (by decide) qX10_220 rfl ?_
                refine j_iload_n F dX10_layWorlds_87 88 rfl 2 rfl ?_
                refine j_iand F dX10_layWorlds_88 89 rfl ?_
                refine j_put (j := 11) F dX10_layWorlds_89 92 rfl inX10 tyX10 tyX10_ok nmX10 rfl (by decide) sh33 sh33 (by decide) qX10_220 rfl (tyX10_ok 11 (by decide)) (Nat.le_of_ble_eq_true rfl) ?_
                have jn_92 : ∀ (s_92 : Mm), (vp_in (s_92.1 34 13) 9 ∧ vp_in (s_92.1 33 6) 7) → JJ X 4 D s_92 92 [(0, .ref (D.2.1 33)), (1, .int (fX10_hiddenThere σ)), (2, .int (nI k2_43))] [] (QQ X D (none, fX10_layWorlds_92 (fX10_layWorlds_43 n_43) s_92 (fX10_hiddenThere σ) k2_43)) := by
                  intro s_92 hW92
                  rw [fX10_layWorlds_92]
                  refine j_aload_n F dX10_layWorlds_92 93 rfl 0 rfl ?_
                  refine j_dup F dX10_layWorlds_93 94 rfl rfl ?_
                  refine j_get (j := 12) F dX10_layWorlds_94 97 rfl inX10 rfl (by decide) sh33 (by decide) qX10_223 rfl ?_
                  refine j_iload_n F dX10_layWorlds_97 98 rfl 2 rfl ?_
                  refine j_ior F dX10_layWorlds_98 99 rfl ?_
                  refine j_put (j := 12) F dX10_layWorlds_99 102 rfl inX10 tyX10 tyX10_ok nmX10 rfl (by decide) sh33 sh33 (by decide) qX10_223 rfl (tyX10_ok 12 (by decide)) (Nat.le_of_ble_eq_true rfl) ?_
                  refine j_iconst (v := 0) F dX10_layWorlds_102 103 rfl (by decide) ?_
                  refine j_istore_n F dX10_layWorlds_103 104 rfl 3 rfl (by decide) [(3, .int 0), (0, .ref (D.2.1 33)), (1, .int (fX10_hiddenThere σ)), (2, .int (nI k2_43))] rfl ?_
                  have lp_104 : ∀ (n_104 : Nat) (s_104 : Mm) (k3_104 : Nat), k3_104 ≤ 8 → 8 < k3_104 + n_104 → vp_in (s_104.1 34 13) 9 ∧ vp_in (s_104.1 33 6) 7 → JJ X 4 D s_104 104 [(0, .ref (D.2.1 33)), (1, .int (fX10_hiddenThere σ)), (2, .int (nI k2_43)), (3, .int (nI k3_104))] [] (QQ X D (none, fX10_layWorlds_104 (fX10_layWorlds_43 n_43) n_104 s_104 (fX10_hiddenThere σ) k2_43 k3_104)) := by
                    intro n_104
                    induction n_104 with
                    | zero => intro s_104 k3_104 hk_104 hn_104 hi_104; exact absurd hn_104 (by omega)
                    | succ n_104 ih_104 =>
                      intro s_104 k3_104 hk_104 hn_104 hi_104
                      rw [fX10_layWorlds_104]
                      refine j_iload_n F dX10_layWorlds_104 105 rfl 3 rfl ?_
                      refine j_bipush (v := 8) F dX10_layWorlds_105 107 rfl (by decide) ?_
                      refine j_icmp_ge F dX10_layWorlds_107 130 (by decide) 110 rfl (fun c_107 => ?_) (fun c_107 => ?_)
                      · rw [if_pos c_107]
                        have h_107 : k3_104 < 8 := nlt c_107 (by decide) (by omega)
                        refine j_aload_n F dX10_layWorlds_110 111 rfl 0 rfl ?_
                        refine j_get (j := 13) F dX10_layWorlds_111 114 rfl inX10 rfl (by decide) sh33 (by decide) qX10_29 rfl ?_
                        refine j_iload_n F dX10_layWorlds_114 115 rfl 3 rfl ?_
                        refine j_dup2 F dX10_layWorlds_115 116 rfl rfl rfl ?_
                        refine j_iald_n F dX10_layWorlds_116 117 rfl ia40 k3_104 rfl (by omega) ?_
                        refine j_iload_n F dX10_layWorlds_117 118 rfl 2 rfl ?_
                        refine j_iload_n F dX10_layWorlds_118 119 rfl 3 rfl ?_
                        refine j_ishr F dX10_layWorlds_119 120 rfl ?_
                        refine j_iconst (v := 1) F dX10_layWorlds_120 121 rfl (by decide) ?_
                        refine j_iand F dX10_layWorlds_121 122 rfl ?_
                        refine j_iadd F dX10_layWorlds_122 123 rfl ?_
                        refine j_iast_n F dX10_layWorlds_123 124 rfl ia40 k3_104 rfl (by omega) ?_
                        refine j_iinc F dX10_layWorlds_124 127 rfl 3 rfl (nI (k3_104 + 1)) (nI_inc k3_104) (by decide) [(3, .int (nI (k3_104 + 1))), (0, .ref (D.2.1 33)), (1, .int (fX10_hiddenThere σ)), (2, .int (nI k2_43))] rfl ?_
                        refine j_goto F dX10_layWorlds_127 104 (by decide) ?_
                        refine j_pick [1, 2, 3, 0] [(0, .ref (D.2.1 33)), (1, .int (fX10_hiddenThere σ)), (2, .int (nI k2_43)), (3, .int (nI (k3_104 + 1)))] rfl ?_
                        exact ih_104 (up s_104 40 k3_104 ((s_104.1 40 k3_104) + (((nI k2_43) >>> ((nI k3_104) &&& 31)) &&& 1))) (k3_104 + 1) (by omega) (by omega) (by exact hi_104)
                      · rw [if_neg c_107]
                        refine j_iinc F dX10_layWorlds_130 133 rfl 2 rfl (nI (k2_43 + 1)) (nI_inc k2_43) (by decide) [(2, .int (nI (k2_43 + 1))), (0, .ref (D.2.1 33)), (1, .int (fX10_hiddenThere σ)), (3, .int (nI k3_104))] rfl ?_
                        refine j_goto F dX10_layWorlds_133 43 (by decide) ?_
                        refine j_pick [1, 2, 0] [(0, .ref (D.2.1 33)), (1, .int (fX10_hiddenThere σ)), (2, .int (nI (k2_43 + 1)))] rfl ?_
                        exact ih_43 s_104 (k2_43 + 1) (by omega) (by omega) hi_104
                  refine j_pick [1, 2, 3, 0] [(0, .ref (D.2.1 33)), (1, .int (fX10_hiddenThere σ)), (2, .int (nI k2_43)), (3, .int 0)] rfl ?_
                  exact lp_104 9 (up s_92 33 12 ((s_92.1 33 12) ||| (nI k2_43))) 0 (by omega) (by omega) (by exact hW92)
                exact jn_92 (up (up s_43 33 10 ((s_43.1 33 10) + 1)) 33 11 (((up s_43 33 10 ((s_43.1 33 10) + 1)).1 33 11) &&& (nI k2_43))) (by exact hi_43)
              · rw [if_neg c_69]
                refine j_iinc F dX10_layWorlds_130 133 rfl 2 rfl (nI (k2_43 + 1)) (nI_inc k2_43) (by decide) [(2, .int (nI (k2_43 + 1))), (0, .ref (D.2.1 33)), (1, .int (fX10_hiddenThere σ))] rfl ?_
                refine j_goto F dX10_layWorlds_133 43 (by decide) ?_
                refine j_pick [1, 2, 0] [(0, .ref (D.2.1 33)), (1, .int (fX10_hiddenThere σ)), (2, .int (nI (k2_43 + 1)))] rfl ?_
                exact ih_43 s_43 (k2_43 + 1) (by omega) (by omega) hi_43
            · rw [if_neg c_55]
              refine j_iinc F dX10_layWorlds_130 133 rfl 2 rfl (nI (k2_43 + 1)) (nI_inc k2_43) (by decide) [(2, .int (nI (k2_43 + 1))), (0, .ref (D.2.1 33)), (1, .int (fX10_hiddenThere σ))] rfl ?_
              refine j_goto F dX10_layWorlds_133 43 (by decide) ?_
              refine j_pick [1, 2, 0] [(0, .ref (D.2.1 33)), (1, .int (fX10_hiddenThere σ)), (2, .int (nI (k2_43 + 1)))] rfl ?_
              exact ih_43 s_43 (k2_43 + 1) (by omega) (by omega) hi_43
          · rw [if_neg c_47]
            exact j_ret_v F dX10_layWorlds_136 rfl rfl rfl
      refine j_pick [1, 2, 0] [(0, .ref (D.2.1 33)), (1, .int (fX10_hiddenThere σ)), (2, .int 0)] rfl ?_
      exact lp_43 257 s_41 0 (by omega) (by omega) hn_41
    have lp_22 : ∀ (n_22 : Nat) (s_22 : Mm) (k2_22 : Nat), k2_22 ≤ 8 → 8 < k2_22 + n_22 → vp_in (s_22.1 34 13) 9 ∧ vp_in (s_22.1 33 6) 7 → JJ X 4 D s_22 22 [(0, .ref (D.2.1 33)), (1, .int (fX10_hiddenThere σ)), (2, .int (nI k2_22))] [] (QQ X D (none, fX10_layWorlds_22 n_22 s_22 (fX10_hiddenThere σ) k2_22)) := by
      intro n_22
      induction n_22 with
      | zero => intro s_22 k2_22 hk_22 hn_22 hi_22; exact absurd hn_22 (by omega)
      | succ n_22 ih_22 =>
        intro s_22 k2_22 hk_22 hn_22 hi_22
        rw [fX10_layWorlds_22]
        refine j_iload_n F dX10_layWorlds_22 23 rfl 2 rfl ?_
        refine j_bipush (v := 8) F dX10_layWorlds_23 25 rfl (by decide) ?_
        refine j_icmp_ge F dX10_layWorlds_25 41 (by decide) 28 rfl (fun c_25 => ?_) (fun c_25 => ?_)
        · rw [if_pos c_25]
          have h_25 : k2_22 < 8 := nlt c_25 (by decide) (by omega)
          refine j_aload_n F dX10_layWorlds_28 29 rfl 0 rfl ?_
          refine j_get (j := 13) F dX10_layWorlds_29 32 rfl inX10 rfl (by decide) sh33 (by decide) qX10_29 rfl ?_
          refine j_iload_n F dX10_layWorlds_32 33 rfl 2 rfl ?_
          refine j_iconst (v := 0) F dX10_layWorlds_33 34 rfl (by decide) ?_
          refine j_iast_n F dX10_layWorlds_34 35 rfl ia40 k2_22 rfl (by omega) ?_
          refine j_iinc F dX10_layWorlds_35 38 rfl 2 rfl (nI (k2_22 + 1)) (nI_inc k2_22) (by decide) [(2, .int (nI (k2_22 + 1))), (0, .ref (D.2.1 33)), (1, .int (fX10_hiddenThere σ))] rfl ?_
          refine j_goto F dX10_layWorlds_38 22 (by decide) ?_
          refine j_pick [1, 2, 0] [(0, .ref (D.2.1 33)), (1, .int (fX10_hiddenThere σ)), (2, .int (nI (k2_22 + 1)))] rfl ?_
          exact ih_22 (up s_22 40 k2_22 0) (k2_22 + 1) (by omega) (by omega) (by exact hi_22)
        · rw [if_neg c_25]
          refine j_pick [0, 1] [(0, .ref (D.2.1 33)), (1, .int (fX10_hiddenThere σ))] rfl ?_
          exact hx_41 s_22 hi_22
    refine j_pick [1, 2, 0] [(0, .ref (D.2.1 33)), (1, .int (fX10_hiddenThere σ)), (2, .int 0)] rfl ?_
    exact lp_22 9 (up s_15 33 12 0) 0 (by omega) (by omega) (by exact hW15)
  exact jn_15 (up (up σ 33 10 0) 33 11 (fX10_hiddenThere σ)) (by exact ⟨hM, hS⟩)
def fX10_seed (σ : Mm) (a1 : Int64) : Int64 × Mm := ((σ.2 33), (upL σ 33 a1))
set_option maxRecDepth 20000 in
theorem kX10_seed (l : Launch) (D : Dm) (a1 : Int64) (σ : Mm)  : Ct l yX10_seed cX10_seed 5 (some .long) 1 D [.ref (D.2.1 33), .long a1] σ (some (.long (fX10_seed σ a1).1), (fX10_seed σ a1).2) := by
  refine ct_of (by decide +kernel) (Nat.le_of_ble_eq_true rfl) (fun X F => ?_)
  have F : Fx X l 5 D cX10_seed RX10 1 (some .long) := F
  show JJ X 5 D σ 0 [(0, .ref (D.2.1 33)), (1, .long a1)] [] (QQ X D (some (.long (fX10_seed σ a1).1), (fX10_seed σ a1).2))
  rw [fX10_seed]
  refine j_aload_n F dX10_seed_0 1 rfl 0 rfl ?_
  refine j_get (j := 20) F dX10_seed_1 4 rfl inX10 rfl (by decide) sh33 (by decide) qX10_251 rfl ?_
  refine j_lstore_n F dX10_seed_4 5 rfl 3 rfl (by decide) [(3, .long (σ.2 33)), (0, .ref (D.2.1 33)), (1, .long a1)] rfl ?_
  refine j_aload_n F dX10_seed_5 6 rfl 1 rfl ?_
  refine j_lload_n F dX10_seed_6 7 rfl 2 rfl ?_
  refine j_putL (j := 20) F dX10_seed_7 10 rfl inX10 tyX10 tyX10_ok nmX10 rfl (by decide) sh33 sh33 (by decide) qX10_251 rfl (tyX10_ok 20 (by decide)) (Nat.le_of_ble_eq_true rfl) ?_
  refine j_lload_n F dX10_seed_10 11 rfl 0 rfl ?_
  exact j_ret_l F dX10_seed_11 rfl rfl rfl
def fX10_sight_77 (a1 : Int32) (a2 : Int32) (a3 : Bool)  (s_77 : Mm) : Int32 × Mm := ((s_77.1 33 6), s_77)
def fX10_sight_57 (a1 : Int32) (a2 : Int32) (a3 : Bool)  (s_57 : Mm) : Int32 × Mm := fX10_sight_77 a1 a2 a3 (up (up s_57 39 (s_57.1 33 6).toNatClampNeg (bi a3)) 33 6 (((up s_57 39 (s_57.1 33 6).toNatClampNeg (bi a3)).1 33 6) + 1))
def fX10_sight (σ : Mm) (a1 : Int32) (a2 : Int32) (a3 : Bool) : Int32 × Mm := if (fX10_isThing σ a1) = true then (if (fX10_in (a2.toInt64) 0 8) = true then (if (σ.1 33 6) = 6 then (((-4), σ)) else (fX10_sight_57 a1 a2 a3 (up (up σ 37 (σ.1 33 6).toNatClampNeg a1) 38 ((up σ 37 (σ.1 33 6).toNatClampNeg a1).1 33 6).toNatClampNeg a2))) else (((-2), σ))) else (((-1), σ))
set_option maxRecDepth 20000 in
theorem kX10_sight (l : Launch) (D : Dm) (a1 : Int32) (a2 : Int32) (a3 : Bool) (σ : Mm) (hM : vp_in (σ.1 34 13) 9) (hS : vp_in (σ.1 33 6) 7) : Ct l yX10_sight cX10_sight 4 (some .int) 3 D [.ref (D.2.1 33), .int a1, .int a2, .int (bi a3)] σ (some (.int (fX10_sight σ a1 a2 a3).1), (fX10_sight σ a1 a2 a3).2) := by
  refine ct_of (by decide +kernel) (Nat.le_of_ble_eq_true rfl) (fun X F => ?_)
  have F : Fx X l 4 D cX10_sight RX10 3 (some .int) := F
  show JJ X 4 D σ 0 [(0, .ref (D.2.1 33)), (1, .int a1), (2, .int a2), (3, .int (bi a3))] [] (QQ X D (some (.int (fX10_sight σ a1 a2 a3).1), (fX10_sight σ a1 a2 a3).2))
  rw [fX10_sight]
  refine j_aload_n F dX10_sight_0 1 rfl 0 rfl ?_
  refine j_iload_n F dX10_sight_1 2 rfl 1 rfl ?_
  refine j_callVr (as := [.int a1]) (st := []) (r := .int (bi (fX10_isThing σ a1))) (σ9 := σ) F zX10_isThing dX10_sight_2 5 rfl pX10_isThing rfl (by decide) (by decide) (Nat.le_of_ble_eq_true rfl) rfl qX10_128 rfl rfl (by decide) sh33 (kX10_isThing l D a1 σ) ?_
  refine j_ifb_ne F dX10_sight_5 10 (by decide) 8 rfl (fun c_5 => ?_) (fun c_5 => ?_)
  · rw [if_neg c_5]
    refine j_iconst (v := (-1)) F dX10_sight_8 9 rfl (by decide) ?_
    exact j_ret_i F dX10_sight_9 rfl rfl rfl
  · rw [if_pos c_5]
    refine j_iload_n F dX10_sight_10 11 rfl 2 rfl ?_
    refine j_i2l F dX10_sight_11 12 rfl ?_
    refine j_lconst (v := 0) F dX10_sight_12 13 rfl (by decide) ?_
    refine j_ldc2 F dX10_sight_13 16 rfl qX10_209 ?_
    refine j_callSr (as := [.long (a2.toInt64), .long 0, .long 8]) (st := []) (r := .int (bi (fX10_in (a2.toInt64) 0 8))) (σ9 := σ) F zX10_in dX10_sight_16 19 rfl pX10_in rfl (by decide) (by decide) (Nat.le_of_ble_eq_true rfl) rfl qX10_58 (kX10_in l D (a2.toInt64) 0 8 σ) ?_
    refine j_ifb_ne F dX10_sight_19 25 (by decide) 22 rfl (fun c_19 => ?_) (fun c_19 => ?_)
    · rw [if_neg c_19]
      refine j_bipush (v := (-2)) F dX10_sight_22 24 rfl (by decide) ?_
      exact j_ret_i F dX10_sight_24 rfl rfl rfl
    · rw [if_pos c_19]
      refine j_aload_n F dX10_sight_25 26 rfl 0 rfl ?_
      refine j_get (j := 6) F dX10_sight_26 29 rfl inX10 rfl (by decide) sh33 (by decide) qX10_211 rfl ?_
      refine j_bipush (v := 6) F dX10_sight_29 31 rfl (by decide) ?_
      refine j_icmp_ne F dX10_sight_31 37 (by decide) 34 rfl (fun c_31 => ?_) (fun c_31 => ?_)
      · rw [if_pos c_31]
        refine j_bipush (v := (-4)) F dX10_sight_34 36 rfl (by decide) ?_
        exact j_ret_i F dX10_sight_36 rfl rfl rfl
      · rw [if_neg c_31]
        refine j_aload_n F dX10_sight_37 38 rfl 0 rfl ?_
        refine j_get (j := 7) F dX10_sight_38 41 rfl inX10 rfl (by decide) sh33 (by decide) qX10_19 rfl ?_
        refine j_aload_n F dX10_sight_41 42 rfl 0 rfl ?_
        refine j_get (j := 6) F dX10_sight_42 45 rfl inX10 rfl (by decide) sh33 (by decide) qX10_211 rfl ?_
        refine j_iload_n F dX10_sight_45 46 rfl 1 rfl ?_
        refine j_iast F dX10_sight_46 47 rfl ia37 (vin_ne7 hS c_31) ?_
        refine j_aload_n F dX10_sight_47 48 rfl 0 rfl ?_
        refine j_get (j := 8) F dX10_sight_48 51 rfl inX10 rfl (by decide) sh33 (by decide) qX10_22 rfl ?_
        refine j_aload_n F dX10_sight_51 52 rfl 0 rfl ?_
        refine j_get (j := 6) F dX10_sight_52 55 rfl inX10 rfl (by decide) sh33 (by decide) qX10_211 rfl ?_
        refine j_iload_n F dX10_sight_55 56 rfl 2 rfl ?_
        refine j_iast F dX10_sight_56 57 rfl ia38 (by exact vin_ne7 hS c_31) ?_
        refine j_pick [0, 3] [(0, .ref (D.2.1 33)), (3, .int (bi a3))] rfl ?_
        have jn_57 : ∀ (s_57 : Mm), (s_57.1 33 6 = σ.1 33 6) → JJ X 4 D s_57 57 [(0, .ref (D.2.1 33)), (3, .int (bi a3))] [] (QQ X D (some (.int (fX10_sight_57 a1 a2 a3 s_57).1), (fX10_sight_57 a1 a2 a3 s_57).2)) := by
          intro s_57 hs57
          rw [fX10_sight_57]
          refine j_aload_n F dX10_sight_57 58 rfl 0 rfl ?_
          refine j_get (j := 9) F dX10_sight_58 61 rfl inX10 rfl (by decide) sh33 (by decide) qX10_25 rfl ?_
          refine j_aload_n F dX10_sight_61 62 rfl 0 rfl ?_
          refine j_get (j := 6) F dX10_sight_62 65 rfl inX10 rfl (by decide) sh33 (by decide) qX10_211 rfl ?_
          refine j_iload_n F dX10_sight_65 66 rfl 1 rfl ?_
          refine j_zast (v' := (bi a3)) F dX10_sight_66 67 rfl (by decide) (fun _ _ => sh39) (by rw [hs57]; exact vin_ne7 hS c_31) (nar_bi _) ?_
          refine j_aload_n F dX10_sight_67 68 rfl 0 rfl ?_
          refine j_dup F dX10_sight_68 69 rfl rfl ?_
          refine j_get (j := 6) F dX10_sight_69 72 rfl inX10 rfl (by decide) sh33 (by decide) qX10_211 rfl ?_
          refine j_iconst (v := 1) F dX10_sight_72 73 rfl (by decide) ?_
          refine j_iadd F dX10_sight_73 74 rfl ?_
          refine j_put (j := 6) F dX10_sight_74 77 rfl inX10 tyX10 tyX10_ok nmX10 rfl (by decide) sh33 sh33 (by decide) qX10_211 rfl (tyX10_ok 6 (by decide)) (Nat.le_of_ble_eq_true rfl) ?_
          refine j_pick [0] [(0, .ref (D.2.1 33))] rfl ?_
          have jn_77 : ∀ (s_77 : Mm), JJ X 4 D s_77 77 [(0, .ref (D.2.1 33))] [] (QQ X D (some (.int (fX10_sight_77 a1 a2 a3 s_77).1), (fX10_sight_77 a1 a2 a3 s_77).2)) := by
            intro s_77
            rw [fX10_sight_77]
            refine j_aload_n F dX10_sight_77 78 rfl 0 rfl ?_
            refine j_get (j := 6) F dX10_sight_78 81 rfl inX10 rfl (by decide) sh33 (by decide) qX10_211 rfl ?_
            exact j_ret_i F dX10_sight_81 rfl rfl rfl
          exact jn_77 (up (up s_57 39 (s_57.1 33 6).toNatClampNeg (bi a3)) 33 6 (((up s_57 39 (s_57.1 33 6).toNatClampNeg (bi a3)).1 33 6) + 1)) 
        exact jn_57 (up (up σ 37 (σ.1 33 6).toNatClampNeg a1) 38 ((up σ 37 (σ.1 33 6).toNatClampNeg a1).1 33 6).toNatClampNeg a2) rfl
def fX10_unsight (σ : Mm)  : Int32 × Mm := ((σ.1 33 6), (up σ 33 6 0))
set_option maxRecDepth 20000 in
theorem kX10_unsight (l : Launch) (D : Dm)  (σ : Mm)  : Ct l yX10_unsight cX10_unsight 2 (some .int) 1 D [.ref (D.2.1 33)] σ (some (.int (fX10_unsight σ).1), (fX10_unsight σ).2) := by
  refine ct_of (by decide +kernel) (Nat.le_of_ble_eq_true rfl) (fun X F => ?_)
  have F : Fx X l 2 D cX10_unsight RX10 1 (some .int) := F
  show JJ X 2 D σ 0 [(0, .ref (D.2.1 33))] [] (QQ X D (some (.int (fX10_unsight σ).1), (fX10_unsight σ).2))
  rw [fX10_unsight]
  refine j_aload_n F dX10_unsight_0 1 rfl 0 rfl ?_
  refine j_get (j := 6) F dX10_unsight_1 4 rfl inX10 rfl (by decide) sh33 (by decide) qX10_211 rfl ?_
  refine j_istore_n F dX10_unsight_4 5 rfl 1 rfl (by decide) [(1, .int (σ.1 33 6)), (0, .ref (D.2.1 33))] rfl ?_
  refine j_aload_n F dX10_unsight_5 6 rfl 1 rfl ?_
  refine j_iconst (v := 0) F dX10_unsight_6 7 rfl (by decide) ?_
  refine j_put (j := 6) F dX10_unsight_7 10 rfl inX10 tyX10 tyX10_ok nmX10 rfl (by decide) sh33 sh33 (by decide) qX10_211 rfl (tyX10_ok 6 (by decide)) (Nat.le_of_ble_eq_true rfl) ?_
  refine j_iload_n F dX10_unsight_10 11 rfl 0 rfl ?_
  exact j_ret_i F dX10_unsight_11 rfl rfl rfl
def fX10_worlds (σ : Mm) (a1 : Int32) : Int32 × Mm := if (fX10_in (a1.toInt64) 0 2) = true then (if a1 = 0 then ((((fX10_layWorlds σ).1 33 10), (fX10_layWorlds σ))) else (if ((fX10_layWorlds σ).1 33 10) = 0 then (((-9), (fX10_layWorlds σ))) else (if a1 = 1 then ((((fX10_layWorlds σ).1 33 11), (fX10_layWorlds σ))) else ((((fX10_hiddenThere (fX10_layWorlds σ)) &&& (((fX10_layWorlds σ).1 33 12) ^^^ (-1))), (fX10_layWorlds σ)))))) else (((-2), σ))
set_option maxRecDepth 20000 in
theorem kX10_worlds (l : Launch) (D : Dm) (a1 : Int32) (σ : Mm) (hM : vp_in (σ.1 34 13) 9) (hS : vp_in (σ.1 33 6) 7) : Ct l yX10_worlds cX10_worlds 2 (some .int) 7 D [.ref (D.2.1 33), .int a1] σ (some (.int (fX10_worlds σ a1).1), (fX10_worlds σ a1).2) := by
  refine ct_of (by decide +kernel) (Nat.le_of_ble_eq_true rfl) (fun X F => ?_)
  have F : Fx X l 2 D cX10_worlds RX10 7 (some .int) := F
  show JJ X 2 D σ 0 [(0, .ref (D.2.1 33)), (1, .int a1)] [] (QQ X D (some (.int (fX10_worlds σ a1).1), (fX10_worlds σ a1).2))
  rw [fX10_worlds]
  refine j_iload_n F dX10_worlds_0 1 rfl 1 rfl ?_
  refine j_i2l F dX10_worlds_1 2 rfl ?_
  refine j_lconst (v := 0) F dX10_worlds_2 3 rfl (by decide) ?_
  refine j_ldc2 F dX10_worlds_3 6 rfl qX10_167 ?_
  refine j_callSr (as := [.long (a1.toInt64), .long 0, .long 2]) (st := []) (r := .int (bi (fX10_in (a1.toInt64) 0 2))) (σ9 := σ) F zX10_in dX10_worlds_6 9 rfl pX10_in rfl (by decide) (by decide) (Nat.le_of_ble_eq_true rfl) rfl qX10_58 (kX10_in l D (a1.toInt64) 0 2 σ) ?_
  refine j_ifb_ne F dX10_worlds_9 15 (by decide) 12 rfl (fun c_9 => ?_) (fun c_9 => ?_)
  · rw [if_neg c_9]
    refine j_bipush (v := (-2)) F dX10_worlds_12 14 rfl (by decide) ?_
    exact j_ret_i F dX10_worlds_14 rfl rfl rfl
  · rw [if_pos c_9]
    refine j_aload_n F dX10_worlds_15 16 rfl 0 rfl ?_
    refine j_callVv (as := []) (st := []) (σ9 := (fX10_layWorlds σ)) F zX10_layWorlds dX10_worlds_16 19 rfl pX10_layWorlds rfl (by decide) (by decide) (Nat.le_of_ble_eq_true rfl) rfl qX10_229 rfl rfl (by decide) sh33 (kX10_layWorlds l D σ (by first | assumption | exact isThing_in (by assumption) (by assumption) | exact vin_mono (by assumption) (by decide) | omega | decide) (by first | assumption | exact isThing_in (by assumption) (by assumption) | exact vin_mono (by assumption) (by decide) | omega | decide)) ?_
    refine j_iload_n F dX10_worlds_19 20 rfl 1 rfl ?_
    refine j_if_ne F dX10_worlds_20 30 (by decide) 23 rfl (fun c_20 => ?_) (fun c_20 => ?_)
    · rw [if_pos c_20]
      refine j_aload_n F dX10_worlds_23 24 rfl 0 rfl ?_
      refine j_get (j := 10) F dX10_worlds_24 27 rfl inX10 rfl (by decide) sh33 (by decide) qX10_217 rfl ?_
      refine j_goto F dX10_worlds_27 65 (by decide) ?_
      exact j_ret_i F dX10_worlds_65 rfl rfl rfl
    · rw [if_neg c_20]
      refine j_aload_n F dX10_worlds_30 31 rfl 0 rfl ?_
      refine j_get (j := 10) F dX10_worlds_31 34 rfl inX10 rfl (by decide) sh33 (by decide) qX10_217 rfl ?_
      refine j_if_ne F dX10_worlds_34 42 (by decide) 37 rfl (fun c_34 => ?_) (fun c_34 => ?_)
      · rw [if_pos c_34]
        refine j_bipush (v := (-9)) F dX10_worlds_37 39 rfl (by decide) ?_
        refine j_goto F dX10_worlds_39 65 (by decide) ?_
        exact j_ret_i F dX10_worlds_65 rfl rfl rfl
      · rw [if_neg c_34]
        refine j_iload_n F dX10_worlds_42 43 rfl 1 rfl ?_
        refine j_iconst (v := 1) F dX10_worlds_43 44 rfl (by decide) ?_
        refine j_icmp_ne F dX10_worlds_44 54 (by decide) 47 rfl (fun c_44 => ?_) (fun c_44 => ?_)
        · rw [if_pos c_44]
          refine j_aload_n F dX10_worlds_47 48 rfl 0 rfl ?_
          refine j_get (j := 11) F dX10_worlds_48 51 rfl inX10 rfl (by decide) sh33 (by decide) qX10_220 rfl ?_
          refine j_goto F dX10_worlds_51 65 (by decide) ?_
          exact j_ret_i F dX10_worlds_65 rfl rfl rfl
        · rw [if_neg c_44]
          refine j_aload_n F dX10_worlds_54 55 rfl 0 rfl ?_
          refine j_callVr (as := []) (st := []) (r := .int (fX10_hiddenThere (fX10_layWorlds σ))) (σ9 := (fX10_layWorlds σ)) F zX10_hiddenThere dX10_worlds_55 58 rfl pX10_hiddenThere rfl (by decide) (by decide) (Nat.le_of_ble_eq_true rfl) rfl qX10_214 rfl rfl (by decide) sh33 (kX10_hiddenThere l D (fX10_layWorlds σ)) ?_
          refine j_aload_n F dX10_worlds_58 59 rfl 0 rfl ?_
          refine j_get (j := 12) F dX10_worlds_59 62 rfl inX10 rfl (by decide) sh33 (by decide) qX10_223 rfl ?_
          refine j_iconst (v := (-1)) F dX10_worlds_62 63 rfl (by decide) ?_
          refine j_ixor F dX10_worlds_63 64 rfl ?_
          refine j_iand F dX10_worlds_64 65 rfl ?_
          exact j_ret_i F dX10_worlds_65 rfl rfl rfl
def fX10_years_125 (a1 : Int32) (a2 : Int32)  (s_125 : Mm) (x3_125 : Int32) : Int32 × Mm := ((fX10_lastOf s_125 x3_125 (s_125.1 34 11)), s_125)
def mX10_years_45 (a1 : Int32) (a2 : Int32) (s_45 : Mm) : Nat := ((s_45.1 34 13) : Int32).toNatClampNeg
def fX10_years_45 (a1 : Int32) (a2 : Int32) (kb36 : Mm → Int32 → Nat → Int32 × Mm) : Nat → Mm → Int32 → Nat → Nat → Int32 × Mm
  | 0, s_45, _, _, _ => (0, s_45)
  | n + 1, s_45, x3_45, k4_45, k5_45 => if (nI k5_45) < (s_45.1 34 13) then (if (fX10_has (fX10_frail s_45 x3_45) (nI k5_45)) = true then (if (rmL (((((upL s_45 33 (((s_45.2 33) * 6364136223846793005) + 1442695040888963407)).2 33)).toUInt64 >>> (((33 : Int32)).toInt64.toUInt64 &&& Int64.toUInt64 63)).toInt64) 10) < a2.toInt64 then (fX10_years_45 a1 a2 kb36 n (upL s_45 33 (((s_45.2 33) * 6364136223846793005) + 1442695040888963407)) (x3_45 &&& ((1 <<< ((nI k5_45) &&& 31)) ^^^ (-1))) k4_45 (k5_45 + 1)) else (fX10_years_45 a1 a2 kb36 n (upL s_45 33 (((s_45.2 33) * 6364136223846793005) + 1442695040888963407)) (x3_45 &&& (-1)) k4_45 (k5_45 + 1))) else (fX10_years_45 a1 a2 kb36 n s_45 x3_45 k4_45 (k5_45 + 1))) else (kb36 s_45 x3_45 (k4_45 + 1))
def mX10_years_36 (a1 : Int32) (a2 : Int32)  : Nat := (a1 : Int32).toNatClampNeg
def fX10_years_36 (a1 : Int32) (a2 : Int32)  : Nat → Mm → Int32 → Nat → Int32 × Mm
  | 0, s_36, _, _ => (0, s_36)
  | n + 1, s_36, x3_36, k4_36 => if (nI k4_36) < a1 then (fX10_years_45 a1 a2 (fX10_years_36 a1 a2 n) (mX10_years_45 a1 a2 s_36 + 1) s_36 x3_36 k4_36 0) else (fX10_years_125 a1 a2 s_36 x3_36)
def fX10_years (σ : Mm) (a1 : Int32) (a2 : Int32) : Int32 × Mm := if (fX10_in (a1.toInt64) 1 30) = true then (if (fX10_in (a2.toInt64) 0 10) = true then (fX10_years_36 a1 a2 (mX10_years_36 a1 a2 + 1) σ (fX10_shown σ 0) 0) else (((-2), σ))) else (((-2), σ))
set_option maxRecDepth 20000 in
theorem kX10_years (l : Launch) (D : Dm) (a1 : Int32) (a2 : Int32) (σ : Mm) (hM : vp_in (σ.1 34 13) 9) : Ct l yX10_years cX10_years 6 (some .int) 6 D [.ref (D.2.1 33), .int a1, .int a2] σ (some (.int (fX10_years σ a1 a2).1), (fX10_years σ a1 a2).2) := by
  refine ct_of (by decide +kernel) (Nat.le_of_ble_eq_true rfl) (fun X F => ?_)
  have F : Fx X l 6 D cX10_years RX10 6 (some .int) := F
  show JJ X 6 D σ 0 [(0, .ref (D.2.1 33)), (1, .int a1), (2, .int a2)] [] (QQ X D (some (.int (fX10_years σ a1 a2).1), (fX10_years σ a1 a2).2))
  rw [fX10_years]
  refine j_iload_n F dX10_years_0 1 rfl 1 rfl ?_
  refine j_i2l F dX10_years_1 2 rfl ?_
  refine j_lconst (v := 1) F dX10_years_2 3 rfl (by decide) ?_
  refine j_ldc2 F dX10_years_3 6 rfl qX10_255 ?_
  refine j_callSr (as := [.long (a1.toInt64), .long 1, .long 30]) (st := []) (r := .int (bi (fX10_in (a1.toInt64) 1 30))) (σ9 := σ) F zX10_in dX10_years_6 9 rfl pX10_in rfl (by decide) (by decide) (Nat.le_of_ble_eq_true rfl) rfl qX10_58 (kX10_in l D (a1.toInt64) 1 30 σ) ?_
  refine j_ifb_eq F dX10_years_9 24 (by decide) 12 rfl (fun c_9 => ?_) (fun c_9 => ?_)
  · rw [if_pos c_9]
    refine j_iload_n F dX10_years_12 13 rfl 2 rfl ?_
    refine j_i2l F dX10_years_13 14 rfl ?_
    refine j_lconst (v := 0) F dX10_years_14 15 rfl (by decide) ?_
    refine j_ldc2 F dX10_years_15 18 rfl qX10_243 ?_
    refine j_callSr (as := [.long (a2.toInt64), .long 0, .long 10]) (st := []) (r := .int (bi (fX10_in (a2.toInt64) 0 10))) (σ9 := σ) F zX10_in dX10_years_18 21 rfl pX10_in rfl (by decide) (by decide) (Nat.le_of_ble_eq_true rfl) rfl qX10_58 (kX10_in l D (a2.toInt64) 0 10 σ) ?_
    refine j_ifb_ne F dX10_years_21 27 (by decide) 24 rfl (fun c_21 => ?_) (fun c_21 => ?_)
    · rw [if_neg c_21]
      refine j_bipush (v := (-2)) F dX10_years_24 26 rfl (by decide) ?_
      exact j_ret_i F dX10_years_26 rfl rfl rfl
    · rw [if_pos c_21]
      refine j_aload_n F dX10_years_27 28 rfl 0 rfl ?_
      refine j_iconst (v := 0) F dX10_years_28 29 rfl (by decide) ?_
      refine j_callVr (as := [.int (nI 0)]) (st := []) (r := .int (fX10_shown σ 0)) (σ9 := σ) F zX10_shown dX10_years_29 32 rfl pX10_shown rfl (by decide) (by decide) (Nat.le_of_ble_eq_true rfl) rfl qX10_122 rfl rfl (by decide) sh33 (kX10_shown l D 0 σ (by decide)) ?_
      refine j_istore_n F dX10_years_32 33 rfl 3 rfl (by decide) [(3, .int (fX10_shown σ 0)), (0, .ref (D.2.1 33)), (1, .int a1), (2, .int a2)] rfl ?_
      refine j_iconst (v := 0) F dX10_years_33 34 rfl (by decide) ?_
      refine j_istore F dX10_years_34 36 rfl (by decide) [(4, .int 0), (3, .int (fX10_shown σ 0)), (0, .ref (D.2.1 33)), (1, .int a1), (2, .int a2)] rfl ?_
      have hx_125 : ∀ (s_125 : Mm) (x3_125 : Int32), s_125.1 = σ.1 → JJ X 6 D s_125 125 [(0, .ref (D.2.1 33)), (3, .int x3_125)] [] (QQ X D (some (.int (fX10_years_125 a1 a2 s_125 x3_125).1), (fX10_years_125 a1 a2 s_125 x3_125).2)) := by
        intro s_125 x3_125 hn_125
        rw [fX10_years_125]
        refine j_aload_n F dX10_years_125 126 rfl 0 rfl ?_
        refine j_iload_n F dX10_years_126 127 rfl 1 rfl ?_
        refine j_aload_n F dX10_years_127 128 rfl 0 rfl ?_
        refine j_get (j := 0) F dX10_years_128 131 rfl inX10 rfl (by decide) sh33 (by decide) qX10_7 rfl ?_
        refine j_bipush (v := 11) F dX10_years_131 133 rfl (by decide) ?_
        refine j_iald_n F dX10_years_133 134 rfl ia34 11 rfl (by decide) ?_
        refine j_callVr (as := [.int x3_125, .int (s_125.1 34 11)]) (st := []) (r := .int (fX10_lastOf s_125 x3_125 (s_125.1 34 11))) (σ9 := s_125) F zX10_lastOf dX10_years_134 137 rfl pX10_lastOf rfl (by decide) (by decide) (Nat.le_of_ble_eq_true rfl) rfl qX10_125 rfl rfl (by decide) sh33 (kX10_lastOf l D x3_125 (s_125.1 34 11) s_125 (by rw [hn_125]; exact hM)) ?_
        exact j_ret_i F dX10_years_137 rfl rfl rfl
      have lp_36 : ∀ (n_36 : Nat) (s_36 : Mm) (x3_36 : Int32) (k4_36 : Nat), k4_36 ≤ ((a1 : Int32).toNatClampNeg) → ((a1 : Int32).toNatClampNeg) < k4_36 + n_36 → s_36.1 = σ.1 → JJ X 6 D s_36 36 [(0, .ref (D.2.1 33)), (1, .int a1), (2, .int a2), (3, .int x3_36), (4, .int (nI k4_36))] [] (QQ X D (some (.int (fX10_years_36 a1 a2 n_36 s_36 x3_36 k4_36).1), (fX10_years_36 a1 a2 n_36 s_36 x3_36 k4_36).2)) := by
        intro n_36
        induction n_36 with
        | zero => intro s_36 x3_36 k4_36 hk_36 hn_36 hi_36; exact absurd hn_36 (by omega)
        | succ n_36 ih_36 =>
          intro s_36 x3_36 k4_36 hk_36 hn_36 hi_36
          rw [fX10_years_36]
          refine j_iload F dX10_years_36 38 rfl 4 rfl ?_
          refine j_iload_n F dX10_years_38 39 rfl 1 rfl ?_
          refine j_icmp_ge F dX10_years_39 125 (by decide) 42 rfl (fun c_39 => ?_) (fun c_39 => ?_)
          · rw [if_pos c_39]
            have h_39 : k4_36 < ((a1 : Int32).toNatClampNeg) := nltd c_39 hk_36
            refine j_iconst (v := 0) F dX10_years_42 43 rfl (by decide) ?_
            refine j_istore F dX10_years_43 45 rfl (by decide) [(5, .int 0), (0, .ref (D.2.1 33)), (1, .int a1), (2, .int a2), (3, .int x3_36), (4, .int (nI k4_36))] rfl ?_
            have lp_45 : ∀ (n_45 : Nat) (s_45 : Mm) (x3_45 : Int32) (k5_45 : Nat), k5_45 ≤ (((σ.1 34 13) : Int32).toNatClampNeg) → (((σ.1 34 13) : Int32).toNatClampNeg) < k5_45 + n_45 → s_45.1 = σ.1 → JJ X 6 D s_45 45 [(0, .ref (D.2.1 33)), (1, .int a1), (2, .int a2), (3, .int x3_45), (4, .int (nI k4_36)), (5, .int (nI k5_45))] [] (QQ X D (some (.int (fX10_years_45 a1 a2 (fX10_years_36 a1 a2 n_36) n_45 s_45 x3_45 k4_36 k5_45).1), (fX10_years_45 a1 a2 (fX10_years_36 a1 a2 n_36) n_45 s_45 x3_45 k4_36 k5_45).2)) := by
              intro n_45
              induction n_45 with
              | zero => intro s_45 x3_45 k5_45 hk_45 hn_45 hi_45; exact absurd hn_45 (by omega)
              | succ n_45 ih_45 =>
                intro s_45 x3_45 k5_45 hk_45 hn_45 hi_45
                rw [fX10_years_45]
                refine j_iload F dX10_years_45 47 rfl 5 rfl ?_
                refine j_aload_n F dX10_years_47 48 rfl 0 rfl ?_
                refine j_callVr (as := []) (st := [.int (nI k5_45)]) (r := .int (s_45.1 34 13)) (σ9 := s_45) F zX10_many dX10_years_48 51 rfl pX10_many rfl (by decide) (by decide) (Nat.le_of_ble_eq_true rfl) rfl qX10_105 rfl rfl (by decide) sh33 (kX10_many l D s_45) ?_
                refine j_icmp_ge F dX10_years_51 119 (by decide) 54 rfl (fun c_51 => ?_) (fun c_51 => ?_)
                · rw [if_pos c_51]
                  have h_51 : k5_45 < (((σ.1 34 13) : Int32).toNatClampNeg) := nltd (by have c9 := c_51; rw [hi_45] at c9; exact c9) hk_45
                  refine j_aload_n F dX10_years_54 55 rfl 0 rfl ?_
                  refine j_iload_n F dX10_years_55 56 rfl 3 rfl ?_
                  refine j_callVr (as := [.int x3_45]) (st := []) (r := .int (fX10_frail s_45 x3_45)) (σ9 := s_45) F zX10_frail dX10_years_56 59 rfl pX10_frail rfl (by decide) (by decide) (Nat.le_of_ble_eq_true rfl) rfl qX10_245 rfl rfl (by decide) sh33 (kX10_frail l D x3_45 s_45 (by rw [hi_45]; exact hM)) ?_
                  refine j_iload F dX10_years_59 61 rfl 5 rfl ?_
                  refine j_callSr (as := [.int (fX10_frail s_45 x3_45), .int (nI k5_45)]) (st := []) (r := .int (bi (fX10_has (fX10_frail s_45 x3_45) (nI k5_45)))) (σ9 := s_45) F zX10_has dX10_years_61 64 rfl pX10_has rfl (by decide) (by decide) (Nat.le_of_ble_eq_true rfl) rfl qX10_108 (kX10_has l D (fX10_frail s_45 x3_45) (nI k5_45) s_45) ?_
                  refine j_ifb_eq F dX10_years_64 113 (by decide) 67 rfl (fun c_64 => ?_) (fun c_64 => ?_)
                  · rw [if_pos c_64]
                    refine j_aload_n F dX10_years_67 68 rfl 0 rfl ?_
                    refine j_aload_n F dX10_years_68 69 rfl 0 rfl ?_
                    refine j_get (j := 20) F dX10_years_69 72 rfl inX10 rfl (by decide) sh33 (by decide) qX10_251 rfl ?_
                    refine j_ldc2 F dX10_years_72 75 rfl qX10_257 ?_
                    refine j_lmul F dX10_years_75 76 rfl ?_
                    refine j_ldc2 F dX10_years_76 79 rfl qX10_259 ?_
                    refine j_ladd F dX10_years_79 80 rfl ?_
                    refine j_putL (j := 20) F dX10_years_80 83 rfl inX10 tyX10 tyX10_ok nmX10 rfl (by decide) sh33 sh33 (by decide) qX10_251 rfl (tyX10_ok 20 (by decide)) (Nat.le_of_ble_eq_true rfl) ?_
                    refine j_iload_n F dX10_years_83 84 rfl 3 rfl ?_
                    refine j_aload_n F dX10_years_84 85 rfl 0 rfl ?_
                    refine j_get (j := 20) F dX10_years_85 88 rfl inX10 rfl (by decide) sh33 (by decide) qX10_251 rfl ?_
                    refine j_bipush (v := 33) F dX10_years_88 90 rfl (by decide) ?_
                    refine j_lushr F dX10_years_90 91 rfl ?_
                    refine j_ldc2 F dX10_years_91 94 rfl qX10_243 ?_
                    refine j_lrem F dX10_years_94 95 rfl (by decide) ?_
                    refine j_iload_n F dX10_years_95 96 rfl 2 rfl ?_
                    refine j_i2l F dX10_years_96 97 rfl ?_
                    refine j_lcmp F dX10_years_97 98 rfl ?_
                    refine j_ifl_ge F dX10_years_98 110 (by decide) 101 rfl (fun c_98 => ?_) (fun c_98 => ?_)
                    · rw [if_pos c_98]
                      refine j_iconst (v := 1) F dX10_years_101 102 rfl (by decide) ?_
                      refine j_iload F dX10_years_102 104 rfl 5 rfl ?_
                      refine j_ishl F dX10_years_104 105 rfl ?_
                      refine j_iconst (v := (-1)) F dX10_years_105 106 rfl (by decide) ?_
                      refine j_ixor F dX10_years_106 107 rfl ?_
                      refine j_goto F dX10_years_107 111 (by decide) ?_
                      refine j_iand F dX10_years_111 112 rfl ?_
                      refine j_istore_n F dX10_years_112 113 rfl 3 rfl (by decide) [(3, .int (x3_45 &&& ((1 <<< ((nI k5_45) &&& 31)) ^^^ (-1)))), (0, .ref (D.2.1 33)), (1, .int a1), (2, .int a2), (4, .int (nI k4_36)), (5, .int (nI k5_45))] rfl ?_
                      refine j_iinc F dX10_years_113 116 rfl 5 rfl (nI (k5_45 + 1)) (nI_inc k5_45) (by decide) [(5, .int (nI (k5_45 + 1))), (3, .int (x3_45 &&& ((1 <<< ((nI k5_45) &&& 31)) ^^^ (-1)))), (0, .ref (D.2.1 33)), (1, .int a1), (2, .int a2), (4, .int (nI k4_36))] rfl ?_
                      refine j_goto F dX10_years_116 45 (by decide) ?_
                      refine j_pick [2, 3, 4, 1, 5, 0] [(0, .ref (D.2.1 33)), (1, .int a1), (2, .int a2), (3, .int (x3_45 &&& ((1 <<< ((nI k5_45) &&& 31)) ^^^ (-1)))), (4, .int (nI k4_36)), (5, .int (nI (k5_45 + 1)))] rfl ?_
                      exact ih_45 (upL s_45 33 (((s_45.2 33) * 6364136223846793005) + 1442695040888963407)) (x3_45 &&& ((1 <<< ((nI k5_45) &&& 31)) ^^^ (-1))) (k5_45 + 1) (by omega) (by omega) (by exact hi_45)
                    · rw [if_neg c_98]
                      refine j_iconst (v := (-1)) F dX10_years_110 111 rfl (by decide) ?_
                      refine j_iand F dX10_years_111 112 rfl ?_
                      refine j_istore_n F dX10_years_112 113 rfl 3 rfl (by decide) [(3, .int (x3_45 &&& (-1))), (0, .ref (D.2.1 33)), (1, .int a1), (2, .int a2), (4, .int (nI k4_36)), (5, .int (nI k5_45))] rfl ?_
                      refine j_iinc F dX10_years_113 116 rfl 5 rfl (nI (k5_45 + 1)) (nI_inc k5_45) (by decide) [(5, .int (nI (k5_45 + 1))), (3, .int (x3_45 &&& (-1))), (0, .ref (D.2.1 33)), (1, .int a1), (2, .int a2), (4, .int (nI k4_36))] rfl ?_
                      refine j_goto F dX10_years_116 45 (by decide) ?_
                      refine j_pick [2, 3, 4, 1, 5, 0] [(0, .ref (D.2.1 33)), (1, .int a1), (2, .int a2), (3, .int (x3_45 &&& (-1))), (4, .int (nI k4_36)), (5, .int (nI (k5_45 + 1)))] rfl ?_
                      exact ih_45 (upL s_45 33 (((s_45.2 33) * 6364136223846793005) + 1442695040888963407)) (x3_45 &&& (-1)) (k5_45 + 1) (by omega) (by omega) (by exact hi_45)
                  · rw [if_neg c_64]
                    refine j_iinc F dX10_years_113 116 rfl 5 rfl (nI (k5_45 + 1)) (nI_inc k5_45) (by decide) [(5, .int (nI (k5_45 + 1))), (0, .ref (D.2.1 33)), (1, .int a1), (2, .int a2), (3, .int x3_45), (4, .int (nI k4_36))] rfl ?_
                    refine j_goto F dX10_years_116 45 (by decide) ?_
                    refine j_pick [1, 2, 3, 4, 5, 0] [(0, .ref (D.2.1 33)), (1, .int a1), (2, .int a2), (3, .int x3_45), (4, .int (nI k4_36)), (5, .int (nI (k5_45 + 1)))] rfl ?_
                    exact ih_45 s_45 x3_45 (k5_45 + 1) (by omega) (by omega) (by exact hi_45)
                · rw [if_neg c_51]
                  refine j_iinc F dX10_years_119 122 rfl 4 rfl (nI (k4_36 + 1)) (nI_inc k4_36) (by decide) [(4, .int (nI (k4_36 + 1))), (0, .ref (D.2.1 33)), (1, .int a1), (2, .int a2), (3, .int x3_45), (5, .int (nI k5_45))] rfl ?_
                  refine j_goto F dX10_years_122 36 (by decide) ?_
                  refine j_pick [1, 2, 3, 4, 0] [(0, .ref (D.2.1 33)), (1, .int a1), (2, .int a2), (3, .int x3_45), (4, .int (nI (k4_36 + 1)))] rfl ?_
                  exact ih_36 s_45 x3_45 (k4_36 + 1) (by omega) (by omega) hi_45
            refine j_pick [1, 2, 3, 4, 5, 0] [(0, .ref (D.2.1 33)), (1, .int a1), (2, .int a2), (3, .int x3_36), (4, .int (nI k4_36)), (5, .int 0)] rfl ?_
            exact lp_45 (mX10_years_45 a1 a2 s_36 + 1) s_36 x3_36 0 (Nat.zero_le _) (by have e9 : s_36.1 = σ.1 := hi_36; show (((σ.1 34 13) : Int32).toNatClampNeg) < 0 + ((((s_36.1 34 13) : Int32).toNatClampNeg) + 1); rw [e9]; omega) hi_36
          · rw [if_neg c_39]
            refine j_pick [0, 3] [(0, .ref (D.2.1 33)), (3, .int x3_36)] rfl ?_
            exact hx_125 s_36 x3_36 hi_36
      refine j_pick [2, 3, 4, 1, 0] [(0, .ref (D.2.1 33)), (1, .int a1), (2, .int a2), (3, .int (fX10_shown σ 0)), (4, .int 0)] rfl ?_
      exact lp_36 (mX10_years_36 a1 a2 + 1) σ (fX10_shown σ 0) 0 (Nat.zero_le _) (by show ((a1 : Int32).toNatClampNeg) < 0 + (((a1 : Int32).toNatClampNeg) + 1); omega) rfl
  · rw [if_neg c_9]
    refine j_bipush (v := (-2)) F dX10_years_24 26 rfl (by decide) ?_
    exact j_ret_i F dX10_years_26 rfl rfl rfl
