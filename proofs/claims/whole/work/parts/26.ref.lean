def fX10_bestWord_98 (σ : Mm) (a1 : Int32)  (x2_98 : Int32) : Int32 := if a1 = 0 then (x2_98) else ((fX10_ones (fX10_lastOf σ (fX10_shown σ 0) x2_98)))
def fX10_bestWord_17 (σ : Mm) (a1 : Int32)  : Nat → Int32 → Nat → Int32
  | 0, _, _ => 0
  | n + 1, x2_17, k3_17 => if (nI k3_17) < 5 then (if ((fX10_ones (fX10_lastOf σ (fX10_shown σ 0) (nI k3_17))) - (fX10_ones (fX10_lastOf σ (fX10_shown σ 0) x2_17))) ≤ 0 then (if ((fX10_ones (fX10_lastOf σ (fX10_shown σ 0) (nI k3_17))) - (fX10_ones (fX10_lastOf σ (fX10_shown σ 0) x2_17))) = 0 then (if (fX10_apart (nI k3_17) (σ.1 34 11)) < (fX10_apart x2_17 (σ.1 34 11)) then (fX10_bestWord_17 σ a1 n (nI k3_17) (k3_17 + 1)) else (fX10_bestWord_17 σ a1 n x2_17 (k3_17 + 1))) else (fX10_bestWord_17 σ a1 n x2_17 (k3_17 + 1))) else (fX10_bestWord_17 σ a1 n (nI k3_17) (k3_17 + 1))) else (fX10_bestWord_98 σ a1 x2_17)
def fX10_bestWord (σ : Mm) (a1 : Int32) : Int32 := if (fX10_in (a1.toInt64) 0 1) = true then (fX10_bestWord_17 σ a1 6 1 2) else ((-2))
set_option maxRecDepth 20000 in
theorem kX10_bestWord (l : Launch) (D : Dm) (a1 : Int32) (σ : Mm) (hM : vp_in (σ.1 34 13) 9) : Ct l yX10_bestWord cX10_bestWord 5 (some .int) 6 D [.ref (D.2.1 33), .int a1] σ (some (.int (fX10_bestWord σ a1)), σ) := by
  refine ct_of (by decide +kernel) (Nat.le_of_ble_eq_true rfl) (fun X F => ?_)
  have F : Fx X l 5 D cX10_bestWord RX10 6 (some .int) := F
  show JJ X 5 D σ 0 [(0, .ref (D.2.1 33)), (1, .int a1)] [] (QQ X D (some (.int (fX10_bestWord σ a1)), σ))
  rw [fX10_bestWord]
  refine j_iload_n F dX10_bestWord_0 1 rfl 1 rfl ?_
  refine j_i2l F dX10_bestWord_1 2 rfl ?_
  refine j_lconst (v := 0) F dX10_bestWord_2 3 rfl (by decide) ?_
  refine j_lconst (v := 1) F dX10_bestWord_3 4 rfl (by decide) ?_
  refine j_callSr (as := [.long (a1.toInt64), .long 0, .long 1]) (st := []) (r := .int (bi (fX10_in (a1.toInt64) 0 1))) (σ9 := σ) F zX10_in dX10_bestWord_4 7 rfl pX10_in rfl (by decide) (by decide) (Nat.le_of_ble_eq_true rfl) rfl qX10_58 (kX10_in l D (a1.toInt64) 0 1 σ) ?_
  refine j_ifb_ne F dX10_bestWord_7 13 (by decide) 10 rfl (fun c_7 => ?_) (fun c_7 => ?_)
  · rw [if_neg c_7]
    refine j_bipush (v := (-2)) F dX10_bestWord_10 12 rfl (by decide) ?_
    exact j_ret_i F dX10_bestWord_12 rfl rfl rfl
  · rw [if_pos c_7]
    refine j_iconst (v := 1) F dX10_bestWord_13 14 rfl (by decide) ?_
    refine j_istore_n F dX10_bestWord_14 15 rfl 2 rfl (by decide) [(2, .int 1), (0, .ref (D.2.1 33)), (1, .int a1)] rfl ?_
    refine j_iconst (v := 2) F dX10_bestWord_15 16 rfl (by decide) ?_
    refine j_istore_n F dX10_bestWord_16 17 rfl 3 rfl (by decide) [(3, .int 2), (2, .int 1), (0, .ref (D.2.1 33)), (1, .int a1)] rfl ?_
    have hx_98 : ∀ (x2_98 : Int32), JJ X 5 D σ 98 [(0, .ref (D.2.1 33)), (1, .int a1), (2, .int x2_98)] [] (QQ X D (some (.int (fX10_bestWord_98 σ a1 x2_98)), σ)) := by
      intro x2_98
      rw [fX10_bestWord_98]
      refine j_iload_n F dX10_bestWord_98 99 rfl 1 rfl ?_
      refine j_if_ne F dX10_bestWord_99 106 (by decide) 102 rfl (fun c_99 => ?_) (fun c_99 => ?_)
      · rw [if_pos c_99]
        refine j_iload_n F dX10_bestWord_102 103 rfl 2 rfl ?_
        refine j_goto F dX10_bestWord_103 119 (by decide) ?_
        exact j_ret_i F dX10_bestWord_119 rfl rfl rfl
      · rw [if_neg c_99]
        refine j_aload_n F dX10_bestWord_106 107 rfl 0 rfl ?_
        refine j_aload_n F dX10_bestWord_107 108 rfl 0 rfl ?_
        refine j_iconst (v := 0) F dX10_bestWord_108 109 rfl (by decide) ?_
        refine j_callVr (as := [.int (nI 0)]) (st := [.ref (D.2.1 33)]) (r := .int (fX10_shown σ 0)) (σ9 := σ) F zX10_shown dX10_bestWord_109 112 rfl pX10_shown rfl (by decide) (by decide) (Nat.le_of_ble_eq_true rfl) rfl qX10_122 rfl rfl (by decide) sh33 (kX10_shown l D 0 σ (by decide)) ?_
        refine j_iload_n F dX10_bestWord_112 113 rfl 2 rfl ?_
        refine j_callVr (as := [.int (fX10_shown σ 0), .int x2_98]) (st := []) (r := .int (fX10_lastOf σ (fX10_shown σ 0) x2_98)) (σ9 := σ) F zX10_lastOf dX10_bestWord_113 116 rfl pX10_lastOf rfl (by decide) (by decide) (Nat.le_of_ble_eq_true rfl) rfl qX10_125 rfl rfl (by decide) sh33 (kX10_lastOf l D (fX10_shown σ 0) x2_98 σ (by first | assumption | exact isThing_in (by assumption) (by assumption) | exact vin_mono (by assumption) (by decide) | omega | decide)) ?_
        refine j_callSr (as := [.int (fX10_lastOf σ (fX10_shown σ 0) x2_98)]) (st := []) (r := .int (fX10_ones (fX10_lastOf σ (fX10_shown σ 0) x2_98))) (σ9 := σ) F zX10_ones dX10_bestWord_116 119 rfl pX10_ones rfl (by decide) (by decide) (Nat.le_of_ble_eq_true rfl) rfl qX10_115 (kX10_ones l D (fX10_lastOf σ (fX10_shown σ 0) x2_98) σ) ?_
        exact j_ret_i F dX10_bestWord_119 rfl rfl rfl
    have lp_17 : ∀ (n_17 : Nat) (x2_17 : Int32) (k3_17 : Nat), k3_17 ≤ 5 → 5 < k3_17 + n_17 → JJ X 5 D σ 17 [(0, .ref (D.2.1 33)), (1, .int a1), (2, .int x2_17), (3, .int (nI k3_17))] [] (QQ X D (some (.int (fX10_bestWord_17 σ a1 n_17 x2_17 k3_17)), σ)) := by
      intro n_17
      induction n_17 with
      | zero => intro x2_17 k3_17 hk_17 hn_17; exact absurd hn_17 (by omega)
      | succ n_17 ih_17 =>
        intro x2_17 k3_17 hk_17 hn_17
        rw [fX10_bestWord_17]
        refine j_iload_n F dX10_bestWord_17 18 rfl 3 rfl ?_
        refine j_iconst (v := 5) F dX10_bestWord_18 19 rfl (by decide) ?_
        refine j_icmp_ge F dX10_bestWord_19 98 (by decide) 22 rfl (fun c_19 => ?_) (fun c_19 => ?_)
        · rw [if_pos c_19]
          have h_19 : k3_17 < 5 := nlt c_19 (by decide) (by omega)
          refine j_aload_n F dX10_bestWord_22 23 rfl 0 rfl ?_
          refine j_aload_n F dX10_bestWord_23 24 rfl 0 rfl ?_
          refine j_iconst (v := 0) F dX10_bestWord_24 25 rfl (by decide) ?_
          refine j_callVr (as := [.int (nI 0)]) (st := [.ref (D.2.1 33)]) (r := .int (fX10_shown σ 0)) (σ9 := σ) F zX10_shown dX10_bestWord_25 28 rfl pX10_shown rfl (by decide) (by decide) (Nat.le_of_ble_eq_true rfl) rfl qX10_122 rfl rfl (by decide) sh33 (kX10_shown l D 0 σ (by decide)) ?_
          refine j_iload_n F dX10_bestWord_28 29 rfl 3 rfl ?_
          refine j_callVr (as := [.int (fX10_shown σ 0), .int (nI k3_17)]) (st := []) (r := .int (fX10_lastOf σ (fX10_shown σ 0) (nI k3_17))) (σ9 := σ) F zX10_lastOf dX10_bestWord_29 32 rfl pX10_lastOf rfl (by decide) (by decide) (Nat.le_of_ble_eq_true rfl) rfl qX10_125 rfl rfl (by decide) sh33 (kX10_lastOf l D (fX10_shown σ 0) (nI k3_17) σ (by first | assumption | exact isThing_in (by assumption) (by assumption) | exact vin_mono (by assumption) (by decide) | omega | decide)) ?_
          refine j_callSr (as := [.int (fX10_lastOf σ (fX10_shown σ 0) (nI k3_17))]) (st := []) (r := .int (fX10_ones (fX10_lastOf σ (fX10_shown σ 0) (nI k3_17)))) (σ9 := σ) F zX10_ones dX10_bestWord_32 35 rfl pX10_ones rfl (by decide) (by decide) (Nat.le_of_ble_eq_true rfl) rfl qX10_115 (kX10_ones l D (fX10_lastOf σ (fX10_shown σ 0) (nI k3_17)) σ) ?_
          refine j_aload_n F dX10_bestWord_35 36 rfl 0 rfl ?_
          refine j_aload_n F dX10_bestWord_36 37 rfl 0 rfl ?_
          refine j_iconst (v := 0) F dX10_bestWord_37 38 rfl (by decide) ?_
          refine j_callVr (as := [.int (nI 0)]) (st := [.ref (D.2.1 33), .int (fX10_ones (fX10_lastOf σ (fX10_shown σ 0) (nI k3_17)))]) (r := .int (fX10_shown σ 0)) (σ9 := σ) F zX10_shown dX10_bestWord_38 41 rfl pX10_shown rfl (by decide) (by decide) (Nat.le_of_ble_eq_true rfl) rfl qX10_122 rfl rfl (by decide) sh33 (kX10_shown l D 0 σ (by decide)) ?_
          refine j_iload_n F dX10_bestWord_41 42 rfl 2 rfl ?_
          refine j_callVr (as := [.int (fX10_shown σ 0), .int x2_17]) (st := [.int (fX10_ones (fX10_lastOf σ (fX10_shown σ 0) (nI k3_17)))]) (r := .int (fX10_lastOf σ (fX10_shown σ 0) x2_17)) (σ9 := σ) F zX10_lastOf dX10_bestWord_42 45 rfl pX10_lastOf rfl (by decide) (by decide) (Nat.le_of_ble_eq_true rfl) rfl qX10_125 rfl rfl (by decide) sh33 (kX10_lastOf l D (fX10_shown σ 0) x2_17 σ (by first | assumption | exact isThing_in (by assumption) (by assumption) | exact vin_mono (by assumption) (by decide) | omega | decide)) ?_
          refine j_callSr (as := [.int (fX10_lastOf σ (fX10_shown σ 0) x2_17)]) (st := [.int (fX10_ones (fX10_lastOf σ (fX10_shown σ 0) (nI k3_17)))]) (r := .int (fX10_ones (fX10_lastOf σ (fX10_shown σ 0) x2_17))) (σ9 := σ) F zX10_ones dX10_bestWord_45 48 rfl pX10_ones rfl (by decide) (by decide) (Nat.le_of_ble_eq_true rfl) rfl qX10_115 (kX10_ones l D (fX10_lastOf σ (fX10_shown σ 0) x2_17) σ) ?_
          refine j_isub F dX10_bestWord_48 49 rfl ?_
          refine j_istore F dX10_bestWord_49 51 rfl (by decide) [(4, .int ((fX10_ones (fX10_lastOf σ (fX10_shown σ 0) (nI k3_17))) - (fX10_ones (fX10_lastOf σ (fX10_shown σ 0) x2_17)))), (0, .ref (D.2.1 33)), (1, .int a1), (2, .int x2_17), (3, .int (nI k3_17))] rfl ?_
          refine j_iload F dX10_bestWord_51 53 rfl 0 rfl ?_
          refine j_if_gt F dX10_bestWord_53 86 (by decide) 56 rfl (fun c_53 => ?_) (fun c_53 => ?_)
          · rw [if_pos c_53]
            refine j_iload F dX10_bestWord_56 58 rfl 0 rfl ?_
            refine j_if_ne F dX10_bestWord_58 90 (by decide) 61 rfl (fun c_58 => ?_) (fun c_58 => ?_)
            · rw [if_pos c_58]
              refine j_iload_n F dX10_bestWord_61 62 rfl 4 rfl ?_
              refine j_aload_n F dX10_bestWord_62 63 rfl 1 rfl ?_
              refine j_get (j := 0) F dX10_bestWord_63 66 rfl inX10 rfl (by decide) sh33 (by decide) qX10_7 rfl ?_
              refine j_bipush (v := 11) F dX10_bestWord_66 68 rfl (by decide) ?_
              refine j_iald_n F dX10_bestWord_68 69 rfl ia34 11 rfl (by decide) ?_
              refine j_callSr (as := [.int (nI k3_17), .int (σ.1 34 11)]) (st := []) (r := .int (fX10_apart (nI k3_17) (σ.1 34 11))) (σ9 := σ) F zX10_apart dX10_bestWord_69 72 rfl pX10_apart rfl (by decide) (by decide) (Nat.le_of_ble_eq_true rfl) rfl qX10_189 (kX10_apart l D (nI k3_17) (σ.1 34 11) σ) ?_
              refine j_iload_n F dX10_bestWord_72 73 rfl 3 rfl ?_
              refine j_aload_n F dX10_bestWord_73 74 rfl 1 rfl ?_
              refine j_get (j := 0) F dX10_bestWord_74 77 rfl inX10 rfl (by decide) sh33 (by decide) qX10_7 rfl ?_
              refine j_bipush (v := 11) F dX10_bestWord_77 79 rfl (by decide) ?_
              refine j_iald_n F dX10_bestWord_79 80 rfl ia34 11 rfl (by decide) ?_
              refine j_callSr (as := [.int x2_17, .int (σ.1 34 11)]) (st := [.int (fX10_apart (nI k3_17) (σ.1 34 11))]) (r := .int (fX10_apart x2_17 (σ.1 34 11))) (σ9 := σ) F zX10_apart dX10_bestWord_80 83 rfl pX10_apart rfl (by decide) (by decide) (Nat.le_of_ble_eq_true rfl) rfl qX10_189 (kX10_apart l D x2_17 (σ.1 34 11) σ) ?_
              refine j_icmp_ge F dX10_bestWord_83 90 (by decide) 86 rfl (fun c_83 => ?_) (fun c_83 => ?_)
              · rw [if_pos c_83]
                refine j_iload_n F dX10_bestWord_86 87 rfl 4 rfl ?_
                refine j_goto F dX10_bestWord_87 91 (by decide) ?_
                refine j_istore_n F dX10_bestWord_91 92 rfl 2 rfl (by decide) [(2, .int (nI k3_17)), (4, .int ((fX10_ones (fX10_lastOf σ (fX10_shown σ 0) (nI k3_17))) - (fX10_ones (fX10_lastOf σ (fX10_shown σ 0) x2_17)))), (0, .ref (D.2.1 33)), (1, .int a1), (3, .int (nI k3_17))] rfl ?_
                refine j_iinc F dX10_bestWord_92 95 rfl 4 rfl (nI (k3_17 + 1)) (nI_inc k3_17) (by decide) [(3, .int (nI (k3_17 + 1))), (2, .int (nI k3_17)), (4, .int ((fX10_ones (fX10_lastOf σ (fX10_shown σ 0) (nI k3_17))) - (fX10_ones (fX10_lastOf σ (fX10_shown σ 0) x2_17)))), (0, .ref (D.2.1 33)), (1, .int a1)] rfl ?_
                refine j_goto F dX10_bestWord_95 17 (by decide) ?_
                refine j_pick [3, 4, 1, 0] [(0, .ref (D.2.1 33)), (1, .int a1), (2, .int (nI k3_17)), (3, .int (nI (k3_17 + 1)))] rfl ?_
                exact ih_17 (nI k3_17) (k3_17 + 1) (by omega) (by omega)
              · rw [if_neg c_83]
                refine j_iload_n F dX10_bestWord_90 91 rfl 3 rfl ?_
                refine j_istore_n F dX10_bestWord_91 92 rfl 2 rfl (by decide) [(2, .int x2_17), (4, .int ((fX10_ones (fX10_lastOf σ (fX10_shown σ 0) (nI k3_17))) - (fX10_ones (fX10_lastOf σ (fX10_shown σ 0) x2_17)))), (0, .ref (D.2.1 33)), (1, .int a1), (3, .int (nI k3_17))] rfl ?_
                refine j_iinc F dX10_bestWord_92 95 rfl 4 rfl (nI (k3_17 + 1)) (nI_inc k3_17) (by decide) [(3, .int (nI (k3_17 + 1))), (2, .int x2_17), (4, .int ((fX10_ones (fX10_lastOf σ (fX10_shown σ 0) (nI k3_17))) - (fX10_ones (fX10_lastOf σ (fX10_shown σ 0) x2_17)))), (0, .ref (D.2.1 33)), (1, .int a1)] rfl ?_
                refine j_goto F dX10_bestWord_95 17 (by decide) ?_
                refine j_pick [3, 4, 1, 0] [(0, .ref (D.2.1 33)), (1, .int a1), (2, .int x2_17), (3, .int (nI (k3_17 + 1)))] rfl ?_
                exact ih_17 x2_17 (k3_17 + 1) (by omega) (by omega)
            · rw [if_neg c_58]
              refine j_iload_n F dX10_bestWord_90 91 rfl 3 rfl ?_
              refine j_istore_n F dX10_bestWord_91 92 rfl 2 rfl (by decide) [(2, .int x2_17), (4, .int ((fX10_ones (fX10_lastOf σ (fX10_shown σ 0) (nI k3_17))) - (fX10_ones (fX10_lastOf σ (fX10_shown σ 0) x2_17)))), (0, .ref (D.2.1 33)), (1, .int a1), (3, .int (nI k3_17))] rfl ?_
              refine j_iinc F dX10_bestWord_92 95 rfl 4 rfl (nI (k3_17 + 1)) (nI_inc k3_17) (by decide) [(3, .int (nI (k3_17 + 1))), (2, .int x2_17), (4, .int ((fX10_ones (fX10_lastOf σ (fX10_shown σ 0) (nI k3_17))) - (fX10_ones (fX10_lastOf σ (fX10_shown σ 0) x2_17)))), (0, .ref (D.2.1 33)), (1, .int a1)] rfl ?_
              refine j_goto F dX10_bestWord_95 17 (by decide) ?_
              refine j_pick [3, 4, 1, 0] [(0, .ref (D.2.1 33)), (1, .int a1), (2, .int x2_17), (3, .int (nI (k3_17 + 1)))] rfl ?_
              exact ih_17 x2_17 (k3_17 + 1) (by omega) (by omega)
          · rw [if_neg c_53]
            refine j_iload_n F dX10_bestWord_86 87 rfl 4 rfl ?_
            refine j_goto F dX10_bestWord_87 91 (by decide) ?_
            refine j_istore_n F dX10_bestWord_91 92 rfl 2 rfl (by decide) [(2, .int (nI k3_17)), (4, .int ((fX10_ones (fX10_lastOf σ (fX10_shown σ 0) (nI k3_17))) - (fX10_ones (fX10_lastOf σ (fX10_shown σ 0) x2_17)))), (0, .ref (D.2.1 33)), (1, .int a1), (3, .int (nI k3_17))] rfl ?_
            refine j_iinc F dX10_bestWord_92 95 rfl 4 rfl (nI (k3_17 + 1)) (nI_inc k3_17) (by decide) [(3, .int (nI (k3_17 + 1))), (2, .int (nI k3_17)), (4, .int ((fX10_ones (fX10_lastOf σ (fX10_shown σ 0) (nI k3_17))) - (fX10_ones (fX10_lastOf σ (fX10_shown σ 0) x2_17)))), (0, .ref (D.2.1 33)), (1, .int a1)] rfl ?_
            refine j_goto F dX10_bestWord_95 17 (by decide) ?_
            refine j_pick [3, 4, 1, 0] [(0, .ref (D.2.1 33)), (1, .int a1), (2, .int (nI k3_17)), (3, .int (nI (k3_17 + 1)))] rfl ?_
            exact ih_17 (nI k3_17) (k3_17 + 1) (by omega) (by omega)
        · rw [if_neg c_19]
          refine j_pick [0, 1, 2] [(0, .ref (D.2.1 33)), (1, .int a1), (2, .int x2_17)] rfl ?_
          exact hx_98 x2_17
    refine j_pick [2, 3, 1, 0] [(0, .ref (D.2.1 33)), (1, .int a1), (2, .int 1), (3, .int 2)] rfl ?_
    exact lp_17 6 1 2 (by omega) (by omega)
def mX10_costBy_45 (σ : Mm) (a1 : Int32) (a2 : Int32)  : Nat := ((σ.1 34 13) : Int32).toNatClampNeg
def fX10_costBy_45 (σ : Mm) (a1 : Int32) (a2 : Int32)  : Nat → Int32 → Int32 → Nat → Int32
  | 0, _, _, _ => 0
  | n + 1, x3_45, x4_45, k5_45 => if (nI k5_45) < (σ.1 34 13) then (if (fX10_has x3_45 (nI k5_45)) = true then (fX10_costBy_45 σ a1 a2 n x3_45 (x4_45 + ((fX10_costOf σ (nI k5_45)) + (5 * (fX10_guardOf σ (nI k5_45))))) (k5_45 + 1)) else (fX10_costBy_45 σ a1 a2 n x3_45 (x4_45 + 0) (k5_45 + 1))) else (x4_45)
def fX10_costBy (σ : Mm) (a1 : Int32) (a2 : Int32) : Int32 := if ((fX10_alikeOf σ a1 (fX10_shown σ 0) a2) &&& (σ.1 34 10)) = 0 then (fX10_costBy_45 σ a1 a2 (mX10_costBy_45 σ a1 a2 + 1) (fX10_alikeOf σ a1 (fX10_shown σ 0) a2) (3 * (fX10_apart a2 (σ.1 34 11))) 0) else ((-9))
set_option maxRecDepth 20000 in
theorem kX10_costBy (l : Launch) (D : Dm) (a1 : Int32) (a2 : Int32) (σ : Mm) (hv1 : vp_in a1 8) (hM : vp_in (σ.1 34 13) 9) : Ct l yX10_costBy cX10_costBy 6 (some .int) 5 D [.ref (D.2.1 33), .int a1, .int a2] σ (some (.int (fX10_costBy σ a1 a2)), σ) := by
  refine ct_of (by decide +kernel) (Nat.le_of_ble_eq_true rfl) (fun X F => ?_)
  have F : Fx X l 6 D cX10_costBy RX10 5 (some .int) := F
  show JJ X 6 D σ 0 [(0, .ref (D.2.1 33)), (1, .int a1), (2, .int a2)] [] (QQ X D (some (.int (fX10_costBy σ a1 a2)), σ))
  rw [fX10_costBy]
  have hm := vin_le hM
  refine j_aload_n F dX10_costBy_0 1 rfl 0 rfl ?_
  refine j_iload_n F dX10_costBy_1 2 rfl 1 rfl ?_
  refine j_aload_n F dX10_costBy_2 3 rfl 0 rfl ?_
  refine j_iconst (v := 0) F dX10_costBy_3 4 rfl (by decide) ?_
  refine j_callVr (as := [.int (nI 0)]) (st := [.int a1, .ref (D.2.1 33)]) (r := .int (fX10_shown σ 0)) (σ9 := σ) F zX10_shown dX10_costBy_4 7 rfl pX10_shown rfl (by decide) (by decide) (Nat.le_of_ble_eq_true rfl) rfl qX10_122 rfl rfl (by decide) sh33 (kX10_shown l D 0 σ (by decide)) ?_
  refine j_iload_n F dX10_costBy_7 8 rfl 2 rfl ?_
  refine j_callVr (as := [.int a1, .int (fX10_shown σ 0), .int a2]) (st := []) (r := .int (fX10_alikeOf σ a1 (fX10_shown σ 0) a2)) (σ9 := σ) F zX10_alikeOf dX10_costBy_8 11 rfl pX10_alikeOf rfl (by decide) (by decide) (Nat.le_of_ble_eq_true rfl) rfl qX10_118 rfl rfl (by decide) sh33 (kX10_alikeOf l D a1 (fX10_shown σ 0) a2 σ (by first | assumption | exact isThing_in (by assumption) (by assumption) | exact vin_mono (by assumption) (by decide) | omega | decide) (by first | assumption | exact isThing_in (by assumption) (by assumption) | exact vin_mono (by assumption) (by decide) | omega | decide)) ?_
  refine j_istore_n F dX10_costBy_11 12 rfl 3 rfl (by decide) [(3, .int (fX10_alikeOf σ a1 (fX10_shown σ 0) a2)), (0, .ref (D.2.1 33)), (1, .int a1), (2, .int a2)] rfl ?_
  refine j_iload_n F dX10_costBy_12 13 rfl 0 rfl ?_
  refine j_aload_n F dX10_costBy_13 14 rfl 1 rfl ?_
  refine j_get (j := 0) F dX10_costBy_14 17 rfl inX10 rfl (by decide) sh33 (by decide) qX10_7 rfl ?_
  refine j_bipush (v := 10) F dX10_costBy_17 19 rfl (by decide) ?_
  refine j_iald_n F dX10_costBy_19 20 rfl ia34 10 rfl (by decide) ?_
  refine j_iand F dX10_costBy_20 21 rfl ?_
  refine j_if_eq F dX10_costBy_21 27 (by decide) 24 rfl (fun c_21 => ?_) (fun c_21 => ?_)
  · rw [if_neg c_21]
    refine j_bipush (v := (-9)) F dX10_costBy_24 26 rfl (by decide) ?_
    exact j_ret_i F dX10_costBy_26 rfl rfl rfl
  · rw [if_pos c_21]
    refine j_iconst (v := 3) F dX10_costBy_27 28 rfl (by decide) ?_
    refine j_iload_n F dX10_costBy_28 29 rfl 3 rfl ?_
    refine j_aload_n F dX10_costBy_29 30 rfl 1 rfl ?_
    refine j_get (j := 0) F dX10_costBy_30 33 rfl inX10 rfl (by decide) sh33 (by decide) qX10_7 rfl ?_
    refine j_bipush (v := 11) F dX10_costBy_33 35 rfl (by decide) ?_
    refine j_iald_n F dX10_costBy_35 36 rfl ia34 11 rfl (by decide) ?_
    refine j_callSr (as := [.int a2, .int (σ.1 34 11)]) (st := [.int 3]) (r := .int (fX10_apart a2 (σ.1 34 11))) (σ9 := σ) F zX10_apart dX10_costBy_36 39 rfl pX10_apart rfl (by decide) (by decide) (Nat.le_of_ble_eq_true rfl) rfl qX10_189 (kX10_apart l D a2 (σ.1 34 11) σ) ?_
    refine j_imul F dX10_costBy_39 40 rfl ?_
    refine j_istore F dX10_costBy_40 42 rfl (by decide) [(4, .int (3 * (fX10_apart a2 (σ.1 34 11)))), (3, .int (fX10_alikeOf σ a1 (fX10_shown σ 0) a2)), (0, .ref (D.2.1 33)), (1, .int a1), (2, .int a2)] rfl ?_
    refine j_iconst (v := 0) F dX10_costBy_42 43 rfl (by decide) ?_
    refine j_istore F dX10_costBy_43 45 rfl (by decide) [(5, .int 0), (4, .int (3 * (fX10_apart a2 (σ.1 34 11)))), (3, .int (fX10_alikeOf σ a1 (fX10_shown σ 0) a2)), (0, .ref (D.2.1 33)), (1, .int a1), (2, .int a2)] rfl ?_
    have lp_45 : ∀ (n_45 : Nat) (x4_45 : Int32) (k5_45 : Nat), k5_45 ≤ (((σ.1 34 13) : Int32).toNatClampNeg) → (((σ.1 34 13) : Int32).toNatClampNeg) < k5_45 + n_45 → JJ X 6 D σ 45 [(0, .ref (D.2.1 33)), (3, .int (fX10_alikeOf σ a1 (fX10_shown σ 0) a2)), (4, .int x4_45), (5, .int (nI k5_45))] [] (QQ X D (some (.int (fX10_costBy_45 σ a1 a2 n_45 (fX10_alikeOf σ a1 (fX10_shown σ 0) a2) x4_45 k5_45)), σ)) := by
      intro n_45
      induction n_45 with
      | zero => intro x4_45 k5_45 hk_45 hn_45; exact absurd hn_45 (by omega)
      | succ n_45 ih_45 =>
        intro x4_45 k5_45 hk_45 hn_45
        rw [fX10_costBy_45]
        refine j_iload F dX10_costBy_45 47 rfl 3 rfl ?_
        refine j_aload_n F dX10_costBy_47 48 rfl 0 rfl ?_
        refine j_callVr (as := []) (st := [.int (nI k5_45)]) (r := .int (σ.1 34 13)) (σ9 := σ) F zX10_many dX10_costBy_48 51 rfl pX10_many rfl (by decide) (by decide) (Nat.le_of_ble_eq_true rfl) rfl qX10_105 rfl rfl (by decide) sh33 (kX10_many l D σ) ?_
        refine j_icmp_ge F dX10_costBy_51 93 (by decide) 54 rfl (fun c_51 => ?_) (fun c_51 => ?_)
        · rw [if_pos c_51]
          have h_51 : k5_45 < (((σ.1 34 13) : Int32).toNatClampNeg) := nltd c_51 hk_45
          refine j_iload F dX10_costBy_54 56 rfl 2 rfl ?_
          refine j_iload_n F dX10_costBy_56 57 rfl 1 rfl ?_
          refine j_iload F dX10_costBy_57 59 rfl 3 rfl ?_
          refine j_callSr (as := [.int (fX10_alikeOf σ a1 (fX10_shown σ 0) a2), .int (nI k5_45)]) (st := [.int x4_45]) (r := .int (bi (fX10_has (fX10_alikeOf σ a1 (fX10_shown σ 0) a2) (nI k5_45)))) (σ9 := σ) F zX10_has dX10_costBy_59 62 rfl pX10_has rfl (by decide) (by decide) (Nat.le_of_ble_eq_true rfl) rfl qX10_108 (kX10_has l D (fX10_alikeOf σ a1 (fX10_shown σ 0) a2) (nI k5_45) σ) ?_
          refine j_ifb_eq F dX10_costBy_62 83 (by decide) 65 rfl (fun c_62 => ?_) (fun c_62 => ?_)
          · rw [if_pos c_62]
            refine j_aload_n F dX10_costBy_65 66 rfl 0 rfl ?_
            refine j_iload F dX10_costBy_66 68 rfl 3 rfl ?_
            refine j_callVr (as := [.int (nI k5_45)]) (st := [.int x4_45]) (r := .int (fX10_costOf σ (nI k5_45))) (σ9 := σ) F zX10_costOf dX10_costBy_68 71 rfl pX10_costOf rfl (by decide) (by decide) (Nat.le_of_ble_eq_true rfl) rfl qX10_137 rfl rfl (by decide) sh33 (kX10_costOf l D (nI k5_45) σ (vp_in_nI (n := k5_45) (by omega) (by decide))) ?_
            refine j_iconst (v := 5) F dX10_costBy_71 72 rfl (by decide) ?_
            refine j_aload_n F dX10_costBy_72 73 rfl 0 rfl ?_
            refine j_iload F dX10_costBy_73 75 rfl 3 rfl ?_
            refine j_callVr (as := [.int (nI k5_45)]) (st := [.int 5, .int (fX10_costOf σ (nI k5_45)), .int x4_45]) (r := .int (fX10_guardOf σ (nI k5_45))) (σ9 := σ) F zX10_guardOf dX10_costBy_75 78 rfl pX10_guardOf rfl (by decide) (by decide) (Nat.le_of_ble_eq_true rfl) rfl qX10_140 rfl rfl (by decide) sh33 (kX10_guardOf l D (nI k5_45) σ (vp_in_nI (n := k5_45) (by omega) (by decide))) ?_
            refine j_imul F dX10_costBy_78 79 rfl ?_
            refine j_iadd F dX10_costBy_79 80 rfl ?_
            refine j_goto F dX10_costBy_80 84 (by decide) ?_
            refine j_iadd F dX10_costBy_84 85 rfl ?_
            refine j_istore F dX10_costBy_85 87 rfl (by decide) [(4, .int (x4_45 + ((fX10_costOf σ (nI k5_45)) + (5 * (fX10_guardOf σ (nI k5_45)))))), (0, .ref (D.2.1 33)), (3, .int (fX10_alikeOf σ a1 (fX10_shown σ 0) a2)), (5, .int (nI k5_45))] rfl ?_
            refine j_iinc F dX10_costBy_87 90 rfl 3 rfl (nI (k5_45 + 1)) (nI_inc k5_45) (by decide) [(5, .int (nI (k5_45 + 1))), (4, .int (x4_45 + ((fX10_costOf σ (nI k5_45)) + (5 * (fX10_guardOf σ (nI k5_45)))))), (0, .ref (D.2.1 33)), (3, .int (fX10_alikeOf σ a1 (fX10_shown σ 0) a2))] rfl ?_
            refine j_goto F dX10_costBy_90 45 (by decide) ?_
            refine j_pick [2, 3, 1, 0] [(0, .ref (D.2.1 33)), (3, .int (fX10_alikeOf σ a1 (fX10_shown σ 0) a2)), (4, .int (x4_45 + ((fX10_costOf σ (nI k5_45)) + (5 * (fX10_guardOf σ (nI k5_45)))))), (5, .int (nI (k5_45 + 1)))] rfl ?_
            exact ih_45 (x4_45 + ((fX10_costOf σ (nI k5_45)) + (5 * (fX10_guardOf σ (nI k5_45))))) (k5_45 + 1) (by omega) (by omega)
          · rw [if_neg c_62]
            refine j_iconst (v := 0) F dX10_costBy_83 84 rfl (by decide) ?_
            refine j_iadd F dX10_costBy_84 85 rfl ?_
            refine j_istore F dX10_costBy_85 87 rfl (by decide) [(4, .int (x4_45 + 0)), (0, .ref (D.2.1 33)), (3, .int (fX10_alikeOf σ a1 (fX10_shown σ 0) a2)), (5, .int (nI k5_45))] rfl ?_
            refine j_iinc F dX10_costBy_87 90 rfl 3 rfl (nI (k5_45 + 1)) (nI_inc k5_45) (by decide) [(5, .int (nI (k5_45 + 1))), (4, .int (x4_45 + 0)), (0, .ref (D.2.1 33)), (3, .int (fX10_alikeOf σ a1 (fX10_shown σ 0) a2))] rfl ?_
            refine j_goto F dX10_costBy_90 45 (by decide) ?_
            refine j_pick [2, 3, 1, 0] [(0, .ref (D.2.1 33)), (3, .int (fX10_alikeOf σ a1 (fX10_shown σ 0) a2)), (4, .int (x4_45 + 0)), (5, .int (nI (k5_45 + 1)))] rfl ?_
            exact ih_45 (x4_45 + 0) (k5_45 + 1) (by omega) (by omega)
        · rw [if_neg c_51]
          refine j_iload F dX10_costBy_93 95 rfl 2 rfl ?_
          exact j_ret_i F dX10_costBy_95 rfl rfl rfl
    refine j_pick [3, 2, 1, 0] [(0, .ref (D.2.1 33)), (3, .int (fX10_alikeOf σ a1 (fX10_shown σ 0) a2)), (4, .int (3 * (fX10_apart a2 (σ.1 34 11)))), (5, .int 0)] rfl ?_
    exact lp_45 (mX10_costBy_45 σ a1 a2 + 1) (3 * (fX10_apart a2 (σ.1 34 11))) 0 (Nat.zero_le _) (by show (((σ.1 34 13) : Int32).toNatClampNeg) < 0 + ((((σ.1 34 13) : Int32).toNatClampNeg) + 1); omega)
def fX10_campaignWord_5 (σ : Mm) (a1 : Int32)  : Nat → Int32 → Nat → Int32
  | 0, _, _ => 0
  | n + 1, x2_5, k3_5 => if (nI k3_5) < 5 then (if (fX10_costBy σ a1 (nI k3_5)) = (-9) then (fX10_campaignWord_5 σ a1 n x2_5 (k3_5 + 1)) else (if x2_5 = (-9) then (fX10_campaignWord_5 σ a1 n (nI k3_5) (k3_5 + 1)) else (if (fX10_costBy σ a1 (nI k3_5)) < (fX10_costBy σ a1 x2_5) then (fX10_campaignWord_5 σ a1 n (nI k3_5) (k3_5 + 1)) else (fX10_campaignWord_5 σ a1 n x2_5 (k3_5 + 1))))) else (x2_5)
def fX10_campaignWord (σ : Mm) (a1 : Int32) : Int32 := fX10_campaignWord_5 σ a1 6 (-9) 1
set_option maxRecDepth 20000 in
theorem kX10_campaignWord (l : Launch) (D : Dm) (a1 : Int32) (σ : Mm) (hv1 : vp_in a1 8) (hM : vp_in (σ.1 34 13) 9) : Ct l yX10_campaignWord cX10_campaignWord 5 (some .int) 6 D [.ref (D.2.1 33), .int a1] σ (some (.int (fX10_campaignWord σ a1)), σ) := by
  refine ct_of (by decide +kernel) (Nat.le_of_ble_eq_true rfl) (fun X F => ?_)
  have F : Fx X l 5 D cX10_campaignWord RX10 6 (some .int) := F
  show JJ X 5 D σ 0 [(0, .ref (D.2.1 33)), (1, .int a1)] [] (QQ X D (some (.int (fX10_campaignWord σ a1)), σ))
  rw [fX10_campaignWord]
  refine j_bipush (v := (-9)) F dX10_campaignWord_0 2 rfl (by decide) ?_
  refine j_istore_n F dX10_campaignWord_2 3 rfl 2 rfl (by decide) [(2, .int (-9)), (0, .ref (D.2.1 33)), (1, .int a1)] rfl ?_
  refine j_iconst (v := 1) F dX10_campaignWord_3 4 rfl (by decide) ?_
  refine j_istore_n F dX10_campaignWord_4 5 rfl 3 rfl (by decide) [(3, .int 1), (2, .int (-9)), (0, .ref (D.2.1 33)), (1, .int a1)] rfl ?_
  have lp_5 : ∀ (n_5 : Nat) (x2_5 : Int32) (k3_5 : Nat), k3_5 ≤ 5 → 5 < k3_5 + n_5 → JJ X 5 D σ 5 [(0, .ref (D.2.1 33)), (1, .int a1), (2, .int x2_5), (3, .int (nI k3_5))] [] (QQ X D (some (.int (fX10_campaignWord_5 σ a1 n_5 x2_5 k3_5)), σ)) := by
    intro n_5
    induction n_5 with
    | zero => intro x2_5 k3_5 hk_5 hn_5; exact absurd hn_5 (by omega)
    | succ n_5 ih_5 =>
      intro x2_5 k3_5 hk_5 hn_5
      rw [fX10_campaignWord_5]
      refine j_iload_n F dX10_campaignWord_5 6 rfl 3 rfl ?_
      refine j_iconst (v := 5) F dX10_campaignWord_6 7 rfl (by decide) ?_
      refine j_icmp_ge F dX10_campaignWord_7 54 (by decide) 10 rfl (fun c_7 => ?_) (fun c_7 => ?_)
      · rw [if_pos c_7]
        have h_7 : k3_5 < 5 := nlt c_7 (by decide) (by omega)
        refine j_aload_n F dX10_campaignWord_10 11 rfl 0 rfl ?_
        refine j_iload_n F dX10_campaignWord_11 12 rfl 1 rfl ?_
        refine j_iload_n F dX10_campaignWord_12 13 rfl 3 rfl ?_
        refine j_callVr (as := [.int a1, .int (nI k3_5)]) (st := []) (r := .int (fX10_costBy σ a1 (nI k3_5))) (σ9 := σ) F zX10_costBy dX10_campaignWord_13 16 rfl pX10_costBy rfl (by decide) (by decide) (Nat.le_of_ble_eq_true rfl) rfl qX10_192 rfl rfl (by decide) sh33 (kX10_costBy l D a1 (nI k3_5) σ (by first | assumption | exact isThing_in (by assumption) (by assumption) | exact vin_mono (by assumption) (by decide) | omega | decide) (by first | assumption | exact isThing_in (by assumption) (by assumption) | exact vin_mono (by assumption) (by decide) | omega | decide)) ?_
        refine j_istore F dX10_campaignWord_16 18 rfl (by decide) [(4, .int (fX10_costBy σ a1 (nI k3_5))), (0, .ref (D.2.1 33)), (1, .int a1), (2, .int x2_5), (3, .int (nI k3_5))] rfl ?_
        refine j_iload F dX10_campaignWord_18 20 rfl 0 rfl ?_
        refine j_bipush (v := (-9)) F dX10_campaignWord_20 22 rfl (by decide) ?_
        refine j_icmp_eq F dX10_campaignWord_22 46 (by decide) 25 rfl (fun c_22 => ?_) (fun c_22 => ?_)
        · rw [if_neg c_22]
          refine j_iload_n F dX10_campaignWord_25 26 rfl 3 rfl ?_
          refine j_bipush (v := (-9)) F dX10_campaignWord_26 28 rfl (by decide) ?_
          refine j_icmp_eq F dX10_campaignWord_28 42 (by decide) 31 rfl (fun c_28 => ?_) (fun c_28 => ?_)
          · rw [if_neg c_28]
            refine j_iload F dX10_campaignWord_31 33 rfl 0 rfl ?_
            refine j_aload_n F dX10_campaignWord_33 34 rfl 1 rfl ?_
            refine j_iload_n F dX10_campaignWord_34 35 rfl 2 rfl ?_
            refine j_iload_n F dX10_campaignWord_35 36 rfl 3 rfl ?_
            refine j_callVr (as := [.int a1, .int x2_5]) (st := [.int (fX10_costBy σ a1 (nI k3_5))]) (r := .int (fX10_costBy σ a1 x2_5)) (σ9 := σ) F zX10_costBy dX10_campaignWord_36 39 rfl pX10_costBy rfl (by decide) (by decide) (Nat.le_of_ble_eq_true rfl) rfl qX10_192 rfl rfl (by decide) sh33 (kX10_costBy l D a1 x2_5 σ (by first | assumption | exact isThing_in (by assumption) (by assumption) | exact vin_mono (by assumption) (by decide) | omega | decide) (by first | assumption | exact isThing_in (by assumption) (by assumption) | exact vin_mono (by assumption) (by decide) | omega | decide)) ?_
            refine j_icmp_ge F dX10_campaignWord_39 46 (by decide) 42 rfl (fun c_39 => ?_) (fun c_39 => ?_)
            · rw [if_pos c_39]
              refine j_iload_n F dX10_campaignWord_42 43 rfl 4 rfl ?_
              refine j_goto F dX10_campaignWord_43 47 (by decide) ?_
              refine j_istore_n F dX10_campaignWord_47 48 rfl 2 rfl (by decide) [(2, .int (nI k3_5)), (4, .int (fX10_costBy σ a1 (nI k3_5))), (0, .ref (D.2.1 33)), (1, .int a1), (3, .int (nI k3_5))] rfl ?_
              refine j_iinc F dX10_campaignWord_48 51 rfl 4 rfl (nI (k3_5 + 1)) (nI_inc k3_5) (by decide) [(3, .int (nI (k3_5 + 1))), (2, .int (nI k3_5)), (4, .int (fX10_costBy σ a1 (nI k3_5))), (0, .ref (D.2.1 33)), (1, .int a1)] rfl ?_
              refine j_goto F dX10_campaignWord_51 5 (by decide) ?_
              refine j_pick [3, 4, 1, 0] [(0, .ref (D.2.1 33)), (1, .int a1), (2, .int (nI k3_5)), (3, .int (nI (k3_5 + 1)))] rfl ?_
              exact ih_5 (nI k3_5) (k3_5 + 1) (by omega) (by omega)
            · rw [if_neg c_39]
              refine j_iload_n F dX10_campaignWord_46 47 rfl 3 rfl ?_
              refine j_istore_n F dX10_campaignWord_47 48 rfl 2 rfl (by decide) [(2, .int x2_5), (4, .int (fX10_costBy σ a1 (nI k3_5))), (0, .ref (D.2.1 33)), (1, .int a1), (3, .int (nI k3_5))] rfl ?_
              refine j_iinc F dX10_campaignWord_48 51 rfl 4 rfl (nI (k3_5 + 1)) (nI_inc k3_5) (by decide) [(3, .int (nI (k3_5 + 1))), (2, .int x2_5), (4, .int (fX10_costBy σ a1 (nI k3_5))), (0, .ref (D.2.1 33)), (1, .int a1)] rfl ?_
              refine j_goto F dX10_campaignWord_51 5 (by decide) ?_
              refine j_pick [3, 4, 1, 0] [(0, .ref (D.2.1 33)), (1, .int a1), (2, .int x2_5), (3, .int (nI (k3_5 + 1)))] rfl ?_
              exact ih_5 x2_5 (k3_5 + 1) (by omega) (by omega)
          · rw [if_pos c_28]
            refine j_iload_n F dX10_campaignWord_42 43 rfl 4 rfl ?_
            refine j_goto F dX10_campaignWord_43 47 (by decide) ?_
            refine j_istore_n F dX10_campaignWord_47 48 rfl 2 rfl (by decide) [(2, .int (nI k3_5)), (4, .int (fX10_costBy σ a1 (nI k3_5))), (0, .ref (D.2.1 33)), (1, .int a1), (3, .int (nI k3_5))] rfl ?_
            refine j_iinc F dX10_campaignWord_48 51 rfl 4 rfl (nI (k3_5 + 1)) (nI_inc k3_5) (by decide) [(3, .int (nI (k3_5 + 1))), (2, .int (nI k3_5)), (4, .int (fX10_costBy σ a1 (nI k3_5))), (0, .ref (D.2.1 33)), (1, .int a1)] rfl ?_
            refine j_goto F dX10_campaignWord_51 5 (by decide) ?_
            refine j_pick [3, 4, 1, 0] [(0, .ref (D.2.1 33)), (1, .int a1), (2, .int (nI k3_5)), (3, .int (nI (k3_5 + 1)))] rfl ?_
            exact ih_5 (nI k3_5) (k3_5 + 1) (by omega) (by omega)
        · rw [if_pos c_22]
          refine j_iload_n F dX10_campaignWord_46 47 rfl 3 rfl ?_
          refine j_istore_n F dX10_campaignWord_47 48 rfl 2 rfl (by decide) [(2, .int x2_5), (4, .int (fX10_costBy σ a1 (nI k3_5))), (0, .ref (D.2.1 33)), (1, .int a1), (3, .int (nI k3_5))] rfl ?_
          refine j_iinc F dX10_campaignWord_48 51 rfl 4 rfl (nI (k3_5 + 1)) (nI_inc k3_5) (by decide) [(3, .int (nI (k3_5 + 1))), (2, .int x2_5), (4, .int (fX10_costBy σ a1 (nI k3_5))), (0, .ref (D.2.1 33)), (1, .int a1)] rfl ?_
          refine j_goto F dX10_campaignWord_51 5 (by decide) ?_
          refine j_pick [3, 4, 1, 0] [(0, .ref (D.2.1 33)), (1, .int a1), (2, .int x2_5), (3, .int (nI (k3_5 + 1)))] rfl ?_
          exact ih_5 x2_5 (k3_5 + 1) (by omega) (by omega)
      · rw [if_neg c_7]
        refine j_iload_n F dX10_campaignWord_54 55 rfl 2 rfl ?_
        exact j_ret_i F dX10_campaignWord_55 rfl rfl rfl
  refine j_pick [2, 3, 1, 0] [(0, .ref (D.2.1 33)), (1, .int a1), (2, .int (-9)), (3, .int 1)] rfl ?_
  exact lp_5 6 (-9) 1 (by omega) (by omega)
def fX10_campaign (σ : Mm) (a1 : Int32) : Int32 := if (fX10_isThing σ a1) = true then (if (fX10_has (fX10_shown σ 0) a1) = true then (if (fX10_campaignWord σ a1) = (-9) then ((-9)) else ((fX10_costBy σ a1 (fX10_campaignWord σ a1)))) else ((-3))) else ((-1))
set_option maxRecDepth 20000 in
theorem kX10_campaign (l : Launch) (D : Dm) (a1 : Int32) (σ : Mm) (hM : vp_in (σ.1 34 13) 9) : Ct l yX10_campaign cX10_campaign 3 (some .int) 7 D [.ref (D.2.1 33), .int a1] σ (some (.int (fX10_campaign σ a1)), σ) := by
  refine ct_of (by decide +kernel) (Nat.le_of_ble_eq_true rfl) (fun X F => ?_)
  have F : Fx X l 3 D cX10_campaign RX10 7 (some .int) := F
  show JJ X 3 D σ 0 [(0, .ref (D.2.1 33)), (1, .int a1)] [] (QQ X D (some (.int (fX10_campaign σ a1)), σ))
  rw [fX10_campaign]
  refine j_aload_n F dX10_campaign_0 1 rfl 0 rfl ?_
  refine j_iload_n F dX10_campaign_1 2 rfl 1 rfl ?_
  refine j_callVr (as := [.int a1]) (st := []) (r := .int (bi (fX10_isThing σ a1))) (σ9 := σ) F zX10_isThing dX10_campaign_2 5 rfl pX10_isThing rfl (by decide) (by decide) (Nat.le_of_ble_eq_true rfl) rfl qX10_128 rfl rfl (by decide) sh33 (kX10_isThing l D a1 σ) ?_
  refine j_ifb_ne F dX10_campaign_5 10 (by decide) 8 rfl (fun c_5 => ?_) (fun c_5 => ?_)
  · rw [if_neg c_5]
    refine j_iconst (v := (-1)) F dX10_campaign_8 9 rfl (by decide) ?_
    exact j_ret_i F dX10_campaign_9 rfl rfl rfl
  · rw [if_pos c_5]
    refine j_aload_n F dX10_campaign_10 11 rfl 0 rfl ?_
    refine j_iconst (v := 0) F dX10_campaign_11 12 rfl (by decide) ?_
    refine j_callVr (as := [.int (nI 0)]) (st := []) (r := .int (fX10_shown σ 0)) (σ9 := σ) F zX10_shown dX10_campaign_12 15 rfl pX10_shown rfl (by decide) (by decide) (Nat.le_of_ble_eq_true rfl) rfl qX10_122 rfl rfl (by decide) sh33 (kX10_shown l D 0 σ (by decide)) ?_
    refine j_iload_n F dX10_campaign_15 16 rfl 1 rfl ?_
    refine j_callSr (as := [.int (fX10_shown σ 0), .int a1]) (st := []) (r := .int (bi (fX10_has (fX10_shown σ 0) a1))) (σ9 := σ) F zX10_has dX10_campaign_16 19 rfl pX10_has rfl (by decide) (by decide) (Nat.le_of_ble_eq_true rfl) rfl qX10_108 (kX10_has l D (fX10_shown σ 0) a1 σ) ?_
    refine j_ifb_ne F dX10_campaign_19 25 (by decide) 22 rfl (fun c_19 => ?_) (fun c_19 => ?_)
    · rw [if_neg c_19]
      refine j_bipush (v := (-3)) F dX10_campaign_22 24 rfl (by decide) ?_
      exact j_ret_i F dX10_campaign_24 rfl rfl rfl
    · rw [if_pos c_19]
      refine j_aload_n F dX10_campaign_25 26 rfl 0 rfl ?_
      refine j_iload_n F dX10_campaign_26 27 rfl 1 rfl ?_
      refine j_callVr (as := [.int a1]) (st := []) (r := .int (fX10_campaignWord σ a1)) (σ9 := σ) F zX10_campaignWord dX10_campaign_27 30 rfl pX10_campaignWord rfl (by decide) (by decide) (Nat.le_of_ble_eq_true rfl) rfl qX10_195 rfl rfl (by decide) sh33 (kX10_campaignWord l D a1 σ (by first | assumption | exact isThing_in (by assumption) (by assumption) | exact vin_mono (by assumption) (by decide) | omega | decide) (by first | assumption | exact isThing_in (by assumption) (by assumption) | exact vin_mono (by assumption) (by decide) | omega | decide)) ?_
      refine j_istore_n F dX10_campaign_30 31 rfl 2 rfl (by decide) [(2, .int (fX10_campaignWord σ a1)), (0, .ref (D.2.1 33)), (1, .int a1)] rfl ?_
      refine j_iload_n F dX10_campaign_31 32 rfl 0 rfl ?_
      refine j_bipush (v := (-9)) F dX10_campaign_32 34 rfl (by decide) ?_
      refine j_icmp_ne F dX10_campaign_34 42 (by decide) 37 rfl (fun c_34 => ?_) (fun c_34 => ?_)
      · rw [if_pos c_34]
        refine j_bipush (v := (-9)) F dX10_campaign_37 39 rfl (by decide) ?_
        refine j_goto F dX10_campaign_39 48 (by decide) ?_
        exact j_ret_i F dX10_campaign_48 rfl rfl rfl
      · rw [if_neg c_34]
        refine j_aload_n F dX10_campaign_42 43 rfl 1 rfl ?_
        refine j_iload_n F dX10_campaign_43 44 rfl 2 rfl ?_
        refine j_iload_n F dX10_campaign_44 45 rfl 0 rfl ?_
        refine j_callVr (as := [.int a1, .int (fX10_campaignWord σ a1)]) (st := []) (r := .int (fX10_costBy σ a1 (fX10_campaignWord σ a1))) (σ9 := σ) F zX10_costBy dX10_campaign_45 48 rfl pX10_costBy rfl (by decide) (by decide) (Nat.le_of_ble_eq_true rfl) rfl qX10_192 rfl rfl (by decide) sh33 (kX10_costBy l D a1 (fX10_campaignWord σ a1) σ (by first | assumption | exact isThing_in (by assumption) (by assumption) | exact vin_mono (by assumption) (by decide) | omega | decide) (by first | assumption | exact isThing_in (by assumption) (by assumption) | exact vin_mono (by assumption) (by decide) | omega | decide)) ?_
        exact j_ret_i F dX10_campaign_48 rfl rfl rfl
def fX10_campaignBy (σ : Mm) (a1 : Int32) (a2 : Int32) : Int32 := if (fX10_isThing σ a1) = true then (if (fX10_in (a2.toInt64) 0 1) = true then (if (fX10_has (fX10_shown σ 0) a1) = true then (if (fX10_campaignWord σ a1) = (-9) then ((-9)) else (if a2 = 0 then ((fX10_campaignWord σ a1)) else ((fX10_alikeOf σ a1 (fX10_shown σ 0) (fX10_campaignWord σ a1))))) else ((-3))) else ((-2))) else ((-1))
set_option maxRecDepth 20000 in
theorem kX10_campaignBy (l : Launch) (D : Dm) (a1 : Int32) (a2 : Int32) (σ : Mm) (hM : vp_in (σ.1 34 13) 9) : Ct l yX10_campaignBy cX10_campaignBy 4 (some .int) 7 D [.ref (D.2.1 33), .int a1, .int a2] σ (some (.int (fX10_campaignBy σ a1 a2)), σ) := by
  refine ct_of (by decide +kernel) (Nat.le_of_ble_eq_true rfl) (fun X F => ?_)
  have F : Fx X l 4 D cX10_campaignBy RX10 7 (some .int) := F
  show JJ X 4 D σ 0 [(0, .ref (D.2.1 33)), (1, .int a1), (2, .int a2)] [] (QQ X D (some (.int (fX10_campaignBy σ a1 a2)), σ))
  rw [fX10_campaignBy]
  refine j_aload_n F dX10_campaignBy_0 1 rfl 0 rfl ?_
  refine j_iload_n F dX10_campaignBy_1 2 rfl 1 rfl ?_
  refine j_callVr (as := [.int a1]) (st := []) (r := .int (bi (fX10_isThing σ a1))) (σ9 := σ) F zX10_isThing dX10_campaignBy_2 5 rfl pX10_isThing rfl (by decide) (by decide) (Nat.le_of_ble_eq_true rfl) rfl qX10_128 rfl rfl (by decide) sh33 (kX10_isThing l D a1 σ) ?_
  refine j_ifb_ne F dX10_campaignBy_5 10 (by decide) 8 rfl (fun c_5 => ?_) (fun c_5 => ?_)
  · rw [if_neg c_5]
    refine j_iconst (v := (-1)) F dX10_campaignBy_8 9 rfl (by decide) ?_
    exact j_ret_i F dX10_campaignBy_9 rfl rfl rfl
  · rw [if_pos c_5]
    refine j_iload_n F dX10_campaignBy_10 11 rfl 2 rfl ?_
    refine j_i2l F dX10_campaignBy_11 12 rfl ?_
    refine j_lconst (v := 0) F dX10_campaignBy_12 13 rfl (by decide) ?_
    refine j_lconst (v := 1) F dX10_campaignBy_13 14 rfl (by decide) ?_
    refine j_callSr (as := [.long (a2.toInt64), .long 0, .long 1]) (st := []) (r := .int (bi (fX10_in (a2.toInt64) 0 1))) (σ9 := σ) F zX10_in dX10_campaignBy_14 17 rfl pX10_in rfl (by decide) (by decide) (Nat.le_of_ble_eq_true rfl) rfl qX10_58 (kX10_in l D (a2.toInt64) 0 1 σ) ?_
    refine j_ifb_ne F dX10_campaignBy_17 23 (by decide) 20 rfl (fun c_17 => ?_) (fun c_17 => ?_)
    · rw [if_neg c_17]
      refine j_bipush (v := (-2)) F dX10_campaignBy_20 22 rfl (by decide) ?_
      exact j_ret_i F dX10_campaignBy_22 rfl rfl rfl
    · rw [if_pos c_17]
      refine j_aload_n F dX10_campaignBy_23 24 rfl 0 rfl ?_
      refine j_iconst (v := 0) F dX10_campaignBy_24 25 rfl (by decide) ?_
      refine j_callVr (as := [.int (nI 0)]) (st := []) (r := .int (fX10_shown σ 0)) (σ9 := σ) F zX10_shown dX10_campaignBy_25 28 rfl pX10_shown rfl (by decide) (by decide) (Nat.le_of_ble_eq_true rfl) rfl qX10_122 rfl rfl (by decide) sh33 (kX10_shown l D 0 σ (by decide)) ?_
      refine j_iload_n F dX10_campaignBy_28 29 rfl 1 rfl ?_
      refine j_callSr (as := [.int (fX10_shown σ 0), .int a1]) (st := []) (r := .int (bi (fX10_has (fX10_shown σ 0) a1))) (σ9 := σ) F zX10_has dX10_campaignBy_29 32 rfl pX10_has rfl (by decide) (by decide) (Nat.le_of_ble_eq_true rfl) rfl qX10_108 (kX10_has l D (fX10_shown σ 0) a1 σ) ?_
      refine j_ifb_ne F dX10_campaignBy_32 38 (by decide) 35 rfl (fun c_32 => ?_) (fun c_32 => ?_)
      · rw [if_neg c_32]
        refine j_bipush (v := (-3)) F dX10_campaignBy_35 37 rfl (by decide) ?_
        exact j_ret_i F dX10_campaignBy_37 rfl rfl rfl
      · rw [if_pos c_32]
        refine j_aload_n F dX10_campaignBy_38 39 rfl 0 rfl ?_
        refine j_iload_n F dX10_campaignBy_39 40 rfl 1 rfl ?_
        refine j_callVr (as := [.int a1]) (st := []) (r := .int (fX10_campaignWord σ a1)) (σ9 := σ) F zX10_campaignWord dX10_campaignBy_40 43 rfl pX10_campaignWord rfl (by decide) (by decide) (Nat.le_of_ble_eq_true rfl) rfl qX10_195 rfl rfl (by decide) sh33 (kX10_campaignWord l D a1 σ (by first | assumption | exact isThing_in (by assumption) (by assumption) | exact vin_mono (by assumption) (by decide) | omega | decide) (by first | assumption | exact isThing_in (by assumption) (by assumption) | exact vin_mono (by assumption) (by decide) | omega | decide)) ?_
        refine j_istore_n F dX10_campaignBy_43 44 rfl 3 rfl (by decide) [(3, .int (fX10_campaignWord σ a1)), (0, .ref (D.2.1 33)), (1, .int a1), (2, .int a2)] rfl ?_
        refine j_iload_n F dX10_campaignBy_44 45 rfl 0 rfl ?_
        refine j_bipush (v := (-9)) F dX10_campaignBy_45 47 rfl (by decide) ?_
        refine j_icmp_ne F dX10_campaignBy_47 55 (by decide) 50 rfl (fun c_47 => ?_) (fun c_47 => ?_)
        · rw [if_pos c_47]
          refine j_bipush (v := (-9)) F dX10_campaignBy_50 52 rfl (by decide) ?_
          refine j_goto F dX10_campaignBy_52 74 (by decide) ?_
          exact j_ret_i F dX10_campaignBy_74 rfl rfl rfl
        · rw [if_neg c_47]
          refine j_iload_n F dX10_campaignBy_55 56 rfl 3 rfl ?_
          refine j_if_ne F dX10_campaignBy_56 63 (by decide) 59 rfl (fun c_56 => ?_) (fun c_56 => ?_)
          · rw [if_pos c_56]
            refine j_iload_n F dX10_campaignBy_59 60 rfl 0 rfl ?_
            refine j_goto F dX10_campaignBy_60 74 (by decide) ?_
            exact j_ret_i F dX10_campaignBy_74 rfl rfl rfl
          · rw [if_neg c_56]
            refine j_aload_n F dX10_campaignBy_63 64 rfl 1 rfl ?_
            refine j_iload_n F dX10_campaignBy_64 65 rfl 2 rfl ?_
            refine j_aload_n F dX10_campaignBy_65 66 rfl 1 rfl ?_
            refine j_iconst (v := 0) F dX10_campaignBy_66 67 rfl (by decide) ?_
            refine j_callVr (as := [.int (nI 0)]) (st := [.int a1, .ref (D.2.1 33)]) (r := .int (fX10_shown σ 0)) (σ9 := σ) F zX10_shown dX10_campaignBy_67 70 rfl pX10_shown rfl (by decide) (by decide) (Nat.le_of_ble_eq_true rfl) rfl qX10_122 rfl rfl (by decide) sh33 (kX10_shown l D 0 σ (by decide)) ?_
            refine j_iload_n F dX10_campaignBy_70 71 rfl 0 rfl ?_
            refine j_callVr (as := [.int a1, .int (fX10_shown σ 0), .int (fX10_campaignWord σ a1)]) (st := []) (r := .int (fX10_alikeOf σ a1 (fX10_shown σ 0) (fX10_campaignWord σ a1))) (σ9 := σ) F zX10_alikeOf dX10_campaignBy_71 74 rfl pX10_alikeOf rfl (by decide) (by decide) (Nat.le_of_ble_eq_true rfl) rfl qX10_118 rfl rfl (by decide) sh33 (kX10_alikeOf l D a1 (fX10_shown σ 0) (fX10_campaignWord σ a1) σ (by first | assumption | exact isThing_in (by assumption) (by assumption) | exact vin_mono (by assumption) (by decide) | omega | decide) (by first | assumption | exact isThing_in (by assumption) (by assumption) | exact vin_mono (by assumption) (by decide) | omega | decide)) ?_
            exact j_ret_i F dX10_campaignBy_74 rfl rfl rfl
def fX10_copy_130 (σ : Mm) (a1 : Int32) (kb32 : Int32 → Nat → Int32) (x2_130 : Int32) (k3_130 : Nat) (b4_130 : Bool) : Int32 := if b4_130 = true then (if x2_130 = (-9) then (kb32 (nI k3_130) (k3_130 + 1)) else (if (fX10_ones (nI k3_130)) < (fX10_ones x2_130) then (kb32 (nI k3_130) (k3_130 + 1)) else (kb32 x2_130 (k3_130 + 1)))) else (kb32 x2_130 (k3_130 + 1))
def mX10_copy_62 (σ : Mm) (a1 : Int32)  : Nat := ((σ.1 34 13) : Int32).toNatClampNeg
def fX10_copy_62 (σ : Mm) (a1 : Int32) (kb32 : Int32 → Nat → Int32) : Nat → Int32 → Nat → Bool → Nat → Int32
  | 0, _, _, _, _ => 0
  | n + 1, x2_62, k3_62, b4_62, k5_62 => if (nI k5_62) < (σ.1 34 13) then (if b4_62 = true then (if (nI k5_62) = a1 then (fX10_copy_62 σ a1 kb32 n x2_62 k3_62 true (k5_62 + 1)) else (if (fX10_has (fX10_shown σ 0) (nI k5_62)) = true then (if (fX10_ones ((nI k3_62) &&& (fX10_same σ a1 (nI k5_62)))) < (σ.1 34 11) then (fX10_copy_62 σ a1 kb32 n x2_62 k3_62 true (k5_62 + 1)) else (fX10_copy_62 σ a1 kb32 n x2_62 k3_62 false (k5_62 + 1))) else (fX10_copy_62 σ a1 kb32 n x2_62 k3_62 true (k5_62 + 1)))) else (fX10_copy_130 σ a1 kb32 x2_62 k3_62 b4_62)) else (fX10_copy_130 σ a1 kb32 x2_62 k3_62 b4_62)
def fX10_copy_57 (σ : Mm) (a1 : Int32) (kb32 : Int32 → Nat → Int32) (x2_57 : Int32) (k3_57 : Nat) (bt0_57 : Bool) : Int32 := fX10_copy_62 σ a1 kb32 (mX10_copy_62 σ a1 + 1) x2_57 k3_57 bt0_57 0
def fX10_copy_32 (σ : Mm) (a1 : Int32)  : Nat → Int32 → Nat → Int32
  | 0, _, _ => 0
  | n + 1, x2_32, k3_32 => if (nI k3_32) < 16 then (if (σ.1 34 11) ≤ (fX10_ones (nI k3_32)) then (fX10_copy_57 σ a1 (fX10_copy_32 σ a1 n) x2_32 k3_32 true) else (fX10_copy_57 σ a1 (fX10_copy_32 σ a1 n) x2_32 k3_32 false)) else (x2_32)
def fX10_copy (σ : Mm) (a1 : Int32) : Int32 := if (fX10_isThing σ a1) = true then (if (fX10_has (σ.1 34 10) a1) = true then (fX10_copy_32 σ a1 17 (-9) 0) else ((-3))) else ((-1))
set_option maxRecDepth 20000 in
theorem kX10_copy (l : Launch) (D : Dm) (a1 : Int32) (σ : Mm) (hM : vp_in (σ.1 34 13) 9) : Ct l yX10_copy cX10_copy 6 (some .int) 4 D [.ref (D.2.1 33), .int a1] σ (some (.int (fX10_copy σ a1)), σ) := by
  refine ct_of (by decide +kernel) (Nat.le_of_ble_eq_true rfl) (fun X F => ?_)
  have F : Fx X l 6 D cX10_copy RX10 4 (some .int) := F
  show JJ X 6 D σ 0 [(0, .ref (D.2.1 33)), (1, .int a1)] [] (QQ X D (some (.int (fX10_copy σ a1)), σ))
  rw [fX10_copy]
  have hm := vin_le hM
  refine j_aload_n F dX10_copy_0 1 rfl 0 rfl ?_
  refine j_iload_n F dX10_copy_1 2 rfl 1 rfl ?_
  refine j_callVr (as := [.int a1]) (st := []) (r := .int (bi (fX10_isThing σ a1))) (σ9 := σ) F zX10_isThing dX10_copy_2 5 rfl pX10_isThing rfl (by decide) (by decide) (Nat.le_of_ble_eq_true rfl) rfl qX10_128 rfl rfl (by decide) sh33 (kX10_isThing l D a1 σ) ?_
  refine j_ifb_ne F dX10_copy_5 10 (by decide) 8 rfl (fun c_5 => ?_) (fun c_5 => ?_)
  · rw [if_neg c_5]
    refine j_iconst (v := (-1)) F dX10_copy_8 9 rfl (by decide) ?_
    exact j_ret_i F dX10_copy_9 rfl rfl rfl
  · rw [if_pos c_5]
    refine j_aload_n F dX10_copy_10 11 rfl 0 rfl ?_
    refine j_get (j := 0) F dX10_copy_11 14 rfl inX10 rfl (by decide) sh33 (by decide) qX10_7 rfl ?_
    refine j_bipush (v := 10) F dX10_copy_14 16 rfl (by decide) ?_
    refine j_iald_n F dX10_copy_16 17 rfl ia34 10 rfl (by decide) ?_
    refine j_iload_n F dX10_copy_17 18 rfl 1 rfl ?_
    refine j_callSr (as := [.int (σ.1 34 10), .int a1]) (st := []) (r := .int (bi (fX10_has (σ.1 34 10) a1))) (σ9 := σ) F zX10_has dX10_copy_18 21 rfl pX10_has rfl (by decide) (by decide) (Nat.le_of_ble_eq_true rfl) rfl qX10_108 (kX10_has l D (σ.1 34 10) a1 σ) ?_
    refine j_ifb_ne F dX10_copy_21 27 (by decide) 24 rfl (fun c_21 => ?_) (fun c_21 => ?_)
    · rw [if_neg c_21]
      refine j_bipush (v := (-3)) F dX10_copy_24 26 rfl (by decide) ?_
      exact j_ret_i F dX10_copy_26 rfl rfl rfl
    · rw [if_pos c_21]
      refine j_bipush (v := (-9)) F dX10_copy_27 29 rfl (by decide) ?_
      refine j_istore_n F dX10_copy_29 30 rfl 2 rfl (by decide) [(2, .int (-9)), (0, .ref (D.2.1 33)), (1, .int a1)] rfl ?_
      refine j_iconst (v := 0) F dX10_copy_30 31 rfl (by decide) ?_
      refine j_istore_n F dX10_copy_31 32 rfl 3 rfl (by decide) [(3, .int 0), (2, .int (-9)), (0, .ref (D.2.1 33)), (1, .int a1)] rfl ?_
      have lp_32 : ∀ (n_32 : Nat) (x2_32 : Int32) (k3_32 : Nat), k3_32 ≤ 16 → 16 < k3_32 + n_32 → JJ X 6 D σ 32 [(0, .ref (D.2.1 33)), (1, .int a1), (2, .int x2_32), (3, .int (nI k3_32))] [] (QQ X D (some (.int (fX10_copy_32 σ a1 n_32 x2_32 k3_32)), σ)) := by
        intro n_32
        induction n_32 with
        | zero => intro x2_32 k3_32 hk_32 hn_32; exact absurd hn_32 (by omega)
        | succ n_32 ih_32 =>
          intro x2_32 k3_32 hk_32 hn_32
          rw [fX10_copy_32]
          refine j_iload_n F dX10_copy_32 33 rfl 3 rfl ?_
          refine j_bipush (v := 16) F dX10_copy_33 35 rfl (by decide) ?_
          refine j_icmp_ge F dX10_copy_35 164 (by decide) 38 rfl (fun c_35 => ?_) (fun c_35 => ?_)
          · rw [if_pos c_35]
            have h_35 : k3_32 < 16 := nlt c_35 (by decide) (by omega)
            refine j_iload_n F dX10_copy_38 39 rfl 3 rfl ?_
            refine j_callSr (as := [.int (nI k3_32)]) (st := []) (r := .int (fX10_ones (nI k3_32))) (σ9 := σ) F zX10_ones dX10_copy_39 42 rfl pX10_ones rfl (by decide) (by decide) (Nat.le_of_ble_eq_true rfl) rfl qX10_115 (kX10_ones l D (nI k3_32) σ) ?_
            refine j_aload_n F dX10_copy_42 43 rfl 0 rfl ?_
            refine j_get (j := 0) F dX10_copy_43 46 rfl inX10 rfl (by decide) sh33 (by decide) qX10_7 rfl ?_
            refine j_bipush (v := 11) F dX10_copy_46 48 rfl (by decide) ?_
            refine j_iald_n F dX10_copy_48 49 rfl ia34 11 rfl (by decide) ?_
            have jn_57 : ∀ (bt0_57 : Bool), JJ X 6 D σ 57 [(0, .ref (D.2.1 33)), (1, .int a1), (2, .int x2_32), (3, .int (nI k3_32))] [.int (bi bt0_57)] (QQ X D (some (.int (fX10_copy_57 σ a1 (fX10_copy_32 σ a1 n_32) x2_32 k3_32 bt0_57)), σ)) := by
              intro bt0_57
              rw [fX10_copy_57]
              refine j_istore F dX10_copy_57 59 rfl (by decide) [(4, .int (bi bt0_57)), (0, .ref (D.2.1 33)), (1, .int a1), (2, .int x2_32), (3, .int (nI k3_32))] rfl ?_
              refine j_iconst (v := 0) F dX10_copy_59 60 rfl (by decide) ?_
              refine j_istore F dX10_copy_60 62 rfl (by decide) [(5, .int 0), (4, .int (bi bt0_57)), (0, .ref (D.2.1 33)), (1, .int a1), (2, .int x2_32), (3, .int (nI k3_32))] rfl ?_
              have hx_130 : ∀ (b4_130 : Bool), JJ X 6 D σ 130 [(0, .ref (D.2.1 33)), (1, .int a1), (2, .int x2_32), (3, .int (nI k3_32)), (4, .int (bi b4_130))] [] (QQ X D (some (.int (fX10_copy_130 σ a1 (fX10_copy_32 σ a1 n_32) x2_32 k3_32 b4_130)), σ)) := by
                intro b4_130
                rw [fX10_copy_130]
                refine j_iload F dX10_copy_130 132 rfl 4 rfl ?_
                refine j_ifb_eq F dX10_copy_132 156 (by decide) 135 rfl (fun c_132 => ?_) (fun c_132 => ?_)
                · rw [if_pos c_132]
                  refine j_iload_n F dX10_copy_135 136 rfl 2 rfl ?_
                  refine j_bipush (v := (-9)) F dX10_copy_136 138 rfl (by decide) ?_
                  refine j_icmp_eq F dX10_copy_138 152 (by decide) 141 rfl (fun c_138 => ?_) (fun c_138 => ?_)
                  · rw [if_neg c_138]
                    refine j_iload_n F dX10_copy_141 142 rfl 3 rfl ?_
                    refine j_callSr (as := [.int (nI k3_32)]) (st := []) (r := .int (fX10_ones (nI k3_32))) (σ9 := σ) F zX10_ones dX10_copy_142 145 rfl pX10_ones rfl (by decide) (by decide) (Nat.le_of_ble_eq_true rfl) rfl qX10_115 (kX10_ones l D (nI k3_32) σ) ?_
                    refine j_iload_n F dX10_copy_145 146 rfl 2 rfl ?_
                    refine j_callSr (as := [.int x2_32]) (st := [.int (fX10_ones (nI k3_32))]) (r := .int (fX10_ones x2_32)) (σ9 := σ) F zX10_ones dX10_copy_146 149 rfl pX10_ones rfl (by decide) (by decide) (Nat.le_of_ble_eq_true rfl) rfl qX10_115 (kX10_ones l D x2_32 σ) ?_
                    refine j_icmp_ge F dX10_copy_149 156 (by decide) 152 rfl (fun c_149 => ?_) (fun c_149 => ?_)
                    · rw [if_pos c_149]
                      refine j_iload_n F dX10_copy_152 153 rfl 3 rfl ?_
                      refine j_goto F dX10_copy_153 157 (by decide) ?_
                      refine j_istore_n F dX10_copy_157 158 rfl 2 rfl (by decide) [(2, .int (nI k3_32)), (0, .ref (D.2.1 33)), (1, .int a1), (3, .int (nI k3_32)), (4, .int (bi b4_130))] rfl ?_
                      refine j_iinc F dX10_copy_158 161 rfl 3 rfl (nI (k3_32 + 1)) (nI_inc k3_32) (by decide) [(3, .int (nI (k3_32 + 1))), (2, .int (nI k3_32)), (0, .ref (D.2.1 33)), (1, .int a1), (4, .int (bi b4_130))] rfl ?_
                      refine j_goto F dX10_copy_161 32 (by decide) ?_
                      refine j_pick [2, 3, 1, 0] [(0, .ref (D.2.1 33)), (1, .int a1), (2, .int (nI k3_32)), (3, .int (nI (k3_32 + 1)))] rfl ?_
                      exact ih_32 (nI k3_32) (k3_32 + 1) (by omega) (by omega)
                    · rw [if_neg c_149]
                      refine j_iload_n F dX10_copy_156 157 rfl 2 rfl ?_
                      refine j_istore_n F dX10_copy_157 158 rfl 2 rfl (by decide) [(2, .int x2_32), (0, .ref (D.2.1 33)), (1, .int a1), (3, .int (nI k3_32)), (4, .int (bi b4_130))] rfl ?_
                      refine j_iinc F dX10_copy_158 161 rfl 3 rfl (nI (k3_32 + 1)) (nI_inc k3_32) (by decide) [(3, .int (nI (k3_32 + 1))), (2, .int x2_32), (0, .ref (D.2.1 33)), (1, .int a1), (4, .int (bi b4_130))] rfl ?_
                      refine j_goto F dX10_copy_161 32 (by decide) ?_
                      refine j_pick [2, 3, 1, 0] [(0, .ref (D.2.1 33)), (1, .int a1), (2, .int x2_32), (3, .int (nI (k3_32 + 1)))] rfl ?_
                      exact ih_32 x2_32 (k3_32 + 1) (by omega) (by omega)
                  · rw [if_pos c_138]
                    refine j_iload_n F dX10_copy_152 153 rfl 3 rfl ?_
                    refine j_goto F dX10_copy_153 157 (by decide) ?_
                    refine j_istore_n F dX10_copy_157 158 rfl 2 rfl (by decide) [(2, .int (nI k3_32)), (0, .ref (D.2.1 33)), (1, .int a1), (3, .int (nI k3_32)), (4, .int (bi b4_130))] rfl ?_
                    refine j_iinc F dX10_copy_158 161 rfl 3 rfl (nI (k3_32 + 1)) (nI_inc k3_32) (by decide) [(3, .int (nI (k3_32 + 1))), (2, .int (nI k3_32)), (0, .ref (D.2.1 33)), (1, .int a1), (4, .int (bi b4_130))] rfl ?_
                    refine j_goto F dX10_copy_161 32 (by decide) ?_
                    refine j_pick [2, 3, 1, 0] [(0, .ref (D.2.1 33)), (1, .int a1), (2, .int (nI k3_32)), (3, .int (nI (k3_32 + 1)))] rfl ?_
                    exact ih_32 (nI k3_32) (k3_32 + 1) (by omega) (by omega)
                · rw [if_neg c_132]
                  refine j_iload_n F dX10_copy_156 157 rfl 2 rfl ?_
                  refine j_istore_n F dX10_copy_157 158 rfl 2 rfl (by decide) [(2, .int x2_32), (0, .ref (D.2.1 33)), (1, .int a1), (3, .int (nI k3_32)), (4, .int (bi b4_130))] rfl ?_
                  refine j_iinc F dX10_copy_158 161 rfl 3 rfl (nI (k3_32 + 1)) (nI_inc k3_32) (by decide) [(3, .int (nI (k3_32 + 1))), (2, .int x2_32), (0, .ref (D.2.1 33)), (1, .int a1), (4, .int (bi b4_130))] rfl ?_
                  refine j_goto F dX10_copy_161 32 (by decide) ?_
                  refine j_pick [2, 3, 1, 0] [(0, .ref (D.2.1 33)), (1, .int a1), (2, .int x2_32), (3, .int (nI (k3_32 + 1)))] rfl ?_
                  exact ih_32 x2_32 (k3_32 + 1) (by omega) (by omega)
              have lp_62 : ∀ (n_62 : Nat) (b4_62 : Bool) (k5_62 : Nat), k5_62 ≤ (((σ.1 34 13) : Int32).toNatClampNeg) → (((σ.1 34 13) : Int32).toNatClampNeg) < k5_62 + n_62 → JJ X 6 D σ 62 [(0, .ref (D.2.1 33)), (1, .int a1), (2, .int x2_32), (3, .int (nI k3_32)), (4, .int (bi b4_62)), (5, .int (nI k5_62))] [] (QQ X D (some (.int (fX10_copy_62 σ a1 (fX10_copy_32 σ a1 n_32) n_62 x2_32 k3_32 b4_62 k5_62)), σ)) := by
                intro n_62
                induction n_62 with
                | zero => intro b4_62 k5_62 hk_62 hn_62; exact absurd hn_62 (by omega)
                | succ n_62 ih_62 =>
                  intro b4_62 k5_62 hk_62 hn_62
                  rw [fX10_copy_62]
                  refine j_iload F dX10_copy_62 64 rfl 5 rfl ?_
                  refine j_aload_n F dX10_copy_64 65 rfl 0 rfl ?_
                  refine j_callVr (as := []) (st := [.int (nI k5_62)]) (r := .int (σ.1 34 13)) (σ9 := σ) F zX10_many dX10_copy_65 68 rfl pX10_many rfl (by decide) (by decide) (Nat.le_of_ble_eq_true rfl) rfl qX10_105 rfl rfl (by decide) sh33 (kX10_many l D σ) ?_
                  refine j_icmp_ge F dX10_copy_68 130 (by decide) 71 rfl (fun c_68 => ?_) (fun c_68 => ?_)
                  · rw [if_pos c_68]
                    have h_68 : k5_62 < (((σ.1 34 13) : Int32).toNatClampNeg) := nltd c_68 hk_62
                    refine j_iload F dX10_copy_71 73 rfl 4 rfl ?_
                    refine j_ifb_eq F dX10_copy_73 130 (by decide) 76 rfl (fun c_73 => ?_) (fun c_73 => ?_)
                    · rw [if_pos c_73]
                      refine j_iload F dX10_copy_76 78 rfl 5 rfl ?_
                      refine j_iload_n F dX10_copy_78 79 rfl 1 rfl ?_
                      refine j_icmp_eq F dX10_copy_79 117 (by decide) 82 rfl (fun c_79 => ?_) (fun c_79 => ?_)
                      · rw [if_neg c_79]
                        refine j_aload_n F dX10_copy_82 83 rfl 0 rfl ?_
                        refine j_iconst (v := 0) F dX10_copy_83 84 rfl (by decide) ?_
                        refine j_callVr (as := [.int (nI 0)]) (st := []) (r := .int (fX10_shown σ 0)) (σ9 := σ) F zX10_shown dX10_copy_84 87 rfl pX10_shown rfl (by decide) (by decide) (Nat.le_of_ble_eq_true rfl) rfl qX10_122 rfl rfl (by decide) sh33 (kX10_shown l D 0 σ (by decide)) ?_
                        refine j_iload F dX10_copy_87 89 rfl 5 rfl ?_
                        refine j_callSr (as := [.int (fX10_shown σ 0), .int (nI k5_62)]) (st := []) (r := .int (bi (fX10_has (fX10_shown σ 0) (nI k5_62)))) (σ9 := σ) F zX10_has dX10_copy_89 92 rfl pX10_has rfl (by decide) (by decide) (Nat.le_of_ble_eq_true rfl) rfl qX10_108 (kX10_has l D (fX10_shown σ 0) (nI k5_62) σ) ?_
                        refine j_ifb_eq F dX10_copy_92 117 (by decide) 95 rfl (fun c_92 => ?_) (fun c_92 => ?_)
                        · rw [if_pos c_92]
                          refine j_iload_n F dX10_copy_95 96 rfl 3 rfl ?_
                          refine j_aload_n F dX10_copy_96 97 rfl 0 rfl ?_
                          refine j_iload_n F dX10_copy_97 98 rfl 1 rfl ?_
                          refine j_iload F dX10_copy_98 100 rfl 5 rfl ?_
                          refine j_callVr (as := [.int a1, .int (nI k5_62)]) (st := [.int (nI k3_32)]) (r := .int (fX10_same σ a1 (nI k5_62))) (σ9 := σ) F zX10_same dX10_copy_100 103 rfl pX10_same rfl (by decide) (by decide) (Nat.le_of_ble_eq_true rfl) rfl qX10_112 rfl rfl (by decide) sh33 (kX10_same l D a1 (nI k5_62) σ (by first | assumption | exact isThing_in (by assumption) (by assumption) | exact vin_mono (by assumption) (by decide) | omega | decide) (vp_in_nI (n := k5_62) (by omega) (by decide))) ?_
                          refine j_iand F dX10_copy_103 104 rfl ?_
                          refine j_callSr (as := [.int ((nI k3_32) &&& (fX10_same σ a1 (nI k5_62)))]) (st := []) (r := .int (fX10_ones ((nI k3_32) &&& (fX10_same σ a1 (nI k5_62))))) (σ9 := σ) F zX10_ones dX10_copy_104 107 rfl pX10_ones rfl (by decide) (by decide) (Nat.le_of_ble_eq_true rfl) rfl qX10_115 (kX10_ones l D ((nI k3_32) &&& (fX10_same σ a1 (nI k5_62))) σ) ?_
                          refine j_aload_n F dX10_copy_107 108 rfl 0 rfl ?_
                          refine j_get (j := 0) F dX10_copy_108 111 rfl inX10 rfl (by decide) sh33 (by decide) qX10_7 rfl ?_
                          refine j_bipush (v := 11) F dX10_copy_111 113 rfl (by decide) ?_
                          refine j_iald_n F dX10_copy_113 114 rfl ia34 11 rfl (by decide) ?_
                          refine j_icmp_ge F dX10_copy_114 121 (by decide) 117 rfl (fun c_114 => ?_) (fun c_114 => ?_)
                          · rw [if_pos c_114]
                            refine j_iconst (v := 1) F dX10_copy_117 118 rfl (by decide) ?_
                            refine j_goto F dX10_copy_118 122 (by decide) ?_
                            refine j_istore F dX10_copy_122 124 rfl (by decide) [(4, .int 1), (0, .ref (D.2.1 33)), (1, .int a1), (2, .int x2_32), (3, .int (nI k3_32)), (5, .int (nI k5_62))] rfl ?_
                            refine j_iinc F dX10_copy_124 127 rfl 5 rfl (nI (k5_62 + 1)) (nI_inc k5_62) (by decide) [(5, .int (nI (k5_62 + 1))), (4, .int 1), (0, .ref (D.2.1 33)), (1, .int a1), (2, .int x2_32), (3, .int (nI k3_32))] rfl ?_
                            refine j_goto F dX10_copy_127 62 (by decide) ?_
                            refine j_pick [2, 3, 4, 5, 1, 0] [(0, .ref (D.2.1 33)), (1, .int a1), (2, .int x2_32), (3, .int (nI k3_32)), (4, .int 1), (5, .int (nI (k5_62 + 1)))] rfl ?_
                            exact ih_62 true (k5_62 + 1) (by omega) (by omega)
                          · rw [if_neg c_114]
                            refine j_iconst (v := 0) F dX10_copy_121 122 rfl (by decide) ?_
                            refine j_istore F dX10_copy_122 124 rfl (by decide) [(4, .int 0), (0, .ref (D.2.1 33)), (1, .int a1), (2, .int x2_32), (3, .int (nI k3_32)), (5, .int (nI k5_62))] rfl ?_
                            refine j_iinc F dX10_copy_124 127 rfl 5 rfl (nI (k5_62 + 1)) (nI_inc k5_62) (by decide) [(5, .int (nI (k5_62 + 1))), (4, .int 0), (0, .ref (D.2.1 33)), (1, .int a1), (2, .int x2_32), (3, .int (nI k3_32))] rfl ?_
                            refine j_goto F dX10_copy_127 62 (by decide) ?_
                            refine j_pick [2, 3, 4, 5, 1, 0] [(0, .ref (D.2.1 33)), (1, .int a1), (2, .int x2_32), (3, .int (nI k3_32)), (4, .int 0), (5, .int (nI (k5_62 + 1)))] rfl ?_
                            exact ih_62 false (k5_62 + 1) (by omega) (by omega)
                        · rw [if_neg c_92]
                          refine j_iconst (v := 1) F dX10_copy_117 118 rfl (by decide) ?_
                          refine j_goto F dX10_copy_118 122 (by decide) ?_
                          refine j_istore F dX10_copy_122 124 rfl (by decide) [(4, .int 1), (0, .ref (D.2.1 33)), (1, .int a1), (2, .int x2_32), (3, .int (nI k3_32)), (5, .int (nI k5_62))] rfl ?_
                          refine j_iinc F dX10_copy_124 127 rfl 5 rfl (nI (k5_62 + 1)) (nI_inc k5_62) (by decide) [(5, .int (nI (k5_62 + 1))), (4, .int 1), (0, .ref (D.2.1 33)), (1, .int a1), (2, .int x2_32), (3, .int (nI k3_32))] rfl ?_
                          refine j_goto F dX10_copy_127 62 (by decide) ?_
                          refine j_pick [2, 3, 4, 5, 1, 0] [(0, .ref (D.2.1 33)), (1, .int a1), (2, .int x2_32), (3, .int (nI k3_32)), (4, .int 1), (5, .int (nI (k5_62 + 1)))] rfl ?_
                          exact ih_62 true (k5_62 + 1) (by omega) (by omega)
                      · rw [if_pos c_79]
                        refine j_iconst (v := 1) F dX10_copy_117 118 rfl (by decide) ?_
                        refine j_goto F dX10_copy_118 122 (by decide) ?_
                        refine j_istore F dX10_copy_122 124 rfl (by decide) [(4, .int 1), (0, .ref (D.2.1 33)), (1, .int a1), (2, .int x2_32), (3, .int (nI k3_32)), (5, .int (nI k5_62))] rfl ?_
                        refine j_iinc F dX10_copy_124 127 rfl 5 rfl (nI (k5_62 + 1)) (nI_inc k5_62) (by decide) [(5, .int (nI (k5_62 + 1))), (4, .int 1), (0, .ref (D.2.1 33)), (1, .int a1), (2, .int x2_32), (3, .int (nI k3_32))] rfl ?_
                        refine j_goto F dX10_copy_127 62 (by decide) ?_
                        refine j_pick [2, 3, 4, 5, 1, 0] [(0, .ref (D.2.1 33)), (1, .int a1), (2, .int x2_32), (3, .int (nI k3_32)), (4, .int 1), (5, .int (nI (k5_62 + 1)))] rfl ?_
                        exact ih_62 true (k5_62 + 1) (by omega) (by omega)
                    · rw [if_neg c_73]
                      refine j_pick [0, 1, 2, 3, 4] [(0, .ref (D.2.1 33)), (1, .int a1), (2, .int x2_32), (3, .int (nI k3_32)), (4, .int (bi b4_62))] rfl ?_
                      exact hx_130 b4_62
                  · rw [if_neg c_68]
                    refine j_pick [0, 1, 2, 3, 4] [(0, .ref (D.2.1 33)), (1, .int a1), (2, .int x2_32), (3, .int (nI k3_32)), (4, .int (bi b4_62))] rfl ?_
                    exact hx_130 b4_62
              refine j_pick [2, 3, 4, 5, 1, 0] [(0, .ref (D.2.1 33)), (1, .int a1), (2, .int x2_32), (3, .int (nI k3_32)), (4, .int (bi bt0_57)), (5, .int 0)] rfl ?_
              exact lp_62 (mX10_copy_62 σ a1 + 1) bt0_57 0 (Nat.zero_le _) (by show (((σ.1 34 13) : Int32).toNatClampNeg) < 0 + ((((σ.1 34 13) : Int32).toNatClampNeg) + 1); omega)
            refine j_icmp_lt F dX10_copy_49 56 (by decide) 52 rfl (fun c_49 => ?_) (fun c_49 => ?_)
            · rw [if_pos c_49]
              refine j_iconst (v := 1) F dX10_copy_52 53 rfl (by decide) ?_
              refine j_goto F dX10_copy_53 57 (by decide) ?_
              exact jn_57 true
            · rw [if_neg c_49]
              refine j_iconst (v := 0) F dX10_copy_56 57 rfl (by decide) ?_
              exact jn_57 false
          · rw [if_neg c_35]
            refine j_iload_n F dX10_copy_164 165 rfl 2 rfl ?_
            exact j_ret_i F dX10_copy_165 rfl rfl rfl
      refine j_pick [2, 3, 1, 0] [(0, .ref (D.2.1 33)), (1, .int a1), (2, .int (-9)), (3, .int 0)] rfl ?_
      exact lp_32 17 (-9) 0 (by omega) (by omega)
def mX10_has3_68 (σ : Mm) (a1 : Int32) (a2 : Int32) (a3 : Int32) (a4 : Int32)  : Nat := ((σ.1 34 13) : Int32).toNatClampNeg
def fX10_has3_68 (σ : Mm) (a1 : Int32) (a2 : Int32) (a3 : Int32) (a4 : Int32)  : Nat → Int32 → Int32 → Nat → Int32
  | 0, _, _, _ => 0
  | n + 1, x5_68, x7_68, k8_68 => if (nI k8_68) < (σ.1 34 13) then (if (fX10_ownerOf σ (nI k8_68)) = a1 then (fX10_has3_68 σ a1 a2 a3 a4 n x5_68 (x7_68 + (fX10_priceBy σ (nI k8_68) x5_68)) (k8_68 + 1)) else (fX10_has3_68 σ a1 a2 a3 a4 n x5_68 (x7_68 + 0) (k8_68 + 1))) else (x7_68)
def fX10_has3_63 (σ : Mm) (a1 : Int32) (a2 : Int32) (a3 : Int32) (a4 : Int32)  (x5_63 : Int32) (xt0_63 : Int32) : Int32 := fX10_has3_68 σ a1 a2 a3 a4 (mX10_has3_68 σ a1 a2 a3 a4 + 1) x5_63 xt0_63 0
def fX10_has3_43 (σ : Mm) (a1 : Int32) (a2 : Int32) (a3 : Int32) (a4 : Int32)  (x5_43 : Int32) (xt0_43 : Int32) : Int32 := if xt0_43 = 0 then (fX10_has3_63 σ a1 a2 a3 a4 x5_43 0) else (fX10_has3_63 σ a1 a2 a3 a4 x5_43 (-(fX10_costOf σ (xt0_43 - 1))))
def fX10_has3 (σ : Mm) (a1 : Int32) (a2 : Int32) (a3 : Int32) (a4 : Int32) : Int32 := if a1 = 0 then (fX10_has3_43 σ a1 a2 a3 a4 ((fX10_shown σ 0) &&& (((((1 <<< (a2 &&& 31)) ||| (1 <<< (a3 &&& 31))) ||| (1 <<< (a4 &&& 31))) >>> (1 &&& 31)) ^^^ (-1))) a2) else (if a1 = 1 then (fX10_has3_43 σ a1 a2 a3 a4 ((fX10_shown σ 0) &&& (((((1 <<< (a2 &&& 31)) ||| (1 <<< (a3 &&& 31))) ||| (1 <<< (a4 &&& 31))) >>> (1 &&& 31)) ^^^ (-1))) a3) else (fX10_has3_43 σ a1 a2 a3 a4 ((fX10_shown σ 0) &&& (((((1 <<< (a2 &&& 31)) ||| (1 <<< (a3 &&& 31))) ||| (1 <<< (a4 &&& 31))) >>> (1 &&& 31)) ^^^ (-1))) a4))
set_option maxRecDepth 20000 in
theorem kX10_has3 (l : Launch) (D : Dm) (a1 : Int32) (a2 : Int32) (a3 : Int32) (a4 : Int32) (σ : Mm) (hv2 : vp_in a2 9) (hv3 : vp_in a3 9) (hv4 : vp_in a4 9) (hM : vp_in (σ.1 34 13) 9) : Ct l yX10_has3 cX10_has3 9 (some .int) 6 D [.ref (D.2.1 33), .int a1, .int a2, .int a3, .int a4] σ (some (.int (fX10_has3 σ a1 a2 a3 a4)), σ) := by
  refine ct_of (by decide +kernel) (Nat.le_of_ble_eq_true rfl) (fun X F => ?_)
  have F : Fx X l 9 D cX10_has3 RX10 6 (some .int) := F
  show JJ X 9 D σ 0 [(0, .ref (D.2.1 33)), (1, .int a1), (2, .int a2), (3, .int a3), (4, .int a4)] [] (QQ X D (some (.int (fX10_has3 σ a1 a2 a3 a4)), σ))
  rw [fX10_has3]
  have hm := vin_le hM
  refine j_aload_n F dX10_has3_0 1 rfl 0 rfl ?_
  refine j_iconst (v := 0) F dX10_has3_1 2 rfl (by decide) ?_
  refine j_callVr (as := [.int (nI 0)]) (st := []) (r := .int (fX10_shown σ 0)) (σ9 := σ) F zX10_shown dX10_has3_2 5 rfl pX10_shown rfl (by decide) (by decide) (Nat.le_of_ble_eq_true rfl) rfl qX10_122 rfl rfl (by decide) sh33 (kX10_shown l D 0 σ (by decide)) ?_
  refine j_iconst (v := 1) F dX10_has3_5 6 rfl (by decide) ?_
  refine j_iload_n F dX10_has3_6 7 rfl 2 rfl ?_
  refine j_ishl F dX10_has3_7 8 rfl ?_
  refine j_iconst (v := 1) F dX10_has3_8 9 rfl (by decide) ?_
  refine j_iload_n F dX10_has3_9 10 rfl 3 rfl ?_
  refine j_ishl F dX10_has3_10 11 rfl ?_
  refine j_ior F dX10_has3_11 12 rfl ?_
  refine j_iconst (v := 1) F dX10_has3_12 13 rfl (by decide) ?_
  refine j_iload F dX10_has3_13 15 rfl 4 rfl ?_
  refine j_ishl F dX10_has3_15 16 rfl ?_
  refine j_ior F dX10_has3_16 17 rfl ?_
  refine j_iconst (v := 1) F dX10_has3_17 18 rfl (by decide) ?_
  refine j_ishr F dX10_has3_18 19 rfl ?_
  refine j_iconst (v := (-1)) F dX10_has3_19 20 rfl (by decide) ?_
  refine j_ixor F dX10_has3_20 21 rfl ?_
  refine j_iand F dX10_has3_21 22 rfl ?_
  refine j_istore F dX10_has3_22 24 rfl (by decide) [(5, .int ((fX10_shown σ 0) &&& (((((1 <<< (a2 &&& 31)) ||| (1 <<< (a3 &&& 31))) ||| (1 <<< (a4 &&& 31))) >>> (1 &&& 31)) ^^^ (-1)))), (0, .ref (D.2.1 33)), (1, .int a1), (2, .int a2), (3, .int a3), (4, .int a4)] rfl ?_
  refine j_iload_n F dX10_has3_24 25 rfl 2 rfl ?_
  have jn_43 : ∀ (xt0_43 : Int32), vp_in xt0_43 9 → JJ X 9 D σ 43 [(0, .ref (D.2.1 33)), (1, .int a1), (5, .int ((fX10_shown σ 0) &&& (((((1 <<< (a2 &&& 31)) ||| (1 <<< (a3 &&& 31))) ||| (1 <<< (a4 &&& 31))) >>> (1 &&& 31)) ^^^ (-1))))] [.int xt0_43] (QQ X D (some (.int (fX10_has3_43 σ a1 a2 a3 a4 ((fX10_shown σ 0) &&& (((((1 <<< (a2 &&& 31)) ||| (1 <<< (a3 &&& 31))) ||| (1 <<< (a4 &&& 31))) >>> (1 &&& 31)) ^^^ (-1))) xt0_43)), σ)) := by
    intro xt0_43 hn_43
    rw [fX10_has3_43]
    refine j_istore F dX10_has3_43 45 rfl (by decide) [(6, .int xt0_43), (0, .ref (D.2.1 33)), (1, .int a1), (5, .int ((fX10_shown σ 0) &&& (((((1 <<< (a2 &&& 31)) ||| (1 <<< (a3 &&& 31))) ||| (1 <<< (a4 &&& 31))) >>> (1 &&& 31)) ^^^ (-1))))] rfl ?_
    refine j_iload F dX10_has3_45 47 rfl 0 rfl ?_
    have jn_63 : ∀ (xt0_63 : Int32), JJ X 9 D σ 63 [(0, .ref (D.2.1 33)), (1, .int a1), (5, .int ((fX10_shown σ 0) &&& (((((1 <<< (a2 &&& 31)) ||| (1 <<< (a3 &&& 31))) ||| (1 <<< (a4 &&& 31))) >>> (1 &&& 31)) ^^^ (-1))))] [.int xt0_63] (QQ X D (some (.int (fX10_has3_63 σ a1 a2 a3 a4 ((fX10_shown σ 0) &&& (((((1 <<< (a2 &&& 31)) ||| (1 <<< (a3 &&& 31))) ||| (1 <<< (a4 &&& 31))) >>> (1 &&& 31)) ^^^ (-1))) xt0_63)), σ)) := by
      intro xt0_63
      rw [fX10_has3_63]
      refine j_istore F dX10_has3_63 65 rfl (by decide) [(7, .int xt0_63), (0, .ref (D.2.1 33)), (1, .int a1), (5, .int ((fX10_shown σ 0) &&& (((((1 <<< (a2 &&& 31)) ||| (1 <<< (a3 &&& 31))) ||| (1 <<< (a4 &&& 31))) >>> (1 &&& 31)) ^^^ (-1))))] rfl ?_
      refine j_iconst (v := 0) F dX10_has3_65 66 rfl (by decide) ?_
      refine j_istore F dX10_has3_66 68 rfl (by decide) [(8, .int 0), (7, .int xt0_63), (0, .ref (D.2.1 33)), (1, .int a1), (5, .int ((fX10_shown σ 0) &&& (((((1 <<< (a2 &&& 31)) ||| (1 <<< (a3 &&& 31))) ||| (1 <<< (a4 &&& 31))) >>> (1 &&& 31)) ^^^ (-1))))] rfl ?_
      have lp_68 : ∀ (n_68 : Nat) (x7_68 : Int32) (k8_68 : Nat), k8_68 ≤ (((σ.1 34 13) : Int32).toNatClampNeg) → (((σ.1 34 13) : Int32).toNatClampNeg) < k8_68 + n_68 → JJ X 9 D σ 68 [(0, .ref (D.2.1 33)), (1, .int a1), (5, .int ((fX10_shown σ 0) &&& (((((1 <<< (a2 &&& 31)) ||| (1 <<< (a3 &&& 31))) ||| (1 <<< (a4 &&& 31))) >>> (1 &&& 31)) ^^^ (-1)))), (7, .int x7_68), (8, .int (nI k8_68))] [] (QQ X D (some (.int (fX10_has3_68 σ a1 a2 a3 a4 n_68 ((fX10_shown σ 0) &&& (((((1 <<< (a2 &&& 31)) ||| (1 <<< (a3 &&& 31))) ||| (1 <<< (a4 &&& 31))) >>> (1 &&& 31)) ^^^ (-1))) x7_68 k8_68)), σ)) := by
        intro n_68
        induction n_68 with
        | zero => intro x7_68 k8_68 hk_68 hn_68; exact absurd hn_68 (by omega)
        | succ n_68 ih_68 =>
          intro x7_68 k8_68 hk_68 hn_68
          rw [fX10_has3_68]
          refine j_iload F dX10_has3_68 70 rfl 4 rfl ?_
          refine j_aload_n F dX10_has3_70 71 rfl 0 rfl ?_
          refine j_callVr (as := []) (st := [.int (nI k8_68)]) (r := .int (σ.1 34 13)) (σ9 := σ) F zX10_many dX10_has3_71 74 rfl pX10_many rfl (by decide) (by decide) (Nat.le_of_ble_eq_true rfl) rfl qX10_105 rfl rfl (by decide) sh33 (kX10_many l D σ) ?_
          refine j_icmp_ge F dX10_has3_74 110 (by decide) 77 rfl (fun c_74 => ?_) (fun c_74 => ?_)
          · rw [if_pos c_74]
            have h_74 : k8_68 < (((σ.1 34 13) : Int32).toNatClampNeg) := nltd c_74 hk_68
            refine j_iload F dX10_has3_77 79 rfl 3 rfl ?_
            refine j_aload_n F dX10_has3_79 80 rfl 0 rfl ?_
            refine j_iload F dX10_has3_80 82 rfl 4 rfl ?_
            refine j_callVr (as := [.int (nI k8_68)]) (st := [.int x7_68]) (r := .int (fX10_ownerOf σ (nI k8_68))) (σ9 := σ) F zX10_ownerOf dX10_has3_82 85 rfl pX10_ownerOf rfl (by decide) (by decide) (Nat.le_of_ble_eq_true rfl) rfl qX10_131 rfl rfl (by decide) sh33 (kX10_ownerOf l D (nI k8_68) σ (vp_in_nI (n := k8_68) (by omega) (by decide))) ?_
            refine j_iload_n F dX10_has3_85 86 rfl 1 rfl ?_
            refine j_icmp_ne F dX10_has3_86 100 (by decide) 89 rfl (fun c_86 => ?_) (fun c_86 => ?_)
            · rw [if_pos c_86]
              refine j_aload_n F dX10_has3_89 90 rfl 0 rfl ?_
              refine j_iload F dX10_has3_90 92 rfl 4 rfl ?_
              refine j_iload F dX10_has3_92 94 rfl 2 rfl ?_
              refine j_callVr (as := [.int (nI k8_68), .int ((fX10_shown σ 0) &&& (((((1 <<< (a2 &&& 31)) ||| (1 <<< (a3 &&& 31))) ||| (1 <<< (a4 &&& 31))) >>> (1 &&& 31)) ^^^ (-1)))]) (st := [.int x7_68]) (r := .int (fX10_priceBy σ (nI k8_68) ((fX10_shown σ 0) &&& (((((1 <<< (a2 &&& 31)) ||| (1 <<< (a3 &&& 31))) ||| (1 <<< (a4 &&& 31))) >>> (1 &&& 31)) ^^^ (-1))))) (σ9 := σ) F zX10_priceBy dX10_has3_94 97 rfl pX10_priceBy rfl (by decide) (by decide) (Nat.le_of_ble_eq_true rfl) rfl qX10_146 rfl rfl (by decide) sh33 (kX10_priceBy l D (nI k8_68) ((fX10_shown σ 0) &&& (((((1 <<< (a2 &&& 31)) ||| (1 <<< (a3 &&& 31))) ||| (1 <<< (a4 &&& 31))) >>> (1 &&& 31)) ^^^ (-1))) σ (vp_in_nI (n := k8_68) (by omega) (by decide)) (by first | assumption | exact isThing_in (by assumption) (by assumption) | exact vin_mono (by assumption) (by decide) | omega | decide)) ?_
              refine j_goto F dX10_has3_97 101 (by decide) ?_
              refine j_iadd F dX10_has3_101 102 rfl ?_
              refine j_istore F dX10_has3_102 104 rfl (by decide) [(7, .int (x7_68 + (fX10_priceBy σ (nI k8_68) ((fX10_shown σ 0) &&& (((((1 <<< (a2 &&& 31)) ||| (1 <<< (a3 &&& 31))) ||| (1 <<< (a4 &&& 31))) >>> (1 &&& 31)) ^^^ (-1)))))), (0, .ref (D.2.1 33)), (1, .int a1), (5, .int ((fX10_shown σ 0) &&& (((((1 <<< (a2 &&& 31)) ||| (1 <<< (a3 &&& 31))) ||| (1 <<< (a4 &&& 31))) >>> (1 &&& 31)) ^^^ (-1)))), (8, .int (nI k8_68))] rfl ?_
              refine j_iinc F dX10_has3_104 107 rfl 4 rfl (nI (k8_68 + 1)) (nI_inc k8_68) (by decide) [(8, .int (nI (k8_68 + 1))), (7, .int (x7_68 + (fX10_priceBy σ (nI k8_68) ((fX10_shown σ 0) &&& (((((1 <<< (a2 &&& 31)) ||| (1 <<< (a3 &&& 31))) ||| (1 <<< (a4 &&& 31))) >>> (1 &&& 31)) ^^^ (-1)))))), (0, .ref (D.2.1 33)), (1, .int a1), (5, .int ((fX10_shown σ 0) &&& (((((1 <<< (a2 &&& 31)) ||| (1 <<< (a3 &&& 31))) ||| (1 <<< (a4 &&& 31))) >>> (1 &&& 31)) ^^^ (-1))))] rfl ?_
              refine j_goto F dX10_has3_107 68 (by decide) ?_
              refine j_pick [2, 3, 4, 1, 0] [(0, .ref (D.2.1 33)), (1, .int a1), (5, .int ((fX10_shown σ 0) &&& (((((1 <<< (a2 &&& 31)) ||| (1 <<< (a3 &&& 31))) ||| (1 <<< (a4 &&& 31))) >>> (1 &&& 31)) ^^^ (-1)))), (7, .int (x7_68 + (fX10_priceBy σ (nI k8_68) ((fX10_shown σ 0) &&& (((((1 <<< (a2 &&& 31)) ||| (1 <<< (a3 &&& 31))) ||| (1 <<< (a4 &&& 31))) >>> (1 &&& 31)) ^^^ (-1)))))), (8, .int (nI (k8_68 + 1)))] rfl ?_
              exact ih_68 (x7_68 + (fX10_priceBy σ (nI k8_68) ((fX10_shown σ 0) &&& (((((1 <<< (a2 &&& 31)) ||| (1 <<< (a3 &&& 31))) ||| (1 <<< (a4 &&& 31))) >>> (1 &&& 31)) ^^^ (-1))))) (k8_68 + 1) (by omega) (by omega)
            · rw [if_neg c_86]
              refine j_iconst (v := 0) F dX10_has3_100 101 rfl (by decide) ?_
              refine j_iadd F dX10_has3_101 102 rfl ?_
              refine j_istore F dX10_has3_102 104 rfl (by decide) [(7, .int (x7_68 + 0)), (0, .ref (D.2.1 33)), (1, .int a1), (5, .int ((fX10_shown σ 0) &&& (((((1 <<< (a2 &&& 31)) ||| (1 <<< (a3 &&& 31))) ||| (1 <<< (a4 &&& 31))) >>> (1 &&& 31)) ^^^ (-1)))), (8, .int (nI k8_68))] rfl ?_
              refine j_iinc F dX10_has3_104 107 rfl 4 rfl (nI (k8_68 + 1)) (nI_inc k8_68) (by decide) [(8, .int (nI (k8_68 + 1))), (7, .int (x7_68 + 0)), (0, .ref (D.2.1 33)), (1, .int a1), (5, .int ((fX10_shown σ 0) &&& (((((1 <<< (a2 &&& 31)) ||| (1 <<< (a3 &&& 31))) ||| (1 <<< (a4 &&& 31))) >>> (1 &&& 31)) ^^^ (-1))))] rfl ?_
              refine j_goto F dX10_has3_107 68 (by decide) ?_
              refine j_pick [2, 3, 4, 1, 0] [(0, .ref (D.2.1 33)), (1, .int a1), (5, .int ((fX10_shown σ 0) &&& (((((1 <<< (a2 &&& 31)) ||| (1 <<< (a3 &&& 31))) ||| (1 <<< (a4 &&& 31))) >>> (1 &&& 31)) ^^^ (-1)))), (7, .int (x7_68 + 0)), (8, .int (nI (k8_68 + 1)))] rfl ?_
              exact ih_68 (x7_68 + 0) (k8_68 + 1) (by omega) (by omega)
          · rw [if_neg c_74]
            refine j_iload F dX10_has3_110 112 rfl 3 rfl ?_
            exact j_ret_i F dX10_has3_112 rfl rfl rfl
      refine j_pick [2, 3, 4, 1, 0] [(0, .ref (D.2.1 33)), (1, .int a1), (5, .int ((fX10_shown σ 0) &&& (((((1 <<< (a2 &&& 31)) ||| (1 <<< (a3 &&& 31))) ||| (1 <<< (a4 &&& 31))) >>> (1 &&& 31)) ^^^ (-1)))), (7, .int xt0_63), (8, .int 0)] rfl ?_
      exact lp_68 (mX10_has3_68 σ a1 a2 a3 a4 + 1) xt0_63 0 (Nat.zero_le _) (by show (((σ.1 34 13) : Int32).toNatClampNeg) < 0 + ((((σ.1 34 13) : Int32).toNatClampNeg) + 1); omega)
    refine j_if_ne F dX10_has3_47 54 (by decide) 50 rfl (fun c_47 => ?_) (fun c_47 => ?_)
    · rw [if_pos c_47]
      refine j_iconst (v := 0) F dX10_has3_50 51 rfl (by decide) ?_
      refine j_goto F dX10_has3_51 63 (by decide) ?_
      refine j_pick [1, 2, 3] [(0, .ref (D.2.1 33)), (1, .int a1), (5, .int ((fX10_shown σ 0) &&& (((((1 <<< (a2 &&& 31)) ||| (1 <<< (a3 &&& 31))) ||| (1 <<< (a4 &&& 31))) >>> (1 &&& 31)) ^^^ (-1))))] rfl ?_
      exact jn_63 0
    · rw [if_neg c_47]
      refine j_aload_n F dX10_has3_54 55 rfl 1 rfl ?_
      refine j_iload F dX10_has3_55 57 rfl 0 rfl ?_
      refine j_iconst (v := 1) F dX10_has3_57 58 rfl (by decide) ?_
      refine j_isub F dX10_has3_58 59 rfl ?_
      refine j_callVr (as := [.int (xt0_43 - 1)]) (st := []) (r := .int (fX10_costOf σ (xt0_43 - 1))) (σ9 := σ) F zX10_costOf dX10_has3_59 62 rfl pX10_costOf rfl (by decide) (by decide) (Nat.le_of_ble_eq_true rfl) rfl qX10_137 rfl rfl (by decide) sh33 (kX10_costOf l D (xt0_43 - 1) σ (own_1 hn_43 c_47)) ?_
      refine j_ineg F dX10_has3_62 63 rfl ?_
      refine j_pick [1, 2, 3] [(0, .ref (D.2.1 33)), (1, .int a1), (5, .int ((fX10_shown σ 0) &&& (((((1 <<< (a2 &&& 31)) ||| (1 <<< (a3 &&& 31))) ||| (1 <<< (a4 &&& 31))) >>> (1 &&& 31)) ^^^ (-1))))] rfl ?_
      exact jn_63 (-(fX10_costOf σ (xt0_43 - 1)))
  refine j_if_ne F dX10_has3_25 32 (by decide) 28 rfl (fun c_25 => ?_) (fun c_25 => ?_)
  · rw [if_pos c_25]
    refine j_iload_n F dX10_has3_28 29 rfl 3 rfl ?_
    refine j_goto F dX10_has3_29 43 (by decide) ?_
    refine j_pick [1, 2, 0] [(0, .ref (D.2.1 33)), (1, .int a1), (5, .int ((fX10_shown σ 0) &&& (((((1 <<< (a2 &&& 31)) ||| (1 <<< (a3 &&& 31))) ||| (1 <<< (a4 &&& 31))) >>> (1 &&& 31)) ^^^ (-1))))] rfl ?_
    exact jn_43 a2 (by assumption)
  · rw [if_neg c_25]
    refine j_iload_n F dX10_has3_32 33 rfl 2 rfl ?_
    refine j_iconst (v := 1) F dX10_has3_33 34 rfl (by decide) ?_
    refine j_icmp_ne F dX10_has3_34 41 (by decide) 37 rfl (fun c_34 => ?_) (fun c_34 => ?_)
    · rw [if_pos c_34]
      refine j_iload_n F dX10_has3_37 38 rfl 4 rfl ?_
      refine j_goto F dX10_has3_38 43 (by decide) ?_
      refine j_pick [1, 2, 0] [(0, .ref (D.2.1 33)), (1, .int a1), (5, .int ((fX10_shown σ 0) &&& (((((1 <<< (a2 &&& 31)) ||| (1 <<< (a3 &&& 31))) ||| (1 <<< (a4 &&& 31))) >>> (1 &&& 31)) ^^^ (-1))))] rfl ?_
      exact jn_43 a3 (by assumption)
    · rw [if_neg c_34]
      refine j_iload F dX10_has3_41 43 rfl 5 rfl ?_
      refine j_pick [1, 2, 0] [(0, .ref (D.2.1 33)), (1, .int a1), (5, .int ((fX10_shown σ 0) &&& (((((1 <<< (a2 &&& 31)) ||| (1 <<< (a3 &&& 31))) ||| (1 <<< (a4 &&& 31))) >>> (1 &&& 31)) ^^^ (-1))))] rfl ?_
      exact jn_43 a4 (by assumption)
def fX10_rest_126 (σ : Mm) (a1 : Int32) (a2 : Int32) (a3 : Int32) (kb37 : Bool → Nat → Bool) (k5_126 : Nat) (bt0_126 : Bool) : Bool := if bt0_126 = true then (if (fX10_may σ 2 (nI k5_126)) = true then (if (fX10_has3 σ 2 a1 a2 (nI k5_126)) ≤ (fX10_has3 σ 2 a1 a2 a3) then (kb37 true (k5_126 + 1)) else (kb37 false (k5_126 + 1))) else (kb37 true (k5_126 + 1))) else (kb37 false (k5_126 + 1))
def fX10_rest_125 (σ : Mm) (a1 : Int32) (a2 : Int32) (a3 : Int32) (kb37 : Bool → Nat → Bool) (k5_125 : Nat) : Bool := fX10_rest_126 σ a1 a2 a3 kb37 k5_125 false
def fX10_rest_121 (σ : Mm) (a1 : Int32) (a2 : Int32) (a3 : Int32) (kb37 : Bool → Nat → Bool) (k5_121 : Nat) : Bool := fX10_rest_126 σ a1 a2 a3 kb37 k5_121 true
def fX10_rest_84 (σ : Mm) (a1 : Int32) (a2 : Int32) (a3 : Int32) (kb37 : Bool → Nat → Bool) (k5_84 : Nat) (bt0_84 : Bool) : Bool := if bt0_84 = true then (if (fX10_may σ 1 (nI k5_84)) = true then (if (fX10_has3 σ 1 a1 (nI k5_84) a3) ≤ (fX10_has3 σ 1 a1 a2 a3) then (fX10_rest_121 σ a1 a2 a3 kb37 k5_84) else (fX10_rest_125 σ a1 a2 a3 kb37 k5_84)) else (fX10_rest_121 σ a1 a2 a3 kb37 k5_84)) else (fX10_rest_125 σ a1 a2 a3 kb37 k5_84)
def fX10_rest_79 (σ : Mm) (a1 : Int32) (a2 : Int32) (a3 : Int32) (kb37 : Bool → Nat → Bool) (k5_79 : Nat) : Bool := fX10_rest_84 σ a1 a2 a3 kb37 k5_79 true
def fX10_rest_37 (σ : Mm) (a1 : Int32) (a2 : Int32) (a3 : Int32)  : Nat → Bool → Nat → Bool
  | 0, _, _ => false
  | n + 1, b4_37, k5_37 => if (nI k5_37) < 9 then (if b4_37 = true then (if (fX10_may σ 0 (nI k5_37)) = true then (if (fX10_has3 σ 0 (nI k5_37) a2 a3) ≤ (fX10_has3 σ 0 a1 a2 a3) then (fX10_rest_79 σ a1 a2 a3 (fX10_rest_37 σ a1 a2 a3 n) k5_37) else (fX10_rest_84 σ a1 a2 a3 (fX10_rest_37 σ a1 a2 a3 n) k5_37 false)) else (fX10_rest_79 σ a1 a2 a3 (fX10_rest_37 σ a1 a2 a3 n) k5_37)) else (b4_37)) else (b4_37)
def fX10_rest_32 (σ : Mm) (a1 : Int32) (a2 : Int32) (a3 : Int32)  (bt0_32 : Bool) : Bool := fX10_rest_37 σ a1 a2 a3 10 bt0_32 0
def fX10_rest_31 (σ : Mm) (a1 : Int32) (a2 : Int32) (a3 : Int32)   : Bool := fX10_rest_32 σ a1 a2 a3 false
def fX10_rest (σ : Mm) (a1 : Int32) (a2 : Int32) (a3 : Int32) : Bool := if (fX10_may σ 0 a1) = true then (if (fX10_may σ 1 a2) = true then (if (fX10_may σ 2 a3) = true then (fX10_rest_32 σ a1 a2 a3 true) else (fX10_rest_31 σ a1 a2 a3)) else (fX10_rest_31 σ a1 a2 a3)) else (fX10_rest_31 σ a1 a2 a3)
set_option maxRecDepth 20000 in
theorem kX10_rest (l : Launch) (D : Dm) (a1 : Int32) (a2 : Int32) (a3 : Int32) (σ : Mm) (hv1 : vp_in a1 9) (hv2 : vp_in a2 9) (hv3 : vp_in a3 9) (hM : vp_in (σ.1 34 13) 9) : Ct l yX10_rest cX10_rest 6 (some .boolean) 7 D [.ref (D.2.1 33), .int a1, .int a2, .int a3] σ (some (.int (bi (fX10_rest σ a1 a2 a3))), σ) := by
  refine ct_of (by decide +kernel) (Nat.le_of_ble_eq_true rfl) (fun X F => ?_)
  have F : Fx X l 6 D cX10_rest RX10 7 (some .boolean) := F
  show JJ X 6 D σ 0 [(0, .ref (D.2.1 33)), (1, .int a1), (2, .int a2), (3, .int a3)] [] (QQ X D (some (.int (bi (fX10_rest σ a1 a2 a3))), σ))
  rw [fX10_rest]
  refine j_aload_n F dX10_rest_0 1 rfl 0 rfl ?_
  refine j_iconst (v := 0) F dX10_rest_1 2 rfl (by decide) ?_
  refine j_iload_n F dX10_rest_2 3 rfl 1 rfl ?_
  refine j_callVr (as := [.int 0, .int a1]) (st := []) (r := .int (bi (fX10_may σ 0 a1))) (σ9 := σ) F zX10_may dX10_rest_3 6 rfl pX10_may rfl (by decide) (by decide) (Nat.le_of_ble_eq_true rfl) rfl qX10_198 rfl rfl (by decide) sh33 (kX10_may l D 0 a1 σ (by first | assumption | exact isThing_in (by assumption) (by assumption) | exact vin_mono (by assumption) (by decide) | omega | decide)) ?_
  have jn_32 : ∀ (bt0_32 : Bool), JJ X 6 D σ 32 [(0, .ref (D.2.1 33)), (1, .int a1), (2, .int a2), (3, .int a3)] [.int (bi bt0_32)] (QQ X D (some (.int (bi (fX10_rest_32 σ a1 a2 a3 bt0_32))), σ)) := by
    intro bt0_32
    rw [fX10_rest_32]
    refine j_istore F dX10_rest_32 34 rfl (by decide) [(4, .int (bi bt0_32)), (0, .ref (D.2.1 33)), (1, .int a1), (2, .int a2), (3, .int a3)] rfl ?_
    refine j_iconst (v := 0) F dX10_rest_34 35 rfl (by decide) ?_
    refine j_istore F dX10_rest_35 37 rfl (by decide) [(5, .int 0), (4, .int (bi bt0_32)), (0, .ref (D.2.1 33)), (1, .int a1), (2, .int a2), (3, .int a3)] rfl ?_
    have lp_37 : ∀ (n_37 : Nat) (b4_37 : Bool) (k5_37 : Nat), k5_37 ≤ 9 → 9 < k5_37 + n_37 → JJ X 6 D σ 37 [(0, .ref (D.2.1 33)), (1, .int a1), (2, .int a2), (3, .int a3), (4, .int (bi b4_37)), (5, .int (nI k5_37))] [] (QQ X D (some (.int (bi (fX10_rest_37 σ a1 a2 a3 n_37 b4_37 k5_37))), σ)) := by
      intro n_37
      induction n_37 with
      | zero => intro b4_37 k5_37 hk_37 hn_37; exact absurd hn_37 (by omega)
      | succ n_37 ih_37 =>
        intro b4_37 k5_37 hk_37 hn_37
        rw [fX10_rest_37]
        refine j_iload F dX10_rest_37 39 rfl 5 rfl ?_
        refine j_bipush (v := 9) F dX10_rest_39 41 rfl (by decide) ?_
        refine j_icmp_ge F dX10_rest_41 176 (by decide) 44 rfl (fun c_41 => ?_) (fun c_41 => ?_)
        · rw [if_pos c_41]
          have h_41 : k5_37 < 9 := nlt c_41 (by decide) (by omega)
          refine j_iload F dX10_rest_44 46 rfl 4 rfl ?_
          refine j_ifb_eq F dX10_rest_46 176 (by decide) 49 rfl (fun c_46 => ?_) (fun c_46 => ?_)
          · rw [if_pos c_46]
            refine j_aload_n F dX10_rest_49 50 rfl 0 rfl ?_
            refine j_iconst (v := 0) F dX10_rest_50 51 rfl (by decide) ?_
            refine j_iload F dX10_rest_51 53 rfl 5 rfl ?_
            refine j_callVr (as := [.int 0, .int (nI k5_37)]) (st := []) (r := .int (bi (fX10_may σ 0 (nI k5_37)))) (σ9 := σ) F zX10_may dX10_rest_53 56 rfl pX10_may rfl (by decide) (by decide) (Nat.le_of_ble_eq_true rfl) rfl qX10_198 rfl rfl (by decide) sh33 (kX10_may l D 0 (nI k5_37) σ (by first | assumption | exact isThing_in (by assumption) (by assumption) | exact vin_mono (by assumption) (by decide) | omega | decide)) ?_
            have jn_84 : ∀ (bt0_84 : Bool), JJ X 6 D σ 84 [(0, .ref (D.2.1 33)), (1, .int a1), (2, .int a2), (3, .int a3), (5, .int (nI k5_37))] [.int (bi bt0_84)] (QQ X D (some (.int (bi (fX10_rest_84 σ a1 a2 a3 (fX10_rest_37 σ a1 a2 a3 n_37) k5_37 bt0_84))), σ)) := by
              intro bt0_84
              rw [fX10_rest_84]
              refine j_istore F dX10_rest_84 86 rfl (by decide) [(4, .int (bi bt0_84)), (0, .ref (D.2.1 33)), (1, .int a1), (2, .int a2), (3, .int a3), (5, .int (nI k5_37))] rfl ?_
              refine j_iload F dX10_rest_86 88 rfl 0 rfl ?_
              have jn_126 : ∀ (bt0_126 : Bool), JJ X 6 D σ 126 [(0, .ref (D.2.1 33)), (1, .int a1), (2, .int a2), (3, .int a3), (5, .int (nI k5_37))] [.int (bi bt0_126)] (QQ X D (some (.int (bi (fX10_rest_126 σ a1 a2 a3 (fX10_rest_37 σ a1 a2 a3 n_37) k5_37 bt0_126))), σ)) := by
                intro bt0_126
                rw [fX10_rest_126]
                refine j_istore F dX10_rest_126 128 rfl (by decide) [(4, .int (bi bt0_126)), (0, .ref (D.2.1 33)), (1, .int a1), (2, .int a2), (3, .int a3), (5, .int (nI k5_37))] rfl ?_
                refine j_iload F dX10_rest_128 130 rfl 0 rfl ?_
                refine j_ifb_eq F dX10_rest_130 167 (by decide) 133 rfl (fun c_130 => ?_) (fun c_130 => ?_)
                · rw [if_pos c_130]
                  refine j_aload_n F dX10_rest_133 134 rfl 1 rfl ?_
                  refine j_iconst (v := 2) F dX10_rest_134 135 rfl (by decide) ?_
                  refine j_iload F dX10_rest_135 137 rfl 5 rfl ?_
                  refine j_callVr (as := [.int 2, .int (nI k5_37)]) (st := []) (r := .int (bi (fX10_may σ 2 (nI k5_37)))) (σ9 := σ) F zX10_may dX10_rest_137 140 rfl pX10_may rfl (by decide) (by decide) (Nat.le_of_ble_eq_true rfl) rfl qX10_198 rfl rfl (by decide) sh33 (kX10_may l D 2 (nI k5_37) σ (by first | assumption | exact isThing_in (by assumption) (by assumption) | exact vin_mono (by assumption) (by decide) | omega | decide)) ?_
                  refine j_ifb_eq F dX10_rest_140 163 (by decide) 143 rfl (fun c_140 => ?_) (fun c_140 => ?_)
                  · rw [if_pos c_140]
                    refine j_aload_n F dX10_rest_143 144 rfl 1 rfl ?_
                    refine j_iconst (v := 2) F dX10_rest_144 145 rfl (by decide) ?_
                    refine j_iload_n F dX10_rest_145 146 rfl 2 rfl ?_
                    refine j_iload_n F dX10_rest_146 147 rfl 3 rfl ?_
                    refine j_iload F dX10_rest_147 149 rfl 5 rfl ?_
                    refine j_callVr (as := [.int 2, .int a1, .int a2, .int (nI k5_37)]) (st := []) (r := .int (fX10_has3 σ 2 a1 a2 (nI k5_37))) (σ9 := σ) F zX10_has3 dX10_rest_149 152 rfl pX10_has3 rfl (by decide) (by decide) (Nat.le_of_ble_eq_true rfl) rfl qX10_201 rfl rfl (by decide) sh33 (kX10_has3 l D 2 a1 a2 (nI k5_37) σ (by first | assumption | exact isThing_in (by assumption) (by assumption) | exact vin_mono (by assumption) (by decide) | omega | decide) (by first | assumption | exact isThing_in (by assumption) (by assumption) | exact vin_mono (by assumption) (by decide) | omega | decide) (vp_in_nI (n := k5_37) (by omega) (by decide)) (by first | assumption | exact isThing_in (by assumption) (by assumption) | exact vin_mono (by assumption) (by decide) | omega | decide)) ?_
                    refine j_aload_n F dX10_rest_152 153 rfl 1 rfl ?_
                    refine j_iconst (v := 2) F dX10_rest_153 154 rfl (by decide) ?_
                    refine j_iload_n F dX10_rest_154 155 rfl 2 rfl ?_
                    refine j_iload_n F dX10_rest_155 156 rfl 3 rfl ?_
                    refine j_iload_n F dX10_rest_156 157 rfl 4 rfl ?_
                    refine j_callVr (as := [.int 2, .int a1, .int a2, .int a3]) (st := [.int (fX10_has3 σ 2 a1 a2 (nI k5_37))]) (r := .int (fX10_has3 σ 2 a1 a2 a3)) (σ9 := σ) F zX10_has3 dX10_rest_157 160 rfl pX10_has3 rfl (by decide) (by decide) (Nat.le_of_ble_eq_true rfl) rfl qX10_201 rfl rfl (by decide) sh33 (kX10_has3 l D 2 a1 a2 a3 σ (by first | assumption | exact isThing_in (by assumption) (by assumption) | exact vin_mono (by assumption) (by decide) | omega | decide) (by first | assumption | exact isThing_in (by assumption) (by assumption) | exact vin_mono (by assumption) (by decide) | omega | decide) (by first | assumption | exact isThing_in (by assumption) (by assumption) | exact vin_mono (by assumption) (by decide) | omega | decide) (by first | assumption | exact isThing_in (by assumption) (by assumption) | exact vin_mono (by assumption) (by decide) | omega | decide)) ?_
                    refine j_icmp_gt F dX10_rest_160 167 (by decide) 163 rfl (fun c_160 => ?_) (fun c_160 => ?_)
                    · rw [if_pos c_160]
                      refine j_iconst (v := 1) F dX10_rest_163 164 rfl (by decide) ?_
                      refine j_goto F dX10_rest_164 168 (by decide) ?_
                      refine j_istore F dX10_rest_168 170 rfl (by decide) [(4, .int 1), (0, .ref (D.2.1 33)), (1, .int a1), (2, .int a2), (3, .int a3), (5, .int (nI k5_37))] rfl ?_
                      refine j_iinc F dX10_rest_170 173 rfl 5 rfl (nI (k5_37 + 1)) (nI_inc k5_37) (by decide) [(5, .int (nI (k5_37 + 1))), (4, .int 1), (0, .ref (D.2.1 33)), (1, .int a1), (2, .int a2), (3, .int a3)] rfl ?_
                      refine j_goto F dX10_rest_173 37 (by decide) ?_
                      refine j_pick [2, 3, 4, 5, 1, 0] [(0, .ref (D.2.1 33)), (1, .int a1), (2, .int a2), (3, .int a3), (4, .int 1), (5, .int (nI (k5_37 + 1)))] rfl ?_
                      exact ih_37 true (k5_37 + 1) (by omega) (by omega)
                    · rw [if_neg c_160]
                      refine j_iconst (v := 0) F dX10_rest_167 168 rfl (by decide) ?_
                      refine j_istore F dX10_rest_168 170 rfl (by decide) [(4, .int 0), (0, .ref (D.2.1 33)), (1, .int a1), (2, .int a2), (3, .int a3), (5, .int (nI k5_37))] rfl ?_
                      refine j_iinc F dX10_rest_170 173 rfl 5 rfl (nI (k5_37 + 1)) (nI_inc k5_37) (by decide) [(5, .int (nI (k5_37 + 1))), (4, .int 0), (0, .ref (D.2.1 33)), (1, .int a1), (2, .int a2), (3, .int a3)] rfl ?_
                      refine j_goto F dX10_rest_173 37 (by decide) ?_
                      refine j_pick [2, 3, 4, 5, 1, 0] [(0, .ref (D.2.1 33)), (1, .int a1), (2, .int a2), (3, .int a3), (4, .int 0), (5, .int (nI (k5_37 + 1)))] rfl ?_
                      exact ih_37 false (k5_37 + 1) (by omega) (by omega)
                  · rw [if_neg c_140]
                    refine j_iconst (v := 1) F dX10_rest_163 164 rfl (by decide) ?_
                    refine j_goto F dX10_rest_164 168 (by decide) ?_
                    refine j_istore F dX10_rest_168 170 rfl (by decide) [(4, .int 1), (0, .ref (D.2.1 33)), (1, .int a1), (2, .int a2), (3, .int a3), (5, .int (nI k5_37))] rfl ?_
                    refine j_iinc F dX10_rest_170 173 rfl 5 rfl (nI (k5_37 + 1)) (nI_inc k5_37) (by decide) [(5, .int (nI (k5_37 + 1))), (4, .int 1), (0, .ref (D.2.1 33)), (1, .int a1), (2, .int a2), (3, .int a3)] rfl ?_
                    refine j_goto F dX10_rest_173 37 (by decide) ?_
                    refine j_pick [2, 3, 4, 5, 1, 0] [(0, .ref (D.2.1 33)), (1, .int a1), (2, .int a2), (3, .int a3), (4, .int 1), (5, .int (nI (k5_37 + 1)))] rfl ?_
                    exact ih_37 true (k5_37 + 1) (by omega) (by omega)
                · rw [if_neg c_130]
                  refine j_iconst (v := 0) F dX10_rest_167 168 rfl (by decide) ?_
                  refine j_istore F dX10_rest_168 170 rfl (by decide) [(4, .int 0), (0, .ref (D.2.1 33)), (1, .int a1), (2, .int a2), (3, .int a3), (5, .int (nI k5_37))] rfl ?_
                  refine j_iinc F dX10_rest_170 173 rfl 5 rfl (nI (k5_37 + 1)) (nI_inc k5_37) (by decide) [(5, .int (nI (k5_37 + 1))), (4, .int 0), (0, .ref (D.2.1 33)), (1, .int a1), (2, .int a2), (3, .int a3)] rfl ?_
                  refine j_goto F dX10_rest_173 37 (by decide) ?_
                  refine j_pick [2, 3, 4, 5, 1, 0] [(0, .ref (D.2.1 33)), (1, .int a1), (2, .int a2), (3, .int a3), (4, .int 0), (5, .int (nI (k5_37 + 1)))] rfl ?_
                  exact ih_37 false (k5_37 + 1) (by omega) (by omega)
              have jn_125 : JJ X 6 D σ 125 [(0, .ref (D.2.1 33)), (1, .int a1), (2, .int a2), (3, .int a3), (5, .int (nI k5_37))] [] (QQ X D (some (.int (bi (fX10_rest_125 σ a1 a2 a3 (fX10_rest_37 σ a1 a2 a3 n_37) k5_37))), σ)) := by
                rw [fX10_rest_125]
                refine j_iconst (v := 0) F dX10_rest_125 126 rfl (by decide) ?_
                exact jn_126 false
              refine j_ifb_eq F dX10_rest_88 125 (by decide) 91 rfl (fun c_88 => ?_) (fun c_88 => ?_)
              · rw [if_pos c_88]
                refine j_aload_n F dX10_rest_91 92 rfl 1 rfl ?_
                refine j_iconst (v := 1) F dX10_rest_92 93 rfl (by decide) ?_
                refine j_iload F dX10_rest_93 95 rfl 5 rfl ?_
                refine j_callVr (as := [.int 1, .int (nI k5_37)]) (st := []) (r := .int (bi (fX10_may σ 1 (nI k5_37)))) (σ9 := σ) F zX10_may dX10_rest_95 98 rfl pX10_may rfl (by decide) (by decide) (Nat.le_of_ble_eq_true rfl) rfl qX10_198 rfl rfl (by decide) sh33 (kX10_may l D 1 (nI k5_37) σ (by first | assumption | exact isThing_in (by assumption) (by assumption) | exact vin_mono (by assumption) (by decide) | omega | decide)) ?_
                have jn_121 : JJ X 6 D σ 121 [(0, .ref (D.2.1 33)), (1, .int a1), (2, .int a2), (3, .int a3), (5, .int (nI k5_37))] [] (QQ X D (some (.int (bi (fX10_rest_121 σ a1 a2 a3 (fX10_rest_37 σ a1 a2 a3 n_37) k5_37))), σ)) := by
                  rw [fX10_rest_121]
                  refine j_iconst (v := 1) F dX10_rest_121 122 rfl (by decide) ?_
                  refine j_goto F dX10_rest_122 126 (by decide) ?_
                  exact jn_126 true
                refine j_ifb_eq F dX10_rest_98 121 (by decide) 101 rfl (fun c_98 => ?_) (fun c_98 => ?_)
                · rw [if_pos c_98]
                  refine j_aload_n F dX10_rest_101 102 rfl 1 rfl ?_
                  refine j_iconst (v := 1) F dX10_rest_102 103 rfl (by decide) ?_
                  refine j_iload_n F dX10_rest_103 104 rfl 2 rfl ?_
                  refine j_iload F dX10_rest_104 106 rfl 5 rfl ?_
                  refine j_iload_n F dX10_rest_106 107 rfl 4 rfl ?_
                  refine j_callVr (as := [.int 1, .int a1, .int (nI k5_37), .int a3]) (st := []) (r := .int (fX10_has3 σ 1 a1 (nI k5_37) a3)) (σ9 := σ) F zX10_has3 dX10_rest_107 110 rfl pX10_has3 rfl (by decide) (by decide) (Nat.le_of_ble_eq_true rfl) rfl qX10_201 rfl rfl (by decide) sh33 (kX10_has3 l D 1 a1 (nI k5_37) a3 σ (by first | assumption | exact isThing_in (by assumption) (by assumption) | exact vin_mono (by assumption) (by decide) | omega | decide) (vp_in_nI (n := k5_37) (by omega) (by decide)) (by first | assumption | exact isThing_in (by assumption) (by assumption) | exact vin_mono (by assumption) (by decide) | omega | decide) (by first | assumption | exact isThing_in (by assumption) (by assumption) | exact vin_mono (by assumption) (by decide) | omega | decide)) ?_
                  refine j_aload_n F dX10_rest_110 111 rfl 1 rfl ?_
                  refine j_iconst (v := 1) F dX10_rest_111 112 rfl (by decide) ?_
                  refine j_iload_n F dX10_rest_112 113 rfl 2 rfl ?_
                  refine j_iload_n F dX10_rest_113 114 rfl 3 rfl ?_
                  refine j_iload_n F dX10_rest_114 115 rfl 4 rfl ?_
                  refine j_callVr (as := [.int 1, .int a1, .int a2, .int a3]) (st := [.int (fX10_has3 σ 1 a1 (nI k5_37) a3)]) (r := .int (fX10_has3 σ 1 a1 a2 a3)) (σ9 := σ) F zX10_has3 dX10_rest_115 118 rfl pX10_has3 rfl (by decide) (by decide) (Nat.le_of_ble_eq_true rfl) rfl qX10_201 rfl rfl (by decide) sh33 (kX10_has3 l D 1 a1 a2 a3 σ (by first | assumption | exact isThing_in (by assumption) (by assumption) | exact vin_mono (by assumption) (by decide) | omega | decide) (by first | assumption | exact isThing_in (by assumption) (by assumption) | exact vin_mono (by assumption) (by decide) | omega | decide) (by first | assumption | exact isThing_in (by assumption) (by assumption) | exact vin_mono (by assumption) (by decide) | omega | decide) (by first | assumption | exact isThing_in (by assumption) (by assumption) | exact vin_mono (by assumption) (by decide) | omega | decide)) ?_
                  refine j_icmp_gt F dX10_rest_118 125 (by decide) 121 rfl (fun c_118 => ?_) (fun c_118 => ?_)
                  · rw [if_pos c_118]
                    refine j_pick [1, 2, 3, 4, 5] [(0, .ref (D.2.1 33)), (1, .int a1), (2, .int a2), (3, .int a3), (5, .int (nI k5_37))] rfl ?_
                    exact jn_121
                  · rw [if_neg c_118]
                    refine j_pick [1, 2, 3, 4, 5] [(0, .ref (D.2.1 33)), (1, .int a1), (2, .int a2), (3, .int a3), (5, .int (nI k5_37))] rfl ?_
                    exact jn_125
                · rw [if_neg c_98]
                  refine j_pick [1, 2, 3, 4, 5] [(0, .ref (D.2.1 33)), (1, .int a1), (2, .int a2), (3, .int a3), (5, .int (nI k5_37))] rfl ?_
                  exact jn_121
              · rw [if_neg c_88]
                refine j_pick [1, 2, 3, 4, 5] [(0, .ref (D.2.1 33)), (1, .int a1), (2, .int a2), (3, .int a3), (5, .int (nI k5_37))] rfl ?_
                exact jn_125
            have jn_79 : JJ X 6 D σ 79 [(0, .ref (D.2.1 33)), (1, .int a1), (2, .int a2), (3, .int a3), (5, .int (nI k5_37))] [] (QQ X D (some (.int (bi (fX10_rest_79 σ a1 a2 a3 (fX10_rest_37 σ a1 a2 a3 n_37) k5_37))), σ)) := by
              rw [fX10_rest_79]
              refine j_iconst (v := 1) F dX10_rest_79 80 rfl (by decide) ?_
              refine j_goto F dX10_rest_80 84 (by decide) ?_
              exact jn_84 true
            refine j_ifb_eq F dX10_rest_56 79 (by decide) 59 rfl (fun c_56 => ?_) (fun c_56 => ?_)
            · rw [if_pos c_56]
              refine j_aload_n F dX10_rest_59 60 rfl 0 rfl ?_
              refine j_iconst (v := 0) F dX10_rest_60 61 rfl (by decide) ?_
              refine j_iload F dX10_rest_61 63 rfl 5 rfl ?_
              refine j_iload_n F dX10_rest_63 64 rfl 2 rfl ?_
              refine j_iload_n F dX10_rest_64 65 rfl 3 rfl ?_
              refine j_callVr (as := [.int 0, .int (nI k5_37), .int a2, .int a3]) (st := []) (r := .int (fX10_has3 σ 0 (nI k5_37) a2 a3)) (σ9 := σ) F zX10_has3 dX10_rest_65 68 rfl pX10_has3 rfl (by decide) (by decide) (Nat.le_of_ble_eq_true rfl) rfl qX10_201 rfl rfl (by decide) sh33 (kX10_has3 l D 0 (nI k5_37) a2 a3 σ (vp_in_nI (n := k5_37) (by omega) (by decide)) (by first | assumption | exact isThing_in (by assumption) (by assumption) | exact vin_mono (by assumption) (by decide) | omega | decide) (by first | assumption | exact isThing_in (by assumption) (by assumption) | exact vin_mono (by assumption) (by decide) | omega | decide) (by first | assumption | exact isThing_in (by assumption) (by assumption) | exact vin_mono (by assumption) (by decide) | omega | decide)) ?_
              refine j_aload_n F dX10_rest_68 69 rfl 0 rfl ?_
              refine j_iconst (v := 0) F dX10_rest_69 70 rfl (by decide) ?_
              refine j_iload_n F dX10_rest_70 71 rfl 1 rfl ?_
              refine j_iload_n F dX10_rest_71 72 rfl 2 rfl ?_
              refine j_iload_n F dX10_rest_72 73 rfl 3 rfl ?_
              refine j_callVr (as := [.int 0, .int a1, .int a2, .int a3]) (st := [.int (fX10_has3 σ 0 (nI k5_37) a2 a3)]) (r := .int (fX10_has3 σ 0 a1 a2 a3)) (σ9 := σ) F zX10_has3 dX10_rest_73 76 rfl pX10_has3 rfl (by decide) (by decide) (Nat.le_of_ble_eq_true rfl) rfl qX10_201 rfl rfl (by decide) sh33 (kX10_has3 l D 0 a1 a2 a3 σ (by first | assumption | exact isThing_in (by assumption) (by assumption) | exact vin_mono (by assumption) (by decide) | omega | decide) (by first | assumption | exact isThing_in (by assumption) (by assumption) | exact vin_mono (by assumption) (by decide) | omega | decide) (by first | assumption | exact isThing_in (by assumption) (by assumption) | exact vin_mono (by assumption) (by decide) | omega | decide) (by first | assumption | exact isThing_in (by assumption) (by assumption) | exact vin_mono (by assumption) (by decide) | omega | decide)) ?_
              refine j_icmp_gt F dX10_rest_76 83 (by decide) 79 rfl (fun c_76 => ?_) (fun c_76 => ?_)
              · rw [if_pos c_76]
                refine j_pick [0, 1, 2, 3, 5] [(0, .ref (D.2.1 33)), (1, .int a1), (2, .int a2), (3, .int a3), (5, .int (nI k5_37))] rfl ?_
                exact jn_79
              · rw [if_neg c_76]
                refine j_iconst (v := 0) F dX10_rest_83 84 rfl (by decide) ?_
                refine j_pick [0, 1, 2, 3, 5] [(0, .ref (D.2.1 33)), (1, .int a1), (2, .int a2), (3, .int a3), (5, .int (nI k5_37))] rfl ?_
                exact jn_84 false
            · rw [if_neg c_56]
              refine j_pick [0, 1, 2, 3, 5] [(0, .ref (D.2.1 33)), (1, .int a1), (2, .int a2), (3, .int a3), (5, .int (nI k5_37))] rfl ?_
              exact jn_79
          · rw [if_neg c_46]
            refine j_iload F dX10_rest_176 178 rfl 4 rfl ?_
            exact j_ret_b (b := b4_37) F dX10_rest_178 rfl rfl rfl
        · rw [if_neg c_41]
          refine j_iload F dX10_rest_176 178 rfl 4 rfl ?_
          exact j_ret_b (b := b4_37) F dX10_rest_178 rfl rfl rfl
    refine j_pick [2, 3, 4, 5, 1, 0] [(0, .ref (D.2.1 33)), (1, .int a1), (2, .int a2), (3, .int a3), (4, .int (bi bt0_32)), (5, .int 0)] rfl ?_
    exact lp_37 10 bt0_32 0 (by omega) (by omega)
  have jn_31 : JJ X 6 D σ 31 [(0, .ref (D.2.1 33)), (1, .int a1), (2, .int a2), (3, .int a3)] [] (QQ X D (some (.int (bi (fX10_rest_31 σ a1 a2 a3))), σ)) := by
    rw [fX10_rest_31]
    refine j_iconst (v := 0) F dX10_rest_31 32 rfl (by decide) ?_
    exact jn_32 false
  refine j_ifb_eq F dX10_rest_6 31 (by decide) 9 rfl (fun c_6 => ?_) (fun c_6 => ?_)
  · rw [if_pos c_6]
    refine j_aload_n F dX10_rest_9 10 rfl 0 rfl ?_
    refine j_iconst (v := 1) F dX10_rest_10 11 rfl (by decide) ?_
    refine j_iload_n F dX10_rest_11 12 rfl 2 rfl ?_
    refine j_callVr (as := [.int 1, .int a2]) (st := []) (r := .int (bi (fX10_may σ 1 a2))) (σ9 := σ) F zX10_may dX10_rest_12 15 rfl pX10_may rfl (by decide) (by decide) (Nat.le_of_ble_eq_true rfl) rfl qX10_198 rfl rfl (by decide) sh33 (kX10_may l D 1 a2 σ (by first | assumption | exact isThing_in (by assumption) (by assumption) | exact vin_mono (by assumption) (by decide) | omega | decide)) ?_
    refine j_ifb_eq F dX10_rest_15 31 (by decide) 18 rfl (fun c_15 => ?_) (fun c_15 => ?_)
    · rw [if_pos c_15]
      refine j_aload_n F dX10_rest_18 19 rfl 0 rfl ?_
      refine j_iconst (v := 2) F dX10_rest_19 20 rfl (by decide) ?_
      refine j_iload_n F dX10_rest_20 21 rfl 3 rfl ?_
      refine j_callVr (as := [.int 2, .int a3]) (st := []) (r := .int (bi (fX10_may σ 2 a3))) (σ9 := σ) F zX10_may dX10_rest_21 24 rfl pX10_may rfl (by decide) (by decide) (Nat.le_of_ble_eq_true rfl) rfl qX10_198 rfl rfl (by decide) sh33 (kX10_may l D 2 a3 σ (by first | assumption | exact isThing_in (by assumption) (by assumption) | exact vin_mono (by assumption) (by decide) | omega | decide)) ?_
      refine j_ifb_eq F dX10_rest_24 31 (by decide) 27 rfl (fun c_24 => ?_) (fun c_24 => ?_)
      · rw [if_pos c_24]
        refine j_iconst (v := 1) F dX10_rest_27 28 rfl (by decide) ?_
        refine j_goto F dX10_rest_28 32 (by decide) ?_
        exact jn_32 true
      · rw [if_neg c_24]
        exact jn_31
    · rw [if_neg c_15]
      exact jn_31
  · rw [if_neg c_6]
    exact jn_31
def fX10_rests_158 (σ : Mm) (a1 : Int32)  (xt0_158 : Int32) : Int32 := if xt0_158 = 0 then ((-9)) else ((xt0_158 - 1))
def fX10_rests_99 (σ : Mm) (a1 : Int32)  (x2_99 : Int32) : Int32 := if a1 = 0 then (x2_99) else (if 0 < x2_99 then (1) else (0))
def fX10_rests_90 (σ : Mm) (a1 : Int32)  (x2_90 : Int32) (x3_90 : Int32) : Int32 := if a1 = 0 then (fX10_rests_99 σ a1 x2_90) else (if a1 = 4 then (fX10_rests_99 σ a1 x2_90) else (if x3_90 = (-9) then (fX10_rests_158 σ a1 0) else (if a1 = 1 then (fX10_rests_158 σ a1 (x3_90 / 81)) else (if a1 = 2 then (fX10_rests_158 σ a1 (rm (x3_90 / 9) 9)) else (fX10_rests_158 σ a1 (rm x3_90 9))))))
def fX10_rests_70 (σ : Mm) (a1 : Int32) (kb23 : Int32 → Int32 → Nat → Int32) (x2_70 : Int32) (k4_70 : Nat) (b5_70 : Bool) (xt0_70 : Int32) : Int32 := if b5_70 = true then (kb23 (x2_70 + 1) xt0_70 (k4_70 + 1)) else (kb23 (x2_70 + 0) xt0_70 (k4_70 + 1))
def fX10_rests_69 (σ : Mm) (a1 : Int32) (kb23 : Int32 → Int32 → Nat → Int32) (x2_69 : Int32) (x3_69 : Int32) (k4_69 : Nat) (b5_69 : Bool) : Int32 := fX10_rests_70 σ a1 kb23 x2_69 k4_69 b5_69 x3_69
def fX10_rests_23 (σ : Mm) (a1 : Int32)  : Nat → Int32 → Int32 → Nat → Int32
  | 0, _, _, _ => 0
  | n + 1, x2_23, x3_23, k4_23 => if (nI k4_23) < 729 then (if (fX10_rest σ ((nI k4_23) / 81) (rm ((nI k4_23) / 9) 9) (rm (nI k4_23) 9)) = true then (if x2_23 = 0 then (fX10_rests_70 σ a1 (fX10_rests_23 σ a1 n) x2_23 k4_23 (fX10_rest σ ((nI k4_23) / 81) (rm ((nI k4_23) / 9) 9) (rm (nI k4_23) 9)) (nI k4_23)) else (fX10_rests_69 σ a1 (fX10_rests_23 σ a1 n) x2_23 x3_23 k4_23 (fX10_rest σ ((nI k4_23) / 81) (rm ((nI k4_23) / 9) 9) (rm (nI k4_23) 9)))) else (fX10_rests_69 σ a1 (fX10_rests_23 σ a1 n) x2_23 x3_23 k4_23 (fX10_rest σ ((nI k4_23) / 81) (rm ((nI k4_23) / 9) 9) (rm (nI k4_23) 9)))) else (fX10_rests_90 σ a1 x2_23 x3_23)
def fX10_rests (σ : Mm) (a1 : Int32) : Int32 := if (fX10_in (a1.toInt64) 0 4) = true then (fX10_rests_23 σ a1 730 0 (-9) 0) else ((-2))
set_option maxRecDepth 20000 in
theorem kX10_rests (l : Launch) (D : Dm) (a1 : Int32) (σ : Mm) (hM : vp_in (σ.1 34 13) 9) : Ct l yX10_rests cX10_rests 6 (some .int) 8 D [.ref (D.2.1 33), .int a1] σ (some (.int (fX10_rests σ a1)), σ) := by
  refine ct_of (by decide +kernel) (Nat.le_of_ble_eq_true rfl) (fun X F => ?_)
  have F : Fx X l 6 D cX10_rests RX10 8 (some .int) := F
  show JJ X 6 D σ 0 [(0, .ref (D.2.1 33)), (1, .int a1)] [] (QQ X D (some (.int (fX10_rests σ a1)), σ))
  rw [fX10_rests]
  refine j_iload_n F dX10_rests_0 1 rfl 1 rfl ?_
  refine j_i2l F dX10_rests_1 2 rfl ?_
  refine j_lconst (v := 0) F dX10_rests_2 3 rfl (by decide) ?_
  refine j_ldc2 F dX10_rests_3 6 rfl qX10_181 ?_
  refine j_callSr (as := [.long (a1.toInt64), .long 0, .long 4]) (st := []) (r := .int (bi (fX10_in (a1.toInt64) 0 4))) (σ9 := σ) F zX10_in dX10_rests_6 9 rfl pX10_in rfl (by decide) (by decide) (Nat.le_of_ble_eq_true rfl) rfl qX10_58 (kX10_in l D (a1.toInt64) 0 4 σ) ?_
  refine j_ifb_ne F dX10_rests_9 15 (by decide) 12 rfl (fun c_9 => ?_) (fun c_9 => ?_)
  · rw [if_neg c_9]
    refine j_bipush (v := (-2)) F dX10_rests_12 14 rfl (by decide) ?_
    exact j_ret_i F dX10_rests_14 rfl rfl rfl
  · rw [if_pos c_9]
    refine j_iconst (v := 0) F dX10_rests_15 16 rfl (by decide) ?_
    refine j_istore_n F dX10_rests_16 17 rfl 2 rfl (by decide) [(2, .int 0), (0, .ref (D.2.1 33)), (1, .int a1)] rfl ?_
    refine j_bipush (v := (-9)) F dX10_rests_17 19 rfl (by decide) ?_
    refine j_istore_n F dX10_rests_19 20 rfl 3 rfl (by decide) [(3, .int (-9)), (2, .int 0), (0, .ref (D.2.1 33)), (1, .int a1)] rfl ?_
    refine j_iconst (v := 0) F dX10_rests_20 21 rfl (by decide) ?_
    refine j_istore F dX10_rests_21 23 rfl (by decide) [(4, .int 0), (3, .int (-9)), (2, .int 0), (0, .ref (D.2.1 33)), (1, .int a1)] rfl ?_
    have hx_90 : ∀ (x2_90 : Int32) (x3_90 : Int32), JJ X 6 D σ 90 [(1, .int a1), (2, .int x2_90), (3, .int x3_90)] [] (QQ X D (some (.int (fX10_rests_90 σ a1 x2_90 x3_90)), σ)) := by
      intro x2_90 x3_90
      rw [fX10_rests_90]
      refine j_iload_n F dX10_rests_90 91 rfl 0 rfl ?_
      have jn_99 : JJ X 6 D σ 99 [(1, .int a1), (2, .int x2_90)] [] (QQ X D (some (.int (fX10_rests_99 σ a1 x2_90)), σ)) := by
        rw [fX10_rests_99]
        refine j_iload_n F dX10_rests_99 100 rfl 0 rfl ?_
        refine j_if_ne F dX10_rests_100 107 (by decide) 103 rfl (fun c_100 => ?_) (fun c_100 => ?_)
        · rw [if_pos c_100]
          refine j_iload_n F dX10_rests_103 104 rfl 1 rfl ?_
          refine j_goto F dX10_rests_104 116 (by decide) ?_
          exact j_ret_i F dX10_rests_116 rfl rfl rfl
        · rw [if_neg c_100]
          refine j_iload_n F dX10_rests_107 108 rfl 1 rfl ?_
          refine j_if_le F dX10_rests_108 115 (by decide) 111 rfl (fun c_108 => ?_) (fun c_108 => ?_)
          · rw [if_pos c_108]
            refine j_iconst (v := 1) F dX10_rests_111 112 rfl (by decide) ?_
            refine j_goto F dX10_rests_112 116 (by decide) ?_
            exact j_ret_i F dX10_rests_116 rfl rfl rfl
          · rw [if_neg c_108]
            refine j_iconst (v := 0) F dX10_rests_115 116 rfl (by decide) ?_
            exact j_ret_i F dX10_rests_116 rfl rfl rfl
      refine j_if_eq F dX10_rests_91 99 (by decide) 94 rfl (fun c_91 => ?_) (fun c_91 => ?_)
      · rw [if_neg c_91]
        refine j_iload_n F dX10_rests_94 95 rfl 0 rfl ?_
        refine j_iconst (v := 4) F dX10_rests_95 96 rfl (by decide) ?_
        refine j_icmp_ne F dX10_rests_96 117 (by decide) 99 rfl (fun c_96 => ?_) (fun c_96 => ?_)
        · rw [if_pos c_96]
          refine j_pick [0, 1] [(1, .int a1), (2, .int x2_90)] rfl ?_
          exact jn_99
        · rw [if_neg c_96]
          refine j_iload_n F dX10_rests_117 118 rfl 2 rfl ?_
          refine j_bipush (v := (-9)) F dX10_rests_118 120 rfl (by decide) ?_
          have jn_158 : ∀ (xt0_158 : Int32), JJ X 6 D σ 158 [] [.int xt0_158] (QQ X D (some (.int (fX10_rests_158 σ a1 xt0_158)), σ)) := by
            intro xt0_158
            rw [fX10_rests_158]
            refine j_istore F dX10_rests_158 160 rfl (by decide) [(4, .int xt0_158)] rfl ?_
            refine j_iload F dX10_rests_160 162 rfl 0 rfl ?_
            refine j_if_ne F dX10_rests_162 170 (by decide) 165 rfl (fun c_162 => ?_) (fun c_162 => ?_)
            · rw [if_pos c_162]
              refine j_bipush (v := (-9)) F dX10_rests_165 167 rfl (by decide) ?_
              refine j_goto F dX10_rests_167 174 (by decide) ?_
              exact j_ret_i F dX10_rests_174 rfl rfl rfl
            · rw [if_neg c_162]
              refine j_iload F dX10_rests_170 172 rfl 0 rfl ?_
              refine j_iconst (v := 1) F dX10_rests_172 173 rfl (by decide) ?_
              refine j_isub F dX10_rests_173 174 rfl ?_
              exact j_ret_i F dX10_rests_174 rfl rfl rfl
          refine j_icmp_ne F dX10_rests_120 127 (by decide) 123 rfl (fun c_120 => ?_) (fun c_120 => ?_)
          · rw [if_pos c_120]
            refine j_iconst (v := 0) F dX10_rests_123 124 rfl (by decide) ?_
            refine j_goto F dX10_rests_124 158 (by decide) ?_
            refine j_pick [] [] rfl ?_
            exact jn_158 0
          · rw [if_neg c_120]
            refine j_iload_n F dX10_rests_127 128 rfl 0 rfl ?_
            refine j_iconst (v := 1) F dX10_rests_128 129 rfl (by decide) ?_
            refine j_icmp_ne F dX10_rests_129 139 (by decide) 132 rfl (fun c_129 => ?_) (fun c_129 => ?_)
            · rw [if_pos c_129]
              refine j_iload_n F dX10_rests_132 133 rfl 2 rfl ?_
              refine j_bipush (v := 81) F dX10_rests_133 135 rfl (by decide) ?_
              refine j_idiv F dX10_rests_135 136 rfl (by decide) ?_
              refine j_goto F dX10_rests_136 158 (by decide) ?_
              refine j_pick [] [] rfl ?_
              exact jn_158 (x3_90 / 81)
            · rw [if_neg c_129]
              refine j_iload_n F dX10_rests_139 140 rfl 0 rfl ?_
              refine j_iconst (v := 2) F dX10_rests_140 141 rfl (by decide) ?_
              refine j_icmp_ne F dX10_rests_141 154 (by decide) 144 rfl (fun c_141 => ?_) (fun c_141 => ?_)
              · rw [if_pos c_141]
                refine j_iload_n F dX10_rests_144 145 rfl 2 rfl ?_
                refine j_bipush (v := 9) F dX10_rests_145 147 rfl (by decide) ?_
                refine j_idiv F dX10_rests_147 148 rfl (by decide) ?_
                refine j_bipush (v := 9) F dX10_rests_148 150 rfl (by decide) ?_
                refine j_irem F dX10_rests_150 151 rfl (by decide) ?_
                refine j_goto F dX10_rests_151 158 (by decide) ?_
                refine j_pick [] [] rfl ?_
                exact jn_158 (rm (x3_90 / 9) 9)
              · rw [if_neg c_141]
                refine j_iload_n F dX10_rests_154 155 rfl 2 rfl ?_
                refine j_bipush (v := 9) F dX10_rests_155 157 rfl (by decide) ?_
                refine j_irem F dX10_rests_157 158 rfl (by decide) ?_
                refine j_pick [] [] rfl ?_
                exact jn_158 (rm x3_90 9)
      · rw [if_pos c_91]
        refine j_pick [0, 1] [(1, .int a1), (2, .int x2_90)] rfl ?_
        exact jn_99
    have lp_23 : ∀ (n_23 : Nat) (x2_23 : Int32) (x3_23 : Int32) (k4_23 : Nat), k4_23 ≤ 729 → 729 < k4_23 + n_23 → JJ X 6 D σ 23 [(0, .ref (D.2.1 33)), (1, .int a1), (2, .int x2_23), (3, .int x3_23), (4, .int (nI k4_23))] [] (QQ X D (some (.int (fX10_rests_23 σ a1 n_23 x2_23 x3_23 k4_23)), σ)) := by
      intro n_23
      induction n_23 with
      | zero => intro x2_23 x3_23 k4_23 hk_23 hn_23; exact absurd hn_23 (by omega)
      | succ n_23 ih_23 =>
        intro x2_23 x3_23 k4_23 hk_23 hn_23
        rw [fX10_rests_23]
        refine j_iload F dX10_rests_23 25 rfl 4 rfl ?_
        refine j_sipush (v := 729) F dX10_rests_25 28 rfl (by decide) ?_
        refine j_icmp_ge F dX10_rests_28 90 (by decide) 31 rfl (fun c_28 => ?_) (fun c_28 => ?_)
        · rw [if_pos c_28]
          have h_28 : k4_23 < 729 := nlt c_28 (by decide) (by omega)
          refine j_aload_n F dX10_rests_31 32 rfl 0 rfl ?_
          refine j_iload F dX10_rests_32 34 rfl 4 rfl ?_
          refine j_bipush (v := 81) F dX10_rests_34 36 rfl (by decide) ?_
          refine j_idiv F dX10_rests_36 37 rfl (by decide) ?_
          refine j_iload F dX10_rests_37 39 rfl 4 rfl ?_
          refine j_bipush (v := 9) F dX10_rests_39 41 rfl (by decide) ?_
          refine j_idiv F dX10_rests_41 42 rfl (by decide) ?_
          refine j_bipush (v := 9) F dX10_rests_42 44 rfl (by decide) ?_
          refine j_irem F dX10_rests_44 45 rfl (by decide) ?_
          refine j_iload F dX10_rests_45 47 rfl 4 rfl ?_
          refine j_bipush (v := 9) F dX10_rests_47 49 rfl (by decide) ?_
          refine j_irem F dX10_rests_49 50 rfl (by decide) ?_
          refine j_callVr (as := [.int ((nI k4_23) / 81), .int (rm ((nI k4_23) / 9) 9), .int (rm (nI k4_23) 9)]) (st := []) (r := .int (bi (fX10_rest σ ((nI k4_23) / 81) (rm ((nI k4_23) / 9) 9) (rm (nI k4_23) 9)))) (σ9 := σ) F zX10_rest dX10_rests_50 53 rfl pX10_rest rfl (by decide) (by decide) (Nat.le_of_ble_eq_true rfl) rfl qX10_205 rfl rfl (by decide) sh33 (kX10_rest l D ((nI k4_23) / 81) (rm ((nI k4_23) / 9) 9) (rm (nI k4_23) 9) σ (rests_1 h_28) (rests_2 h_28) (rests_3 h_28) (by first | assumption | exact isThing_in (by assumption) (by assumption) | exact vin_mono (by assumption) (by decide) | omega | decide)) ?_
          refine j_istore F dX10_rests_53 55 rfl (by decide) [(5, .int (bi (fX10_rest σ ((nI k4_23) / 81) (rm ((nI k4_23) / 9) 9) (rm (nI k4_23) 9)))), (0, .ref (D.2.1 33)), (1, .int a1), (2, .int x2_23), (3, .int x3_23), (4, .int (nI k4_23))] rfl ?_
          refine j_iload F dX10_rests_55 57 rfl 0 rfl ?_
          have jn_70 : ∀ (xt0_70 : Int32), JJ X 6 D σ 70 [(0, .ref (D.2.1 33)), (1, .int a1), (2, .int x2_23), (4, .int (nI k4_23)), (5, .int (bi (fX10_rest σ ((nI k4_23) / 81) (rm ((nI k4_23) / 9) 9) (rm (nI k4_23) 9))))] [.int xt0_70] (QQ X D (some (.int (fX10_rests_70 σ a1 (fX10_rests_23 σ a1 n_23) x2_23 k4_23 (fX10_rest σ ((nI k4_23) / 81) (rm ((nI k4_23) / 9) 9) (rm (nI k4_23) 9)) xt0_70)), σ)) := by
            intro xt0_70
            rw [fX10_rests_70]
            refine j_istore_n F dX10_rests_70 71 rfl 3 rfl (by decide) [(3, .int xt0_70), (0, .ref (D.2.1 33)), (1, .int a1), (2, .int x2_23), (4, .int (nI k4_23)), (5, .int (bi (fX10_rest σ ((nI k4_23) / 81) (rm ((nI k4_23) / 9) 9) (rm (nI k4_23) 9))))] rfl ?_
            refine j_iload_n F dX10_rests_71 72 rfl 3 rfl ?_
            refine j_iload F dX10_rests_72 74 rfl 5 rfl ?_
            refine j_ifb_eq F dX10_rests_74 81 (by decide) 77 rfl (fun c_74 => ?_) (fun c_74 => ?_)
            · rw [if_pos c_74]
              refine j_iconst (v := 1) F dX10_rests_77 78 rfl (by decide) ?_
              refine j_goto F dX10_rests_78 82 (by decide) ?_
              refine j_iadd F dX10_rests_82 83 rfl ?_
              refine j_istore_n F dX10_rests_83 84 rfl 2 rfl (by decide) [(2, .int (x2_23 + 1)), (3, .int xt0_70), (0, .ref (D.2.1 33)), (1, .int a1), (4, .int (nI k4_23)), (5, .int (bi (fX10_rest σ ((nI k4_23) / 81) (rm ((nI k4_23) / 9) 9) (rm (nI k4_23) 9))))] rfl ?_
              refine j_iinc F dX10_rests_84 87 rfl 4 rfl (nI (k4_23 + 1)) (nI_inc k4_23) (by decide) [(4, .int (nI (k4_23 + 1))), (2, .int (x2_23 + 1)), (3, .int xt0_70), (0, .ref (D.2.1 33)), (1, .int a1), (5, .int (bi (fX10_rest σ ((nI k4_23) / 81) (rm ((nI k4_23) / 9) 9) (rm (nI k4_23) 9))))] rfl ?_
              refine j_goto F dX10_rests_87 23 (by decide) ?_
              refine j_pick [3, 4, 1, 2, 0] [(0, .ref (D.2.1 33)), (1, .int a1), (2, .int (x2_23 + 1)), (3, .int xt0_70), (4, .int (nI (k4_23 + 1)))] rfl ?_
              exact ih_23 (x2_23 + 1) xt0_70 (k4_23 + 1) (by omega) (by omega)
            · rw [if_neg c_74]
              refine j_iconst (v := 0) F dX10_rests_81 82 rfl (by decide) ?_
              refine j_iadd F dX10_rests_82 83 rfl ?_
              refine j_istore_n F dX10_rests_83 84 rfl 2 rfl (by decide) [(2, .int (x2_23 + 0)), (3, .int xt0_70), (0, .ref (D.2.1 33)), (1, .int a1), (4, .int (nI k4_23)), (5, .int (bi (fX10_rest σ ((nI k4_23) / 81) (rm ((nI k4_23) / 9) 9) (rm (nI k4_23) 9))))] rfl ?_
              refine j_iinc F dX10_rests_84 87 rfl 4 rfl (nI (k4_23 + 1)) (nI_inc k4_23) (by decide) [(4, .int (nI (k4_23 + 1))), (2, .int (x2_23 + 0)), (3, .int xt0_70), (0, .ref (D.2.1 33)), (1, .int a1), (5, .int (bi (fX10_rest σ ((nI k4_23) / 81) (rm ((nI k4_23) / 9) 9) (rm (nI k4_23) 9))))] rfl ?_
              refine j_goto F dX10_rests_87 23 (by decide) ?_
              refine j_pick [3, 4, 1, 2, 0] [(0, .ref (D.2.1 33)), (1, .int a1), (2, .int (x2_23 + 0)), (3, .int xt0_70), (4, .int (nI (k4_23 + 1)))] rfl ?_
              exact ih_23 (x2_23 + 0) xt0_70 (k4_23 + 1) (by omega) (by omega)
          have jn_69 : JJ X 6 D σ 69 [(0, .ref (D.2.1 33)), (1, .int a1), (2, .int x2_23), (3, .int x3_23), (4, .int (nI k4_23)), (5, .int (bi (fX10_rest σ ((nI k4_23) / 81) (rm ((nI k4_23) / 9) 9) (rm (nI k4_23) 9))))] [] (QQ X D (some (.int (fX10_rests_69 σ a1 (fX10_rests_23 σ a1 n_23) x2_23 x3_23 k4_23 (fX10_rest σ ((nI k4_23) / 81) (rm ((nI k4_23) / 9) 9) (rm (nI k4_23) 9)))), σ)) := by
            rw [fX10_rests_69]
            refine j_iload_n F dX10_rests_69 70 rfl 3 rfl ?_
            refine j_pick [0, 1, 2, 4, 5] [(0, .ref (D.2.1 33)), (1, .int a1), (2, .int x2_23), (4, .int (nI k4_23)), (5, .int (bi (fX10_rest σ ((nI k4_23) / 81) (rm ((nI k4_23) / 9) 9) (rm (nI k4_23) 9))))] rfl ?_
            exact jn_70 x3_23
          refine j_ifb_eq F dX10_rests_57 69 (by decide) 60 rfl (fun c_57 => ?_) (fun c_57 => ?_)
          · rw [if_pos c_57]
            refine j_iload_n F dX10_rests_60 61 rfl 3 rfl ?_
            refine j_if_ne F dX10_rests_61 69 (by decide) 64 rfl (fun c_61 => ?_) (fun c_61 => ?_)
            · rw [if_pos c_61]
              refine j_iload F dX10_rests_64 66 rfl 5 rfl ?_
              refine j_goto F dX10_rests_66 70 (by decide) ?_
              refine j_pick [1, 2, 3, 5, 0] [(0, .ref (D.2.1 33)), (1, .int a1), (2, .int x2_23), (4, .int (nI k4_23)), (5, .int (bi (fX10_rest σ ((nI k4_23) / 81) (rm ((nI k4_23) / 9) 9) (rm (nI k4_23) 9))))] rfl ?_
              exact jn_70 (nI k4_23)
            · rw [if_neg c_61]
              refine j_pick [1, 2, 3, 4, 5, 0] [(0, .ref (D.2.1 33)), (1, .int a1), (2, .int x2_23), (3, .int x3_23), (4, .int (nI k4_23)), (5, .int (bi (fX10_rest σ ((nI k4_23) / 81) (rm ((nI k4_23) / 9) 9) (rm (nI k4_23) 9))))] rfl ?_
              exact jn_69
          · rw [if_neg c_57]
            refine j_pick [1, 2, 3, 4, 5, 0] [(0, .ref (D.2.1 33)), (1, .int a1), (2, .int x2_23), (3, .int x3_23), (4, .int (nI k4_23)), (5, .int (bi (fX10_rest σ ((nI k4_23) / 81) (rm ((nI k4_23) / 9) 9) (rm (nI k4_23) 9))))] rfl ?_
            exact jn_69
        · rw [if_neg c_28]
          refine j_pick [1, 2, 3] [(1, .int a1), (2, .int x2_23), (3, .int x3_23)] rfl ?_
          exact hx_90 x2_23 x3_23
    refine j_pick [3, 4, 2, 1, 0] [(0, .ref (D.2.1 33)), (1, .int a1), (2, .int 0), (3, .int (-9)), (4, .int 0)] rfl ?_
    exact lp_23 730 0 (-9) 0 (by omega) (by omega)
