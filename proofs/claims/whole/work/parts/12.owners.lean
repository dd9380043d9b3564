def fX3_gainOf (σ : Mm) (a1 : Int32) : Int32 := if 11 ≤ a1 then ((-(fX1_cost σ 22 (a1 - 11)))) else (if 1 ≤ a1 then ((fX1_worth σ 22 (a1 - 1))) else (0))
set_option maxRecDepth 20000 in
theorem kX3_gainOf (l : Launch) (D : Dm) (a1 : Int32) (σ : Mm)  : Ct l yX3_gainOf cX3_gainOf 2 (some .int) 3 D [.ref (D.2.1 21), .int a1] σ (some (.int (fX3_gainOf σ a1)), σ) := by
  refine ct_of (by decide +kernel) (Nat.le_of_ble_eq_true rfl) (fun X F => ?_)
  have F : Fx X l 2 D cX3_gainOf RX3 3 (some .int) := F
  show JJ X 2 D σ 0 [(0, .ref (D.2.1 21)), (1, .int a1)] [] (QQ X D (some (.int (fX3_gainOf σ a1)), σ))
  rw [fX3_gainOf]
  refine j_iload_n F dX3_gainOf_0 1 rfl 1 rfl ?_
  refine j_bipush (v := 11) F dX3_gainOf_1 3 rfl (by decide) ?_
  refine j_icmp_lt F dX3_gainOf_3 19 (by decide) 6 rfl (fun c_3 => ?_) (fun c_3 => ?_)
  · rw [if_pos c_3]
    refine j_aload_n F dX3_gainOf_6 7 rfl 0 rfl ?_
    refine j_get (j := 0) F dX3_gainOf_7 10 rfl inX3 rfl (by decide) sh21 (by decide) qX3_14 rfl ?_
    refine j_iload_n F dX3_gainOf_10 11 rfl 1 rfl ?_
    refine j_bipush (v := 11) F dX3_gainOf_11 13 rfl (by decide) ?_
    refine j_isub F dX3_gainOf_13 14 rfl ?_
    refine j_callVr (as := [.int (a1 - 11)]) (st := []) (r := .int (fX1_cost σ 22 (a1 - 11))) (σ9 := σ) F zX1_cost dX3_gainOf_14 17 rfl pX1_cost rfl (by decide) (by decide) (Nat.le_of_ble_eq_true rfl) rfl qX3_75 rfl rfl (gdP.lt gd22) (shG gd22) (kX1_cost l D 22 (a1 - 11) σ gd22) ?_
    refine j_ineg F dX3_gainOf_17 18 rfl ?_
    exact j_ret_i F dX3_gainOf_18 rfl rfl rfl
  · rw [if_neg c_3]
    refine j_iload_n F dX3_gainOf_19 20 rfl 1 rfl ?_
    refine j_iconst (v := 1) F dX3_gainOf_20 21 rfl (by decide) ?_
    refine j_icmp_lt F dX3_gainOf_21 37 (by decide) 24 rfl (fun c_21 => ?_) (fun c_21 => ?_)
    · rw [if_pos c_21]
      refine j_aload_n F dX3_gainOf_24 25 rfl 0 rfl ?_
      refine j_get (j := 0) F dX3_gainOf_25 28 rfl inX3 rfl (by decide) sh21 (by decide) qX3_14 rfl ?_
      refine j_iload_n F dX3_gainOf_28 29 rfl 1 rfl ?_
      refine j_iconst (v := 1) F dX3_gainOf_29 30 rfl (by decide) ?_
      refine j_isub F dX3_gainOf_30 31 rfl ?_
      refine j_callVr (as := [.int (a1 - 1)]) (st := []) (r := .int (fX1_worth σ 22 (a1 - 1))) (σ9 := σ) F zX1_worth dX3_gainOf_31 34 rfl pX1_worth rfl (by decide) (by decide) (Nat.le_of_ble_eq_true rfl) rfl qX3_72 rfl rfl (gdP.lt gd22) (shG gd22) (kX1_worth l D 22 (a1 - 1) σ gd22) ?_
      refine j_goto F dX3_gainOf_34 38 (by decide) ?_
      exact j_ret_i F dX3_gainOf_38 rfl rfl rfl
    · rw [if_neg c_21]
      refine j_iconst (v := 0) F dX3_gainOf_37 38 rfl (by decide) ?_
      exact j_ret_i F dX3_gainOf_38 rfl rfl rfl
def fX3_leadByLastTurn_9 (a1 : Int32)  : Nat → Mm → Int32 → Nat → Int32 × Mm
  | 0, s_9, _, _ => (0, s_9)
  | n + 1, s_9, x2_9, k3_9 => if (nI k3_9) < 8 then (if (a1 &&& (1 <<< ((nI k3_9) &&& 31))) = 0 then (fX3_leadByLastTurn_9 a1 n s_9 x2_9 (k3_9 + 1)) else (if x2_9 < (fX1_worth s_9 22 (nI k3_9)) then (fX3_leadByLastTurn_9 a1 n (up s_9 21 5 (1 + (nI k3_9))) (fX1_worth s_9 22 (nI k3_9)) (k3_9 + 1)) else (fX3_leadByLastTurn_9 a1 n s_9 x2_9 (k3_9 + 1)))) else ((x2_9, s_9))
def fX3_leadByLastTurn (σ : Mm) (a1 : Int32) : Int32 × Mm := fX3_leadByLastTurn_9 a1 9 (up σ 21 5 0) 0 0
set_option maxRecDepth 20000 in
theorem kX3_leadByLastTurn (l : Launch) (D : Dm) (a1 : Int32) (σ : Mm)  : Ct l yX3_leadByLastTurn cX3_leadByLastTurn 4 (some .int) 3 D [.ref (D.2.1 21), .int a1] σ (some (.int (fX3_leadByLastTurn σ a1).1), (fX3_leadByLastTurn σ a1).2) := by
  refine ct_of (by decide +kernel) (Nat.le_of_ble_eq_true rfl) (fun X F => ?_)
  have F : Fx X l 4 D cX3_leadByLastTurn RX3 3 (some .int) := F
  show JJ X 4 D σ 0 [(0, .ref (D.2.1 21)), (1, .int a1)] [] (QQ X D (some (.int (fX3_leadByLastTurn σ a1).1), (fX3_leadByLastTurn σ a1).2))
  rw [fX3_leadByLastTurn]
  refine j_iconst (v := 0) F dX3_leadByLastTurn_0 1 rfl (by decide) ?_
  refine j_istore_n F dX3_leadByLastTurn_1 2 rfl 2 rfl (by decide) [(2, .int 0), (0, .ref (D.2.1 21)), (1, .int a1)] rfl ?_
  refine j_aload_n F dX3_leadByLastTurn_2 3 rfl 1 rfl ?_
  refine j_iconst (v := 0) F dX3_leadByLastTurn_3 4 rfl (by decide) ?_
  refine j_put (j := 5) F dX3_leadByLastTurn_4 7 rfl inX3 tyX3 tyX3_ok nmX3 rfl (by decide) sh21 sh21 (by decide) qX3_53 rfl (tyX3_ok 5 (by decide)) (Nat.le_of_ble_eq_true rfl) ?_
  refine j_iconst (v := 0) F dX3_leadByLastTurn_7 8 rfl (by decide) ?_
  refine j_istore_n F dX3_leadByLastTurn_8 9 rfl 3 rfl (by decide) [(3, .int 0), (2, .int 0), (0, .ref (D.2.1 21)), (1, .int a1)] rfl ?_
  have lp_9 : ∀ (n_9 : Nat) (s_9 : Mm) (x2_9 : Int32) (k3_9 : Nat), k3_9 ≤ 8 → 8 < k3_9 + n_9 → JJ X 4 D s_9 9 [(0, .ref (D.2.1 21)), (1, .int a1), (2, .int x2_9), (3, .int (nI k3_9))] [] (QQ X D (some (.int (fX3_leadByLastTurn_9 a1 n_9 s_9 x2_9 k3_9).1), (fX3_leadByLastTurn_9 a1 n_9 s_9 x2_9 k3_9).2)) := by
    intro n_9
    induction n_9 with
    | zero => intro s_9 x2_9 k3_9 hk_9 hn_9; exact absurd hn_9 (by omega)
    | succ n_9 ih_9 =>
      intro s_9 x2_9 k3_9 hk_9 hn_9
      rw [fX3_leadByLastTurn_9]
      refine j_iload_n F dX3_leadByLastTurn_9 10 rfl 3 rfl ?_
      refine j_bipush (v := 8) F dX3_leadByLastTurn_10 12 rfl (by decide) ?_
      refine j_icmp_ge F dX3_leadByLastTurn_12 57 (by decide) 15 rfl (fun c_12 => ?_) (fun c_12 => ?_)
      · rw [if_pos c_12]
        have h_12 : k3_9 < 8 := nlt c_12 (by decide) (by omega)
        refine j_iload_n F dX3_leadByLastTurn_15 16 rfl 1 rfl ?_
        refine j_iconst (v := 1) F dX3_leadByLastTurn_16 17 rfl (by decide) ?_
        refine j_iload_n F dX3_leadByLastTurn_17 18 rfl 3 rfl ?_
        refine j_ishl F dX3_leadByLastTurn_18 19 rfl ?_
        refine j_iand F dX3_leadByLastTurn_19 20 rfl ?_
        refine j_if_eq F dX3_leadByLastTurn_20 51 (by decide) 23 rfl (fun c_20 => ?_) (fun c_20 => ?_)
        · rw [if_neg c_20]
          refine j_aload_n F dX3_leadByLastTurn_23 24 rfl 0 rfl ?_
          refine j_get (j := 0) F dX3_leadByLastTurn_24 27 rfl inX3 rfl (by decide) sh21 (by decide) qX3_14 rfl ?_
          refine j_iload_n F dX3_leadByLastTurn_27 28 rfl 3 rfl ?_
          refine j_callVr (as := [.int (nI k3_9)]) (st := []) (r := .int (fX1_worth s_9 22 (nI k3_9))) (σ9 := s_9) F zX1_worth dX3_leadByLastTurn_28 31 rfl pX1_worth rfl (by decide) (by decide) (Nat.le_of_ble_eq_true rfl) rfl qX3_72 rfl rfl (gdP.lt gd22) (shG gd22) (kX1_worth l D 22 (nI k3_9) s_9 gd22) ?_
          refine j_iload_n F dX3_leadByLastTurn_31 32 rfl 2 rfl ?_
          refine j_icmp_le F dX3_leadByLastTurn_32 51 (by decide) 35 rfl (fun c_32 => ?_) (fun c_32 => ?_)
          · rw [if_pos c_32]
            refine j_aload_n F dX3_leadByLastTurn_35 36 rfl 0 rfl ?_
            refine j_get (j := 0) F dX3_leadByLastTurn_36 39 rfl inX3 rfl (by decide) sh21 (by decide) qX3_14 rfl ?_
            refine j_iload_n F dX3_leadByLastTurn_39 40 rfl 3 rfl ?_
            refine j_callVr (as := [.int (nI k3_9)]) (st := []) (r := .int (fX1_worth s_9 22 (nI k3_9))) (σ9 := s_9) F zX1_worth dX3_leadByLastTurn_40 43 rfl pX1_worth rfl (by decide) (by decide) (Nat.le_of_ble_eq_true rfl) rfl qX3_72 rfl rfl (gdP.lt gd22) (shG gd22) (kX1_worth l D 22 (nI k3_9) s_9 gd22) ?_
            refine j_istore_n F dX3_leadByLastTurn_43 44 rfl 2 rfl (by decide) [(2, .int (fX1_worth s_9 22 (nI k3_9))), (0, .ref (D.2.1 21)), (1, .int a1), (3, .int (nI k3_9))] rfl ?_
            refine j_aload_n F dX3_leadByLastTurn_44 45 rfl 1 rfl ?_
            refine j_iconst (v := 1) F dX3_leadByLastTurn_45 46 rfl (by decide) ?_
            refine j_iload_n F dX3_leadByLastTurn_46 47 rfl 3 rfl ?_
            refine j_iadd F dX3_leadByLastTurn_47 48 rfl ?_
            refine j_put (j := 5) F dX3_leadByLastTurn_48 51 rfl inX3 tyX3 tyX3_ok nmX3 rfl (by decide) sh21 sh21 (by decide) qX3_53 rfl (tyX3_ok 5 (by decide)) (Nat.le_of_ble_eq_true rfl) ?_
            refine j_iinc F dX3_leadByLastTurn_51 54 rfl 3 rfl (nI (k3_9 + 1)) (nI_inc k3_9) (by decide) [(3, .int (nI (k3_9 + 1))), (2, .int (fX1_worth s_9 22 (nI k3_9))), (0, .ref (D.2.1 21)), (1, .int a1)] rfl ?_
            refine j_goto F dX3_leadByLastTurn_54 9 (by decide) ?_
            refine j_pick [2, 3, 1, 0] [(0, .ref (D.2.1 21)), (1, .int a1), (2, .int (fX1_worth s_9 22 (nI k3_9))), (3, .int (nI (k3_9 + 1)))] rfl ?_
            exact ih_9 (up s_9 21 5 (1 + (nI k3_9))) (fX1_worth s_9 22 (nI k3_9)) (k3_9 + 1) (by omega) (by omega)
          · rw [if_neg c_32]
            refine j_iinc F dX3_leadByLastTurn_51 54 rfl 3 rfl (nI (k3_9 + 1)) (nI_inc k3_9) (by decide) [(3, .int (nI (k3_9 + 1))), (0, .ref (D.2.1 21)), (1, .int a1), (2, .int x2_9)] rfl ?_
            refine j_goto F dX3_leadByLastTurn_54 9 (by decide) ?_
            refine j_pick [1, 2, 3, 0] [(0, .ref (D.2.1 21)), (1, .int a1), (2, .int x2_9), (3, .int (nI (k3_9 + 1)))] rfl ?_
            exact ih_9 s_9 x2_9 (k3_9 + 1) (by omega) (by omega)
        · rw [if_pos c_20]
          refine j_iinc F dX3_leadByLastTurn_51 54 rfl 3 rfl (nI (k3_9 + 1)) (nI_inc k3_9) (by decide) [(3, .int (nI (k3_9 + 1))), (0, .ref (D.2.1 21)), (1, .int a1), (2, .int x2_9)] rfl ?_
          refine j_goto F dX3_leadByLastTurn_54 9 (by decide) ?_
          refine j_pick [1, 2, 3, 0] [(0, .ref (D.2.1 21)), (1, .int a1), (2, .int x2_9), (3, .int (nI (k3_9 + 1)))] rfl ?_
          exact ih_9 s_9 x2_9 (k3_9 + 1) (by omega) (by omega)
      · rw [if_neg c_12]
        refine j_iload_n F dX3_leadByLastTurn_57 58 rfl 2 rfl ?_
        exact j_ret_i F dX3_leadByLastTurn_58 rfl rfl rfl
  refine j_pick [2, 3, 1, 0] [(0, .ref (D.2.1 21)), (1, .int a1), (2, .int 0), (3, .int 0)] rfl ?_
  exact lp_9 9 (up σ 21 5 0) 0 0 (by omega) (by omega)
def fX4_firstChoice_49 (σ : Mm) (a1 : Int32)  (x2_49 : Int32) : Int32 := if x2_49 = 0 then ((-9)) else ((x2_49 - 1))
def fX4_firstChoice (σ : Mm) (a1 : Int32) : Int32 := if (σ.1 7 4) < 0 then ((-9)) else (if a1 = 0 then (fX4_firstChoice_49 σ a1 ((σ.1 7 4) / 81)) else (if a1 = 1 then (fX4_firstChoice_49 σ a1 (rm ((σ.1 7 4) / 9) 9)) else (fX4_firstChoice_49 σ a1 (rm (σ.1 7 4) 9))))
set_option maxRecDepth 20000 in
theorem kX4_firstChoice (l : Launch) (D : Dm) (a1 : Int32) (σ : Mm)  : Ct l yX4_firstChoice cX4_firstChoice 3 (some .int) 1 D [.ref (D.2.1 7), .int a1] σ (some (.int (fX4_firstChoice σ a1)), σ) := by
  refine ct_of (by decide +kernel) (Nat.le_of_ble_eq_true rfl) (fun X F => ?_)
  have F : Fx X l 3 D cX4_firstChoice RX4 1 (some .int) := F
  show JJ X 3 D σ 0 [(0, .ref (D.2.1 7)), (1, .int a1)] [] (QQ X D (some (.int (fX4_firstChoice σ a1)), σ))
  rw [fX4_firstChoice]
  refine j_aload_n F dX4_firstChoice_0 1 rfl 0 rfl ?_
  refine j_get (j := 4) F dX4_firstChoice_1 4 rfl inX4 rfl (by decide) sh7 (by decide) qX4_41 rfl ?_
  refine j_if_ge F dX4_firstChoice_4 10 (by decide) 7 rfl (fun c_4 => ?_) (fun c_4 => ?_)
  · rw [if_pos c_4]
    refine j_bipush (v := (-9)) F dX4_firstChoice_7 9 rfl (by decide) ?_
    exact j_ret_i F dX4_firstChoice_9 rfl rfl rfl
  · rw [if_neg c_4]
    refine j_aload_n F dX4_firstChoice_10 11 rfl 0 rfl ?_
    refine j_get (j := 4) F dX4_firstChoice_11 14 rfl inX4 rfl (by decide) sh7 (by decide) qX4_41 rfl ?_
    refine j_bipush (v := 9) F dX4_firstChoice_14 16 rfl (by decide) ?_
    refine j_irem F dX4_firstChoice_16 17 rfl (by decide) ?_
    refine j_istore_n F dX4_firstChoice_17 18 rfl 2 rfl (by decide) [(2, .int (rm (σ.1 7 4) 9)), (0, .ref (D.2.1 7)), (1, .int a1)] rfl ?_
    refine j_iload_n F dX4_firstChoice_18 19 rfl 2 rfl ?_
    have jn_49 : ∀ (x2_49 : Int32), JJ X 3 D σ 49 [(2, .int x2_49)] [] (QQ X D (some (.int (fX4_firstChoice_49 σ a1 x2_49)), σ)) := by
      intro x2_49
      rw [fX4_firstChoice_49]
      refine j_iload_n F dX4_firstChoice_49 50 rfl 0 rfl ?_
      refine j_if_ne F dX4_firstChoice_50 58 (by decide) 53 rfl (fun c_50 => ?_) (fun c_50 => ?_)
      · rw [if_pos c_50]
        refine j_bipush (v := (-9)) F dX4_firstChoice_53 55 rfl (by decide) ?_
        refine j_goto F dX4_firstChoice_55 61 (by decide) ?_
        exact j_ret_i F dX4_firstChoice_61 rfl rfl rfl
      · rw [if_neg c_50]
        refine j_iload_n F dX4_firstChoice_58 59 rfl 0 rfl ?_
        refine j_iconst (v := 1) F dX4_firstChoice_59 60 rfl (by decide) ?_
        refine j_isub F dX4_firstChoice_60 61 rfl ?_
        exact j_ret_i F dX4_firstChoice_61 rfl rfl rfl
    refine j_if_ne F dX4_firstChoice_19 33 (by decide) 22 rfl (fun c_19 => ?_) (fun c_19 => ?_)
    · rw [if_pos c_19]
      refine j_aload_n F dX4_firstChoice_22 23 rfl 1 rfl ?_
      refine j_get (j := 4) F dX4_firstChoice_23 26 rfl inX4 rfl (by decide) sh7 (by decide) qX4_41 rfl ?_
      refine j_bipush (v := 81) F dX4_firstChoice_26 28 rfl (by decide) ?_
      refine j_idiv F dX4_firstChoice_28 29 rfl (by decide) ?_
      refine j_istore_n F dX4_firstChoice_29 30 rfl 2 rfl (by decide) [(2, .int ((σ.1 7 4) / 81)), (0, .ref (D.2.1 7)), (1, .int a1)] rfl ?_
      refine j_goto F dX4_firstChoice_30 49 (by decide) ?_
      refine j_pick [0] [(2, .int ((σ.1 7 4) / 81))] rfl ?_
      exact jn_49 ((σ.1 7 4) / 81)
    · rw [if_neg c_19]
      refine j_iload_n F dX4_firstChoice_33 34 rfl 2 rfl ?_
      refine j_iconst (v := 1) F dX4_firstChoice_34 35 rfl (by decide) ?_
      refine j_icmp_ne F dX4_firstChoice_35 49 (by decide) 38 rfl (fun c_35 => ?_) (fun c_35 => ?_)
      · rw [if_pos c_35]
        refine j_aload_n F dX4_firstChoice_38 39 rfl 1 rfl ?_
        refine j_get (j := 4) F dX4_firstChoice_39 42 rfl inX4 rfl (by decide) sh7 (by decide) qX4_41 rfl ?_
        refine j_bipush (v := 9) F dX4_firstChoice_42 44 rfl (by decide) ?_
        refine j_idiv F dX4_firstChoice_44 45 rfl (by decide) ?_
        refine j_bipush (v := 9) F dX4_firstChoice_45 47 rfl (by decide) ?_
        refine j_irem F dX4_firstChoice_47 48 rfl (by decide) ?_
        refine j_istore_n F dX4_firstChoice_48 49 rfl 2 rfl (by decide) [(2, .int (rm ((σ.1 7 4) / 9) 9)), (0, .ref (D.2.1 7)), (1, .int a1)] rfl ?_
        refine j_pick [0] [(2, .int (rm ((σ.1 7 4) / 9) 9))] rfl ?_
        exact jn_49 (rm ((σ.1 7 4) / 9) 9)
      · rw [if_neg c_35]
        refine j_pick [0] [(2, .int (rm (σ.1 7 4) 9))] rfl ?_
        exact jn_49 (rm (σ.1 7 4) 9)
def fX4_has (σ : Mm) (a1 : Int32) (a2 : Int32) (a3 : Int32) : Int32 := if a2 = 0 then (((fX9_at σ (10 + a1.toNatClampNeg) 256 a3) - 0)) else (((fX9_at σ (10 + a1.toNatClampNeg) 256 a3) - (fX1_cost σ 17 (a2 - 1))))
set_option maxRecDepth 20000 in
theorem kX4_has (l : Launch) (D : Dm) (a1 : Int32) (a2 : Int32) (a3 : Int32) (σ : Mm) (hv : vp_in a1 3) : Ct l yX4_has cX4_has 4 (some .int) 3 D [.ref (D.2.1 7), .int a1, .int a2, .int a3] σ (some (.int (fX4_has σ a1 a2 a3)), σ) := by
  refine ct_of (by decide +kernel) (Nat.le_of_ble_eq_true rfl) (fun X F => ?_)
  have F : Fx X l 4 D cX4_has RX4 3 (some .int) := F
  show JJ X 4 D σ 0 [(0, .ref (D.2.1 7)), (1, .int a1), (2, .int a2), (3, .int a3)] [] (QQ X D (some (.int (fX4_has σ a1 a2 a3)), σ))
  rw [fX4_has]
  refine j_aload_n F dX4_has_0 1 rfl 0 rfl ?_
  refine j_get (j := 2) F dX4_has_1 4 rfl inX4 rfl (by decide) sh7 (by decide) qX4_24 rfl ?_
  refine j_iload_n F dX4_has_4 5 rfl 1 rfl ?_
  refine j_callSNr (as := [.ref (D.2.1 9), .int a1]) (st := []) (r := .ref (D.2.1 (10 + a1.toNatClampNeg))) (σ9 := σ) F zX9_rowAt dX4_has_5 8 rfl pX9_rowAt rfl (by decide) (by decide) (Nat.le_of_ble_eq_true rfl) rfl qX4_68 (kX9_rowAt_9 l D a1 σ (by first | assumption | exact vin_c (by assumption) (by assumption) (by decide) | exact vin_d (by assumption) (by assumption) (by decide) | exact vin_k (by assumption) (by assumption) (by decide) | exact vin_mono (by assumption) (by decide) | exact vin_mono (isThing_in (by assumption) (by assumption)) (by decide))) ?_
  refine j_iload_n F dX4_has_8 9 rfl 3 rfl ?_
  refine j_callSNr (as := [.ref (D.2.1 (10 + a1.toNatClampNeg)), .int a3]) (st := []) (r := .int (fX9_at σ (10 + a1.toNatClampNeg) 256 a3)) (σ9 := σ) F zX9_at dX4_has_9 12 rfl pX9_at rfl (by decide) (by decide) (Nat.le_of_ble_eq_true rfl) rfl qX4_96 (kX9_at l D (10 + a1.toNatClampNeg) 256 a3 σ (iaQ (Or.inl ⟨rfl, rfl⟩) (by first | assumption | exact vin_c (by assumption) (by assumption) (by decide) | exact vin_d (by assumption) (by assumption) (by decide) | exact vin_k (by assumption) (by assumption) (by decide) | exact vin_mono (by assumption) (by decide) | exact vin_mono (isThing_in (by assumption) (by assumption)) (by decide)))) ?_
  refine j_iload_n F dX4_has_12 13 rfl 2 rfl ?_
  refine j_if_ne F dX4_has_13 20 (by decide) 16 rfl (fun c_13 => ?_) (fun c_13 => ?_)
  · rw [if_pos c_13]
    refine j_iconst (v := 0) F dX4_has_16 17 rfl (by decide) ?_
    refine j_goto F dX4_has_17 30 (by decide) ?_
    refine j_isub F dX4_has_30 31 rfl ?_
    exact j_ret_i F dX4_has_31 rfl rfl rfl
  · rw [if_neg c_13]
    refine j_aload_n F dX4_has_20 21 rfl 0 rfl ?_
    refine j_get (j := 0) F dX4_has_21 24 rfl inX4 rfl (by decide) sh7 (by decide) qX4_12 rfl ?_
    refine j_iload_n F dX4_has_24 25 rfl 2 rfl ?_
    refine j_iconst (v := 1) F dX4_has_25 26 rfl (by decide) ?_
    refine j_isub F dX4_has_26 27 rfl ?_
    refine j_callVr (as := [.int (a2 - 1)]) (st := [.int (fX9_at σ (10 + a1.toNatClampNeg) 256 a3)]) (r := .int (fX1_cost σ 17 (a2 - 1))) (σ9 := σ) F zX1_cost dX4_has_27 30 rfl pX1_cost rfl (by decide) (by decide) (Nat.le_of_ble_eq_true rfl) rfl qX4_112 rfl rfl (gdP.lt gd17) (shG gd17) (kX1_cost l D 17 (a2 - 1) σ gd17) ?_
    refine j_isub F dX4_has_30 31 rfl ?_
    exact j_ret_i F dX4_has_31 rfl rfl rfl
def fX4_isRest (σ : Mm) (a1 : Int32) (a2 : Int32) (a3 : Int32) : Bool := if (fX9_at σ (14 + 0) 81 ((a2 * 9) + a3)) ≤ (fX4_has σ 0 a1 ((((1 <<< (a1 &&& 31)) ||| (1 <<< (a2 &&& 31))) ||| (1 <<< (a3 &&& 31))) >>> (1 &&& 31))) then (if (fX9_at σ (14 + 1) 81 ((a1 * 9) + a3)) ≤ (fX4_has σ 1 a2 ((((1 <<< (a1 &&& 31)) ||| (1 <<< (a2 &&& 31))) ||| (1 <<< (a3 &&& 31))) >>> (1 &&& 31))) then (if (fX9_at σ (14 + 2) 81 ((a1 * 9) + a2)) ≤ (fX4_has σ 2 a3 ((((1 <<< (a1 &&& 31)) ||| (1 <<< (a2 &&& 31))) ||| (1 <<< (a3 &&& 31))) >>> (1 &&& 31))) then (true) else (false)) else (false)) else (false)
set_option maxRecDepth 20000 in
theorem kX4_isRest (l : Launch) (D : Dm) (a1 : Int32) (a2 : Int32) (a3 : Int32) (σ : Mm)  : Ct l yX4_isRest cX4_isRest 5 (some .boolean) 4 D [.ref (D.2.1 7), .int a1, .int a2, .int a3] σ (some (.int (bi (fX4_isRest σ a1 a2 a3))), σ) := by
  refine ct_of (by decide +kernel) (Nat.le_of_ble_eq_true rfl) (fun X F => ?_)
  have F : Fx X l 5 D cX4_isRest RX4 4 (some .boolean) := F
  show JJ X 5 D σ 0 [(0, .ref (D.2.1 7)), (1, .int a1), (2, .int a2), (3, .int a3)] [] (QQ X D (some (.int (bi (fX4_isRest σ a1 a2 a3))), σ))
  rw [fX4_isRest]
  refine j_iconst (v := 1) F dX4_isRest_0 1 rfl (by decide) ?_
  refine j_iload_n F dX4_isRest_1 2 rfl 1 rfl ?_
  refine j_ishl F dX4_isRest_2 3 rfl ?_
  refine j_iconst (v := 1) F dX4_isRest_3 4 rfl (by decide) ?_
  refine j_iload_n F dX4_isRest_4 5 rfl 2 rfl ?_
  refine j_ishl F dX4_isRest_5 6 rfl ?_
  refine j_ior F dX4_isRest_6 7 rfl ?_
  refine j_iconst (v := 1) F dX4_isRest_7 8 rfl (by decide) ?_
  refine j_iload_n F dX4_isRest_8 9 rfl 3 rfl ?_
  refine j_ishl F dX4_isRest_9 10 rfl ?_
  refine j_ior F dX4_isRest_10 11 rfl ?_
  refine j_iconst (v := 1) F dX4_isRest_11 12 rfl (by decide) ?_
  refine j_ishr F dX4_isRest_12 13 rfl ?_
  refine j_istore F dX4_isRest_13 15 rfl (by decide) [(4, .int ((((1 <<< (a1 &&& 31)) ||| (1 <<< (a2 &&& 31))) ||| (1 <<< (a3 &&& 31))) >>> (1 &&& 31))), (0, .ref (D.2.1 7)), (1, .int a1), (2, .int a2), (3, .int a3)] rfl ?_
  refine j_aload_n F dX4_isRest_15 16 rfl 1 rfl ?_
  refine j_iconst (v := 0) F dX4_isRest_16 17 rfl (by decide) ?_
  refine j_iload_n F dX4_isRest_17 18 rfl 2 rfl ?_
  refine j_iload F dX4_isRest_18 20 rfl 0 rfl ?_
  refine j_callVr (as := [.int 0, .int a1, .int ((((1 <<< (a1 &&& 31)) ||| (1 <<< (a2 &&& 31))) ||| (1 <<< (a3 &&& 31))) >>> (1 &&& 31))]) (st := []) (r := .int (fX4_has σ 0 a1 ((((1 <<< (a1 &&& 31)) ||| (1 <<< (a2 &&& 31))) ||| (1 <<< (a3 &&& 31))) >>> (1 &&& 31)))) (σ9 := σ) F zX4_has dX4_isRest_20 23 rfl pX4_has rfl (by decide) (by decide) (Nat.le_of_ble_eq_true rfl) rfl qX4_100 rfl rfl (by decide) sh7 (kX4_has l D 0 a1 ((((1 <<< (a1 &&& 31)) ||| (1 <<< (a2 &&& 31))) ||| (1 <<< (a3 &&& 31))) >>> (1 &&& 31)) σ (vp_in_nI (n := 0) (by decide) (by decide))) ?_
  refine j_aload_n F dX4_isRest_23 24 rfl 1 rfl ?_
  refine j_get (j := 3) F dX4_isRest_24 27 rfl inX4 rfl (by decide) sh7 (by decide) qX4_27 rfl ?_
  refine j_iconst (v := 0) F dX4_isRest_27 28 rfl (by decide) ?_
  refine j_callSNr (as := [.ref (D.2.1 13), .int 0]) (st := [.int (fX4_has σ 0 a1 ((((1 <<< (a1 &&& 31)) ||| (1 <<< (a2 &&& 31))) ||| (1 <<< (a3 &&& 31))) >>> (1 &&& 31)))]) (r := .ref (D.2.1 (14 + 0))) (σ9 := σ) F zX9_rowAt dX4_isRest_28 31 rfl pX9_rowAt rfl (by decide) (by decide) (Nat.le_of_ble_eq_true rfl) rfl qX4_68 (kX9_rowAt_13n l D 0 0 σ rfl (by decide)) ?_
  refine j_iload_n F dX4_isRest_31 32 rfl 3 rfl ?_
  refine j_bipush (v := 9) F dX4_isRest_32 34 rfl (by decide) ?_
  refine j_imul F dX4_isRest_34 35 rfl ?_
  refine j_iload_n F dX4_isRest_35 36 rfl 4 rfl ?_
  refine j_iadd F dX4_isRest_36 37 rfl ?_
  refine j_callSNr (as := [.ref (D.2.1 (14 + 0)), .int ((a2 * 9) + a3)]) (st := [.int (fX4_has σ 0 a1 ((((1 <<< (a1 &&& 31)) ||| (1 <<< (a2 &&& 31))) ||| (1 <<< (a3 &&& 31))) >>> (1 &&& 31)))]) (r := .int (fX9_at σ (14 + 0) 81 ((a2 * 9) + a3))) (σ9 := σ) F zX9_at dX4_isRest_37 40 rfl pX9_at rfl (by decide) (by decide) (Nat.le_of_ble_eq_true rfl) rfl qX4_96 (kX9_at l D (14 + 0) 81 ((a2 * 9) + a3) σ (iaQn 14 81 (Or.inr ⟨rfl, rfl⟩) (by decide))) ?_
  refine j_icmp_lt F dX4_isRest_40 103 (by decide) 43 rfl (fun c_40 => ?_) (fun c_40 => ?_)
  · rw [if_pos c_40]
    refine j_aload_n F dX4_isRest_43 44 rfl 1 rfl ?_
    refine j_iconst (v := 1) F dX4_isRest_44 45 rfl (by decide) ?_
    refine j_iload_n F dX4_isRest_45 46 rfl 3 rfl ?_
    refine j_iload F dX4_isRest_46 48 rfl 0 rfl ?_
    refine j_callVr (as := [.int 1, .int a2, .int ((((1 <<< (a1 &&& 31)) ||| (1 <<< (a2 &&& 31))) ||| (1 <<< (a3 &&& 31))) >>> (1 &&& 31))]) (st := []) (r := .int (fX4_has σ 1 a2 ((((1 <<< (a1 &&& 31)) ||| (1 <<< (a2 &&& 31))) ||| (1 <<< (a3 &&& 31))) >>> (1 &&& 31)))) (σ9 := σ) F zX4_has dX4_isRest_48 51 rfl pX4_has rfl (by decide) (by decide) (Nat.le_of_ble_eq_true rfl) rfl qX4_100 rfl rfl (by decide) sh7 (kX4_has l D 1 a2 ((((1 <<< (a1 &&& 31)) ||| (1 <<< (a2 &&& 31))) ||| (1 <<< (a3 &&& 31))) >>> (1 &&& 31)) σ (vp_in_nI (n := 1) (by decide) (by decide))) ?_
    refine j_aload_n F dX4_isRest_51 52 rfl 1 rfl ?_
    refine j_get (j := 3) F dX4_isRest_52 55 rfl inX4 rfl (by decide) sh7 (by decide) qX4_27 rfl ?_
    refine j_iconst (v := 1) F dX4_isRest_55 56 rfl (by decide) ?_
    refine j_callSNr (as := [.ref (D.2.1 13), .int 1]) (st := [.int (fX4_has σ 1 a2 ((((1 <<< (a1 &&& 31)) ||| (1 <<< (a2 &&& 31))) ||| (1 <<< (a3 &&& 31))) >>> (1 &&& 31)))]) (r := .ref (D.2.1 (14 + 1))) (σ9 := σ) F zX9_rowAt dX4_isRest_56 59 rfl pX9_rowAt rfl (by decide) (by decide) (Nat.le_of_ble_eq_true rfl) rfl qX4_68 (kX9_rowAt_13n l D 1 1 σ rfl (by decide)) ?_
    refine j_iload_n F dX4_isRest_59 60 rfl 2 rfl ?_
    refine j_bipush (v := 9) F dX4_isRest_60 62 rfl (by decide) ?_
    refine j_imul F dX4_isRest_62 63 rfl ?_
    refine j_iload_n F dX4_isRest_63 64 rfl 4 rfl ?_
    refine j_iadd F dX4_isRest_64 65 rfl ?_
    refine j_callSNr (as := [.ref (D.2.1 (14 + 1)), .int ((a1 * 9) + a3)]) (st := [.int (fX4_has σ 1 a2 ((((1 <<< (a1 &&& 31)) ||| (1 <<< (a2 &&& 31))) ||| (1 <<< (a3 &&& 31))) >>> (1 &&& 31)))]) (r := .int (fX9_at σ (14 + 1) 81 ((a1 * 9) + a3))) (σ9 := σ) F zX9_at dX4_isRest_65 68 rfl pX9_at rfl (by decide) (by decide) (Nat.le_of_ble_eq_true rfl) rfl qX4_96 (kX9_at l D (14 + 1) 81 ((a1 * 9) + a3) σ (iaQn 14 81 (Or.inr ⟨rfl, rfl⟩) (by decide))) ?_
    refine j_icmp_lt F dX4_isRest_68 103 (by decide) 71 rfl (fun c_68 => ?_) (fun c_68 => ?_)
    · rw [if_pos c_68]
      refine j_aload_n F dX4_isRest_71 72 rfl 1 rfl ?_
      refine j_iconst (v := 2) F dX4_isRest_72 73 rfl (by decide) ?_
      refine j_iload_n F dX4_isRest_73 74 rfl 4 rfl ?_
      refine j_iload F dX4_isRest_74 76 rfl 0 rfl ?_
      refine j_callVr (as := [.int 2, .int a3, .int ((((1 <<< (a1 &&& 31)) ||| (1 <<< (a2 &&& 31))) ||| (1 <<< (a3 &&& 31))) >>> (1 &&& 31))]) (st := []) (r := .int (fX4_has σ 2 a3 ((((1 <<< (a1 &&& 31)) ||| (1 <<< (a2 &&& 31))) ||| (1 <<< (a3 &&& 31))) >>> (1 &&& 31)))) (σ9 := σ) F zX4_has dX4_isRest_76 79 rfl pX4_has rfl (by decide) (by decide) (Nat.le_of_ble_eq_true rfl) rfl qX4_100 rfl rfl (by decide) sh7 (kX4_has l D 2 a3 ((((1 <<< (a1 &&& 31)) ||| (1 <<< (a2 &&& 31))) ||| (1 <<< (a3 &&& 31))) >>> (1 &&& 31)) σ (vp_in_nI (n := 2) (by decide) (by decide))) ?_
      refine j_aload_n F dX4_isRest_79 80 rfl 1 rfl ?_
      refine j_get (j := 3) F dX4_isRest_80 83 rfl inX4 rfl (by decide) sh7 (by decide) qX4_27 rfl ?_
      refine j_iconst (v := 2) F dX4_isRest_83 84 rfl (by decide) ?_
      refine j_callSNr (as := [.ref (D.2.1 13), .int 2]) (st := [.int (fX4_has σ 2 a3 ((((1 <<< (a1 &&& 31)) ||| (1 <<< (a2 &&& 31))) ||| (1 <<< (a3 &&& 31))) >>> (1 &&& 31)))]) (r := .ref (D.2.1 (14 + 2))) (σ9 := σ) F zX9_rowAt dX4_isRest_84 87 rfl pX9_rowAt rfl (by decide) (by decide) (Nat.le_of_ble_eq_true rfl) rfl qX4_68 (kX9_rowAt_13n l D 2 2 σ rfl (by decide)) ?_
      refine j_iload_n F dX4_isRest_87 88 rfl 2 rfl ?_
      refine j_bipush (v := 9) F dX4_isRest_88 90 rfl (by decide) ?_
      refine j_imul F dX4_isRest_90 91 rfl ?_
      refine j_iload_n F dX4_isRest_91 92 rfl 3 rfl ?_
      refine j_iadd F dX4_isRest_92 93 rfl ?_
      refine j_callSNr (as := [.ref (D.2.1 (14 + 2)), .int ((a1 * 9) + a2)]) (st := [.int (fX4_has σ 2 a3 ((((1 <<< (a1 &&& 31)) ||| (1 <<< (a2 &&& 31))) ||| (1 <<< (a3 &&& 31))) >>> (1 &&& 31)))]) (r := .int (fX9_at σ (14 + 2) 81 ((a1 * 9) + a2))) (σ9 := σ) F zX9_at dX4_isRest_93 96 rfl pX9_at rfl (by decide) (by decide) (Nat.le_of_ble_eq_true rfl) rfl qX4_96 (kX9_at l D (14 + 2) 81 ((a1 * 9) + a2) σ (iaQn 14 81 (Or.inr ⟨rfl, rfl⟩) (by decide))) ?_
      refine j_icmp_lt F dX4_isRest_96 103 (by decide) 99 rfl (fun c_96 => ?_) (fun c_96 => ?_)
      · rw [if_pos c_96]
        refine j_iconst (v := 1) F dX4_isRest_99 100 rfl (by decide) ?_
        refine j_goto F dX4_isRest_100 104 (by decide) ?_
        exact j_ret_b (b := true) F dX4_isRest_104 rfl rfl rfl
      · rw [if_neg c_96]
        refine j_iconst (v := 0) F dX4_isRest_103 104 rfl (by decide) ?_
        exact j_ret_b (b := false) F dX4_isRest_104 rfl rfl rfl
    · rw [if_neg c_68]
      refine j_iconst (v := 0) F dX4_isRest_103 104 rfl (by decide) ?_
      exact j_ret_b (b := false) F dX4_isRest_104 rfl rfl rfl
  · rw [if_neg c_40]
    refine j_iconst (v := 0) F dX4_isRest_103 104 rfl (by decide) ?_
    exact j_ret_b (b := false) F dX4_isRest_104 rfl rfl rfl
def fX4_mayChoose (σ : Mm) (a1 : Int32) (a2 : Int32) (a3 : Int32) : Bool := if (((((fX9_at σ 8 3 0) >>> (a1 &&& 31)) &&& ((fX9_at σ 8 3 1) >>> (a2 &&& 31))) &&& ((fX9_at σ 8 3 2) >>> (a3 &&& 31))) &&& 1) = 0 then (false) else (true)
set_option maxRecDepth 20000 in
theorem kX4_mayChoose (l : Launch) (D : Dm) (a1 : Int32) (a2 : Int32) (a3 : Int32) (σ : Mm)  : Ct l yX4_mayChoose cX4_mayChoose 4 (some .boolean) 2 D [.ref (D.2.1 7), .int a1, .int a2, .int a3] σ (some (.int (bi (fX4_mayChoose σ a1 a2 a3))), σ) := by
  refine ct_of (by decide +kernel) (Nat.le_of_ble_eq_true rfl) (fun X F => ?_)
  have F : Fx X l 4 D cX4_mayChoose RX4 2 (some .boolean) := F
  show JJ X 4 D σ 0 [(0, .ref (D.2.1 7)), (1, .int a1), (2, .int a2), (3, .int a3)] [] (QQ X D (some (.int (bi (fX4_mayChoose σ a1 a2 a3))), σ))
  rw [fX4_mayChoose]
  refine j_aload_n F dX4_mayChoose_0 1 rfl 0 rfl ?_
  refine j_get (j := 1) F dX4_mayChoose_1 4 rfl inX4 rfl (by decide) sh7 (by decide) qX4_18 rfl ?_
  refine j_iconst (v := 0) F dX4_mayChoose_4 5 rfl (by decide) ?_
  refine j_callSNr (as := [.ref (D.2.1 8), .int 0]) (st := []) (r := .int (fX9_at σ 8 3 0)) (σ9 := σ) F zX9_at dX4_mayChoose_5 8 rfl pX9_at rfl (by decide) (by decide) (Nat.le_of_ble_eq_true rfl) rfl qX4_96 (kX9_at l D 8 3 0 σ ia8) ?_
  refine j_iload_n F dX4_mayChoose_8 9 rfl 1 rfl ?_
  refine j_ishr F dX4_mayChoose_9 10 rfl ?_
  refine j_aload_n F dX4_mayChoose_10 11 rfl 0 rfl ?_
  refine j_get (j := 1) F dX4_mayChoose_11 14 rfl inX4 rfl (by decide) sh7 (by decide) qX4_18 rfl ?_
  refine j_iconst (v := 1) F dX4_mayChoose_14 15 rfl (by decide) ?_
  refine j_callSNr (as := [.ref (D.2.1 8), .int 1]) (st := [.int ((fX9_at σ 8 3 0) >>> (a1 &&& 31))]) (r := .int (fX9_at σ 8 3 1)) (σ9 := σ) F zX9_at dX4_mayChoose_15 18 rfl pX9_at rfl (by decide) (by decide) (Nat.le_of_ble_eq_true rfl) rfl qX4_96 (kX9_at l D 8 3 1 σ ia8) ?_
  refine j_iload_n F dX4_mayChoose_18 19 rfl 2 rfl ?_
  refine j_ishr F dX4_mayChoose_19 20 rfl ?_
  refine j_iand F dX4_mayChoose_20 21 rfl ?_
  refine j_aload_n F dX4_mayChoose_21 22 rfl 0 rfl ?_
  refine j_get (j := 1) F dX4_mayChoose_22 25 rfl inX4 rfl (by decide) sh7 (by decide) qX4_18 rfl ?_
  refine j_iconst (v := 2) F dX4_mayChoose_25 26 rfl (by decide) ?_
  refine j_callSNr (as := [.ref (D.2.1 8), .int 2]) (st := [.int (((fX9_at σ 8 3 0) >>> (a1 &&& 31)) &&& ((fX9_at σ 8 3 1) >>> (a2 &&& 31)))]) (r := .int (fX9_at σ 8 3 2)) (σ9 := σ) F zX9_at dX4_mayChoose_26 29 rfl pX9_at rfl (by decide) (by decide) (Nat.le_of_ble_eq_true rfl) rfl qX4_96 (kX9_at l D 8 3 2 σ ia8) ?_
  refine j_iload_n F dX4_mayChoose_29 30 rfl 3 rfl ?_
  refine j_ishr F dX4_mayChoose_30 31 rfl ?_
  refine j_iand F dX4_mayChoose_31 32 rfl ?_
  refine j_iconst (v := 1) F dX4_mayChoose_32 33 rfl (by decide) ?_
  refine j_iand F dX4_mayChoose_33 34 rfl ?_
  refine j_if_eq F dX4_mayChoose_34 41 (by decide) 37 rfl (fun c_34 => ?_) (fun c_34 => ?_)
  · rw [if_neg c_34]
    refine j_iconst (v := 1) F dX4_mayChoose_37 38 rfl (by decide) ?_
    refine j_goto F dX4_mayChoose_38 42 (by decide) ?_
    exact j_ret_b (b := true) F dX4_mayChoose_42 rfl rfl rfl
  · rw [if_pos c_34]
    refine j_iconst (v := 0) F dX4_mayChoose_41 42 rfl (by decide) ?_
    exact j_ret_b (b := false) F dX4_mayChoose_42 rfl rfl rfl
def fX4_raise (σ : Mm) (a1 : Int32) (a2 : Int32) (a3 : Int32) : Mm := (fX9_put σ (14 + a1.toNatClampNeg) 81 a2 (if (fX9_at σ (14 + a1.toNatClampNeg) 81 a2) < a3 then a3 else (fX9_at σ (14 + a1.toNatClampNeg) 81 a2)))
set_option maxRecDepth 20000 in
theorem kX4_raise (l : Launch) (D : Dm) (a1 : Int32) (a2 : Int32) (a3 : Int32) (σ : Mm) (hv : vp_in a1 3) : Ct l yX4_raise cX4_raise 5 none 2 D [.ref (D.2.1 7), .int a1, .int a2, .int a3] σ (none, fX4_raise σ a1 a2 a3) := by
  refine ct_of (by decide +kernel) (Nat.le_of_ble_eq_true rfl) (fun X F => ?_)
  have F : Fx X l 5 D cX4_raise RX4 2 none := F
  show JJ X 5 D σ 0 [(0, .ref (D.2.1 7)), (1, .int a1), (2, .int a2), (3, .int a3)] [] (QQ X D (none, fX4_raise σ a1 a2 a3))
  rw [fX4_raise]
  refine j_aload_n F dX4_raise_0 1 rfl 0 rfl ?_
  refine j_get (j := 3) F dX4_raise_1 4 rfl inX4 rfl (by decide) sh7 (by decide) qX4_27 rfl ?_
  refine j_iload_n F dX4_raise_4 5 rfl 1 rfl ?_
  refine j_callSNr (as := [.ref (D.2.1 13), .int a1]) (st := []) (r := .ref (D.2.1 (14 + a1.toNatClampNeg))) (σ9 := σ) F zX9_rowAt dX4_raise_5 8 rfl pX9_rowAt rfl (by decide) (by decide) (Nat.le_of_ble_eq_true rfl) rfl qX4_68 (kX9_rowAt_13 l D a1 σ (by first | assumption | exact vin_c (by assumption) (by assumption) (by decide) | exact vin_d (by assumption) (by assumption) (by decide) | exact vin_k (by assumption) (by assumption) (by decide) | exact vin_mono (by assumption) (by decide) | exact vin_mono (isThing_in (by assumption) (by assumption)) (by decide))) ?_
  refine j_astore F dX4_raise_8 10 rfl (by decide) [(4, .ref (D.2.1 (14 + a1.toNatClampNeg))), (0, .ref (D.2.1 7)), (1, .int a1), (2, .int a2), (3, .int a3)] rfl ?_
  refine j_aload F dX4_raise_10 12 rfl 0 rfl ?_
  refine j_iload_n F dX4_raise_12 13 rfl 3 rfl ?_
  refine j_aload F dX4_raise_13 15 rfl 0 rfl ?_
  refine j_iload_n F dX4_raise_15 16 rfl 3 rfl ?_
  refine j_callSNr (as := [.ref (D.2.1 (14 + a1.toNatClampNeg)), .int a2]) (st := [.int a2, .ref (D.2.1 (14 + a1.toNatClampNeg))]) (r := .int (fX9_at σ (14 + a1.toNatClampNeg) 81 a2)) (σ9 := σ) F zX9_at dX4_raise_16 19 rfl pX9_at rfl (by decide) (by decide) (Nat.le_of_ble_eq_true rfl) rfl qX4_96 (kX9_at l D (14 + a1.toNatClampNeg) 81 a2 σ (iaQ (Or.inr ⟨rfl, rfl⟩) (by first | assumption | exact vin_c (by assumption) (by assumption) (by decide) | exact vin_d (by assumption) (by assumption) (by decide) | exact vin_k (by assumption) (by assumption) (by decide) | exact vin_mono (by assumption) (by decide) | exact vin_mono (isThing_in (by assumption) (by assumption)) (by decide)))) ?_
  refine j_iload_n F dX4_raise_19 20 rfl 4 rfl ?_
  refine j_mmax F dX4_raise_20 23 rfl (by decide) (Nat.le_of_ble_eq_true rfl) qX4_107 mth_max.1 mth_max.2.1 mth_max.2.2 ?_
  refine j_callSNv (as := [.ref (D.2.1 (14 + a1.toNatClampNeg)), .int a2, .int (if (fX9_at σ (14 + a1.toNatClampNeg) 81 a2) < a3 then a3 else (fX9_at σ (14 + a1.toNatClampNeg) 81 a2))]) (st := []) (σ9 := (fX9_put σ (14 + a1.toNatClampNeg) 81 a2 (if (fX9_at σ (14 + a1.toNatClampNeg) 81 a2) < a3 then a3 else (fX9_at σ (14 + a1.toNatClampNeg) 81 a2)))) F zX9_put dX4_raise_23 26 rfl pX9_put rfl (by decide) (by decide) (Nat.le_of_ble_eq_true rfl) rfl qX4_64 (kX9_put l D (14 + a1.toNatClampNeg) 81 a2 (if (fX9_at σ (14 + a1.toNatClampNeg) 81 a2) < a3 then a3 else (fX9_at σ (14 + a1.toNatClampNeg) 81 a2)) σ (iaQ (Or.inr ⟨rfl, rfl⟩) (by first | assumption | exact vin_c (by assumption) (by assumption) (by decide) | exact vin_d (by assumption) (by assumption) (by decide) | exact vin_k (by assumption) (by assumption) (by decide) | exact vin_mono (by assumption) (by decide) | exact vin_mono (isThing_in (by assumption) (by assumption)) (by decide)))) ?_
  exact j_ret_v F dX4_raise_26 rfl rfl rfl
def fX4_raiseBest_53 (a1 : Int32) (a2 : Int32) (a3 : Int32)  (s_53 : Mm) (x4_53 : Int32) : Mm := (fX4_raise s_53 2 ((a1 * 9) + a2) (fX4_has s_53 2 a3 x4_53))
def fX4_raiseBest (σ : Mm) (a1 : Int32) (a2 : Int32) (a3 : Int32) : Mm := fX4_raiseBest_53 a1 a2 a3 (fX4_raise (fX4_raise σ 0 ((a2 * 9) + a3) (fX4_has σ 0 a1 ((((1 <<< (a1 &&& 31)) ||| (1 <<< (a2 &&& 31))) ||| (1 <<< (a3 &&& 31))) >>> (1 &&& 31)))) 1 ((a1 * 9) + a3) (fX4_has (fX4_raise σ 0 ((a2 * 9) + a3) (fX4_has σ 0 a1 ((((1 <<< (a1 &&& 31)) ||| (1 <<< (a2 &&& 31))) ||| (1 <<< (a3 &&& 31))) >>> (1 &&& 31)))) 1 a2 ((((1 <<< (a1 &&& 31)) ||| (1 <<< (a2 &&& 31))) ||| (1 <<< (a3 &&& 31))) >>> (1 &&& 31)))) ((((1 <<< (a1 &&& 31)) ||| (1 <<< (a2 &&& 31))) ||| (1 <<< (a3 &&& 31))) >>> (1 &&& 31))
set_option maxRecDepth 20000 in
theorem kX4_raiseBest (l : Launch) (D : Dm) (a1 : Int32) (a2 : Int32) (a3 : Int32) (σ : Mm)  : Ct l yX4_raiseBest cX4_raiseBest 5 none 4 D [.ref (D.2.1 7), .int a1, .int a2, .int a3] σ (none, fX4_raiseBest σ a1 a2 a3) := by
  refine ct_of (by decide +kernel) (Nat.le_of_ble_eq_true rfl) (fun X F => ?_)
  have F : Fx X l 5 D cX4_raiseBest RX4 4 none := F
  show JJ X 5 D σ 0 [(0, .ref (D.2.1 7)), (1, .int a1), (2, .int a2), (3, .int a3)] [] (QQ X D (none, fX4_raiseBest σ a1 a2 a3))
  rw [fX4_raiseBest]
  refine j_iconst (v := 1) F dX4_raiseBest_0 1 rfl (by decide) ?_
  refine j_iload_n F dX4_raiseBest_1 2 rfl 1 rfl ?_
  refine j_ishl F dX4_raiseBest_2 3 rfl ?_
  refine j_iconst (v := 1) F dX4_raiseBest_3 4 rfl (by decide) ?_
  refine j_iload_n F dX4_raiseBest_4 5 rfl 2 rfl ?_
  refine j_ishl F dX4_raiseBest_5 6 rfl ?_
  refine j_ior F dX4_raiseBest_6 7 rfl ?_
  refine j_iconst (v := 1) F dX4_raiseBest_7 8 rfl (by decide) ?_
  refine j_iload_n F dX4_raiseBest_8 9 rfl 3 rfl ?_
  refine j_ishl F dX4_raiseBest_9 10 rfl ?_
  refine j_ior F dX4_raiseBest_10 11 rfl ?_
  refine j_iconst (v := 1) F dX4_raiseBest_11 12 rfl (by decide) ?_
  refine j_ishr F dX4_raiseBest_12 13 rfl ?_
  refine j_istore F dX4_raiseBest_13 15 rfl (by decide) [(4, .int ((((1 <<< (a1 &&& 31)) ||| (1 <<< (a2 &&& 31))) ||| (1 <<< (a3 &&& 31))) >>> (1 &&& 31))), (0, .ref (D.2.1 7)), (1, .int a1), (2, .int a2), (3, .int a3)] rfl ?_
  refine j_aload_n F dX4_raiseBest_15 16 rfl 1 rfl ?_
  refine j_iconst (v := 0) F dX4_raiseBest_16 17 rfl (by decide) ?_
  refine j_iload_n F dX4_raiseBest_17 18 rfl 3 rfl ?_
  refine j_bipush (v := 9) F dX4_raiseBest_18 20 rfl (by decide) ?_
  refine j_imul F dX4_raiseBest_20 21 rfl ?_
  refine j_iload_n F dX4_raiseBest_21 22 rfl 4 rfl ?_
  refine j_iadd F dX4_raiseBest_22 23 rfl ?_
  refine j_aload_n F dX4_raiseBest_23 24 rfl 1 rfl ?_
  refine j_iconst (v := 0) F dX4_raiseBest_24 25 rfl (by decide) ?_
  refine j_iload_n F dX4_raiseBest_25 26 rfl 2 rfl ?_
  refine j_iload F dX4_raiseBest_26 28 rfl 0 rfl ?_
  refine j_callVr (as := [.int 0, .int a1, .int ((((1 <<< (a1 &&& 31)) ||| (1 <<< (a2 &&& 31))) ||| (1 <<< (a3 &&& 31))) >>> (1 &&& 31))]) (st := [.int ((a2 * 9) + a3), .int 0, .ref (D.2.1 7)]) (r := .int (fX4_has σ 0 a1 ((((1 <<< (a1 &&& 31)) ||| (1 <<< (a2 &&& 31))) ||| (1 <<< (a3 &&& 31))) >>> (1 &&& 31)))) (σ9 := σ) F zX4_has dX4_raiseBest_28 31 rfl pX4_has rfl (by decide) (by decide) (Nat.le_of_ble_eq_true rfl) rfl qX4_100 rfl rfl (by decide) sh7 (kX4_has l D 0 a1 ((((1 <<< (a1 &&& 31)) ||| (1 <<< (a2 &&& 31))) ||| (1 <<< (a3 &&& 31))) >>> (1 &&& 31)) σ (vp_in_nI (n := 0) (by decide) (by decide))) ?_
  refine j_callVv (as := [.int 0, .int ((a2 * 9) + a3), .int (fX4_has σ 0 a1 ((((1 <<< (a1 &&& 31)) ||| (1 <<< (a2 &&& 31))) ||| (1 <<< (a3 &&& 31))) >>> (1 &&& 31)))]) (st := []) (σ9 := (fX4_raise σ 0 ((a2 * 9) + a3) (fX4_has σ 0 a1 ((((1 <<< (a1 &&& 31)) ||| (1 <<< (a2 &&& 31))) ||| (1 <<< (a3 &&& 31))) >>> (1 &&& 31))))) F zX4_raise dX4_raiseBest_31 34 rfl pX4_raise rfl (by decide) (by decide) (Nat.le_of_ble_eq_true rfl) rfl qX4_104 rfl rfl (by decide) sh7 (kX4_raise l D 0 ((a2 * 9) + a3) (fX4_has σ 0 a1 ((((1 <<< (a1 &&& 31)) ||| (1 <<< (a2 &&& 31))) ||| (1 <<< (a3 &&& 31))) >>> (1 &&& 31))) σ (vp_in_nI (n := 0) (by decide) (by decide))) ?_
  refine j_aload_n F dX4_raiseBest_34 35 rfl 1 rfl ?_
  refine j_iconst (v := 1) F dX4_raiseBest_35 36 rfl (by decide) ?_
  refine j_iload_n F dX4_raiseBest_36 37 rfl 2 rfl ?_
  refine j_bipush (v := 9) F dX4_raiseBest_37 39 rfl (by decide) ?_
  refine j_imul F dX4_raiseBest_39 40 rfl ?_
  refine j_iload_n F dX4_raiseBest_40 41 rfl 4 rfl ?_
  refine j_iadd F dX4_raiseBest_41 42 rfl ?_
  refine j_aload_n F dX4_raiseBest_42 43 rfl 1 rfl ?_
  refine j_iconst (v := 1) F dX4_raiseBest_43 44 rfl (by decide) ?_
  refine j_iload_n F dX4_raiseBest_44 45 rfl 3 rfl ?_
  refine j_iload F dX4_raiseBest_45 47 rfl 0 rfl ?_
  refine j_callVr (as := [.int 1, .int a2, .int ((((1 <<< (a1 &&& 31)) ||| (1 <<< (a2 &&& 31))) ||| (1 <<< (a3 &&& 31))) >>> (1 &&& 31))]) (st := [.int ((a1 * 9) + a3), .int 1, .ref (D.2.1 7)]) (r := .int (fX4_has (fX4_raise σ 0 ((a2 * 9) + a3) (fX4_has σ 0 a1 ((((1 <<< (a1 &&& 31)) ||| (1 <<< (a2 &&& 31))) ||| (1 <<< (a3 &&& 31))) >>> (1 &&& 31)))) 1 a2 ((((1 <<< (a1 &&& 31)) ||| (1 <<< (a2 &&& 31))) ||| (1 <<< (a3 &&& 31))) >>> (1 &&& 31)))) (σ9 := (fX4_raise σ 0 ((a2 * 9) + a3) (fX4_has σ 0 a1 ((((1 <<< (a1 &&& 31)) ||| (1 <<< (a2 &&& 31))) ||| (1 <<< (a3 &&& 31))) >>> (1 &&& 31))))) F zX4_has dX4_raiseBest_47 50 rfl pX4_has rfl (by decide) (by decide) (Nat.le_of_ble_eq_true rfl) rfl qX4_100 rfl rfl (by decide) sh7 (kX4_has l D 1 a2 ((((1 <<< (a1 &&& 31)) ||| (1 <<< (a2 &&& 31))) ||| (1 <<< (a3 &&& 31))) >>> (1 &&& 31)) (fX4_raise σ 0 ((a2 * 9) + a3) (fX4_has σ 0 a1 ((((1 <<< (a1 &&& 31)) ||| (1 <<< (a2 &&& 31))) ||| (1 <<< (a3 &&& 31))) >>> (1 &&& 31)))) (vp_in_nI (n := 1) (by decide) (by decide))) ?_
  refine j_callVv (as := [.int 1, .int ((a1 * 9) + a3), .int (fX4_has (fX4_raise σ 0 ((a2 * 9) + a3) (fX4_has σ 0 a1 ((((1 <<< (a1 &&& 31)) ||| (1 <<< (a2 &&& 31))) ||| (1 <<< (a3 &&& 31))) >>> (1 &&& 31)))) 1 a2 ((((1 <<< (a1 &&& 31)) ||| (1 <<< (a2 &&& 31))) ||| (1 <<< (a3 &&& 31))) >>> (1 &&& 31)))]) (st := []) (σ9 := (fX4_raise (fX4_raise σ 0 ((a2 * 9) + a3) (fX4_has σ 0 a1 ((((1 <<< (a1 &&& 31)) ||| (1 <<< (a2 &&& 31))) ||| (1 <<< (a3 &&& 31))) >>> (1 &&& 31)))) 1 ((a1 * 9) + a3) (fX4_has (fX4_raise σ 0 ((a2 * 9) + a3) (fX4_has σ 0 a1 ((((1 <<< (a1 &&& 31)) ||| (1 <<< (a2 &&& 31))) ||| (1 <<< (a3 &&& 31))) >>> (1 &&& 31)))) 1 a2 ((((1 <<< (a1 &&& 31)) ||| (1 <<< (a2 &&& 31))) ||| (1 <<< (a3 &&& 31))) >>> (1 &&& 31))))) F zX4_raise dX4_raiseBest_50 53 rfl pX4_raise rfl (by decide) (by decide) (Nat.le_of_ble_eq_true rfl) rfl qX4_104 rfl rfl (by decide) sh7 (kX4_raise l D 1 ((a1 * 9) + a3) (fX4_has (fX4_raise σ 0 ((a2 * 9) + a3) (fX4_has σ 0 a1 ((((1 <<< (a1 &&& 31)) ||| (1 <<< (a2 &&& 31))) ||| (1 <<< (a3 &&& 31))) >>> (1 &&& 31)))) 1 a2 ((((1 <<< (a1 &&& 31)) ||| (1 <<< (a2 &&& 31))) ||| (1 <<< (a3 &&& 31))) >>> (1 &&& 31))) (fX4_raise σ 0 ((a2 * 9) + a3) (fX4_has σ 0 a1 ((((1 <<< (a1 &&& 31)) ||| (1 <<< (a2 &&& 31))) ||| (1 <<< (a3 &&& 31))) >>> (1 &&& 31)))) (vp_in_nI (n := 1) (by decide) (by decide))) ?_
  refine j_pick [1, 2, 3, 4, 0] [(0, .ref (D.2.1 7)), (1, .int a1), (2, .int a2), (3, .int a3), (4, .int ((((1 <<< (a1 &&& 31)) ||| (1 <<< (a2 &&& 31))) ||| (1 <<< (a3 &&& 31))) >>> (1 &&& 31)))] rfl ?_
  have jn_53 : ∀ (s_53 : Mm), JJ X 5 D s_53 53 [(0, .ref (D.2.1 7)), (1, .int a1), (2, .int a2), (3, .int a3), (4, .int ((((1 <<< (a1 &&& 31)) ||| (1 <<< (a2 &&& 31))) ||| (1 <<< (a3 &&& 31))) >>> (1 &&& 31)))] [] (QQ X D (none, fX4_raiseBest_53 a1 a2 a3 s_53 ((((1 <<< (a1 &&& 31)) ||| (1 <<< (a2 &&& 31))) ||| (1 <<< (a3 &&& 31))) >>> (1 &&& 31)))) := by
    intro s_53
    rw [fX4_raiseBest_53]
    refine j_aload_n F dX4_raiseBest_53 54 rfl 0 rfl ?_
    refine j_iconst (v := 2) F dX4_raiseBest_54 55 rfl (by decide) ?_
    refine j_iload_n F dX4_raiseBest_55 56 rfl 1 rfl ?_
    refine j_bipush (v := 9) F dX4_raiseBest_56 58 rfl (by decide) ?_
    refine j_imul F dX4_raiseBest_58 59 rfl ?_
    refine j_iload_n F dX4_raiseBest_59 60 rfl 2 rfl ?_
    refine j_iadd F dX4_raiseBest_60 61 rfl ?_
    refine j_aload_n F dX4_raiseBest_61 62 rfl 0 rfl ?_
    refine j_iconst (v := 2) F dX4_raiseBest_62 63 rfl (by decide) ?_
    refine j_iload_n F dX4_raiseBest_63 64 rfl 3 rfl ?_
    refine j_iload F dX4_raiseBest_64 66 rfl 4 rfl ?_
    refine j_callVr (as := [.int 2, .int a3, .int ((((1 <<< (a1 &&& 31)) ||| (1 <<< (a2 &&& 31))) ||| (1 <<< (a3 &&& 31))) >>> (1 &&& 31))]) (st := [.int ((a1 * 9) + a2), .int 2, .ref (D.2.1 7)]) (r := .int (fX4_has s_53 2 a3 ((((1 <<< (a1 &&& 31)) ||| (1 <<< (a2 &&& 31))) ||| (1 <<< (a3 &&& 31))) >>> (1 &&& 31)))) (σ9 := s_53) F zX4_has dX4_raiseBest_66 69 rfl pX4_has rfl (by decide) (by decide) (Nat.le_of_ble_eq_true rfl) rfl qX4_100 rfl rfl (by decide) sh7 (kX4_has l D 2 a3 ((((1 <<< (a1 &&& 31)) ||| (1 <<< (a2 &&& 31))) ||| (1 <<< (a3 &&& 31))) >>> (1 &&& 31)) s_53 (vp_in_nI (n := 2) (by decide) (by decide))) ?_
    refine j_callVv (as := [.int 2, .int ((a1 * 9) + a2), .int (fX4_has s_53 2 a3 ((((1 <<< (a1 &&& 31)) ||| (1 <<< (a2 &&& 31))) ||| (1 <<< (a3 &&& 31))) >>> (1 &&& 31)))]) (st := []) (σ9 := (fX4_raise s_53 2 ((a1 * 9) + a2) (fX4_has s_53 2 a3 ((((1 <<< (a1 &&& 31)) ||| (1 <<< (a2 &&& 31))) ||| (1 <<< (a3 &&& 31))) >>> (1 &&& 31))))) F zX4_raise dX4_raiseBest_69 72 rfl pX4_raise rfl (by decide) (by decide) (Nat.le_of_ble_eq_true rfl) rfl qX4_104 rfl rfl (by decide) sh7 (kX4_raise l D 2 ((a1 * 9) + a2) (fX4_has s_53 2 a3 ((((1 <<< (a1 &&& 31)) ||| (1 <<< (a2 &&& 31))) ||| (1 <<< (a3 &&& 31))) >>> (1 &&& 31))) s_53 (vp_in_nI (n := 2) (by decide) (by decide))) ?_
    exact j_ret_v F dX4_raiseBest_72 rfl rfl rfl
  exact jn_53 (fX4_raise (fX4_raise σ 0 ((a2 * 9) + a3) (fX4_has σ 0 a1 ((((1 <<< (a1 &&& 31)) ||| (1 <<< (a2 &&& 31))) ||| (1 <<< (a3 &&& 31))) >>> (1 &&& 31)))) 1 ((a1 * 9) + a3) (fX4_has (fX4_raise σ 0 ((a2 * 9) + a3) (fX4_has σ 0 a1 ((((1 <<< (a1 &&& 31)) ||| (1 <<< (a2 &&& 31))) ||| (1 <<< (a3 &&& 31))) >>> (1 &&& 31)))) 1 a2 ((((1 <<< (a1 &&& 31)) ||| (1 <<< (a2 &&& 31))) ||| (1 <<< (a3 &&& 31))) >>> (1 &&& 31)))) 
def fX4_tell (σ : Mm) (a1 : Int32) : Mm := if (σ.1 7 5) = 0 then ((up (up σ 7 4 a1) 7 5 (((up σ 7 4 a1).1 7 5) + 1))) else ((up (up σ 7 4 (σ.1 7 4)) 7 5 (((up σ 7 4 (σ.1 7 4)).1 7 5) + 1)))
set_option maxRecDepth 20000 in
theorem kX4_tell (l : Launch) (D : Dm) (a1 : Int32) (σ : Mm)  : Ct l yX4_tell cX4_tell 2 none 1 D [.ref (D.2.1 7), .int a1] σ (none, fX4_tell σ a1) := by
  refine ct_of (by decide +kernel) (Nat.le_of_ble_eq_true rfl) (fun X F => ?_)
  have F : Fx X l 2 D cX4_tell RX4 1 none := F
  show JJ X 2 D σ 0 [(0, .ref (D.2.1 7)), (1, .int a1)] [] (QQ X D (none, fX4_tell σ a1))
  rw [fX4_tell]
  refine j_aload_n F dX4_tell_0 1 rfl 0 rfl ?_
  refine j_aload_n F dX4_tell_1 2 rfl 0 rfl ?_
  refine j_get (j := 5) F dX4_tell_2 5 rfl inX4 rfl (by decide) sh7 (by decide) qX4_37 rfl ?_
  refine j_if_ne F dX4_tell_5 12 (by decide) 8 rfl (fun c_5 => ?_) (fun c_5 => ?_)
  · rw [if_pos c_5]
    refine j_iload_n F dX4_tell_8 9 rfl 1 rfl ?_
    refine j_goto F dX4_tell_9 16 (by decide) ?_
    refine j_put (j := 4) F dX4_tell_16 19 rfl inX4 tyX4 tyX4_ok nmX4 rfl (by decide) sh7 sh7 (by decide) qX4_41 rfl (tyX4_ok 4 (by decide)) (Nat.le_of_ble_eq_true rfl) ?_
    refine j_aload_n F dX4_tell_19 20 rfl 0 rfl ?_
    refine j_dup F dX4_tell_20 21 rfl rfl ?_
    refine j_get (j := 5) F dX4_tell_21 24 rfl inX4 rfl (by decide) sh7 (by decide) qX4_37 rfl ?_
    refine j_iconst (v := 1) F dX4_tell_24 25 rfl (by decide) ?_
    refine j_iadd F dX4_tell_25 26 rfl ?_
    refine j_put (j := 5) F dX4_tell_26 29 rfl inX4 tyX4 tyX4_ok nmX4 rfl (by decide) sh7 sh7 (by decide) qX4_37 rfl (tyX4_ok 5 (by decide)) (Nat.le_of_ble_eq_true rfl) ?_
    exact j_ret_v F dX4_tell_29 rfl rfl rfl
  · rw [if_neg c_5]
    refine j_aload_n F dX4_tell_12 13 rfl 0 rfl ?_
    refine j_get (j := 4) F dX4_tell_13 16 rfl inX4 rfl (by decide) sh7 (by decide) qX4_41 rfl ?_
    refine j_put (j := 4) F dX4_tell_16 19 rfl inX4 tyX4 tyX4_ok nmX4 rfl (by decide) sh7 sh7 (by decide) qX4_41 rfl (tyX4_ok 4 (by decide)) (Nat.le_of_ble_eq_true rfl) ?_
    refine j_aload_n F dX4_tell_19 20 rfl 0 rfl ?_
    refine j_dup F dX4_tell_20 21 rfl rfl ?_
    refine j_get (j := 5) F dX4_tell_21 24 rfl inX4 rfl (by decide) sh7 (by decide) qX4_37 rfl ?_
    refine j_iconst (v := 1) F dX4_tell_24 25 rfl (by decide) ?_
    refine j_iadd F dX4_tell_25 26 rfl ?_
    refine j_put (j := 5) F dX4_tell_26 29 rfl inX4 tyX4 tyX4_ok nmX4 rfl (by decide) sh7 sh7 (by decide) qX4_37 rfl (tyX4_ok 5 (by decide)) (Nat.le_of_ble_eq_true rfl) ?_
    exact j_ret_v F dX4_tell_29 rfl rfl rfl
def fX4_goThrough_19 (a1 : Bool) (kb2 : Mm → Nat → Mm) (kb10 : Mm → Nat → Nat → Mm) : Nat → Mm → Nat → Nat → Nat → Mm
  | 0, s_19, _, _, _ => s_19
  | n + 1, s_19, k2_19, k3_19, k4_19 => if (nI k4_19) < 9 then (if (fX4_mayChoose s_19 (nI k2_19) (nI k3_19) (nI k4_19)) = true then (if a1 = true then (if (fX4_isRest s_19 (nI k2_19) (nI k3_19) (nI k4_19)) = true then (fX4_goThrough_19 a1 kb2 kb10 n (fX4_tell s_19 (((((nI k2_19) * 9) + (nI k3_19)) * 9) + (nI k4_19))) k2_19 k3_19 (k4_19 + 1)) else (fX4_goThrough_19 a1 kb2 kb10 n s_19 k2_19 k3_19 (k4_19 + 1))) else (fX4_goThrough_19 a1 kb2 kb10 n (fX4_raiseBest s_19 (nI k2_19) (nI k3_19) (nI k4_19)) k2_19 k3_19 (k4_19 + 1))) else (fX4_goThrough_19 a1 kb2 kb10 n s_19 k2_19 k3_19 (k4_19 + 1))) else (kb10 s_19 k2_19 (k3_19 + 1))
def fX4_goThrough_10 (a1 : Bool) (kb2 : Mm → Nat → Mm) : Nat → Mm → Nat → Nat → Mm
  | 0, s_10, _, _ => s_10
  | n + 1, s_10, k2_10, k3_10 => if (nI k3_10) < 9 then (fX4_goThrough_19 a1 kb2 (fX4_goThrough_10 a1 kb2 n) 10 s_10 k2_10 k3_10 0) else (kb2 s_10 (k2_10 + 1))
def fX4_goThrough_2 (a1 : Bool)  : Nat → Mm → Nat → Mm
  | 0, s_2, _ => s_2
  | n + 1, s_2, k2_2 => if (nI k2_2) < 9 then (fX4_goThrough_10 a1 (fX4_goThrough_2 a1 n) 10 s_2 k2_2 0) else (s_2)
def fX4_goThrough (σ : Mm) (a1 : Bool) : Mm := fX4_goThrough_2 a1 10 σ 0
set_option maxRecDepth 20000 in
theorem kX4_goThrough (l : Launch) (D : Dm) (a1 : Bool) (σ : Mm)  : Ct l yX4_goThrough cX4_goThrough 5 none 5 D [.ref (D.2.1 7), .int (bi a1)] σ (none, fX4_goThrough σ a1) := by
  refine ct_of (by decide +kernel) (Nat.le_of_ble_eq_true rfl) (fun X F => ?_)
  have F : Fx X l 5 D cX4_goThrough RX4 5 none := F
  show JJ X 5 D σ 0 [(0, .ref (D.2.1 7)), (1, .int (bi a1))] [] (QQ X D (none, fX4_goThrough σ a1))
  rw [fX4_goThrough]
  refine j_iconst (v := 0) F dX4_goThrough_0 1 rfl (by decide) ?_
  refine j_istore_n F dX4_goThrough_1 2 rfl 2 rfl (by decide) [(2, .int 0), (0, .ref (D.2.1 7)), (1, .int (bi a1))] rfl ?_
  have lp_2 : ∀ (n_2 : Nat) (s_2 : Mm) (k2_2 : Nat), k2_2 ≤ 9 → 9 < k2_2 + n_2 → JJ X 5 D s_2 2 [(0, .ref (D.2.1 7)), (1, .int (bi a1)), (2, .int (nI k2_2))] [] (QQ X D (none, fX4_goThrough_2 a1 n_2 s_2 k2_2)) := by
    intro n_2
    induction n_2 with
    | zero => intro s_2 k2_2 hk_2 hn_2; exact absurd hn_2 (by omega)
    | succ n_2 ih_2 =>
      intro s_2 k2_2 hk_2 hn_2
      rw [fX4_goThrough_2]
      refine j_iload_n F dX4_goThrough_2 3 rfl 2 rfl ?_
      refine j_bipush (v := 9) F dX4_goThrough_3 5 rfl (by decide) ?_
      refine j_icmp_ge F dX4_goThrough_5 100 (by decide) 8 rfl (fun c_5 => ?_) (fun c_5 => ?_)
      · rw [if_pos c_5]
        have h_5 : k2_2 < 9 := nlt c_5 (by decide) (by omega)
        refine j_iconst (v := 0) F dX4_goThrough_8 9 rfl (by decide) ?_
        refine j_istore_n F dX4_goThrough_9 10 rfl 3 rfl (by decide) [(3, .int 0), (0, .ref (D.2.1 7)), (1, .int (bi a1)), (2, .int (nI k2_2))] rfl ?_
        have lp_10 : ∀ (n_10 : Nat) (s_10 : Mm) (k3_10 : Nat), k3_10 ≤ 9 → 9 < k3_10 + n_10 → JJ X 5 D s_10 10 [(0, .ref (D.2.1 7)), (1, .int (bi a1)), (2, .int (nI k2_2)), (3, .int (nI k3_10))] [] (QQ X D (none, fX4_goThrough_10 a1 (fX4_goThrough_2 a1 n_2) n_10 s_10 k2_2 k3_10)) := by
          intro n_10
          induction n_10 with
          | zero => intro s_10 k3_10 hk_10 hn_10; exact absurd hn_10 (by omega)
          | succ n_10 ih_10 =>
            intro s_10 k3_10 hk_10 hn_10
            rw [fX4_goThrough_10]
            refine j_iload_n F dX4_goThrough_10 11 rfl 3 rfl ?_
            refine j_bipush (v := 9) F dX4_goThrough_11 13 rfl (by decide) ?_
            refine j_icmp_ge F dX4_goThrough_13 94 (by decide) 16 rfl (fun c_13 => ?_) (fun c_13 => ?_)
            · rw [if_pos c_13]
              have h_13 : k3_10 < 9 := nlt c_13 (by decide) (by omega)
              refine j_iconst (v := 0) F dX4_goThrough_16 17 rfl (by decide) ?_
              refine j_istore F dX4_goThrough_17 19 rfl (by decide) [(4, .int 0), (0, .ref (D.2.1 7)), (1, .int (bi a1)), (2, .int (nI k2_2)), (3, .int (nI k3_10))] rfl ?_
              have lp_19 : ∀ (n_19 : Nat) (s_19 : Mm) (k4_19 : Nat), k4_19 ≤ 9 → 9 < k4_19 + n_19 → JJ X 5 D s_19 19 [(0, .ref (D.2.1 7)), (1, .int (bi a1)), (2, .int (nI k2_2)), (3, .int (nI k3_10)), (4, .int (nI k4_19))] [] (QQ X D (none, fX4_goThrough_19 a1 (fX4_goThrough_2 a1 n_2) (fX4_goThrough_10 a1 (fX4_goThrough_2 a1 n_2) n_10) n_19 s_19 k2_2 k3_10 k4_19)) := by
                intro n_19
                induction n_19 with
                | zero => intro s_19 k4_19 hk_19 hn_19; exact absurd hn_19 (by omega)
                | succ n_19 ih_19 =>
                  intro s_19 k4_19 hk_19 hn_19
                  rw [fX4_goThrough_19]
                  refine j_iload F dX4_goThrough_19 21 rfl 4 rfl ?_
                  refine j_bipush (v := 9) F dX4_goThrough_21 23 rfl (by decide) ?_
                  refine j_icmp_ge F dX4_goThrough_23 88 (by decide) 26 rfl (fun c_23 => ?_) (fun c_23 => ?_)
                  · rw [if_pos c_23]
                    have h_23 : k4_19 < 9 := nlt c_23 (by decide) (by omega)
                    refine j_aload_n F dX4_goThrough_26 27 rfl 0 rfl ?_
                    refine j_iload_n F dX4_goThrough_27 28 rfl 2 rfl ?_
                    refine j_iload_n F dX4_goThrough_28 29 rfl 3 rfl ?_
                    refine j_iload F dX4_goThrough_29 31 rfl 4 rfl ?_
                    refine j_callVr (as := [.int (nI k2_2), .int (nI k3_10), .int (nI k4_19)]) (st := []) (r := .int (bi (fX4_mayChoose s_19 (nI k2_2) (nI k3_10) (nI k4_19)))) (σ9 := s_19) F zX4_mayChoose dX4_goThrough_31 34 rfl pX4_mayChoose rfl (by decide) (by decide) (Nat.le_of_ble_eq_true rfl) rfl qX4_81 rfl rfl (by decide) sh7 (kX4_mayChoose l D (nI k2_2) (nI k3_10) (nI k4_19) s_19) ?_
                    refine j_ifb_ne F dX4_goThrough_34 40 (by decide) 37 rfl (fun c_34 => ?_) (fun c_34 => ?_)
                    · rw [if_neg c_34]
                      refine j_goto F dX4_goThrough_37 82 (by decide) ?_
                      refine j_iinc F dX4_goThrough_82 85 rfl 4 rfl (nI (k4_19 + 1)) (nI_inc k4_19) (by decide) [(4, .int (nI (k4_19 + 1))), (0, .ref (D.2.1 7)), (1, .int (bi a1)), (2, .int (nI k2_2)), (3, .int (nI k3_10))] rfl ?_
                      refine j_goto F dX4_goThrough_85 19 (by decide) ?_
                      refine j_pick [1, 2, 3, 4, 0] [(0, .ref (D.2.1 7)), (1, .int (bi a1)), (2, .int (nI k2_2)), (3, .int (nI k3_10)), (4, .int (nI (k4_19 + 1)))] rfl ?_
                      exact ih_19 s_19 (k4_19 + 1) (by omega) (by omega)
                    · rw [if_pos c_34]
                      refine j_iload_n F dX4_goThrough_40 41 rfl 1 rfl ?_
                      refine j_ifb_ne F dX4_goThrough_41 55 (by decide) 44 rfl (fun c_41 => ?_) (fun c_41 => ?_)
                      · rw [if_neg c_41]
                        refine j_aload_n F dX4_goThrough_44 45 rfl 0 rfl ?_
                        refine j_iload_n F dX4_goThrough_45 46 rfl 2 rfl ?_
                        refine j_iload_n F dX4_goThrough_46 47 rfl 3 rfl ?_
                        refine j_iload F dX4_goThrough_47 49 rfl 4 rfl ?_
                        refine j_callVv (as := [.int (nI k2_2), .int (nI k3_10), .int (nI k4_19)]) (st := []) (σ9 := (fX4_raiseBest s_19 (nI k2_2) (nI k3_10) (nI k4_19))) F zX4_raiseBest dX4_goThrough_49 52 rfl pX4_raiseBest rfl (by decide) (by decide) (Nat.le_of_ble_eq_true rfl) rfl qX4_85 rfl rfl (by decide) sh7 (kX4_raiseBest l D (nI k2_2) (nI k3_10) (nI k4_19) s_19) ?_
                        refine j_goto F dX4_goThrough_52 82 (by decide) ?_
                        refine j_iinc F dX4_goThrough_82 85 rfl 4 rfl (nI (k4_19 + 1)) (nI_inc k4_19) (by decide) [(4, .int (nI (k4_19 + 1))), (0, .ref (D.2.1 7)), (1, .int (bi a1)), (2, .int (nI k2_2)), (3, .int (nI k3_10))] rfl ?_
                        refine j_goto F dX4_goThrough_85 19 (by decide) ?_
                        refine j_pick [1, 2, 3, 4, 0] [(0, .ref (D.2.1 7)), (1, .int (bi a1)), (2, .int (nI k2_2)), (3, .int (nI k3_10)), (4, .int (nI (k4_19 + 1)))] rfl ?_
                        exact ih_19 (fX4_raiseBest s_19 (nI k2_2) (nI k3_10) (nI k4_19)) (k4_19 + 1) (by omega) (by omega)
                      · rw [if_pos c_41]
                        refine j_aload_n F dX4_goThrough_55 56 rfl 0 rfl ?_
                        refine j_iload_n F dX4_goThrough_56 57 rfl 2 rfl ?_
                        refine j_iload_n F dX4_goThrough_57 58 rfl 3 rfl ?_
                        refine j_iload F dX4_goThrough_58 60 rfl 4 rfl ?_
                        refine j_callVr (as := [.int (nI k2_2), .int (nI k3_10), .int (nI k4_19)]) (st := []) (r := .int (bi (fX4_isRest s_19 (nI k2_2) (nI k3_10) (nI k4_19)))) (σ9 := s_19) F zX4_isRest dX4_goThrough_60 63 rfl pX4_isRest rfl (by decide) (by decide) (Nat.le_of_ble_eq_true rfl) rfl qX4_89 rfl rfl (by decide) sh7 (kX4_isRest l D (nI k2_2) (nI k3_10) (nI k4_19) s_19) ?_
                        refine j_ifb_eq F dX4_goThrough_63 82 (by decide) 66 rfl (fun c_63 => ?_) (fun c_63 => ?_)
                        · rw [if_pos c_63]
                          refine j_aload_n F dX4_goThrough_66 67 rfl 0 rfl ?_
                          refine j_iload_n F dX4_goThrough_67 68 rfl 2 rfl ?_
                          refine j_bipush (v := 9) F dX4_goThrough_68 70 rfl (by decide) ?_
                          refine j_imul F dX4_goThrough_70 71 rfl ?_
                          refine j_iload_n F dX4_goThrough_71 72 rfl 3 rfl ?_
                          refine j_iadd F dX4_goThrough_72 73 rfl ?_
                          refine j_bipush (v := 9) F dX4_goThrough_73 75 rfl (by decide) ?_
                          refine j_imul F dX4_goThrough_75 76 rfl ?_
                          refine j_iload F dX4_goThrough_76 78 rfl 4 rfl ?_
                          refine j_iadd F dX4_goThrough_78 79 rfl ?_
                          refine j_callVv (as := [.int (((((nI k2_2) * 9) + (nI k3_10)) * 9) + (nI k4_19))]) (st := []) (σ9 := (fX4_tell s_19 (((((nI k2_2) * 9) + (nI k3_10)) * 9) + (nI k4_19)))) F zX4_tell dX4_goThrough_79 82 rfl pX4_tell rfl (by decide) (by decide) (Nat.le_of_ble_eq_true rfl) rfl qX4_92 rfl rfl (by decide) sh7 (kX4_tell l D (((((nI k2_2) * 9) + (nI k3_10)) * 9) + (nI k4_19)) s_19) ?_
                          refine j_iinc F dX4_goThrough_82 85 rfl 4 rfl (nI (k4_19 + 1)) (nI_inc k4_19) (by decide) [(4, .int (nI (k4_19 + 1))), (0, .ref (D.2.1 7)), (1, .int (bi a1)), (2, .int (nI k2_2)), (3, .int (nI k3_10))] rfl ?_
                          refine j_goto F dX4_goThrough_85 19 (by decide) ?_
                          refine j_pick [1, 2, 3, 4, 0] [(0, .ref (D.2.1 7)), (1, .int (bi a1)), (2, .int (nI k2_2)), (3, .int (nI k3_10)), (4, .int (nI (k4_19 + 1)))] rfl ?_
                          exact ih_19 (fX4_tell s_19 (((((nI k2_2) * 9) + (nI k3_10)) * 9) + (nI k4_19))) (k4_19 + 1) (by omega) (by omega)
                        · rw [if_neg c_63]
                          refine j_iinc F dX4_goThrough_82 85 rfl 4 rfl (nI (k4_19 + 1)) (nI_inc k4_19) (by decide) [(4, .int (nI (k4_19 + 1))), (0, .ref (D.2.1 7)), (1, .int (bi a1)), (2, .int (nI k2_2)), (3, .int (nI k3_10))] rfl ?_
                          refine j_goto F dX4_goThrough_85 19 (by decide) ?_
                          refine j_pick [1, 2, 3, 4, 0] [(0, .ref (D.2.1 7)), (1, .int (bi a1)), (2, .int (nI k2_2)), (3, .int (nI k3_10)), (4, .int (nI (k4_19 + 1)))] rfl ?_
                          exact ih_19 s_19 (k4_19 + 1) (by omega) (by omega)
                  · rw [if_neg c_23]
                    refine j_iinc F dX4_goThrough_88 91 rfl 3 rfl (nI (k3_10 + 1)) (nI_inc k3_10) (by decide) [(3, .int (nI (k3_10 + 1))), (0, .ref (D.2.1 7)), (1, .int (bi a1)), (2, .int (nI k2_2)), (4, .int (nI k4_19))] rfl ?_
                    refine j_goto F dX4_goThrough_91 10 (by decide) ?_
                    refine j_pick [1, 2, 3, 0] [(0, .ref (D.2.1 7)), (1, .int (bi a1)), (2, .int (nI k2_2)), (3, .int (nI (k3_10 + 1)))] rfl ?_
                    exact ih_10 s_19 (k3_10 + 1) (by omega) (by omega)
              refine j_pick [1, 2, 3, 4, 0] [(0, .ref (D.2.1 7)), (1, .int (bi a1)), (2, .int (nI k2_2)), (3, .int (nI k3_10)), (4, .int 0)] rfl ?_
              exact lp_19 10 s_10 0 (by omega) (by omega)
            · rw [if_neg c_13]
              refine j_iinc F dX4_goThrough_94 97 rfl 2 rfl (nI (k2_2 + 1)) (nI_inc k2_2) (by decide) [(2, .int (nI (k2_2 + 1))), (0, .ref (D.2.1 7)), (1, .int (bi a1)), (3, .int (nI k3_10))] rfl ?_
              refine j_goto F dX4_goThrough_97 2 (by decide) ?_
              refine j_pick [1, 2, 0] [(0, .ref (D.2.1 7)), (1, .int (bi a1)), (2, .int (nI (k2_2 + 1)))] rfl ?_
              exact ih_2 s_10 (k2_2 + 1) (by omega) (by omega)
        refine j_pick [1, 2, 3, 0] [(0, .ref (D.2.1 7)), (1, .int (bi a1)), (2, .int (nI k2_2)), (3, .int 0)] rfl ?_
        exact lp_10 10 s_2 0 (by omega) (by omega)
      · rw [if_neg c_5]
        exact j_ret_v F dX4_goThrough_100 rfl rfl rfl
  refine j_pick [1, 2, 0] [(0, .ref (D.2.1 7)), (1, .int (bi a1)), (2, .int 0)] rfl ?_
  exact lp_2 10 σ 0 (by omega) (by omega)
def fX4_learn_158 (h1 : Nat) (a2 : Int32)  : Nat → Mm → Nat → Mm
  | 0, s_158, _ => s_158
  | n + 1, s_158, k8_158 => if (nI k8_158) < 81 then (fX4_learn_158 h1 a2 n (fX9_put s_158 (14 + a2.toNatClampNeg) 81 (nI k8_158) (-1000)) (k8_158 + 1)) else (s_158)
def fX4_learn_145 (h1 : Nat) (a2 : Int32)  (s_145 : Mm) : Mm := fX4_learn_158 h1 a2 82 s_145 0
def fX4_learn_90 (h1 : Nat) (a2 : Int32)  : Nat → Mm → Int32 → Int32 → Int32 → Nat → Mm
  | 0, s_90, _, _, _, _ => s_90
  | n + 1, s_90, x3_90, x4_90, x5_90, k7_90 => if (nI k7_90) < 256 then (if ((nI k7_90) &&& (x4_90 ^^^ (-1))) = 0 then (if (fJ6_bitCount (nI k7_90)) ≤ 3 then (fX4_learn_90 h1 a2 n (fX9_put s_90 (10 + a2.toNatClampNeg) 256 (nI k7_90) (fX1_pricesAmong s_90 17 x5_90 (x3_90 &&& ((nI k7_90) ^^^ (-1))))) x3_90 x4_90 x5_90 (k7_90 + 1)) else (fX4_learn_90 h1 a2 n s_90 x3_90 x4_90 x5_90 (k7_90 + 1))) else (fX4_learn_90 h1 a2 n s_90 x3_90 x4_90 x5_90 (k7_90 + 1))) else (fX4_learn_145 h1 a2 s_90)
def fX4_learn_58 (h1 : Nat) (a2 : Int32)  (s_58 : Mm) (x3_58 : Int32) (x4_58 : Int32) (x5_58 : Int32) : Mm := fX4_learn_90 h1 a2 257 (fX9_put s_58 8 3 a2 (((x4_58 &&& (x5_58 ^^^ (-1))) <<< (1 &&& 31)) ||| 1)) x3_58 x4_58 x5_58 0
def mX4_learn_19 (h1 : Nat) (a2 : Int32) (s_19 : Mm) : Nat := ((s_19.1 h1 1) : Int32).toNatClampNeg
def fX4_learn_19 (h1 : Nat) (a2 : Int32)  : Nat → Mm → Int32 → Int32 → Int32 → Nat → Mm
  | 0, s_19, _, _, _, _ => s_19
  | n + 1, s_19, x3_19, x4_19, x5_19, k6_19 => if (nI k6_19) < (s_19.1 h1 1) then (if (fX2_figure s_19 h1 (nI k6_19) 4) = a2 then (fX4_learn_19 h1 a2 n s_19 x3_19 x4_19 (x5_19 ||| (1 <<< ((nI k6_19) &&& 31))) (k6_19 + 1)) else (fX4_learn_19 h1 a2 n s_19 x3_19 x4_19 (x5_19 ||| 0) (k6_19 + 1))) else (fX4_learn_58 h1 a2 s_19 x3_19 x4_19 x5_19)
def fX4_learn (σ : Mm) (h1 : Nat) (a2 : Int32) : Mm := fX4_learn_19 h1 a2 (mX4_learn_19 h1 a2 σ + 1) σ (fX2_shown σ h1) ((fX2_shown σ h1) &&& (fX2_breakable σ h1)) 0 0
set_option maxRecDepth 20000 in
theorem kX4_learn (l : Launch) (D : Dm) (h1 : Nat) (a2 : Int32) (σ : Mm) (hh1 : hsP h1) (hv : vp_in a2 3) : Ct l yX4_learn cX4_learn 9 none 4 D [.ref (D.2.1 7), .ref (D.2.1 h1), .int a2] σ (none, fX4_learn σ h1 a2) := by
  refine ct_of (by decide +kernel) (Nat.le_of_ble_eq_true rfl) (fun X F => ?_)
  have F : Fx X l 9 D cX4_learn RX4 4 none := F
  show JJ X 9 D σ 0 [(0, .ref (D.2.1 7)), (1, .ref (D.2.1 h1)), (2, .int a2)] [] (QQ X D (none, fX4_learn σ h1 a2))
  rw [fX4_learn]
  refine j_aload_n F dX4_learn_0 1 rfl 1 rfl ?_
  refine j_callVr (as := []) (st := []) (r := .int (fX2_shown σ h1)) (σ9 := σ) F zX2_shown dX4_learn_1 4 rfl pX2_shown rfl (by decide) (by decide) (Nat.le_of_ble_eq_true rfl) rfl qX4_48 rfl rfl (hsP.lt hh1) (shH hh1) (kX2_shown l D h1 σ hh1) ?_
  refine j_istore_n F dX4_learn_4 5 rfl 3 rfl (by decide) [(3, .int (fX2_shown σ h1)), (0, .ref (D.2.1 7)), (1, .ref (D.2.1 h1)), (2, .int a2)] rfl ?_
  refine j_iload_n F dX4_learn_5 6 rfl 0 rfl ?_
  refine j_aload_n F dX4_learn_6 7 rfl 2 rfl ?_
  refine j_callVr (as := []) (st := [.int (fX2_shown σ h1)]) (r := .int (fX2_breakable σ h1)) (σ9 := σ) F zX2_breakable dX4_learn_7 10 rfl pX2_breakable rfl (by decide) (by decide) (Nat.le_of_ble_eq_true rfl) rfl qX4_54 rfl rfl (hsP.lt hh1) (shH hh1) (kX2_breakable l D h1 σ hh1) ?_
  refine j_iand F dX4_learn_10 11 rfl ?_
  refine j_istore F dX4_learn_11 13 rfl (by decide) [(4, .int ((fX2_shown σ h1) &&& (fX2_breakable σ h1))), (3, .int (fX2_shown σ h1)), (0, .ref (D.2.1 7)), (1, .ref (D.2.1 h1)), (2, .int a2)] rfl ?_
  refine j_iconst (v := 0) F dX4_learn_13 14 rfl (by decide) ?_
  refine j_istore F dX4_learn_14 16 rfl (by decide) [(5, .int 0), (4, .int ((fX2_shown σ h1) &&& (fX2_breakable σ h1))), (3, .int (fX2_shown σ h1)), (0, .ref (D.2.1 7)), (1, .ref (D.2.1 h1)), (2, .int a2)] rfl ?_
  refine j_iconst (v := 0) F dX4_learn_16 17 rfl (by decide) ?_
  refine j_istore F dX4_learn_17 19 rfl (by decide) [(6, .int 0), (5, .int 0), (4, .int ((fX2_shown σ h1) &&& (fX2_breakable σ h1))), (3, .int (fX2_shown σ h1)), (0, .ref (D.2.1 7)), (1, .ref (D.2.1 h1)), (2, .int a2)] rfl ?_
  have hx_58 : ∀ (x5_58 : Int32), JJ X 9 D σ 58 [(0, .ref (D.2.1 7)), (2, .int a2), (3, .int (fX2_shown σ h1)), (4, .int ((fX2_shown σ h1) &&& (fX2_breakable σ h1))), (5, .int x5_58)] [] (QQ X D (none, fX4_learn_58 h1 a2 σ (fX2_shown σ h1) ((fX2_shown σ h1) &&& (fX2_breakable σ h1)) x5_58)) := by
    intro x5_58
    rw [fX4_learn_58]
    refine j_aload_n F dX4_learn_58 59 rfl 0 rfl ?_
    refine j_get (j := 1) F dX4_learn_59 62 rfl inX4 rfl (by decide) sh7 (by decide) qX4_18 rfl ?_
    refine j_iload_n F dX4_learn_62 63 rfl 1 rfl ?_
    refine j_iload F dX4_learn_63 65 rfl 3 rfl ?_
    refine j_iload F dX4_learn_65 67 rfl 4 rfl ?_
    refine j_iconst (v := (-1)) F dX4_learn_67 68 rfl (by decide) ?_
    refine j_ixor F dX4_learn_68 69 rfl ?_
    refine j_iand F dX4_learn_69 70 rfl ?_
    refine j_iconst (v := 1) F dX4_learn_70 71 rfl (by decide) ?_
    refine j_ishl F dX4_learn_71 72 rfl ?_
    refine j_iconst (v := 1) F dX4_learn_72 73 rfl (by decide) ?_
    refine j_ior F dX4_learn_73 74 rfl ?_
    refine j_callSNv (as := [.ref (D.2.1 8), .int a2, .int (((((fX2_shown σ h1) &&& (fX2_breakable σ h1)) &&& (x5_58 ^^^ (-1))) <<< (1 &&& 31)) ||| 1)]) (st := []) (σ9 := (fX9_put σ 8 3 a2 (((((fX2_shown σ h1) &&& (fX2_breakable σ h1)) &&& (x5_58 ^^^ (-1))) <<< (1 &&& 31)) ||| 1))) F zX9_put dX4_learn_74 77 rfl pX9_put rfl (by decide) (by decide) (Nat.le_of_ble_eq_true rfl) rfl qX4_64 (kX9_put l D 8 3 a2 (((((fX2_shown σ h1) &&& (fX2_breakable σ h1)) &&& (x5_58 ^^^ (-1))) <<< (1 &&& 31)) ||| 1) σ ia8) ?_
    refine j_aload_n F dX4_learn_77 78 rfl 0 rfl ?_
    refine j_get (j := 2) F dX4_learn_78 81 rfl inX4 rfl (by decide) sh7 (by decide) qX4_24 rfl ?_
    refine j_iload_n F dX4_learn_81 82 rfl 1 rfl ?_
    refine j_callSNr (as := [.ref (D.2.1 9), .int a2]) (st := []) (r := .ref (D.2.1 (10 + a2.toNatClampNeg))) (σ9 := (fX9_put σ 8 3 a2 (((((fX2_shown σ h1) &&& (fX2_breakable σ h1)) &&& (x5_58 ^^^ (-1))) <<< (1 &&& 31)) ||| 1))) F zX9_rowAt dX4_learn_82 85 rfl pX9_rowAt rfl (by decide) (by decide) (Nat.le_of_ble_eq_true rfl) rfl qX4_68 (kX9_rowAt_9 l D a2 (fX9_put σ 8 3 a2 (((((fX2_shown σ h1) &&& (fX2_breakable σ h1)) &&& (x5_58 ^^^ (-1))) <<< (1 &&& 31)) ||| 1)) (by first | assumption | exact vin_c (by assumption) (by assumption) (by decide) | exact vin_d (by assumption) (by assumption) (by decide) | exact vin_k (by assumption) (by assumption) (by decide) | exact vin_mono (by assumption) (by decide) | exact vin_mono (isThing_in (by assumption) (by assumption)) (by decide))) ?_
    refine j_astore F dX4_learn_85 87 rfl (by decide) [(6, .ref (D.2.1 (10 + a2.toNatClampNeg))), (0, .ref (D.2.1 7)), (2, .int a2), (3, .int (fX2_shown σ h1)), (4, .int ((fX2_shown σ h1) &&& (fX2_breakable σ h1))), (5, .int x5_58)] rfl ?_
    refine j_iconst (v := 0) F dX4_learn_87 88 rfl (by decide) ?_
    refine j_istore F dX4_learn_88 90 rfl (by decide) [(7, .int 0), (6, .ref (D.2.1 (10 + a2.toNatClampNeg))), (0, .ref (D.2.1 7)), (2, .int a2), (3, .int (fX2_shown σ h1)), (4, .int ((fX2_shown σ h1) &&& (fX2_breakable σ h1))), (5, .int x5_58)] rfl ?_
    have hx_145 : ∀ (s_145 : Mm), JJ X 9 D s_145 145 [(0, .ref (D.2.1 7)), (2, .int a2)] [] (QQ X D (none, fX4_learn_145 h1 a2 s_145)) := by
      intro s_145
      rw [fX4_learn_145]
      refine j_aload_n F dX4_learn_145 146 rfl 0 rfl ?_
      refine j_get (j := 3) F dX4_learn_146 149 rfl inX4 rfl (by decide) sh7 (by decide) qX4_27 rfl ?_
      refine j_iload_n F dX4_learn_149 150 rfl 1 rfl ?_
      refine j_callSNr (as := [.ref (D.2.1 13), .int a2]) (st := []) (r := .ref (D.2.1 (14 + a2.toNatClampNeg))) (σ9 := s_145) F zX9_rowAt dX4_learn_150 153 rfl pX9_rowAt rfl (by decide) (by decide) (Nat.le_of_ble_eq_true rfl) rfl qX4_68 (kX9_rowAt_13 l D a2 s_145 (by first | assumption | exact vin_c (by assumption) (by assumption) (by decide) | exact vin_d (by assumption) (by assumption) (by decide) | exact vin_k (by assumption) (by assumption) (by decide) | exact vin_mono (by assumption) (by decide) | exact vin_mono (isThing_in (by assumption) (by assumption)) (by decide))) ?_
      refine j_astore F dX4_learn_153 155 rfl (by decide) [(7, .ref (D.2.1 (14 + a2.toNatClampNeg))), (0, .ref (D.2.1 7)), (2, .int a2)] rfl ?_
      refine j_iconst (v := 0) F dX4_learn_155 156 rfl (by decide) ?_
      refine j_istore F dX4_learn_156 158 rfl (by decide) [(8, .int 0), (7, .ref (D.2.1 (14 + a2.toNatClampNeg))), (0, .ref (D.2.1 7)), (2, .int a2)] rfl ?_
      have lp_158 : ∀ (n_158 : Nat) (s_158 : Mm) (k8_158 : Nat), k8_158 ≤ 81 → 81 < k8_158 + n_158 → JJ X 9 D s_158 158 [(7, .ref (D.2.1 (14 + a2.toNatClampNeg))), (8, .int (nI k8_158))] [] (QQ X D (none, fX4_learn_158 h1 a2 n_158 s_158 k8_158)) := by
        intro n_158
        induction n_158 with
        | zero => intro s_158 k8_158 hk_158 hn_158; exact absurd hn_158 (by omega)
        | succ n_158 ih_158 =>
          intro s_158 k8_158 hk_158 hn_158
          rw [fX4_learn_158]
          refine j_iload F dX4_learn_158 160 rfl 1 rfl ?_
          refine j_bipush (v := 81) F dX4_learn_160 162 rfl (by decide) ?_
          refine j_icmp_ge F dX4_learn_162 181 (by decide) 165 rfl (fun c_162 => ?_) (fun c_162 => ?_)
          · rw [if_pos c_162]
            have h_162 : k8_158 < 81 := nlt c_162 (by decide) (by omega)
            refine j_aload F dX4_learn_165 167 rfl 0 rfl ?_
            refine j_iload F dX4_learn_167 169 rfl 1 rfl ?_
            refine j_sipush (v := (-1000)) F dX4_learn_169 172 rfl (by decide) ?_
            refine j_callSNv (as := [.ref (D.2.1 (14 + a2.toNatClampNeg)), .int (nI k8_158), .int (-1000)]) (st := []) (σ9 := (fX9_put s_158 (14 + a2.toNatClampNeg) 81 (nI k8_158) (-1000))) F zX9_put dX4_learn_172 175 rfl pX9_put rfl (by decide) (by decide) (Nat.le_of_ble_eq_true rfl) rfl qX4_64 (kX9_put l D (14 + a2.toNatClampNeg) 81 (nI k8_158) (-1000) s_158 (iaQ (Or.inr ⟨rfl, rfl⟩) (by first | assumption | exact vin_c (by assumption) (by assumption) (by decide) | exact vin_d (by assumption) (by assumption) (by decide) | exact vin_k (by assumption) (by assumption) (by decide) | exact vin_mono (by assumption) (by decide) | exact vin_mono (isThing_in (by assumption) (by assumption)) (by decide)))) ?_
            refine j_iinc F dX4_learn_175 178 rfl 1 rfl (nI (k8_158 + 1)) (nI_inc k8_158) (by decide) [(8, .int (nI (k8_158 + 1))), (7, .ref (D.2.1 (14 + a2.toNatClampNeg)))] rfl ?_
            refine j_goto F dX4_learn_178 158 (by decide) ?_
            refine j_pick [1, 0] [(7, .ref (D.2.1 (14 + a2.toNatClampNeg))), (8, .int (nI (k8_158 + 1)))] rfl ?_
            exact ih_158 (fX9_put s_158 (14 + a2.toNatClampNeg) 81 (nI k8_158) (-1000)) (k8_158 + 1) (by omega) (by omega)
          · rw [if_neg c_162]
            exact j_ret_v F dX4_learn_181 rfl rfl rfl
      refine j_pick [1, 0] [(7, .ref (D.2.1 (14 + a2.toNatClampNeg))), (8, .int 0)] rfl ?_
      exact lp_158 82 s_145 0 (by omega) (by omega)
    have lp_90 : ∀ (n_90 : Nat) (s_90 : Mm) (k7_90 : Nat), k7_90 ≤ 256 → 256 < k7_90 + n_90 → JJ X 9 D s_90 90 [(0, .ref (D.2.1 7)), (2, .int a2), (3, .int (fX2_shown σ h1)), (4, .int ((fX2_shown σ h1) &&& (fX2_breakable σ h1))), (5, .int x5_58), (6, .ref (D.2.1 (10 + a2.toNatClampNeg))), (7, .int (nI k7_90))] [] (QQ X D (none, fX4_learn_90 h1 a2 n_90 s_90 (fX2_shown σ h1) ((fX2_shown σ h1) &&& (fX2_breakable σ h1)) x5_58 k7_90)) := by
      intro n_90
      induction n_90 with
      | zero => intro s_90 k7_90 hk_90 hn_90; exact absurd hn_90 (by omega)
      | succ n_90 ih_90 =>
        intro s_90 k7_90 hk_90 hn_90
        rw [fX4_learn_90]
        refine j_iload F dX4_learn_90 92 rfl 6 rfl ?_
        refine j_sipush (v := 256) F dX4_learn_92 95 rfl (by decide) ?_
        refine j_icmp_ge F dX4_learn_95 145 (by decide) 98 rfl (fun c_95 => ?_) (fun c_95 => ?_)
        · rw [if_pos c_95]
          have h_95 : k7_90 < 256 := nlt c_95 (by decide) (by omega)
          refine j_iload F dX4_learn_98 100 rfl 6 rfl ?_
          refine j_iload F dX4_learn_100 102 rfl 3 rfl ?_
          refine j_iconst (v := (-1)) F dX4_learn_102 103 rfl (by decide) ?_
          refine j_ixor F dX4_learn_103 104 rfl ?_
          refine j_iand F dX4_learn_104 105 rfl ?_
          refine j_if_ne F dX4_learn_105 139 (by decide) 108 rfl (fun c_105 => ?_) (fun c_105 => ?_)
          · rw [if_pos c_105]
            refine j_iload F dX4_learn_108 110 rfl 6 rfl ?_
            refine j_callSr (as := [.int (nI k7_90)]) (st := []) (r := .int (fJ6_bitCount (nI k7_90))) (σ9 := s_90) F zJ6_bitCount dX4_learn_110 113 rfl pJ6_bitCount rfl (by decide) (by decide) (Nat.le_of_ble_eq_true rfl) rfl qX4_72 (kJ6_bitCount l D (nI k7_90) s_90) ?_
            refine j_iconst (v := 3) F dX4_learn_113 114 rfl (by decide) ?_
            refine j_icmp_gt F dX4_learn_114 139 (by decide) 117 rfl (fun c_114 => ?_) (fun c_114 => ?_)
            · rw [if_pos c_114]
              refine j_aload F dX4_learn_117 119 rfl 5 rfl ?_
              refine j_iload F dX4_learn_119 121 rfl 6 rfl ?_
              refine j_aload_n F dX4_learn_121 122 rfl 0 rfl ?_
              refine j_get (j := 0) F dX4_learn_122 125 rfl inX4 rfl (by decide) sh7 (by decide) qX4_12 rfl ?_
              refine j_iload F dX4_learn_125 127 rfl 4 rfl ?_
              refine j_iload_n F dX4_learn_127 128 rfl 2 rfl ?_
              refine j_iload F dX4_learn_128 130 rfl 6 rfl ?_
              refine j_iconst (v := (-1)) F dX4_learn_130 131 rfl (by decide) ?_
              refine j_ixor F dX4_learn_131 132 rfl ?_
              refine j_iand F dX4_learn_132 133 rfl ?_
              refine j_callVr (as := [.int x5_58, .int ((fX2_shown σ h1) &&& ((nI k7_90) ^^^ (-1)))]) (st := [.int (nI k7_90), .ref (D.2.1 (10 + a2.toNatClampNeg))]) (r := .int (fX1_pricesAmong s_90 17 x5_58 ((fX2_shown σ h1) &&& ((nI k7_90) ^^^ (-1))))) (σ9 := s_90) F zX1_pricesAmong dX4_learn_133 136 rfl pX1_pricesAmong rfl (by decide) (by decide) (Nat.le_of_ble_eq_true rfl) rfl qX4_78 rfl rfl (gdP.lt gd17) (shG gd17) (kX1_pricesAmong l D 17 x5_58 ((fX2_shown σ h1) &&& ((nI k7_90) ^^^ (-1))) s_90 gd17) ?_
              refine j_callSNv (as := [.ref (D.2.1 (10 + a2.toNatClampNeg)), .int (nI k7_90), .int (fX1_pricesAmong s_90 17 x5_58 ((fX2_shown σ h1) &&& ((nI k7_90) ^^^ (-1))))]) (st := []) (σ9 := (fX9_put s_90 (10 + a2.toNatClampNeg) 256 (nI k7_90) (fX1_pricesAmong s_90 17 x5_58 ((fX2_shown σ h1) &&& ((nI k7_90) ^^^ (-1)))))) F zX9_put dX4_learn_136 139 rfl pX9_put rfl (by decide) (by decide) (Nat.le_of_ble_eq_true rfl) rfl qX4_64 (kX9_put l D (10 + a2.toNatClampNeg) 256 (nI k7_90) (fX1_pricesAmong s_90 17 x5_58 ((fX2_shown σ h1) &&& ((nI k7_90) ^^^ (-1)))) s_90 (iaQ (Or.inl ⟨rfl, rfl⟩) (by first | assumption | exact vin_c (by assumption) (by assumption) (by decide) | exact vin_d (by assumption) (by assumption) (by decide) | exact vin_k (by assumption) (by assumption) (by decide) | exact vin_mono (by assumption) (by decide) | exact vin_mono (isThing_in (by assumption) (by assumption)) (by decide)))) ?_
              refine j_iinc F dX4_learn_139 142 rfl 6 rfl (nI (k7_90 + 1)) (nI_inc k7_90) (by decide) [(7, .int (nI (k7_90 + 1))), (0, .ref (D.2.1 7)), (2, .int a2), (3, .int (fX2_shown σ h1)), (4, .int ((fX2_shown σ h1) &&& (fX2_breakable σ h1))), (5, .int x5_58), (6, .ref (D.2.1 (10 + a2.toNatClampNeg)))] rfl ?_
              refine j_goto F dX4_learn_142 90 (by decide) ?_
              refine j_pick [1, 2, 3, 4, 5, 6, 0] [(0, .ref (D.2.1 7)), (2, .int a2), (3, .int (fX2_shown σ h1)), (4, .int ((fX2_shown σ h1) &&& (fX2_breakable σ h1))), (5, .int x5_58), (6, .ref (D.2.1 (10 + a2.toNatClampNeg))), (7, .int (nI (k7_90 + 1)))] rfl ?_
              exact ih_90 (fX9_put s_90 (10 + a2.toNatClampNeg) 256 (nI k7_90) (fX1_pricesAmong s_90 17 x5_58 ((fX2_shown σ h1) &&& ((nI k7_90) ^^^ (-1))))) (k7_90 + 1) (by omega) (by omega)
            · rw [if_neg c_114]
              refine j_iinc F dX4_learn_139 142 rfl 6 rfl (nI (k7_90 + 1)) (nI_inc k7_90) (by decide) [(7, .int (nI (k7_90 + 1))), (0, .ref (D.2.1 7)), (2, .int a2), (3, .int (fX2_shown σ h1)), (4, .int ((fX2_shown σ h1) &&& (fX2_breakable σ h1))), (5, .int x5_58), (6, .ref (D.2.1 (10 + a2.toNatClampNeg)))] rfl ?_
              refine j_goto F dX4_learn_142 90 (by decide) ?_
              refine j_pick [1, 2, 3, 4, 5, 6, 0] [(0, .ref (D.2.1 7)), (2, .int a2), (3, .int (fX2_shown σ h1)), (4, .int ((fX2_shown σ h1) &&& (fX2_breakable σ h1))), (5, .int x5_58), (6, .ref (D.2.1 (10 + a2.toNatClampNeg))), (7, .int (nI (k7_90 + 1)))] rfl ?_
              exact ih_90 s_90 (k7_90 + 1) (by omega) (by omega)
          · rw [if_neg c_105]
            refine j_iinc F dX4_learn_139 142 rfl 6 rfl (nI (k7_90 + 1)) (nI_inc k7_90) (by decide) [(7, .int (nI (k7_90 + 1))), (0, .ref (D.2.1 7)), (2, .int a2), (3, .int (fX2_shown σ h1)), (4, .int ((fX2_shown σ h1) &&& (fX2_breakable σ h1))), (5, .int x5_58), (6, .ref (D.2.1 (10 + a2.toNatClampNeg)))] rfl ?_
            refine j_goto F dX4_learn_142 90 (by decide) ?_
            refine j_pick [1, 2, 3, 4, 5, 6, 0] [(0, .ref (D.2.1 7)), (2, .int a2), (3, .int (fX2_shown σ h1)), (4, .int ((fX2_shown σ h1) &&& (fX2_breakable σ h1))), (5, .int x5_58), (6, .ref (D.2.1 (10 + a2.toNatClampNeg))), (7, .int (nI (k7_90 + 1)))] rfl ?_
            exact ih_90 s_90 (k7_90 + 1) (by omega) (by omega)
        · rw [if_neg c_95]
          refine j_pick [0, 1] [(0, .ref (D.2.1 7)), (2, .int a2)] rfl ?_
          exact hx_145 s_90
    refine j_pick [2, 3, 4, 5, 6, 1, 0] [(0, .ref (D.2.1 7)), (2, .int a2), (3, .int (fX2_shown σ h1)), (4, .int ((fX2_shown σ h1) &&& (fX2_breakable σ h1))), (5, .int x5_58), (6, .ref (D.2.1 (10 + a2.toNatClampNeg))), (7, .int 0)] rfl ?_
    exact lp_90 257 (fX9_put σ 8 3 a2 (((((fX2_shown σ h1) &&& (fX2_breakable σ h1)) &&& (x5_58 ^^^ (-1))) <<< (1 &&& 31)) ||| 1)) 0 (by omega) (by omega)
  have lp_19 : ∀ (n_19 : Nat) (x5_19 : Int32) (k6_19 : Nat), k6_19 ≤ (((σ.1 h1 1) : Int32).toNatClampNeg) → (((σ.1 h1 1) : Int32).toNatClampNeg) < k6_19 + n_19 → JJ X 9 D σ 19 [(0, .ref (D.2.1 7)), (1, .ref (D.2.1 h1)), (2, .int a2), (3, .int (fX2_shown σ h1)), (4, .int ((fX2_shown σ h1) &&& (fX2_breakable σ h1))), (5, .int x5_19), (6, .int (nI k6_19))] [] (QQ X D (none, fX4_learn_19 h1 a2 n_19 σ (fX2_shown σ h1) ((fX2_shown σ h1) &&& (fX2_breakable σ h1)) x5_19 k6_19)) := by
    intro n_19
    induction n_19 with
    | zero => intro x5_19 k6_19 hk_19 hn_19; exact absurd hn_19 (by omega)
    | succ n_19 ih_19 =>
      intro x5_19 k6_19 hk_19 hn_19
      rw [fX4_learn_19]
      refine j_iload F dX4_learn_19 21 rfl 6 rfl ?_
      refine j_aload_n F dX4_learn_21 22 rfl 1 rfl ?_
      refine j_get (j := 1) F dX4_learn_22 25 rfl inX2 rfl (hsP.lt hh1) (shH hh1) (by decide) qX4_57 rfl ?_
      refine j_icmp_ge F dX4_learn_25 58 (by decide) 28 rfl (fun c_25 => ?_) (fun c_25 => ?_)
      · rw [if_pos c_25]
        have h_25 : k6_19 < (((σ.1 h1 1) : Int32).toNatClampNeg) := nltd c_25 hk_19
        refine j_iload F dX4_learn_28 30 rfl 5 rfl ?_
        refine j_aload_n F dX4_learn_30 31 rfl 1 rfl ?_
        refine j_iload F dX4_learn_31 33 rfl 6 rfl ?_
        refine j_iconst (v := 4) F dX4_learn_33 34 rfl (by decide) ?_
        refine j_callVr (as := [.int (nI k6_19), .int 4]) (st := [.int x5_19]) (r := .int (fX2_figure σ h1 (nI k6_19) 4)) (σ9 := σ) F zX2_figure dX4_learn_34 37 rfl pX2_figure rfl (by decide) (by decide) (Nat.le_of_ble_eq_true rfl) rfl qX4_60 rfl rfl (hsP.lt hh1) (shH hh1) (kX2_figure l D h1 (nI k6_19) 4 σ hh1) ?_
        refine j_iload_n F dX4_learn_37 38 rfl 2 rfl ?_
        refine j_icmp_ne F dX4_learn_38 48 (by decide) 41 rfl (fun c_38 => ?_) (fun c_38 => ?_)
        · rw [if_pos c_38]
          refine j_iconst (v := 1) F dX4_learn_41 42 rfl (by decide) ?_
          refine j_iload F dX4_learn_42 44 rfl 6 rfl ?_
          refine j_ishl F dX4_learn_44 45 rfl ?_
          refine j_goto F dX4_learn_45 49 (by decide) ?_
          refine j_ior F dX4_learn_49 50 rfl ?_
          refine j_istore F dX4_learn_50 52 rfl (by decide) [(5, .int (x5_19 ||| (1 <<< ((nI k6_19) &&& 31)))), (0, .ref (D.2.1 7)), (1, .ref (D.2.1 h1)), (2, .int a2), (3, .int (fX2_shown σ h1)), (4, .int ((fX2_shown σ h1) &&& (fX2_breakable σ h1))), (6, .int (nI k6_19))] rfl ?_
          refine j_iinc F dX4_learn_52 55 rfl 6 rfl (nI (k6_19 + 1)) (nI_inc k6_19) (by decide) [(6, .int (nI (k6_19 + 1))), (5, .int (x5_19 ||| (1 <<< ((nI k6_19) &&& 31)))), (0, .ref (D.2.1 7)), (1, .ref (D.2.1 h1)), (2, .int a2), (3, .int (fX2_shown σ h1)), (4, .int ((fX2_shown σ h1) &&& (fX2_breakable σ h1)))] rfl ?_
          refine j_goto F dX4_learn_55 19 (by decide) ?_
          refine j_pick [2, 3, 4, 5, 6, 1, 0] [(0, .ref (D.2.1 7)), (1, .ref (D.2.1 h1)), (2, .int a2), (3, .int (fX2_shown σ h1)), (4, .int ((fX2_shown σ h1) &&& (fX2_breakable σ h1))), (5, .int (x5_19 ||| (1 <<< ((nI k6_19) &&& 31)))), (6, .int (nI (k6_19 + 1)))] rfl ?_
          exact ih_19 (x5_19 ||| (1 <<< ((nI k6_19) &&& 31))) (k6_19 + 1) (by omega) (by omega)
        · rw [if_neg c_38]
          refine j_iconst (v := 0) F dX4_learn_48 49 rfl (by decide) ?_
          refine j_ior F dX4_learn_49 50 rfl ?_
          refine j_istore F dX4_learn_50 52 rfl (by decide) [(5, .int (x5_19 ||| 0)), (0, .ref (D.2.1 7)), (1, .ref (D.2.1 h1)), (2, .int a2), (3, .int (fX2_shown σ h1)), (4, .int ((fX2_shown σ h1) &&& (fX2_breakable σ h1))), (6, .int (nI k6_19))] rfl ?_
          refine j_iinc F dX4_learn_52 55 rfl 6 rfl (nI (k6_19 + 1)) (nI_inc k6_19) (by decide) [(6, .int (nI (k6_19 + 1))), (5, .int (x5_19 ||| 0)), (0, .ref (D.2.1 7)), (1, .ref (D.2.1 h1)), (2, .int a2), (3, .int (fX2_shown σ h1)), (4, .int ((fX2_shown σ h1) &&& (fX2_breakable σ h1)))] rfl ?_
          refine j_goto F dX4_learn_55 19 (by decide) ?_
          refine j_pick [2, 3, 4, 5, 6, 1, 0] [(0, .ref (D.2.1 7)), (1, .ref (D.2.1 h1)), (2, .int a2), (3, .int (fX2_shown σ h1)), (4, .int ((fX2_shown σ h1) &&& (fX2_breakable σ h1))), (5, .int (x5_19 ||| 0)), (6, .int (nI (k6_19 + 1)))] rfl ?_
          exact ih_19 (x5_19 ||| 0) (k6_19 + 1) (by omega) (by omega)
      · rw [if_neg c_25]
        refine j_pick [0, 2, 3, 4, 5] [(0, .ref (D.2.1 7)), (2, .int a2), (3, .int (fX2_shown σ h1)), (4, .int ((fX2_shown σ h1) &&& (fX2_breakable σ h1))), (5, .int x5_19)] rfl ?_
        exact hx_58 x5_19
  refine j_pick [4, 5, 6, 3, 2, 1, 0] [(0, .ref (D.2.1 7)), (1, .ref (D.2.1 h1)), (2, .int a2), (3, .int (fX2_shown σ h1)), (4, .int ((fX2_shown σ h1) &&& (fX2_breakable σ h1))), (5, .int 0), (6, .int 0)] rfl ?_
  exact lp_19 (mX4_learn_19 h1 a2 σ + 1) 0 0 (Nat.zero_le _) (by show (((σ.1 h1 1) : Int32).toNatClampNeg) < 0 + ((((σ.1 h1 1) : Int32).toNatClampNeg) + 1); omega)
def fX4_weigh_38 (h1 : Nat)  (s_38 : Mm) : Mm := (fX4_goThrough (fX4_goThrough s_38 false) true)
def fX4_weigh_27 (h1 : Nat)  (s_27 : Mm) : Mm := fX4_weigh_38 h1 (up (up s_27 7 5 0) 7 4 (-9))
def fX4_weigh_10 (h1 : Nat)  : Nat → Mm → Nat → Mm
  | 0, s_10, _ => s_10
  | n + 1, s_10, k2_10 => if (nI k2_10) < 3 then (fX4_weigh_10 h1 n (fX4_learn s_10 h1 (nI k2_10)) (k2_10 + 1)) else (fX4_weigh_27 h1 s_10)
def fX4_weigh (σ : Mm) (h1 : Nat) : Mm := fX4_weigh_10 h1 4 (fX1_learn σ 17 h1) 0
set_option maxRecDepth 20000 in
theorem kX4_weigh (l : Launch) (D : Dm) (h1 : Nat) (σ : Mm) (hh1 : hsP h1) : Ct l yX4_weigh cX4_weigh 3 none 6 D [.ref (D.2.1 7), .ref (D.2.1 h1)] σ (none, fX4_weigh σ h1) := by
  refine ct_of (by decide +kernel) (Nat.le_of_ble_eq_true rfl) (fun X F => ?_)
  have F : Fx X l 3 D cX4_weigh RX4 6 none := F
  show JJ X 3 D σ 0 [(0, .ref (D.2.1 7)), (1, .ref (D.2.1 h1))] [] (QQ X D (none, fX4_weigh σ h1))
  rw [fX4_weigh]
  refine j_aload_n F dX4_weigh_0 1 rfl 0 rfl ?_
  refine j_get (j := 0) F dX4_weigh_1 4 rfl inX4 rfl (by decide) sh7 (by decide) qX4_12 rfl ?_
  refine j_aload_n F dX4_weigh_4 5 rfl 1 rfl ?_
  refine j_callVv (as := [.ref (D.2.1 h1)]) (st := []) (σ9 := (fX1_learn σ 17 h1)) F zX1_learn dX4_weigh_5 8 rfl pX1_learn rfl (by decide) (by decide) (Nat.le_of_ble_eq_true rfl) rfl qX4_30 rfl rfl (gdP.lt gd17) (shG gd17) (kX1_learn l D 17 h1 σ gd17 hh1) ?_
  refine j_iconst (v := 0) F dX4_weigh_8 9 rfl (by decide) ?_
  refine j_istore_n F dX4_weigh_9 10 rfl 2 rfl (by decide) [(2, .int 0), (0, .ref (D.2.1 7)), (1, .ref (D.2.1 h1))] rfl ?_
  have hx_27 : ∀ (s_27 : Mm), JJ X 3 D s_27 27 [(0, .ref (D.2.1 7))] [] (QQ X D (none, fX4_weigh_27 h1 s_27)) := by
    intro s_27
    rw [fX4_weigh_27]
    refine j_aload_n F dX4_weigh_27 28 rfl 0 rfl ?_
    refine j_iconst (v := 0) F dX4_weigh_28 29 rfl (by decide) ?_
    refine j_put (j := 5) F dX4_weigh_29 32 rfl inX4 tyX4 tyX4_ok nmX4 rfl (by decide) sh7 sh7 (by decide) qX4_37 rfl (tyX4_ok 5 (by decide)) (Nat.le_of_ble_eq_true rfl) ?_
    refine j_aload_n F dX4_weigh_32 33 rfl 0 rfl ?_
    refine j_bipush (v := (-9)) F dX4_weigh_33 35 rfl (by decide) ?_
    refine j_put (j := 4) F dX4_weigh_35 38 rfl inX4 tyX4 tyX4_ok nmX4 rfl (by decide) sh7 sh7 (by decide) qX4_41 rfl (tyX4_ok 4 (by decide)) (Nat.le_of_ble_eq_true rfl) ?_
    have jn_38 : ∀ (s_38 : Mm), JJ X 3 D s_38 38 [(0, .ref (D.2.1 7))] [] (QQ X D (none, fX4_weigh_38 h1 s_38)) := by
      intro s_38
      rw [fX4_weigh_38]
      refine j_aload_n F dX4_weigh_38 39 rfl 0 rfl ?_
      refine j_iconst (v := 0) F dX4_weigh_39 40 rfl (by decide) ?_
      refine j_callVv (as := [.int (bi false)]) (st := []) (σ9 := (fX4_goThrough s_38 false)) F zX4_goThrough dX4_weigh_40 43 rfl pX4_goThrough rfl (by decide) (by decide) (Nat.le_of_ble_eq_true rfl) rfl qX4_44 rfl rfl (by decide) sh7 (kX4_goThrough l D false s_38) ?_
      refine j_aload_n F dX4_weigh_43 44 rfl 0 rfl ?_
      refine j_iconst (v := 1) F dX4_weigh_44 45 rfl (by decide) ?_
      refine j_callVv (as := [.int (bi true)]) (st := []) (σ9 := (fX4_goThrough (fX4_goThrough s_38 false) true)) F zX4_goThrough dX4_weigh_45 48 rfl pX4_goThrough rfl (by decide) (by decide) (Nat.le_of_ble_eq_true rfl) rfl qX4_44 rfl rfl (by decide) sh7 (kX4_goThrough l D true (fX4_goThrough s_38 false)) ?_
      exact j_ret_v F dX4_weigh_48 rfl rfl rfl
    exact jn_38 (up (up s_27 7 5 0) 7 4 (-9)) 
  have lp_10 : ∀ (n_10 : Nat) (s_10 : Mm) (k2_10 : Nat), k2_10 ≤ 3 → 3 < k2_10 + n_10 → JJ X 3 D s_10 10 [(0, .ref (D.2.1 7)), (1, .ref (D.2.1 h1)), (2, .int (nI k2_10))] [] (QQ X D (none, fX4_weigh_10 h1 n_10 s_10 k2_10)) := by
    intro n_10
    induction n_10 with
    | zero => intro s_10 k2_10 hk_10 hn_10; exact absurd hn_10 (by omega)
    | succ n_10 ih_10 =>
      intro s_10 k2_10 hk_10 hn_10
      rw [fX4_weigh_10]
      refine j_iload_n F dX4_weigh_10 11 rfl 2 rfl ?_
      refine j_iconst (v := 3) F dX4_weigh_11 12 rfl (by decide) ?_
      refine j_icmp_ge F dX4_weigh_12 27 (by decide) 15 rfl (fun c_12 => ?_) (fun c_12 => ?_)
      · rw [if_pos c_12]
        have h_12 : k2_10 < 3 := nlt c_12 (by decide) (by omega)
        refine j_aload_n F dX4_weigh_15 16 rfl 0 rfl ?_
        refine j_aload_n F dX4_weigh_16 17 rfl 1 rfl ?_
        refine j_iload_n F dX4_weigh_17 18 rfl 2 rfl ?_
        refine j_callVv (as := [.ref (D.2.1 h1), .int (nI k2_10)]) (st := []) (σ9 := (fX4_learn s_10 h1 (nI k2_10))) F zX4_learn dX4_weigh_18 21 rfl pX4_learn rfl (by decide) (by decide) (Nat.le_of_ble_eq_true rfl) rfl qX4_34 rfl rfl (by decide) sh7 (kX4_learn l D h1 (nI k2_10) s_10 hh1 (vp_in_nI (n := k2_10) (by omega) (by decide))) ?_
        refine j_iinc F dX4_weigh_21 24 rfl 2 rfl (nI (k2_10 + 1)) (nI_inc k2_10) (by decide) [(2, .int (nI (k2_10 + 1))), (0, .ref (D.2.1 7)), (1, .ref (D.2.1 h1))] rfl ?_
        refine j_goto F dX4_weigh_24 10 (by decide) ?_
        refine j_pick [1, 2, 0] [(0, .ref (D.2.1 7)), (1, .ref (D.2.1 h1)), (2, .int (nI (k2_10 + 1)))] rfl ?_
        exact ih_10 (fX4_learn s_10 h1 (nI k2_10)) (k2_10 + 1) (by omega) (by omega)
      · rw [if_neg c_12]
        refine j_pick [0] [(0, .ref (D.2.1 7))] rfl ?_
        exact hx_27 s_10
  refine j_pick [1, 2, 0] [(0, .ref (D.2.1 7)), (1, .ref (D.2.1 h1)), (2, .int 0)] rfl ?_
  exact lp_10 4 (fX1_learn σ 17 h1) 0 (by omega) (by omega)
