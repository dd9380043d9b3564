def fX3_gainOf (σ : Mm) (a1 : Int32) : Int32 := if 11 ≤ a1 then ((-(fX1_cost σ 22 (a1 - 11)))) else (if 1 ≤ a1 then ((fX1_worth σ 22 (a1 - 1))) else (0))
set_option maxRecDepth 20000 in
theorem kX3_gainOf (l : Launch) (D : Dm) (a1 : Int32) (σ : Mm)  : Ct l yX3_gainOf cX3_gainOf 2 (some .int) 3 D [.ref (D.2.1 21), .int a1] σ (some (.int (fX3_gainOf σ a1)), σ) := by
  refine ct_of (by decide +kernel) (Nat.le_of_ble_eq_true rfl) (fun X F => ?_)
  have F : Fx X l 2 D cX3_gainOf RX3 3 (some .int) := F
  show JJ X 2 D σ 0 [(0, .ref (D.2.1 21)), (1, .int a1)] [] (QQ X D (some (.int (fX3_gainOf σ a1)), σ))
  rw [fX3_gainOf]
  refine j_iload_n F dX3_gainOf_0 1 rfl 1 rfl ?_
  refine j_bipush (v := 11) F dX3_gainOf_1 3 rfl (by decide) ?_
  refine j_icmp_lt F dX3_gainOf_3 19 (by decide) 6 rfl (fun c_3 => ?_) (fun c_3 => ?_)
  · rw [if_pos c_3]
    refine j_aload_n F dX3_gainOf_6 7 rfl 0 rfl ?_
    refine j_get (j := 0) F dX3_gainOf_7 10 rfl inX3 rfl (by decide) sh21 (by decide) qX3_14 rfl ?_
    refine j_iload_n F dX3_gainOf_10 11 rfl 1 rfl ?_
    refine j_bipush (v := 11) F dX3_gainOf_11 13 rfl (by decide) ?_
    refine j_isub F dX3_gainOf_13 14 rfl ?_
    refine j_callVr (as := [.int (a1 - 11)]) (st := []) (r := .int (fX1_cost σ 22 (a1 - 11))) (σ9 := σ) F zX1_cost dX3_gainOf_14 17 rfl pX1_cost rfl (by decide) (by decide) (Nat.le_of_ble_eq_true rfl) rfl qX3_75 rfl rfl (gdP.lt gd22) (shG gd22) (kX1_cost l D 22 (a1 - 11) σ gd22) ?_
    refine j_ineg F dX3_gainOf_17 18 rfl ?_
    exact j_ret_i F dX3_gainOf_18 rfl rfl rfl
  · rw [if_neg c_3]
    refine j_iload_n F dX3_gainOf_19 20 rfl 1 rfl ?_
    refine j_iconst (v := 1) F dX3_gainOf_20 21 rfl (by decide) ?_
    refine j_icmp_lt F dX3_gainOf_21 37 (by decide) 24 rfl (fun c_21 => ?_) (fun c_21 => ?_)
    · rw [if_pos c_21]
      refine j_aload_n F dX3_gainOf_24 25 rfl 0 rfl ?_
      refine j_get (j := 0) F dX3_gainOf_25 28 rfl inX3 rfl (by decide) sh21 (by decide) qX3_14 rfl ?_
      refine j_iload_n F dX3_gainOf_28 29 rfl 1 rfl ?_
      refine j_iconst (v := 1) F dX3_gainOf_29 30 rfl (by decide) ?_
      refine j_isub F dX3_gainOf_30 31 rfl ?_
      refine j_callVr (as := [.int (a1 - 1)]) (st := []) (r := .int (fX1_worth σ 22 (a1 - 1))) (σ9 := σ) F zX1_worth dX3_gainOf_31 34 rfl pX1_worth rfl (by decide) (by decide) (Nat.le_of_ble_eq_true rfl) rfl qX3_72 rfl rfl (gdP.lt gd22) (shG gd22) (kX1_worth l D 22 (a1 - 1) σ gd22) ?_
      refine j_goto F dX3_gainOf_34 38 (by decide) ?_
      exact j_ret_i F dX3_gainOf_38 rfl rfl rfl
    · rw [if_neg c_21]
      refine j_iconst (v := 0) F dX3_gainOf_37 38 rfl (by decide) ?_
      exact j_ret_i F dX3_gainOf_38 rfl rfl rfl
def fX3_leadByLastTurn_9 (a1 : Int32)  : Nat → Mm → Int32 → Nat → Int32 × Mm
  | 0, s_9, _, _ => (0, s_9)
  | n + 1, s_9, x2_9, k3_9 => if (nI k3_9) < 8 then (if (a1 &&& (1 <<< ((nI k3_9) &&& 31))) = 0 then (fX3_leadByLastTurn_9 a1 n s_9 x2_9 (k3_9 + 1)) else (if x2_9 < (fX1_worth s_9 22 (nI k3_9)) then (fX3_leadByLastTurn_9 a1 n (up s_9 21 5 (1 + (nI k3_9))) (fX1_worth s_9 22 (nI k3_9)) (k3_9 + 1)) else (fX3_leadByLastTurn_9 a1 n s_9 x2_9 (k3_9 + 1)))) else ((x2_9, s_9))
def fX3_leadByLastTurn (σ : Mm) (a1 : Int32) : Int32 × Mm := fX3_leadByLastTurn_9 a1 9 (up σ 21 5 0) 0 0
set_option maxRecDepth 20000 in
theorem kX3_leadByLastTurn (l : Launch) (D : Dm) (a1 : Int32) (σ : Mm)  : Ct l yX3_leadByLastTurn cX3_leadByLastTurn 4 (some .int) 3 D [.ref (D.2.1 21), .int a1] σ (some (.int (fX3_leadByLastTurn σ a1).1), (fX3_leadByLastTurn σ a1).2) := by
  refine ct_of (by decide +kernel) (Nat.le_of_ble_eq_true rfl) (fun X F => ?_)
  have F : Fx X l 4 D cX3_leadByLastTurn RX3 3 (some .int) := F
  show JJ X 4 D σ 0 [(0, .ref (D.2.1 21)), (1, .int a1)] [] (QQ X D (some (.int (fX3_leadByLastTurn σ a1).1), (fX3_leadByLastTurn σ a1).2))
  rw [fX3_leadByLastTurn]
  refine j_iconst (v := 0) F dX3_leadByLastTurn_0 1 rfl (by decide) ?_
  refine j_istore_n F dX3_leadByLastTurn_1 2 rfl 2 rfl (by decide) [(2, .int 0), (0, .ref (D.2.1 21)), (1, .int a1)] rfl ?_
  refine j_aload_n F dX3_leadByLastTurn_2 3 rfl 1 rfl ?_
  refine j_iconst (v := 0) F dX3_leadByLastTurn_3 4 rfl (by decide) ?_
  refine j_put (j := 5) F dX3_leadByLastTurn_4 7 rfl inX3 tyX3 tyX3_ok nmX3 rfl (by decide) sh21 sh21 (by decide) qX3_53 rfl (tyX3_ok 5 (by decide)) (Nat.le_of_ble_eq_true rfl) ?_
  refine j_iconst (v := 0) F dX3_leadByLastTurn_7 8 rfl (by decide) ?_
  refine j_istore_n F dX3_leadByLastTurn_8 9 rfl 3 rfl (by decide) [(3, .int 0), (2, .int 0), (0, .ref (D.2.1 21)), (1, .int a1)] rfl ?_
  have lp_9 : ∀ (n_9 : Nat) (s_9 : Mm) (x2_9 : Int32) (k3_9 : Nat), k3_9 ≤ 8 → 8 < k3_9 + n_9 → JJ X 4 D s_9 9 [(0, .ref (D.2.1 21)), (1, .int a1), (2, .int x2_9), (3, .int (nI k3_9))] [] (QQ X D (some (.int (fX3_leadByLastTurn_9 a1 n_9 s_9 x2_9 k3_9).1), (fX3_leadByLastTurn_9 a1 n_9 s_9 x2_9 k3_9).2)) := by
    intro n_9
    induction n_9 with
    | zero => intro s_9 x2_9 k3_9 hk_9 hn_9; exact absurd hn_9 (by omega)
    | succ n_9 ih_9 =>
      intro s_9 x2_9 k3_9 hk_9 hn_9
      rw [fX3_leadByLastTurn_9]
      refine j_iload_n F dX3_leadByLastTurn_9 10 rfl 3 rfl ?_
      refine j_bipush (v := 8) F dX3_leadByLastTurn_10 12 rfl (by decide) ?_
      refine j_icmp_ge F dX3_leadByLastTurn_12 57 (by decide) 15 rfl (fun c_12 => ?_) (fun c_12 => ?_)
      · rw [if_pos c_12]
        have h_12 : k3_9 < 8 := nlt c_12 (by decide) (by omega)
        refine j_iload_n F dX3_leadByLastTurn_15 16 rfl 1 rfl ?_
        refine j_iconst (v := 1) F dX3_leadByLastTurn_16 17 rfl (by decide) ?_
        refine j_iload_n F dX3_leadByLastTurn_17 18 rfl 3 rfl ?_
        refine j_ishl F dX3_leadByLastTurn_18 19 rfl ?_
        refine j_iand F dX3_leadByLastTurn_19 20 rfl ?_
        refine j_if_eq F dX3_leadByLastTurn_20 51 (by decide) 23 rfl (fun c_20 => ?_) (fun c_20 => ?_)
        · rw [if_neg c_20]
          refine j_aload_n F dX3_leadByLastTurn_23 24 rfl 0 rfl ?_
          refine j_get (j := 0) F dX3_leadByLastTurn_24 27 rfl inX3 rfl (by decide) sh21 (by decide) qX3_14 rfl ?_
          refine j_iload_n F dX3_leadByLastTurn_27 28 rfl 3 rfl ?_
          refine j_callVr (as := [.int (nI k3_9)]) (st := []) (r := .int (fX1_worth s_9 22 (nI k3_9))) (σ9 := s_9) F zX1_worth dX3_leadByLastTurn_28 31 rfl pX1_worth rfl (by decide) (by decide) (Nat.le_of_ble_eq_true rfl) rfl qX3_72 rfl rfl (gdP.lt gd22) (shG gd22) (kX1_worth l D 22 (nI k3_9) s_9 gd22) ?_
          refine j_iload_n F dX3_leadByLastTurn_31 32 rfl 2 rfl ?_
          refine j_icmp_le F dX3_leadByLastTurn_32 51 (by decide) 35 rfl (fun c_32 => ?_) (fun c_32 => ?_)
          · rw [if_pos c_32]
            refine j_aload_n F dX3_leadByLastTurn_35 36 rfl 0 rfl ?_
            refine j_get (j := 0) F dX3_leadByLastTurn_36 39 rfl inX3 rfl (by decide) sh21 (by decide) qX3_14 rfl ?_
            refine j_iload_n F dX3_leadByLastTurn_39 40 rfl 3 rfl ?_
            refine j_callVr (as := [.int (nI k3_9)]) (st := []) (r := .int (fX1_worth s_9 22 (nI k3_9))) (σ9 := s_9) F zX1_worth dX3_leadByLastTurn_40 43 rfl pX1_worth rfl (by decide) (by decide) (Nat.le_of_ble_eq_true rfl) rfl qX3_72 rfl rfl (gdP.lt gd22) (shG gd22) (kX1_worth l D 22 (nI k3_9) s_9 gd22) ?_
            refine j_istore_n F dX3_leadByLastTurn_43 44 rfl 2 rfl (by decide) [(2, .int (fX1_worth s_9 22 (nI k3_9))), (0, .ref (D.2.1 21)), (1, .int a1), (3, .int (nI k3_9))] rfl ?_
            refine j_aload_n F dX3_leadByLastTurn_44 45 rfl 1 rfl ?_
            refine j_iconst (v := 1) F dX3_leadByLastTurn_45 46 rfl (by decide) ?_
            refine j_iload_n F dX3_leadByLastTurn_46 47 rfl 3 rfl ?_
            refine j_iadd F dX3_leadByLastTurn_47 48 rfl ?_
            refine j_put (j := 5) F dX3_leadByLastTurn_48 51 rfl inX3 tyX3 tyX3_ok nmX3 rfl (by decide) sh21 sh21 (by decide) qX3_53 rfl (tyX3_ok 5 (by decide)) (Nat.le_of_ble_eq_true rfl) ?_
            refine j_iinc F dX3_leadByLastTurn_51 54 rfl 3 rfl (nI (k3_9 + 1)) (nI_inc k3_9) (by decide) [(3, .int (nI (k3_9 + 1))), (2, .int (fX1_worth s_9 22 (nI k3_9))), (0, .ref (D.2.1 21)), (1, .int a1)] rfl ?_
            refine j_goto F dX3_leadByLastTurn_54 9 (by decide) ?_
            refine j_pick [2, 3, 1, 0] [(0, .ref (D.2.1 21)), (1, .int a1), (2, .int (fX1_worth s_9 22 (nI k3_9))), (3, .int (nI (k3_9 + 1)))] rfl ?_
            exact ih_9 (up s_9 21 5 (1 + (nI k3_9))) (fX1_worth s_9 22 (nI k3_9)) (k3_9 + 1) (by omega) (by omega)
          · rw [if_neg c_32]
            refine j_iinc F dX3_leadByLastTurn_51 54 rfl 3 rfl (nI (k3_9 + 1)) (nI_inc k3_9) (by decide) [(3, .int (nI (k3_9 + 1))), (0, .ref (D.2.1 21)), (1, .int a1), (2, .int x2_9)] rfl ?_
            refine j_goto F dX3_leadByLastTurn_54 9 (by decide) ?_
            refine j_pick [1, 2, 3, 0] [(0, .ref (D.2.1 21)), (1, .int a1), (2, .int x2_9), (3, .int (nI (k3_9 + 1)))] rfl ?_
            exact ih_9 s_9 x2_9 (k3_9 + 1) (by omega) (by omega)
        · rw [if_pos c_20]
          refine j_iinc F dX3_leadByLastTurn_51 54 rfl 3 rfl (nI (k3_9 + 1)) (nI_inc k3_9) (by decide) [(3, .int (nI (k3_9 + 1))), (0, .ref (D.2.1 21)), (1, .int a1), (2, .int x2_9)] rfl ?_
          refine j_goto F dX3_leadByLastTurn_54 9 (by decide) ?_
          refine j_pick [1, 2, 3, 0] [(0, .ref (D.2.1 21)), (1, .int a1), (2, .int x2_9), (3, .int (nI (k3_9 + 1)))] rfl ?_
          exact ih_9 s_9 x2_9 (k3_9 + 1) (by omega) (by omega)
      · rw [if_neg c_12]
        refine j_iload_n F dX3_leadByLastTurn_57 58 rfl 2 rfl ?_
        exact j_ret_i F dX3_leadByLastTurn_58 rfl rfl rfl
  refine j_pick [2, 3, 1, 0] [(0, .ref (D.2.1 21)), (1, .int a1), (2, .int 0), (3, .int 0)] rfl ?_
  exact lp_9 9 (up σ 21 5 0) 0 0 (by omega) (by omega)
def fX4_firstChoice_49 (σ : Mm) (a1 : Int32)  (x2_49 : Int32) : Int32 := if x2_49 = 0 then ((-9)) else ((x2_49 - 1))
def fX4_firstChoice (σ : Mm) (a1 : Int32) : Int32 := if (σ.1 7 4) < 0 then ((-9)) else (if a1 = 0 then (fX4_firstChoice_49 σ a1 ((σ.1 7 4) / 81)) else (if a1 = 1 then (fX4_firstChoice_49 σ a1 (rm ((σ.1 7 4) / 9) 9)) else (fX4_firstChoice_49 σ a1 (rm (σ.1 7 4) 9))))
set_option maxRecDepth 20000 in
theorem kX4_firstChoice (l : Launch) (D : Dm) (a1 : Int32) (σ : Mm)  : Ct l yX4_firstChoice cX4_firstChoice 3 (some .int) 1 D [.ref (D.2.1 7), .int a1] σ (some (.int (fX4_firstChoice σ a1)), σ) := by
  refine ct_of (by decide +kernel) (Nat.le_of_ble_eq_true rfl) (fun X F => ?_)
  have F : Fx X l 3 D cX4_firstChoice RX4 1 (some .int) := F
  show JJ X 3 D σ 0 [(0, .ref (D.2.1 7)), (1, .int a1)] [] (QQ X D (some (.int (fX4_firstChoice σ a1)), σ))
  rw [fX4_firstChoice]
  refine j_aload_n F dX4_firstChoice_0 1 rfl 0 rfl ?_
  refine j_get (j := 4) F dX4_firstChoice_1 4 rfl inX4 rfl (by decide) sh7 (by decide) qX4_41 rfl ?_
  refine j_if_ge F dX4_firstChoice_4 10 (by decide) 7 rfl (fun c_4 => ?_) (fun c_4 => ?_)
  · rw [if_pos c_4]
    refine j_bipush (v := (-9)) F dX4_firstChoice_7 9 rfl (by decide) ?_
    exact j_ret_i F dX4_firstChoice_9 rfl rfl rfl
  · rw [if_neg c_4]
    refine j_aload_n F dX4_firstChoice_10 11 rfl 0 rfl ?_
    refine j_get (j := 4) F dX4_firstChoice_11 14 rfl inX4 rfl (by decide) sh7 (by decide) qX4_41 rfl ?_
    refine j_bipush (v := 9) F dX4_firstChoice_14 16 rfl (by decide) ?_
    refine j_irem F dX4_firstChoice_16 17 rfl (by decide) ?_
    refine j_istore_n F dX4_firstChoice_17 18 rfl 2 rfl (by decide) [(2, .int (rm (σ.1 7 4) 9)), (0, .ref (D.2.1 7)), (1, .int a1)] rfl ?_
    refine j_iload_n F dX4_firstChoice_18 19 rfl 2 rfl ?_
    have jn_49 : ∀ (x2_49 : Int32), JJ X 3 D σ 49 [(2, .int x2_49)] [] (QQ X D (some (.int (fX4_firstChoice_49 σ a1 x2_49)), σ)) := by
      intro x2_49
      rw [fX4_firstChoice_49]
      refine j_iload_n F dX4_firstChoice_49 50 rfl 0 rfl ?_
      refine j_if_ne F dX4_firstChoice_50 58 (by decide) 53 rfl (fun c_50 => ?_) (fun c_50 => ?_)
      · rw [if_pos c_50]
        refine j_bipush (v := (-9)) F dX4_firstChoice_53 55 rfl (by decide) ?_
        refine j_goto F dX4_firstChoice_55 61 (by decide) ?_
        exact j_ret_i F dX4_firstChoice_61 rfl rfl rfl
      · rw [if_neg c_50]
        refine j_iload_n F dX4_firstChoice_58 59 rfl 0 rfl ?_
        refine j_iconst (v := 1) F dX4_firstChoice_59 60 rfl (by decide) ?_
        refine j_isub F dX4_firstChoice_60 61 rfl ?_
        exact j_ret_i F dX4_firstChoice_61 rfl rfl rfl
    refine j_if_ne F dX4_firstChoice_19 33 (by decide) 22 rfl (fun c_19 => ?_) (fun c_19 => ?_)
    · rw [if_pos c_19]
      refine j_aload_n F dX4_firstChoice_22 23 rfl 1 rfl ?_
      refine j_get (j := 4) F dX4_firstChoice_23 26 rfl inX4 rfl (by decide) sh7 (by decide) qX4_41 rfl ?_
      refine j_bipush (v := 81) F dX4_firstChoice_26 28 rfl (by decide) ?_
      refine j_idiv F dX4_firstChoice_28 29 rfl (by decide) ?_
      refine j_istore_n F dX4_firstChoice_29 30 rfl 2 rfl (by decide) [(2, .int ((σ.1 7 4) / 81)), (0, .ref (D.2.1 7)), (1, .int a1)] rfl ?_
      refine j_goto F dX4_firstChoice_30 49 (by decide) ?_
      refine j_pick [0] [(2, .int ((σ.1 7 4) / 81))] rfl ?_
      exact jn_49 ((σ.1 7 4) / 81)
    · rw [if_neg c_19]
      refine j_iload_n F dX4_firstChoice_33 34 rfl 2 rfl ?_
      refine j_iconst (v := 1) F dX4_firstChoice_34 35 rfl (by decide) ?_
      refine j_icmp_ne F dX4_firstChoice_35 49 (by decide) 38 rfl (fun c_35 => ?_) (fun c_35 => ?_)
      · rw [if_pos c_35]
        refine j_aload_n F dX4_firstChoice_38 39 rfl 1 rfl ?_
        refine j_get (j := 4) F dX4_firstChoice_39 42 rfl inX4 rfl (by decide) sh7 (by decide) qX4_41 rfl ?_
        refine j_bipush (v := 9) F dX4_firstChoice_42 44 rfl (by decide) ?_
        refine j_idiv F dX4_firstChoice_44 45 rfl (by decide) ?_
        refine j_bipush (v := 9) F dX4_firstChoice_45 47 rfl (by decide) ?_
        refine j_irem F dX4_firstChoice_47 48 rfl (by decide) ?_
        refine j_istore_n F dX4_firstChoice_48 49 rfl 2 rfl (by decide) [(2, .int (rm ((σ.1 7 4) / 9) 9)), (0, .ref (D.2.1 7)), (1, .int a1)] rfl ?_
        refine j_pick [0] [(2, .int (rm ((σ.1 7 4) / 9) 9))] rfl ?_
        exact jn_49 (rm ((σ.1 7 4) / 9) 9)
      · rw [if_neg c_35]
        refine j_pick [0] [(2, .int (rm (σ.1 7 4) 9))] rfl ?_
        exact jn_49 (rm (σ.1 7 4) 9)
def fX4_has (σ : Mm) (a1 : Int32) (a2 : Int32) (a3 : Int32) : Int32 := if a2 = 0 then (((fX9_at σ (10 + a1.toNatClampNeg) 256 a3) - 0)) else (((fX9_at σ (10 + a1.toNatClampNeg) 256 a3) - (fX1_cost σ 17 (a2 - 1))))
set_option maxRecDepth 20000 in
theorem kX4_has (l : Launch) (D : Dm) (a1 : Int32) (a2 : Int32) (a3 : Int32) (σ : Mm) (hv : vp_in a1 3) : Ct l yX4_has cX4_has 4 (some .int) 3 D [.ref (D.2.1 7), .int a1, .int a2, .int a3] σ (some (.int (fX4_has σ a1 a2 a3)), σ) := by
  refine ct_of (by decide +kernel) (Nat.le_of_ble_eq_true rfl) (fun X F => ?_)
  have F : Fx X l 4 D cX4_has RX4 3 (some .int) := F
  show JJ X 4 D σ 0 [(0, .ref (D.2.1 7)), (1, .int a1), (2, .int a2), (3, .int a3)] [] (QQ X D (some (.int (fX4_has σ a1 a2 a3)), σ))
  rw [fX4_has]
  refine j_aload_n F dX4_has_0 1 rfl 0 rfl ?_
  refine j_get (j := 2) F dX4_has_1 4 rfl inX4 rfl (by decide) sh7 (by decide) qX4_24 rfl ?_
  refine j_iload_n F dX4_has_4 5 rfl 1 rfl ?_
  refine j_qald2 F dX4_has_5 6 rfl (by decide) sh9 (by first | assumption | exact vin_c (by assumption) (by assumption) (by decide) | exact vin_d (by assumption) (by assumption) (by decide) | exact vin_k (by assumption) (by assumption) (by decide) | exact vin_mono (by assumption) (by decide) | exact vin_mono (isThing_in (by assumption) (by assumption)) (by decide)) rfl ?_
  refine j_iload_n F dX4_has_6 7 rfl 3 rfl ?_
  refine j_callSNr (as := [.ref (D.2.1 (10 + a1.toNatClampNeg)), .int a3]) (st := []) (r := .int (fX9_at σ (10 + a1.toNatClampNeg) 256 a3)) (σ9 := σ) F zX9_at dX4_has_7 10 rfl pX9_at rfl (by decide) (by decide) (Nat.le_of_ble_eq_true rfl) rfl qX4_92 (kX9_at l D (10 + a1.toNatClampNeg) 256 a3 σ (iaQ (Or.inl ⟨rfl, rfl⟩) (by first | assumption | exact vin_c (by assumption) (by assumption) (by decide) | exact vin_d (by assumption) (by assumption) (by decide) | exact vin_k (by assumption) (by assumption) (by decide) | exact vin_mono (by assumption) (by decide) | exact vin_mono (isThing_in (by assumption) (by assumption)) (by decide)))) ?_
  refine j_iload_n F dX4_has_10 11 rfl 2 rfl ?_
  refine j_if_ne F dX4_has_11 18 (by decide) 14 rfl (fun c_11 => ?_) (fun c_11 => ?_)
  · rw [if_pos c_11]
    refine j_iconst (v := 0) F dX4_has_14 15 rfl (by decide) ?_
    refine j_goto F dX4_has_15 28 (by decide) ?_
    refine j_isub F dX4_has_28 29 rfl ?_
    exact j_ret_i F dX4_has_29 rfl rfl rfl
  · rw [if_neg c_11]
    refine j_aload_n F dX4_has_18 19 rfl 0 rfl ?_
    refine j_get (j := 0) F dX4_has_19 22 rfl inX4 rfl (by decide) sh7 (by decide) qX4_12 rfl ?_
    refine j_iload_n F dX4_has_22 23 rfl 2 rfl ?_
    refine j_iconst (v := 1) F dX4_has_23 24 rfl (by decide) ?_
    refine j_isub F dX4_has_24 25 rfl ?_
    refine j_callVr (as := [.int (a2 - 1)]) (st := [.int (fX9_at σ (10 + a1.toNatClampNeg) 256 a3)]) (r := .int (fX1_cost σ 17 (a2 - 1))) (σ9 := σ) F zX1_cost dX4_has_25 28 rfl pX1_cost rfl (by decide) (by decide) (Nat.le_of_ble_eq_true rfl) rfl qX4_105 rfl rfl (gdP.lt gd17) (shG gd17) (kX1_cost l D 17 (a2 - 1) σ gd17) ?_
    refine j_isub F dX4_has_28 29 rfl ?_
    exact j_ret_i F dX4_has_29 rfl rfl rfl
def fX4_isRest (σ : Mm) (a1 : Int32) (a2 : Int32) (a3 : Int32) : Bool := if (fX9_at σ (14 + 0) 81 ((a2 * 9) + a3)) ≤ (fX4_has σ 0 a1 ((((1 <<< (a1 &&& 31)) ||| (1 <<< (a2 &&& 31))) ||| (1 <<< (a3 &&& 31))) >>> (1 &&& 31))) then (if (fX9_at σ (14 + 1) 81 ((a1 * 9) + a3)) ≤ (fX4_has σ 1 a2 ((((1 <<< (a1 &&& 31)) ||| (1 <<< (a2 &&& 31))) ||| (1 <<< (a3 &&& 31))) >>> (1 &&& 31))) then (if (fX9_at σ (14 + 2) 81 ((a1 * 9) + a2)) ≤ (fX4_has σ 2 a3 ((((1 <<< (a1 &&& 31)) ||| (1 <<< (a2 &&& 31))) ||| (1 <<< (a3 &&& 31))) >>> (1 &&& 31))) then (true) else (false)) else (false)) else (false)
set_option maxRecDepth 20000 in
theorem kX4_isRest (l : Launch) (D : Dm) (a1 : Int32) (a2 : Int32) (a3 : Int32) (σ : Mm)  : Ct l yX4_isRest cX4_isRest 5 (some .boolean) 4 D [.ref (D.2.1 7), .int a1, .int a2, .int a3] σ (some (.int (bi (fX4_isRest σ a1 a2 a3))), σ) := by
  refine ct_of (by decide +kernel) (Nat.le_of_ble_eq_true rfl) (fun X F => ?_)
  have F : Fx X l 5 D cX4_isRest RX4 4 (some .boolean) := F
  show JJ X 5 D σ 0 [(0, .ref (D.2.1 7)), (1, .int a1), (2, .int a2), (3, .int a3)] [] (QQ X D (some (.int (bi (fX4_isRest σ a1 a2 a3))), σ))
  rw [fX4_isRest]
  refine j_iconst (v := 1) F dX4_isRest_0 1 rfl (by decide) ?_
  refine j_iload_n F dX4_isRest_1 2 rfl 1 rfl ?_
  refine j_ishl F dX4_isRest_2 3 rfl ?_
  refine j_iconst (v := 1) F dX4_isRest_3 4 rfl (by decide) ?_
  refine j_iload_n F dX4_isRest_4 5 rfl 2 rfl ?_
  refine j_ishl F dX4_isRest_5 6 rfl ?_
  refine j_ior F dX4_isRest_6 7 rfl ?_
  refine j_iconst (v := 1) F dX4_isRest_7 8 rfl (by decide) ?_
  refine j_iload_n F dX4_isRest_8 9 rfl 3 rfl ?_
  refine j_ishl F dX4_isRest_9 10 rfl ?_
  refine j_ior F dX4_isRest_10 11 rfl ?_
  refine j_iconst (v := 1) F dX4_isRest_11 12 rfl (by decide) ?_
  refine j_ishr F dX4_isRest_12 13 rfl ?_
  refine j_istore F dX4_isRest_13 15 rfl (by decide) [(4, .int ((((1 <<< (a1 &&& 31)) ||| (1 <<< (a2 &&& 31))) ||| (1 <<< (a3 &&& 31))) >>> (1 &&& 31))), (0, .ref (D.2.1 7)), (1, .int a1), (2, .int a2), (3, .int a3)] rfl ?_
  refine j_aload_n F dX4_isRest_15 16 rfl 1 rfl ?_
  refine j_iconst (v := 0) F dX4_isRest_16 17 rfl (by decide) ?_
  refine j_iload_n F dX4_isRest_17 18 rfl 2 rfl ?_
  refine j_iload F dX4_isRest_18 20 rfl 0 rfl ?_
  refine j_callVr (as := [.int 0, .int a1, .int ((((1 <<< (a1 &&& 31)) ||| (1 <<< (a2 &&& 31))) ||| (1 <<< (a3 &&& 31))) >>> (1 &&& 31))]) (st := []) (r := .int (fX4_has σ 0 a1 ((((1 <<< (a1 &&& 31)) ||| (1 <<< (a2 &&& 31))) ||| (1 <<< (a3 &&& 31))) >>> (1 &&& 31)))) (σ9 := σ) F zX4_has dX4_isRest_20 23 rfl pX4_has rfl (by decide) (by decide) (Nat.le_of_ble_eq_true rfl) rfl qX4_85 rfl rfl (by decide) sh7 (kX4_has l D 0 a1 ((((1 <<< (a1 &&& 31)) ||| (1 <<< (a2 &&& 31))) ||| (1 <<< (a3 &&& 31))) >>> (1 &&& 31)) σ (vp_in_nI (n := 0) (by decide) (by decide))) ?_
  refine j_aload_n F dX4_isRest_23 24 rfl 1 rfl ?_
  refine j_get (j := 3) F dX4_isRest_24 27 rfl inX4 rfl (by decide) sh7 (by decide) qX4_27 rfl ?_
  refine j_iconst (v := 0) F dX4_isRest_27 28 rfl (by decide) ?_
  refine j_qald2_n F dX4_isRest_28 29 rfl (by decide) (by decide) sh13 0 rfl (by decide) rfl ?_
  refine j_iload_n F dX4_isRest_29 30 rfl 3 rfl ?_
  refine j_bipush (v := 9) F dX4_isRest_30 32 rfl (by decide) ?_
  refine j_imul F dX4_isRest_32 33 rfl ?_
  refine j_iload_n F dX4_isRest_33 34 rfl 4 rfl ?_
  refine j_iadd F dX4_isRest_34 35 rfl ?_
  refine j_callSNr (as := [.ref (D.2.1 (14 + 0)), .int ((a2 * 9) + a3)]) (st := [.int (fX4_has σ 0 a1 ((((1 <<< (a1 &&& 31)) ||| (1 <<< (a2 &&& 31))) ||| (1 <<< (a3 &&& 31))) >>> (1 &&& 31)))]) (r := .int (fX9_at σ (14 + 0) 81 ((a2 * 9) + a3))) (σ9 := σ) F zX9_at dX4_isRest_35 38 rfl pX9_at rfl (by decide) (by decide) (Nat.le_of_ble_eq_true rfl) rfl qX4_92 (kX9_at l D (14 + 0) 81 ((a2 * 9) + a3) σ (iaQn 14 81 (Or.inr ⟨rfl, rfl⟩) (by decide))) ?_
  refine j_icmp_lt F dX4_isRest_38 97 (by decide) 41 rfl (fun c_38 => ?_) (fun c_38 => ?_)
  · rw [if_pos c_38]
    refine j_aload_n F dX4_isRest_41 42 rfl 1 rfl ?_
    refine j_iconst (v := 1) F dX4_isRest_42 43 rfl (by decide) ?_
    refine j_iload_n F dX4_isRest_43 44 rfl 3 rfl ?_
    refine j_iload F dX4_isRest_44 46 rfl 0 rfl ?_
    refine j_callVr (as := [.int 1, .int a2, .int ((((1 <<< (a1 &&& 31)) ||| (1 <<< (a2 &&& 31))) ||| (1 <<< (a3 &&& 31))) >>> (1 &&& 31))]) (st := []) (r := .int (fX4_has σ 1 a2 ((((1 <<< (a1 &&& 31)) ||| (1 <<< (a2 &&& 31))) ||| (1 <<< (a3 &&& 31))) >>> (1 &&& 31)))) (σ9 := σ) F zX4_has dX4_isRest_46 49 rfl pX4_has rfl (by decide) (by decide) (Nat.le_of_ble_eq_true rfl) rfl qX4_85 rfl rfl (by decide) sh7 (kX4_has l D 1 a2 ((((1 <<< (a1 &&& 31)) ||| (1 <<< (a2 &&& 31))) ||| (1 <<< (a3 &&& 31))) >>> (1 &&& 31)) σ (vp_in_nI (n := 1) (by decide) (by decide))) ?_
    refine j_aload_n F dX4_isRest_49 50 rfl 1 rfl ?_
    refine j_get (j := 3) F dX4_isRest_50 53 rfl inX4 rfl (by decide) sh7 (by decide) qX4_27 rfl ?_
    refine j_iconst (v := 1) F dX4_isRest_53 54 rfl (by decide) ?_
    refine j_qald2_n F dX4_isRest_54 55 rfl (by decide) (by decide) sh13 1 rfl (by decide) rfl ?_
    refine j_iload_n F dX4_isRest_55 56 rfl 2 rfl ?_
    refine j_bipush (v := 9) F dX4_isRest_56 58 rfl (by decide) ?_
    refine j_imul F dX4_isRest_58 59 rfl ?_
    refine j_iload_n F dX4_isRest_59 60 rfl 4 rfl ?_
    refine j_iadd F dX4_isRest_60 61 rfl ?_
    refine j_callSNr (as := [.ref (D.2.1 (14 + 1)), .int ((a1 * 9) + a3)]) (st := [.int (fX4_has σ 1 a2 ((((1 <<< (a1 &&& 31)) ||| (1 <<< (a2 &&& 31))) ||| (1 <<< (a3 &&& 31))) >>> (1 &&& 31)))]) (r := .int (fX9_at σ (14 + 1) 81 ((a1 * 9) + a3))) (σ9 := σ) F zX9_at dX4_isRest_61 64 rfl pX9_at rfl (by decide) (by decide) (Nat.le_of_ble_eq_true rfl) rfl qX4_92 (kX9_at l D (14 + 1) 81 ((a1 * 9) + a3) σ (iaQn 14 81 (Or.inr ⟨rfl, rfl⟩) (by decide))) ?_
    refine j_icmp_lt F dX4_isRest_64 97 (by decide) 67 rfl (fun c_64 => ?_) (fun c_64 => ?_)
    · rw [if_pos c_64]
      refine j_aload_n F dX4_isRest_67 68 rfl 1 rfl ?_
      refine j_iconst (v := 2) F dX4_isRest_68 69 rfl (by decide) ?_
      refine j_iload_n F dX4_isRest_69 70 rfl 4 rfl ?_
      refine j_iload F dX4_isRest_70 72 rfl 0 rfl ?_
      refine j_callVr (as := [.int 2, .int a3, .int ((((1 <<< (a1 &&& 31)) ||| (1 <<< (a2 &&& 31))) ||| (1 <<< (a3 &&& 31))) >>> (1 &&& 31))]) (st := []) (r := .int (fX4_has σ 2 a3 ((((1 <<< (a1 &&& 31)) ||| (1 <<< (a2 &&& 31))) ||| (1 <<< (a3 &&& 31))) >>> (1 &&& 31)))) (σ9 := σ) F zX4_has dX4_isRest_72 75 rfl pX4_has rfl (by decide) (by decide) (Nat.le_of_ble_eq_true rfl) rfl qX4_85 rfl rfl (by decide) sh7 (kX4_has l D 2 a3 ((((1 <<< (a1 &&& 31)) ||| (1 <<< (a2 &&& 31))) ||| (1 <<< (a3 &&& 31))) >>> (1 &&& 31)) σ (vp_in_nI (n := 2) (by decide) (by decide))) ?_
      refine j_aload_n F dX4_isRest_75 76 rfl 1 rfl ?_
      refine j_get (j := 3) F dX4_isRest_76 79 rfl inX4 rfl (by decide) sh7 (by decide) qX4_27 rfl ?_
      refine j_iconst (v := 2) F dX4_isRest_79 80 rfl (by decide) ?_
      refine j_qald2_n F dX4_isRest_80 81 rfl (by decide) (by decide) sh13 2 rfl (by decide) rfl ?_
      refine j_iload_n F dX4_isRest_81 82 rfl 2 rfl ?_
      refine j_bipush (v := 9) F dX4_isRest_82 84 rfl (by decide) ?_
      refine j_imul F dX4_isRest_84 85 rfl ?_
      refine j_iload_n F dX4_isRest_85 86 rfl 3 rfl ?_
      refine j_iadd F dX4_isRest_86 87 rfl ?_
      refine j_callSNr (as := [.ref (D.2.1 (14 + 2)), .int ((a1 * 9) + a2)]) (st := [.int (fX4_has σ 2 a3 ((((1 <<< (a1 &&& 31)) ||| (1 <<< (a2 &&& 31))) ||| (1 <<< (a3 &&& 31))) >>> (1 &&& 31)))]) (r := .int (fX9_at σ (14 + 2) 81 ((a1 * 9) + a2))) (σ9 := σ) F zX9_at dX4_isRest_87 90 rfl pX9_at rfl (by decide) (by decide) (Nat.le_of_ble_eq_true rfl) rfl qX4_92 (kX9_at l D (14 + 2) 81 ((a1 * 9) + a2) σ (iaQn 14 81 (Or.inr ⟨rfl, rfl⟩) (by decide))) ?_
      refine j_icmp_lt F dX4_isRest_90 97 (by decide) 93 rfl (fun c_90 => ?_) (fun c_90 => ?_)
      · rw [if_pos c_90]
        refine j_iconst (v := 1) F dX4_isRest_93 94 rfl (by decide) ?_
        refine j_goto F dX4_isRest_94 98 (by decide) ?_
        exact j_ret_b (b := true) F dX4_isRest_98 rfl rfl rfl
      · rw [if_neg c_90]
        refine j_iconst (v := 0) F dX4_isRest_97 98 rfl (by decide) ?_
        exact j_ret_b (b := false) F dX4_isRest_98 rfl rfl rfl
    · rw [if_neg c_64]
      refine j_iconst (v := 0) F dX4_isRest_97 98 rfl (by decide) ?_
      exact j_ret_b (b := false) F dX4_isRest_98 rfl rfl rfl
  · rw [if_neg c_38]
    refine j_iconst (v := 0) F dX4_isRest_97 98 rfl (by decide) ?_
    exact j_ret_b (b := false) F dX4_isRest_98 rfl rfl rfl
def fX4_raise (σ : Mm) (a1 : Int32) (a2 : Int32) (a3 : Int32) : Mm := (fX9_put σ (14 + a1.toNatClampNeg) 81 a2 (if (fX9_at σ (14 + a1.toNatClampNeg) 81 a2) < a3 then a3 else (fX9_at σ (14 + a1.toNatClampNeg) 81 a2)))
set_option maxRecDepth 20000 in
theorem kX4_raise (l : Launch) (D : Dm) (a1 : Int32) (a2 : Int32) (a3 : Int32) (σ : Mm) (hv : vp_in a1 3) : Ct l yX4_raise cX4_raise 4 none 2 D [.ref (D.2.1 7), .int a1, .int a2, .int a3] σ (none, fX4_raise σ a1 a2 a3) := by
  refine ct_of (by decide +kernel) (Nat.le_of_ble_eq_true rfl) (fun X F => ?_)
  have F : Fx X l 4 D cX4_raise RX4 2 none := F
  show JJ X 4 D σ 0 [(0, .ref (D.2.1 7)), (1, .int a1), (2, .int a2), (3, .int a3)] [] (QQ X D (none, fX4_raise σ a1 a2 a3))
  rw [fX4_raise]
  refine j_aload_n F dX4_raise_0 1 rfl 0 rfl ?_
  refine j_get (j := 3) F dX4_raise_1 4 rfl inX4 rfl (by decide) sh7 (by decide) qX4_27 rfl ?_
  refine j_iload_n F dX4_raise_4 5 rfl 1 rfl ?_
  refine j_qald2 F dX4_raise_5 6 rfl (by decide) sh13 (by first | assumption | exact vin_c (by assumption) (by assumption) (by decide) | exact vin_d (by assumption) (by assumption) (by decide) | exact vin_k (by assumption) (by assumption) (by decide) | exact vin_mono (by assumption) (by decide) | exact vin_mono (isThing_in (by assumption) (by assumption)) (by decide)) rfl ?_
  refine j_iload_n F dX4_raise_6 7 rfl 2 rfl ?_
  refine j_aload_n F dX4_raise_7 8 rfl 0 rfl ?_
  refine j_get (j := 3) F dX4_raise_8 11 rfl inX4 rfl (by decide) sh7 (by decide) qX4_27 rfl ?_
  refine j_iload_n F dX4_raise_11 12 rfl 1 rfl ?_
  refine j_qald2 F dX4_raise_12 13 rfl (by decide) sh13 (by first | assumption | exact vin_c (by assumption) (by assumption) (by decide) | exact vin_d (by assumption) (by assumption) (by decide) | exact vin_k (by assumption) (by assumption) (by decide) | exact vin_mono (by assumption) (by decide) | exact vin_mono (isThing_in (by assumption) (by assumption)) (by decide)) rfl ?_
  refine j_iload_n F dX4_raise_13 14 rfl 2 rfl ?_
  refine j_callSNr (as := [.ref (D.2.1 (14 + a1.toNatClampNeg)), .int a2]) (st := [.int a2, .ref (D.2.1 (14 + a1.toNatClampNeg))]) (r := .int (fX9_at σ (14 + a1.toNatClampNeg) 81 a2)) (σ9 := σ) F zX9_at dX4_raise_14 17 rfl pX9_at rfl (by decide) (by decide) (Nat.le_of_ble_eq_true rfl) rfl qX4_92 (kX9_at l D (14 + a1.toNatClampNeg) 81 a2 σ (iaQ (Or.inr ⟨rfl, rfl⟩) (by first | assumption | exact vin_c (by assumption) (by assumption) (by decide) | exact vin_d (by assumption) (by assumption) (by decide) | exact vin_k (by assumption) (by assumption) (by decide) | exact vin_mono (by assumption) (by decide) | exact vin_mono (isThing_in (by assumption) (by assumption)) (by decide)))) ?_
  refine j_iload_n F dX4_raise_17 18 rfl 3 rfl ?_
  refine j_mmax F dX4_raise_18 21 rfl (by decide) (Nat.le_of_ble_eq_true rfl) qX4_96 mth_max.1 mth_max.2.1 mth_max.2.2 ?_
  refine j_callSNv (as := [.ref (D.2.1 (14 + a1.toNatClampNeg)), .int a2, .int (if (fX9_at σ (14 + a1.toNatClampNeg) 81 a2) < a3 then a3 else (fX9_at σ (14 + a1.toNatClampNeg) 81 a2))]) (st := []) (σ9 := (fX9_put σ (14 + a1.toNatClampNeg) 81 a2 (if (fX9_at σ (14 + a1.toNatClampNeg) 81 a2) < a3 then a3 else (fX9_at σ (14 + a1.toNatClampNeg) 81 a2)))) F zX9_put dX4_raise_21 24 rfl pX9_put rfl (by decide) (by decide) (Nat.le_of_ble_eq_true rfl) rfl qX4_101 (kX9_put l D (14 + a1.toNatClampNeg) 81 a2 (if (fX9_at σ (14 + a1.toNatClampNeg) 81 a2) < a3 then a3 else (fX9_at σ (14 + a1.toNatClampNeg) 81 a2)) σ (iaQ (Or.inr ⟨rfl, rfl⟩) (by first | assumption | exact vin_c (by assumption) (by assumption) (by decide) | exact vin_d (by assumption) (by assumption) (by decide) | exact vin_k (by assumption) (by assumption) (by decide) | exact vin_mono (by assumption) (by decide) | exact vin_mono (isThing_in (by assumption) (by assumption)) (by decide)))) ?_
  exact j_ret_v F dX4_raise_24 rfl rfl rfl
def fX4_raiseBest_53 (a1 : Int32) (a2 : Int32) (a3 : Int32)  (s_53 : Mm) (x4_53 : Int32) : Mm := (fX4_raise s_53 2 ((a1 * 9) + a2) (fX4_has s_53 2 a3 x4_53))
def fX4_raiseBest (σ : Mm) (a1 : Int32) (a2 : Int32) (a3 : Int32) : Mm := fX4_raiseBest_53 a1 a2 a3 (fX4_raise (fX4_raise σ 0 ((a2 * 9) + a3) (fX4_has σ 0 a1 ((((1 <<< (a1 &&& 31)) ||| (1 <<< (a2 &&& 31))) ||| (1 <<< (a3 &&& 31))) >>> (1 &&& 31)))) 1 ((a1 * 9) + a3) (fX4_has (fX4_raise σ 0 ((a2 * 9) + a3) (fX4_has σ 0 a1 ((((1 <<< (a1 &&& 31)) ||| (1 <<< (a2 &&& 31))) ||| (1 <<< (a3 &&& 31))) >>> (1 &&& 31)))) 1 a2 ((((1 <<< (a1 &&& 31)) ||| (1 <<< (a2 &&& 31))) ||| (1 <<< (a3 &&& 31))) >>> (1 &&& 31)))) ((((1 <<< (a1 &&& 31)) ||| (1 <<< (a2 &&& 31))) ||| (1 <<< (a3 &&& 31))) >>> (1 &&& 31))
set_option maxRecDepth 20000 in
theorem kX4_raiseBest (l : Launch) (D : Dm) (a1 : Int32) (a2 : Int32) (a3 : Int32) (σ : Mm)  : Ct l yX4_raiseBest cX4_raiseBest 5 none 4 D [.ref (D.2.1 7), .int a1, .int a2, .int a3] σ (none, fX4_raiseBest σ a1 a2 a3) := by
  refine ct_of (by decide +kernel) (Nat.le_of_ble_eq_true rfl) (fun X F => ?_)
  have F : Fx X l 5 D cX4_raiseBest RX4 4 none := F
  show JJ X 5 D σ 0 [(0, .ref (D.2.1 7)), (1, .int a1), (2, .int a2), (3, .int a3)] [] (QQ X D (none, fX4_raiseBest σ a1 a2 a3))
  rw [fX4_raiseBest]
  refine j_iconst (v := 1) F dX4_raiseBest_0 1 rfl (by decide) ?_
  refine j_iload_n F dX4_raiseBest_1 2 rfl 1 rfl ?_
  refine j_ishl F dX4_raiseBest_2 3 rfl ?_
  refine j_iconst (v := 1) F dX4_raiseBest_3 4 rfl (by decide) ?_
  refine j_iload_n F dX4_raiseBest_4 5 rfl 2 rfl ?_
  refine j_ishl F dX4_raiseBest_5 6 rfl ?_
  refine j_ior F dX4_raiseBest_6 7 rfl ?_
  refine j_iconst (v := 1) F dX4_raiseBest_7 8 rfl (by decide) ?_
  refine j_iload_n F dX4_raiseBest_8 9 rfl 3 rfl ?_
  refine j_ishl F dX4_raiseBest_9 10 rfl ?_
  refine j_ior F dX4_raiseBest_10 11 rfl ?_
  refine j_iconst (v := 1) F dX4_raiseBest_11 12 rfl (by decide) ?_
  refine j_ishr F dX4_raiseBest_12 13 rfl ?_
  refine j_istore F dX4_raiseBest_13 15 rfl (by decide) [(4, .int ((((1 <<< (a1 &&& 31)) ||| (1 <<< (a2 &&& 31))) ||| (1 <<< (a3 &&& 31))) >>> (1 &&& 31))), (0, .ref (D.2.1 7)), (1, .int a1), (2, .int a2), (3, .int a3)] rfl ?_
  refine j_aload_n F dX4_raiseBest_15 16 rfl 1 rfl ?_
  refine j_iconst (v := 0) F dX4_raiseBest_16 17 rfl (by decide) ?_
  refine j_iload_n F dX4_raiseBest_17 18 rfl 3 rfl ?_
  refine j_bipush (v := 9) F dX4_raiseBest_18 20 rfl (by decide) ?_
  refine j_imul F dX4_raiseBest_20 21 rfl ?_
  refine j_iload_n F dX4_raiseBest_21 22 rfl 4 rfl ?_
  refine j_iadd F dX4_raiseBest_22 23 rfl ?_
  refine j_aload_n F dX4_raiseBest_23 24 rfl 1 rfl ?_
  refine j_iconst (v := 0) F dX4_raiseBest_24 25 rfl (by decide) ?_
  refine j_iload_n F dX4_raiseBest_25 26 rfl 2 rfl ?_
  refine j_iload F dX4_raiseBest_26 28 rfl 0 rfl ?_
  refine j_callVr (as := [.int 0, .int a1, .int ((((1 <<< (a1 &&& 31)) ||| (1 <<< (a2 &&& 31))) ||| (1 <<< (a3 &&& 31))) >>> (1 &&& 31))]) (st := [.int ((a2 * 9) + a3), .int 0, .ref (D.2.1 7)]) (r := .int (fX4_has σ 0 a1 ((((1 <<< (a1 &&& 31)) ||| (1 <<< (a2 &&& 31))) ||| (1 <<< (a3 &&& 31))) >>> (1 &&& 31)))) (σ9 := σ) F zX4_has dX4_raiseBest_28 31 rfl pX4_has rfl (by decide) (by decide) (Nat.le_of_ble_eq_true rfl) rfl qX4_85 rfl rfl (by decide) sh7 (kX4_has l D 0 a1 ((((1 <<< (a1 &&& 31)) ||| (1 <<< (a2 &&& 31))) ||| (1 <<< (a3 &&& 31))) >>> (1 &&& 31)) σ (vp_in_nI (n := 0) (by decide) (by decide))) ?_
  refine j_callVv (as := [.int 0, .int ((a2 * 9) + a3), .int (fX4_has σ 0 a1 ((((1 <<< (a1 &&& 31)) ||| (1 <<< (a2 &&& 31))) ||| (1 <<< (a3 &&& 31))) >>> (1 &&& 31)))]) (st := []) (σ9 := (fX4_raise σ 0 ((a2 * 9) + a3) (fX4_has σ 0 a1 ((((1 <<< (a1 &&& 31)) ||| (1 <<< (a2 &&& 31))) ||| (1 <<< (a3 &&& 31))) >>> (1 &&& 31))))) F zX4_raise dX4_raiseBest_31 34 rfl pX4_raise rfl (by decide) (by decide) (Nat.le_of_ble_eq_true rfl) rfl qX4_89 rfl rfl (by decide) sh7 (kX4_raise l D 0 ((a2 * 9) + a3) (fX4_has σ 0 a1 ((((1 <<< (a1 &&& 31)) ||| (1 <<< (a2 &&& 31))) ||| (1 <<< (a3 &&& 31))) >>> (1 &&& 31))) σ (vp_in_nI (n := 0) (by decide) (by decide))) ?_
  refine j_aload_n F dX4_raiseBest_34 35 rfl 1 rfl ?_
  refine j_iconst (v := 1) F dX4_raiseBest_35 36 rfl (by decide) ?_
  refine j_iload_n F dX4_raiseBest_36 37 rfl 2 rfl ?_
  refine j_bipush (v := 9) F dX4_raiseBest_37 39 rfl (by decide) ?_
  refine j_imul F dX4_raiseBest_39 40 rfl ?_
  refine j_iload_n F dX4_raiseBest_40 41 rfl 4 rfl ?_
  refine j_iadd F dX4_raiseBest_41 42 rfl ?_
  refine j_aload_n F dX4_raiseBest_42 43 rfl 1 rfl ?_
  refine j_iconst (v := 1) F dX4_raiseBest_43 44 rfl (by decide) ?_
  refine j_iload_n F dX4_raiseBest_44 45 rfl 3 rfl ?_
  refine j_iload F dX4_raiseBest_45 47 rfl 0 rfl ?_
  refine j_callVr (as := [.int 1, .int a2, .int ((((1 <<< (a1 &&& 31)) ||| (1 <<< (a2 &&& 31))) ||| (1 <<< (a3 &&& 31))) >>> (1 &&& 31))]) (st := [.int ((a1 * 9) + a3), .int 1, .ref (D.2.1 7)]) (r := .int (fX4_has (fX4_raise σ 0 ((a2 * 9) + a3) (fX4_has σ 0 a1 ((((1 <<< (a1 &&& 31)) ||| (1 <<< (a2 &&& 31))) ||| (1 <<< (a3 &&& 31))) >>> (1 &&& 31)))) 1 a2 ((((1 <<< (a1 &&& 31)) ||| (1 <<< (a2 &&& 31))) ||| (1 <<< (a3 &&& 31))) >>> (1 &&& 31)))) (σ9 := (fX4_raise σ 0 ((a2 * 9) + a3) (fX4_has σ 0 a1 ((((1 <<< (a1 &&& 31)) ||| (1 <<< (a2 &&& 31))) ||| (1 <<< (a3 &&& 31))) >>> (1 &&& 31))))) F zX4_has dX4_raiseBest_47 50 rfl pX4_has rfl (by decide) (by decide) (Nat.le_of_ble_eq_true rfl) rfl qX4_85 rfl rfl (by decide) sh7 (kX4_has l D 1 a2 ((((1 <<< (a1 &&& 31)) ||| (1 <<< (a2 &&& 31))) ||| (1 <<< (a3 &&& 31))) >>> (1 &&& 31)) (fX4_raise σ 0 ((a2 * 9) + a3) (fX4_has σ 0 a1 ((((1 <<< (a1 &&& 31)) ||| (1 <<< (a2 &&& 31))) ||| (1 <<< (a3 &&& 31))) >>> (1 &&& 31)))) (vp_in_nI (n := 1) (by decide) (by decide))) ?_
  refine j_callVv (as := [.int 1, .int ((a1 * 9) + a3), .int (fX4_has (fX4_raise σ 0 ((a2 * 9) + a3) (fX4_has σ 0 a1 ((((1 <<< (a1 &&& 31)) ||| (1 <<< (a2 &&& 31))) ||| (1 <<< (a3 &&& 31))) >>> (1 &&& 31)))) 1 a2 ((((1 <<< (a1 &&& 31)) ||| (1 <<< (a2 &&& 31))) ||| (1 <<< (a3 &&& 31))) >>> (1 &&& 31)))]) (st := []) (σ9 := (fX4_raise (fX4_raise σ 0 ((a2 * 9) + a3) (fX4_has σ 0 a1 ((((1 <<< (a1 &&& 31)) ||| (1 <<< (a2 &&& 31))) ||| (1 <<< (a3 &&& 31))) >>> (1 &&& 31)))) 1 ((a1 * 9) + a3) (fX4_has (fX4_raise σ 0 ((a2 * 9) + a3) (fX4_has σ 0 a1 ((((1 <<< (a1 &&& 31)) ||| (1 <<< (a2 &&& 31))) ||| (1 <<< (a3 &&& 31))) >>> (1 &&& 31)))) 1 a2 ((((1 <<< (a1 &&& 31)) ||| (1 <<< (a2 &&& 31))) ||| (1 <<< (a3 &&& 31))) >>> (1 &&& 31))))) F zX4_raise dX4_raiseBest_50 53 rfl pX4_raise rfl (by decide) (by decide) (Nat.le_of_ble_eq_true rfl) rfl qX4_89 rfl rfl (by decide) sh7 (kX4_raise l D 1 ((a1 * 9) + a3) (fX4_has (fX4_raise σ 0 ((a2 * 9) + a3) (fX4_has σ 0 a1 ((((1 <<< (a1 &&& 31)) ||| (1 <<< (a2 &&& 31))) ||| (1 <<< (a3 &&& 31))) >>> (1 &&& 31)))) 1 a2 ((((1 <<< (a1 &&& 31)) ||| (1 <<< (a2 &&& 31))) ||| (1 <<< (a3 &&& 31))) >>> (1 &&& 31))) (fX4_raise σ 0 ((a2 * 9) + a3) (fX4_has σ 0 a1 ((((1 <<< (a1 &&& 31)) ||| (1 <<< (a2 &&& 31))) ||| (1 <<< (a3 &&& 31))) >>> (1 &&& 31)))) (vp_in_nI (n := 1) (by decide) (by decide))) ?_
  refine j_pick [1, 2, 3, 4, 0] [(0, .ref (D.2.1 7)), (1, .int a1), (2, .int a2), (3, .int a3), (4, .int ((((1 <<< (a1 &&& 31)) ||| (1 <<< (a2 &&& 31))) ||| (1 <<< (a3 &&& 31))) >>> (1 &&& 31)))] rfl ?_
  have jn_53 : ∀ (s_53 : Mm), JJ X 5 D s_53 53 [(0, .ref (D.2.1 7)), (1, .int a1), (2, .int a2), (3, .int a3), (4, .int ((((1 <<< (a1 &&& 31)) ||| (1 <<< (a2 &&& 31))) ||| (1 <<< (a3 &&& 31))) >>> (1 &&& 31)))] [] (QQ X D (none, fX4_raiseBest_53 a1 a2 a3 s_53 ((((1 <<< (a1 &&& 31)) ||| (1 <<< (a2 &&& 31))) ||| (1 <<< (a3 &&& 31))) >>> (1 &&& 31)))) := by
    intro s_53
    rw [fX4_raiseBest_53]
    refine j_aload_n F dX4_raiseBest_53 54 rfl 0 rfl ?_
    refine j_iconst (v := 2) F dX4_raiseBest_54 55 rfl (by decide) ?_
    refine j_iload_n F dX4_raiseBest_55 56 rfl 1 rfl ?_
    refine j_bipush (v := 9) F dX4_raiseBest_56 58 rfl (by decide) ?_
    refine j_imul F dX4_raiseBest_58 59 rfl ?_
    refine j_iload_n F dX4_raiseBest_59 60 rfl 2 rfl ?_
    refine j_iadd F dX4_raiseBest_60 61 rfl ?_
    refine j_aload_n F dX4_raiseBest_61 62 rfl 0 rfl ?_
    refine j_iconst (v := 2) F dX4_raiseBest_62 63 rfl (by decide) ?_
    refine j_iload_n F dX4_raiseBest_63 64 rfl 3 rfl ?_
    refine j_iload F dX4_raiseBest_64 66 rfl 4 rfl ?_
    refine j_callVr (as := [.int 2, .int a3, .int ((((1 <<< (a1 &&& 31)) ||| (1 <<< (a2 &&& 31))) ||| (1 <<< (a3 &&& 31))) >>> (1 &&& 31))]) (st := [.int ((a1 * 9) + a2), .int 2, .ref (D.2.1 7)]) (r := .int (fX4_has s_53 2 a3 ((((1 <<< (a1 &&& 31)) ||| (1 <<< (a2 &&& 31))) ||| (1 <<< (a3 &&& 31))) >>> (1 &&& 31)))) (σ9 := s_53) F zX4_has dX4_raiseBest_66 69 rfl pX4_has rfl (by decide) (by decide) (Nat.le_of_ble_eq_true rfl) rfl qX4_85 rfl rfl (by decide) sh7 (kX4_has l D 2 a3 ((((1 <<< (a1 &&& 31)) ||| (1 <<< (a2 &&& 31))) ||| (1 <<< (a3 &&& 31))) >>> (1 &&& 31)) s_53 (vp_in_nI (n := 2) (by decide) (by decide))) ?_
    refine j_callVv (as := [.int 2, .int ((a1 * 9) + a2), .int (fX4_has s_53 2 a3 ((((1 <<< (a1 &&& 31)) ||| (1 <<< (a2 &&& 31))) ||| (1 <<< (a3 &&& 31))) >>> (1 &&& 31)))]) (st := []) (σ9 := (fX4_raise s_53 2 ((a1 * 9) + a2) (fX4_has s_53 2 a3 ((((1 <<< (a1 &&& 31)) ||| (1 <<< (a2 &&& 31))) ||| (1 <<< (a3 &&& 31))) >>> (1 &&& 31))))) F zX4_raise dX4_raiseBest_69 72 rfl pX4_raise rfl (by decide) (by decide) (Nat.le_of_ble_eq_true rfl) rfl qX4_89 rfl rfl (by decide) sh7 (kX4_raise l D 2 ((a1 * 9) + a2) (fX4_has s_53 2 a3 ((((1 <<< (a1 &&& 31)) ||| (1 <<< (a2 &&& 31))) ||| (1 <<< (a3 &&& 31))) >>> (1 &&& 31))) s_53 (vp_in_nI (n := 2) (by decide) (by decide))) ?_
    exact j_ret_v F dX4_raiseBest_72 rfl rfl rfl
  exact jn_53 (fX4_raise (fX4_raise σ 0 ((a2 * 9) + a3) (fX4_has σ 0 a1 ((((1 <<< (a1 &&& 31)) ||| (1 <<< (a2 &&& 31))) ||| (1 <<< (a3 &&& 31))) >>> (1 &&& 31)))) 1 ((a1 * 9) + a3) (fX4_has (fX4_raise σ 0 ((a2 * 9) + a3) (fX4_has σ 0 a1 ((((1 <<< (a1 &&& 31)) ||| (1 <<< (a2 &&& 31))) ||| (1 <<< (a3 &&& 31))) >>> (1 &&& 31)))) 1 a2 ((((1 <<< (a1 &&& 31)) ||| (1 <<< (a2 &&& 31))) ||| (1 <<< (a3 &&& 31))) >>> (1 &&& 31)))) 
def fX4_tell (σ : Mm) (a1 : Int32) : Mm := if (σ.1 7 5) = 0 then ((up (up σ 7 4 a1) 7 5 (((up σ 7 4 a1).1 7 5) + 1))) else ((up (up σ 7 4 (σ.1 7 4)) 7 5 (((up σ 7 4 (σ.1 7 4)).1 7 5) + 1)))
set_option maxRecDepth 20000 in
theorem kX4_tell (l : Launch) (D : Dm) (a1 : Int32) (σ : Mm)  : Ct l yX4_tell cX4_tell 2 none 1 D [.ref (D.2.1 7), .int a1] σ (none, fX4_tell σ a1) := by
  refine ct_of (by decide +kernel) (Nat.le_of_ble_eq_true rfl) (fun X F => ?_)
  have F : Fx X l 2 D cX4_tell RX4 1 none := F
  show JJ X 2 D σ 0 [(0, .ref (D.2.1 7)), (1, .int a1)] [] (QQ X D (none, fX4_tell σ a1))
  rw [fX4_tell]
  refine j_aload_n F dX4_tell_0 1 rfl 0 rfl ?_
  refine j_aload_n F dX4_tell_1 2 rfl 0 rfl ?_
  refine j_get (j := 5) F dX4_tell_2 5 rfl inX4 rfl (by decide) sh7 (by decide) qX4_37 rfl ?_
  refine j_if_ne F dX4_tell_5 12 (by decide) 8 rfl (fun c_5 => ?_) (fun c_5 => ?_)
  · rw [if_pos c_5]
    refine j_iload_n F dX4_tell_8 9 rfl 1 rfl ?_
    refine j_goto F dX4_tell_9 16 (by decide) ?_
    refine j_put (j := 4) F dX4_tell_16 19 rfl inX4 tyX4 tyX4_ok nmX4 rfl (by decide) sh7 sh7 (by decide) qX4_41 rfl (tyX4_ok 4 (by decide)) (Nat.le_of_ble_eq_true rfl) ?_
    refine j_aload_n F dX4_tell_19 20 rfl 0 rfl ?_
    refine j_dup F dX4_tell_20 21 rfl rfl ?_
    refine j_get (j := 5) F dX4_tell_21 24 rfl inX4 rfl (by decide) sh7 (by decide) qX4_37 rfl ?_
    refine j_iconst (v := 1) F dX4_tell_24 25 rfl (by decide) ?_
    refine j_iadd F dX4_tell_25 26 rfl ?_
    refine j_put (j := 5) F dX4_tell_26 29 rfl inX4 tyX4 tyX4_ok nmX4 rfl (by decide) sh7 sh7 (by decide) qX4_37 rfl (tyX4_ok 5 (by decide)) (Nat.le_of_ble_eq_true rfl) ?_
    exact j_ret_v F dX4_tell_29 rfl rfl rfl
  · rw [if_neg c_5]
    refine j_aload_n F dX4_tell_12 13 rfl 0 rfl ?_
    refine j_get (j := 4) F dX4_tell_13 16 rfl inX4 rfl (by decide) sh7 (by decide) qX4_41 rfl ?_
    refine j_put (j := 4) F dX4_tell_16 19 rfl inX4 tyX4 tyX4_ok nmX4 rfl (by decide) sh7 sh7 (by decide) qX4_41 rfl (tyX4_ok 4 (by decide)) (Nat.le_of_ble_eq_true rfl) ?_
    refine j_aload_n F dX4_tell_19 20 rfl 0 rfl ?_
    refine j_dup F dX4_tell_20 21 rfl rfl ?_
    refine j_get (j := 5) F dX4_tell_21 24 rfl inX4 rfl (by decide) sh7 (by decide) qX4_37 rfl ?_
    refine j_iconst (v := 1) F dX4_tell_24 25 rfl (by decide) ?_
    refine j_iadd F dX4_tell_25 26 rfl ?_
    refine j_put (j := 5) F dX4_tell_26 29 rfl inX4 tyX4 tyX4_ok nmX4 rfl (by decide) sh7 sh7 (by decide) qX4_37 rfl (tyX4_ok 5 (by decide)) (Nat.le_of_ble_eq_true rfl) ?_
    exact j_ret_v F dX4_tell_29 rfl rfl rfl
def fX4_goThrough_19 (a1 : Bool) (kb2 : Mm → Nat → Mm) (kb10 : Mm → Nat → Nat → Mm) : Nat → Mm → Nat → Nat → Nat → Mm
  | 0, s_19, _, _, _ => s_19
  | n + 1, s_19, k2_19, k3_19, k4_19 => if (nI k4_19) < 9 then (if (((((s_19.1 8 0) >>> ((nI k2_19) &&& 31)) &&& ((s_19.1 8 1) >>> ((nI k3_19) &&& 31))) &&& ((s_19.1 8 2) >>> ((nI k4_19) &&& 31))) &&& 1) = 0 then (fX4_goThrough_19 a1 kb2 kb10 n s_19 k2_19 k3_19 (k4_19 + 1)) else (if a1 = true then (if (fX4_isRest s_19 (nI k2_19) (nI k3_19) (nI k4_19)) = true then (fX4_goThrough_19 a1 kb2 kb10 n (fX4_tell s_19 (((((nI k2_19) * 9) + (nI k3_19)) * 9) + (nI k4_19))) k2_19 k3_19 (k4_19 + 1)) else (fX4_goThrough_19 a1 kb2 kb10 n s_19 k2_19 k3_19 (k4_19 + 1))) else (fX4_goThrough_19 a1 kb2 kb10 n (fX4_raiseBest s_19 (nI k2_19) (nI k3_19) (nI k4_19)) k2_19 k3_19 (k4_19 + 1)))) else (kb10 s_19 k2_19 (k3_19 + 1))
def fX4_goThrough_10 (a1 : Bool) (kb2 : Mm → Nat → Mm) : Nat → Mm → Nat → Nat → Mm
  | 0, s_10, _, _ => s_10
  | n + 1, s_10, k2_10, k3_10 => if (nI k3_10) < 9 then (fX4_goThrough_19 a1 kb2 (fX4_goThrough_10 a1 kb2 n) 10 s_10 k2_10 k3_10 0) else (kb2 s_10 (k2_10 + 1))
def fX4_goThrough_2 (a1 : Bool)  : Nat → Mm → Nat → Mm
  | 0, s_2, _ => s_2
  | n + 1, s_2, k2_2 => if (nI k2_2) < 9 then (fX4_goThrough_10 a1 (fX4_goThrough_2 a1 n) 10 s_2 k2_2 0) else (s_2)
def fX4_goThrough (σ : Mm) (a1 : Bool) : Mm := fX4_goThrough_2 a1 10 σ 0
set_option maxRecDepth 20000 in
theorem kX4_goThrough (l : Launch) (D : Dm) (a1 : Bool) (σ : Mm)  : Ct l yX4_goThrough cX4_goThrough 5 none 5 D [.ref (D.2.1 7), .int (bi a1)] σ (none, fX4_goThrough σ a1) := by
  refine ct_of (by decide +kernel) (Nat.le_of_ble_eq_true rfl) (fun X F => ?_)
  have F : Fx X l 5 D cX4_goThrough RX4 5 none := F
  show JJ X 5 D σ 0 [(0, .ref (D.2.1 7)), (1, .int (bi a1))] [] (QQ X D (none, fX4_goThrough σ a1))
  rw [fX4_goThrough]
  refine j_iconst (v := 0) F dX4_goThrough_0 1 rfl (by decide) ?_
  refine j_istore_n F dX4_goThrough_1 2 rfl 2 rfl (by decide) [(2, .int 0), (0, .ref (D.2.1 7)), (1, .int (bi a1))] rfl ?_
  have lp_2 : ∀ (n_2 : Nat) (s_2 : Mm) (k2_2 : Nat), k2_2 ≤ 9 → 9 < k2_2 + n_2 → JJ X 5 D s_2 2 [(0, .ref (D.2.1 7)), (1, .int (bi a1)), (2, .int (nI k2_2))] [] (QQ X D (none, fX4_goThrough_2 a1 n_2 s_2 k2_2)) := by
    intro n_2
    induction n_2 with
    | zero => intro s_2 k2_2 hk_2 hn_2; exact absurd hn_2 (by omega)
    | succ n_2 ih_2 =>
      intro s_2 k2_2 hk_2 hn_2
      rw [fX4_goThrough_2]
      refine j_iload_n F dX4_goThrough_2 3 rfl 2 rfl ?_
      refine j_bipush (v := 9) F dX4_goThrough_3 5 rfl (by decide) ?_
      refine j_icmp_ge F dX4_goThrough_5 121 (by decide) 8 rfl (fun c_5 => ?_) (fun c_5 => ?_)
      · rw [if_pos c_5]
        have h_5 : k2_2 < 9 := nlt c_5 (by decide) (by omega)
        refine j_iconst (v := 0) F dX4_goThrough_8 9 rfl (by decide) ?_
        refine j_istore_n F dX4_goThrough_9 10 rfl 3 rfl (by decide) [(3, .int 0), (0, .ref (D.2.1 7)), (1, .int (bi a1)), (2, .int (nI k2_2))] rfl ?_
        have lp_10 : ∀ (n_10 : Nat) (s_10 : Mm) (k3_10 : Nat), k3_10 ≤ 9 → 9 < k3_10 + n_10 → JJ X 5 D s_10 10 [(0, .ref (D.2.1 7)), (1, .int (bi a1)), (2, .int (nI k2_2)), (3, .int (nI k3_10))] [] (QQ X D (none, fX4_goThrough_10 a1 (fX4_goThrough_2 a1 n_2) n_10 s_10 k2_2 k3_10)) := by
          intro n_10
          induction n_10 with
          | zero => intro s_10 k3_10 hk_10 hn_10; exact absurd hn_10 (by omega)
          | succ n_10 ih_10 =>
            intro s_10 k3_10 hk_10 hn_10
            rw [fX4_goThrough_10]
            refine j_iload_n F dX4_goThrough_10 11 rfl 3 rfl ?_
            refine j_bipush (v := 9) F dX4_goThrough_11 13 rfl (by decide) ?_
            refine j_icmp_ge F dX4_goThrough_13 115 (by decide) 16 rfl (fun c_13 => ?_) (fun c_13 => ?_)
            · rw [if_pos c_13]
              have h_13 : k3_10 < 9 := nlt c_13 (by decide) (by omega)
              refine j_iconst (v := 0) F dX4_goThrough_16 17 rfl (by decide) ?_
              refine j_istore F dX4_goThrough_17 19 rfl (by decide) [(4, .int 0), (0, .ref (D.2.1 7)), (1, .int (bi a1)), (2, .int (nI k2_2)), (3, .int (nI k3_10))] rfl ?_
              have lp_19 : ∀ (n_19 : Nat) (s_19 : Mm) (k4_19 : Nat), k4_19 ≤ 9 → 9 < k4_19 + n_19 → JJ X 5 D s_19 19 [(0, .ref (D.2.1 7)), (1, .int (bi a1)), (2, .int (nI k2_2)), (3, .int (nI k3_10)), (4, .int (nI k4_19))] [] (QQ X D (none, fX4_goThrough_19 a1 (fX4_goThrough_2 a1 n_2) (fX4_goThrough_10 a1 (fX4_goThrough_2 a1 n_2) n_10) n_19 s_19 k2_2 k3_10 k4_19)) := by
                intro n_19
                induction n_19 with
                | zero => intro s_19 k4_19 hk_19 hn_19; exact absurd hn_19 (by omega)
                | succ n_19 ih_19 =>
                  intro s_19 k4_19 hk_19 hn_19
                  rw [fX4_goThrough_19]
                  refine j_iload F dX4_goThrough_19 21 rfl 4 rfl ?_
                  refine j_bipush (v := 9) F dX4_goThrough_21 23 rfl (by decide) ?_
                  refine j_icmp_ge F dX4_goThrough_23 109 (by decide) 26 rfl (fun c_23 => ?_) (fun c_23 => ?_)
                  · rw [if_pos c_23]
                    have h_23 : k4_19 < 9 := nlt c_23 (by decide) (by omega)
                    refine j_aload_n F dX4_goThrough_26 27 rfl 0 rfl ?_
                    refine j_get (j := 1) F dX4_goThrough_27 30 rfl inX4 rfl (by decide) sh7 (by decide) qX4_18 rfl ?_
                    refine j_iconst (v := 0) F dX4_goThrough_30 31 rfl (by decide) ?_
                    refine j_iald_n F dX4_goThrough_31 32 rfl ia8 0 rfl (by decide) ?_
                    refine j_iload_n F dX4_goThrough_32 33 rfl 2 rfl ?_
                    refine j_ishr F dX4_goThrough_33 34 rfl ?_
                    refine j_aload_n F dX4_goThrough_34 35 rfl 0 rfl ?_
                    refine j_get (j := 1) F dX4_goThrough_35 38 rfl inX4 rfl (by decide) sh7 (by decide) qX4_18 rfl ?_
                    refine j_iconst (v := 1) F dX4_goThrough_38 39 rfl (by decide) ?_
                    refine j_iald_n F dX4_goThrough_39 40 rfl ia8 1 rfl (by decide) ?_
                    refine j_iload_n F dX4_goThrough_40 41 rfl 3 rfl ?_
                    refine j_ishr F dX4_goThrough_41 42 rfl ?_
                    refine j_iand F dX4_goThrough_42 43 rfl ?_
                    refine j_aload_n F dX4_goThrough_43 44 rfl 0 rfl ?_
                    refine j_get (j := 1) F dX4_goThrough_44 47 rfl inX4 rfl (by decide) sh7 (by decide) qX4_18 rfl ?_
                    refine j_iconst (v := 2) F dX4_goThrough_47 48 rfl (by decide) ?_
                    refine j_iald_n F dX4_goThrough_48 49 rfl ia8 2 rfl (by decide) ?_
                    refine j_iload F dX4_goThrough_49 51 rfl 4 rfl ?_
                    refine j_ishr F dX4_goThrough_51 52 rfl ?_
                    refine j_iand F dX4_goThrough_52 53 rfl ?_
                    refine j_iconst (v := 1) F dX4_goThrough_53 54 rfl (by decide) ?_
                    refine j_iand F dX4_goThrough_54 55 rfl ?_
                    refine j_if_ne F dX4_goThrough_55 61 (by decide) 58 rfl (fun c_55 => ?_) (fun c_55 => ?_)
                    · rw [if_pos c_55]
                      refine j_goto F dX4_goThrough_58 103 (by decide) ?_
                      refine j_iinc F dX4_goThrough_103 106 rfl 4 rfl (nI (k4_19 + 1)) (nI_inc k4_19) (by decide) [(4, .int (nI (k4_19 + 1))), (0, .ref (D.2.1 7)), (1, .int (bi a1)), (2, .int (nI k2_2)), (3, .int (nI k3_10))] rfl ?_
                      refine j_goto F dX4_goThrough_106 19 (by decide) ?_
                      refine j_pick [1, 2, 3, 4, 0] [(0, .ref (D.2.1 7)), (1, .int (bi a1)), (2, .int (nI k2_2)), (3, .int (nI k3_10)), (4, .int (nI (k4_19 + 1)))] rfl ?_
                      exact ih_19 s_19 (k4_19 + 1) (by omega) (by omega)
                    · rw [if_neg c_55]
                      refine j_iload_n F dX4_goThrough_61 62 rfl 1 rfl ?_
                      refine j_ifb_ne F dX4_goThrough_62 76 (by decide) 65 rfl (fun c_62 => ?_) (fun c_62 => ?_)
                      · rw [if_neg c_62]
                        refine j_aload_n F dX4_goThrough_65 66 rfl 0 rfl ?_
                        refine j_iload_n F dX4_goThrough_66 67 rfl 2 rfl ?_
                        refine j_iload_n F dX4_goThrough_67 68 rfl 3 rfl ?_
                        refine j_iload F dX4_goThrough_68 70 rfl 4 rfl ?_
                        refine j_callVv (as := [.int (nI k2_2), .int (nI k3_10), .int (nI k4_19)]) (st := []) (σ9 := (fX4_raiseBest s_19 (nI k2_2) (nI k3_10) (nI k4_19))) F zX4_raiseBest dX4_goThrough_70 73 rfl pX4_raiseBest rfl (by decide) (by decide) (Nat.le_of_ble_eq_true rfl) rfl qX4_73 rfl rfl (by decide) sh7 (kX4_raiseBest l D (nI k2_2) (nI k3_10) (nI k4_19) s_19) ?_
                        refine j_goto F dX4_goThrough_73 103 (by decide) ?_
                        refine j_iinc F dX4_goThrough_103 106 rfl 4 rfl (nI (k4_19 + 1)) (nI_inc k4_19) (by decide) [(4, .int (nI (k4_19 + 1))), (0, .ref (D.2.1 7)), (1, .int (bi a1)), (2, .int (nI k2_2)), (3, .int (nI k3_10))] rfl ?_
                        refine j_goto F dX4_goThrough_106 19 (by decide) ?_
                        refine j_pick [1, 2, 3, 4, 0] [(0, .ref (D.2.1 7)), (1, .int (bi a1)), (2, .int (nI k2_2)), (3, .int (nI k3_10)), (4, .int (nI (k4_19 + 1)))] rfl ?_
                        exact ih_19 (fX4_raiseBest s_19 (nI k2_2) (nI k3_10) (nI k4_19)) (k4_19 + 1) (by omega) (by omega)
                      · rw [if_pos c_62]
                        refine j_aload_n F dX4_goThrough_76 77 rfl 0 rfl ?_
                        refine j_iload_n F dX4_goThrough_77 78 rfl 2 rfl ?_
                        refine j_iload_n F dX4_goThrough_78 79 rfl 3 rfl ?_
                        refine j_iload F dX4_goThrough_79 81 rfl 4 rfl ?_
                        refine j_callVr (as := [.int (nI k2_2), .int (nI k3_10), .int (nI k4_19)]) (st := []) (r := .int (bi (fX4_isRest s_19 (nI k2_2) (nI k3_10) (nI k4_19)))) (σ9 := s_19) F zX4_isRest dX4_goThrough_81 84 rfl pX4_isRest rfl (by decide) (by decide) (Nat.le_of_ble_eq_true rfl) rfl qX4_77 rfl rfl (by decide) sh7 (kX4_isRest l D (nI k2_2) (nI k3_10) (nI k4_19) s_19) ?_
                        refine j_ifb_eq F dX4_goThrough_84 103 (by decide) 87 rfl (fun c_84 => ?_) (fun c_84 => ?_)
                        · rw [if_pos c_84]
                          refine j_aload_n F dX4_goThrough_87 88 rfl 0 rfl ?_
                          refine j_iload_n F dX4_goThrough_88 89 rfl 2 rfl ?_
                          refine j_bipush (v := 9) F dX4_goThrough_89 91 rfl (by decide) ?_
                          refine j_imul F dX4_goThrough_91 92 rfl ?_
                          refine j_iload_n F dX4_goThrough_92 93 rfl 3 rfl ?_
                          refine j_iadd F dX4_goThrough_93 94 rfl ?_
                          refine j_bipush (v := 9) F dX4_goThrough_94 96 rfl (by decide) ?_
                          refine j_imul F dX4_goThrough_96 97 rfl ?_
                          refine j_iload F dX4_goThrough_97 99 rfl 4 rfl ?_
                          refine j_iadd F dX4_goThrough_99 100 rfl ?_
                          refine j_callVv (as := [.int (((((nI k2_2) * 9) + (nI k3_10)) * 9) + (nI k4_19))]) (st := []) (σ9 := (fX4_tell s_19 (((((nI k2_2) * 9) + (nI k3_10)) * 9) + (nI k4_19)))) F zX4_tell dX4_goThrough_100 103 rfl pX4_tell rfl (by decide) (by decide) (Nat.le_of_ble_eq_true rfl) rfl qX4_81 rfl rfl (by decide) sh7 (kX4_tell l D (((((nI k2_2) * 9) + (nI k3_10)) * 9) + (nI k4_19)) s_19) ?_
                          refine j_iinc F dX4_goThrough_103 106 rfl 4 rfl (nI (k4_19 + 1)) (nI_inc k4_19) (by decide) [(4, .int (nI (k4_19 + 1))), (0, .ref (D.2.1 7)), (1, .int (bi a1)), (2, .int (nI k2_2)), (3, .int (nI k3_10))] rfl ?_
                          refine j_goto F dX4_goThrough_106 19 (by decide) ?_
                          refine j_pick [1, 2, 3, 4, 0] [(0, .ref (D.2.1 7)), (1, .int (bi a1)), (2, .int (nI k2_2)), (3, .int (nI k3_10)), (4, .int (nI (k4_19 + 1)))] rfl ?_
                          exact ih_19 (fX4_tell s_19 (((((nI k2_2) * 9) + (nI k3_10)) * 9) + (nI k4_19))) (k4_19 + 1) (by omega) (by omega)
                        · rw [if_neg c_84]
                          refine j_iinc F dX4_goThrough_103 106 rfl 4 rfl (nI (k4_19 + 1)) (nI_inc k4_19) (by decide) [(4, .int (nI (k4_19 + 1))), (0, .ref (D.2.1 7)), (1, .int (bi a1)), (2, .int (nI k2_2)), (3, .int (nI k3_10))] rfl ?_
                          refine j_goto F dX4_goThrough_106 19 (by decide) ?_
                          refine j_pick [1, 2, 3, 4, 0] [(0, .ref (D.2.1 7)), (1, .int (bi a1)), (2, .int (nI k2_2)), (3, .int (nI k3_10)), (4, .int (nI (k4_19 + 1)))] rfl ?_
                          exact ih_19 s_19 (k4_19 + 1) (by omega) (by omega)
                  · rw [if_neg c_23]
                    refine j_iinc F dX4_goThrough_109 112 rfl 3 rfl (nI (k3_10 + 1)) (nI_inc k3_10) (by decide) [(3, .int (nI (k3_10 + 1))), (0, .ref (D.2.1 7)), (1, .int (bi a1)), (2, .int (nI k2_2)), (4, .int (nI k4_19))] rfl ?_
                    refine j_goto F dX4_goThrough_112 10 (by decide) ?_
                    refine j_pick [1, 2, 3, 0] [(0, .ref (D.2.1 7)), (1, .int (bi a1)), (2, .int (nI k2_2)), (3, .int (nI (k3_10 + 1)))] rfl ?_
                    exact ih_10 s_19 (k3_10 + 1) (by omega) (by omega)
              refine j_pick [1, 2, 3, 4, 0] [(0, .ref (D.2.1 7)), (1, .int (bi a1)), (2, .int (nI k2_2)), (3, .int (nI k3_10)), (4, .int 0)] rfl ?_
              exact lp_19 10 s_10 0 (by omega) (by omega)
            · rw [if_neg c_13]
              refine j_iinc F dX4_goThrough_115 118 rfl 2 rfl (nI (k2_2 + 1)) (nI_inc k2_2) (by decide) [(2, .int (nI (k2_2 + 1))), (0, .ref (D.2.1 7)), (1, .int (bi a1)), (3, .int (nI k3_10))] rfl ?_
              refine j_goto F dX4_goThrough_118 2 (by decide) ?_
              refine j_pick [1, 2, 0] [(0, .ref (D.2.1 7)), (1, .int (bi a1)), (2, .int (nI (k2_2 + 1)))] rfl ?_
              exact ih_2 s_10 (k2_2 + 1) (by omega) (by omega)
        refine j_pick [1, 2, 3, 0] [(0, .ref (D.2.1 7)), (1, .int (bi a1)), (2, .int (nI k2_2)), (3, .int 0)] rfl ?_
        exact lp_10 10 s_2 0 (by omega) (by omega)
      · rw [if_neg c_5]
        exact j_ret_v F dX4_goThrough_121 rfl rfl rfl
  refine j_pick [1, 2, 0] [(0, .ref (D.2.1 7)), (1, .int (bi a1)), (2, .int 0)] rfl ?_
  exact lp_2 10 σ 0 (by omega) (by omega)
def fX4_learn_142 (h1 : Nat) (a2 : Int32)  : Nat → Mm → Nat → Mm
  | 0, s_142, _ => s_142
  | n + 1, s_142, k6_142 => if (nI k6_142) < (nI 81) then (fX4_learn_142 h1 a2 n (up s_142 (14 + a2.toNatClampNeg) k6_142 (-1000)) (k6_142 + 1)) else (s_142)
def fX4_learn_139 (h1 : Nat) (a2 : Int32)  (s_139 : Mm) : Mm := fX4_learn_142 h1 a2 82 s_139 0
def fX4_learn_78 (h1 : Nat) (a2 : Int32)  : Nat → Mm → Int32 → Int32 → Int32 → Nat → Mm
  | 0, s_78, _, _, _, _ => s_78
  | n + 1, s_78, x3_78, x4_78, x5_78, k6_78 => if (nI k6_78) < (nI 256) then (if ((nI k6_78) &&& (x4_78 ^^^ (-1))) = 0 then (if (fJ6_bitCount (nI k6_78)) ≤ 3 then (fX4_learn_78 h1 a2 n (up s_78 (10 + a2.toNatClampNeg) k6_78 (fX1_pricesAmong s_78 17 x5_78 (x3_78 &&& ((nI k6_78) ^^^ (-1))))) x3_78 x4_78 x5_78 (k6_78 + 1)) else (fX4_learn_78 h1 a2 n s_78 x3_78 x4_78 x5_78 (k6_78 + 1))) else (fX4_learn_78 h1 a2 n s_78 x3_78 x4_78 x5_78 (k6_78 + 1))) else (fX4_learn_139 h1 a2 s_78)
def fX4_learn_58 (h1 : Nat) (a2 : Int32)  (s_58 : Mm) (x3_58 : Int32) (x4_58 : Int32) (x5_58 : Int32) : Mm := fX4_learn_78 h1 a2 257 (up s_58 8 a2.toNatClampNeg (((x4_58 &&& (x5_58 ^^^ (-1))) <<< (1 &&& 31)) ||| 1)) x3_58 x4_58 x5_58 0
def mX4_learn_19 (h1 : Nat) (a2 : Int32) (s_19 : Mm) : Nat := ((s_19.1 h1 1) : Int32).toNatClampNeg
def fX4_learn_19 (h1 : Nat) (a2 : Int32)  : Nat → Mm → Int32 → Int32 → Int32 → Nat → Mm
  | 0, s_19, _, _, _, _ => s_19
  | n + 1, s_19, x3_19, x4_19, x5_19, k6_19 => if (nI k6_19) < (s_19.1 h1 1) then (if (fX2_figure s_19 h1 (nI k6_19) 4) = a2 then (fX4_learn_19 h1 a2 n s_19 x3_19 x4_19 (x5_19 ||| (1 <<< ((nI k6_19) &&& 31))) (k6_19 + 1)) else (fX4_learn_19 h1 a2 n s_19 x3_19 x4_19 (x5_19 ||| 0) (k6_19 + 1))) else (fX4_learn_58 h1 a2 s_19 x3_19 x4_19 x5_19)
def fX4_learn (σ : Mm) (h1 : Nat) (a2 : Int32) : Mm := fX4_learn_19 h1 a2 (mX4_learn_19 h1 a2 σ + 1) σ (fX2_shown σ h1) ((fX2_shown σ h1) &&& (fX2_breakable σ h1)) 0 0
set_option maxRecDepth 20000 in
theorem kX4_learn (l : Launch) (D : Dm) (h1 : Nat) (a2 : Int32) (σ : Mm) (hh1 : hsP h1) (hv : vp_in a2 3) : Ct l yX4_learn cX4_learn 7 none 4 D [.ref (D.2.1 7), .ref (D.2.1 h1), .int a2] σ (none, fX4_learn σ h1 a2) := by
  refine ct_of (by decide +kernel) (Nat.le_of_ble_eq_true rfl) (fun X F => ?_)
  have F : Fx X l 7 D cX4_learn RX4 4 none := F
  show JJ X 7 D σ 0 [(0, .ref (D.2.1 7)), (1, .ref (D.2.1 h1)), (2, .int a2)] [] (QQ X D (none, fX4_learn σ h1 a2))
  rw [fX4_learn]
  refine j_aload_n F dX4_learn_0 1 rfl 1 rfl ?_
  refine j_callVr (as := []) (st := []) (r := .int (fX2_shown σ h1)) (σ9 := σ) F zX2_shown dX4_learn_1 4 rfl pX2_shown rfl (by decide) (by decide) (Nat.le_of_ble_eq_true rfl) rfl qX4_48 rfl rfl (hsP.lt hh1) (shH hh1) (kX2_shown l D h1 σ hh1) ?_
  refine j_istore_n F dX4_learn_4 5 rfl 3 rfl (by decide) [(3, .int (fX2_shown σ h1)), (0, .ref (D.2.1 7)), (1, .ref (D.2.1 h1)), (2, .int a2)] rfl ?_
  refine j_iload_n F dX4_learn_5 6 rfl 0 rfl ?_
  refine j_aload_n F dX4_learn_6 7 rfl 2 rfl ?_
  refine j_callVr (as := []) (st := [.int (fX2_shown σ h1)]) (r := .int (fX2_breakable σ h1)) (σ9 := σ) F zX2_breakable dX4_learn_7 10 rfl pX2_breakable rfl (by decide) (by decide) (Nat.le_of_ble_eq_true rfl) rfl qX4_54 rfl rfl (hsP.lt hh1) (shH hh1) (kX2_breakable l D h1 σ hh1) ?_
  refine j_iand F dX4_learn_10 11 rfl ?_
  refine j_istore F dX4_learn_11 13 rfl (by decide) [(4, .int ((fX2_shown σ h1) &&& (fX2_breakable σ h1))), (3, .int (fX2_shown σ h1)), (0, .ref (D.2.1 7)), (1, .ref (D.2.1 h1)), (2, .int a2)] rfl ?_
  refine j_iconst (v := 0) F dX4_learn_13 14 rfl (by decide) ?_
  refine j_istore F dX4_learn_14 16 rfl (by decide) [(5, .int 0), (4, .int ((fX2_shown σ h1) &&& (fX2_breakable σ h1))), (3, .int (fX2_shown σ h1)), (0, .ref (D.2.1 7)), (1, .ref (D.2.1 h1)), (2, .int a2)] rfl ?_
  refine j_iconst (v := 0) F dX4_learn_16 17 rfl (by decide) ?_
  refine j_istore F dX4_learn_17 19 rfl (by decide) [(6, .int 0), (5, .int 0), (4, .int ((fX2_shown σ h1) &&& (fX2_breakable σ h1))), (3, .int (fX2_shown σ h1)), (0, .ref (D.2.1 7)), (1, .ref (D.2.1 h1)), (2, .int a2)] rfl ?_
  have hx_58 : ∀ (x5_58 : Int32), JJ X 7 D σ 58 [(0, .ref (D.2.1 7)), (2, .int a2), (3, .int (fX2_shown σ h1)), (4, .int ((fX2_shown σ h1) &&& (fX2_breakable σ h1))), (5, .int x5_58)] [] (QQ X D (none, fX4_learn_58 h1 a2 σ (fX2_shown σ h1) ((fX2_shown σ h1) &&& (fX2_breakable σ h1)) x5_58)) := by
    intro x5_58
    rw [fX4_learn_58]
    refine j_aload_n F dX4_learn_58 59 rfl 0 rfl ?_
    refine j_get (j := 1) F dX4_learn_59 62 rfl inX4 rfl (by decide) sh7 (by decide) qX4_18 rfl ?_
    refine j_iload_n F dX4_learn_62 63 rfl 1 rfl ?_
    refine j_iload F dX4_learn_63 65 rfl 3 rfl ?_
    refine j_iload F dX4_learn_65 67 rfl 4 rfl ?_
    refine j_iconst (v := (-1)) F dX4_learn_67 68 rfl (by decide) ?_
    refine j_ixor F dX4_learn_68 69 rfl ?_
    refine j_iand F dX4_learn_69 70 rfl ?_
    refine j_iconst (v := 1) F dX4_learn_70 71 rfl (by decide) ?_
    refine j_ishl F dX4_learn_71 72 rfl ?_
    refine j_iconst (v := 1) F dX4_learn_72 73 rfl (by decide) ?_
    refine j_ior F dX4_learn_73 74 rfl ?_
    refine j_iast F dX4_learn_74 75 rfl ia8 (by first | assumption | exact vin_c (by assumption) (by assumption) (by decide) | exact vin_d (by assumption) (by assumption) (by decide) | exact vin_k (by assumption) (by assumption) (by decide) | exact vin_mono (by assumption) (by decide) | exact vin_mono (isThing_in (by assumption) (by assumption)) (by decide)) ?_
    refine j_iconst (v := 0) F dX4_learn_75 76 rfl (by decide) ?_
    refine j_istore F dX4_learn_76 78 rfl (by decide) [(6, .int 0), (0, .ref (D.2.1 7)), (2, .int a2), (3, .int (fX2_shown σ h1)), (4, .int ((fX2_shown σ h1) &&& (fX2_breakable σ h1))), (5, .int x5_58)] rfl ?_
    have hx_139 : ∀ (s_139 : Mm), JJ X 7 D s_139 139 [(0, .ref (D.2.1 7)), (2, .int a2)] [] (QQ X D (none, fX4_learn_139 h1 a2 s_139)) := by
      intro s_139
      rw [fX4_learn_139]
      refine j_iconst (v := 0) F dX4_learn_139 140 rfl (by decide) ?_
      refine j_istore F dX4_learn_140 142 rfl (by decide) [(6, .int 0), (0, .ref (D.2.1 7)), (2, .int a2)] rfl ?_
      have lp_142 : ∀ (n_142 : Nat) (s_142 : Mm) (k6_142 : Nat), k6_142 ≤ 81 → 81 < k6_142 + n_142 → JJ X 7 D s_142 142 [(0, .ref (D.2.1 7)), (2, .int a2), (6, .int (nI k6_142))] [] (QQ X D (none, fX4_learn_142 h1 a2 n_142 s_142 k6_142)) := by
        intro n_142
        induction n_142 with
        | zero => intro s_142 k6_142 hk_142 hn_142; exact absurd hn_142 (by omega)
        | succ n_142 ih_142 =>
          intro s_142 k6_142 hk_142 hn_142
          rw [fX4_learn_142]
          refine j_iload F dX4_learn_142 144 rfl 2 rfl ?_
          refine j_aload_n F dX4_learn_144 145 rfl 0 rfl ?_
          refine j_get (j := 3) F dX4_learn_145 148 rfl inX4 rfl (by decide) sh7 (by decide) qX4_27 rfl ?_
          refine j_iload_n F dX4_learn_148 149 rfl 1 rfl ?_
          refine j_qald2 F dX4_learn_149 150 rfl (by decide) sh13 (by first | assumption | exact vin_c (by assumption) (by assumption) (by decide) | exact vin_d (by assumption) (by assumption) (by decide) | exact vin_k (by assumption) (by assumption) (by decide) | exact vin_mono (by assumption) (by decide) | exact vin_mono (isThing_in (by assumption) (by assumption)) (by decide)) rfl ?_
          refine j_alen F dX4_learn_150 151 rfl (iaQ (Or.inr ⟨rfl, rfl⟩) (by first | assumption | exact vin_c (by assumption) (by assumption) (by decide) | exact vin_d (by assumption) (by assumption) (by decide) | exact vin_k (by assumption) (by assumption) (by decide) | exact vin_mono (by assumption) (by decide) | exact vin_mono (isThing_in (by assumption) (by assumption)) (by decide))) ?_
          refine j_icmp_ge F dX4_learn_151 172 (by decide) 154 rfl (fun c_151 => ?_) (fun c_151 => ?_)
          · rw [if_pos c_151]
            have h_151 : k6_142 < 81 := nlt c_151 (by decide) (by omega)
            refine j_aload_n F dX4_learn_154 155 rfl 0 rfl ?_
            refine j_get (j := 3) F dX4_learn_155 158 rfl inX4 rfl (by decide) sh7 (by decide) qX4_27 rfl ?_
            refine j_iload_n F dX4_learn_158 159 rfl 1 rfl ?_
            refine j_qald2 F dX4_learn_159 160 rfl (by decide) sh13 (by first | assumption | exact vin_c (by assumption) (by assumption) (by decide) | exact vin_d (by assumption) (by assumption) (by decide) | exact vin_k (by assumption) (by assumption) (by decide) | exact vin_mono (by assumption) (by decide) | exact vin_mono (isThing_in (by assumption) (by assumption)) (by decide)) rfl ?_
            refine j_iload F dX4_learn_160 162 rfl 2 rfl ?_
            refine j_sipush (v := (-1000)) F dX4_learn_162 165 rfl (by decide) ?_
            refine j_iast_n F dX4_learn_165 166 rfl (iaQ (Or.inr ⟨rfl, rfl⟩) (by first | assumption | exact vin_c (by assumption) (by assumption) (by decide) | exact vin_d (by assumption) (by assumption) (by decide) | exact vin_k (by assumption) (by assumption) (by decide) | exact vin_mono (by assumption) (by decide) | exact vin_mono (isThing_in (by assumption) (by assumption)) (by decide))) k6_142 rfl (by omega) ?_
            refine j_iinc F dX4_learn_166 169 rfl 2 rfl (nI (k6_142 + 1)) (nI_inc k6_142) (by decide) [(6, .int (nI (k6_142 + 1))), (0, .ref (D.2.1 7)), (2, .int a2)] rfl ?_
            refine j_goto F dX4_learn_169 142 (by decide) ?_
            refine j_pick [1, 2, 0] [(0, .ref (D.2.1 7)), (2, .int a2), (6, .int (nI (k6_142 + 1)))] rfl ?_
            exact ih_142 (up s_142 (14 + a2.toNatClampNeg) k6_142 (-1000)) (k6_142 + 1) (by omega) (by omega)
          · rw [if_neg c_151]
            exact j_ret_v F dX4_learn_172 rfl rfl rfl
      refine j_pick [1, 2, 0] [(0, .ref (D.2.1 7)), (2, .int a2), (6, .int 0)] rfl ?_
      exact lp_142 82 s_139 0 (by omega) (by omega)
    have lp_78 : ∀ (n_78 : Nat) (s_78 : Mm) (k6_78 : Nat), k6_78 ≤ 256 → 256 < k6_78 + n_78 → JJ X 7 D s_78 78 [(0, .ref (D.2.1 7)), (2, .int a2), (3, .int (fX2_shown σ h1)), (4, .int ((fX2_shown σ h1) &&& (fX2_breakable σ h1))), (5, .int x5_58), (6, .int (nI k6_78))] [] (QQ X D (none, fX4_learn_78 h1 a2 n_78 s_78 (fX2_shown σ h1) ((fX2_shown σ h1) &&& (fX2_breakable σ h1)) x5_58 k6_78)) := by
      intro n_78
      induction n_78 with
      | zero => intro s_78 k6_78 hk_78 hn_78; exact absurd hn_78 (by omega)
      | succ n_78 ih_78 =>
        intro s_78 k6_78 hk_78 hn_78
        rw [fX4_learn_78]
        refine j_iload F dX4_learn_78 80 rfl 5 rfl ?_
        refine j_aload_n F dX4_learn_80 81 rfl 0 rfl ?_
        refine j_get (j := 2) F dX4_learn_81 84 rfl inX4 rfl (by decide) sh7 (by decide) qX4_24 rfl ?_
        refine j_iload_n F dX4_learn_84 85 rfl 1 rfl ?_
        refine j_qald2 F dX4_learn_85 86 rfl (by decide) sh9 (by first | assumption | exact vin_c (by assumption) (by assumption) (by decide) | exact vin_d (by assumption) (by assumption) (by decide) | exact vin_k (by assumption) (by assumption) (by decide) | exact vin_mono (by assumption) (by decide) | exact vin_mono (isThing_in (by assumption) (by assumption)) (by decide)) rfl ?_
        refine j_alen F dX4_learn_86 87 rfl (iaQ (Or.inl ⟨rfl, rfl⟩) (by first | assumption | exact vin_c (by assumption) (by assumption) (by decide) | exact vin_d (by assumption) (by assumption) (by decide) | exact vin_k (by assumption) (by assumption) (by decide) | exact vin_mono (by assumption) (by decide) | exact vin_mono (isThing_in (by assumption) (by assumption)) (by decide))) ?_
        refine j_icmp_ge F dX4_learn_87 139 (by decide) 90 rfl (fun c_87 => ?_) (fun c_87 => ?_)
        · rw [if_pos c_87]
          have h_87 : k6_78 < 256 := nlt c_87 (by decide) (by omega)
          refine j_iload F dX4_learn_90 92 rfl 5 rfl ?_
          refine j_iload F dX4_learn_92 94 rfl 3 rfl ?_
          refine j_iconst (v := (-1)) F dX4_learn_94 95 rfl (by decide) ?_
          refine j_ixor F dX4_learn_95 96 rfl ?_
          refine j_iand F dX4_learn_96 97 rfl ?_
          refine j_if_ne F dX4_learn_97 133 (by decide) 100 rfl (fun c_97 => ?_) (fun c_97 => ?_)
          · rw [if_pos c_97]
            refine j_iload F dX4_learn_100 102 rfl 5 rfl ?_
            refine j_callSr (as := [.int (nI k6_78)]) (st := []) (r := .int (fJ6_bitCount (nI k6_78))) (σ9 := s_78) F zJ6_bitCount dX4_learn_102 105 rfl pJ6_bitCount rfl (by decide) (by decide) (Nat.le_of_ble_eq_true rfl) rfl qX4_64 (kJ6_bitCount l D (nI k6_78) s_78) ?_
            refine j_iconst (v := 3) F dX4_learn_105 106 rfl (by decide) ?_
            refine j_icmp_gt F dX4_learn_106 133 (by decide) 109 rfl (fun c_106 => ?_) (fun c_106 => ?_)
            · rw [if_pos c_106]
              refine j_aload_n F dX4_learn_109 110 rfl 0 rfl ?_
              refine j_get (j := 2) F dX4_learn_110 113 rfl inX4 rfl (by decide) sh7 (by decide) qX4_24 rfl ?_
              refine j_iload_n F dX4_learn_113 114 rfl 1 rfl ?_
              refine j_qald2 F dX4_learn_114 115 rfl (by decide) sh9 (by first | assumption | exact vin_c (by assumption) (by assumption) (by decide) | exact vin_d (by assumption) (by assumption) (by decide) | exact vin_k (by assumption) (by assumption) (by decide) | exact vin_mono (by assumption) (by decide) | exact vin_mono (isThing_in (by assumption) (by assumption)) (by decide)) rfl ?_
              refine j_iload F dX4_learn_115 117 rfl 5 rfl ?_
              refine j_aload_n F dX4_learn_117 118 rfl 0 rfl ?_
              refine j_get (j := 0) F dX4_learn_118 121 rfl inX4 rfl (by decide) sh7 (by decide) qX4_12 rfl ?_
              refine j_iload F dX4_learn_121 123 rfl 4 rfl ?_
              refine j_iload_n F dX4_learn_123 124 rfl 2 rfl ?_
              refine j_iload F dX4_learn_124 126 rfl 5 rfl ?_
              refine j_iconst (v := (-1)) F dX4_learn_126 127 rfl (by decide) ?_
              refine j_ixor F dX4_learn_127 128 rfl ?_
              refine j_iand F dX4_learn_128 129 rfl ?_
              refine j_callVr (as := [.int x5_58, .int ((fX2_shown σ h1) &&& ((nI k6_78) ^^^ (-1)))]) (st := [.int (nI k6_78), .ref (D.2.1 (10 + a2.toNatClampNeg))]) (r := .int (fX1_pricesAmong s_78 17 x5_58 ((fX2_shown σ h1) &&& ((nI k6_78) ^^^ (-1))))) (σ9 := s_78) F zX1_pricesAmong dX4_learn_129 132 rfl pX1_pricesAmong rfl (by decide) (by decide) (Nat.le_of_ble_eq_true rfl) rfl qX4_70 rfl rfl (gdP.lt gd17) (shG gd17) (kX1_pricesAmong l D 17 x5_58 ((fX2_shown σ h1) &&& ((nI k6_78) ^^^ (-1))) s_78 gd17) ?_
              refine j_iast_n F dX4_learn_132 133 rfl (iaQ (Or.inl ⟨rfl, rfl⟩) (by first | assumption | exact vin_c (by assumption) (by assumption) (by decide) | exact vin_d (by assumption) (by assumption) (by decide) | exact vin_k (by assumption) (by assumption) (by decide) | exact vin_mono (by assumption) (by decide) | exact vin_mono (isThing_in (by assumption) (by assumption)) (by decide))) k6_78 rfl (by omega) ?_
              refine j_iinc F dX4_learn_133 136 rfl 5 rfl (nI (k6_78 + 1)) (nI_inc k6_78) (by decide) [(6, .int (nI (k6_78 + 1))), (0, .ref (D.2.1 7)), (2, .int a2), (3, .int (fX2_shown σ h1)), (4, .int ((fX2_shown σ h1) &&& (fX2_breakable σ h1))), (5, .int x5_58)] rfl ?_
              refine j_goto F dX4_learn_136 78 (by decide) ?_
              refine j_pick [1, 2, 3, 4, 5, 0] [(0, .ref (D.2.1 7)), (2, .int a2), (3, .int (fX2_shown σ h1)), (4, .int ((fX2_shown σ h1) &&& (fX2_breakable σ h1))), (5, .int x5_58), (6, .int (nI (k6_78 + 1)))] rfl ?_
              exact ih_78 (up s_78 (10 + a2.toNatClampNeg) k6_78 (fX1_pricesAmong s_78 17 x5_58 ((fX2_shown σ h1) &&& ((nI k6_78) ^^^ (-1))))) (k6_78 + 1) (by omega) (by omega)
            · rw [if_neg c_106]
              refine j_iinc F dX4_learn_133 136 rfl 5 rfl (nI (k6_78 + 1)) (nI_inc k6_78) (by decide) [(6, .int (nI (k6_78 + 1))), (0, .ref (D.2.1 7)), (2, .int a2), (3, .int (fX2_shown σ h1)), (4, .int ((fX2_shown σ h1) &&& (fX2_breakable σ h1))), (5, .int x5_58)] rfl ?_
              refine j_goto F dX4_learn_136 78 (by decide) ?_
              refine j_pick [1, 2, 3, 4, 5, 0] [(0, .ref (D.2.1 7)), (2, .int a2), (3, .int (fX2_shown σ h1)), (4, .int ((fX2_shown σ h1) &&& (fX2_breakable σ h1))), (5, .int x5_58), (6, .int (nI (k6_78 + 1)))] rfl ?_
              exact ih_78 s_78 (k6_78 + 1) (by omega) (by omega)
          · rw [if_neg c_97]
            refine j_iinc F dX4_learn_133 136 rfl 5 rfl (nI (k6_78 + 1)) (nI_inc k6_78) (by decide) [(6, .int (nI (k6_78 + 1))), (0, .ref (D.2.1 7)), (2, .int a2), (3, .int (fX2_shown σ h1)), (4, .int ((fX2_shown σ h1) &&& (fX2_breakable σ h1))), (5, .int x5_58)] rfl ?_
            refine j_goto F dX4_learn_136 78 (by decide) ?_
            refine j_pick [1, 2, 3, 4, 5, 0] [(0, .ref (D.2.1 7)), (2, .int a2), (3, .int (fX2_shown σ h1)), (4, .int ((fX2_shown σ h1) &&& (fX2_breakable σ h1))), (5, .int x5_58), (6, .int (nI (k6_78 + 1)))] rfl ?_
            exact ih_78 s_78 (k6_78 + 1) (by omega) (by omega)
        · rw [if_neg c_87]
          refine j_pick [0, 1] [(0, .ref (D.2.1 7)), (2, .int a2)] rfl ?_
          exact hx_139 s_78
    refine j_pick [1, 2, 3, 4, 5, 0] [(0, .ref (D.2.1 7)), (2, .int a2), (3, .int (fX2_shown σ h1)), (4, .int ((fX2_shown σ h1) &&& (fX2_breakable σ h1))), (5, .int x5_58), (6, .int 0)] rfl ?_
    exact lp_78 257 (up σ 8 a2.toNatClampNeg (((((fX2_shown σ h1) &&& (fX2_breakable σ h1)) &&& (x5_58 ^^^ (-1))) <<< (1 &&& 31)) ||| 1)) 0 (by omega) (by omega)
  have lp_19 : ∀ (n_19 : Nat) (x5_19 : Int32) (k6_19 : Nat), k6_19 ≤ (((σ.1 h1 1) : Int32).toNatClampNeg) → (((σ.1 h1 1) : Int32).toNatClampNeg) < k6_19 + n_19 → JJ X 7 D σ 19 [(0, .ref (D.2.1 7)), (1, .ref (D.2.1 h1)), (2, .int a2), (3, .int (fX2_shown σ h1)), (4, .int ((fX2_shown σ h1) &&& (fX2_breakable σ h1))), (5, .int x5_19), (6, .int (nI k6_19))] [] (QQ X D (none, fX4_learn_19 h1 a2 n_19 σ (fX2_shown σ h1) ((fX2_shown σ h1) &&& (fX2_breakable σ h1)) x5_19 k6_19)) := by
    intro n_19
    induction n_19 with
    | zero => intro x5_19 k6_19 hk_19 hn_19; exact absurd hn_19 (by omega)
    | succ n_19 ih_19 =>
      intro x5_19 k6_19 hk_19 hn_19
      rw [fX4_learn_19]
      refine j_iload F dX4_learn_19 21 rfl 6 rfl ?_
      refine j_aload_n F dX4_learn_21 22 rfl 1 rfl ?_
      refine j_get (j := 1) F dX4_learn_22 25 rfl inX2 rfl (hsP.lt hh1) (shH hh1) (by decide) qX4_57 rfl ?_
      refine j_icmp_ge F dX4_learn_25 58 (by decide) 28 rfl (fun c_25 => ?_) (fun c_25 => ?_)
      · rw [if_pos c_25]
        have h_25 : k6_19 < (((σ.1 h1 1) : Int32).toNatClampNeg) := nltd c_25 hk_19
        refine j_iload F dX4_learn_28 30 rfl 5 rfl ?_
        refine j_aload_n F dX4_learn_30 31 rfl 1 rfl ?_
        refine j_iload F dX4_learn_31 33 rfl 6 rfl ?_
        refine j_iconst (v := 4) F dX4_learn_33 34 rfl (by decide) ?_
        refine j_callVr (as := [.int (nI k6_19), .int 4]) (st := [.int x5_19]) (r := .int (fX2_figure σ h1 (nI k6_19) 4)) (σ9 := σ) F zX2_figure dX4_learn_34 37 rfl pX2_figure rfl (by decide) (by decide) (Nat.le_of_ble_eq_true rfl) rfl qX4_60 rfl rfl (hsP.lt hh1) (shH hh1) (kX2_figure l D h1 (nI k6_19) 4 σ hh1) ?_
        refine j_iload_n F dX4_learn_37 38 rfl 2 rfl ?_
        refine j_icmp_ne F dX4_learn_38 48 (by decide) 41 rfl (fun c_38 => ?_) (fun c_38 => ?_)
        · rw [if_pos c_38]
          refine j_iconst (v := 1) F dX4_learn_41 42 rfl (by decide) ?_
          refine j_iload F dX4_learn_42 44 rfl 6 rfl ?_
          refine j_ishl F dX4_learn_44 45 rfl ?_
          refine j_goto F dX4_learn_45 49 (by decide) ?_
          refine j_ior F dX4_learn_49 50 rfl ?_
          refine j_istore F dX4_learn_50 52 rfl (by decide) [(5, .int (x5_19 ||| (1 <<< ((nI k6_19) &&& 31)))), (0, .ref (D.2.1 7)), (1, .ref (D.2.1 h1)), (2, .int a2), (3, .int (fX2_shown σ h1)), (4, .int ((fX2_shown σ h1) &&& (fX2_breakable σ h1))), (6, .int (nI k6_19))] rfl ?_
          refine j_iinc F dX4_learn_52 55 rfl 6 rfl (nI (k6_19 + 1)) (nI_inc k6_19) (by decide) [(6, .int (nI (k6_19 + 1))), (5, .int (x5_19 ||| (1 <<< ((nI k6_19) &&& 31)))), (0, .ref (D.2.1 7)), (1, .ref (D.2.1 h1)), (2, .int a2), (3, .int (fX2_shown σ h1)), (4, .int ((fX2_shown σ h1) &&& (fX2_breakable σ h1)))] rfl ?_
          refine j_goto F dX4_learn_55 19 (by decide) ?_
          refine j_pick [2, 3, 4, 5, 6, 1, 0] [(0, .ref (D.2.1 7)), (1, .ref (D.2.1 h1)), (2, .int a2), (3, .int (fX2_shown σ h1)), (4, .int ((fX2_shown σ h1) &&& (fX2_breakable σ h1))), (5, .int (x5_19 ||| (1 <<< ((nI k6_19) &&& 31)))), (6, .int (nI (k6_19 + 1)))] rfl ?_
          exact ih_19 (x5_19 ||| (1 <<< ((nI k6_19) &&& 31))) (k6_19 + 1) (by omega) (by omega)
        · rw [if_neg c_38]
          refine j_iconst (v := 0) F dX4_learn_48 49 rfl (by decide) ?_
          refine j_ior F dX4_learn_49 50 rfl ?_
          refine j_istore F dX4_learn_50 52 rfl (by decide) [(5, .int (x5_19 ||| 0)), (0, .ref (D.2.1 7)), (1, .ref (D.2.1 h1)), (2, .int a2), (3, .int (fX2_shown σ h1)), (4, .int ((fX2_shown σ h1) &&& (fX2_breakable σ h1))), (6, .int (nI k6_19))] rfl ?_
          refine j_iinc F dX4_learn_52 55 rfl 6 rfl (nI (k6_19 + 1)) (nI_inc k6_19) (by decide) [(6, .int (nI (k6_19 + 1))), (5, .int (x5_19 ||| 0)), (0, .ref (D.2.1 7)), (1, .ref (D.2.1 h1)), (2, .int a2), (3, .int (fX2_shown σ h1)), (4, .int ((fX2_shown σ h1) &&& (fX2_breakable σ h1)))] rfl ?_
          refine j_goto F dX4_learn_55 19 (by decide) ?_
          refine j_pick [2, 3, 4, 5, 6, 1, 0] [(0, .ref (D.2.1 7)), (1, .ref (D.2.1 h1)), (2, .int a2), (3, .int (fX2_shown σ h1)), (4, .int ((fX2_shown σ h1) &&& (fX2_breakable σ h1))), (5, .int (x5_19 ||| 0)), (6, .int (nI (k6_19 + 1)))] rfl ?_
          exact ih_19 (x5_19 ||| 0) (k6_19 + 1) (by omega) (by omega)
      · rw [if_neg c_25]
        refine j_pick [0, 2, 3, 4, 5] [(0, .ref (D.2.1 7)), (2, .int a2), (3, .int (fX2_shown σ h1)), (4, .int ((fX2_shown σ h1) &&& (fX2_breakable σ h1))), (5, .int x5_19)] rfl ?_
        exact hx_58 x5_19
  refine j_pick [4, 5, 6, 3, 2, 1, 0] [(0, .ref (D.2.1 7)), (1, .ref (D.2.1 h1)), (2, .int a2), (3, .int (fX2_shown σ h1)), (4, .int ((fX2_shown σ h1) &&& (fX2_breakable σ h1))), (5, .int 0), (6, .int 0)] rfl ?_
  exact lp_19 (mX4_learn_19 h1 a2 σ + 1) 0 0 (Nat.zero_le _) (by show (((σ.1 h1 1) : Int32).toNatClampNeg) < 0 + ((((σ.1 h1 1) : Int32).toNatClampNeg) + 1); omega)
def fX4_weigh_38 (h1 : Nat)  (s_38 : Mm) : Mm := (fX4_goThrough (fX4_goThrough s_38 false) true)
def fX4_weigh_27 (h1 : Nat)  (s_27 : Mm) : Mm := fX4_weigh_38 h1 (up (up s_27 7 5 0) 7 4 (-9))
def fX4_weigh_10 (h1 : Nat)  : Nat → Mm → Nat → Mm
  | 0, s_10, _ => s_10
  | n + 1, s_10, k2_10 => if (nI k2_10) < 3 then (fX4_weigh_10 h1 n (fX4_learn s_10 h1 (nI k2_10)) (k2_10 + 1)) else (fX4_weigh_27 h1 s_10)
def fX4_weigh (σ : Mm) (h1 : Nat) : Mm := fX4_weigh_10 h1 4 (fX1_learn σ 17 h1) 0
set_option maxRecDepth 20000 in
theorem kX4_weigh (l : Launch) (D : Dm) (h1 : Nat) (σ : Mm) (hh1 : hsP h1) : Ct l yX4_weigh cX4_weigh 3 none 6 D [.ref (D.2.1 7), .ref (D.2.1 h1)] σ (none, fX4_weigh σ h1) := by
  refine ct_of (by decide +kernel) (Nat.le_of_ble_eq_true rfl) (fun X F => ?_)
  have F : Fx X l 3 D cX4_weigh RX4 6 none := F
  show JJ X 3 D σ 0 [(0, .ref (D.2.1 7)), (1, .ref (D.2.1 h1))] [] (QQ X D (none, fX4_weigh σ h1))
  rw [fX4_weigh]
  refine j_aload_n F dX4_weigh_0 1 rfl 0 rfl ?_
  refine j_get (j := 0) F dX4_weigh_1 4 rfl inX4 rfl (by decide) sh7 (by decide) qX4_12 rfl ?_
  refine j_aload_n F dX4_weigh_4 5 rfl 1 rfl ?_
  refine j_callVv (as := [.ref (D.2.1 h1)]) (st := []) (σ9 := (fX1_learn σ 17 h1)) F zX1_learn dX4_weigh_5 8 rfl pX1_learn rfl (by decide) (by decide) (Nat.le_of_ble_eq_true rfl) rfl qX4_30 rfl rfl (gdP.lt gd17) (shG gd17) (kX1_learn l D 17 h1 σ gd17 hh1) ?_
  refine j_iconst (v := 0) F dX4_weigh_8 9 rfl (by decide) ?_
  refine j_istore_n F dX4_weigh_9 10 rfl 2 rfl (by decide) [(2, .int 0), (0, .ref (D.2.1 7)), (1, .ref (D.2.1 h1))] rfl ?_
  have hx_27 : ∀ (s_27 : Mm), JJ X 3 D s_27 27 [(0, .ref (D.2.1 7))] [] (QQ X D (none, fX4_weigh_27 h1 s_27)) := by
    intro s_27
    rw [fX4_weigh_27]
    refine j_aload_n F dX4_weigh_27 28 rfl 0 rfl ?_
    refine j_iconst (v := 0) F dX4_weigh_28 29 rfl (by decide) ?_
    refine j_put (j := 5) F dX4_weigh_29 32 rfl inX4 tyX4 tyX4_ok nmX4 rfl (by decide) sh7 sh7 (by decide) qX4_37 rfl (tyX4_ok 5 (by decide)) (Nat.le_of_ble_eq_true rfl) ?_
    refine j_aload_n F dX4_weigh_32 33 rfl 0 rfl ?_
    refine j_bipush (v := (-9)) F dX4_weigh_33 35 rfl (by decide) ?_
    refine j_put (j := 4) F dX4_weigh_35 38 rfl inX4 tyX4 tyX4_ok nmX4 rfl (by decide) sh7 sh7 (by decide) qX4_41 rfl (tyX4_ok 4 (by decide)) (Nat.le_of_ble_eq_true rfl) ?_
    have jn_38 : ∀ (s_38 : Mm), JJ X 3 D s_38 38 [(0, .ref (D.2.1 7))] [] (QQ X D (none, fX4_weigh_38 h1 s_38)) := by
      intro s_38
      rw [fX4_weigh_38]
      refine j_aload_n F dX4_weigh_38 39 rfl 0 rfl ?_
      refine j_iconst (v := 0) F dX4_weigh_39 40 rfl (by decide) ?_
      refine j_callVv (as := [.int (bi false)]) (st := []) (σ9 := (fX4_goThrough s_38 false)) F zX4_goThrough dX4_weigh_40 43 rfl pX4_goThrough rfl (by decide) (by decide) (Nat.le_of_ble_eq_true rfl) rfl qX4_44 rfl rfl (by decide) sh7 (kX4_goThrough l D false s_38) ?_
      refine j_aload_n F dX4_weigh_43 44 rfl 0 rfl ?_
      refine j_iconst (v := 1) F dX4_weigh_44 45 rfl (by decide) ?_
      refine j_callVv (as := [.int (bi true)]) (st := []) (σ9 := (fX4_goThrough (fX4_goThrough s_38 false) true)) F zX4_goThrough dX4_weigh_45 48 rfl pX4_goThrough rfl (by decide) (by decide) (Nat.le_of_ble_eq_true rfl) rfl qX4_44 rfl rfl (by decide) sh7 (kX4_goThrough l D true (fX4_goThrough s_38 false)) ?_
      exact j_ret_v F dX4_weigh_48 rfl rfl rfl
    exact jn_38 (up (up s_27 7 5 0) 7 4 (-9)) 
  have lp_10 : ∀ (n_10 : Nat) (s_10 : Mm) (k2_10 : Nat), k2_10 ≤ 3 → 3 < k2_10 + n_10 → JJ X 3 D s_10 10 [(0, .ref (D.2.1 7)), (1, .ref (D.2.1 h1)), (2, .int (nI k2_10))] [] (QQ X D (none, fX4_weigh_10 h1 n_10 s_10 k2_10)) := by
    intro n_10
    induction n_10 with
    | zero => intro s_10 k2_10 hk_10 hn_10; exact absurd hn_10 (by omega)
    | succ n_10 ih_10 =>
      intro s_10 k2_10 hk_10 hn_10
      rw [fX4_weigh_10]
      refine j_iload_n F dX4_weigh_10 11 rfl 2 rfl ?_
      refine j_iconst (v := 3) F dX4_weigh_11 12 rfl (by decide) ?_
      refine j_icmp_ge F dX4_weigh_12 27 (by decide) 15 rfl (fun c_12 => ?_) (fun c_12 => ?_)
      · rw [if_pos c_12]
        have h_12 : k2_10 < 3 := nlt c_12 (by decide) (by omega)
        refine j_aload_n F dX4_weigh_15 16 rfl 0 rfl ?_
        refine j_aload_n F dX4_weigh_16 17 rfl 1 rfl ?_
        refine j_iload_n F dX4_weigh_17 18 rfl 2 rfl ?_
        refine j_callVv (as := [.ref (D.2.1 h1), .int (nI k2_10)]) (st := []) (σ9 := (fX4_learn s_10 h1 (nI k2_10))) F zX4_learn dX4_weigh_18 21 rfl pX4_learn rfl (by decide) (by decide) (Nat.le_of_ble_eq_true rfl) rfl qX4_34 rfl rfl (by decide) sh7 (kX4_learn l D h1 (nI k2_10) s_10 hh1 (vp_in_nI (n := k2_10) (by omega) (by decide))) ?_
        refine j_iinc F dX4_weigh_21 24 rfl 2 rfl (nI (k2_10 + 1)) (nI_inc k2_10) (by decide) [(2, .int (nI (k2_10 + 1))), (0, .ref (D.2.1 7)), (1, .ref (D.2.1 h1))] rfl ?_
        refine j_goto F dX4_weigh_24 10 (by decide) ?_
        refine j_pick [1, 2, 0] [(0, .ref (D.2.1 7)), (1, .ref (D.2.1 h1)), (2, .int (nI (k2_10 + 1)))] rfl ?_
        exact ih_10 (fX4_learn s_10 h1 (nI k2_10)) (k2_10 + 1) (by omega) (by omega)
      · rw [if_neg c_12]
        refine j_pick [0] [(0, .ref (D.2.1 7))] rfl ?_
        exact hx_27 s_10
  refine j_pick [1, 2, 0] [(0, .ref (D.2.1 7)), (1, .ref (D.2.1 h1)), (2, .int 0)] rfl ?_
  exact lp_10 4 (fX1_learn σ 17 h1) 0 (by omega) (by omega)
