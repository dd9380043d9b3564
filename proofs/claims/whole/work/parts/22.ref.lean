def fX10_markOf (σ : Mm) (a1 : Int32) (a2 : Int32) : Int32 := (rm ((fX10_marksOf σ a1) / (fX10_tenTo (3 - a2))) 10)
set_option maxRecDepth 20000 in
theorem kX10_markOf (l : Launch) (D : Dm) (a1 : Int32) (a2 : Int32) (σ : Mm) (hv1 : vp_in a1 8) (hv2 : vp_in a2 4) : Ct l yX10_markOf cX10_markOf 3 (some .int) 2 D [.ref (D.2.1 33), .int a1, .int a2] σ (some (.int (fX10_markOf σ a1 a2)), σ) := by
  refine ct_of (by decide +kernel) (Nat.le_of_ble_eq_true rfl) (fun X F => ?_)
  have F : Fx X l 3 D cX10_markOf RX10 2 (some .int) := F
  show JJ X 3 D σ 0 [(0, .ref (D.2.1 33)), (1, .int a1), (2, .int a2)] [] (QQ X D (some (.int (fX10_markOf σ a1 a2)), σ))
  rw [fX10_markOf]
  refine j_aload_n F dX10_markOf_0 1 rfl 0 rfl ?_
  refine j_iload_n F dX10_markOf_1 2 rfl 1 rfl ?_
  refine j_callVr (as := [.int a1]) (st := []) (r := .int (fX10_marksOf σ a1)) (σ9 := σ) F zX10_marksOf dX10_markOf_2 5 rfl pX10_marksOf rfl (by decide) (by decide) (Nat.le_of_ble_eq_true rfl) rfl qX10_95 rfl rfl (by decide) sh33 (kX10_marksOf l D a1 σ (by first | assumption | exact isThing_in (by assumption) (by assumption) | exact vin_mono (by assumption) (by decide) | omega | decide)) ?_
  refine j_iconst (v := 3) F dX10_markOf_5 6 rfl (by decide) ?_
  refine j_iload_n F dX10_markOf_6 7 rfl 2 rfl ?_
  refine j_isub F dX10_markOf_7 8 rfl ?_
  refine j_callSr (as := [.int (3 - a2)]) (st := [.int (fX10_marksOf σ a1)]) (r := .int (fX10_tenTo (3 - a2))) (σ9 := σ) F zX10_tenTo dX10_markOf_8 11 rfl pX10_tenTo rfl (by decide) (by decide) (Nat.le_of_ble_eq_true rfl) rfl qX10_98 (kX10_tenTo l D (3 - a2) σ) ?_
  refine j_idiv F dX10_markOf_11 12 rfl (tenTo_ne hv2) ?_
  refine j_bipush (v := 10) F dX10_markOf_12 14 rfl (by decide) ?_
  refine j_irem F dX10_markOf_14 15 rfl (by decide) ?_
  exact j_ret_i F dX10_markOf_15 rfl rfl rfl
def fX10_same_5 (σ : Mm) (a1 : Int32) (a2 : Int32)  : Nat → Int32 → Nat → Int32
  | 0, _, _ => 0
  | n + 1, x3_5, k4_5 => if (nI k4_5) < 4 then (if (fX10_markOf σ a1 (nI k4_5)) = (fX10_markOf σ a2 (nI k4_5)) then (fX10_same_5 σ a1 a2 n (x3_5 ||| (1 <<< ((nI k4_5) &&& 31))) (k4_5 + 1)) else (fX10_same_5 σ a1 a2 n (x3_5 ||| 0) (k4_5 + 1))) else (x3_5)
def fX10_same (σ : Mm) (a1 : Int32) (a2 : Int32) : Int32 := fX10_same_5 σ a1 a2 5 0 0
set_option maxRecDepth 20000 in
theorem kX10_same (l : Launch) (D : Dm) (a1 : Int32) (a2 : Int32) (σ : Mm) (hv1 : vp_in a1 8) (hv2 : vp_in a2 8) : Ct l yX10_same cX10_same 5 (some .int) 3 D [.ref (D.2.1 33), .int a1, .int a2] σ (some (.int (fX10_same σ a1 a2)), σ) := by
  refine ct_of (by decide +kernel) (Nat.le_of_ble_eq_true rfl) (fun X F => ?_)
  have F : Fx X l 5 D cX10_same RX10 3 (some .int) := F
  show JJ X 5 D σ 0 [(0, .ref (D.2.1 33)), (1, .int a1), (2, .int a2)] [] (QQ X D (some (.int (fX10_same σ a1 a2)), σ))
  rw [fX10_same]
  refine j_iconst (v := 0) F dX10_same_0 1 rfl (by decide) ?_
  refine j_istore_n F dX10_same_1 2 rfl 3 rfl (by decide) [(3, .int 0), (0, .ref (D.2.1 33)), (1, .int a1), (2, .int a2)] rfl ?_
  refine j_iconst (v := 0) F dX10_same_2 3 rfl (by decide) ?_
  refine j_istore F dX10_same_3 5 rfl (by decide) [(4, .int 0), (3, .int 0), (0, .ref (D.2.1 33)), (1, .int a1), (2, .int a2)] rfl ?_
  have lp_5 : ∀ (n_5 : Nat) (x3_5 : Int32) (k4_5 : Nat), k4_5 ≤ 4 → 4 < k4_5 + n_5 → JJ X 5 D σ 5 [(0, .ref (D.2.1 33)), (1, .int a1), (2, .int a2), (3, .int x3_5), (4, .int (nI k4_5))] [] (QQ X D (some (.int (fX10_same_5 σ a1 a2 n_5 x3_5 k4_5)), σ)) := by
    intro n_5
    induction n_5 with
    | zero => intro x3_5 k4_5 hk_5 hn_5; exact absurd hn_5 (by omega)
    | succ n_5 ih_5 =>
      intro x3_5 k4_5 hk_5 hn_5
      rw [fX10_same_5]
      refine j_iload F dX10_same_5 7 rfl 4 rfl ?_
      refine j_iconst (v := 4) F dX10_same_7 8 rfl (by decide) ?_
      refine j_icmp_ge F dX10_same_8 45 (by decide) 11 rfl (fun c_8 => ?_) (fun c_8 => ?_)
      · rw [if_pos c_8]
        have h_8 : k4_5 < 4 := nlt c_8 (by decide) (by omega)
        refine j_iload_n F dX10_same_11 12 rfl 3 rfl ?_
        refine j_aload_n F dX10_same_12 13 rfl 0 rfl ?_
        refine j_iload_n F dX10_same_13 14 rfl 1 rfl ?_
        refine j_iload F dX10_same_14 16 rfl 4 rfl ?_
        refine j_callVr (as := [.int a1, .int (nI k4_5)]) (st := [.int x3_5]) (r := .int (fX10_markOf σ a1 (nI k4_5))) (σ9 := σ) F zX10_markOf dX10_same_16 19 rfl pX10_markOf rfl (by decide) (by decide) (Nat.le_of_ble_eq_true rfl) rfl qX10_101 rfl rfl (by decide) sh33 (kX10_markOf l D a1 (nI k4_5) σ (by first | assumption | exact isThing_in (by assumption) (by assumption) | exact vin_mono (by assumption) (by decide) | omega | decide) (vp_in_nI (n := k4_5) (by omega) (by decide))) ?_
        refine j_aload_n F dX10_same_19 20 rfl 0 rfl ?_
        refine j_iload_n F dX10_same_20 21 rfl 2 rfl ?_
        refine j_iload F dX10_same_21 23 rfl 4 rfl ?_
        refine j_callVr (as := [.int a2, .int (nI k4_5)]) (st := [.int (fX10_markOf σ a1 (nI k4_5)), .int x3_5]) (r := .int (fX10_markOf σ a2 (nI k4_5))) (σ9 := σ) F zX10_markOf dX10_same_23 26 rfl pX10_markOf rfl (by decide) (by decide) (Nat.le_of_ble_eq_true rfl) rfl qX10_101 rfl rfl (by decide) sh33 (kX10_markOf l D a2 (nI k4_5) σ (by first | assumption | exact isThing_in (by assumption) (by assumption) | exact vin_mono (by assumption) (by decide) | omega | decide) (vp_in_nI (n := k4_5) (by omega) (by decide))) ?_
        refine j_icmp_ne F dX10_same_26 36 (by decide) 29 rfl (fun c_26 => ?_) (fun c_26 => ?_)
        · rw [if_pos c_26]
          refine j_iconst (v := 1) F dX10_same_29 30 rfl (by decide) ?_
          refine j_iload F dX10_same_30 32 rfl 4 rfl ?_
          refine j_ishl F dX10_same_32 33 rfl ?_
          refine j_goto F dX10_same_33 37 (by decide) ?_
          refine j_ior F dX10_same_37 38 rfl ?_
          refine j_istore_n F dX10_same_38 39 rfl 3 rfl (by decide) [(3, .int (x3_5 ||| (1 <<< ((nI k4_5) &&& 31)))), (0, .ref (D.2.1 33)), (1, .int a1), (2, .int a2), (4, .int (nI k4_5))] rfl ?_
          refine j_iinc F dX10_same_39 42 rfl 4 rfl (nI (k4_5 + 1)) (nI_inc k4_5) (by decide) [(4, .int (nI (k4_5 + 1))), (3, .int (x3_5 ||| (1 <<< ((nI k4_5) &&& 31)))), (0, .ref (D.2.1 33)), (1, .int a1), (2, .int a2)] rfl ?_
          refine j_goto F dX10_same_42 5 (by decide) ?_
          refine j_pick [2, 3, 4, 1, 0] [(0, .ref (D.2.1 33)), (1, .int a1), (2, .int a2), (3, .int (x3_5 ||| (1 <<< ((nI k4_5) &&& 31)))), (4, .int (nI (k4_5 + 1)))] rfl ?_
          exact ih_5 (x3_5 ||| (1 <<< ((nI k4_5) &&& 31))) (k4_5 + 1) (by omega) (by omega)
        · rw [if_neg c_26]
          refine j_iconst (v := 0) F dX10_same_36 37 rfl (by decide) ?_
          refine j_ior F dX10_same_37 38 rfl ?_
          refine j_istore_n F dX10_same_38 39 rfl 3 rfl (by decide) [(3, .int (x3_5 ||| 0)), (0, .ref (D.2.1 33)), (1, .int a1), (2, .int a2), (4, .int (nI k4_5))] rfl ?_
          refine j_iinc F dX10_same_39 42 rfl 4 rfl (nI (k4_5 + 1)) (nI_inc k4_5) (by decide) [(4, .int (nI (k4_5 + 1))), (3, .int (x3_5 ||| 0)), (0, .ref (D.2.1 33)), (1, .int a1), (2, .int a2)] rfl ?_
          refine j_goto F dX10_same_42 5 (by decide) ?_
          refine j_pick [2, 3, 4, 1, 0] [(0, .ref (D.2.1 33)), (1, .int a1), (2, .int a2), (3, .int (x3_5 ||| 0)), (4, .int (nI (k4_5 + 1)))] rfl ?_
          exact ih_5 (x3_5 ||| 0) (k4_5 + 1) (by omega) (by omega)
      · rw [if_neg c_8]
        refine j_iload_n F dX10_same_45 46 rfl 3 rfl ?_
        exact j_ret_i F dX10_same_46 rfl rfl rfl
  refine j_pick [2, 3, 4, 1, 0] [(0, .ref (D.2.1 33)), (1, .int a1), (2, .int a2), (3, .int 0), (4, .int 0)] rfl ?_
  exact lp_5 5 0 0 (by omega) (by omega)
def mX10_alikeOf_6 (σ : Mm) (a1 : Int32) (a2 : Int32) (a3 : Int32)  : Nat := ((σ.1 34 13) : Int32).toNatClampNeg
def fX10_alikeOf_6 (σ : Mm) (a1 : Int32) (a2 : Int32) (a3 : Int32)  : Nat → Int32 → Nat → Int32
  | 0, _, _ => 0
  | n + 1, x4_6, k5_6 => if (nI k5_6) < (σ.1 34 13) then (if (nI k5_6) = a1 then (fX10_alikeOf_6 σ a1 a2 a3 n (x4_6 ||| 0) (k5_6 + 1)) else (if (fX10_has a2 (nI k5_6)) = true then (if a3 ≤ (fX10_ones (fX10_same σ a1 (nI k5_6))) then (fX10_alikeOf_6 σ a1 a2 a3 n (x4_6 ||| (1 <<< ((nI k5_6) &&& 31))) (k5_6 + 1)) else (fX10_alikeOf_6 σ a1 a2 a3 n (x4_6 ||| 0) (k5_6 + 1))) else (fX10_alikeOf_6 σ a1 a2 a3 n (x4_6 ||| 0) (k5_6 + 1)))) else (x4_6)
def fX10_alikeOf (σ : Mm) (a1 : Int32) (a2 : Int32) (a3 : Int32) : Int32 := fX10_alikeOf_6 σ a1 a2 a3 (mX10_alikeOf_6 σ a1 a2 a3 + 1) 0 0
set_option maxRecDepth 20000 in
theorem kX10_alikeOf (l : Launch) (D : Dm) (a1 : Int32) (a2 : Int32) (a3 : Int32) (σ : Mm) (hv1 : vp_in a1 8) (hM : vp_in (σ.1 34 13) 9) : Ct l yX10_alikeOf cX10_alikeOf 6 (some .int) 4 D [.ref (D.2.1 33), .int a1, .int a2, .int a3] σ (some (.int (fX10_alikeOf σ a1 a2 a3)), σ) := by
  refine ct_of (by decide +kernel) (Nat.le_of_ble_eq_true rfl) (fun X F => ?_)
  have F : Fx X l 6 D cX10_alikeOf RX10 4 (some .int) := F
  show JJ X 6 D σ 0 [(0, .ref (D.2.1 33)), (1, .int a1), (2, .int a2), (3, .int a3)] [] (QQ X D (some (.int (fX10_alikeOf σ a1 a2 a3)), σ))
  rw [fX10_alikeOf]
  have hm := vin_le hM
  refine j_iconst (v := 0) F dX10_alikeOf_0 1 rfl (by decide) ?_
  refine j_istore F dX10_alikeOf_1 3 rfl (by decide) [(4, .int 0), (0, .ref (D.2.1 33)), (1, .int a1), (2, .int a2), (3, .int a3)] rfl ?_
  refine j_iconst (v := 0) F dX10_alikeOf_3 4 rfl (by decide) ?_
  refine j_istore F dX10_alikeOf_4 6 rfl (by decide) [(5, .int 0), (4, .int 0), (0, .ref (D.2.1 33)), (1, .int a1), (2, .int a2), (3, .int a3)] rfl ?_
  have lp_6 : ∀ (n_6 : Nat) (x4_6 : Int32) (k5_6 : Nat), k5_6 ≤ (((σ.1 34 13) : Int32).toNatClampNeg) → (((σ.1 34 13) : Int32).toNatClampNeg) < k5_6 + n_6 → JJ X 6 D σ 6 [(0, .ref (D.2.1 33)), (1, .int a1), (2, .int a2), (3, .int a3), (4, .int x4_6), (5, .int (nI k5_6))] [] (QQ X D (some (.int (fX10_alikeOf_6 σ a1 a2 a3 n_6 x4_6 k5_6)), σ)) := by
    intro n_6
    induction n_6 with
    | zero => intro x4_6 k5_6 hk_6 hn_6; exact absurd hn_6 (by omega)
    | succ n_6 ih_6 =>
      intro x4_6 k5_6 hk_6 hn_6
      rw [fX10_alikeOf_6]
      refine j_iload F dX10_alikeOf_6 8 rfl 5 rfl ?_
      refine j_aload_n F dX10_alikeOf_8 9 rfl 0 rfl ?_
      refine j_callVr (as := []) (st := [.int (nI k5_6)]) (r := .int (σ.1 34 13)) (σ9 := σ) F zX10_many dX10_alikeOf_9 12 rfl pX10_many rfl (by decide) (by decide) (Nat.le_of_ble_eq_true rfl) rfl qX10_105 rfl rfl (by decide) sh33 (kX10_many l D σ) ?_
      refine j_icmp_ge F dX10_alikeOf_12 63 (by decide) 15 rfl (fun c_12 => ?_) (fun c_12 => ?_)
      · rw [if_pos c_12]
        have h_12 : k5_6 < (((σ.1 34 13) : Int32).toNatClampNeg) := nltd c_12 hk_6
        refine j_iload F dX10_alikeOf_15 17 rfl 4 rfl ?_
        refine j_iload F dX10_alikeOf_17 19 rfl 5 rfl ?_
        refine j_iload_n F dX10_alikeOf_19 20 rfl 1 rfl ?_
        refine j_icmp_eq F dX10_alikeOf_20 53 (by decide) 23 rfl (fun c_20 => ?_) (fun c_20 => ?_)
        · rw [if_neg c_20]
          refine j_iload_n F dX10_alikeOf_23 24 rfl 2 rfl ?_
          refine j_iload F dX10_alikeOf_24 26 rfl 5 rfl ?_
          refine j_callSr (as := [.int a2, .int (nI k5_6)]) (st := [.int x4_6]) (r := .int (bi (fX10_has a2 (nI k5_6)))) (σ9 := σ) F zX10_has dX10_alikeOf_26 29 rfl pX10_has rfl (by decide) (by decide) (Nat.le_of_ble_eq_true rfl) rfl qX10_108 (kX10_has l D a2 (nI k5_6) σ) ?_
          refine j_ifb_eq F dX10_alikeOf_29 53 (by decide) 32 rfl (fun c_29 => ?_) (fun c_29 => ?_)
          · rw [if_pos c_29]
            refine j_aload_n F dX10_alikeOf_32 33 rfl 0 rfl ?_
            refine j_iload_n F dX10_alikeOf_33 34 rfl 1 rfl ?_
            refine j_iload F dX10_alikeOf_34 36 rfl 5 rfl ?_
            refine j_callVr (as := [.int a1, .int (nI k5_6)]) (st := [.int x4_6]) (r := .int (fX10_same σ a1 (nI k5_6))) (σ9 := σ) F zX10_same dX10_alikeOf_36 39 rfl pX10_same rfl (by decide) (by decide) (Nat.le_of_ble_eq_true rfl) rfl qX10_112 rfl rfl (by decide) sh33 (kX10_same l D a1 (nI k5_6) σ (by first | assumption | exact isThing_in (by assumption) (by assumption) | exact vin_mono (by assumption) (by decide) | omega | decide) (vp_in_nI (n := k5_6) (by omega) (by decide))) ?_
            refine j_callSr (as := [.int (fX10_same σ a1 (nI k5_6))]) (st := [.int x4_6]) (r := .int (fX10_ones (fX10_same σ a1 (nI k5_6)))) (σ9 := σ) F zX10_ones dX10_alikeOf_39 42 rfl pX10_ones rfl (by decide) (by decide) (Nat.le_of_ble_eq_true rfl) rfl qX10_115 (kX10_ones l D (fX10_same σ a1 (nI k5_6)) σ) ?_
            refine j_iload_n F dX10_alikeOf_42 43 rfl 3 rfl ?_
            refine j_icmp_lt F dX10_alikeOf_43 53 (by decide) 46 rfl (fun c_43 => ?_) (fun c_43 => ?_)
            · rw [if_pos c_43]
              refine j_iconst (v := 1) F dX10_alikeOf_46 47 rfl (by decide) ?_
              refine j_iload F dX10_alikeOf_47 49 rfl 5 rfl ?_
              refine j_ishl F dX10_alikeOf_49 50 rfl ?_
              refine j_goto F dX10_alikeOf_50 54 (by decide) ?_
              refine j_ior F dX10_alikeOf_54 55 rfl ?_
              refine j_istore F dX10_alikeOf_55 57 rfl (by decide) [(4, .int (x4_6 ||| (1 <<< ((nI k5_6) &&& 31)))), (0, .ref (D.2.1 33)), (1, .int a1), (2, .int a2), (3, .int a3), (5, .int (nI k5_6))] rfl ?_
              refine j_iinc F dX10_alikeOf_57 60 rfl 5 rfl (nI (k5_6 + 1)) (nI_inc k5_6) (by decide) [(5, .int (nI (k5_6 + 1))), (4, .int (x4_6 ||| (1 <<< ((nI k5_6) &&& 31)))), (0, .ref (D.2.1 33)), (1, .int a1), (2, .int a2), (3, .int a3)] rfl ?_
              refine j_goto F dX10_alikeOf_60 6 (by decide) ?_
              refine j_pick [2, 3, 4, 5, 1, 0] [(0, .ref (D.2.1 33)), (1, .int a1), (2, .int a2), (3, .int a3), (4, .int (x4_6 ||| (1 <<< ((nI k5_6) &&& 31)))), (5, .int (nI (k5_6 + 1)))] rfl ?_
              exact ih_6 (x4_6 ||| (1 <<< ((nI k5_6) &&& 31))) (k5_6 + 1) (by omega) (by omega)
            · rw [if_neg c_43]
              refine j_iconst (v := 0) F dX10_alikeOf_53 54 rfl (by decide) ?_
              refine j_ior F dX10_alikeOf_54 55 rfl ?_
              refine j_istore F dX10_alikeOf_55 57 rfl (by decide) [(4, .int (x4_6 ||| 0)), (0, .ref (D.2.1 33)), (1, .int a1), (2, .int a2), (3, .int a3), (5, .int (nI k5_6))] rfl ?_
              refine j_iinc F dX10_alikeOf_57 60 rfl 5 rfl (nI (k5_6 + 1)) (nI_inc k5_6) (by decide) [(5, .int (nI (k5_6 + 1))), (4, .int (x4_6 ||| 0)), (0, .ref (D.2.1 33)), (1, .int a1), (2, .int a2), (3, .int a3)] rfl ?_
              refine j_goto F dX10_alikeOf_60 6 (by decide) ?_
              refine j_pick [2, 3, 4, 5, 1, 0] [(0, .ref (D.2.1 33)), (1, .int a1), (2, .int a2), (3, .int a3), (4, .int (x4_6 ||| 0)), (5, .int (nI (k5_6 + 1)))] rfl ?_
              exact ih_6 (x4_6 ||| 0) (k5_6 + 1) (by omega) (by omega)
          · rw [if_neg c_29]
            refine j_iconst (v := 0) F dX10_alikeOf_53 54 rfl (by decide) ?_
            refine j_ior F dX10_alikeOf_54 55 rfl ?_
            refine j_istore F dX10_alikeOf_55 57 rfl (by decide) [(4, .int (x4_6 ||| 0)), (0, .ref (D.2.1 33)), (1, .int a1), (2, .int a2), (3, .int a3), (5, .int (nI k5_6))] rfl ?_
            refine j_iinc F dX10_alikeOf_57 60 rfl 5 rfl (nI (k5_6 + 1)) (nI_inc k5_6) (by decide) [(5, .int (nI (k5_6 + 1))), (4, .int (x4_6 ||| 0)), (0, .ref (D.2.1 33)), (1, .int a1), (2, .int a2), (3, .int a3)] rfl ?_
            refine j_goto F dX10_alikeOf_60 6 (by decide) ?_
            refine j_pick [2, 3, 4, 5, 1, 0] [(0, .ref (D.2.1 33)), (1, .int a1), (2, .int a2), (3, .int a3), (4, .int (x4_6 ||| 0)), (5, .int (nI (k5_6 + 1)))] rfl ?_
            exact ih_6 (x4_6 ||| 0) (k5_6 + 1) (by omega) (by omega)
        · rw [if_pos c_20]
          refine j_iconst (v := 0) F dX10_alikeOf_53 54 rfl (by decide) ?_
          refine j_ior F dX10_alikeOf_54 55 rfl ?_
          refine j_istore F dX10_alikeOf_55 57 rfl (by decide) [(4, .int (x4_6 ||| 0)), (0, .ref (D.2.1 33)), (1, .int a1), (2, .int a2), (3, .int a3), (5, .int (nI k5_6))] rfl ?_
          refine j_iinc F dX10_alikeOf_57 60 rfl 5 rfl (nI (k5_6 + 1)) (nI_inc k5_6) (by decide) [(5, .int (nI (k5_6 + 1))), (4, .int (x4_6 ||| 0)), (0, .ref (D.2.1 33)), (1, .int a1), (2, .int a2), (3, .int a3)] rfl ?_
          refine j_goto F dX10_alikeOf_60 6 (by decide) ?_
          refine j_pick [2, 3, 4, 5, 1, 0] [(0, .ref (D.2.1 33)), (1, .int a1), (2, .int a2), (3, .int a3), (4, .int (x4_6 ||| 0)), (5, .int (nI (k5_6 + 1)))] rfl ?_
          exact ih_6 (x4_6 ||| 0) (k5_6 + 1) (by omega) (by omega)
      · rw [if_neg c_12]
        refine j_iload F dX10_alikeOf_63 65 rfl 4 rfl ?_
        exact j_ret_i F dX10_alikeOf_65 rfl rfl rfl
  refine j_pick [2, 3, 4, 5, 1, 0] [(0, .ref (D.2.1 33)), (1, .int a1), (2, .int a2), (3, .int a3), (4, .int 0), (5, .int 0)] rfl ?_
  exact lp_6 (mX10_alikeOf_6 σ a1 a2 a3 + 1) 0 0 (Nat.zero_le _) (by show (((σ.1 34 13) : Int32).toNatClampNeg) < 0 + ((((σ.1 34 13) : Int32).toNatClampNeg) + 1); omega)
def fX10_shown (σ : Mm) (a1 : Nat) : Int32 := ((((1 <<< ((σ.1 34 ((14 * a1) + 13)) &&& 31)) - 1) &&& ((σ.1 34 ((14 * a1) + 8)) ^^^ (-1))) &&& ((σ.1 34 ((14 * a1) + 9)) ^^^ (-1)))
set_option maxRecDepth 20000 in
theorem kX10_shown (l : Launch) (D : Dm) (a1 : Nat) (σ : Mm) (hl1 : a1 ≤ 1) : Ct l yX10_shown cX10_shown 3 (some .int) 1 D [.ref (D.2.1 33), .int (nI a1)] σ (some (.int (fX10_shown σ a1)), σ) := by
  refine ct_of (by decide +kernel) (Nat.le_of_ble_eq_true rfl) (fun X F => ?_)
  have F : Fx X l 3 D cX10_shown RX10 1 (some .int) := F
  show JJ X 3 D σ 0 [(0, .ref (D.2.1 33)), (1, .int (nI a1))] [] (QQ X D (some (.int (fX10_shown σ a1)), σ))
  rw [fX10_shown]
  refine j_bipush (v := 14) F dX10_shown_0 2 rfl (by decide) ?_
  refine j_iload_n F dX10_shown_2 3 rfl 1 rfl ?_
  refine j_imul F dX10_shown_3 4 rfl ?_
  refine j_istore_n F dX10_shown_4 5 rfl 2 rfl (by decide) [(2, .int (14 * (nI a1))), (0, .ref (D.2.1 33)), (1, .int (nI a1))] rfl ?_
  refine j_iconst (v := 1) F dX10_shown_5 6 rfl (by decide) ?_
  refine j_aload_n F dX10_shown_6 7 rfl 1 rfl ?_
  refine j_get (j := 0) F dX10_shown_7 10 rfl inX10 rfl (by decide) sh33 (by decide) qX10_7 rfl ?_
  refine j_iload_n F dX10_shown_10 11 rfl 0 rfl ?_
  refine j_bipush (v := 13) F dX10_shown_11 13 rfl (by decide) ?_
  refine j_iadd F dX10_shown_13 14 rfl ?_
  refine j_iald_n F dX10_shown_14 15 rfl ia34 ((14 * a1) + 13) (ne_add (ne_mul rfl rfl) rfl) (by omega) ?_
  refine j_ishl F dX10_shown_15 16 rfl ?_
  refine j_iconst (v := 1) F dX10_shown_16 17 rfl (by decide) ?_
  refine j_isub F dX10_shown_17 18 rfl ?_
  refine j_aload_n F dX10_shown_18 19 rfl 1 rfl ?_
  refine j_get (j := 0) F dX10_shown_19 22 rfl inX10 rfl (by decide) sh33 (by decide) qX10_7 rfl ?_
  refine j_iload_n F dX10_shown_22 23 rfl 0 rfl ?_
  refine j_bipush (v := 8) F dX10_shown_23 25 rfl (by decide) ?_
  refine j_iadd F dX10_shown_25 26 rfl ?_
  refine j_iald_n F dX10_shown_26 27 rfl ia34 ((14 * a1) + 8) (ne_add (ne_mul rfl rfl) rfl) (by omega) ?_
  refine j_iconst (v := (-1)) F dX10_shown_27 28 rfl (by decide) ?_
  refine j_ixor F dX10_shown_28 29 rfl ?_
  refine j_iand F dX10_shown_29 30 rfl ?_
  refine j_aload_n F dX10_shown_30 31 rfl 1 rfl ?_
  refine j_get (j := 0) F dX10_shown_31 34 rfl inX10 rfl (by decide) sh33 (by decide) qX10_7 rfl ?_
  refine j_iload_n F dX10_shown_34 35 rfl 0 rfl ?_
  refine j_bipush (v := 9) F dX10_shown_35 37 rfl (by decide) ?_
  refine j_iadd F dX10_shown_37 38 rfl ?_
  refine j_iald_n F dX10_shown_38 39 rfl ia34 ((14 * a1) + 9) (ne_add (ne_mul rfl rfl) rfl) (by omega) ?_
  refine j_iconst (v := (-1)) F dX10_shown_39 40 rfl (by decide) ?_
  refine j_ixor F dX10_shown_40 41 rfl ?_
  refine j_iand F dX10_shown_41 42 rfl ?_
  exact j_ret_i F dX10_shown_42 rfl rfl rfl
def fX10_alike (σ : Mm) (a1 : Int32) : Int32 := if (fX10_isThing σ a1) = true then ((fX10_alikeOf σ a1 (fX10_shown σ 0) (σ.1 34 11))) else ((-1))
set_option maxRecDepth 20000 in
theorem kX10_alike (l : Launch) (D : Dm) (a1 : Int32) (σ : Mm) (hM : vp_in (σ.1 34 13) 9) : Ct l yX10_alike cX10_alike 2 (some .int) 5 D [.ref (D.2.1 33), .int a1] σ (some (.int (fX10_alike σ a1)), σ) := by
  refine ct_of (by decide +kernel) (Nat.le_of_ble_eq_true rfl) (fun X F => ?_)
  have F : Fx X l 2 D cX10_alike RX10 5 (some .int) := F
  show JJ X 2 D σ 0 [(0, .ref (D.2.1 33)), (1, .int a1)] [] (QQ X D (some (.int (fX10_alike σ a1)), σ))
  rw [fX10_alike]
  refine j_aload_n F dX10_alike_0 1 rfl 0 rfl ?_
  refine j_iload_n F dX10_alike_1 2 rfl 1 rfl ?_
  refine j_callVr (as := [.int a1]) (st := []) (r := .int (bi (fX10_isThing σ a1))) (σ9 := σ) F zX10_isThing dX10_alike_2 5 rfl pX10_isThing rfl (by decide) (by decide) (Nat.le_of_ble_eq_true rfl) rfl qX10_128 rfl rfl (by decide) sh33 (kX10_isThing l D a1 σ) ?_
  refine j_ifb_eq F dX10_alike_5 28 (by decide) 8 rfl (fun c_5 => ?_) (fun c_5 => ?_)
  · rw [if_pos c_5]
    refine j_aload_n F dX10_alike_8 9 rfl 0 rfl ?_
    refine j_iload_n F dX10_alike_9 10 rfl 1 rfl ?_
    refine j_aload_n F dX10_alike_10 11 rfl 0 rfl ?_
    refine j_iconst (v := 0) F dX10_alike_11 12 rfl (by decide) ?_
    refine j_callVr (as := [.int (nI 0)]) (st := [.int a1, .ref (D.2.1 33)]) (r := .int (fX10_shown σ 0)) (σ9 := σ) F zX10_shown dX10_alike_12 15 rfl pX10_shown rfl (by decide) (by decide) (Nat.le_of_ble_eq_true rfl) rfl qX10_122 rfl rfl (by decide) sh33 (kX10_shown l D 0 σ (by decide)) ?_
    refine j_aload_n F dX10_alike_15 16 rfl 0 rfl ?_
    refine j_get (j := 0) F dX10_alike_16 19 rfl inX10 rfl (by decide) sh33 (by decide) qX10_7 rfl ?_
    refine j_bipush (v := 11) F dX10_alike_19 21 rfl (by decide) ?_
    refine j_iald_n F dX10_alike_21 22 rfl ia34 11 rfl (by decide) ?_
    refine j_callVr (as := [.int a1, .int (fX10_shown σ 0), .int (σ.1 34 11)]) (st := []) (r := .int (fX10_alikeOf σ a1 (fX10_shown σ 0) (σ.1 34 11))) (σ9 := σ) F zX10_alikeOf dX10_alike_22 25 rfl pX10_alikeOf rfl (by decide) (by decide) (Nat.le_of_ble_eq_true rfl) rfl qX10_118 rfl rfl (by decide) sh33 (kX10_alikeOf l D a1 (fX10_shown σ 0) (σ.1 34 11) σ (by first | assumption | exact isThing_in (by assumption) (by assumption) | exact vin_mono (by assumption) (by decide) | omega | decide) (by first | assumption | exact isThing_in (by assumption) (by assumption) | exact vin_mono (by assumption) (by decide) | omega | decide)) ?_
    refine j_goto F dX10_alike_25 29 (by decide) ?_
    exact j_ret_i F dX10_alike_29 rfl rfl rfl
  · rw [if_neg c_5]
    refine j_iconst (v := (-1)) F dX10_alike_28 29 rfl (by decide) ?_
    exact j_ret_i F dX10_alike_29 rfl rfl rfl
def fX10_begin_29 (a1 : Int32) (a2 : Int32) (a3 : Int32)  (s_29 : Mm) : Mm := (up s_29 45 a1.toNatClampNeg 0)
def fX10_begin_14 (a1 : Int32) (a2 : Int32) (a3 : Int32)  (s_14 : Mm) : Mm := fX10_begin_29 a1 a2 a3 (up (up s_14 43 a1.toNatClampNeg 0) 44 a1.toNatClampNeg (-100000))
def fX10_begin (σ : Mm) (a1 : Int32) (a2 : Int32) (a3 : Int32) : Mm := fX10_begin_14 a1 a2 a3 (up (up σ 41 a1.toNatClampNeg a2) 42 a1.toNatClampNeg a3)
set_option maxRecDepth 20000 in
theorem kX10_begin (l : Launch) (D : Dm) (a1 : Int32) (a2 : Int32) (a3 : Int32) (σ : Mm) (hv1 : vp_in a1 6) : Ct l yX10_begin cX10_begin 4 none 1 D [.ref (D.2.1 33), .int a1, .int a2, .int a3] σ (none, fX10_begin σ a1 a2 a3) := by
  refine ct_of (by decide +kernel) (Nat.le_of_ble_eq_true rfl) (fun X F => ?_)
  have F : Fx X l 4 D cX10_begin RX10 1 none := F
  show JJ X 4 D σ 0 [(0, .ref (D.2.1 33)), (1, .int a1), (2, .int a2), (3, .int a3)] [] (QQ X D (none, fX10_begin σ a1 a2 a3))
  rw [fX10_begin]
  refine j_aload_n F dX10_begin_0 1 rfl 0 rfl ?_
  refine j_get (j := 14) F dX10_begin_1 4 rfl inX10 rfl (by decide) sh33 (by decide) qX10_32 rfl ?_
  refine j_iload_n F dX10_begin_4 5 rfl 1 rfl ?_
  refine j_iload_n F dX10_begin_5 6 rfl 2 rfl ?_
  refine j_iast F dX10_begin_6 7 rfl ia41 (by first | assumption | exact vin_c (by assumption) (by assumption) (by decide) | exact vin_d (by assumption) (by assumption) (by decide) | exact vin_k (by assumption) (by assumption) (by decide) | exact vin_mono (by assumption) (by decide) | exact vin_mono (isThing_in (by assumption) (by assumption)) (by decide)) ?_
  refine j_aload_n F dX10_begin_7 8 rfl 0 rfl ?_
  refine j_get (j := 15) F dX10_begin_8 11 rfl inX10 rfl (by decide) sh33 (by decide) qX10_35 rfl ?_
  refine j_iload_n F dX10_begin_11 12 rfl 1 rfl ?_
  refine j_iload_n F dX10_begin_12 13 rfl 3 rfl ?_
  refine j_iast F dX10_begin_13 14 rfl ia42 (by first | assumption | exact vin_c (by assumption) (by assumption) (by decide) | exact vin_d (by assumption) (by assumption) (by decide) | exact vin_k (by assumption) (by assumption) (by decide) | exact vin_mono (by assumption) (by decide) | exact vin_mono (isThing_in (by assumption) (by assumption)) (by decide)) ?_
  refine j_pick [0, 1] [(0, .ref (D.2.1 33)), (1, .int a1)] rfl ?_
  have jn_14 : ∀ (s_14 : Mm), JJ X 4 D s_14 14 [(0, .ref (D.2.1 33)), (1, .int a1)] [] (QQ X D (none, fX10_begin_14 a1 a2 a3 s_14)) := by
    intro s_14
    rw [fX10_begin_14]
    refine j_aload_n F dX10_begin_14 15 rfl 0 rfl ?_
    refine j_get (j := 16) F dX10_begin_15 18 rfl inX10 rfl (by decide) sh33 (by decide) qX10_38 rfl ?_
    refine j_iload_n F dX10_begin_18 19 rfl 1 rfl ?_
    refine j_iconst (v := 0) F dX10_begin_19 20 rfl (by decide) ?_
    refine j_iast F dX10_begin_20 21 rfl ia43 (by first | assumption | exact vin_c (by assumption) (by assumption) (by decide) | exact vin_d (by assumption) (by assumption) (by decide) | exact vin_k (by assumption) (by assumption) (by decide) | exact vin_mono (by assumption) (by decide) | exact vin_mono (isThing_in (by assumption) (by assumption)) (by decide)) ?_
    refine j_aload_n F dX10_begin_21 22 rfl 0 rfl ?_
    refine j_get (j := 17) F dX10_begin_22 25 rfl inX10 rfl (by decide) sh33 (by decide) qX10_41 rfl ?_
    refine j_iload_n F dX10_begin_25 26 rfl 1 rfl ?_
    refine j_ldc F dX10_begin_26 28 rfl qX10_232 ?_
    refine j_iast F dX10_begin_28 29 rfl ia44 (by first | assumption | exact vin_c (by assumption) (by assumption) (by decide) | exact vin_d (by assumption) (by assumption) (by decide) | exact vin_k (by assumption) (by assumption) (by decide) | exact vin_mono (by assumption) (by decide) | exact vin_mono (isThing_in (by assumption) (by assumption)) (by decide)) ?_
    have jn_29 : ∀ (s_29 : Mm), JJ X 4 D s_29 29 [(0, .ref (D.2.1 33)), (1, .int a1)] [] (QQ X D (none, fX10_begin_29 a1 a2 a3 s_29)) := by
      intro s_29
      rw [fX10_begin_29]
      refine j_aload_n F dX10_begin_29 30 rfl 0 rfl ?_
      refine j_get (j := 18) F dX10_begin_30 33 rfl inX10 rfl (by decide) sh33 (by decide) qX10_44 rfl ?_
      refine j_iload_n F dX10_begin_33 34 rfl 1 rfl ?_
      refine j_iconst (v := 0) F dX10_begin_34 35 rfl (by decide) ?_
      refine j_iast F dX10_begin_35 36 rfl ia45 (by first | assumption | exact vin_c (by assumption) (by assumption) (by decide) | exact vin_d (by assumption) (by assumption) (by decide) | exact vin_k (by assumption) (by assumption) (by decide) | exact vin_mono (by assumption) (by decide) | exact vin_mono (isThing_in (by assumption) (by assumption)) (by decide)) ?_
      exact j_ret_v F dX10_begin_36 rfl rfl rfl
    exact jn_29 (up (up s_14 43 a1.toNatClampNeg 0) 44 a1.toNatClampNeg (-100000)) 
  exact jn_14 (up (up σ 41 a1.toNatClampNeg a2) 42 a1.toNatClampNeg a3) 
def mX10_lastOf_5 (σ : Mm) (a1 : Int32) (a2 : Int32)  : Nat := ((σ.1 34 13) : Int32).toNatClampNeg
def fX10_lastOf_5 (σ : Mm) (a1 : Int32) (a2 : Int32)  : Nat → Int32 → Nat → Int32
  | 0, _, _ => 0
  | n + 1, x3_5, k4_5 => if (nI k4_5) < (σ.1 34 13) then (if (fX10_has a1 (nI k4_5)) = true then (if (fX10_alikeOf σ (nI k4_5) a1 a2) = 0 then (fX10_lastOf_5 σ a1 a2 n (x3_5 ||| (1 <<< ((nI k4_5) &&& 31))) (k4_5 + 1)) else (fX10_lastOf_5 σ a1 a2 n (x3_5 ||| 0) (k4_5 + 1))) else (fX10_lastOf_5 σ a1 a2 n (x3_5 ||| 0) (k4_5 + 1))) else (x3_5)
def fX10_lastOf (σ : Mm) (a1 : Int32) (a2 : Int32) : Int32 := fX10_lastOf_5 σ a1 a2 (mX10_lastOf_5 σ a1 a2 + 1) 0 0
set_option maxRecDepth 20000 in
theorem kX10_lastOf (l : Launch) (D : Dm) (a1 : Int32) (a2 : Int32) (σ : Mm) (hM : vp_in (σ.1 34 13) 9) : Ct l yX10_lastOf cX10_lastOf 5 (some .int) 5 D [.ref (D.2.1 33), .int a1, .int a2] σ (some (.int (fX10_lastOf σ a1 a2)), σ) := by
  refine ct_of (by decide +kernel) (Nat.le_of_ble_eq_true rfl) (fun X F => ?_)
  have F : Fx X l 5 D cX10_lastOf RX10 5 (some .int) := F
  show JJ X 5 D σ 0 [(0, .ref (D.2.1 33)), (1, .int a1), (2, .int a2)] [] (QQ X D (some (.int (fX10_lastOf σ a1 a2)), σ))
  rw [fX10_lastOf]
  have hm := vin_le hM
  refine j_iconst (v := 0) F dX10_lastOf_0 1 rfl (by decide) ?_
  refine j_istore_n F dX10_lastOf_1 2 rfl 3 rfl (by decide) [(3, .int 0), (0, .ref (D.2.1 33)), (1, .int a1), (2, .int a2)] rfl ?_
  refine j_iconst (v := 0) F dX10_lastOf_2 3 rfl (by decide) ?_
  refine j_istore F dX10_lastOf_3 5 rfl (by decide) [(4, .int 0), (3, .int 0), (0, .ref (D.2.1 33)), (1, .int a1), (2, .int a2)] rfl ?_
  have lp_5 : ∀ (n_5 : Nat) (x3_5 : Int32) (k4_5 : Nat), k4_5 ≤ (((σ.1 34 13) : Int32).toNatClampNeg) → (((σ.1 34 13) : Int32).toNatClampNeg) < k4_5 + n_5 → JJ X 5 D σ 5 [(0, .ref (D.2.1 33)), (1, .int a1), (2, .int a2), (3, .int x3_5), (4, .int (nI k4_5))] [] (QQ X D (some (.int (fX10_lastOf_5 σ a1 a2 n_5 x3_5 k4_5)), σ)) := by
    intro n_5
    induction n_5 with
    | zero => intro x3_5 k4_5 hk_5 hn_5; exact absurd hn_5 (by omega)
    | succ n_5 ih_5 =>
      intro x3_5 k4_5 hk_5 hn_5
      rw [fX10_lastOf_5]
      refine j_iload F dX10_lastOf_5 7 rfl 4 rfl ?_
      refine j_aload_n F dX10_lastOf_7 8 rfl 0 rfl ?_
      refine j_callVr (as := []) (st := [.int (nI k4_5)]) (r := .int (σ.1 34 13)) (σ9 := σ) F zX10_many dX10_lastOf_8 11 rfl pX10_many rfl (by decide) (by decide) (Nat.le_of_ble_eq_true rfl) rfl qX10_105 rfl rfl (by decide) sh33 (kX10_many l D σ) ?_
      refine j_icmp_ge F dX10_lastOf_11 51 (by decide) 14 rfl (fun c_11 => ?_) (fun c_11 => ?_)
      · rw [if_pos c_11]
        have h_11 : k4_5 < (((σ.1 34 13) : Int32).toNatClampNeg) := nltd c_11 hk_5
        refine j_iload_n F dX10_lastOf_14 15 rfl 3 rfl ?_
        refine j_iload_n F dX10_lastOf_15 16 rfl 1 rfl ?_
        refine j_iload F dX10_lastOf_16 18 rfl 4 rfl ?_
        refine j_callSr (as := [.int a1, .int (nI k4_5)]) (st := [.int x3_5]) (r := .int (bi (fX10_has a1 (nI k4_5)))) (σ9 := σ) F zX10_has dX10_lastOf_18 21 rfl pX10_has rfl (by decide) (by decide) (Nat.le_of_ble_eq_true rfl) rfl qX10_108 (kX10_has l D a1 (nI k4_5) σ) ?_
        refine j_ifb_eq F dX10_lastOf_21 42 (by decide) 24 rfl (fun c_21 => ?_) (fun c_21 => ?_)
        · rw [if_pos c_21]
          refine j_aload_n F dX10_lastOf_24 25 rfl 0 rfl ?_
          refine j_iload F dX10_lastOf_25 27 rfl 4 rfl ?_
          refine j_iload_n F dX10_lastOf_27 28 rfl 1 rfl ?_
          refine j_iload_n F dX10_lastOf_28 29 rfl 2 rfl ?_
          refine j_callVr (as := [.int (nI k4_5), .int a1, .int a2]) (st := [.int x3_5]) (r := .int (fX10_alikeOf σ (nI k4_5) a1 a2)) (σ9 := σ) F zX10_alikeOf dX10_lastOf_29 32 rfl pX10_alikeOf rfl (by decide) (by decide) (Nat.le_of_ble_eq_true rfl) rfl qX10_118 rfl rfl (by decide) sh33 (kX10_alikeOf l D (nI k4_5) a1 a2 σ (vp_in_nI (n := k4_5) (by omega) (by decide)) (by first | assumption | exact isThing_in (by assumption) (by assumption) | exact vin_mono (by assumption) (by decide) | omega | decide)) ?_
          refine j_if_ne F dX10_lastOf_32 42 (by decide) 35 rfl (fun c_32 => ?_) (fun c_32 => ?_)
          · rw [if_pos c_32]
            refine j_iconst (v := 1) F dX10_lastOf_35 36 rfl (by decide) ?_
            refine j_iload F dX10_lastOf_36 38 rfl 4 rfl ?_
            refine j_ishl F dX10_lastOf_38 39 rfl ?_
            refine j_goto F dX10_lastOf_39 43 (by decide) ?_
            refine j_ior F dX10_lastOf_43 44 rfl ?_
            refine j_istore_n F dX10_lastOf_44 45 rfl 3 rfl (by decide) [(3, .int (x3_5 ||| (1 <<< ((nI k4_5) &&& 31)))), (0, .ref (D.2.1 33)), (1, .int a1), (2, .int a2), (4, .int (nI k4_5))] rfl ?_
            refine j_iinc F dX10_lastOf_45 48 rfl 4 rfl (nI (k4_5 + 1)) (nI_inc k4_5) (by decide) [(4, .int (nI (k4_5 + 1))), (3, .int (x3_5 ||| (1 <<< ((nI k4_5) &&& 31)))), (0, .ref (D.2.1 33)), (1, .int a1), (2, .int a2)] rfl ?_
            refine j_goto F dX10_lastOf_48 5 (by decide) ?_
            refine j_pick [2, 3, 4, 1, 0] [(0, .ref (D.2.1 33)), (1, .int a1), (2, .int a2), (3, .int (x3_5 ||| (1 <<< ((nI k4_5) &&& 31)))), (4, .int (nI (k4_5 + 1)))] rfl ?_
            exact ih_5 (x3_5 ||| (1 <<< ((nI k4_5) &&& 31))) (k4_5 + 1) (by omega) (by omega)
          · rw [if_neg c_32]
            refine j_iconst (v := 0) F dX10_lastOf_42 43 rfl (by decide) ?_
            refine j_ior F dX10_lastOf_43 44 rfl ?_
            refine j_istore_n F dX10_lastOf_44 45 rfl 3 rfl (by decide) [(3, .int (x3_5 ||| 0)), (0, .ref (D.2.1 33)), (1, .int a1), (2, .int a2), (4, .int (nI k4_5))] rfl ?_
            refine j_iinc F dX10_lastOf_45 48 rfl 4 rfl (nI (k4_5 + 1)) (nI_inc k4_5) (by decide) [(4, .int (nI (k4_5 + 1))), (3, .int (x3_5 ||| 0)), (0, .ref (D.2.1 33)), (1, .int a1), (2, .int a2)] rfl ?_
            refine j_goto F dX10_lastOf_48 5 (by decide) ?_
            refine j_pick [2, 3, 4, 1, 0] [(0, .ref (D.2.1 33)), (1, .int a1), (2, .int a2), (3, .int (x3_5 ||| 0)), (4, .int (nI (k4_5 + 1)))] rfl ?_
            exact ih_5 (x3_5 ||| 0) (k4_5 + 1) (by omega) (by omega)
        · rw [if_neg c_21]
          refine j_iconst (v := 0) F dX10_lastOf_42 43 rfl (by decide) ?_
          refine j_ior F dX10_lastOf_43 44 rfl ?_
          refine j_istore_n F dX10_lastOf_44 45 rfl 3 rfl (by decide) [(3, .int (x3_5 ||| 0)), (0, .ref (D.2.1 33)), (1, .int a1), (2, .int a2), (4, .int (nI k4_5))] rfl ?_
          refine j_iinc F dX10_lastOf_45 48 rfl 4 rfl (nI (k4_5 + 1)) (nI_inc k4_5) (by decide) [(4, .int (nI (k4_5 + 1))), (3, .int (x3_5 ||| 0)), (0, .ref (D.2.1 33)), (1, .int a1), (2, .int a2)] rfl ?_
          refine j_goto F dX10_lastOf_48 5 (by decide) ?_
          refine j_pick [2, 3, 4, 1, 0] [(0, .ref (D.2.1 33)), (1, .int a1), (2, .int a2), (3, .int (x3_5 ||| 0)), (4, .int (nI (k4_5 + 1)))] rfl ?_
          exact ih_5 (x3_5 ||| 0) (k4_5 + 1) (by omega) (by omega)
      · rw [if_neg c_11]
        refine j_iload_n F dX10_lastOf_51 52 rfl 3 rfl ?_
        exact j_ret_i F dX10_lastOf_52 rfl rfl rfl
  refine j_pick [2, 3, 4, 1, 0] [(0, .ref (D.2.1 33)), (1, .int a1), (2, .int a2), (3, .int 0), (4, .int 0)] rfl ?_
  exact lp_5 (mX10_lastOf_5 σ a1 a2 + 1) 0 0 (Nat.zero_le _) (by show (((σ.1 34 13) : Int32).toNatClampNeg) < 0 + ((((σ.1 34 13) : Int32).toNatClampNeg) + 1); omega)
def fX10_guardAt (σ : Mm) (a1 : Nat) (a2 : Int32) : Int32 := (rm (σ.1 34 ((14 * (nI a1)) + a2).toNatClampNeg) 2)
set_option maxRecDepth 20000 in
theorem kX10_guardAt (l : Launch) (D : Dm) (a1 : Nat) (a2 : Int32) (σ : Mm) (hl1 : a1 ≤ 1) (hv2 : vp_in a2 8) : Ct l yX10_guardAt cX10_guardAt 3 (some .int) 1 D [.ref (D.2.1 33), .int (nI a1), .int a2] σ (some (.int (fX10_guardAt σ a1 a2)), σ) := by
  refine ct_of (by decide +kernel) (Nat.le_of_ble_eq_true rfl) (fun X F => ?_)
  have F : Fx X l 3 D cX10_guardAt RX10 1 (some .int) := F
  show JJ X 3 D σ 0 [(0, .ref (D.2.1 33)), (1, .int (nI a1)), (2, .int a2)] [] (QQ X D (some (.int (fX10_guardAt σ a1 a2)), σ))
  rw [fX10_guardAt]
  refine j_aload_n F dX10_guardAt_0 1 rfl 0 rfl ?_
  refine j_get (j := 0) F dX10_guardAt_1 4 rfl inX10 rfl (by decide) sh33 (by decide) qX10_7 rfl ?_
  refine j_bipush (v := 14) F dX10_guardAt_4 6 rfl (by decide) ?_
  refine j_iload_n F dX10_guardAt_6 7 rfl 1 rfl ?_
  refine j_imul F dX10_guardAt_7 8 rfl ?_
  refine j_iload_n F dX10_guardAt_8 9 rfl 2 rfl ?_
  refine j_iadd F dX10_guardAt_9 10 rfl ?_
  refine j_iald F dX10_guardAt_10 11 rfl ia34 (vin_lv hl1 hv2) ?_
  refine j_iconst (v := 2) F dX10_guardAt_11 12 rfl (by decide) ?_
  refine j_irem F dX10_guardAt_12 13 rfl (by decide) ?_
  exact j_ret_i F dX10_guardAt_13 rfl rfl rfl
def fX10_canBreak (σ : Mm) (a1 : Nat) (a2 : Int32) : Bool := if (fX10_has (σ.1 34 ((14 * a1) + 8)) a2) = true then (false) else (if (fX10_has (σ.1 34 ((14 * a1) + 10)) a2) = true then (false) else (if (fX10_guardAt σ a1 a2) = 0 then (true) else (false)))
set_option maxRecDepth 20000 in
theorem kX10_canBreak (l : Launch) (D : Dm) (a1 : Nat) (a2 : Int32) (σ : Mm) (hl1 : a1 ≤ 1) (hv2 : vp_in a2 8) : Ct l yX10_canBreak cX10_canBreak 4 (some .boolean) 2 D [.ref (D.2.1 33), .int (nI a1), .int a2] σ (some (.int (bi (fX10_canBreak σ a1 a2))), σ) := by
  refine ct_of (by decide +kernel) (Nat.le_of_ble_eq_true rfl) (fun X F => ?_)
  have F : Fx X l 4 D cX10_canBreak RX10 2 (some .boolean) := F
  show JJ X 4 D σ 0 [(0, .ref (D.2.1 33)), (1, .int (nI a1)), (2, .int a2)] [] (QQ X D (some (.int (bi (fX10_canBreak σ a1 a2))), σ))
  rw [fX10_canBreak]
  refine j_bipush (v := 14) F dX10_canBreak_0 2 rfl (by decide) ?_
  refine j_iload_n F dX10_canBreak_2 3 rfl 1 rfl ?_
  refine j_imul F dX10_canBreak_3 4 rfl ?_
  refine j_istore_n F dX10_canBreak_4 5 rfl 3 rfl (by decide) [(3, .int (14 * (nI a1))), (0, .ref (D.2.1 33)), (1, .int (nI a1)), (2, .int a2)] rfl ?_
  refine j_aload_n F dX10_canBreak_5 6 rfl 1 rfl ?_
  refine j_get (j := 0) F dX10_canBreak_6 9 rfl inX10 rfl (by decide) sh33 (by decide) qX10_7 rfl ?_
  refine j_iload_n F dX10_canBreak_9 10 rfl 0 rfl ?_
  refine j_bipush (v := 8) F dX10_canBreak_10 12 rfl (by decide) ?_
  refine j_iadd F dX10_canBreak_12 13 rfl ?_
  refine j_iald_n F dX10_canBreak_13 14 rfl ia34 ((14 * a1) + 8) (ne_add (ne_mul rfl rfl) rfl) (by omega) ?_
  refine j_iload_n F dX10_canBreak_14 15 rfl 3 rfl ?_
  refine j_callSr (as := [.int (σ.1 34 ((14 * a1) + 8)), .int a2]) (st := []) (r := .int (bi (fX10_has (σ.1 34 ((14 * a1) + 8)) a2))) (σ9 := σ) F zX10_has dX10_canBreak_15 18 rfl pX10_has rfl (by decide) (by decide) (Nat.le_of_ble_eq_true rfl) rfl qX10_108 (kX10_has l D (σ.1 34 ((14 * a1) + 8)) a2 σ) ?_
  refine j_ifb_ne F dX10_canBreak_18 50 (by decide) 21 rfl (fun c_18 => ?_) (fun c_18 => ?_)
  · rw [if_neg c_18]
    refine j_aload_n F dX10_canBreak_21 22 rfl 1 rfl ?_
    refine j_get (j := 0) F dX10_canBreak_22 25 rfl inX10 rfl (by decide) sh33 (by decide) qX10_7 rfl ?_
    refine j_iload_n F dX10_canBreak_25 26 rfl 0 rfl ?_
    refine j_bipush (v := 10) F dX10_canBreak_26 28 rfl (by decide) ?_
    refine j_iadd F dX10_canBreak_28 29 rfl ?_
    refine j_iald_n F dX10_canBreak_29 30 rfl ia34 ((14 * a1) + 10) (ne_add (ne_mul rfl rfl) rfl) (by omega) ?_
    refine j_iload_n F dX10_canBreak_30 31 rfl 3 rfl ?_
    refine j_callSr (as := [.int (σ.1 34 ((14 * a1) + 10)), .int a2]) (st := []) (r := .int (bi (fX10_has (σ.1 34 ((14 * a1) + 10)) a2))) (σ9 := σ) F zX10_has dX10_canBreak_31 34 rfl pX10_has rfl (by decide) (by decide) (Nat.le_of_ble_eq_true rfl) rfl qX10_108 (kX10_has l D (σ.1 34 ((14 * a1) + 10)) a2 σ) ?_
    refine j_ifb_ne F dX10_canBreak_34 50 (by decide) 37 rfl (fun c_34 => ?_) (fun c_34 => ?_)
    · rw [if_neg c_34]
      refine j_aload_n F dX10_canBreak_37 38 rfl 1 rfl ?_
      refine j_iload_n F dX10_canBreak_38 39 rfl 2 rfl ?_
      refine j_iload_n F dX10_canBreak_39 40 rfl 3 rfl ?_
      refine j_callVr (as := [.int (nI a1), .int a2]) (st := []) (r := .int (fX10_guardAt σ a1 a2)) (σ9 := σ) F zX10_guardAt dX10_canBreak_40 43 rfl pX10_guardAt rfl (by decide) (by decide) (Nat.le_of_ble_eq_true rfl) rfl qX10_152 rfl rfl (by decide) sh33 (kX10_guardAt l D a1 a2 σ (by assumption) (by first | assumption | exact isThing_in (by assumption) (by assumption) | exact vin_mono (by assumption) (by decide) | omega | decide)) ?_
      refine j_if_ne F dX10_canBreak_43 50 (by decide) 46 rfl (fun c_43 => ?_) (fun c_43 => ?_)
      · rw [if_pos c_43]
        refine j_iconst (v := 1) F dX10_canBreak_46 47 rfl (by decide) ?_
        refine j_goto F dX10_canBreak_47 51 (by decide) ?_
        exact j_ret_b (b := true) F dX10_canBreak_51 rfl rfl rfl
      · rw [if_neg c_43]
        refine j_iconst (v := 0) F dX10_canBreak_50 51 rfl (by decide) ?_
        exact j_ret_b (b := false) F dX10_canBreak_51 rfl rfl rfl
    · rw [if_pos c_34]
      refine j_iconst (v := 0) F dX10_canBreak_50 51 rfl (by decide) ?_
      exact j_ret_b (b := false) F dX10_canBreak_51 rfl rfl rfl
  · rw [if_pos c_18]
    refine j_iconst (v := 0) F dX10_canBreak_50 51 rfl (by decide) ?_
    exact j_ret_b (b := false) F dX10_canBreak_51 rfl rfl rfl
def fX10_keepAct_34   (s_34 : Mm) : Mm := if ((up s_34 33 4 (rm ((s_34.1 33 4) + 1) 16)).1 33 3) < 16 then ((up (up s_34 33 4 (rm ((s_34.1 33 4) + 1) 16)) 33 3 (((up s_34 33 4 (rm ((s_34.1 33 4) + 1) 16)).1 33 3) + 1))) else ((up (up s_34 33 4 (rm ((s_34.1 33 4) + 1) 16)) 33 3 16))
def fX10_keepAct_2   : Nat → Mm → Nat → Mm
  | 0, s_2, _ => s_2
  | n + 1, s_2, k1_2 => if (nI k1_2) < 14 then (fX10_keepAct_2 n (up s_2 36 ((14 * (s_2.1 33 4)) + (nI k1_2)).toNatClampNeg (s_2.1 34 k1_2)) (k1_2 + 1)) else (fX10_keepAct_34 s_2)
def fX10_keepAct (σ : Mm)  : Mm := fX10_keepAct_2 15 σ 0
set_option maxRecDepth 20000 in
theorem kX10_keepAct (l : Launch) (D : Dm)  (σ : Mm) (hx : vp_in (σ.1 33 4) 16) : Ct l yX10_keepAct cX10_keepAct 2 none 1 D [.ref (D.2.1 33)] σ (none, fX10_keepAct σ) := by
  refine ct_of (by decide +kernel) (Nat.le_of_ble_eq_true rfl) (fun X F => ?_)
  have F : Fx X l 2 D cX10_keepAct RX10 1 none := F
  show JJ X 2 D σ 0 [(0, .ref (D.2.1 33))] [] (QQ X D (none, fX10_keepAct σ))
  rw [fX10_keepAct]
  refine j_iconst (v := 0) F dX10_keepAct_0 1 rfl (by decide) ?_
  refine j_istore_n F dX10_keepAct_1 2 rfl 1 rfl (by decide) [(1, .int 0), (0, .ref (D.2.1 33))] rfl ?_
  have hx_34 : ∀ (s_34 : Mm), JJ X 2 D s_34 34 [(0, .ref (D.2.1 33))] [] (QQ X D (none, fX10_keepAct_34 s_34)) := by
    intro s_34
    rw [fX10_keepAct_34]
    refine j_aload_n F dX10_keepAct_34 35 rfl 0 rfl ?_
    refine j_aload_n F dX10_keepAct_35 36 rfl 0 rfl ?_
    refine j_get (j := 4) F dX10_keepAct_36 39 rfl inX10 rfl (by decide) sh33 (by decide) qX10_149 rfl ?_
    refine j_iconst (v := 1) F dX10_keepAct_39 40 rfl (by decide) ?_
    refine j_iadd F dX10_keepAct_40 41 rfl ?_
    refine j_bipush (v := 16) F dX10_keepAct_41 43 rfl (by decide) ?_
    refine j_irem F dX10_keepAct_43 44 rfl (by decide) ?_
    refine j_put (j := 4) F dX10_keepAct_44 47 rfl inX10 tyX10 tyX10_ok nmX10 rfl (by decide) sh33 sh33 (by decide) qX10_149 rfl (tyX10_ok 4 (by decide)) (Nat.le_of_ble_eq_true rfl) ?_
    refine j_aload_n F dX10_keepAct_47 48 rfl 0 rfl ?_
    refine j_aload_n F dX10_keepAct_48 49 rfl 0 rfl ?_
    refine j_get (j := 3) F dX10_keepAct_49 52 rfl inX10 rfl (by decide) sh33 (by decide) qX10_92 rfl ?_
    refine j_bipush (v := 16) F dX10_keepAct_52 54 rfl (by decide) ?_
    refine j_icmp_ge F dX10_keepAct_54 66 (by decide) 57 rfl (fun c_54 => ?_) (fun c_54 => ?_)
    · rw [if_pos c_54]
      refine j_aload_n F dX10_keepAct_57 58 rfl 0 rfl ?_
      refine j_get (j := 3) F dX10_keepAct_58 61 rfl inX10 rfl (by decide) sh33 (by decide) qX10_92 rfl ?_
      refine j_iconst (v := 1) F dX10_keepAct_61 62 rfl (by decide) ?_
      refine j_iadd F dX10_keepAct_62 63 rfl ?_
      refine j_goto F dX10_keepAct_63 68 (by decide) ?_
      refine j_put (j := 3) F dX10_keepAct_68 71 rfl inX10 tyX10 tyX10_ok nmX10 rfl (by decide) sh33 sh33 (by decide) qX10_92 rfl (tyX10_ok 3 (by decide)) (Nat.le_of_ble_eq_true rfl) ?_
      exact j_ret_v F dX10_keepAct_71 rfl rfl rfl
    · rw [if_neg c_54]
      refine j_bipush (v := 16) F dX10_keepAct_66 68 rfl (by decide) ?_
      refine j_put (j := 3) F dX10_keepAct_68 71 rfl inX10 tyX10 tyX10_ok nmX10 rfl (by decide) sh33 sh33 (by decide) qX10_92 rfl (tyX10_ok 3 (by decide)) (Nat.le_of_ble_eq_true rfl) ?_
      exact j_ret_v F dX10_keepAct_71 rfl rfl rfl
  have lp_2 : ∀ (n_2 : Nat) (s_2 : Mm) (k1_2 : Nat), k1_2 ≤ 14 → 14 < k1_2 + n_2 → s_2.1 33 4 = σ.1 33 4 → JJ X 2 D s_2 2 [(0, .ref (D.2.1 33)), (1, .int (nI k1_2))] [] (QQ X D (none, fX10_keepAct_2 n_2 s_2 k1_2)) := by
    intro n_2
    induction n_2 with
    | zero => intro s_2 k1_2 hk_2 hn_2 hi_2; exact absurd hn_2 (by omega)
    | succ n_2 ih_2 =>
      intro s_2 k1_2 hk_2 hn_2 hi_2
      rw [fX10_keepAct_2]
      refine j_iload_n F dX10_keepAct_2 3 rfl 1 rfl ?_
      refine j_bipush (v := 14) F dX10_keepAct_3 5 rfl (by decide) ?_
      refine j_icmp_ge F dX10_keepAct_5 34 (by decide) 8 rfl (fun c_5 => ?_) (fun c_5 => ?_)
      · rw [if_pos c_5]
        have h_5 : k1_2 < 14 := nlt c_5 (by decide) (by omega)
        refine j_aload_n F dX10_keepAct_8 9 rfl 0 rfl ?_
        refine j_get (j := 5) F dX10_keepAct_9 12 rfl inX10 rfl (by decide) sh33 (by decide) qX10_16 rfl ?_
        refine j_bipush (v := 14) F dX10_keepAct_12 14 rfl (by decide) ?_
        refine j_aload_n F dX10_keepAct_14 15 rfl 0 rfl ?_
        refine j_get (j := 4) F dX10_keepAct_15 18 rfl inX10 rfl (by decide) sh33 (by decide) qX10_149 rfl ?_
        refine j_imul F dX10_keepAct_18 19 rfl ?_
        refine j_iload_n F dX10_keepAct_19 20 rfl 1 rfl ?_
        refine j_iadd F dX10_keepAct_20 21 rfl ?_
        refine j_aload_n F dX10_keepAct_21 22 rfl 0 rfl ?_
        refine j_get (j := 0) F dX10_keepAct_22 25 rfl inX10 rfl (by decide) sh33 (by decide) qX10_7 rfl ?_
        refine j_iload_n F dX10_keepAct_25 26 rfl 1 rfl ?_
        refine j_iald_n F dX10_keepAct_26 27 rfl ia34 k1_2 rfl (by omega) ?_
        refine j_iast F dX10_keepAct_27 28 rfl ia36 (by rw [hi_2]; exact vin_row hx (by omega)) ?_
        refine j_iinc F dX10_keepAct_28 31 rfl 1 rfl (nI (k1_2 + 1)) (nI_inc k1_2) (by decide) [(1, .int (nI (k1_2 + 1))), (0, .ref (D.2.1 33))] rfl ?_
        refine j_goto F dX10_keepAct_31 2 (by decide) ?_
        refine j_pick [1, 0] [(0, .ref (D.2.1 33)), (1, .int (nI (k1_2 + 1)))] rfl ?_
        exact ih_2 (up s_2 36 ((14 * (s_2.1 33 4)) + (nI k1_2)).toNatClampNeg (s_2.1 34 k1_2)) (k1_2 + 1) (by omega) (by omega) (by exact hi_2)
      · rw [if_neg c_5]
        refine j_pick [0] [(0, .ref (D.2.1 33))] rfl ?_
        exact hx_34 s_2
  refine j_pick [1, 0] [(0, .ref (D.2.1 33)), (1, .int 0)] rfl ?_
  exact lp_2 15 σ 0 (by omega) (by omega) rfl
def fX10_last (σ : Mm)  : Int32 := (fX10_lastOf σ (fX10_shown σ 0) (σ.1 34 11))
set_option maxRecDepth 20000 in
theorem kX10_last (l : Launch) (D : Dm)  (σ : Mm) (hM : vp_in (σ.1 34 13) 9) : Ct l yX10_last cX10_last 1 (some .int) 6 D [.ref (D.2.1 33)] σ (some (.int (fX10_last σ)), σ) := by
  refine ct_of (by decide +kernel) (Nat.le_of_ble_eq_true rfl) (fun X F => ?_)
  have F : Fx X l 1 D cX10_last RX10 6 (some .int) := F
  show JJ X 1 D σ 0 [(0, .ref (D.2.1 33))] [] (QQ X D (some (.int (fX10_last σ)), σ))
  rw [fX10_last]
  refine j_aload_n F dX10_last_0 1 rfl 0 rfl ?_
  refine j_aload_n F dX10_last_1 2 rfl 0 rfl ?_
  refine j_iconst (v := 0) F dX10_last_2 3 rfl (by decide) ?_
  refine j_callVr (as := [.int (nI 0)]) (st := [.ref (D.2.1 33)]) (r := .int (fX10_shown σ 0)) (σ9 := σ) F zX10_shown dX10_last_3 6 rfl pX10_shown rfl (by decide) (by decide) (Nat.le_of_ble_eq_true rfl) rfl qX10_122 rfl rfl (by decide) sh33 (kX10_shown l D 0 σ (by decide)) ?_
  refine j_aload_n F dX10_last_6 7 rfl 0 rfl ?_
  refine j_get (j := 0) F dX10_last_7 10 rfl inX10 rfl (by decide) sh33 (by decide) qX10_7 rfl ?_
  refine j_bipush (v := 11) F dX10_last_10 12 rfl (by decide) ?_
  refine j_iald_n F dX10_last_12 13 rfl ia34 11 rfl (by decide) ?_
  refine j_callVr (as := [.int (fX10_shown σ 0), .int (σ.1 34 11)]) (st := []) (r := .int (fX10_lastOf σ (fX10_shown σ 0) (σ.1 34 11))) (σ9 := σ) F zX10_lastOf dX10_last_13 16 rfl pX10_lastOf rfl (by decide) (by decide) (Nat.le_of_ble_eq_true rfl) rfl qX10_125 rfl rfl (by decide) sh33 (kX10_lastOf l D (fX10_shown σ 0) (σ.1 34 11) σ (by first | assumption | exact isThing_in (by assumption) (by assumption) | exact vin_mono (by assumption) (by decide) | omega | decide)) ?_
  exact j_ret_i F dX10_last_16 rfl rfl rfl
def fX10_canClaim (σ : Mm) (a1 : Nat) (a2 : Int32) : Bool := if (fX10_has (fX10_lastOf σ (fX10_shown σ a1) (σ.1 34 ((14 * a1) + 11))) a2) = true then (if (fX10_has (σ.1 34 ((14 * a1) + 10)) a2) = true then (false) else (true)) else (false)
set_option maxRecDepth 20000 in
theorem kX10_canClaim (l : Launch) (D : Dm) (a1 : Nat) (a2 : Int32) (σ : Mm) (hl1 : a1 ≤ 1) (hM : vp_in (σ.1 34 13) 9) : Ct l yX10_canClaim cX10_canClaim 4 (some .boolean) 6 D [.ref (D.2.1 33), .int (nI a1), .int a2] σ (some (.int (bi (fX10_canClaim σ a1 a2))), σ) := by
  refine ct_of (by decide +kernel) (Nat.le_of_ble_eq_true rfl) (fun X F => ?_)
  have F : Fx X l 4 D cX10_canClaim RX10 6 (some .boolean) := F
  show JJ X 4 D σ 0 [(0, .ref (D.2.1 33)), (1, .int (nI a1)), (2, .int a2)] [] (QQ X D (some (.int (bi (fX10_canClaim σ a1 a2))), σ))
  rw [fX10_canClaim]
  refine j_bipush (v := 14) F dX10_canClaim_0 2 rfl (by decide) ?_
  refine j_iload_n F dX10_canClaim_2 3 rfl 1 rfl ?_
  refine j_imul F dX10_canClaim_3 4 rfl ?_
  refine j_istore_n F dX10_canClaim_4 5 rfl 3 rfl (by decide) [(3, .int (14 * (nI a1))), (0, .ref (D.2.1 33)), (1, .int (nI a1)), (2, .int a2)] rfl ?_
  refine j_aload_n F dX10_canClaim_5 6 rfl 1 rfl ?_
  refine j_aload_n F dX10_canClaim_6 7 rfl 1 rfl ?_
  refine j_iload_n F dX10_canClaim_7 8 rfl 2 rfl ?_
  refine j_callVr (as := [.int (nI a1)]) (st := [.ref (D.2.1 33)]) (r := .int (fX10_shown σ a1)) (σ9 := σ) F zX10_shown dX10_canClaim_8 11 rfl pX10_shown rfl (by decide) (by decide) (Nat.le_of_ble_eq_true rfl) rfl qX10_122 rfl rfl (by decide) sh33 (kX10_shown l D a1 σ (by assumption)) ?_
  refine j_aload_n F dX10_canClaim_11 12 rfl 1 rfl ?_
  refine j_get (j := 0) F dX10_canClaim_12 15 rfl inX10 rfl (by decide) sh33 (by decide) qX10_7 rfl ?_
  refine j_iload_n F dX10_canClaim_15 16 rfl 0 rfl ?_
  refine j_bipush (v := 11) F dX10_canClaim_16 18 rfl (by decide) ?_
  refine j_iadd F dX10_canClaim_18 19 rfl ?_
  refine j_iald_n F dX10_canClaim_19 20 rfl ia34 ((14 * a1) + 11) (ne_add (ne_mul rfl rfl) rfl) (by omega) ?_
  refine j_callVr (as := [.int (fX10_shown σ a1), .int (σ.1 34 ((14 * a1) + 11))]) (st := []) (r := .int (fX10_lastOf σ (fX10_shown σ a1) (σ.1 34 ((14 * a1) + 11)))) (σ9 := σ) F zX10_lastOf dX10_canClaim_20 23 rfl pX10_lastOf rfl (by decide) (by decide) (Nat.le_of_ble_eq_true rfl) rfl qX10_125 rfl rfl (by decide) sh33 (kX10_lastOf l D (fX10_shown σ a1) (σ.1 34 ((14 * a1) + 11)) σ (by first | assumption | exact isThing_in (by assumption) (by assumption) | exact vin_mono (by assumption) (by decide) | omega | decide)) ?_
  refine j_iload_n F dX10_canClaim_23 24 rfl 3 rfl ?_
  refine j_callSr (as := [.int (fX10_lastOf σ (fX10_shown σ a1) (σ.1 34 ((14 * a1) + 11))), .int a2]) (st := []) (r := .int (bi (fX10_has (fX10_lastOf σ (fX10_shown σ a1) (σ.1 34 ((14 * a1) + 11))) a2))) (σ9 := σ) F zX10_has dX10_canClaim_24 27 rfl pX10_has rfl (by decide) (by decide) (Nat.le_of_ble_eq_true rfl) rfl qX10_108 (kX10_has l D (fX10_lastOf σ (fX10_shown σ a1) (σ.1 34 ((14 * a1) + 11))) a2 σ) ?_
  refine j_ifb_eq F dX10_canClaim_27 50 (by decide) 30 rfl (fun c_27 => ?_) (fun c_27 => ?_)
  · rw [if_pos c_27]
    refine j_aload_n F dX10_canClaim_30 31 rfl 1 rfl ?_
    refine j_get (j := 0) F dX10_canClaim_31 34 rfl inX10 rfl (by decide) sh33 (by decide) qX10_7 rfl ?_
    refine j_iload_n F dX10_canClaim_34 35 rfl 0 rfl ?_
    refine j_bipush (v := 10) F dX10_canClaim_35 37 rfl (by decide) ?_
    refine j_iadd F dX10_canClaim_37 38 rfl ?_
    refine j_iald_n F dX10_canClaim_38 39 rfl ia34 ((14 * a1) + 10) (ne_add (ne_mul rfl rfl) rfl) (by omega) ?_
    refine j_iload_n F dX10_canClaim_39 40 rfl 3 rfl ?_
    refine j_callSr (as := [.int (σ.1 34 ((14 * a1) + 10)), .int a2]) (st := []) (r := .int (bi (fX10_has (σ.1 34 ((14 * a1) + 10)) a2))) (σ9 := σ) F zX10_has dX10_canClaim_40 43 rfl pX10_has rfl (by decide) (by decide) (Nat.le_of_ble_eq_true rfl) rfl qX10_108 (kX10_has l D (σ.1 34 ((14 * a1) + 10)) a2 σ) ?_
    refine j_ifb_ne F dX10_canClaim_43 50 (by decide) 46 rfl (fun c_43 => ?_) (fun c_43 => ?_)
    · rw [if_neg c_43]
      refine j_iconst (v := 1) F dX10_canClaim_46 47 rfl (by decide) ?_
      refine j_goto F dX10_canClaim_47 51 (by decide) ?_
      exact j_ret_b (b := true) F dX10_canClaim_51 rfl rfl rfl
    · rw [if_pos c_43]
      refine j_iconst (v := 0) F dX10_canClaim_50 51 rfl (by decide) ?_
      exact j_ret_b (b := false) F dX10_canClaim_51 rfl rfl rfl
  · rw [if_neg c_27]
    refine j_iconst (v := 0) F dX10_canClaim_50 51 rfl (by decide) ?_
    exact j_ret_b (b := false) F dX10_canClaim_51 rfl rfl rfl
def fX10_canHide (σ : Mm) (a1 : Nat) (a2 : Int32) : Bool := if (fX10_has (σ.1 34 ((14 * a1) + 8)) a2) = true then (false) else (if (fX10_has (σ.1 34 ((14 * a1) + 10)) a2) = true then (false) else (true))
set_option maxRecDepth 20000 in
theorem kX10_canHide (l : Launch) (D : Dm) (a1 : Nat) (a2 : Int32) (σ : Mm) (hl1 : a1 ≤ 1) : Ct l yX10_canHide cX10_canHide 4 (some .boolean) 2 D [.ref (D.2.1 33), .int (nI a1), .int a2] σ (some (.int (bi (fX10_canHide σ a1 a2))), σ) := by
  refine ct_of (by decide +kernel) (Nat.le_of_ble_eq_true rfl) (fun X F => ?_)
  have F : Fx X l 4 D cX10_canHide RX10 2 (some .boolean) := F
  show JJ X 4 D σ 0 [(0, .ref (D.2.1 33)), (1, .int (nI a1)), (2, .int a2)] [] (QQ X D (some (.int (bi (fX10_canHide σ a1 a2))), σ))
  rw [fX10_canHide]
  refine j_bipush (v := 14) F dX10_canHide_0 2 rfl (by decide) ?_
  refine j_iload_n F dX10_canHide_2 3 rfl 1 rfl ?_
  refine j_imul F dX10_canHide_3 4 rfl ?_
  refine j_istore_n F dX10_canHide_4 5 rfl 3 rfl (by decide) [(3, .int (14 * (nI a1))), (0, .ref (D.2.1 33)), (1, .int (nI a1)), (2, .int a2)] rfl ?_
  refine j_aload_n F dX10_canHide_5 6 rfl 1 rfl ?_
  refine j_get (j := 0) F dX10_canHide_6 9 rfl inX10 rfl (by decide) sh33 (by decide) qX10_7 rfl ?_
  refine j_iload_n F dX10_canHide_9 10 rfl 0 rfl ?_
  refine j_bipush (v := 8) F dX10_canHide_10 12 rfl (by decide) ?_
  refine j_iadd F dX10_canHide_12 13 rfl ?_
  refine j_iald_n F dX10_canHide_13 14 rfl ia34 ((14 * a1) + 8) (ne_add (ne_mul rfl rfl) rfl) (by omega) ?_
  refine j_iload_n F dX10_canHide_14 15 rfl 3 rfl ?_
  refine j_callSr (as := [.int (σ.1 34 ((14 * a1) + 8)), .int a2]) (st := []) (r := .int (bi (fX10_has (σ.1 34 ((14 * a1) + 8)) a2))) (σ9 := σ) F zX10_has dX10_canHide_15 18 rfl pX10_has rfl (by decide) (by decide) (Nat.le_of_ble_eq_true rfl) rfl qX10_108 (kX10_has l D (σ.1 34 ((14 * a1) + 8)) a2 σ) ?_
  refine j_ifb_ne F dX10_canHide_18 41 (by decide) 21 rfl (fun c_18 => ?_) (fun c_18 => ?_)
  · rw [if_neg c_18]
    refine j_aload_n F dX10_canHide_21 22 rfl 1 rfl ?_
    refine j_get (j := 0) F dX10_canHide_22 25 rfl inX10 rfl (by decide) sh33 (by decide) qX10_7 rfl ?_
    refine j_iload_n F dX10_canHide_25 26 rfl 0 rfl ?_
    refine j_bipush (v := 10) F dX10_canHide_26 28 rfl (by decide) ?_
    refine j_iadd F dX10_canHide_28 29 rfl ?_
    refine j_iald_n F dX10_canHide_29 30 rfl ia34 ((14 * a1) + 10) (ne_add (ne_mul rfl rfl) rfl) (by omega) ?_
    refine j_iload_n F dX10_canHide_30 31 rfl 3 rfl ?_
    refine j_callSr (as := [.int (σ.1 34 ((14 * a1) + 10)), .int a2]) (st := []) (r := .int (bi (fX10_has (σ.1 34 ((14 * a1) + 10)) a2))) (σ9 := σ) F zX10_has dX10_canHide_31 34 rfl pX10_has rfl (by decide) (by decide) (Nat.le_of_ble_eq_true rfl) rfl qX10_108 (kX10_has l D (σ.1 34 ((14 * a1) + 10)) a2 σ) ?_
    refine j_ifb_ne F dX10_canHide_34 41 (by decide) 37 rfl (fun c_34 => ?_) (fun c_34 => ?_)
    · rw [if_neg c_34]
      refine j_iconst (v := 1) F dX10_canHide_37 38 rfl (by decide) ?_
      refine j_goto F dX10_canHide_38 42 (by decide) ?_
      exact j_ret_b (b := true) F dX10_canHide_42 rfl rfl rfl
    · rw [if_pos c_34]
      refine j_iconst (v := 0) F dX10_canHide_41 42 rfl (by decide) ?_
      exact j_ret_b (b := false) F dX10_canHide_42 rfl rfl rfl
  · rw [if_pos c_18]
    refine j_iconst (v := 0) F dX10_canHide_41 42 rfl (by decide) ?_
    exact j_ret_b (b := false) F dX10_canHide_42 rfl rfl rfl
def fX10_can (σ : Mm) (a1 : Int32) (a2 : Int32) : Bool := if a1 = 0 then ((fX10_canBreak σ 1 a2)) else (if a1 = 1 then ((fX10_canClaim σ 1 a2)) else (if a1 = 2 then ((fX10_canHide σ 1 a2)) else (if a1 = 3 then (if (fX10_has (σ.1 34 22) a2) = true then (false) else (true)) else (false))))
set_option maxRecDepth 20000 in
theorem kX10_can (l : Launch) (D : Dm) (a1 : Int32) (a2 : Int32) (σ : Mm) (hv2 : vp_in a2 8) (hM : vp_in (σ.1 34 13) 9) : Ct l yX10_can cX10_can 3 (some .boolean) 7 D [.ref (D.2.1 33), .int a1, .int a2] σ (some (.int (bi (fX10_can σ a1 a2))), σ) := by
  refine ct_of (by decide +kernel) (Nat.le_of_ble_eq_true rfl) (fun X F => ?_)
  have F : Fx X l 3 D cX10_can RX10 7 (some .boolean) := F
  show JJ X 3 D σ 0 [(0, .ref (D.2.1 33)), (1, .int a1), (2, .int a2)] [] (QQ X D (some (.int (bi (fX10_can σ a1 a2))), σ))
  rw [fX10_can]
  refine j_iload_n F dX10_can_0 1 rfl 1 rfl ?_
  refine j_if_ne F dX10_can_1 13 (by decide) 4 rfl (fun c_1 => ?_) (fun c_1 => ?_)
  · rw [if_pos c_1]
    refine j_aload_n F dX10_can_4 5 rfl 0 rfl ?_
    refine j_iconst (v := 1) F dX10_can_5 6 rfl (by decide) ?_
    refine j_iload_n F dX10_can_6 7 rfl 2 rfl ?_
    refine j_callVr (as := [.int (nI 1), .int a2]) (st := []) (r := .int (bi (fX10_canBreak σ 1 a2))) (σ9 := σ) F zX10_canBreak dX10_can_7 10 rfl pX10_canBreak rfl (by decide) (by decide) (Nat.le_of_ble_eq_true rfl) rfl qX10_159 rfl rfl (by decide) sh33 (kX10_canBreak l D 1 a2 σ (by decide) (by first | assumption | exact isThing_in (by assumption) (by assumption) | exact vin_mono (by assumption) (by decide) | omega | decide)) ?_
    refine j_goto F dX10_can_10 65 (by decide) ?_
    exact j_ret_b (b := (fX10_canBreak σ 1 a2)) F dX10_can_65 rfl rfl rfl
  · rw [if_neg c_1]
    refine j_iload_n F dX10_can_13 14 rfl 1 rfl ?_
    refine j_iconst (v := 1) F dX10_can_14 15 rfl (by decide) ?_
    refine j_icmp_ne F dX10_can_15 27 (by decide) 18 rfl (fun c_15 => ?_) (fun c_15 => ?_)
    · rw [if_pos c_15]
      refine j_aload_n F dX10_can_18 19 rfl 0 rfl ?_
      refine j_iconst (v := 1) F dX10_can_19 20 rfl (by decide) ?_
      refine j_iload_n F dX10_can_20 21 rfl 2 rfl ?_
      refine j_callVr (as := [.int (nI 1), .int a2]) (st := []) (r := .int (bi (fX10_canClaim σ 1 a2))) (σ9 := σ) F zX10_canClaim dX10_can_21 24 rfl pX10_canClaim rfl (by decide) (by decide) (Nat.le_of_ble_eq_true rfl) rfl qX10_175 rfl rfl (by decide) sh33 (kX10_canClaim l D 1 a2 σ (by decide) (by first | assumption | exact isThing_in (by assumption) (by assumption) | exact vin_mono (by assumption) (by decide) | omega | decide)) ?_
      refine j_goto F dX10_can_24 65 (by decide) ?_
      exact j_ret_b (b := (fX10_canClaim σ 1 a2)) F dX10_can_65 rfl rfl rfl
    · rw [if_neg c_15]
      refine j_iload_n F dX10_can_27 28 rfl 1 rfl ?_
      refine j_iconst (v := 2) F dX10_can_28 29 rfl (by decide) ?_
      refine j_icmp_ne F dX10_can_29 41 (by decide) 32 rfl (fun c_29 => ?_) (fun c_29 => ?_)
      · rw [if_pos c_29]
        refine j_aload_n F dX10_can_32 33 rfl 0 rfl ?_
        refine j_iconst (v := 1) F dX10_can_33 34 rfl (by decide) ?_
        refine j_iload_n F dX10_can_34 35 rfl 2 rfl ?_
        refine j_callVr (as := [.int (nI 1), .int a2]) (st := []) (r := .int (bi (fX10_canHide σ 1 a2))) (σ9 := σ) F zX10_canHide dX10_can_35 38 rfl pX10_canHide rfl (by decide) (by decide) (Nat.le_of_ble_eq_true rfl) rfl qX10_169 rfl rfl (by decide) sh33 (kX10_canHide l D 1 a2 σ (by decide)) ?_
        refine j_goto F dX10_can_38 65 (by decide) ?_
        exact j_ret_b (b := (fX10_canHide σ 1 a2)) F dX10_can_65 rfl rfl rfl
      · rw [if_neg c_29]
        refine j_iload_n F dX10_can_41 42 rfl 1 rfl ?_
        refine j_iconst (v := 3) F dX10_can_42 43 rfl (by decide) ?_
        refine j_icmp_ne F dX10_can_43 64 (by decide) 46 rfl (fun c_43 => ?_) (fun c_43 => ?_)
        · rw [if_pos c_43]
          refine j_aload_n F dX10_can_46 47 rfl 0 rfl ?_
          refine j_get (j := 0) F dX10_can_47 50 rfl inX10 rfl (by decide) sh33 (by decide) qX10_7 rfl ?_
          refine j_bipush (v := 22) F dX10_can_50 52 rfl (by decide) ?_
          refine j_iald_n F dX10_can_52 53 rfl ia34 22 rfl (by decide) ?_
          refine j_iload_n F dX10_can_53 54 rfl 2 rfl ?_
          refine j_callSr (as := [.int (σ.1 34 22), .int a2]) (st := []) (r := .int (bi (fX10_has (σ.1 34 22) a2))) (σ9 := σ) F zX10_has dX10_can_54 57 rfl pX10_has rfl (by decide) (by decide) (Nat.le_of_ble_eq_true rfl) rfl qX10_108 (kX10_has l D (σ.1 34 22) a2 σ) ?_
          refine j_ifb_ne F dX10_can_57 64 (by decide) 60 rfl (fun c_57 => ?_) (fun c_57 => ?_)
          · rw [if_neg c_57]
            refine j_iconst (v := 1) F dX10_can_60 61 rfl (by decide) ?_
            refine j_goto F dX10_can_61 65 (by decide) ?_
            exact j_ret_b (b := true) F dX10_can_65 rfl rfl rfl
          · rw [if_pos c_57]
            refine j_iconst (v := 0) F dX10_can_64 65 rfl (by decide) ?_
            exact j_ret_b (b := false) F dX10_can_65 rfl rfl rfl
        · rw [if_neg c_43]
          refine j_iconst (v := 0) F dX10_can_64 65 rfl (by decide) ?_
          exact j_ret_b (b := false) F dX10_can_65 rfl rfl rfl
def mX10_frail_4 (σ : Mm) (a1 : Int32)  : Nat := ((σ.1 34 13) : Int32).toNatClampNeg
def fX10_frail_4 (σ : Mm) (a1 : Int32)  : Nat → Int32 → Nat → Int32
  | 0, _, _ => 0
  | n + 1, x2_4, k3_4 => if (nI k3_4) < (σ.1 34 13) then (if (fX10_has a1 (nI k3_4)) = true then (if (fX10_has (σ.1 34 10) (nI k3_4)) = true then (fX10_frail_4 σ a1 n (x2_4 ||| 0) (k3_4 + 1)) else (if (fX10_guardOf σ (nI k3_4)) = 0 then (fX10_frail_4 σ a1 n (x2_4 ||| (1 <<< ((nI k3_4) &&& 31))) (k3_4 + 1)) else (fX10_frail_4 σ a1 n (x2_4 ||| 0) (k3_4 + 1)))) else (fX10_frail_4 σ a1 n (x2_4 ||| 0) (k3_4 + 1))) else (x2_4)
def fX10_frail (σ : Mm) (a1 : Int32) : Int32 := fX10_frail_4 σ a1 (mX10_frail_4 σ a1 + 1) 0 0
set_option maxRecDepth 20000 in
theorem kX10_frail (l : Launch) (D : Dm) (a1 : Int32) (σ : Mm) (hM : vp_in (σ.1 34 13) 9) : Ct l yX10_frail cX10_frail 4 (some .int) 2 D [.ref (D.2.1 33), .int a1] σ (some (.int (fX10_frail σ a1)), σ) := by
  refine ct_of (by decide +kernel) (Nat.le_of_ble_eq_true rfl) (fun X F => ?_)
  have F : Fx X l 4 D cX10_frail RX10 2 (some .int) := F
  show JJ X 4 D σ 0 [(0, .ref (D.2.1 33)), (1, .int a1)] [] (QQ X D (some (.int (fX10_frail σ a1)), σ))
  rw [fX10_frail]
  have hm := vin_le hM
  refine j_iconst (v := 0) F dX10_frail_0 1 rfl (by decide) ?_
  refine j_istore_n F dX10_frail_1 2 rfl 2 rfl (by decide) [(2, .int 0), (0, .ref (D.2.1 33)), (1, .int a1)] rfl ?_
  refine j_iconst (v := 0) F dX10_frail_2 3 rfl (by decide) ?_
  refine j_istore_n F dX10_frail_3 4 rfl 3 rfl (by decide) [(3, .int 0), (2, .int 0), (0, .ref (D.2.1 33)), (1, .int a1)] rfl ?_
  have lp_4 : ∀ (n_4 : Nat) (x2_4 : Int32) (k3_4 : Nat), k3_4 ≤ (((σ.1 34 13) : Int32).toNatClampNeg) → (((σ.1 34 13) : Int32).toNatClampNeg) < k3_4 + n_4 → JJ X 4 D σ 4 [(0, .ref (D.2.1 33)), (1, .int a1), (2, .int x2_4), (3, .int (nI k3_4))] [] (QQ X D (some (.int (fX10_frail_4 σ a1 n_4 x2_4 k3_4)), σ)) := by
    intro n_4
    induction n_4 with
    | zero => intro x2_4 k3_4 hk_4 hn_4; exact absurd hn_4 (by omega)
    | succ n_4 ih_4 =>
      intro x2_4 k3_4 hk_4 hn_4
      rw [fX10_frail_4]
      refine j_iload_n F dX10_frail_4 5 rfl 3 rfl ?_
      refine j_aload_n F dX10_frail_5 6 rfl 0 rfl ?_
      refine j_callVr (as := []) (st := [.int (nI k3_4)]) (r := .int (σ.1 34 13)) (σ9 := σ) F zX10_many dX10_frail_6 9 rfl pX10_many rfl (by decide) (by decide) (Nat.le_of_ble_eq_true rfl) rfl qX10_105 rfl rfl (by decide) sh33 (kX10_many l D σ) ?_
      refine j_icmp_ge F dX10_frail_9 58 (by decide) 12 rfl (fun c_9 => ?_) (fun c_9 => ?_)
      · rw [if_pos c_9]
        have h_9 : k3_4 < (((σ.1 34 13) : Int32).toNatClampNeg) := nltd c_9 hk_4
        refine j_iload_n F dX10_frail_12 13 rfl 2 rfl ?_
        refine j_iload_n F dX10_frail_13 14 rfl 1 rfl ?_
        refine j_iload_n F dX10_frail_14 15 rfl 3 rfl ?_
        refine j_callSr (as := [.int a1, .int (nI k3_4)]) (st := [.int x2_4]) (r := .int (bi (fX10_has a1 (nI k3_4)))) (σ9 := σ) F zX10_has dX10_frail_15 18 rfl pX10_has rfl (by decide) (by decide) (Nat.le_of_ble_eq_true rfl) rfl qX10_108 (kX10_has l D a1 (nI k3_4) σ) ?_
        refine j_ifb_eq F dX10_frail_18 49 (by decide) 21 rfl (fun c_18 => ?_) (fun c_18 => ?_)
        · rw [if_pos c_18]
          refine j_aload_n F dX10_frail_21 22 rfl 0 rfl ?_
          refine j_get (j := 0) F dX10_frail_22 25 rfl inX10 rfl (by decide) sh33 (by decide) qX10_7 rfl ?_
          refine j_bipush (v := 10) F dX10_frail_25 27 rfl (by decide) ?_
          refine j_iald_n F dX10_frail_27 28 rfl ia34 10 rfl (by decide) ?_
          refine j_iload_n F dX10_frail_28 29 rfl 3 rfl ?_
          refine j_callSr (as := [.int (σ.1 34 10), .int (nI k3_4)]) (st := [.int x2_4]) (r := .int (bi (fX10_has (σ.1 34 10) (nI k3_4)))) (σ9 := σ) F zX10_has dX10_frail_29 32 rfl pX10_has rfl (by decide) (by decide) (Nat.le_of_ble_eq_true rfl) rfl qX10_108 (kX10_has l D (σ.1 34 10) (nI k3_4) σ) ?_
          refine j_ifb_ne F dX10_frail_32 49 (by decide) 35 rfl (fun c_32 => ?_) (fun c_32 => ?_)
          · rw [if_neg c_32]
            refine j_aload_n F dX10_frail_35 36 rfl 0 rfl ?_
            refine j_iload_n F dX10_frail_36 37 rfl 3 rfl ?_
            refine j_callVr (as := [.int (nI k3_4)]) (st := [.int x2_4]) (r := .int (fX10_guardOf σ (nI k3_4))) (σ9 := σ) F zX10_guardOf dX10_frail_37 40 rfl pX10_guardOf rfl (by decide) (by decide) (Nat.le_of_ble_eq_true rfl) rfl qX10_140 rfl rfl (by decide) sh33 (kX10_guardOf l D (nI k3_4) σ (vp_in_nI (n := k3_4) (by omega) (by decide))) ?_
            refine j_if_ne F dX10_frail_40 49 (by decide) 43 rfl (fun c_40 => ?_) (fun c_40 => ?_)
            · rw [if_pos c_40]
              refine j_iconst (v := 1) F dX10_frail_43 44 rfl (by decide) ?_
              refine j_iload_n F dX10_frail_44 45 rfl 3 rfl ?_
              refine j_ishl F dX10_frail_45 46 rfl ?_
              refine j_goto F dX10_frail_46 50 (by decide) ?_
              refine j_ior F dX10_frail_50 51 rfl ?_
              refine j_istore_n F dX10_frail_51 52 rfl 2 rfl (by decide) [(2, .int (x2_4 ||| (1 <<< ((nI k3_4) &&& 31)))), (0, .ref (D.2.1 33)), (1, .int a1), (3, .int (nI k3_4))] rfl ?_
              refine j_iinc F dX10_frail_52 55 rfl 3 rfl (nI (k3_4 + 1)) (nI_inc k3_4) (by decide) [(3, .int (nI (k3_4 + 1))), (2, .int (x2_4 ||| (1 <<< ((nI k3_4) &&& 31)))), (0, .ref (D.2.1 33)), (1, .int a1)] rfl ?_
              refine j_goto F dX10_frail_55 4 (by decide) ?_
              refine j_pick [2, 3, 1, 0] [(0, .ref (D.2.1 33)), (1, .int a1), (2, .int (x2_4 ||| (1 <<< ((nI k3_4) &&& 31)))), (3, .int (nI (k3_4 + 1)))] rfl ?_
              exact ih_4 (x2_4 ||| (1 <<< ((nI k3_4) &&& 31))) (k3_4 + 1) (by omega) (by omega)
            · rw [if_neg c_40]
              refine j_iconst (v := 0) F dX10_frail_49 50 rfl (by decide) ?_
              refine j_ior F dX10_frail_50 51 rfl ?_
              refine j_istore_n F dX10_frail_51 52 rfl 2 rfl (by decide) [(2, .int (x2_4 ||| 0)), (0, .ref (D.2.1 33)), (1, .int a1), (3, .int (nI k3_4))] rfl ?_
              refine j_iinc F dX10_frail_52 55 rfl 3 rfl (nI (k3_4 + 1)) (nI_inc k3_4) (by decide) [(3, .int (nI (k3_4 + 1))), (2, .int (x2_4 ||| 0)), (0, .ref (D.2.1 33)), (1, .int a1)] rfl ?_
              refine j_goto F dX10_frail_55 4 (by decide) ?_
              refine j_pick [2, 3, 1, 0] [(0, .ref (D.2.1 33)), (1, .int a1), (2, .int (x2_4 ||| 0)), (3, .int (nI (k3_4 + 1)))] rfl ?_
              exact ih_4 (x2_4 ||| 0) (k3_4 + 1) (by omega) (by omega)
          · rw [if_pos c_32]
            refine j_iconst (v := 0) F dX10_frail_49 50 rfl (by decide) ?_
            refine j_ior F dX10_frail_50 51 rfl ?_
            refine j_istore_n F dX10_frail_51 52 rfl 2 rfl (by decide) [(2, .int (x2_4 ||| 0)), (0, .ref (D.2.1 33)), (1, .int a1), (3, .int (nI k3_4))] rfl ?_
            refine j_iinc F dX10_frail_52 55 rfl 3 rfl (nI (k3_4 + 1)) (nI_inc k3_4) (by decide) [(3, .int (nI (k3_4 + 1))), (2, .int (x2_4 ||| 0)), (0, .ref (D.2.1 33)), (1, .int a1)] rfl ?_
            refine j_goto F dX10_frail_55 4 (by decide) ?_
            refine j_pick [2, 3, 1, 0] [(0, .ref (D.2.1 33)), (1, .int a1), (2, .int (x2_4 ||| 0)), (3, .int (nI (k3_4 + 1)))] rfl ?_
            exact ih_4 (x2_4 ||| 0) (k3_4 + 1) (by omega) (by omega)
        · rw [if_neg c_18]
          refine j_iconst (v := 0) F dX10_frail_49 50 rfl (by decide) ?_
          refine j_ior F dX10_frail_50 51 rfl ?_
          refine j_istore_n F dX10_frail_51 52 rfl 2 rfl (by decide) [(2, .int (x2_4 ||| 0)), (0, .ref (D.2.1 33)), (1, .int a1), (3, .int (nI k3_4))] rfl ?_
          refine j_iinc F dX10_frail_52 55 rfl 3 rfl (nI (k3_4 + 1)) (nI_inc k3_4) (by decide) [(3, .int (nI (k3_4 + 1))), (2, .int (x2_4 ||| 0)), (0, .ref (D.2.1 33)), (1, .int a1)] rfl ?_
          refine j_goto F dX10_frail_55 4 (by decide) ?_
          refine j_pick [2, 3, 1, 0] [(0, .ref (D.2.1 33)), (1, .int a1), (2, .int (x2_4 ||| 0)), (3, .int (nI (k3_4 + 1)))] rfl ?_
          exact ih_4 (x2_4 ||| 0) (k3_4 + 1) (by omega) (by omega)
      · rw [if_neg c_9]
        refine j_iload_n F dX10_frail_58 59 rfl 2 rfl ?_
        exact j_ret_i F dX10_frail_59 rfl rfl rfl
  refine j_pick [2, 3, 1, 0] [(0, .ref (D.2.1 33)), (1, .int a1), (2, .int 0), (3, .int 0)] rfl ?_
  exact lp_4 (mX10_frail_4 σ a1 + 1) 0 0 (Nat.zero_le _) (by show (((σ.1 34 13) : Int32).toNatClampNeg) < 0 + ((((σ.1 34 13) : Int32).toNatClampNeg) + 1); omega)
def fX10_hiddenThere (σ : Mm)  : Int32 := ((((1 <<< ((σ.1 34 13) &&& 31)) - 1) &&& (σ.1 34 9)) &&& ((σ.1 34 8) ^^^ (-1)))
set_option maxRecDepth 20000 in
theorem kX10_hiddenThere (l : Launch) (D : Dm)  (σ : Mm)  : Ct l yX10_hiddenThere cX10_hiddenThere 1 (some .int) 2 D [.ref (D.2.1 33)] σ (some (.int (fX10_hiddenThere σ)), σ) := by
  refine ct_of (by decide +kernel) (Nat.le_of_ble_eq_true rfl) (fun X F => ?_)
  have F : Fx X l 1 D cX10_hiddenThere RX10 2 (some .int) := F
  show JJ X 1 D σ 0 [(0, .ref (D.2.1 33))] [] (QQ X D (some (.int (fX10_hiddenThere σ)), σ))
  rw [fX10_hiddenThere]
  refine j_iconst (v := 1) F dX10_hiddenThere_0 1 rfl (by decide) ?_
  refine j_aload_n F dX10_hiddenThere_1 2 rfl 0 rfl ?_
  refine j_callVr (as := []) (st := [.int 1]) (r := .int (σ.1 34 13)) (σ9 := σ) F zX10_many dX10_hiddenThere_2 5 rfl pX10_many rfl (by decide) (by decide) (Nat.le_of_ble_eq_true rfl) rfl qX10_105 rfl rfl (by decide) sh33 (kX10_many l D σ) ?_
  refine j_ishl F dX10_hiddenThere_5 6 rfl ?_
  refine j_iconst (v := 1) F dX10_hiddenThere_6 7 rfl (by decide) ?_
  refine j_isub F dX10_hiddenThere_7 8 rfl ?_
  refine j_aload_n F dX10_hiddenThere_8 9 rfl 0 rfl ?_
  refine j_get (j := 0) F dX10_hiddenThere_9 12 rfl inX10 rfl (by decide) sh33 (by decide) qX10_7 rfl ?_
  refine j_bipush (v := 9) F dX10_hiddenThere_12 14 rfl (by decide) ?_
  refine j_iald_n F dX10_hiddenThere_14 15 rfl ia34 9 rfl (by decide) ?_
  refine j_iand F dX10_hiddenThere_15 16 rfl ?_
  refine j_aload_n F dX10_hiddenThere_16 17 rfl 0 rfl ?_
  refine j_get (j := 0) F dX10_hiddenThere_17 20 rfl inX10 rfl (by decide) sh33 (by decide) qX10_7 rfl ?_
  refine j_bipush (v := 8) F dX10_hiddenThere_20 22 rfl (by decide) ?_
  refine j_iald_n F dX10_hiddenThere_22 23 rfl ia34 8 rfl (by decide) ?_
  refine j_iconst (v := (-1)) F dX10_hiddenThere_23 24 rfl (by decide) ?_
  refine j_ixor F dX10_hiddenThere_24 25 rfl ?_
  refine j_iand F dX10_hiddenThere_25 26 rfl ?_
  exact j_ret_i F dX10_hiddenThere_26 rfl rfl rfl
def fX10_doGuard (σ : Mm) (a1 : Nat) (a2 : Int32) : Mm := if (fX10_guardAt σ a1 a2) = 0 then ((up σ 34 ((14 * (nI a1)) + a2).toNatClampNeg ((σ.1 34 ((14 * (nI a1)) + a2).toNatClampNeg) + 1))) else ((up σ 34 ((14 * (nI a1)) + a2).toNatClampNeg ((σ.1 34 ((14 * (nI a1)) + a2).toNatClampNeg) + (-1))))
set_option maxRecDepth 20000 in
theorem kX10_doGuard (l : Launch) (D : Dm) (a1 : Nat) (a2 : Int32) (σ : Mm) (hl1 : a1 ≤ 1) (hv2 : vp_in a2 8) : Ct l yX10_doGuard cX10_doGuard 3 none 2 D [.ref (D.2.1 33), .int (nI a1), .int a2] σ (none, fX10_doGuard σ a1 a2) := by
  refine ct_of (by decide +kernel) (Nat.le_of_ble_eq_true rfl) (fun X F => ?_)
  have F : Fx X l 3 D cX10_doGuard RX10 2 none := F
  show JJ X 3 D σ 0 [(0, .ref (D.2.1 33)), (1, .int (nI a1)), (2, .int a2)] [] (QQ X D (none, fX10_doGuard σ a1 a2))
  rw [fX10_doGuard]
  refine j_aload_n F dX10_doGuard_0 1 rfl 0 rfl ?_
  refine j_get (j := 0) F dX10_doGuard_1 4 rfl inX10 rfl (by decide) sh33 (by decide) qX10_7 rfl ?_
  refine j_bipush (v := 14) F dX10_doGuard_4 6 rfl (by decide) ?_
  refine j_iload_n F dX10_doGuard_6 7 rfl 1 rfl ?_
  refine j_imul F dX10_doGuard_7 8 rfl ?_
  refine j_iload_n F dX10_doGuard_8 9 rfl 2 rfl ?_
  refine j_iadd F dX10_doGuard_9 10 rfl ?_
  refine j_dup2 F dX10_doGuard_10 11 rfl rfl rfl ?_
  refine j_iald F dX10_doGuard_11 12 rfl ia34 (vin_lv hl1 hv2) ?_
  refine j_aload_n F dX10_doGuard_12 13 rfl 0 rfl ?_
  refine j_iload_n F dX10_doGuard_13 14 rfl 1 rfl ?_
  refine j_iload_n F dX10_doGuard_14 15 rfl 2 rfl ?_
  refine j_callVr (as := [.int (nI a1), .int a2]) (st := [.int (σ.1 34 ((14 * (nI a1)) + a2).toNatClampNeg), .int ((14 * (nI a1)) + a2), .ref (D.2.1 34)]) (r := .int (fX10_guardAt σ a1 a2)) (σ9 := σ) F zX10_guardAt dX10_doGuard_15 18 rfl pX10_guardAt rfl (by decide) (by decide) (Nat.le_of_ble_eq_true rfl) rfl qX10_152 rfl rfl (by decide) sh33 (kX10_guardAt l D a1 a2 σ (by assumption) (by first | assumption | exact isThing_in (by assumption) (by assumption) | exact vin_mono (by assumption) (by decide) | omega | decide)) ?_
  refine j_if_ne F dX10_doGuard_18 25 (by decide) 21 rfl (fun c_18 => ?_) (fun c_18 => ?_)
  · rw [if_pos c_18]
    refine j_iconst (v := 1) F dX10_doGuard_21 22 rfl (by decide) ?_
    refine j_goto F dX10_doGuard_22 26 (by decide) ?_
    refine j_iadd F dX10_doGuard_26 27 rfl ?_
    refine j_iast F dX10_doGuard_27 28 rfl ia34 (vin_lv hl1 hv2) ?_
    exact j_ret_v F dX10_doGuard_28 rfl rfl rfl
  · rw [if_neg c_18]
    refine j_iconst (v := (-1)) F dX10_doGuard_25 26 rfl (by decide) ?_
    refine j_iadd F dX10_doGuard_26 27 rfl ?_
    refine j_iast F dX10_doGuard_27 28 rfl ia34 (vin_lv hl1 hv2) ?_
    exact j_ret_v F dX10_doGuard_28 rfl rfl rfl
def fX10_free (σ : Mm) (a1 : Nat) (a2 : Int32) : Mm := (up σ 34 ((14 * a1) + 10) ((σ.1 34 ((14 * a1) + 10)) &&& ((fX10_alikeOf σ a2 (σ.1 34 ((14 * a1) + 10)) (σ.1 34 ((14 * a1) + 11))) ^^^ (-1))))
set_option maxRecDepth 20000 in
theorem kX10_free (l : Launch) (D : Dm) (a1 : Nat) (a2 : Int32) (σ : Mm) (hl1 : a1 ≤ 1) (hv2 : vp_in a2 8) (hM : vp_in (σ.1 34 13) 9) : Ct l yX10_free cX10_free 4 none 5 D [.ref (D.2.1 33), .int (nI a1), .int a2] σ (none, fX10_free σ a1 a2) := by
  refine ct_of (by decide +kernel) (Nat.le_of_ble_eq_true rfl) (fun X F => ?_)
  have F : Fx X l 4 D cX10_free RX10 5 none := F
  show JJ X 4 D σ 0 [(0, .ref (D.2.1 33)), (1, .int (nI a1)), (2, .int a2)] [] (QQ X D (none, fX10_free σ a1 a2))
  rw [fX10_free]
  refine j_bipush (v := 14) F dX10_free_0 2 rfl (by decide) ?_
  refine j_iload_n F dX10_free_2 3 rfl 1 rfl ?_
  refine j_imul F dX10_free_3 4 rfl ?_
  refine j_istore_n F dX10_free_4 5 rfl 3 rfl (by decide) [(3, .int (14 * (nI a1))), (0, .ref (D.2.1 33)), (1, .int (nI a1)), (2, .int a2)] rfl ?_
  refine j_aload_n F dX10_free_5 6 rfl 1 rfl ?_
  refine j_get (j := 0) F dX10_free_6 9 rfl inX10 rfl (by decide) sh33 (by decide) qX10_7 rfl ?_
  refine j_iload_n F dX10_free_9 10 rfl 0 rfl ?_
  refine j_bipush (v := 10) F dX10_free_10 12 rfl (by decide) ?_
  refine j_iadd F dX10_free_12 13 rfl ?_
  refine j_dup2 F dX10_free_13 14 rfl rfl rfl ?_
  refine j_iald_n F dX10_free_14 15 rfl ia34 ((14 * a1) + 10) (ne_add (ne_mul rfl rfl) rfl) (by omega) ?_
  refine j_aload_n F dX10_free_15 16 rfl 1 rfl ?_
  refine j_iload_n F dX10_free_16 17 rfl 3 rfl ?_
  refine j_aload_n F dX10_free_17 18 rfl 1 rfl ?_
  refine j_get (j := 0) F dX10_free_18 21 rfl inX10 rfl (by decide) sh33 (by decide) qX10_7 rfl ?_
  refine j_iload_n F dX10_free_21 22 rfl 0 rfl ?_
  refine j_bipush (v := 10) F dX10_free_22 24 rfl (by decide) ?_
  refine j_iadd F dX10_free_24 25 rfl ?_
  refine j_iald_n F dX10_free_25 26 rfl ia34 ((14 * a1) + 10) (ne_add (ne_mul rfl rfl) rfl) (by omega) ?_
  refine j_aload_n F dX10_free_26 27 rfl 1 rfl ?_
  refine j_get (j := 0) F dX10_free_27 30 rfl inX10 rfl (by decide) sh33 (by decide) qX10_7 rfl ?_
  refine j_iload_n F dX10_free_30 31 rfl 0 rfl ?_
  refine j_bipush (v := 11) F dX10_free_31 33 rfl (by decide) ?_
  refine j_iadd F dX10_free_33 34 rfl ?_
  refine j_iald_n F dX10_free_34 35 rfl ia34 ((14 * a1) + 11) (ne_add (ne_mul rfl rfl) rfl) (by omega) ?_
  refine j_callVr (as := [.int a2, .int (σ.1 34 ((14 * a1) + 10)), .int (σ.1 34 ((14 * a1) + 11))]) (st := [.int (σ.1 34 ((14 * a1) + 10)), .int ((14 * (nI a1)) + 10), .ref (D.2.1 34)]) (r := .int (fX10_alikeOf σ a2 (σ.1 34 ((14 * a1) + 10)) (σ.1 34 ((14 * a1) + 11)))) (σ9 := σ) F zX10_alikeOf dX10_free_35 38 rfl pX10_alikeOf rfl (by decide) (by decide) (Nat.le_of_ble_eq_true rfl) rfl qX10_118 rfl rfl (by decide) sh33 (kX10_alikeOf l D a2 (σ.1 34 ((14 * a1) + 10)) (σ.1 34 ((14 * a1) + 11)) σ (by first | assumption | exact isThing_in (by assumption) (by assumption) | exact vin_mono (by assumption) (by decide) | omega | decide) (by first | assumption | exact isThing_in (by assumption) (by assumption) | exact vin_mono (by assumption) (by decide) | omega | decide)) ?_
  refine j_iconst (v := (-1)) F dX10_free_38 39 rfl (by decide) ?_
  refine j_ixor F dX10_free_39 40 rfl ?_
  refine j_iand F dX10_free_40 41 rfl ?_
  refine j_iast_n F dX10_free_41 42 rfl ia34 ((14 * a1) + 10) (ne_add (ne_mul rfl rfl) rfl) (by omega) ?_
  exact j_ret_v F dX10_free_42 rfl rfl rfl
def fX10_doHide (σ : Mm) (a1 : Nat) (a2 : Int32) : Mm := if (fX10_has ((up σ 34 ((14 * a1) + 9) ((σ.1 34 ((14 * a1) + 9)) ^^^ (1 <<< (a2 &&& 31)))).1 34 ((14 * a1) + 9)) a2) = true then ((up σ 34 ((14 * a1) + 9) ((σ.1 34 ((14 * a1) + 9)) ^^^ (1 <<< (a2 &&& 31))))) else ((fX10_free (up σ 34 ((14 * a1) + 9) ((σ.1 34 ((14 * a1) + 9)) ^^^ (1 <<< (a2 &&& 31)))) a1 a2))
set_option maxRecDepth 20000 in
theorem kX10_doHide (l : Launch) (D : Dm) (a1 : Nat) (a2 : Int32) (σ : Mm) (hl1 : a1 ≤ 1) (hv2 : vp_in a2 8) (hM : vp_in (σ.1 34 13) 9) : Ct l yX10_doHide cX10_doHide 3 none 6 D [.ref (D.2.1 33), .int (nI a1), .int a2] σ (none, fX10_doHide σ a1 a2) := by
  refine ct_of (by decide +kernel) (Nat.le_of_ble_eq_true rfl) (fun X F => ?_)
  have F : Fx X l 3 D cX10_doHide RX10 6 none := F
  show JJ X 3 D σ 0 [(0, .ref (D.2.1 33)), (1, .int (nI a1)), (2, .int a2)] [] (QQ X D (none, fX10_doHide σ a1 a2))
  rw [fX10_doHide]
  refine j_aload_n F dX10_doHide_0 1 rfl 0 rfl ?_
  refine j_get (j := 0) F dX10_doHide_1 4 rfl inX10 rfl (by decide) sh33 (by decide) qX10_7 rfl ?_
  refine j_bipush (v := 14) F dX10_doHide_4 6 rfl (by decide) ?_
  refine j_iload_n F dX10_doHide_6 7 rfl 1 rfl ?_
  refine j_imul F dX10_doHide_7 8 rfl ?_
  refine j_bipush (v := 9) F dX10_doHide_8 10 rfl (by decide) ?_
  refine j_iadd F dX10_doHide_10 11 rfl ?_
  refine j_dup2 F dX10_doHide_11 12 rfl rfl rfl ?_
  refine j_iald_n F dX10_doHide_12 13 rfl ia34 ((14 * a1) + 9) (ne_add (ne_mul rfl rfl) rfl) (by omega) ?_
  refine j_iconst (v := 1) F dX10_doHide_13 14 rfl (by decide) ?_
  refine j_iload_n F dX10_doHide_14 15 rfl 2 rfl ?_
  refine j_ishl F dX10_doHide_15 16 rfl ?_
  refine j_ixor F dX10_doHide_16 17 rfl ?_
  refine j_iast_n F dX10_doHide_17 18 rfl ia34 ((14 * a1) + 9) (ne_add (ne_mul rfl rfl) rfl) (by omega) ?_
  refine j_aload_n F dX10_doHide_18 19 rfl 0 rfl ?_
  refine j_get (j := 0) F dX10_doHide_19 22 rfl inX10 rfl (by decide) sh33 (by decide) qX10_7 rfl ?_
  refine j_bipush (v := 14) F dX10_doHide_22 24 rfl (by decide) ?_
  refine j_iload_n F dX10_doHide_24 25 rfl 1 rfl ?_
  refine j_imul F dX10_doHide_25 26 rfl ?_
  refine j_bipush (v := 9) F dX10_doHide_26 28 rfl (by decide) ?_
  refine j_iadd F dX10_doHide_28 29 rfl ?_
  refine j_iald_n F dX10_doHide_29 30 rfl ia34 ((14 * a1) + 9) (ne_add (ne_mul rfl rfl) rfl) (by omega) ?_
  refine j_iload_n F dX10_doHide_30 31 rfl 2 rfl ?_
  refine j_callSr (as := [.int ((up σ 34 ((14 * a1) + 9) ((σ.1 34 ((14 * a1) + 9)) ^^^ (1 <<< (a2 &&& 31)))).1 34 ((14 * a1) + 9)), .int a2]) (st := []) (r := .int (bi (fX10_has ((up σ 34 ((14 * a1) + 9) ((σ.1 34 ((14 * a1) + 9)) ^^^ (1 <<< (a2 &&& 31)))).1 34 ((14 * a1) + 9)) a2))) (σ9 := (up σ 34 ((14 * a1) + 9) ((σ.1 34 ((14 * a1) + 9)) ^^^ (1 <<< (a2 &&& 31))))) F zX10_has dX10_doHide_31 34 rfl pX10_has rfl (by decide) (by decide) (Nat.le_of_ble_eq_true rfl) rfl qX10_108 (kX10_has l D ((up σ 34 ((14 * a1) + 9) ((σ.1 34 ((14 * a1) + 9)) ^^^ (1 <<< (a2 &&& 31)))).1 34 ((14 * a1) + 9)) a2 (up σ 34 ((14 * a1) + 9) ((σ.1 34 ((14 * a1) + 9)) ^^^ (1 <<< (a2 &&& 31))))) ?_
  refine j_ifb_ne F dX10_doHide_34 43 (by decide) 37 rfl (fun c_34 => ?_) (fun c_34 => ?_)
  · rw [if_neg c_34]
    refine j_aload_n F dX10_doHide_37 38 rfl 0 rfl ?_
    refine j_iload_n F dX10_doHide_38 39 rfl 1 rfl ?_
    refine j_iload_n F dX10_doHide_39 40 rfl 2 rfl ?_
    refine j_callVv (as := [.int (nI a1), .int a2]) (st := []) (σ9 := (fX10_free (up σ 34 ((14 * a1) + 9) ((σ.1 34 ((14 * a1) + 9)) ^^^ (1 <<< (a2 &&& 31)))) a1 a2)) F zX10_free dX10_doHide_40 43 rfl pX10_free rfl (by decide) (by decide) (Nat.le_of_ble_eq_true rfl) rfl qX10_155 rfl rfl (by decide) sh33 (kX10_free l D a1 a2 (up σ 34 ((14 * a1) + 9) ((σ.1 34 ((14 * a1) + 9)) ^^^ (1 <<< (a2 &&& 31)))) (by assumption) (by first | assumption | exact isThing_in (by assumption) (by assumption) | exact vin_mono (by assumption) (by decide) | omega | decide) (by rw [up_n (by omega)]; exact hM)) ?_
    exact j_ret_v F dX10_doHide_43 rfl rfl rfl
  · rw [if_pos c_34]
    exact j_ret_v F dX10_doHide_43 rfl rfl rfl
def fX10_priceBy (σ : Mm) (a1 : Int32) (a2 : Int32) : Int32 := if (fX10_has a2 a1) = true then (((12 * (fX10_worthOf σ a1)) / (1 + (fX10_ones (fX10_alikeOf σ a1 a2 (σ.1 34 11)))))) else (0)
set_option maxRecDepth 20000 in
theorem kX10_priceBy (l : Launch) (D : Dm) (a1 : Int32) (a2 : Int32) (σ : Mm) (hv1 : vp_in a1 8) (hM : vp_in (σ.1 34 13) 9) : Ct l yX10_priceBy cX10_priceBy 3 (some .int) 5 D [.ref (D.2.1 33), .int a1, .int a2] σ (some (.int (fX10_priceBy σ a1 a2)), σ) := by
  refine ct_of (by decide +kernel) (Nat.le_of_ble_eq_true rfl) (fun X F => ?_)
  have F : Fx X l 3 D cX10_priceBy RX10 5 (some .int) := F
  show JJ X 3 D σ 0 [(0, .ref (D.2.1 33)), (1, .int a1), (2, .int a2)] [] (QQ X D (some (.int (fX10_priceBy σ a1 a2)), σ))
  rw [fX10_priceBy]
  refine j_iload_n F dX10_priceBy_0 1 rfl 2 rfl ?_
  refine j_iload_n F dX10_priceBy_1 2 rfl 1 rfl ?_
  refine j_callSr (as := [.int a2, .int a1]) (st := []) (r := .int (bi (fX10_has a2 a1))) (σ9 := σ) F zX10_has dX10_priceBy_2 5 rfl pX10_has rfl (by decide) (by decide) (Nat.le_of_ble_eq_true rfl) rfl qX10_108 (kX10_has l D a2 a1 σ) ?_
  refine j_ifb_eq F dX10_priceBy_5 38 (by decide) 8 rfl (fun c_5 => ?_) (fun c_5 => ?_)
  · rw [if_pos c_5]
    refine j_bipush (v := 12) F dX10_priceBy_8 10 rfl (by decide) ?_
    refine j_aload_n F dX10_priceBy_10 11 rfl 0 rfl ?_
    refine j_iload_n F dX10_priceBy_11 12 rfl 1 rfl ?_
    refine j_callVr (as := [.int a1]) (st := [.int 12]) (r := .int (fX10_worthOf σ a1)) (σ9 := σ) F zX10_worthOf dX10_priceBy_12 15 rfl pX10_worthOf rfl (by decide) (by decide) (Nat.le_of_ble_eq_true rfl) rfl qX10_134 rfl rfl (by decide) sh33 (kX10_worthOf l D a1 σ (by first | assumption | exact isThing_in (by assumption) (by assumption) | exact vin_mono (by assumption) (by decide) | omega | decide)) ?_
    refine j_imul F dX10_priceBy_15 16 rfl ?_
    refine j_iconst (v := 1) F dX10_priceBy_16 17 rfl (by decide) ?_
    refine j_aload_n F dX10_priceBy_17 18 rfl 0 rfl ?_
    refine j_iload_n F dX10_priceBy_18 19 rfl 1 rfl ?_
    refine j_iload_n F dX10_priceBy_19 20 rfl 2 rfl ?_
    refine j_aload_n F dX10_priceBy_20 21 rfl 0 rfl ?_
    refine j_get (j := 0) F dX10_priceBy_21 24 rfl inX10 rfl (by decide) sh33 (by decide) qX10_7 rfl ?_
    refine j_bipush (v := 11) F dX10_priceBy_24 26 rfl (by decide) ?_
    refine j_iald_n F dX10_priceBy_26 27 rfl ia34 11 rfl (by decide) ?_
    refine j_callVr (as := [.int a1, .int a2, .int (σ.1 34 11)]) (st := [.int 1, .int (12 * (fX10_worthOf σ a1))]) (r := .int (fX10_alikeOf σ a1 a2 (σ.1 34 11))) (σ9 := σ) F zX10_alikeOf dX10_priceBy_27 30 rfl pX10_alikeOf rfl (by decide) (by decide) (Nat.le_of_ble_eq_true rfl) rfl qX10_118 rfl rfl (by decide) sh33 (kX10_alikeOf l D a1 a2 (σ.1 34 11) σ (by first | assumption | exact isThing_in (by assumption) (by assumption) | exact vin_mono (by assumption) (by decide) | omega | decide) (by first | assumption | exact isThing_in (by assumption) (by assumption) | exact vin_mono (by assumption) (by decide) | omega | decide)) ?_
    refine j_callSr (as := [.int (fX10_alikeOf σ a1 a2 (σ.1 34 11))]) (st := [.int 1, .int (12 * (fX10_worthOf σ a1))]) (r := .int (fX10_ones (fX10_alikeOf σ a1 a2 (σ.1 34 11)))) (σ9 := σ) F zX10_ones dX10_priceBy_30 33 rfl pX10_ones rfl (by decide) (by decide) (Nat.le_of_ble_eq_true rfl) rfl qX10_115 (kX10_ones l D (fX10_alikeOf σ a1 a2 (σ.1 34 11)) σ) ?_
    refine j_iadd F dX10_priceBy_33 34 rfl ?_
    refine j_idiv F dX10_priceBy_34 35 rfl (ones_ne _) ?_
    refine j_goto F dX10_priceBy_35 39 (by decide) ?_
    exact j_ret_i F dX10_priceBy_39 rfl rfl rfl
  · rw [if_neg c_5]
    refine j_iconst (v := 0) F dX10_priceBy_38 39 rfl (by decide) ?_
    exact j_ret_i F dX10_priceBy_39 rfl rfl rfl
def fX10_make (σ : Mm) (a1 : Int32) (a2 : Int32) : Mm := if a1 = 0 then ((up σ 34 22 ((σ.1 34 22) ||| (1 <<< (a2 &&& 31))))) else (if a1 = 1 then ((up σ 34 24 ((σ.1 34 24) ||| (1 <<< (a2 &&& 31))))) else (if a1 = 2 then ((fX10_doHide σ 1 a2)) else ((fX10_doGuard σ 1 a2))))
set_option maxRecDepth 20000 in
theorem kX10_make (l : Launch) (D : Dm) (a1 : Int32) (a2 : Int32) (σ : Mm) (hv2 : vp_in a2 8) (hM : vp_in (σ.1 34 13) 9) : Ct l yX10_make cX10_make 3 none 7 D [.ref (D.2.1 33), .int a1, .int a2] σ (none, fX10_make σ a1 a2) := by
  refine ct_of (by decide +kernel) (Nat.le_of_ble_eq_true rfl) (fun X F => ?_)
  have F : Fx X l 3 D cX10_make RX10 7 none := F
  show JJ X 3 D σ 0 [(0, .ref (D.2.1 33)), (1, .int a1), (2, .int a2)] [] (QQ X D (none, fX10_make σ a1 a2))
  rw [fX10_make]
  refine j_iload_n F dX10_make_0 1 rfl 1 rfl ?_
  refine j_if_ne F dX10_make_1 20 (by decide) 4 rfl (fun c_1 => ?_) (fun c_1 => ?_)
  · rw [if_pos c_1]
    refine j_aload_n F dX10_make_4 5 rfl 0 rfl ?_
    refine j_get (j := 0) F dX10_make_5 8 rfl inX10 rfl (by decide) sh33 (by decide) qX10_7 rfl ?_
    refine j_bipush (v := 22) F dX10_make_8 10 rfl (by decide) ?_
    refine j_dup2 F dX10_make_10 11 rfl rfl rfl ?_
    refine j_iald_n F dX10_make_11 12 rfl ia34 22 rfl (by decide) ?_
    refine j_iconst (v := 1) F dX10_make_12 13 rfl (by decide) ?_
    refine j_iload_n F dX10_make_13 14 rfl 2 rfl ?_
    refine j_ishl F dX10_make_14 15 rfl ?_
    refine j_ior F dX10_make_15 16 rfl ?_
    refine j_iast_n F dX10_make_16 17 rfl ia34 22 rfl (by decide) ?_
    refine j_goto F dX10_make_17 61 (by decide) ?_
    exact j_ret_v F dX10_make_61 rfl rfl rfl
  · rw [if_neg c_1]
    refine j_iload_n F dX10_make_20 21 rfl 1 rfl ?_
    refine j_iconst (v := 1) F dX10_make_21 22 rfl (by decide) ?_
    refine j_icmp_ne F dX10_make_22 41 (by decide) 25 rfl (fun c_22 => ?_) (fun c_22 => ?_)
    · rw [if_pos c_22]
      refine j_aload_n F dX10_make_25 26 rfl 0 rfl ?_
      refine j_get (j := 0) F dX10_make_26 29 rfl inX10 rfl (by decide) sh33 (by decide) qX10_7 rfl ?_
      refine j_bipush (v := 24) F dX10_make_29 31 rfl (by decide) ?_
      refine j_dup2 F dX10_make_31 32 rfl rfl rfl ?_
      refine j_iald_n F dX10_make_32 33 rfl ia34 24 rfl (by decide) ?_
      refine j_iconst (v := 1) F dX10_make_33 34 rfl (by decide) ?_
      refine j_iload_n F dX10_make_34 35 rfl 2 rfl ?_
      refine j_ishl F dX10_make_35 36 rfl ?_
      refine j_ior F dX10_make_36 37 rfl ?_
      refine j_iast_n F dX10_make_37 38 rfl ia34 24 rfl (by decide) ?_
      refine j_goto F dX10_make_38 61 (by decide) ?_
      exact j_ret_v F dX10_make_61 rfl rfl rfl
    · rw [if_neg c_22]
      refine j_iload_n F dX10_make_41 42 rfl 1 rfl ?_
      refine j_iconst (v := 2) F dX10_make_42 43 rfl (by decide) ?_
      refine j_icmp_ne F dX10_make_43 55 (by decide) 46 rfl (fun c_43 => ?_) (fun c_43 => ?_)
      · rw [if_pos c_43]
        refine j_aload_n F dX10_make_46 47 rfl 0 rfl ?_
        refine j_iconst (v := 1) F dX10_make_47 48 rfl (by decide) ?_
        refine j_iload_n F dX10_make_48 49 rfl 2 rfl ?_
        refine j_callVv (as := [.int (nI 1), .int a2]) (st := []) (σ9 := (fX10_doHide σ 1 a2)) F zX10_doHide dX10_make_49 52 rfl pX10_doHide rfl (by decide) (by decide) (Nat.le_of_ble_eq_true rfl) rfl qX10_172 rfl rfl (by decide) sh33 (kX10_doHide l D 1 a2 σ (by decide) (by first | assumption | exact isThing_in (by assumption) (by assumption) | exact vin_mono (by assumption) (by decide) | omega | decide) (by first | assumption | exact isThing_in (by assumption) (by assumption) | exact vin_mono (by assumption) (by decide) | omega | decide)) ?_
        refine j_goto F dX10_make_52 61 (by decide) ?_
        exact j_ret_v F dX10_make_61 rfl rfl rfl
      · rw [if_neg c_43]
        refine j_aload_n F dX10_make_55 56 rfl 0 rfl ?_
        refine j_iconst (v := 1) F dX10_make_56 57 rfl (by decide) ?_
        refine j_iload_n F dX10_make_57 58 rfl 2 rfl ?_
        refine j_callVv (as := [.int (nI 1), .int a2]) (st := []) (σ9 := (fX10_doGuard σ 1 a2)) F zX10_doGuard dX10_make_58 61 rfl pX10_doGuard rfl (by decide) (by decide) (Nat.le_of_ble_eq_true rfl) rfl qX10_178 rfl rfl (by decide) sh33 (kX10_doGuard l D 1 a2 σ (by decide) (by first | assumption | exact isThing_in (by assumption) (by assumption) | exact vin_mono (by assumption) (by decide) | omega | decide)) ?_
        exact j_ret_v F dX10_make_61 rfl rfl rfl
def fX10_may (σ : Mm) (a1 : Int32) (a2 : Int32) : Bool := if a2 = 0 then (true) else (if (fX10_isThing σ (a2 - 1)) = true then (if (fX10_has (fX10_shown σ 0) (a2 - 1)) = true then (if (fX10_canBreak σ 0 (a2 - 1)) = true then (if (fX10_ownerOf σ (a2 - 1)) = a1 then (false) else (true)) else (false)) else (false)) else (false))
set_option maxRecDepth 20000 in
theorem kX10_may (l : Launch) (D : Dm) (a1 : Int32) (a2 : Int32) (σ : Mm) (hM : vp_in (σ.1 34 13) 9) : Ct l yX10_may cX10_may 4 (some .boolean) 3 D [.ref (D.2.1 33), .int a1, .int a2] σ (some (.int (bi (fX10_may σ a1 a2))), σ) := by
  refine ct_of (by decide +kernel) (Nat.le_of_ble_eq_true rfl) (fun X F => ?_)
  have F : Fx X l 4 D cX10_may RX10 3 (some .boolean) := F
  show JJ X 4 D σ 0 [(0, .ref (D.2.1 33)), (1, .int a1), (2, .int a2)] [] (QQ X D (some (.int (bi (fX10_may σ a1 a2))), σ))
  rw [fX10_may]
  refine j_iload_n F dX10_may_0 1 rfl 2 rfl ?_
  refine j_if_ne F dX10_may_1 6 (by decide) 4 rfl (fun c_1 => ?_) (fun c_1 => ?_)
  · rw [if_pos c_1]
    refine j_iconst (v := 1) F dX10_may_4 5 rfl (by decide) ?_
    exact j_ret_b (b := true) F dX10_may_5 rfl rfl rfl
  · rw [if_neg c_1]
    refine j_iload_n F dX10_may_6 7 rfl 2 rfl ?_
    refine j_iconst (v := 1) F dX10_may_7 8 rfl (by decide) ?_
    refine j_isub F dX10_may_8 9 rfl ?_
    refine j_istore_n F dX10_may_9 10 rfl 3 rfl (by decide) [(3, .int (a2 - 1)), (0, .ref (D.2.1 33)), (1, .int a1), (2, .int a2)] rfl ?_
    refine j_aload_n F dX10_may_10 11 rfl 1 rfl ?_
    refine j_iload_n F dX10_may_11 12 rfl 0 rfl ?_
    refine j_callVr (as := [.int (a2 - 1)]) (st := []) (r := .int (bi (fX10_isThing σ (a2 - 1)))) (σ9 := σ) F zX10_isThing dX10_may_12 15 rfl pX10_isThing rfl (by decide) (by decide) (Nat.le_of_ble_eq_true rfl) rfl qX10_128 rfl rfl (by decide) sh33 (kX10_isThing l D (a2 - 1) σ) ?_
    refine j_ifb_eq F dX10_may_15 52 (by decide) 18 rfl (fun c_15 => ?_) (fun c_15 => ?_)
    · rw [if_pos c_15]
      refine j_aload_n F dX10_may_18 19 rfl 1 rfl ?_
      refine j_iconst (v := 0) F dX10_may_19 20 rfl (by decide) ?_
      refine j_callVr (as := [.int (nI 0)]) (st := []) (r := .int (fX10_shown σ 0)) (σ9 := σ) F zX10_shown dX10_may_20 23 rfl pX10_shown rfl (by decide) (by decide) (Nat.le_of_ble_eq_true rfl) rfl qX10_122 rfl rfl (by decide) sh33 (kX10_shown l D 0 σ (by decide)) ?_
      refine j_iload_n F dX10_may_23 24 rfl 0 rfl ?_
      refine j_callSr (as := [.int (fX10_shown σ 0), .int (a2 - 1)]) (st := []) (r := .int (bi (fX10_has (fX10_shown σ 0) (a2 - 1)))) (σ9 := σ) F zX10_has dX10_may_24 27 rfl pX10_has rfl (by decide) (by decide) (Nat.le_of_ble_eq_true rfl) rfl qX10_108 (kX10_has l D (fX10_shown σ 0) (a2 - 1) σ) ?_
      refine j_ifb_eq F dX10_may_27 52 (by decide) 30 rfl (fun c_27 => ?_) (fun c_27 => ?_)
      · rw [if_pos c_27]
        refine j_aload_n F dX10_may_30 31 rfl 1 rfl ?_
        refine j_iconst (v := 0) F dX10_may_31 32 rfl (by decide) ?_
        refine j_iload_n F dX10_may_32 33 rfl 0 rfl ?_
        refine j_callVr (as := [.int (nI 0), .int (a2 - 1)]) (st := []) (r := .int (bi (fX10_canBreak σ 0 (a2 - 1)))) (σ9 := σ) F zX10_canBreak dX10_may_33 36 rfl pX10_canBreak rfl (by decide) (by decide) (Nat.le_of_ble_eq_true rfl) rfl qX10_159 rfl rfl (by decide) sh33 (kX10_canBreak l D 0 (a2 - 1) σ (by decide) (by first | assumption | exact isThing_in (by assumption) (by assumption) | exact vin_mono (by assumption) (by decide) | omega | decide)) ?_
        refine j_ifb_eq F dX10_may_36 52 (by decide) 39 rfl (fun c_36 => ?_) (fun c_36 => ?_)
        · rw [if_pos c_36]
          refine j_aload_n F dX10_may_39 40 rfl 1 rfl ?_
          refine j_iload_n F dX10_may_40 41 rfl 0 rfl ?_
          refine j_callVr (as := [.int (a2 - 1)]) (st := []) (r := .int (fX10_ownerOf σ (a2 - 1))) (σ9 := σ) F zX10_ownerOf dX10_may_41 44 rfl pX10_ownerOf rfl (by decide) (by decide) (Nat.le_of_ble_eq_true rfl) rfl qX10_131 rfl rfl (by decide) sh33 (kX10_ownerOf l D (a2 - 1) σ (by first | assumption | exact isThing_in (by assumption) (by assumption) | exact vin_mono (by assumption) (by decide) | omega | decide)) ?_
          refine j_iload_n F dX10_may_44 45 rfl 2 rfl ?_
          refine j_icmp_eq F dX10_may_45 52 (by decide) 48 rfl (fun c_45 => ?_) (fun c_45 => ?_)
          · rw [if_neg c_45]
            refine j_iconst (v := 1) F dX10_may_48 49 rfl (by decide) ?_
            refine j_goto F dX10_may_49 53 (by decide) ?_
            exact j_ret_b (b := true) F dX10_may_53 rfl rfl rfl
          · rw [if_pos c_45]
            refine j_iconst (v := 0) F dX10_may_52 53 rfl (by decide) ?_
            exact j_ret_b (b := false) F dX10_may_53 rfl rfl rfl
        · rw [if_neg c_36]
          refine j_iconst (v := 0) F dX10_may_52 53 rfl (by decide) ?_
          exact j_ret_b (b := false) F dX10_may_53 rfl rfl rfl
      · rw [if_neg c_27]
        refine j_iconst (v := 0) F dX10_may_52 53 rfl (by decide) ?_
        exact j_ret_b (b := false) F dX10_may_53 rfl rfl rfl
    · rw [if_neg c_15]
      refine j_iconst (v := 0) F dX10_may_52 53 rfl (by decide) ?_
      exact j_ret_b (b := false) F dX10_may_53 rfl rfl rfl
def fX10_price (σ : Mm) (a1 : Int32) : Int32 := if (fX10_isThing σ a1) = true then ((fX10_priceBy σ a1 (fX10_shown σ 0))) else ((-1))
set_option maxRecDepth 20000 in
theorem kX10_price (l : Launch) (D : Dm) (a1 : Int32) (σ : Mm) (hM : vp_in (σ.1 34 13) 9) : Ct l yX10_price cX10_price 2 (some .int) 6 D [.ref (D.2.1 33), .int a1] σ (some (.int (fX10_price σ a1)), σ) := by
  refine ct_of (by decide +kernel) (Nat.le_of_ble_eq_true rfl) (fun X F => ?_)
  have F : Fx X l 2 D cX10_price RX10 6 (some .int) := F
  show JJ X 2 D σ 0 [(0, .ref (D.2.1 33)), (1, .int a1)] [] (QQ X D (some (.int (fX10_price σ a1)), σ))
  rw [fX10_price]
  refine j_aload_n F dX10_price_0 1 rfl 0 rfl ?_
  refine j_iload_n F dX10_price_1 2 rfl 1 rfl ?_
  refine j_callVr (as := [.int a1]) (st := []) (r := .int (bi (fX10_isThing σ a1))) (σ9 := σ) F zX10_isThing dX10_price_2 5 rfl pX10_isThing rfl (by decide) (by decide) (Nat.le_of_ble_eq_true rfl) rfl qX10_128 rfl rfl (by decide) sh33 (kX10_isThing l D a1 σ) ?_
  refine j_ifb_eq F dX10_price_5 21 (by decide) 8 rfl (fun c_5 => ?_) (fun c_5 => ?_)
  · rw [if_pos c_5]
    refine j_aload_n F dX10_price_8 9 rfl 0 rfl ?_
    refine j_iload_n F dX10_price_9 10 rfl 1 rfl ?_
    refine j_aload_n F dX10_price_10 11 rfl 0 rfl ?_
    refine j_iconst (v := 0) F dX10_price_11 12 rfl (by decide) ?_
    refine j_callVr (as := [.int (nI 0)]) (st := [.int a1, .ref (D.2.1 33)]) (r := .int (fX10_shown σ 0)) (σ9 := σ) F zX10_shown dX10_price_12 15 rfl pX10_shown rfl (by decide) (by decide) (Nat.le_of_ble_eq_true rfl) rfl qX10_122 rfl rfl (by decide) sh33 (kX10_shown l D 0 σ (by decide)) ?_
    refine j_callVr (as := [.int a1, .int (fX10_shown σ 0)]) (st := []) (r := .int (fX10_priceBy σ a1 (fX10_shown σ 0))) (σ9 := σ) F zX10_priceBy dX10_price_15 18 rfl pX10_priceBy rfl (by decide) (by decide) (Nat.le_of_ble_eq_true rfl) rfl qX10_146 rfl rfl (by decide) sh33 (kX10_priceBy l D a1 (fX10_shown σ 0) σ (by first | assumption | exact isThing_in (by assumption) (by assumption) | exact vin_mono (by assumption) (by decide) | omega | decide) (by first | assumption | exact isThing_in (by assumption) (by assumption) | exact vin_mono (by assumption) (by decide) | omega | decide)) ?_
    refine j_goto F dX10_price_18 22 (by decide) ?_
    exact j_ret_i F dX10_price_22 rfl rfl rfl
  · rw [if_neg c_5]
    refine j_iconst (v := (-1)) F dX10_price_21 22 rfl (by decide) ?_
    exact j_ret_i F dX10_price_22 rfl rfl rfl
def fX10_thing (σ : Mm) (a1 : Int32) (a2 : Int32) : Int32 := if (fX10_isThing σ a1) = true then (if a2 = 0 then ((fX10_markOf σ a1 a2)) else if a2 = 1 then ((fX10_markOf σ a1 a2)) else if a2 = 2 then ((fX10_markOf σ a1 a2)) else if a2 = 3 then ((fX10_markOf σ a1 a2)) else if a2 = 4 then ((fX10_ownerOf σ a1)) else if a2 = 5 then ((fX10_worthOf σ a1)) else if a2 = 6 then ((fX10_costOf σ a1)) else if a2 = 7 then ((fX10_guardOf σ a1)) else if a2 = 8 then ((((σ.1 34 8) >>> (a1 &&& 31)) &&& 1)) else if a2 = 9 then ((((σ.1 34 9) >>> (a1 &&& 31)) &&& 1)) else if a2 = 10 then ((((σ.1 34 10) >>> (a1 &&& 31)) &&& 1)) else if a2 = 11 then ((((fX10_last σ) >>> (a1 &&& 31)) &&& 1)) else ((-2))) else ((-1))
set_option maxRecDepth 20000 in
theorem kX10_thing (l : Launch) (D : Dm) (a1 : Int32) (a2 : Int32) (σ : Mm) (hM : vp_in (σ.1 34 13) 9) : Ct l yX10_thing cX10_thing 3 (some .int) 7 D [.ref (D.2.1 33), .int a1, .int a2] σ (some (.int (fX10_thing σ a1 a2)), σ) := by
  refine ct_of (by decide +kernel) (Nat.le_of_ble_eq_true rfl) (fun X F => ?_)
  have F : Fx X l 3 D cX10_thing RX10 7 (some .int) := F
  show JJ X 3 D σ 0 [(0, .ref (D.2.1 33)), (1, .int a1), (2, .int a2)] [] (QQ X D (some (.int (fX10_thing σ a1 a2)), σ))
  rw [fX10_thing]
  refine j_aload_n F dX10_thing_0 1 rfl 0 rfl ?_
  refine j_iload_n F dX10_thing_1 2 rfl 1 rfl ?_
  refine j_callVr (as := [.int a1]) (st := []) (r := .int (bi (fX10_isThing σ a1))) (σ9 := σ) F zX10_isThing dX10_thing_2 5 rfl pX10_isThing rfl (by decide) (by decide) (Nat.le_of_ble_eq_true rfl) rfl qX10_128 rfl rfl (by decide) sh33 (kX10_isThing l D a1 σ) ?_
  refine j_ifb_ne F dX10_thing_5 10 (by decide) 8 rfl (fun c_5 => ?_) (fun c_5 => ?_)
  · rw [if_neg c_5]
    refine j_iconst (v := (-1)) F dX10_thing_8 9 rfl (by decide) ?_
    exact j_ret_i F dX10_thing_9 rfl rfl rfl
  · rw [if_pos c_5]
    refine j_iload_n F dX10_thing_10 11 rfl 2 rfl ?_
    refine j_by (a2 = 0) (fun c_11_0 => ?_) (fun c_11_0 => ?_)
    · rw [if_pos c_11_0]
      refine j_tin (z := 0) F dX10_thing_11 c_11_0 (by decide) (by decide) (by decide) rfl 72 (by decide) ?_
      refine j_aload_n F dX10_thing_72 73 rfl 0 rfl ?_
      refine j_iload_n F dX10_thing_73 74 rfl 1 rfl ?_
      refine j_iload_n F dX10_thing_74 75 rfl 2 rfl ?_
      refine j_callVr (as := [.int a1, .int a2]) (st := []) (r := .int (fX10_markOf σ a1 a2)) (σ9 := σ) F zX10_markOf dX10_thing_75 78 rfl pX10_markOf rfl (by decide) (by decide) (Nat.le_of_ble_eq_true rfl) rfl qX10_101 rfl rfl (by decide) sh33 (kX10_markOf l D a1 a2 σ (by first | assumption | exact isThing_in (by assumption) (by assumption) | exact vin_mono (by assumption) (by decide) | omega | decide) (vin_of4 (by first | exact Or.inl (by assumption) | exact Or.inr (Or.inl (by assumption)) | exact Or.inr (Or.inr (Or.inl (by assumption))) | exact Or.inr (Or.inr (Or.inr (by assumption)))))) ?_
      exact j_ret_i F dX10_thing_78 rfl rfl rfl
    · rw [if_neg c_11_0]
      refine j_by (a2 = 1) (fun c_11_1 => ?_) (fun c_11_1 => ?_)
      · rw [if_pos c_11_1]
        refine j_tin (z := 1) F dX10_thing_11 c_11_1 (by decide) (by decide) (by decide) rfl 72 (by decide) ?_
        refine j_aload_n F dX10_thing_72 73 rfl 0 rfl ?_
        refine j_iload_n F dX10_thing_73 74 rfl 1 rfl ?_
        refine j_iload_n F dX10_thing_74 75 rfl 2 rfl ?_
        refine j_callVr (as := [.int a1, .int a2]) (st := []) (r := .int (fX10_markOf σ a1 a2)) (σ9 := σ) F zX10_markOf dX10_thing_75 78 rfl pX10_markOf rfl (by decide) (by decide) (Nat.le_of_ble_eq_true rfl) rfl qX10_101 rfl rfl (by decide) sh33 (kX10_markOf l D a1 a2 σ (by first | assumption | exact isThing_in (by assumption) (by assumption) | exact vin_mono (by assumption) (by decide) | omega | decide) (vin_of4 (by first | exact Or.inl (by assumption) | exact Or.inr (Or.inl (by assumption)) | exact Or.inr (Or.inr (Or.inl (by assumption))) | exact Or.inr (Or.inr (Or.inr (by assumption)))))) ?_
        exact j_ret_i F dX10_thing_78 rfl rfl rfl
      · rw [if_neg c_11_1]
        refine j_by (a2 = 2) (fun c_11_2 => ?_) (fun c_11_2 => ?_)
        · rw [if_pos c_11_2]
          refine j_tin (z := 2) F dX10_thing_11 c_11_2 (by decide) (by decide) (by decide) rfl 72 (by decide) ?_
          refine j_aload_n F dX10_thing_72 73 rfl 0 rfl ?_
          refine j_iload_n F dX10_thing_73 74 rfl 1 rfl ?_
          refine j_iload_n F dX10_thing_74 75 rfl 2 rfl ?_
          refine j_callVr (as := [.int a1, .int a2]) (st := []) (r := .int (fX10_markOf σ a1 a2)) (σ9 := σ) F zX10_markOf dX10_thing_75 78 rfl pX10_markOf rfl (by decide) (by decide) (Nat.le_of_ble_eq_true rfl) rfl qX10_101 rfl rfl (by decide) sh33 (kX10_markOf l D a1 a2 σ (by first | assumption | exact isThing_in (by assumption) (by assumption) | exact vin_mono (by assumption) (by decide) | omega | decide) (vin_of4 (by first | exact Or.inl (by assumption) | exact Or.inr (Or.inl (by assumption)) | exact Or.inr (Or.inr (Or.inl (by assumption))) | exact Or.inr (Or.inr (Or.inr (by assumption)))))) ?_
          exact j_ret_i F dX10_thing_78 rfl rfl rfl
        · rw [if_neg c_11_2]
          refine j_by (a2 = 3) (fun c_11_3 => ?_) (fun c_11_3 => ?_)
          · rw [if_pos c_11_3]
            refine j_tin (z := 3) F dX10_thing_11 c_11_3 (by decide) (by decide) (by decide) rfl 72 (by decide) ?_
            refine j_aload_n F dX10_thing_72 73 rfl 0 rfl ?_
            refine j_iload_n F dX10_thing_73 74 rfl 1 rfl ?_
            refine j_iload_n F dX10_thing_74 75 rfl 2 rfl ?_
            refine j_callVr (as := [.int a1, .int a2]) (st := []) (r := .int (fX10_markOf σ a1 a2)) (σ9 := σ) F zX10_markOf dX10_thing_75 78 rfl pX10_markOf rfl (by decide) (by decide) (Nat.le_of_ble_eq_true rfl) rfl qX10_101 rfl rfl (by decide) sh33 (kX10_markOf l D a1 a2 σ (by first | assumption | exact isThing_in (by assumption) (by assumption) | exact vin_mono (by assumption) (by decide) | omega | decide) (vin_of4 (by first | exact Or.inl (by assumption) | exact Or.inr (Or.inl (by assumption)) | exact Or.inr (Or.inr (Or.inl (by assumption))) | exact Or.inr (Or.inr (Or.inr (by assumption)))))) ?_
            exact j_ret_i F dX10_thing_78 rfl rfl rfl
          · rw [if_neg c_11_3]
            refine j_by (a2 = 4) (fun c_11_4 => ?_) (fun c_11_4 => ?_)
            · rw [if_pos c_11_4]
              refine j_tin (z := 4) F dX10_thing_11 c_11_4 (by decide) (by decide) (by decide) rfl 79 (by decide) ?_
              refine j_aload_n F dX10_thing_79 80 rfl 0 rfl ?_
              refine j_iload_n F dX10_thing_80 81 rfl 1 rfl ?_
              refine j_callVr (as := [.int a1]) (st := []) (r := .int (fX10_ownerOf σ a1)) (σ9 := σ) F zX10_ownerOf dX10_thing_81 84 rfl pX10_ownerOf rfl (by decide) (by decide) (Nat.le_of_ble_eq_true rfl) rfl qX10_131 rfl rfl (by decide) sh33 (kX10_ownerOf l D a1 σ (by first | assumption | exact isThing_in (by assumption) (by assumption) | exact vin_mono (by assumption) (by decide) | omega | decide)) ?_
              exact j_ret_i F dX10_thing_84 rfl rfl rfl
            · rw [if_neg c_11_4]
              refine j_by (a2 = 5) (fun c_11_5 => ?_) (fun c_11_5 => ?_)
              · rw [if_pos c_11_5]
                refine j_tin (z := 5) F dX10_thing_11 c_11_5 (by decide) (by decide) (by decide) rfl 85 (by decide) ?_
                refine j_aload_n F dX10_thing_85 86 rfl 0 rfl ?_
                refine j_iload_n F dX10_thing_86 87 rfl 1 rfl ?_
                refine j_callVr (as := [.int a1]) (st := []) (r := .int (fX10_worthOf σ a1)) (σ9 := σ) F zX10_worthOf dX10_thing_87 90 rfl pX10_worthOf rfl (by decide) (by decide) (Nat.le_of_ble_eq_true rfl) rfl qX10_134 rfl rfl (by decide) sh33 (kX10_worthOf l D a1 σ (by first | assumption | exact isThing_in (by assumption) (by assumption) | exact vin_mono (by assumption) (by decide) | omega | decide)) ?_
                exact j_ret_i F dX10_thing_90 rfl rfl rfl
              · rw [if_neg c_11_5]
                refine j_by (a2 = 6) (fun c_11_6 => ?_) (fun c_11_6 => ?_)
                · rw [if_pos c_11_6]
                  refine j_tin (z := 6) F dX10_thing_11 c_11_6 (by decide) (by decide) (by decide) rfl 91 (by decide) ?_
                  refine j_aload_n F dX10_thing_91 92 rfl 0 rfl ?_
                  refine j_iload_n F dX10_thing_92 93 rfl 1 rfl ?_
                  refine j_callVr (as := [.int a1]) (st := []) (r := .int (fX10_costOf σ a1)) (σ9 := σ) F zX10_costOf dX10_thing_93 96 rfl pX10_costOf rfl (by decide) (by decide) (Nat.le_of_ble_eq_true rfl) rfl qX10_137 rfl rfl (by decide) sh33 (kX10_costOf l D a1 σ (by first | assumption | exact isThing_in (by assumption) (by assumption) | exact vin_mono (by assumption) (by decide) | omega | decide)) ?_
                  exact j_ret_i F dX10_thing_96 rfl rfl rfl
                · rw [if_neg c_11_6]
                  refine j_by (a2 = 7) (fun c_11_7 => ?_) (fun c_11_7 => ?_)
                  · rw [if_pos c_11_7]
                    refine j_tin (z := 7) F dX10_thing_11 c_11_7 (by decide) (by decide) (by decide) rfl 97 (by decide) ?_
                    refine j_aload_n F dX10_thing_97 98 rfl 0 rfl ?_
                    refine j_iload_n F dX10_thing_98 99 rfl 1 rfl ?_
                    refine j_callVr (as := [.int a1]) (st := []) (r := .int (fX10_guardOf σ a1)) (σ9 := σ) F zX10_guardOf dX10_thing_99 102 rfl pX10_guardOf rfl (by decide) (by decide) (Nat.le_of_ble_eq_true rfl) rfl qX10_140 rfl rfl (by decide) sh33 (kX10_guardOf l D a1 σ (by first | assumption | exact isThing_in (by assumption) (by assumption) | exact vin_mono (by assumption) (by decide) | omega | decide)) ?_
                    exact j_ret_i F dX10_thing_102 rfl rfl rfl
                  · rw [if_neg c_11_7]
                    refine j_by (a2 = 8) (fun c_11_8 => ?_) (fun c_11_8 => ?_)
                    · rw [if_pos c_11_8]
                      refine j_tin (z := 8) F dX10_thing_11 c_11_8 (by decide) (by decide) (by decide) rfl 103 (by decide) ?_
                      refine j_aload_n F dX10_thing_103 104 rfl 0 rfl ?_
                      refine j_get (j := 0) F dX10_thing_104 107 rfl inX10 rfl (by decide) sh33 (by decide) qX10_7 rfl ?_
                      refine j_bipush (v := 8) F dX10_thing_107 109 rfl (by decide) ?_
                      refine j_iald_n F dX10_thing_109 110 rfl ia34 8 rfl (by decide) ?_
                      refine j_iload_n F dX10_thing_110 111 rfl 1 rfl ?_
                      refine j_ishr F dX10_thing_111 112 rfl ?_
                      refine j_iconst (v := 1) F dX10_thing_112 113 rfl (by decide) ?_
                      refine j_iand F dX10_thing_113 114 rfl ?_
                      exact j_ret_i F dX10_thing_114 rfl rfl rfl
                    · rw [if_neg c_11_8]
                      refine j_by (a2 = 9) (fun c_11_9 => ?_) (fun c_11_9 => ?_)
                      · rw [if_pos c_11_9]
                        refine j_tin (z := 9) F dX10_thing_11 c_11_9 (by decide) (by decide) (by decide) rfl 115 (by decide) ?_
                        refine j_aload_n F dX10_thing_115 116 rfl 0 rfl ?_
                        refine j_get (j := 0) F dX10_thing_116 119 rfl inX10 rfl (by decide) sh33 (by decide) qX10_7 rfl ?_
                        refine j_bipush (v := 9) F dX10_thing_119 121 rfl (by decide) ?_
                        refine j_iald_n F dX10_thing_121 122 rfl ia34 9 rfl (by decide) ?_
                        refine j_iload_n F dX10_thing_122 123 rfl 1 rfl ?_
                        refine j_ishr F dX10_thing_123 124 rfl ?_
                        refine j_iconst (v := 1) F dX10_thing_124 125 rfl (by decide) ?_
                        refine j_iand F dX10_thing_125 126 rfl ?_
                        exact j_ret_i F dX10_thing_126 rfl rfl rfl
                      · rw [if_neg c_11_9]
                        refine j_by (a2 = 10) (fun c_11_10 => ?_) (fun c_11_10 => ?_)
                        · rw [if_pos c_11_10]
                          refine j_tin (z := 10) F dX10_thing_11 c_11_10 (by decide) (by decide) (by decide) rfl 127 (by decide) ?_
                          refine j_aload_n F dX10_thing_127 128 rfl 0 rfl ?_
                          refine j_get (j := 0) F dX10_thing_128 131 rfl inX10 rfl (by decide) sh33 (by decide) qX10_7 rfl ?_
                          refine j_bipush (v := 10) F dX10_thing_131 133 rfl (by decide) ?_
                          refine j_iald_n F dX10_thing_133 134 rfl ia34 10 rfl (by decide) ?_
                          refine j_iload_n F dX10_thing_134 135 rfl 1 rfl ?_
                          refine j_ishr F dX10_thing_135 136 rfl ?_
                          refine j_iconst (v := 1) F dX10_thing_136 137 rfl (by decide) ?_
                          refine j_iand F dX10_thing_137 138 rfl ?_
                          exact j_ret_i F dX10_thing_138 rfl rfl rfl
                        · rw [if_neg c_11_10]
                          refine j_by (a2 = 11) (fun c_11_11 => ?_) (fun c_11_11 => ?_)
                          · rw [if_pos c_11_11]
                            refine j_tin (z := 11) F dX10_thing_11 c_11_11 (by decide) (by decide) (by decide) rfl 139 (by decide) ?_
                            refine j_aload_n F dX10_thing_139 140 rfl 0 rfl ?_
                            refine j_callVr (as := []) (st := []) (r := .int (fX10_last σ)) (σ9 := σ) F zX10_last dX10_thing_140 143 rfl pX10_last rfl (by decide) (by decide) (Nat.le_of_ble_eq_true rfl) rfl qX10_143 rfl rfl (by decide) sh33 (kX10_last l D σ (by first | assumption | exact isThing_in (by assumption) (by assumption) | exact vin_mono (by assumption) (by decide) | omega | decide)) ?_
                            refine j_iload_n F dX10_thing_143 144 rfl 1 rfl ?_
                            refine j_ishr F dX10_thing_144 145 rfl ?_
                            refine j_iconst (v := 1) F dX10_thing_145 146 rfl (by decide) ?_
                            refine j_iand F dX10_thing_146 147 rfl ?_
                            exact j_ret_i F dX10_thing_147 rfl rfl rfl
                          · rw [if_neg c_11_11]
                            refine j_tout F dX10_thing_11 (by have e0 := lv_neT c_11_0 (show (0 : Int32).toInt = 0 from by decide); have e1 := lv_neT c_11_1 (show (1 : Int32).toInt = 1 from by decide); have e2 := lv_neT c_11_2 (show (2 : Int32).toInt = 2 from by decide); have e3 := lv_neT c_11_3 (show (3 : Int32).toInt = 3 from by decide); have e4 := lv_neT c_11_4 (show (4 : Int32).toInt = 4 from by decide); have e5 := lv_neT c_11_5 (show (5 : Int32).toInt = 5 from by decide); have e6 := lv_neT c_11_6 (show (6 : Int32).toInt = 6 from by decide); have e7 := lv_neT c_11_7 (show (7 : Int32).toInt = 7 from by decide); have e8 := lv_neT c_11_8 (show (8 : Int32).toInt = 8 from by decide); have e9 := lv_neT c_11_9 (show (9 : Int32).toInt = 9 from by decide); have e10 := lv_neT c_11_10 (show (10 : Int32).toInt = 10 from by decide); have e11 := lv_neT c_11_11 (show (11 : Int32).toInt = 11 from by decide); omega) 148 (by decide) ?_
                            refine j_bipush (v := (-2)) F dX10_thing_148 150 rfl (by decide) ?_
                            exact j_ret_i F dX10_thing_150 rfl rfl rfl
def fX10_undo_36   : Nat → Mm → Nat → Int32 × Mm
  | 0, s_36, _ => (0, s_36)
  | n + 1, s_36, k1_36 => if (nI k1_36) < 14 then (fX10_undo_36 n (up s_36 34 k1_36 (s_36.1 36 ((14 * (s_36.1 33 4)) + (nI k1_36)).toNatClampNeg)) (k1_36 + 1)) else (((s_36.1 33 3), s_36))
def fX10_undo (σ : Mm)  : Int32 × Mm := if (σ.1 33 3) = 0 then (((-3), σ)) else (fX10_undo_36 15 (up (up σ 33 3 ((σ.1 33 3) - 1)) 33 4 (rm (((up σ 33 3 ((σ.1 33 3) - 1)).1 33 4) + 15) 16)) 0)
set_option maxRecDepth 20000 in
theorem kX10_undo (l : Launch) (D : Dm)  (σ : Mm) (hx : vp_in (σ.1 33 4) 16) : Ct l yX10_undo cX10_undo 2 (some .int) 1 D [.ref (D.2.1 33)] σ (some (.int (fX10_undo σ).1), (fX10_undo σ).2) := by
  refine ct_of (by decide +kernel) (Nat.le_of_ble_eq_true rfl) (fun X F => ?_)
  have F : Fx X l 2 D cX10_undo RX10 1 (some .int) := F
  show JJ X 2 D σ 0 [(0, .ref (D.2.1 33))] [] (QQ X D (some (.int (fX10_undo σ).1), (fX10_undo σ).2))
  rw [fX10_undo]
  refine j_aload_n F dX10_undo_0 1 rfl 0 rfl ?_
  refine j_get (j := 3) F dX10_undo_1 4 rfl inX10 rfl (by decide) sh33 (by decide) qX10_92 rfl ?_
  refine j_if_ne F dX10_undo_4 10 (by decide) 7 rfl (fun c_4 => ?_) (fun c_4 => ?_)
  · rw [if_pos c_4]
    refine j_bipush (v := (-3)) F dX10_undo_7 9 rfl (by decide) ?_
    exact j_ret_i F dX10_undo_9 rfl rfl rfl
  · rw [if_neg c_4]
    refine j_aload_n F dX10_undo_10 11 rfl 0 rfl ?_
    refine j_dup F dX10_undo_11 12 rfl rfl ?_
    refine j_get (j := 3) F dX10_undo_12 15 rfl inX10 rfl (by decide) sh33 (by decide) qX10_92 rfl ?_
    refine j_iconst (v := 1) F dX10_undo_15 16 rfl (by decide) ?_
    refine j_isub F dX10_undo_16 17 rfl ?_
    refine j_put (j := 3) F dX10_undo_17 20 rfl inX10 tyX10 tyX10_ok nmX10 rfl (by decide) sh33 sh33 (by decide) qX10_92 rfl (tyX10_ok 3 (by decide)) (Nat.le_of_ble_eq_true rfl) ?_
    refine j_aload_n F dX10_undo_20 21 rfl 0 rfl ?_
    refine j_aload_n F dX10_undo_21 22 rfl 0 rfl ?_
    refine j_get (j := 4) F dX10_undo_22 25 rfl inX10 rfl (by decide) sh33 (by decide) qX10_149 rfl ?_
    refine j_bipush (v := 15) F dX10_undo_25 27 rfl (by decide) ?_
    refine j_iadd F dX10_undo_27 28 rfl ?_
    refine j_bipush (v := 16) F dX10_undo_28 30 rfl (by decide) ?_
    refine j_irem F dX10_undo_30 31 rfl (by decide) ?_
    refine j_put (j := 4) F dX10_undo_31 34 rfl inX10 tyX10 tyX10_ok nmX10 rfl (by decide) sh33 sh33 (by decide) qX10_149 rfl (tyX10_ok 4 (by decide)) (Nat.le_of_ble_eq_true rfl) ?_
    refine j_iconst (v := 0) F dX10_undo_34 35 rfl (by decide) ?_
    refine j_istore_n F dX10_undo_35 36 rfl 1 rfl (by decide) [(1, .int 0), (0, .ref (D.2.1 33))] rfl ?_
    have lp_36 : ∀ (n_36 : Nat) (s_36 : Mm) (k1_36 : Nat), k1_36 ≤ 14 → 14 < k1_36 + n_36 → s_36.1 33 4 = rm (σ.1 33 4 + 15) 16 → JJ X 2 D s_36 36 [(0, .ref (D.2.1 33)), (1, .int (nI k1_36))] [] (QQ X D (some (.int (fX10_undo_36 n_36 s_36 k1_36).1), (fX10_undo_36 n_36 s_36 k1_36).2)) := by
      intro n_36
      induction n_36 with
      | zero => intro s_36 k1_36 hk_36 hn_36 hi_36; exact absurd hn_36 (by omega)
      | succ n_36 ih_36 =>
        intro s_36 k1_36 hk_36 hn_36 hi_36
        rw [fX10_undo_36]
        refine j_iload_n F dX10_undo_36 37 rfl 1 rfl ?_
        refine j_bipush (v := 14) F dX10_undo_37 39 rfl (by decide) ?_
        refine j_icmp_ge F dX10_undo_39 68 (by decide) 42 rfl (fun c_39 => ?_) (fun c_39 => ?_)
        · rw [if_pos c_39]
          have h_39 : k1_36 < 14 := nlt c_39 (by decide) (by omega)
          refine j_aload_n F dX10_undo_42 43 rfl 0 rfl ?_
          refine j_get (j := 0) F dX10_undo_43 46 rfl inX10 rfl (by decide) sh33 (by decide) qX10_7 rfl ?_
          refine j_iload_n F dX10_undo_46 47 rfl 1 rfl ?_
          refine j_aload_n F dX10_undo_47 48 rfl 0 rfl ?_
          refine j_get (j := 5) F dX10_undo_48 51 rfl inX10 rfl (by decide) sh33 (by decide) qX10_16 rfl ?_
          refine j_bipush (v := 14) F dX10_undo_51 53 rfl (by decide) ?_
          refine j_aload_n F dX10_undo_53 54 rfl 0 rfl ?_
          refine j_get (j := 4) F dX10_undo_54 57 rfl inX10 rfl (by decide) sh33 (by decide) qX10_149 rfl ?_
          refine j_imul F dX10_undo_57 58 rfl ?_
          refine j_iload_n F dX10_undo_58 59 rfl 1 rfl ?_
          refine j_iadd F dX10_undo_59 60 rfl ?_
          refine j_iald F dX10_undo_60 61 rfl ia36 (by rw [hi_36]; exact vin_row (vin_rm15 hx) (by omega)) ?_
          refine j_iast_n F dX10_undo_61 62 rfl ia34 k1_36 rfl (by omega) ?_
          refine j_iinc F dX10_undo_62 65 rfl 1 rfl (nI (k1_36 + 1)) (nI_inc k1_36) (by decide) [(1, .int (nI (k1_36 + 1))), (0, .ref (D.2.1 33))] rfl ?_
          refine j_goto F dX10_undo_65 36 (by decide) ?_
          refine j_pick [1, 0] [(0, .ref (D.2.1 33)), (1, .int (nI (k1_36 + 1)))] rfl ?_
          exact ih_36 (up s_36 34 k1_36 (s_36.1 36 ((14 * (s_36.1 33 4)) + (nI k1_36)).toNatClampNeg)) (k1_36 + 1) (by omega) (by omega) (by exact hi_36)
        · rw [if_neg c_39]
          refine j_aload_n F dX10_undo_68 69 rfl 0 rfl ?_
          refine j_get (j := 3) F dX10_undo_69 72 rfl inX10 rfl (by decide) sh33 (by decide) qX10_92 rfl ?_
          exact j_ret_i F dX10_undo_72 rfl rfl rfl
    refine j_pick [1, 0] [(0, .ref (D.2.1 33)), (1, .int 0)] rfl ?_
    exact lp_36 15 (up (up σ 33 3 ((σ.1 33 3) - 1)) 33 4 (rm (((up σ 33 3 ((σ.1 33 3) - 1)).1 33 4) + 15) 16)) 0 (by omega) (by omega) rfl
