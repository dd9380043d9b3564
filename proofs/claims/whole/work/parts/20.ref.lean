def fX10_in  (a1 : Int64) (a2 : Int64) (a3 : Int64) : Bool := if a2 ≤ a1 then (if a1 ≤ a3 then (true) else (false)) else (false)
set_option maxRecDepth 20000 in
theorem kX10_in (l : Launch) (D : Dm) (a1 : Int64) (a2 : Int64) (a3 : Int64) (σ : Mm)  : Ct l yX10_in cX10_in 6 (some .boolean) 1 D [.long a1, .long a2, .long a3] σ (some (.int (bi (fX10_in a1 a2 a3))), σ) := by
  refine ct_of (by decide +kernel) (Nat.le_of_ble_eq_true rfl) (fun X F => ?_)
  have F : Fx X l 6 D cX10_in RX10 1 (some .boolean) := F
  show JJ X 6 D σ 0 [(0, .long a1), (2, .long a2), (4, .long a3)] [] (QQ X D (some (.int (bi (fX10_in a1 a2 a3))), σ))
  rw [fX10_in]
  refine j_lload_n F dX10_in_0 1 rfl 0 rfl ?_
  refine j_lload_n F dX10_in_1 2 rfl 1 rfl ?_
  refine j_lcmp F dX10_in_2 3 rfl ?_
  refine j_ifl_lt F dX10_in_3 17 (by decide) 6 rfl (fun c_3 => ?_) (fun c_3 => ?_)
  · rw [if_pos c_3]
    refine j_lload_n F dX10_in_6 7 rfl 0 rfl ?_
    refine j_lload F dX10_in_7 9 rfl 2 rfl ?_
    refine j_lcmp F dX10_in_9 10 rfl ?_
    refine j_ifl_gt F dX10_in_10 17 (by decide) 13 rfl (fun c_10 => ?_) (fun c_10 => ?_)
    · rw [if_pos c_10]
      refine j_iconst (v := 1) F dX10_in_13 14 rfl (by decide) ?_
      refine j_goto F dX10_in_14 18 (by decide) ?_
      exact j_ret_b (b := true) F dX10_in_18 rfl rfl rfl
    · rw [if_neg c_10]
      refine j_iconst (v := 0) F dX10_in_17 18 rfl (by decide) ?_
      exact j_ret_b (b := false) F dX10_in_18 rfl rfl rfl
  · rw [if_neg c_3]
    refine j_iconst (v := 0) F dX10_in_17 18 rfl (by decide) ?_
    exact j_ret_b (b := false) F dX10_in_18 rfl rfl rfl
def fX10_many (σ : Mm)  : Int32 := (σ.1 34 13)
set_option maxRecDepth 20000 in
theorem kX10_many (l : Launch) (D : Dm)  (σ : Mm)  : Ct l yX10_many cX10_many 1 (some .int) 1 D [.ref (D.2.1 33)] σ (some (.int (σ.1 34 13)), σ) := by
  refine ct_of (by decide +kernel) (Nat.le_of_ble_eq_true rfl) (fun X F => ?_)
  have F : Fx X l 1 D cX10_many RX10 1 (some .int) := F
  show JJ X 1 D σ 0 [(0, .ref (D.2.1 33))] [] (QQ X D (some (.int (σ.1 34 13)), σ))
  refine j_aload_n F dX10_many_0 1 rfl 0 rfl ?_
  refine j_get (j := 0) F dX10_many_1 4 rfl inX10 rfl (by decide) sh33 (by decide) qX10_7 rfl ?_
  refine j_bipush (v := 13) F dX10_many_4 6 rfl (by decide) ?_
  refine j_iald_n F dX10_many_6 7 rfl ia34 13 rfl (by decide) ?_
  exact j_ret_i F dX10_many_7 rfl rfl rfl
def fX10_has  (a1 : Int32) (a2 : Int32) : Bool := if ((a1 >>> (a2 &&& 31)) &&& 1) = 1 then (true) else (false)
set_option maxRecDepth 20000 in
theorem kX10_has (l : Launch) (D : Dm) (a1 : Int32) (a2 : Int32) (σ : Mm)  : Ct l yX10_has cX10_has 2 (some .boolean) 1 D [.int a1, .int a2] σ (some (.int (bi (fX10_has a1 a2))), σ) := by
  refine ct_of (by decide +kernel) (Nat.le_of_ble_eq_true rfl) (fun X F => ?_)
  have F : Fx X l 2 D cX10_has RX10 1 (some .boolean) := F
  show JJ X 2 D σ 0 [(0, .int a1), (1, .int a2)] [] (QQ X D (some (.int (bi (fX10_has a1 a2))), σ))
  rw [fX10_has]
  refine j_iload_n F dX10_has_0 1 rfl 0 rfl ?_
  refine j_iload_n F dX10_has_1 2 rfl 1 rfl ?_
  refine j_ishr F dX10_has_2 3 rfl ?_
  refine j_iconst (v := 1) F dX10_has_3 4 rfl (by decide) ?_
  refine j_iand F dX10_has_4 5 rfl ?_
  refine j_iconst (v := 1) F dX10_has_5 6 rfl (by decide) ?_
  refine j_icmp_ne F dX10_has_6 13 (by decide) 9 rfl (fun c_6 => ?_) (fun c_6 => ?_)
  · rw [if_pos c_6]
    refine j_iconst (v := 1) F dX10_has_9 10 rfl (by decide) ?_
    refine j_goto F dX10_has_10 14 (by decide) ?_
    exact j_ret_b (b := true) F dX10_has_14 rfl rfl rfl
  · rw [if_neg c_6]
    refine j_iconst (v := 0) F dX10_has_13 14 rfl (by decide) ?_
    exact j_ret_b (b := false) F dX10_has_14 rfl rfl rfl
def fX10_ones_4 (a1 : Int32)  : Nat → Int32 → Nat → Int32
  | 0, _, _ => 0
  | n + 1, x1_4, k2_4 => if (nI k2_4) < 8 then (fX10_ones_4 a1 n (x1_4 + ((a1 >>> ((nI k2_4) &&& 31)) &&& 1)) (k2_4 + 1)) else (x1_4)
def fX10_ones  (a1 : Int32) : Int32 := fX10_ones_4 a1 9 0 0
set_option maxRecDepth 20000 in
theorem kX10_ones (l : Launch) (D : Dm) (a1 : Int32) (σ : Mm)  : Ct l yX10_ones cX10_ones 3 (some .int) 1 D [.int a1] σ (some (.int (fX10_ones a1)), σ) := by
  refine ct_of (by decide +kernel) (Nat.le_of_ble_eq_true rfl) (fun X F => ?_)
  have F : Fx X l 3 D cX10_ones RX10 1 (some .int) := F
  show JJ X 3 D σ 0 [(0, .int a1)] [] (QQ X D (some (.int (fX10_ones a1)), σ))
  rw [fX10_ones]
  refine j_iconst (v := 0) F dX10_ones_0 1 rfl (by decide) ?_
  refine j_istore_n F dX10_ones_1 2 rfl 1 rfl (by decide) [(1, .int 0), (0, .int a1)] rfl ?_
  refine j_iconst (v := 0) F dX10_ones_2 3 rfl (by decide) ?_
  refine j_istore_n F dX10_ones_3 4 rfl 2 rfl (by decide) [(2, .int 0), (1, .int 0), (0, .int a1)] rfl ?_
  have lp_4 : ∀ (n_4 : Nat) (x1_4 : Int32) (k2_4 : Nat), k2_4 ≤ 8 → 8 < k2_4 + n_4 → JJ X 3 D σ 4 [(0, .int a1), (1, .int x1_4), (2, .int (nI k2_4))] [] (QQ X D (some (.int (fX10_ones_4 a1 n_4 x1_4 k2_4)), σ)) := by
    intro n_4
    induction n_4 with
    | zero => intro x1_4 k2_4 hk_4 hn_4; exact absurd hn_4 (by omega)
    | succ n_4 ih_4 =>
      intro x1_4 k2_4 hk_4 hn_4
      rw [fX10_ones_4]
      refine j_iload_n F dX10_ones_4 5 rfl 2 rfl ?_
      refine j_bipush (v := 8) F dX10_ones_5 7 rfl (by decide) ?_
      refine j_icmp_ge F dX10_ones_7 24 (by decide) 10 rfl (fun c_7 => ?_) (fun c_7 => ?_)
      · rw [if_pos c_7]
        have h_7 : k2_4 < 8 := nlt c_7 (by decide) (by omega)
        refine j_iload_n F dX10_ones_10 11 rfl 1 rfl ?_
        refine j_iload_n F dX10_ones_11 12 rfl 0 rfl ?_
        refine j_iload_n F dX10_ones_12 13 rfl 2 rfl ?_
        refine j_ishr F dX10_ones_13 14 rfl ?_
        refine j_iconst (v := 1) F dX10_ones_14 15 rfl (by decide) ?_
        refine j_iand F dX10_ones_15 16 rfl ?_
        refine j_iadd F dX10_ones_16 17 rfl ?_
        refine j_istore_n F dX10_ones_17 18 rfl 1 rfl (by decide) [(1, .int (x1_4 + ((a1 >>> ((nI k2_4) &&& 31)) &&& 1))), (0, .int a1), (2, .int (nI k2_4))] rfl ?_
        refine j_iinc F dX10_ones_18 21 rfl 2 rfl (nI (k2_4 + 1)) (nI_inc k2_4) (by decide) [(2, .int (nI (k2_4 + 1))), (1, .int (x1_4 + ((a1 >>> ((nI k2_4) &&& 31)) &&& 1))), (0, .int a1)] rfl ?_
        refine j_goto F dX10_ones_21 4 (by decide) ?_
        refine j_pick [2, 1, 0] [(0, .int a1), (1, .int (x1_4 + ((a1 >>> ((nI k2_4) &&& 31)) &&& 1))), (2, .int (nI (k2_4 + 1)))] rfl ?_
        exact ih_4 (x1_4 + ((a1 >>> ((nI k2_4) &&& 31)) &&& 1)) (k2_4 + 1) (by omega) (by omega)
      · rw [if_neg c_7]
        refine j_iload_n F dX10_ones_24 25 rfl 1 rfl ?_
        exact j_ret_i F dX10_ones_25 rfl rfl rfl
  refine j_pick [2, 1, 0] [(0, .int a1), (1, .int 0), (2, .int 0)] rfl ?_
  exact lp_4 9 0 0 (by omega) (by omega)
def fX10_marksOf (σ : Mm) (a1 : Int32) : Int32 := ((σ.1 34 a1.toNatClampNeg) / 600)
set_option maxRecDepth 20000 in
theorem kX10_marksOf (l : Launch) (D : Dm) (a1 : Int32) (σ : Mm) (hv1 : vp_in a1 8) : Ct l yX10_marksOf cX10_marksOf 2 (some .int) 1 D [.ref (D.2.1 33), .int a1] σ (some (.int (fX10_marksOf σ a1)), σ) := by
  refine ct_of (by decide +kernel) (Nat.le_of_ble_eq_true rfl) (fun X F => ?_)
  have F : Fx X l 2 D cX10_marksOf RX10 1 (some .int) := F
  show JJ X 2 D σ 0 [(0, .ref (D.2.1 33)), (1, .int a1)] [] (QQ X D (some (.int (fX10_marksOf σ a1)), σ))
  rw [fX10_marksOf]
  refine j_aload_n F dX10_marksOf_0 1 rfl 0 rfl ?_
  refine j_get (j := 0) F dX10_marksOf_1 4 rfl inX10 rfl (by decide) sh33 (by decide) qX10_7 rfl ?_
  refine j_iload_n F dX10_marksOf_4 5 rfl 1 rfl ?_
  refine j_iald F dX10_marksOf_5 6 rfl ia34 (by first | assumption | exact vin_c (by assumption) (by assumption) (by decide) | exact vin_d (by assumption) (by assumption) (by decide) | exact vin_k (by assumption) (by assumption) (by decide) | exact vin_mono (by assumption) (by decide) | exact vin_mono (isThing_in (by assumption) (by assumption)) (by decide)) ?_
  refine j_sipush (v := 600) F dX10_marksOf_6 9 rfl (by decide) ?_
  refine j_idiv F dX10_marksOf_9 10 rfl (by decide) ?_
  exact j_ret_i F dX10_marksOf_10 rfl rfl rfl
def mX10_tenTo_4 (a1 : Int32)  : Nat := (a1 : Int32).toNatClampNeg
def fX10_tenTo_4 (a1 : Int32)  : Nat → Int32 → Nat → Int32
  | 0, _, _ => 0
  | n + 1, x1_4, k2_4 => if (nI k2_4) < a1 then (fX10_tenTo_4 a1 n (x1_4 * 10) (k2_4 + 1)) else (x1_4)
def fX10_tenTo  (a1 : Int32) : Int32 := fX10_tenTo_4 a1 (mX10_tenTo_4 a1 + 1) 1 0
set_option maxRecDepth 20000 in
theorem kX10_tenTo (l : Launch) (D : Dm) (a1 : Int32) (σ : Mm)  : Ct l yX10_tenTo cX10_tenTo 3 (some .int) 1 D [.int a1] σ (some (.int (fX10_tenTo a1)), σ) := by
  refine ct_of (by decide +kernel) (Nat.le_of_ble_eq_true rfl) (fun X F => ?_)
  have F : Fx X l 3 D cX10_tenTo RX10 1 (some .int) := F
  show JJ X 3 D σ 0 [(0, .int a1)] [] (QQ X D (some (.int (fX10_tenTo a1)), σ))
  rw [fX10_tenTo]
  refine j_iconst (v := 1) F dX10_tenTo_0 1 rfl (by decide) ?_
  refine j_istore_n F dX10_tenTo_1 2 rfl 1 rfl (by decide) [(1, .int 1), (0, .int a1)] rfl ?_
  refine j_iconst (v := 0) F dX10_tenTo_2 3 rfl (by decide) ?_
  refine j_istore_n F dX10_tenTo_3 4 rfl 2 rfl (by decide) [(2, .int 0), (1, .int 1), (0, .int a1)] rfl ?_
  have lp_4 : ∀ (n_4 : Nat) (x1_4 : Int32) (k2_4 : Nat), k2_4 ≤ ((a1 : Int32).toNatClampNeg) → ((a1 : Int32).toNatClampNeg) < k2_4 + n_4 → JJ X 3 D σ 4 [(0, .int a1), (1, .int x1_4), (2, .int (nI k2_4))] [] (QQ X D (some (.int (fX10_tenTo_4 a1 n_4 x1_4 k2_4)), σ)) := by
    intro n_4
    induction n_4 with
    | zero => intro x1_4 k2_4 hk_4 hn_4; exact absurd hn_4 (by omega)
    | succ n_4 ih_4 =>
      intro x1_4 k2_4 hk_4 hn_4
      rw [fX10_tenTo_4]
      refine j_iload_n F dX10_tenTo_4 5 rfl 2 rfl ?_
      refine j_iload_n F dX10_tenTo_5 6 rfl 0 rfl ?_
      refine j_icmp_ge F dX10_tenTo_6 20 (by decide) 9 rfl (fun c_6 => ?_) (fun c_6 => ?_)
      · rw [if_pos c_6]
        have h_6 : k2_4 < ((a1 : Int32).toNatClampNeg) := nltd c_6 hk_4
        refine j_iload_n F dX10_tenTo_9 10 rfl 1 rfl ?_
        refine j_bipush (v := 10) F dX10_tenTo_10 12 rfl (by decide) ?_
        refine j_imul F dX10_tenTo_12 13 rfl ?_
        refine j_istore_n F dX10_tenTo_13 14 rfl 1 rfl (by decide) [(1, .int (x1_4 * 10)), (0, .int a1), (2, .int (nI k2_4))] rfl ?_
        refine j_iinc F dX10_tenTo_14 17 rfl 2 rfl (nI (k2_4 + 1)) (nI_inc k2_4) (by decide) [(2, .int (nI (k2_4 + 1))), (1, .int (x1_4 * 10)), (0, .int a1)] rfl ?_
        refine j_goto F dX10_tenTo_17 4 (by decide) ?_
        refine j_pick [2, 1, 0] [(0, .int a1), (1, .int (x1_4 * 10)), (2, .int (nI (k2_4 + 1)))] rfl ?_
        exact ih_4 (x1_4 * 10) (k2_4 + 1) (by omega) (by omega)
      · rw [if_neg c_6]
        refine j_iload_n F dX10_tenTo_20 21 rfl 1 rfl ?_
        exact j_ret_i F dX10_tenTo_21 rfl rfl rfl
  refine j_pick [2, 1, 0] [(0, .int a1), (1, .int 1), (2, .int 0)] rfl ?_
  exact lp_4 (mX10_tenTo_4 a1 + 1) 1 0 (Nat.zero_le _) (by show ((a1 : Int32).toNatClampNeg) < 0 + (((a1 : Int32).toNatClampNeg) + 1); omega)
def fX10_isThing (σ : Mm) (a1 : Int32) : Bool := (fX10_in (a1.toInt64) 0 (((σ.1 34 13) - 1).toInt64))
set_option maxRecDepth 20000 in
theorem kX10_isThing (l : Launch) (D : Dm) (a1 : Int32) (σ : Mm)  : Ct l yX10_isThing cX10_isThing 2 (some .boolean) 2 D [.ref (D.2.1 33), .int a1] σ (some (.int (bi (fX10_isThing σ a1))), σ) := by
  refine ct_of (by decide +kernel) (Nat.le_of_ble_eq_true rfl) (fun X F => ?_)
  have F : Fx X l 2 D cX10_isThing RX10 2 (some .boolean) := F
  show JJ X 2 D σ 0 [(0, .ref (D.2.1 33)), (1, .int a1)] [] (QQ X D (some (.int (bi (fX10_isThing σ a1))), σ))
  rw [fX10_isThing]
  refine j_iload_n F dX10_isThing_0 1 rfl 1 rfl ?_
  refine j_i2l F dX10_isThing_1 2 rfl ?_
  refine j_lconst (v := 0) F dX10_isThing_2 3 rfl (by decide) ?_
  refine j_aload_n F dX10_isThing_3 4 rfl 0 rfl ?_
  refine j_get (j := 0) F dX10_isThing_4 7 rfl inX10 rfl (by decide) sh33 (by decide) qX10_7 rfl ?_
  refine j_bipush (v := 13) F dX10_isThing_7 9 rfl (by decide) ?_
  refine j_iald_n F dX10_isThing_9 10 rfl ia34 13 rfl (by decide) ?_
  refine j_iconst (v := 1) F dX10_isThing_10 11 rfl (by decide) ?_
  refine j_isub F dX10_isThing_11 12 rfl ?_
  refine j_i2l F dX10_isThing_12 13 rfl ?_
  refine j_callSr (as := [.long (a1.toInt64), .long 0, .long (((σ.1 34 13) - 1).toInt64)]) (st := []) (r := .int (bi (fX10_in (a1.toInt64) 0 (((σ.1 34 13) - 1).toInt64)))) (σ9 := σ) F zX10_in dX10_isThing_13 16 rfl pX10_in rfl (by decide) (by decide) (Nat.le_of_ble_eq_true rfl) rfl qX10_58 (kX10_in l D (a1.toInt64) 0 (((σ.1 34 13) - 1).toInt64) σ) ?_
  exact j_ret_b (b := (fX10_in (a1.toInt64) 0 (((σ.1 34 13) - 1).toInt64))) F dX10_isThing_16 rfl rfl rfl
def fX10_apart  (a1 : Int32) (a2 : Int32) : Int32 := if a1 < a2 then ((a2 - a1)) else ((a1 - a2))
set_option maxRecDepth 20000 in
theorem kX10_apart (l : Launch) (D : Dm) (a1 : Int32) (a2 : Int32) (σ : Mm)  : Ct l yX10_apart cX10_apart 2 (some .int) 1 D [.int a1, .int a2] σ (some (.int (fX10_apart a1 a2)), σ) := by
  refine ct_of (by decide +kernel) (Nat.le_of_ble_eq_true rfl) (fun X F => ?_)
  have F : Fx X l 2 D cX10_apart RX10 1 (some .int) := F
  show JJ X 2 D σ 0 [(0, .int a1), (1, .int a2)] [] (QQ X D (some (.int (fX10_apart a1 a2)), σ))
  rw [fX10_apart]
  refine j_iload_n F dX10_apart_0 1 rfl 0 rfl ?_
  refine j_iload_n F dX10_apart_1 2 rfl 1 rfl ?_
  refine j_icmp_ge F dX10_apart_2 11 (by decide) 5 rfl (fun c_2 => ?_) (fun c_2 => ?_)
  · rw [if_pos c_2]
    refine j_iload_n F dX10_apart_5 6 rfl 1 rfl ?_
    refine j_iload_n F dX10_apart_6 7 rfl 0 rfl ?_
    refine j_isub F dX10_apart_7 8 rfl ?_
    refine j_goto F dX10_apart_8 14 (by decide) ?_
    exact j_ret_i F dX10_apart_14 rfl rfl rfl
  · rw [if_neg c_2]
    refine j_iload_n F dX10_apart_11 12 rfl 0 rfl ?_
    refine j_iload_n F dX10_apart_12 13 rfl 1 rfl ?_
    refine j_isub F dX10_apart_13 14 rfl ?_
    exact j_ret_i F dX10_apart_14 rfl rfl rfl
def fX10_guardOf (σ : Mm) (a1 : Int32) : Int32 := (rm (σ.1 34 a1.toNatClampNeg) 2)
set_option maxRecDepth 20000 in
theorem kX10_guardOf (l : Launch) (D : Dm) (a1 : Int32) (σ : Mm) (hv1 : vp_in a1 8) : Ct l yX10_guardOf cX10_guardOf 2 (some .int) 1 D [.ref (D.2.1 33), .int a1] σ (some (.int (fX10_guardOf σ a1)), σ) := by
  refine ct_of (by decide +kernel) (Nat.le_of_ble_eq_true rfl) (fun X F => ?_)
  have F : Fx X l 2 D cX10_guardOf RX10 1 (some .int) := F
  show JJ X 2 D σ 0 [(0, .ref (D.2.1 33)), (1, .int a1)] [] (QQ X D (some (.int (fX10_guardOf σ a1)), σ))
  rw [fX10_guardOf]
  refine j_aload_n F dX10_guardOf_0 1 rfl 0 rfl ?_
  refine j_get (j := 0) F dX10_guardOf_1 4 rfl inX10 rfl (by decide) sh33 (by decide) qX10_7 rfl ?_
  refine j_iload_n F dX10_guardOf_4 5 rfl 1 rfl ?_
  refine j_iald F dX10_guardOf_5 6 rfl ia34 (by first | assumption | exact vin_c (by assumption) (by assumption) (by decide) | exact vin_d (by assumption) (by assumption) (by decide) | exact vin_k (by assumption) (by assumption) (by decide) | exact vin_mono (by assumption) (by decide) | exact vin_mono (isThing_in (by assumption) (by assumption)) (by decide)) ?_
  refine j_iconst (v := 2) F dX10_guardOf_6 7 rfl (by decide) ?_
  refine j_irem F dX10_guardOf_7 8 rfl (by decide) ?_
  exact j_ret_i F dX10_guardOf_8 rfl rfl rfl
def fX10_costOf (σ : Mm) (a1 : Int32) : Int32 := (rm ((σ.1 34 a1.toNatClampNeg) / 2) 10)
set_option maxRecDepth 20000 in
theorem kX10_costOf (l : Launch) (D : Dm) (a1 : Int32) (σ : Mm) (hv1 : vp_in a1 8) : Ct l yX10_costOf cX10_costOf 2 (some .int) 1 D [.ref (D.2.1 33), .int a1] σ (some (.int (fX10_costOf σ a1)), σ) := by
  refine ct_of (by decide +kernel) (Nat.le_of_ble_eq_true rfl) (fun X F => ?_)
  have F : Fx X l 2 D cX10_costOf RX10 1 (some .int) := F
  show JJ X 2 D σ 0 [(0, .ref (D.2.1 33)), (1, .int a1)] [] (QQ X D (some (.int (fX10_costOf σ a1)), σ))
  rw [fX10_costOf]
  refine j_aload_n F dX10_costOf_0 1 rfl 0 rfl ?_
  refine j_get (j := 0) F dX10_costOf_1 4 rfl inX10 rfl (by decide) sh33 (by decide) qX10_7 rfl ?_
  refine j_iload_n F dX10_costOf_4 5 rfl 1 rfl ?_
  refine j_iald F dX10_costOf_5 6 rfl ia34 (by first | assumption | exact vin_c (by assumption) (by assumption) (by decide) | exact vin_d (by assumption) (by assumption) (by decide) | exact vin_k (by assumption) (by assumption) (by decide) | exact vin_mono (by assumption) (by decide) | exact vin_mono (isThing_in (by assumption) (by assumption)) (by decide)) ?_
  refine j_iconst (v := 2) F dX10_costOf_6 7 rfl (by decide) ?_
  refine j_idiv F dX10_costOf_7 8 rfl (by decide) ?_
  refine j_bipush (v := 10) F dX10_costOf_8 10 rfl (by decide) ?_
  refine j_irem F dX10_costOf_10 11 rfl (by decide) ?_
  exact j_ret_i F dX10_costOf_11 rfl rfl rfl
def fX10_worthOf (σ : Mm) (a1 : Int32) : Int32 := (rm ((σ.1 34 a1.toNatClampNeg) / 20) 10)
set_option maxRecDepth 20000 in
theorem kX10_worthOf (l : Launch) (D : Dm) (a1 : Int32) (σ : Mm) (hv1 : vp_in a1 8) : Ct l yX10_worthOf cX10_worthOf 2 (some .int) 1 D [.ref (D.2.1 33), .int a1] σ (some (.int (fX10_worthOf σ a1)), σ) := by
  refine ct_of (by decide +kernel) (Nat.le_of_ble_eq_true rfl) (fun X F => ?_)
  have F : Fx X l 2 D cX10_worthOf RX10 1 (some .int) := F
  show JJ X 2 D σ 0 [(0, .ref (D.2.1 33)), (1, .int a1)] [] (QQ X D (some (.int (fX10_worthOf σ a1)), σ))
  rw [fX10_worthOf]
  refine j_aload_n F dX10_worthOf_0 1 rfl 0 rfl ?_
  refine j_get (j := 0) F dX10_worthOf_1 4 rfl inX10 rfl (by decide) sh33 (by decide) qX10_7 rfl ?_
  refine j_iload_n F dX10_worthOf_4 5 rfl 1 rfl ?_
  refine j_iald F dX10_worthOf_5 6 rfl ia34 (by first | assumption | exact vin_c (by assumption) (by assumption) (by decide) | exact vin_d (by assumption) (by assumption) (by decide) | exact vin_k (by assumption) (by assumption) (by decide) | exact vin_mono (by assumption) (by decide) | exact vin_mono (isThing_in (by assumption) (by assumption)) (by decide)) ?_
  refine j_bipush (v := 20) F dX10_worthOf_6 8 rfl (by decide) ?_
  refine j_idiv F dX10_worthOf_8 9 rfl (by decide) ?_
  refine j_bipush (v := 10) F dX10_worthOf_9 11 rfl (by decide) ?_
  refine j_irem F dX10_worthOf_11 12 rfl (by decide) ?_
  exact j_ret_i F dX10_worthOf_12 rfl rfl rfl
def fX10_code  (a1 : Int32) (a2 : Int32) (a3 : Int32) (a4 : Int32) (a5 : Int32) : Int32 := ((((((((a1 * 3) + a2) * 10) + a3) * 10) + a4) * 2) + a5)
set_option maxRecDepth 20000 in
theorem kX10_code (l : Launch) (D : Dm) (a1 : Int32) (a2 : Int32) (a3 : Int32) (a4 : Int32) (a5 : Int32) (σ : Mm)  : Ct l yX10_code cX10_code 5 (some .int) 1 D [.int a1, .int a2, .int a3, .int a4, .int a5] σ (some (.int (fX10_code a1 a2 a3 a4 a5)), σ) := by
  refine ct_of (by decide +kernel) (Nat.le_of_ble_eq_true rfl) (fun X F => ?_)
  have F : Fx X l 5 D cX10_code RX10 1 (some .int) := F
  show JJ X 5 D σ 0 [(0, .int a1), (1, .int a2), (2, .int a3), (3, .int a4), (4, .int a5)] [] (QQ X D (some (.int (fX10_code a1 a2 a3 a4 a5)), σ))
  rw [fX10_code]
  refine j_iload_n F dX10_code_0 1 rfl 0 rfl ?_
  refine j_iconst (v := 3) F dX10_code_1 2 rfl (by decide) ?_
  refine j_imul F dX10_code_2 3 rfl ?_
  refine j_iload_n F dX10_code_3 4 rfl 1 rfl ?_
  refine j_iadd F dX10_code_4 5 rfl ?_
  refine j_bipush (v := 10) F dX10_code_5 7 rfl (by decide) ?_
  refine j_imul F dX10_code_7 8 rfl ?_
  refine j_iload_n F dX10_code_8 9 rfl 2 rfl ?_
  refine j_iadd F dX10_code_9 10 rfl ?_
  refine j_bipush (v := 10) F dX10_code_10 12 rfl (by decide) ?_
  refine j_imul F dX10_code_12 13 rfl ?_
  refine j_iload_n F dX10_code_13 14 rfl 3 rfl ?_
  refine j_iadd F dX10_code_14 15 rfl ?_
  refine j_iconst (v := 2) F dX10_code_15 16 rfl (by decide) ?_
  refine j_imul F dX10_code_16 17 rfl ?_
  refine j_iload F dX10_code_17 19 rfl 4 rfl ?_
  refine j_iadd F dX10_code_19 20 rfl ?_
  exact j_ret_i F dX10_code_20 rfl rfl rfl
def fX10_fits (σ : Mm) (a1 : Int32) : Bool := if a1 < 2 then (if a1 = 0 then (if (σ.1 35 a1.toNatClampNeg) = 75 then (true) else (false)) else ((fX10_in ((σ.1 35 a1.toNatClampNeg).toInt64) 49 52))) else (if 55 < a1 then (false) else (if (rm (a1 - 2) 9) = 0 then (if (σ.1 35 a1.toNatClampNeg) = 88 then (if a1 < 56 then (true) else (false)) else (false)) else if (rm (a1 - 2) 9) = 1 then ((fX10_in ((σ.1 35 a1.toNatClampNeg).toInt64) 48 57)) else if (rm (a1 - 2) 9) = 2 then ((fX10_in ((σ.1 35 a1.toNatClampNeg).toInt64) 48 57)) else if (rm (a1 - 2) 9) = 3 then ((fX10_in ((σ.1 35 a1.toNatClampNeg).toInt64) 48 57)) else if (rm (a1 - 2) 9) = 4 then ((fX10_in ((σ.1 35 a1.toNatClampNeg).toInt64) 48 57)) else if (rm (a1 - 2) 9) = 5 then ((fX10_in ((σ.1 35 a1.toNatClampNeg).toInt64) 48 50)) else if (rm (a1 - 2) 9) = 6 then ((fX10_in ((σ.1 35 a1.toNatClampNeg).toInt64) 49 57)) else if (rm (a1 - 2) 9) = 7 then ((fX10_in ((σ.1 35 a1.toNatClampNeg).toInt64) 49 57)) else if (rm (a1 - 2) 9) = 8 then ((fX10_in ((σ.1 35 a1.toNatClampNeg).toInt64) 48 49)) else ((fX10_in ((σ.1 35 a1.toNatClampNeg).toInt64) 48 57))))
set_option maxRecDepth 20000 in
theorem kX10_fits (l : Launch) (D : Dm) (a1 : Int32) (σ : Mm) (hv1 : vp_in a1 56) : Ct l yX10_fits cX10_fits 3 (some .boolean) 2 D [.ref (D.2.1 33), .int a1] σ (some (.int (bi (fX10_fits σ a1))), σ) := by
  refine ct_of (by decide +kernel) (Nat.le_of_ble_eq_true rfl) (fun X F => ?_)
  have F : Fx X l 3 D cX10_fits RX10 2 (some .boolean) := F
  show JJ X 3 D σ 0 [(0, .ref (D.2.1 33)), (1, .int a1)] [] (QQ X D (some (.int (bi (fX10_fits σ a1))), σ))
  rw [fX10_fits]
  refine j_aload_n F dX10_fits_0 1 rfl 0 rfl ?_
  refine j_get (j := 1) F dX10_fits_1 4 rfl inX10 rfl (by decide) sh33 (by decide) qX10_13 rfl ?_
  refine j_iload_n F dX10_fits_4 5 rfl 1 rfl ?_
  refine j_iald F dX10_fits_5 6 rfl ia35 (by first | assumption | exact vin_c (by assumption) (by assumption) (by decide) | exact vin_d (by assumption) (by assumption) (by decide) | exact vin_k (by assumption) (by assumption) (by decide) | exact vin_mono (by assumption) (by decide) | exact vin_mono (isThing_in (by assumption) (by assumption)) (by decide)) ?_
  refine j_istore_n F dX10_fits_6 7 rfl 2 rfl (by decide) [(2, .int (σ.1 35 a1.toNatClampNeg)), (0, .ref (D.2.1 33)), (1, .int a1)] rfl ?_
  refine j_iload_n F dX10_fits_7 8 rfl 2 rfl ?_
  refine j_iconst (v := 2) F dX10_fits_8 9 rfl (by decide) ?_
  refine j_icmp_ge F dX10_fits_9 42 (by decide) 12 rfl (fun c_9 => ?_) (fun c_9 => ?_)
  · rw [if_pos c_9]
    refine j_iload_n F dX10_fits_12 13 rfl 2 rfl ?_
    refine j_if_ne F dX10_fits_13 30 (by decide) 16 rfl (fun c_13 => ?_) (fun c_13 => ?_)
    · rw [if_pos c_13]
      refine j_iload_n F dX10_fits_16 17 rfl 0 rfl ?_
      refine j_bipush (v := 75) F dX10_fits_17 19 rfl (by decide) ?_
      refine j_icmp_ne F dX10_fits_19 26 (by decide) 22 rfl (fun c_19 => ?_) (fun c_19 => ?_)
      · rw [if_pos c_19]
        refine j_iconst (v := 1) F dX10_fits_22 23 rfl (by decide) ?_
        refine j_goto F dX10_fits_23 41 (by decide) ?_
        exact j_ret_b (b := true) F dX10_fits_41 rfl rfl rfl
      · rw [if_neg c_19]
        refine j_iconst (v := 0) F dX10_fits_26 27 rfl (by decide) ?_
        refine j_goto F dX10_fits_27 41 (by decide) ?_
        exact j_ret_b (b := false) F dX10_fits_41 rfl rfl rfl
    · rw [if_neg c_13]
      refine j_iload_n F dX10_fits_30 31 rfl 0 rfl ?_
      refine j_i2l F dX10_fits_31 32 rfl ?_
      refine j_ldc2 F dX10_fits_32 35 rfl qX10_66 ?_
      refine j_ldc2 F dX10_fits_35 38 rfl qX10_68 ?_
      refine j_callSr (as := [.long ((σ.1 35 a1.toNatClampNeg).toInt64), .long 49, .long 52]) (st := []) (r := .int (bi (fX10_in ((σ.1 35 a1.toNatClampNeg).toInt64) 49 52))) (σ9 := σ) F zX10_in dX10_fits_38 41 rfl pX10_in rfl (by decide) (by decide) (Nat.le_of_ble_eq_true rfl) rfl qX10_58 (kX10_in l D ((σ.1 35 a1.toNatClampNeg).toInt64) 49 52 σ) ?_
      exact j_ret_b (b := (fX10_in ((σ.1 35 a1.toNatClampNeg).toInt64) 49 52)) F dX10_fits_41 rfl rfl rfl
  · rw [if_neg c_9]
    refine j_iload_n F dX10_fits_42 43 rfl 2 rfl ?_
    refine j_bipush (v := 55) F dX10_fits_43 45 rfl (by decide) ?_
    refine j_icmp_le F dX10_fits_45 50 (by decide) 48 rfl (fun c_45 => ?_) (fun c_45 => ?_)
    · rw [if_pos c_45]
      refine j_iconst (v := 0) F dX10_fits_48 49 rfl (by decide) ?_
      exact j_ret_b (b := false) F dX10_fits_49 rfl rfl rfl
    · rw [if_neg c_45]
      refine j_iload_n F dX10_fits_50 51 rfl 2 rfl ?_
      refine j_iconst (v := 2) F dX10_fits_51 52 rfl (by decide) ?_
      refine j_isub F dX10_fits_52 53 rfl ?_
      refine j_bipush (v := 9) F dX10_fits_53 55 rfl (by decide) ?_
      refine j_irem F dX10_fits_55 56 rfl (by decide) ?_
      refine j_by ((rm (a1 - 2) 9) = 0) (fun c_56_0 => ?_) (fun c_56_0 => ?_)
      · rw [if_pos c_56_0]
        refine j_tin (z := 0) F dX10_fits_56 c_56_0 (by decide) (by decide) (by decide) rfl 108 (by decide) ?_
        refine j_iload_n F dX10_fits_108 109 rfl 0 rfl ?_
        refine j_bipush (v := 88) F dX10_fits_109 111 rfl (by decide) ?_
        refine j_icmp_ne F dX10_fits_111 124 (by decide) 114 rfl (fun c_111 => ?_) (fun c_111 => ?_)
        · rw [if_pos c_111]
          refine j_iload_n F dX10_fits_114 115 rfl 2 rfl ?_
          refine j_bipush (v := 56) F dX10_fits_115 117 rfl (by decide) ?_
          refine j_icmp_ge F dX10_fits_117 124 (by decide) 120 rfl (fun c_117 => ?_) (fun c_117 => ?_)
          · rw [if_pos c_117]
            refine j_iconst (v := 1) F dX10_fits_120 121 rfl (by decide) ?_
            refine j_goto F dX10_fits_121 125 (by decide) ?_
            exact j_ret_b (b := true) F dX10_fits_125 rfl rfl rfl
          · rw [if_neg c_117]
            refine j_iconst (v := 0) F dX10_fits_124 125 rfl (by decide) ?_
            exact j_ret_b (b := false) F dX10_fits_125 rfl rfl rfl
        · rw [if_neg c_111]
          refine j_iconst (v := 0) F dX10_fits_124 125 rfl (by decide) ?_
          exact j_ret_b (b := false) F dX10_fits_125 rfl rfl rfl
      · rw [if_neg c_56_0]
        refine j_by ((rm (a1 - 2) 9) = 1) (fun c_56_1 => ?_) (fun c_56_1 => ?_)
        · rw [if_pos c_56_1]
          refine j_tin (z := 1) F dX10_fits_56 c_56_1 (by decide) (by decide) (by decide) rfl 162 (by decide) ?_
          refine j_iload_n F dX10_fits_162 163 rfl 0 rfl ?_
          refine j_i2l F dX10_fits_163 164 rfl ?_
          refine j_ldc2 F dX10_fits_164 167 rfl qX10_70 ?_
          refine j_ldc2 F dX10_fits_167 170 rfl qX10_74 ?_
          refine j_callSr (as := [.long ((σ.1 35 a1.toNatClampNeg).toInt64), .long 48, .long 57]) (st := []) (r := .int (bi (fX10_in ((σ.1 35 a1.toNatClampNeg).toInt64) 48 57))) (σ9 := σ) F zX10_in dX10_fits_170 173 rfl pX10_in rfl (by decide) (by decide) (Nat.le_of_ble_eq_true rfl) rfl qX10_58 (kX10_in l D ((σ.1 35 a1.toNatClampNeg).toInt64) 48 57 σ) ?_
          exact j_ret_b (b := (fX10_in ((σ.1 35 a1.toNatClampNeg).toInt64) 48 57)) F dX10_fits_173 rfl rfl rfl
        · rw [if_neg c_56_1]
          refine j_by ((rm (a1 - 2) 9) = 2) (fun c_56_2 => ?_) (fun c_56_2 => ?_)
          · rw [if_pos c_56_2]
            refine j_tin (z := 2) F dX10_fits_56 c_56_2 (by decide) (by decide) (by decide) rfl 162 (by decide) ?_
            refine j_iload_n F dX10_fits_162 163 rfl 0 rfl ?_
            refine j_i2l F dX10_fits_163 164 rfl ?_
            refine j_ldc2 F dX10_fits_164 167 rfl qX10_70 ?_
            refine j_ldc2 F dX10_fits_167 170 rfl qX10_74 ?_
            refine j_callSr (as := [.long ((σ.1 35 a1.toNatClampNeg).toInt64), .long 48, .long 57]) (st := []) (r := .int (bi (fX10_in ((σ.1 35 a1.toNatClampNeg).toInt64) 48 57))) (σ9 := σ) F zX10_in dX10_fits_170 173 rfl pX10_in rfl (by decide) (by decide) (Nat.le_of_ble_eq_true rfl) rfl qX10_58 (kX10_in l D ((σ.1 35 a1.toNatClampNeg).toInt64) 48 57 σ) ?_
            exact j_ret_b (b := (fX10_in ((σ.1 35 a1.toNatClampNeg).toInt64) 48 57)) F dX10_fits_173 rfl rfl rfl
          · rw [if_neg c_56_2]
            refine j_by ((rm (a1 - 2) 9) = 3) (fun c_56_3 => ?_) (fun c_56_3 => ?_)
            · rw [if_pos c_56_3]
              refine j_tin (z := 3) F dX10_fits_56 c_56_3 (by decide) (by decide) (by decide) rfl 162 (by decide) ?_
              refine j_iload_n F dX10_fits_162 163 rfl 0 rfl ?_
              refine j_i2l F dX10_fits_163 164 rfl ?_
              refine j_ldc2 F dX10_fits_164 167 rfl qX10_70 ?_
              refine j_ldc2 F dX10_fits_167 170 rfl qX10_74 ?_
              refine j_callSr (as := [.long ((σ.1 35 a1.toNatClampNeg).toInt64), .long 48, .long 57]) (st := []) (r := .int (bi (fX10_in ((σ.1 35 a1.toNatClampNeg).toInt64) 48 57))) (σ9 := σ) F zX10_in dX10_fits_170 173 rfl pX10_in rfl (by decide) (by decide) (Nat.le_of_ble_eq_true rfl) rfl qX10_58 (kX10_in l D ((σ.1 35 a1.toNatClampNeg).toInt64) 48 57 σ) ?_
              exact j_ret_b (b := (fX10_in ((σ.1 35 a1.toNatClampNeg).toInt64) 48 57)) F dX10_fits_173 rfl rfl rfl
            · rw [if_neg c_56_3]
              refine j_by ((rm (a1 - 2) 9) = 4) (fun c_56_4 => ?_) (fun c_56_4 => ?_)
              · rw [if_pos c_56_4]
                refine j_tin (z := 4) F dX10_fits_56 c_56_4 (by decide) (by decide) (by decide) rfl 162 (by decide) ?_
                refine j_iload_n F dX10_fits_162 163 rfl 0 rfl ?_
                refine j_i2l F dX10_fits_163 164 rfl ?_
                refine j_ldc2 F dX10_fits_164 167 rfl qX10_70 ?_
                refine j_ldc2 F dX10_fits_167 170 rfl qX10_74 ?_
                refine j_callSr (as := [.long ((σ.1 35 a1.toNatClampNeg).toInt64), .long 48, .long 57]) (st := []) (r := .int (bi (fX10_in ((σ.1 35 a1.toNatClampNeg).toInt64) 48 57))) (σ9 := σ) F zX10_in dX10_fits_170 173 rfl pX10_in rfl (by decide) (by decide) (Nat.le_of_ble_eq_true rfl) rfl qX10_58 (kX10_in l D ((σ.1 35 a1.toNatClampNeg).toInt64) 48 57 σ) ?_
                exact j_ret_b (b := (fX10_in ((σ.1 35 a1.toNatClampNeg).toInt64) 48 57)) F dX10_fits_173 rfl rfl rfl
              · rw [if_neg c_56_4]
                refine j_by ((rm (a1 - 2) 9) = 5) (fun c_56_5 => ?_) (fun c_56_5 => ?_)
                · rw [if_pos c_56_5]
                  refine j_tin (z := 5) F dX10_fits_56 c_56_5 (by decide) (by decide) (by decide) rfl 126 (by decide) ?_
                  refine j_iload_n F dX10_fits_126 127 rfl 0 rfl ?_
                  refine j_i2l F dX10_fits_127 128 rfl ?_
                  refine j_ldc2 F dX10_fits_128 131 rfl qX10_70 ?_
                  refine j_ldc2 F dX10_fits_131 134 rfl qX10_72 ?_
                  refine j_callSr (as := [.long ((σ.1 35 a1.toNatClampNeg).toInt64), .long 48, .long 50]) (st := []) (r := .int (bi (fX10_in ((σ.1 35 a1.toNatClampNeg).toInt64) 48 50))) (σ9 := σ) F zX10_in dX10_fits_134 137 rfl pX10_in rfl (by decide) (by decide) (Nat.le_of_ble_eq_true rfl) rfl qX10_58 (kX10_in l D ((σ.1 35 a1.toNatClampNeg).toInt64) 48 50 σ) ?_
                  exact j_ret_b (b := (fX10_in ((σ.1 35 a1.toNatClampNeg).toInt64) 48 50)) F dX10_fits_137 rfl rfl rfl
                · rw [if_neg c_56_5]
                  refine j_by ((rm (a1 - 2) 9) = 6) (fun c_56_6 => ?_) (fun c_56_6 => ?_)
                  · rw [if_pos c_56_6]
                    refine j_tin (z := 6) F dX10_fits_56 c_56_6 (by decide) (by decide) (by decide) rfl 138 (by decide) ?_
                    refine j_iload_n F dX10_fits_138 139 rfl 0 rfl ?_
                    refine j_i2l F dX10_fits_139 140 rfl ?_
                    refine j_ldc2 F dX10_fits_140 143 rfl qX10_66 ?_
                    refine j_ldc2 F dX10_fits_143 146 rfl qX10_74 ?_
                    refine j_callSr (as := [.long ((σ.1 35 a1.toNatClampNeg).toInt64), .long 49, .long 57]) (st := []) (r := .int (bi (fX10_in ((σ.1 35 a1.toNatClampNeg).toInt64) 49 57))) (σ9 := σ) F zX10_in dX10_fits_146 149 rfl pX10_in rfl (by decide) (by decide) (Nat.le_of_ble_eq_true rfl) rfl qX10_58 (kX10_in l D ((σ.1 35 a1.toNatClampNeg).toInt64) 49 57 σ) ?_
                    exact j_ret_b (b := (fX10_in ((σ.1 35 a1.toNatClampNeg).toInt64) 49 57)) F dX10_fits_149 rfl rfl rfl
                  · rw [if_neg c_56_6]
                    refine j_by ((rm (a1 - 2) 9) = 7) (fun c_56_7 => ?_) (fun c_56_7 => ?_)
                    · rw [if_pos c_56_7]
                      refine j_tin (z := 7) F dX10_fits_56 c_56_7 (by decide) (by decide) (by decide) rfl 138 (by decide) ?_
                      refine j_iload_n F dX10_fits_138 139 rfl 0 rfl ?_
                      refine j_i2l F dX10_fits_139 140 rfl ?_
                      refine j_ldc2 F dX10_fits_140 143 rfl qX10_66 ?_
                      refine j_ldc2 F dX10_fits_143 146 rfl qX10_74 ?_
                      refine j_callSr (as := [.long ((σ.1 35 a1.toNatClampNeg).toInt64), .long 49, .long 57]) (st := []) (r := .int (bi (fX10_in ((σ.1 35 a1.toNatClampNeg).toInt64) 49 57))) (σ9 := σ) F zX10_in dX10_fits_146 149 rfl pX10_in rfl (by decide) (by decide) (Nat.le_of_ble_eq_true rfl) rfl qX10_58 (kX10_in l D ((σ.1 35 a1.toNatClampNeg).toInt64) 49 57 σ) ?_
                      exact j_ret_b (b := (fX10_in ((σ.1 35 a1.toNatClampNeg).toInt64) 49 57)) F dX10_fits_149 rfl rfl rfl
                    · rw [if_neg c_56_7]
                      refine j_by ((rm (a1 - 2) 9) = 8) (fun c_56_8 => ?_) (fun c_56_8 => ?_)
                      · rw [if_pos c_56_8]
                        refine j_tin (z := 8) F dX10_fits_56 c_56_8 (by decide) (by decide) (by decide) rfl 150 (by decide) ?_
                        refine j_iload_n F dX10_fits_150 151 rfl 0 rfl ?_
                        refine j_i2l F dX10_fits_151 152 rfl ?_
                        refine j_ldc2 F dX10_fits_152 155 rfl qX10_70 ?_
                        refine j_ldc2 F dX10_fits_155 158 rfl qX10_66 ?_
                        refine j_callSr (as := [.long ((σ.1 35 a1.toNatClampNeg).toInt64), .long 48, .long 49]) (st := []) (r := .int (bi (fX10_in ((σ.1 35 a1.toNatClampNeg).toInt64) 48 49))) (σ9 := σ) F zX10_in dX10_fits_158 161 rfl pX10_in rfl (by decide) (by decide) (Nat.le_of_ble_eq_true rfl) rfl qX10_58 (kX10_in l D ((σ.1 35 a1.toNatClampNeg).toInt64) 48 49 σ) ?_
                        exact j_ret_b (b := (fX10_in ((σ.1 35 a1.toNatClampNeg).toInt64) 48 49)) F dX10_fits_161 rfl rfl rfl
                      · rw [if_neg c_56_8]
                        refine j_tout F dX10_fits_56 (by have e0 := lv_neT c_56_0 (show (0 : Int32).toInt = 0 from by decide); have e1 := lv_neT c_56_1 (show (1 : Int32).toInt = 1 from by decide); have e2 := lv_neT c_56_2 (show (2 : Int32).toInt = 2 from by decide); have e3 := lv_neT c_56_3 (show (3 : Int32).toInt = 3 from by decide); have e4 := lv_neT c_56_4 (show (4 : Int32).toInt = 4 from by decide); have e5 := lv_neT c_56_5 (show (5 : Int32).toInt = 5 from by decide); have e6 := lv_neT c_56_6 (show (6 : Int32).toInt = 6 from by decide); have e7 := lv_neT c_56_7 (show (7 : Int32).toInt = 7 from by decide); have e8 := lv_neT c_56_8 (show (8 : Int32).toInt = 8 from by decide); omega) 162 (by decide) ?_
                        refine j_iload_n F dX10_fits_162 163 rfl 0 rfl ?_
                        refine j_i2l F dX10_fits_163 164 rfl ?_
                        refine j_ldc2 F dX10_fits_164 167 rfl qX10_70 ?_
                        refine j_ldc2 F dX10_fits_167 170 rfl qX10_74 ?_
                        refine j_callSr (as := [.long ((σ.1 35 a1.toNatClampNeg).toInt64), .long 48, .long 57]) (st := []) (r := .int (bi (fX10_in ((σ.1 35 a1.toNatClampNeg).toInt64) 48 57))) (σ9 := σ) F zX10_in dX10_fits_170 173 rfl pX10_in rfl (by decide) (by decide) (Nat.le_of_ble_eq_true rfl) rfl qX10_58 (kX10_in l D ((σ.1 35 a1.toNatClampNeg).toInt64) 48 57 σ) ?_
                        exact j_ret_b (b := (fX10_in ((σ.1 35 a1.toNatClampNeg).toInt64) 48 57)) F dX10_fits_173 rfl rfl rfl
def fX10_fault_26 (σ : Mm)   : Int32 := if 1 < (σ.1 33 2) then (if (rm ((σ.1 33 2) - 2) 9) = 0 then ((-9)) else ((σ.1 33 2))) else ((σ.1 33 2))
def mX10_fault_2 (σ : Mm)  : Nat := ((σ.1 33 2) : Int32).toNatClampNeg
def fX10_fault_2 (σ : Mm)  : Nat → Nat → Int32
  | 0, _ => 0
  | n + 1, k1_2 => if (nI k1_2) < (σ.1 33 2) then (if (fX10_fits σ (nI k1_2)) = true then (fX10_fault_2 σ n (k1_2 + 1)) else ((nI k1_2))) else (fX10_fault_26 σ)
def fX10_fault (σ : Mm)  : Int32 := fX10_fault_2 σ (mX10_fault_2 σ + 1) 0
set_option maxRecDepth 20000 in
theorem kX10_fault (l : Launch) (D : Dm)  (σ : Mm) (hlen : vp_in (σ.1 33 2) 57) : Ct l yX10_fault cX10_fault 2 (some .int) 3 D [.ref (D.2.1 33)] σ (some (.int (fX10_fault σ)), σ) := by
  refine ct_of (by decide +kernel) (Nat.le_of_ble_eq_true rfl) (fun X F => ?_)
  have F : Fx X l 2 D cX10_fault RX10 3 (some .int) := F
  show JJ X 2 D σ 0 [(0, .ref (D.2.1 33))] [] (QQ X D (some (.int (fX10_fault σ)), σ))
  rw [fX10_fault]
  have hlen2 := vin_le hlen
  refine j_iconst (v := 0) F dX10_fault_0 1 rfl (by decide) ?_
  refine j_istore_n F dX10_fault_1 2 rfl 1 rfl (by decide) [(1, .int 0), (0, .ref (D.2.1 33))] rfl ?_
  have hx_26 : JJ X 2 D σ 26 [(0, .ref (D.2.1 33))] [] (QQ X D (some (.int (fX10_fault_26 σ)), σ)) := by
    rw [fX10_fault_26]
    refine j_aload_n F dX10_fault_26 27 rfl 0 rfl ?_
    refine j_get (j := 2) F dX10_fault_27 30 rfl inX10 rfl (by decide) sh33 (by decide) qX10_62 rfl ?_
    refine j_iconst (v := 1) F dX10_fault_30 31 rfl (by decide) ?_
    refine j_icmp_le F dX10_fault_31 51 (by decide) 34 rfl (fun c_31 => ?_) (fun c_31 => ?_)
    · rw [if_pos c_31]
      refine j_aload_n F dX10_fault_34 35 rfl 0 rfl ?_
      refine j_get (j := 2) F dX10_fault_35 38 rfl inX10 rfl (by decide) sh33 (by decide) qX10_62 rfl ?_
      refine j_iconst (v := 2) F dX10_fault_38 39 rfl (by decide) ?_
      refine j_isub F dX10_fault_39 40 rfl ?_
      refine j_bipush (v := 9) F dX10_fault_40 42 rfl (by decide) ?_
      refine j_irem F dX10_fault_42 43 rfl (by decide) ?_
      refine j_if_ne F dX10_fault_43 51 (by decide) 46 rfl (fun c_43 => ?_) (fun c_43 => ?_)
      · rw [if_pos c_43]
        refine j_bipush (v := (-9)) F dX10_fault_46 48 rfl (by decide) ?_
        refine j_goto F dX10_fault_48 55 (by decide) ?_
        exact j_ret_i F dX10_fault_55 rfl rfl rfl
      · rw [if_neg c_43]
        refine j_aload_n F dX10_fault_51 52 rfl 0 rfl ?_
        refine j_get (j := 2) F dX10_fault_52 55 rfl inX10 rfl (by decide) sh33 (by decide) qX10_62 rfl ?_
        exact j_ret_i F dX10_fault_55 rfl rfl rfl
    · rw [if_neg c_31]
      refine j_aload_n F dX10_fault_51 52 rfl 0 rfl ?_
      refine j_get (j := 2) F dX10_fault_52 55 rfl inX10 rfl (by decide) sh33 (by decide) qX10_62 rfl ?_
      exact j_ret_i F dX10_fault_55 rfl rfl rfl
  have lp_2 : ∀ (n_2 : Nat) (k1_2 : Nat), k1_2 ≤ (((σ.1 33 2) : Int32).toNatClampNeg) → (((σ.1 33 2) : Int32).toNatClampNeg) < k1_2 + n_2 → JJ X 2 D σ 2 [(0, .ref (D.2.1 33)), (1, .int (nI k1_2))] [] (QQ X D (some (.int (fX10_fault_2 σ n_2 k1_2)), σ)) := by
    intro n_2
    induction n_2 with
    | zero => intro k1_2 hk_2 hn_2; exact absurd hn_2 (by omega)
    | succ n_2 ih_2 =>
      intro k1_2 hk_2 hn_2
      rw [fX10_fault_2]
      refine j_iload_n F dX10_fault_2 3 rfl 1 rfl ?_
      refine j_aload_n F dX10_fault_3 4 rfl 0 rfl ?_
      refine j_get (j := 2) F dX10_fault_4 7 rfl inX10 rfl (by decide) sh33 (by decide) qX10_62 rfl ?_
      refine j_icmp_ge F dX10_fault_7 26 (by decide) 10 rfl (fun c_7 => ?_) (fun c_7 => ?_)
      · rw [if_pos c_7]
        have h_7 : k1_2 < (((σ.1 33 2) : Int32).toNatClampNeg) := nltd c_7 hk_2
        refine j_aload_n F dX10_fault_10 11 rfl 0 rfl ?_
        refine j_iload_n F dX10_fault_11 12 rfl 1 rfl ?_
        refine j_callVr (as := [.int (nI k1_2)]) (st := []) (r := .int (bi (fX10_fits σ (nI k1_2)))) (σ9 := σ) F zX10_fits dX10_fault_12 15 rfl pX10_fits rfl (by decide) (by decide) (Nat.le_of_ble_eq_true rfl) rfl qX10_76 rfl rfl (by decide) sh33 (kX10_fits l D (nI k1_2) σ (vp_in_nI (n := k1_2) (by omega) (by decide))) ?_
        refine j_ifb_ne F dX10_fault_15 20 (by decide) 18 rfl (fun c_15 => ?_) (fun c_15 => ?_)
        · rw [if_neg c_15]
          refine j_iload_n F dX10_fault_18 19 rfl 1 rfl ?_
          exact j_ret_i F dX10_fault_19 rfl rfl rfl
        · rw [if_pos c_15]
          refine j_iinc F dX10_fault_20 23 rfl 1 rfl (nI (k1_2 + 1)) (nI_inc k1_2) (by decide) [(1, .int (nI (k1_2 + 1))), (0, .ref (D.2.1 33))] rfl ?_
          refine j_goto F dX10_fault_23 2 (by decide) ?_
          refine j_pick [1, 0] [(0, .ref (D.2.1 33)), (1, .int (nI (k1_2 + 1)))] rfl ?_
          exact ih_2 (k1_2 + 1) (by omega) (by omega)
      · rw [if_neg c_7]
        refine j_pick [0] [(0, .ref (D.2.1 33))] rfl ?_
        exact hx_26
  refine j_pick [1, 0] [(0, .ref (D.2.1 33)), (1, .int 0)] rfl ?_
  exact lp_2 (mX10_fault_2 σ + 1) 0 (Nat.zero_le _) (by show (((σ.1 33 2) : Int32).toNatClampNeg) < 0 + ((((σ.1 33 2) : Int32).toNatClampNeg) + 1); omega)
def fX10_figure (σ : Mm) (a1 : Int32) : Int32 := ((σ.1 35 a1.toNatClampNeg) - 48)
set_option maxRecDepth 20000 in
theorem kX10_figure (l : Launch) (D : Dm) (a1 : Int32) (σ : Mm) (hv1 : vp_in a1 56) : Ct l yX10_figure cX10_figure 2 (some .int) 1 D [.ref (D.2.1 33), .int a1] σ (some (.int (fX10_figure σ a1)), σ) := by
  refine ct_of (by decide +kernel) (Nat.le_of_ble_eq_true rfl) (fun X F => ?_)
  have F : Fx X l 2 D cX10_figure RX10 1 (some .int) := F
  show JJ X 2 D σ 0 [(0, .ref (D.2.1 33)), (1, .int a1)] [] (QQ X D (some (.int (fX10_figure σ a1)), σ))
  rw [fX10_figure]
  refine j_aload_n F dX10_figure_0 1 rfl 0 rfl ?_
  refine j_get (j := 1) F dX10_figure_1 4 rfl inX10 rfl (by decide) sh33 (by decide) qX10_13 rfl ?_
  refine j_iload_n F dX10_figure_4 5 rfl 1 rfl ?_
  refine j_iald F dX10_figure_5 6 rfl ia35 (by first | assumption | exact vin_c (by assumption) (by assumption) (by decide) | exact vin_d (by assumption) (by assumption) (by decide) | exact vin_k (by assumption) (by assumption) (by decide) | exact vin_mono (by assumption) (by decide) | exact vin_mono (isThing_in (by assumption) (by assumption)) (by decide)) ?_
  refine j_bipush (v := 48) F dX10_figure_6 8 rfl (by decide) ?_
  refine j_isub F dX10_figure_8 9 rfl ?_
  exact j_ret_i F dX10_figure_9 rfl rfl rfl
def fX10_ownerOf (σ : Mm) (a1 : Int32) : Int32 := (rm ((σ.1 34 a1.toNatClampNeg) / 200) 3)
set_option maxRecDepth 20000 in
theorem kX10_ownerOf (l : Launch) (D : Dm) (a1 : Int32) (σ : Mm) (hv1 : vp_in a1 8) : Ct l yX10_ownerOf cX10_ownerOf 2 (some .int) 1 D [.ref (D.2.1 33), .int a1] σ (some (.int (fX10_ownerOf σ a1)), σ) := by
  refine ct_of (by decide +kernel) (Nat.le_of_ble_eq_true rfl) (fun X F => ?_)
  have F : Fx X l 2 D cX10_ownerOf RX10 1 (some .int) := F
  show JJ X 2 D σ 0 [(0, .ref (D.2.1 33)), (1, .int a1)] [] (QQ X D (some (.int (fX10_ownerOf σ a1)), σ))
  rw [fX10_ownerOf]
  refine j_aload_n F dX10_ownerOf_0 1 rfl 0 rfl ?_
  refine j_get (j := 0) F dX10_ownerOf_1 4 rfl inX10 rfl (by decide) sh33 (by decide) qX10_7 rfl ?_
  refine j_iload_n F dX10_ownerOf_4 5 rfl 1 rfl ?_
  refine j_iald F dX10_ownerOf_5 6 rfl ia34 (by first | assumption | exact vin_c (by assumption) (by assumption) (by decide) | exact vin_d (by assumption) (by assumption) (by decide) | exact vin_k (by assumption) (by assumption) (by decide) | exact vin_mono (by assumption) (by decide) | exact vin_mono (isThing_in (by assumption) (by assumption)) (by decide)) ?_
  refine j_sipush (v := 200) F dX10_ownerOf_6 9 rfl (by decide) ?_
  refine j_idiv F dX10_ownerOf_9 10 rfl (by decide) ?_
  refine j_iconst (v := 3) F dX10_ownerOf_10 11 rfl (by decide) ?_
  refine j_irem F dX10_ownerOf_11 12 rfl (by decide) ?_
  exact j_ret_i F dX10_ownerOf_12 rfl rfl rfl
def fX10_wipe (σ : Mm)  : Int32 × Mm := ((σ.1 33 2), (up σ 33 2 0))
set_option maxRecDepth 20000 in
theorem kX10_wipe (l : Launch) (D : Dm)  (σ : Mm)  : Ct l yX10_wipe cX10_wipe 2 (some .int) 1 D [.ref (D.2.1 33)] σ (some (.int (fX10_wipe σ).1), (fX10_wipe σ).2) := by
  refine ct_of (by decide +kernel) (Nat.le_of_ble_eq_true rfl) (fun X F => ?_)
  have F : Fx X l 2 D cX10_wipe RX10 1 (some .int) := F
  show JJ X 2 D σ 0 [(0, .ref (D.2.1 33))] [] (QQ X D (some (.int (fX10_wipe σ).1), (fX10_wipe σ).2))
  rw [fX10_wipe]
  refine j_aload_n F dX10_wipe_0 1 rfl 0 rfl ?_
  refine j_get (j := 2) F dX10_wipe_1 4 rfl inX10 rfl (by decide) sh33 (by decide) qX10_62 rfl ?_
  refine j_istore_n F dX10_wipe_4 5 rfl 1 rfl (by decide) [(1, .int (σ.1 33 2)), (0, .ref (D.2.1 33))] rfl ?_
  refine j_aload_n F dX10_wipe_5 6 rfl 1 rfl ?_
  refine j_iconst (v := 0) F dX10_wipe_6 7 rfl (by decide) ?_
  refine j_put (j := 2) F dX10_wipe_7 10 rfl inX10 tyX10 tyX10_ok nmX10 rfl (by decide) sh33 sh33 (by decide) qX10_62 rfl (tyX10_ok 2 (by decide)) (Nat.le_of_ble_eq_true rfl) ?_
  refine j_iload_n F dX10_wipe_10 11 rfl 0 rfl ?_
  exact j_ret_i F dX10_wipe_11 rfl rfl rfl
def fX10_write_47 (a1 : Int32)  (s_47 : Mm) : Int32 × Mm := ((s_47.1 33 2), s_47)
def fX10_write (σ : Mm) (a1 : Int32) : Int32 × Mm := if (fX10_in (a1.toInt64) 0 255) = true then (if (σ.1 33 2) = 56 then (((-4), σ)) else (fX10_write_47 a1 (up (up σ 35 (σ.1 33 2).toNatClampNeg a1) 33 2 (((up σ 35 (σ.1 33 2).toNatClampNeg a1).1 33 2) + 1)))) else (((-2), σ))
set_option maxRecDepth 20000 in
theorem kX10_write (l : Launch) (D : Dm) (a1 : Int32) (σ : Mm) (hlen : vp_in (σ.1 33 2) 57) : Ct l yX10_write cX10_write 2 (some .int) 2 D [.ref (D.2.1 33), .int a1] σ (some (.int (fX10_write σ a1).1), (fX10_write σ a1).2) := by
  refine ct_of (by decide +kernel) (Nat.le_of_ble_eq_true rfl) (fun X F => ?_)
  have F : Fx X l 2 D cX10_write RX10 2 (some .int) := F
  show JJ X 2 D σ 0 [(0, .ref (D.2.1 33)), (1, .int a1)] [] (QQ X D (some (.int (fX10_write σ a1).1), (fX10_write σ a1).2))
  rw [fX10_write]
  refine j_iload_n F dX10_write_0 1 rfl 1 rfl ?_
  refine j_i2l F dX10_write_1 2 rfl ?_
  refine j_lconst (v := 0) F dX10_write_2 3 rfl (by decide) ?_
  refine j_ldc2 F dX10_write_3 6 rfl qX10_56 ?_
  refine j_callSr (as := [.long (a1.toInt64), .long 0, .long 255]) (st := []) (r := .int (bi (fX10_in (a1.toInt64) 0 255))) (σ9 := σ) F zX10_in dX10_write_6 9 rfl pX10_in rfl (by decide) (by decide) (Nat.le_of_ble_eq_true rfl) rfl qX10_58 (kX10_in l D (a1.toInt64) 0 255 σ) ?_
  refine j_ifb_ne F dX10_write_9 15 (by decide) 12 rfl (fun c_9 => ?_) (fun c_9 => ?_)
  · rw [if_neg c_9]
    refine j_bipush (v := (-2)) F dX10_write_12 14 rfl (by decide) ?_
    exact j_ret_i F dX10_write_14 rfl rfl rfl
  · rw [if_pos c_9]
    refine j_aload_n F dX10_write_15 16 rfl 0 rfl ?_
    refine j_get (j := 2) F dX10_write_16 19 rfl inX10 rfl (by decide) sh33 (by decide) qX10_62 rfl ?_
    refine j_bipush (v := 56) F dX10_write_19 21 rfl (by decide) ?_
    refine j_icmp_ne F dX10_write_21 27 (by decide) 24 rfl (fun c_21 => ?_) (fun c_21 => ?_)
    · rw [if_pos c_21]
      refine j_bipush (v := (-4)) F dX10_write_24 26 rfl (by decide) ?_
      exact j_ret_i F dX10_write_26 rfl rfl rfl
    · rw [if_neg c_21]
      refine j_aload_n F dX10_write_27 28 rfl 0 rfl ?_
      refine j_get (j := 1) F dX10_write_28 31 rfl inX10 rfl (by decide) sh33 (by decide) qX10_13 rfl ?_
      refine j_aload_n F dX10_write_31 32 rfl 0 rfl ?_
      refine j_get (j := 2) F dX10_write_32 35 rfl inX10 rfl (by decide) sh33 (by decide) qX10_62 rfl ?_
      refine j_iload_n F dX10_write_35 36 rfl 1 rfl ?_
      refine j_iast F dX10_write_36 37 rfl ia35 (vin_ne hlen (by assumption)) ?_
      refine j_aload_n F dX10_write_37 38 rfl 0 rfl ?_
      refine j_dup F dX10_write_38 39 rfl rfl ?_
      refine j_get (j := 2) F dX10_write_39 42 rfl inX10 rfl (by decide) sh33 (by decide) qX10_62 rfl ?_
      refine j_iconst (v := 1) F dX10_write_42 43 rfl (by decide) ?_
      refine j_iadd F dX10_write_43 44 rfl ?_
      refine j_put (j := 2) F dX10_write_44 47 rfl inX10 tyX10 tyX10_ok nmX10 rfl (by decide) sh33 sh33 (by decide) qX10_62 rfl (tyX10_ok 2 (by decide)) (Nat.le_of_ble_eq_true rfl) ?_
      refine j_pick [0] [(0, .ref (D.2.1 33))] rfl ?_
      have jn_47 : ∀ (s_47 : Mm), JJ X 2 D s_47 47 [(0, .ref (D.2.1 33))] [] (QQ X D (some (.int (fX10_write_47 a1 s_47).1), (fX10_write_47 a1 s_47).2)) := by
        intro s_47
        rw [fX10_write_47]
        refine j_aload_n F dX10_write_47 48 rfl 0 rfl ?_
        refine j_get (j := 2) F dX10_write_48 51 rfl inX10 rfl (by decide) sh33 (by decide) qX10_62 rfl ?_
        exact j_ret_i F dX10_write_51 rfl rfl rfl
      exact jn_47 (up (up σ 35 (σ.1 33 2).toNatClampNeg a1) 33 2 (((up σ 35 (σ.1 33 2).toNatClampNeg a1).1 33 2) + 1)) 
