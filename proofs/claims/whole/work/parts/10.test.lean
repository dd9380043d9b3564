def fX9_at (σ : Mm) (q : Nat) (N : Nat) (a2 : Int32) : Int32 := if 0 ≤ a2 then (if a2 < (nI N) then ((σ.1 q a2.toNatClampNeg)) else (0)) else (0)
set_option maxRecDepth 20000 in
theorem kX9_at (l : Launch) (D : Dm) (q : Nat) (N : Nat) (a2 : Int32) (σ : Mm) (hq : iaP q N) : Ct l yX9_at cX9_at 2 (some .int) 1 D [.ref (D.2.1 q), .int a2] σ (some (.int (fX9_at σ q N a2)), σ) := by
  refine ct_of (by decide +kernel) (Nat.le_of_ble_eq_true rfl) (fun X F => ?_)
  have F : Fx X l 2 D cX9_at RX9 1 (some .int) := F
  show JJ X 2 D σ 0 [(0, .ref (D.2.1 q)), (1, .int a2)] [] (QQ X D (some (.int (fX9_at σ q N a2)), σ))
  rw [fX9_at]
  refine j_iload_n F dX9_at_0 1 rfl 1 rfl ?_
  refine j_if_lt F dX9_at_1 16 (by decide) 4 rfl (fun c_1 => ?_) (fun c_1 => ?_)
  · rw [if_pos c_1]
    refine j_iload_n F dX9_at_4 5 rfl 1 rfl ?_
    refine j_aload_n F dX9_at_5 6 rfl 0 rfl ?_
    refine j_alen F dX9_at_6 7 rfl hq ?_
    refine j_icmp_ge F dX9_at_7 16 (by decide) 10 rfl (fun c_7 => ?_) (fun c_7 => ?_)
    · rw [if_pos c_7]
      refine j_aload_n F dX9_at_10 11 rfl 0 rfl ?_
      refine j_iload_n F dX9_at_11 12 rfl 1 rfl ?_
      refine j_iald F dX9_at_12 13 rfl hq (vin_c (by assumption) (by assumption) (by have := hq.2.1; omega)) ?_
      refine j_goto F dX9_at_13 17 (by decide) ?_
      exact j_ret_i F dX9_at_17 rfl rfl rfl
    · rw [if_neg c_7]
      refine j_iconst (v := 0) F dX9_at_16 17 rfl (by decide) ?_
      exact j_ret_i F dX9_at_17 rfl rfl rfl
  · rw [if_neg c_1]
    refine j_iconst (v := 0) F dX9_at_16 17 rfl (by decide) ?_
    exact j_ret_i F dX9_at_17 rfl rfl rfl
def fX9_holds (σ : Mm) (a1 : Int32) (a2 : Int32) : Bool := if 0 ≤ a2 then (if a2 < 8 then (if ((a1 >>> (a2 &&& 31)) &&& 1) = 1 then (true) else (false)) else (false)) else (false)
set_option maxRecDepth 20000 in
theorem kX9_holds (l : Launch) (D : Dm) (a1 : Int32) (a2 : Int32) (σ : Mm)  : Ct l yX9_holds cX9_holds 2 (some .boolean) 1 D [.int a1, .int a2] σ (some (.int (bi (fX9_holds σ a1 a2))), σ) := by
  refine ct_of (by decide +kernel) (Nat.le_of_ble_eq_true rfl) (fun X F => ?_)
  have F : Fx X l 2 D cX9_holds RX9 1 (some .boolean) := F
  show JJ X 2 D σ 0 [(0, .int a1), (1, .int a2)] [] (QQ X D (some (.int (bi (fX9_holds σ a1 a2))), σ))
  rw [fX9_holds]
  refine j_iload_n F dX9_holds_0 1 rfl 1 rfl ?_
  refine j_if_lt F dX9_holds_1 23 (by decide) 4 rfl (fun c_1 => ?_) (fun c_1 => ?_)
  · rw [if_pos c_1]
    refine j_iload_n F dX9_holds_4 5 rfl 1 rfl ?_
    refine j_bipush (v := 8) F dX9_holds_5 7 rfl (by decide) ?_
    refine j_icmp_ge F dX9_holds_7 23 (by decide) 10 rfl (fun c_7 => ?_) (fun c_7 => ?_)
    · rw [if_pos c_7]
      refine j_iload_n F dX9_holds_10 11 rfl 0 rfl ?_
      refine j_iload_n F dX9_holds_11 12 rfl 1 rfl ?_
      refine j_ishr F dX9_holds_12 13 rfl ?_
      refine j_iconst (v := 1) F dX9_holds_13 14 rfl (by decide) ?_
      refine j_iand F dX9_holds_14 15 rfl ?_
      refine j_iconst (v := 1) F dX9_holds_15 16 rfl (by decide) ?_
      refine j_icmp_ne F dX9_holds_16 23 (by decide) 19 rfl (fun c_16 => ?_) (fun c_16 => ?_)
      · rw [if_pos c_16]
        refine j_iconst (v := 1) F dX9_holds_19 20 rfl (by decide) ?_
        refine j_goto F dX9_holds_20 24 (by decide) ?_
        exact j_ret_b (b := true) F dX9_holds_24 rfl rfl rfl
      · rw [if_neg c_16]
        refine j_iconst (v := 0) F dX9_holds_23 24 rfl (by decide) ?_
        exact j_ret_b (b := false) F dX9_holds_24 rfl rfl rfl
    · rw [if_neg c_7]
      refine j_iconst (v := 0) F dX9_holds_23 24 rfl (by decide) ?_
      exact j_ret_b (b := false) F dX9_holds_24 rfl rfl rfl
  · rw [if_neg c_1]
    refine j_iconst (v := 0) F dX9_holds_23 24 rfl (by decide) ?_
    exact j_ret_b (b := false) F dX9_holds_24 rfl rfl rfl
def fX2_sameMarks_24 (σ : Mm) (h : Nat) (a1 : Int32) (a2 : Int32)  : Nat → Int32 → Int32 → Nat → Int32
  | 0, _, _, _ => 0
  | n + 1, x3_24, x4_24, k5_24 => if (nI k5_24) < 4 then (if ((x3_24 >>> ((4 * (nI k5_24)) &&& 31)) &&& 15) = 0 then (fX2_sameMarks_24 σ h a1 a2 n x3_24 (x4_24 ||| (1 <<< ((nI k5_24) &&& 31))) (k5_24 + 1)) else (fX2_sameMarks_24 σ h a1 a2 n x3_24 x4_24 (k5_24 + 1))) else (x4_24)
def fX2_sameMarks (σ : Mm) (h : Nat) (a1 : Int32) (a2 : Int32) : Int32 := fX2_sameMarks_24 σ h a1 a2 5 ((fX9_at σ (h + 1) 8 a1) ^^^ (fX9_at σ (h + 1) 8 a2)) 0 0
set_option maxRecDepth 20000 in
theorem kX2_sameMarks (l : Launch) (D : Dm) (h : Nat) (a1 : Int32) (a2 : Int32) (σ : Mm) (hh : hsP h) : Ct l yX2_sameMarks cX2_sameMarks 6 (some .int) 2 D [.ref (D.2.1 h), .int a1, .int a2] σ (some (.int (fX2_sameMarks σ h a1 a2)), σ) := by
  refine ct_of (by decide +kernel) (Nat.le_of_ble_eq_true rfl) (fun X F => ?_)
  have F : Fx X l 6 D cX2_sameMarks RX2 2 (some .int) := F
  show JJ X 6 D σ 0 [(0, .ref (D.2.1 h)), (1, .int a1), (2, .int a2)] [] (QQ X D (some (.int (fX2_sameMarks σ h a1 a2)), σ))
  rw [fX2_sameMarks]
  refine j_aload_n F dX2_sameMarks_0 1 rfl 0 rfl ?_
  refine j_get (j := 0) F dX2_sameMarks_1 4 rfl inX2 rfl (hsP.lt hh) (shH hh) (by decide) qX2_9 rfl ?_
  refine j_iload_n F dX2_sameMarks_4 5 rfl 1 rfl ?_
  refine j_callSNr (as := [.ref (D.2.1 (h + 1)), .int a1]) (st := []) (r := .int (fX9_at σ (h + 1) 8 a1)) (σ9 := σ) F zX9_at dX2_sameMarks_5 8 rfl pX9_at rfl (by decide) (by decide) (Nat.le_of_ble_eq_true rfl) rfl qX2_19 (kX9_at l D (h + 1) 8 a1 σ (iaT hh)) ?_
  refine j_aload_n F dX2_sameMarks_8 9 rfl 0 rfl ?_
  refine j_get (j := 0) F dX2_sameMarks_9 12 rfl inX2 rfl (hsP.lt hh) (shH hh) (by decide) qX2_9 rfl ?_
  refine j_iload_n F dX2_sameMarks_12 13 rfl 2 rfl ?_
  refine j_callSNr (as := [.ref (D.2.1 (h + 1)), .int a2]) (st := [.int (fX9_at σ (h + 1) 8 a1)]) (r := .int (fX9_at σ (h + 1) 8 a2)) (σ9 := σ) F zX9_at dX2_sameMarks_13 16 rfl pX9_at rfl (by decide) (by decide) (Nat.le_of_ble_eq_true rfl) rfl qX2_19 (kX9_at l D (h + 1) 8 a2 σ (iaT hh)) ?_
  refine j_ixor F dX2_sameMarks_16 17 rfl ?_
  refine j_istore_n F dX2_sameMarks_17 18 rfl 3 rfl (by decide) [(3, .int ((fX9_at σ (h + 1) 8 a1) ^^^ (fX9_at σ (h + 1) 8 a2))), (0, .ref (D.2.1 h)), (1, .int a1), (2, .int a2)] rfl ?_
  refine j_iconst (v := 0) F dX2_sameMarks_18 19 rfl (by decide) ?_
  refine j_istore F dX2_sameMarks_19 21 rfl (by decide) [(4, .int 0), (3, .int ((fX9_at σ (h + 1) 8 a1) ^^^ (fX9_at σ (h + 1) 8 a2))), (0, .ref (D.2.1 h)), (1, .int a1), (2, .int a2)] rfl ?_
  refine j_iconst (v := 0) F dX2_sameMarks_21 22 rfl (by decide) ?_
  refine j_istore F dX2_sameMarks_22 24 rfl (by decide) [(5, .int 0), (4, .int 0), (3, .int ((fX9_at σ (h + 1) 8 a1) ^^^ (fX9_at σ (h + 1) 8 a2))), (0, .ref (D.2.1 h)), (1, .int a1), (2, .int a2)] rfl ?_
  have lp_24 : ∀ (n_24 : Nat) (x4_24 : Int32) (k5_24 : Nat), k5_24 ≤ 4 → 4 < k5_24 + n_24 → JJ X 6 D σ 24 [(3, .int ((fX9_at σ (h + 1) 8 a1) ^^^ (fX9_at σ (h + 1) 8 a2))), (4, .int x4_24), (5, .int (nI k5_24))] [] (QQ X D (some (.int (fX2_sameMarks_24 σ h a1 a2 n_24 ((fX9_at σ (h + 1) 8 a1) ^^^ (fX9_at σ (h + 1) 8 a2)) x4_24 k5_24)), σ)) := by
    intro n_24
    induction n_24 with
    | zero => intro x4_24 k5_24 hk_24 hn_24; exact absurd hn_24 (by omega)
    | succ n_24 ih_24 =>
      intro x4_24 k5_24 hk_24 hn_24
      rw [fX2_sameMarks_24]
      refine j_iload F dX2_sameMarks_24 26 rfl 2 rfl ?_
      refine j_iconst (v := 4) F dX2_sameMarks_26 27 rfl (by decide) ?_
      refine j_icmp_ge F dX2_sameMarks_27 57 (by decide) 30 rfl (fun c_27 => ?_) (fun c_27 => ?_)
      · rw [if_pos c_27]
        have h_27 : k5_24 < 4 := nlt c_27 (by decide) (by omega)
        refine j_iload_n F dX2_sameMarks_30 31 rfl 0 rfl ?_
        refine j_iconst (v := 4) F dX2_sameMarks_31 32 rfl (by decide) ?_
        refine j_iload F dX2_sameMarks_32 34 rfl 2 rfl ?_
        refine j_imul F dX2_sameMarks_34 35 rfl ?_
        refine j_ishr F dX2_sameMarks_35 36 rfl ?_
        refine j_bipush (v := 15) F dX2_sameMarks_36 38 rfl (by decide) ?_
        refine j_iand F dX2_sameMarks_38 39 rfl ?_
        refine j_if_ne F dX2_sameMarks_39 51 (by decide) 42 rfl (fun c_39 => ?_) (fun c_39 => ?_)
        · rw [if_pos c_39]
          refine j_iload F dX2_sameMarks_42 44 rfl 1 rfl ?_
          refine j_iconst (v := 1) F dX2_sameMarks_44 45 rfl (by decide) ?_
          refine j_iload F dX2_sameMarks_45 47 rfl 2 rfl ?_
          refine j_ishl F dX2_sameMarks_47 48 rfl ?_
          refine j_ior F dX2_sameMarks_48 49 rfl ?_
          refine j_istore F dX2_sameMarks_49 51 rfl (by decide) [(4, .int (x4_24 ||| (1 <<< ((nI k5_24) &&& 31)))), (3, .int ((fX9_at σ (h + 1) 8 a1) ^^^ (fX9_at σ (h + 1) 8 a2))), (5, .int (nI k5_24))] rfl ?_
          refine j_iinc F dX2_sameMarks_51 54 rfl 2 rfl (nI (k5_24 + 1)) (nI_inc k5_24) (by decide) [(5, .int (nI (k5_24 + 1))), (4, .int (x4_24 ||| (1 <<< ((nI k5_24) &&& 31)))), (3, .int ((fX9_at σ (h + 1) 8 a1) ^^^ (fX9_at σ (h + 1) 8 a2)))] rfl ?_
          refine j_goto F dX2_sameMarks_54 24 (by decide) ?_
          refine j_pick [2, 1, 0] [(3, .int ((fX9_at σ (h + 1) 8 a1) ^^^ (fX9_at σ (h + 1) 8 a2))), (4, .int (x4_24 ||| (1 <<< ((nI k5_24) &&& 31)))), (5, .int (nI (k5_24 + 1)))] rfl ?_
          exact ih_24 (x4_24 ||| (1 <<< ((nI k5_24) &&& 31))) (k5_24 + 1) (by omega) (by omega)
        · rw [if_neg c_39]
          refine j_iinc F dX2_sameMarks_51 54 rfl 2 rfl (nI (k5_24 + 1)) (nI_inc k5_24) (by decide) [(5, .int (nI (k5_24 + 1))), (3, .int ((fX9_at σ (h + 1) 8 a1) ^^^ (fX9_at σ (h + 1) 8 a2))), (4, .int x4_24)] rfl ?_
          refine j_goto F dX2_sameMarks_54 24 (by decide) ?_
          refine j_pick [1, 2, 0] [(3, .int ((fX9_at σ (h + 1) 8 a1) ^^^ (fX9_at σ (h + 1) 8 a2))), (4, .int x4_24), (5, .int (nI (k5_24 + 1)))] rfl ?_
          exact ih_24 x4_24 (k5_24 + 1) (by omega) (by omega)
      · rw [if_neg c_27]
        refine j_iload F dX2_sameMarks_57 59 rfl 1 rfl ?_
        exact j_ret_i F dX2_sameMarks_59 rfl rfl rfl
  refine j_pick [2, 1, 0] [(3, .int ((fX9_at σ (h + 1) 8 a1) ^^^ (fX9_at σ (h + 1) 8 a2))), (4, .int 0), (5, .int 0)] rfl ?_
  exact lp_24 5 0 0 (by omega) (by omega)
def fJ6_bc1 (x : Int32) : Int32 := (x - (((x).toUInt32 >>> ((1).toUInt32 &&& Int32.toUInt32 31)).toInt32 &&& 1431655765))
def fJ6_bc2 (x : Int32) : Int32 := ((x &&& 858993459) + (((x).toUInt32 >>> ((2).toUInt32 &&& Int32.toUInt32 31)).toInt32 &&& 858993459))
def fJ6_bc3 (x : Int32) : Int32 := ((x + ((x).toUInt32 >>> ((4).toUInt32 &&& Int32.toUInt32 31)).toInt32) &&& 252645135)
def fJ6_bc4 (x : Int32) : Int32 := (x + ((x).toUInt32 >>> ((8).toUInt32 &&& Int32.toUInt32 31)).toInt32)
def fJ6_bc5 (x : Int32) : Int32 := (x + ((x).toUInt32 >>> ((16).toUInt32 &&& Int32.toUInt32 31)).toInt32)
def fJ6_bitCount (σ : Mm) (a1 : Int32) : Int32 := ((fJ6_bc5 (fJ6_bc4 (fJ6_bc3 (fJ6_bc2 (fJ6_bc1 a1))))) &&& 63)
set_option maxRecDepth 20000 in
theorem kJ6_bitCount (l : Launch) (D : Dm) (a1 : Int32) (σ : Mm)  : Ct l yJ6_bitCount_0f7a4 cJ6_bitCount_0f7a4 1 (some .int) 1 D [.int a1] σ (some (.int (fJ6_bitCount σ a1)), σ) := by
  refine ct_of (by decide +kernel) (Nat.le_of_ble_eq_true rfl) (fun X F => ?_)
  have F : Fx X l 1 D cJ6_bitCount_0f7a4 RJ6 1 (some .int) := F
  show JJ X 1 D σ 0 [(0, .int a1)] [] (QQ X D (some (.int (fJ6_bitCount σ a1)), σ))
  rw [fJ6_bitCount]
  refine j_iload_n F dJ6_bitCount_0f7a4_0 1 rfl 0 rfl ?_
  refine j_iload_n F dJ6_bitCount_0f7a4_1 2 rfl 0 rfl ?_
  refine j_iconst (v := 1) F dJ6_bitCount_0f7a4_2 3 rfl (by decide) ?_
  refine j_iushr F dJ6_bitCount_0f7a4_3 4 rfl ?_
  refine j_ldcw F dJ6_bitCount_0f7a4_4 7 rfl qJ6_265 ?_
  refine j_iand F dJ6_bitCount_0f7a4_7 8 rfl ?_
  refine j_isub F dJ6_bitCount_0f7a4_8 9 rfl ?_
  refine j_istore_n F dJ6_bitCount_0f7a4_9 10 rfl 0 rfl (by decide) [(0, .int (fJ6_bc1 a1))] rfl ?_
  refine j_iload_n F dJ6_bitCount_0f7a4_10 11 rfl 0 rfl ?_
  refine j_ldcw F dJ6_bitCount_0f7a4_11 14 rfl qJ6_266 ?_
  refine j_iand F dJ6_bitCount_0f7a4_14 15 rfl ?_
  refine j_iload_n F dJ6_bitCount_0f7a4_15 16 rfl 0 rfl ?_
  refine j_iconst (v := 2) F dJ6_bitCount_0f7a4_16 17 rfl (by decide) ?_
  refine j_iushr F dJ6_bitCount_0f7a4_17 18 rfl ?_
  refine j_ldcw F dJ6_bitCount_0f7a4_18 21 rfl qJ6_266 ?_
  refine j_iand F dJ6_bitCount_0f7a4_21 22 rfl ?_
  refine j_iadd F dJ6_bitCount_0f7a4_22 23 rfl ?_
  refine j_istore_n F dJ6_bitCount_0f7a4_23 24 rfl 0 rfl (by decide) [(0, .int (fJ6_bc2 (fJ6_bc1 a1)))] rfl ?_
  refine j_iload_n F dJ6_bitCount_0f7a4_24 25 rfl 0 rfl ?_
  refine j_iload_n F dJ6_bitCount_0f7a4_25 26 rfl 0 rfl ?_
  refine j_iconst (v := 4) F dJ6_bitCount_0f7a4_26 27 rfl (by decide) ?_
  refine j_iushr F dJ6_bitCount_0f7a4_27 28 rfl ?_
  refine j_iadd F dJ6_bitCount_0f7a4_28 29 rfl ?_
  refine j_ldcw F dJ6_bitCount_0f7a4_29 32 rfl qJ6_267 ?_
  refine j_iand F dJ6_bitCount_0f7a4_32 33 rfl ?_
  refine j_istore_n F dJ6_bitCount_0f7a4_33 34 rfl 0 rfl (by decide) [(0, .int (fJ6_bc3 (fJ6_bc2 (fJ6_bc1 a1))))] rfl ?_
  refine j_iload_n F dJ6_bitCount_0f7a4_34 35 rfl 0 rfl ?_
  refine j_iload_n F dJ6_bitCount_0f7a4_35 36 rfl 0 rfl ?_
  refine j_bipush (v := 8) F dJ6_bitCount_0f7a4_36 38 rfl (by decide) ?_
  refine j_iushr F dJ6_bitCount_0f7a4_38 39 rfl ?_
  refine j_iadd F dJ6_bitCount_0f7a4_39 40 rfl ?_
  refine j_istore_n F dJ6_bitCount_0f7a4_40 41 rfl 0 rfl (by decide) [(0, .int (fJ6_bc4 (fJ6_bc3 (fJ6_bc2 (fJ6_bc1 a1)))))] rfl ?_
  refine j_iload_n F dJ6_bitCount_0f7a4_41 42 rfl 0 rfl ?_
  refine j_iload_n F dJ6_bitCount_0f7a4_42 43 rfl 0 rfl ?_
  refine j_bipush (v := 16) F dJ6_bitCount_0f7a4_43 45 rfl (by decide) ?_
  refine j_iushr F dJ6_bitCount_0f7a4_45 46 rfl ?_
  refine j_iadd F dJ6_bitCount_0f7a4_46 47 rfl ?_
  refine j_istore_n F dJ6_bitCount_0f7a4_47 48 rfl 0 rfl (by decide) [(0, .int (fJ6_bc5 (fJ6_bc4 (fJ6_bc3 (fJ6_bc2 (fJ6_bc1 a1))))))] rfl ?_
  refine j_iload_n F dJ6_bitCount_0f7a4_48 49 rfl 0 rfl ?_
  refine j_bipush (v := 63) F dJ6_bitCount_0f7a4_49 51 rfl (by decide) ?_
  refine j_iand F dJ6_bitCount_0f7a4_51 52 rfl ?_
  exact j_ret_i F dJ6_bitCount_0f7a4_52 rfl rfl rfl
def mX2_alikeTo_6 (σ : Mm) (h : Nat) (a1 : Int32) (a2 : Int32) (a3 : Int32)  : Nat := ((σ.1 h 1) : Int32).toNatClampNeg
def fX2_alikeTo_6 (σ : Mm) (h : Nat) (a1 : Int32) (a2 : Int32) (a3 : Int32)  : Nat → Int32 → Nat → Int32
  | 0, _, _ => 0
  | n + 1, x4_6, k5_6 => if (nI k5_6) < (σ.1 h 1) then (if (nI k5_6) = a1 then (fX2_alikeTo_6 σ h a1 a2 a3 n x4_6 (k5_6 + 1)) else (if (fX9_holds σ a3 (nI k5_6)) = true then (if a2 ≤ (fJ6_bitCount σ (fX2_sameMarks σ h a1 (nI k5_6))) then (fX2_alikeTo_6 σ h a1 a2 a3 n (x4_6 ||| (1 <<< ((nI k5_6) &&& 31))) (k5_6 + 1)) else (fX2_alikeTo_6 σ h a1 a2 a3 n x4_6 (k5_6 + 1))) else (fX2_alikeTo_6 σ h a1 a2 a3 n x4_6 (k5_6 + 1)))) else (x4_6)
def fX2_alikeTo (σ : Mm) (h : Nat) (a1 : Int32) (a2 : Int32) (a3 : Int32) : Int32 := fX2_alikeTo_6 σ h a1 a2 a3 (mX2_alikeTo_6 σ h a1 a2 a3 + 1) 0 0
set_option maxRecDepth 20000 in
theorem kX2_alikeTo (l : Launch) (D : Dm) (h : Nat) (a1 : Int32) (a2 : Int32) (a3 : Int32) (σ : Mm) (hh : hsP h) : Ct l yX2_alikeTo cX2_alikeTo 6 (some .int) 3 D [.ref (D.2.1 h), .int a1, .int a2, .int a3] σ (some (.int (fX2_alikeTo σ h a1 a2 a3)), σ) := by
  refine ct_of (by decide +kernel) (Nat.le_of_ble_eq_true rfl) (fun X F => ?_)
  have F : Fx X l 6 D cX2_alikeTo RX2 3 (some .int) := F
  show JJ X 6 D σ 0 [(0, .ref (D.2.1 h)), (1, .int a1), (2, .int a2), (3, .int a3)] [] (QQ X D (some (.int (fX2_alikeTo σ h a1 a2 a3)), σ))
  rw [fX2_alikeTo]
  refine j_iconst (v := 0) F dX2_alikeTo_0 1 rfl (by decide) ?_
  refine j_istore F dX2_alikeTo_1 3 rfl (by decide) [(4, .int 0), (0, .ref (D.2.1 h)), (1, .int a1), (2, .int a2), (3, .int a3)] rfl ?_
  refine j_iconst (v := 0) F dX2_alikeTo_3 4 rfl (by decide) ?_
  refine j_istore F dX2_alikeTo_4 6 rfl (by decide) [(5, .int 0), (4, .int 0), (0, .ref (D.2.1 h)), (1, .int a1), (2, .int a2), (3, .int a3)] rfl ?_
  have lp_6 : ∀ (n_6 : Nat) (x4_6 : Int32) (k5_6 : Nat), k5_6 ≤ (mX2_alikeTo_6 σ h a1 a2 a3) → (mX2_alikeTo_6 σ h a1 a2 a3) < k5_6 + n_6 → JJ X 6 D σ 6 [(0, .ref (D.2.1 h)), (1, .int a1), (2, .int a2), (3, .int a3), (4, .int x4_6), (5, .int (nI k5_6))] [] (QQ X D (some (.int (fX2_alikeTo_6 σ h a1 a2 a3 n_6 x4_6 k5_6)), σ)) := by
    intro n_6
    induction n_6 with
    | zero => intro x4_6 k5_6 hk_6 hn_6; exact absurd hn_6 (by omega)
    | succ n_6 ih_6 =>
      intro x4_6 k5_6 hk_6 hn_6
      rw [fX2_alikeTo_6]
      refine j_iload F dX2_alikeTo_6 8 rfl 5 rfl ?_
      refine j_aload_n F dX2_alikeTo_8 9 rfl 0 rfl ?_
      refine j_get (j := 1) F dX2_alikeTo_9 12 rfl inX2 rfl (hsP.lt hh) (shH hh) (by decide) qX2_23 rfl ?_
      refine j_icmp_ge F dX2_alikeTo_12 59 (by decide) 15 rfl (fun c_12 => ?_) (fun c_12 => ?_)
      · rw [if_pos c_12]
        have h_12 : k5_6 < (mX2_alikeTo_6 σ h a1 a2 a3) := nltd c_12 hk_6
        refine j_iload F dX2_alikeTo_15 17 rfl 5 rfl ?_
        refine j_iload_n F dX2_alikeTo_17 18 rfl 1 rfl ?_
        refine j_icmp_eq F dX2_alikeTo_18 53 (by decide) 21 rfl (fun c_18 => ?_) (fun c_18 => ?_)
        · rw [if_neg c_18]
          refine j_iload_n F dX2_alikeTo_21 22 rfl 3 rfl ?_
          refine j_iload F dX2_alikeTo_22 24 rfl 5 rfl ?_
          refine j_callSNr (as := [.int a3, .int (nI k5_6)]) (st := []) (r := .int (bi (fX9_holds σ a3 (nI k5_6)))) (σ9 := σ) F zX9_holds dX2_alikeTo_24 27 rfl pX9_holds rfl (by decide) (by decide) (Nat.le_of_ble_eq_true rfl) rfl qX2_65 (kX9_holds l D a3 (nI k5_6) σ) ?_
          refine j_ifb_eq F dX2_alikeTo_27 53 (by decide) 30 rfl (fun c_27 => ?_) (fun c_27 => ?_)
          · rw [if_pos c_27]
            refine j_aload_n F dX2_alikeTo_30 31 rfl 0 rfl ?_
            refine j_iload_n F dX2_alikeTo_31 32 rfl 1 rfl ?_
            refine j_iload F dX2_alikeTo_32 34 rfl 5 rfl ?_
            refine j_callVr (as := [.int a1, .int (nI k5_6)]) (st := []) (r := .int (fX2_sameMarks σ h a1 (nI k5_6))) (σ9 := σ) F zX2_sameMarks dX2_alikeTo_34 37 rfl pX2_sameMarks rfl (by decide) (by decide) (Nat.le_of_ble_eq_true rfl) rfl qX2_69 rfl rfl (hsP.lt hh) (shH hh) (kX2_sameMarks l D h a1 (nI k5_6) σ hh) ?_
            refine j_callSr (as := [.int (fX2_sameMarks σ h a1 (nI k5_6))]) (st := []) (r := .int (fJ6_bitCount σ (fX2_sameMarks σ h a1 (nI k5_6)))) (σ9 := σ) F zJ6_bitCount dX2_alikeTo_37 40 rfl pJ6_bitCount rfl (by decide) (by decide) (Nat.le_of_ble_eq_true rfl) rfl qX2_72 (kJ6_bitCount l D (fX2_sameMarks σ h a1 (nI k5_6)) σ) ?_
            refine j_iload_n F dX2_alikeTo_40 41 rfl 2 rfl ?_
            refine j_icmp_lt F dX2_alikeTo_41 53 (by decide) 44 rfl (fun c_41 => ?_) (fun c_41 => ?_)
            · rw [if_pos c_41]
              refine j_iload F dX2_alikeTo_44 46 rfl 4 rfl ?_
              refine j_iconst (v := 1) F dX2_alikeTo_46 47 rfl (by decide) ?_
              refine j_iload F dX2_alikeTo_47 49 rfl 5 rfl ?_
              refine j_ishl F dX2_alikeTo_49 50 rfl ?_
              refine j_ior F dX2_alikeTo_50 51 rfl ?_
              refine j_istore F dX2_alikeTo_51 53 rfl (by decide) [(4, .int (x4_6 ||| (1 <<< ((nI k5_6) &&& 31)))), (0, .ref (D.2.1 h)), (1, .int a1), (2, .int a2), (3, .int a3), (5, .int (nI k5_6))] rfl ?_
              refine j_iinc F dX2_alikeTo_53 56 rfl 5 rfl (nI (k5_6 + 1)) (nI_inc k5_6) (by decide) [(5, .int (nI (k5_6 + 1))), (4, .int (x4_6 ||| (1 <<< ((nI k5_6) &&& 31)))), (0, .ref (D.2.1 h)), (1, .int a1), (2, .int a2), (3, .int a3)] rfl ?_
              refine j_goto F dX2_alikeTo_56 6 (by decide) ?_
              refine j_pick [2, 3, 4, 5, 1, 0] [(0, .ref (D.2.1 h)), (1, .int a1), (2, .int a2), (3, .int a3), (4, .int (x4_6 ||| (1 <<< ((nI k5_6) &&& 31)))), (5, .int (nI (k5_6 + 1)))] rfl ?_
              exact ih_6 (x4_6 ||| (1 <<< ((nI k5_6) &&& 31))) (k5_6 + 1) (by omega) (by omega)
            · rw [if_neg c_41]
              refine j_iinc F dX2_alikeTo_53 56 rfl 5 rfl (nI (k5_6 + 1)) (nI_inc k5_6) (by decide) [(5, .int (nI (k5_6 + 1))), (0, .ref (D.2.1 h)), (1, .int a1), (2, .int a2), (3, .int a3), (4, .int x4_6)] rfl ?_
              refine j_goto F dX2_alikeTo_56 6 (by decide) ?_
              refine j_pick [1, 2, 3, 4, 5, 0] [(0, .ref (D.2.1 h)), (1, .int a1), (2, .int a2), (3, .int a3), (4, .int x4_6), (5, .int (nI (k5_6 + 1)))] rfl ?_
              exact ih_6 x4_6 (k5_6 + 1) (by omega) (by omega)
          · rw [if_neg c_27]
            refine j_iinc F dX2_alikeTo_53 56 rfl 5 rfl (nI (k5_6 + 1)) (nI_inc k5_6) (by decide) [(5, .int (nI (k5_6 + 1))), (0, .ref (D.2.1 h)), (1, .int a1), (2, .int a2), (3, .int a3), (4, .int x4_6)] rfl ?_
            refine j_goto F dX2_alikeTo_56 6 (by decide) ?_
            refine j_pick [1, 2, 3, 4, 5, 0] [(0, .ref (D.2.1 h)), (1, .int a1), (2, .int a2), (3, .int a3), (4, .int x4_6), (5, .int (nI (k5_6 + 1)))] rfl ?_
            exact ih_6 x4_6 (k5_6 + 1) (by omega) (by omega)
        · rw [if_pos c_18]
          refine j_iinc F dX2_alikeTo_53 56 rfl 5 rfl (nI (k5_6 + 1)) (nI_inc k5_6) (by decide) [(5, .int (nI (k5_6 + 1))), (0, .ref (D.2.1 h)), (1, .int a1), (2, .int a2), (3, .int a3), (4, .int x4_6)] rfl ?_
          refine j_goto F dX2_alikeTo_56 6 (by decide) ?_
          refine j_pick [1, 2, 3, 4, 5, 0] [(0, .ref (D.2.1 h)), (1, .int a1), (2, .int a2), (3, .int a3), (4, .int x4_6), (5, .int (nI (k5_6 + 1)))] rfl ?_
          exact ih_6 x4_6 (k5_6 + 1) (by omega) (by omega)
      · rw [if_neg c_12]
        refine j_iload F dX2_alikeTo_59 61 rfl 4 rfl ?_
        exact j_ret_i F dX2_alikeTo_61 rfl rfl rfl
  refine j_pick [2, 3, 4, 5, 1, 0] [(0, .ref (D.2.1 h)), (1, .int a1), (2, .int a2), (3, .int a3), (4, .int 0), (5, .int 0)] rfl ?_
  exact lp_6 (mX2_alikeTo_6 σ h a1 a2 a3 + 1) 0 0 (by omega) (by omega)
