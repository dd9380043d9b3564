def fJ6_bc1 (x : Int32) : Int32 := (x - (((x).toUInt32 >>> ((1).toUInt32 &&& Int32.toUInt32 31)).toInt32 &&& 1431655765))
def fJ6_bc2 (x : Int32) : Int32 := ((x &&& 858993459) + (((x).toUInt32 >>> ((2).toUInt32 &&& Int32.toUInt32 31)).toInt32 &&& 858993459))
def fJ6_bc3 (x : Int32) : Int32 := ((x + ((x).toUInt32 >>> ((4).toUInt32 &&& Int32.toUInt32 31)).toInt32) &&& 252645135)
def fJ6_bc4 (x : Int32) : Int32 := (x + ((x).toUInt32 >>> ((8).toUInt32 &&& Int32.toUInt32 31)).toInt32)
def fJ6_bc5 (x : Int32) : Int32 := (x + ((x).toUInt32 >>> ((16).toUInt32 &&& Int32.toUInt32 31)).toInt32)
def fJ6_bitCount  (a1 : Int32) : Int32 := ((fJ6_bc5 (fJ6_bc4 (fJ6_bc3 (fJ6_bc2 (fJ6_bc1 a1))))) &&& 63)
set_option maxRecDepth 20000 in
theorem kJ6_bitCount (l : Launch) (D : Dm) (a1 : Int32) (σ : Mm)  : Ct l yJ6_bitCount_0f7a4 cJ6_bitCount_0f7a4 1 (some .int) 1 D [.int a1] σ (some (.int (fJ6_bitCount a1)), σ) := by
  refine ct_of (by decide +kernel) (Nat.le_of_ble_eq_true rfl) (fun X F => ?_)
  have F : Fx X l 1 D cJ6_bitCount_0f7a4 RJ6 1 (some .int) := F
  show JJ X 1 D σ 0 [(0, .int a1)] [] (QQ X D (some (.int (fJ6_bitCount a1)), σ))
  rw [fJ6_bitCount]
  refine j_iload_n F dJ6_bitCount_0f7a4_0 1 rfl 0 rfl ?_
  refine j_iload_n F dJ6_bitCount_0f7a4_1 2 rfl 0 rfl ?_
  refine j_iconst (v := 1) F dJ6_bitCount_0f7a4_2 3 rfl (by decide) ?_
  refine j_iushr F dJ6_bitCount_0f7a4_3 4 rfl ?_
  refine j_ldcw F dJ6_bitCount_0f7a4_4 7 rfl qJ6_265 ?_
  refine j_iand F dJ6_bitCount_0f7a4_7 8 rfl ?_
  refine j_isub F dJ6_bitCount_0f7a4_8 9 rfl ?_
  refine j_istore_n F dJ6_bitCount_0f7a4_9 10 rfl 0 rfl (by decide) [(0, .int (fJ6_bc1 a1))] rfl ?_
  refine j_iload_n F dJ6_bitCount_0f7a4_10 11 rfl 0 rfl ?_
  refine j_ldcw F dJ6_bitCount_0f7a4_11 14 rfl qJ6_266 ?_
  refine j_iand F dJ6_bitCount_0f7a4_14 15 rfl ?_
  refine j_iload_n F dJ6_bitCount_0f7a4_15 16 rfl 0 rfl ?_
  refine j_iconst (v := 2) F dJ6_bitCount_0f7a4_16 17 rfl (by decide) ?_
  refine j_iushr F dJ6_bitCount_0f7a4_17 18 rfl ?_
  refine j_ldcw F dJ6_bitCount_0f7a4_18 21 rfl qJ6_266 ?_
  refine j_iand F dJ6_bitCount_0f7a4_21 22 rfl ?_
  refine j_iadd F dJ6_bitCount_0f7a4_22 23 rfl ?_
  refine j_istore_n F dJ6_bitCount_0f7a4_23 24 rfl 0 rfl (by decide) [(0, .int (fJ6_bc2 (fJ6_bc1 a1)))] rfl ?_
  refine j_iload_n F dJ6_bitCount_0f7a4_24 25 rfl 0 rfl ?_
  refine j_iload_n F dJ6_bitCount_0f7a4_25 26 rfl 0 rfl ?_
  refine j_iconst (v := 4) F dJ6_bitCount_0f7a4_26 27 rfl (by decide) ?_
  refine j_iushr F dJ6_bitCount_0f7a4_27 28 rfl ?_
  refine j_iadd F dJ6_bitCount_0f7a4_28 29 rfl ?_
  refine j_ldcw F dJ6_bitCount_0f7a4_29 32 rfl qJ6_267 ?_
  refine j_iand F dJ6_bitCount_0f7a4_32 33 rfl ?_
  refine j_istore_n F dJ6_bitCount_0f7a4_33 34 rfl 0 rfl (by decide) [(0, .int (fJ6_bc3 (fJ6_bc2 (fJ6_bc1 a1))))] rfl ?_
  refine j_iload_n F dJ6_bitCount_0f7a4_34 35 rfl 0 rfl ?_
  refine j_iload_n F dJ6_bitCount_0f7a4_35 36 rfl 0 rfl ?_
  refine j_bipush (v := 8) F dJ6_bitCount_0f7a4_36 38 rfl (by decide) ?_
  refine j_iushr F dJ6_bitCount_0f7a4_38 39 rfl ?_
  refine j_iadd F dJ6_bitCount_0f7a4_39 40 rfl ?_
  refine j_istore_n F dJ6_bitCount_0f7a4_40 41 rfl 0 rfl (by decide) [(0, .int (fJ6_bc4 (fJ6_bc3 (fJ6_bc2 (fJ6_bc1 a1)))))] rfl ?_
  refine j_iload_n F dJ6_bitCount_0f7a4_41 42 rfl 0 rfl ?_
  refine j_iload_n F dJ6_bitCount_0f7a4_42 43 rfl 0 rfl ?_
  refine j_bipush (v := 16) F dJ6_bitCount_0f7a4_43 45 rfl (by decide) ?_
  refine j_iushr F dJ6_bitCount_0f7a4_45 46 rfl ?_
  refine j_iadd F dJ6_bitCount_0f7a4_46 47 rfl ?_
  refine j_istore_n F dJ6_bitCount_0f7a4_47 48 rfl 0 rfl (by decide) [(0, .int (fJ6_bc5 (fJ6_bc4 (fJ6_bc3 (fJ6_bc2 (fJ6_bc1 a1))))))] rfl ?_
  refine j_iload_n F dJ6_bitCount_0f7a4_48 49 rfl 0 rfl ?_
  refine j_bipush (v := 63) F dJ6_bitCount_0f7a4_49 51 rfl (by decide) ?_
  refine j_iand F dJ6_bitCount_0f7a4_51 52 rfl ?_
  exact j_ret_i F dJ6_bitCount_0f7a4_52 rfl rfl rfl
def fX9_holds  (a1 : Int32) (a2 : Int32) : Bool := if 0 ≤ a2 then (if a2 < 8 then (if ((a1 >>> (a2 &&& 31)) &&& 1) = 1 then (true) else (false)) else (false)) else (false)
set_option maxRecDepth 20000 in
theorem kX9_holds (l : Launch) (D : Dm) (a1 : Int32) (a2 : Int32) (σ : Mm)  : Ct l yX9_holds cX9_holds 2 (some .boolean) 1 D [.int a1, .int a2] σ (some (.int (bi (fX9_holds a1 a2))), σ) := by
  refine ct_of (by decide +kernel) (Nat.le_of_ble_eq_true rfl) (fun X F => ?_)
  have F : Fx X l 2 D cX9_holds RX9 1 (some .boolean) := F
  show JJ X 2 D σ 0 [(0, .int a1), (1, .int a2)] [] (QQ X D (some (.int (bi (fX9_holds a1 a2))), σ))
  rw [fX9_holds]
  refine j_iload_n F dX9_holds_0 1 rfl 1 rfl ?_
  refine j_if_lt F dX9_holds_1 23 (by decide) 4 rfl (fun c_1 => ?_) (fun c_1 => ?_)
  · rw [if_pos c_1]
    refine j_iload_n F dX9_holds_4 5 rfl 1 rfl ?_
    refine j_bipush (v := 8) F dX9_holds_5 7 rfl (by decide) ?_
    refine j_icmp_ge F dX9_holds_7 23 (by decide) 10 rfl (fun c_7 => ?_) (fun c_7 => ?_)
    · rw [if_pos c_7]
      refine j_iload_n F dX9_holds_10 11 rfl 0 rfl ?_
      refine j_iload_n F dX9_holds_11 12 rfl 1 rfl ?_
      refine j_ishr F dX9_holds_12 13 rfl ?_
      refine j_iconst (v := 1) F dX9_holds_13 14 rfl (by decide) ?_
      refine j_iand F dX9_holds_14 15 rfl ?_
      refine j_iconst (v := 1) F dX9_holds_15 16 rfl (by decide) ?_
      refine j_icmp_ne F dX9_holds_16 23 (by decide) 19 rfl (fun c_16 => ?_) (fun c_16 => ?_)
      · rw [if_pos c_16]
        refine j_iconst (v := 1) F dX9_holds_19 20 rfl (by decide) ?_
        refine j_goto F dX9_holds_20 24 (by decide) ?_
        exact j_ret_b (b := true) F dX9_holds_24 rfl rfl rfl
      · rw [if_neg c_16]
        refine j_iconst (v := 0) F dX9_holds_23 24 rfl (by decide) ?_
        exact j_ret_b (b := false) F dX9_holds_24 rfl rfl rfl
    · rw [if_neg c_7]
      refine j_iconst (v := 0) F dX9_holds_23 24 rfl (by decide) ?_
      exact j_ret_b (b := false) F dX9_holds_24 rfl rfl rfl
  · rw [if_neg c_1]
    refine j_iconst (v := 0) F dX9_holds_23 24 rfl (by decide) ?_
    exact j_ret_b (b := false) F dX9_holds_24 rfl rfl rfl
def fX2_all (σ : Mm) (h : Nat) : Int32 := ((1 <<< ((σ.1 h 1) &&& 31)) - 1)
set_option maxRecDepth 20000 in
theorem kX2_all (l : Launch) (D : Dm) (h : Nat) (σ : Mm) (hh : hsP h) : Ct l yX2_all cX2_all 1 (some .int) 1 D [.ref (D.2.1 h)] σ (some (.int (fX2_all σ h)), σ) := by
  refine ct_of (by decide +kernel) (Nat.le_of_ble_eq_true rfl) (fun X F => ?_)
  have F : Fx X l 1 D cX2_all RX2 1 (some .int) := F
  show JJ X 1 D σ 0 [(0, .ref (D.2.1 h))] [] (QQ X D (some (.int (fX2_all σ h)), σ))
  rw [fX2_all]
  refine j_iconst (v := 1) F dX2_all_0 1 rfl (by decide) ?_
  refine j_aload_n F dX2_all_1 2 rfl 0 rfl ?_
  refine j_get (j := 1) F dX2_all_2 5 rfl inX2 rfl (hsP.lt hh) (shH hh) (by decide) qX2_23 rfl ?_
  refine j_ishl F dX2_all_5 6 rfl ?_
  refine j_iconst (v := 1) F dX2_all_6 7 rfl (by decide) ?_
  refine j_isub F dX2_all_7 8 rfl ?_
  exact j_ret_i F dX2_all_8 rfl rfl rfl
def fX2_there (σ : Mm) (h : Nat) : Int32 := ((fX2_all σ h) &&& ((σ.1 h 5) ^^^ (-1)))
set_option maxRecDepth 20000 in
theorem kX2_there (l : Launch) (D : Dm) (h : Nat) (σ : Mm) (hh : hsP h) : Ct l yX2_there cX2_there 1 (some .int) 2 D [.ref (D.2.1 h)] σ (some (.int (fX2_there σ h)), σ) := by
  refine ct_of (by decide +kernel) (Nat.le_of_ble_eq_true rfl) (fun X F => ?_)
  have F : Fx X l 1 D cX2_there RX2 2 (some .int) := F
  show JJ X 1 D σ 0 [(0, .ref (D.2.1 h))] [] (QQ X D (some (.int (fX2_there σ h)), σ))
  rw [fX2_there]
  refine j_aload_n F dX2_there_0 1 rfl 0 rfl ?_
  refine j_callVr (as := []) (st := []) (r := .int (fX2_all σ h)) (σ9 := σ) F zX2_all dX2_there_1 4 rfl pX2_all rfl (by decide) (by decide) (Nat.le_of_ble_eq_true rfl) rfl qX2_59 rfl rfl (hsP.lt hh) (shH hh) (kX2_all l D h σ hh) ?_
  refine j_aload_n F dX2_there_4 5 rfl 0 rfl ?_
  refine j_get (j := 5) F dX2_there_5 8 rfl inX2 rfl (hsP.lt hh) (shH hh) (by decide) qX2_32 rfl ?_
  refine j_iconst (v := (-1)) F dX2_there_8 9 rfl (by decide) ?_
  refine j_ixor F dX2_there_9 10 rfl ?_
  refine j_iand F dX2_there_10 11 rfl ?_
  exact j_ret_i F dX2_there_11 rfl rfl rfl
def fX2_breakable (σ : Mm) (h : Nat) : Int32 := (((fX2_there σ h) &&& ((σ.1 h 7) ^^^ (-1))) &&& ((σ.1 h 4) ^^^ (-1)))
set_option maxRecDepth 20000 in
theorem kX2_breakable (l : Launch) (D : Dm) (h : Nat) (σ : Mm) (hh : hsP h) : Ct l yX2_breakable cX2_breakable 1 (some .int) 3 D [.ref (D.2.1 h)] σ (some (.int (fX2_breakable σ h)), σ) := by
  refine ct_of (by decide +kernel) (Nat.le_of_ble_eq_true rfl) (fun X F => ?_)
  have F : Fx X l 1 D cX2_breakable RX2 3 (some .int) := F
  show JJ X 1 D σ 0 [(0, .ref (D.2.1 h))] [] (QQ X D (some (.int (fX2_breakable σ h)), σ))
  rw [fX2_breakable]
  refine j_aload_n F dX2_breakable_0 1 rfl 0 rfl ?_
  refine j_callVr (as := []) (st := []) (r := .int (fX2_there σ h)) (σ9 := σ) F zX2_there dX2_breakable_1 4 rfl pX2_there rfl (by decide) (by decide) (Nat.le_of_ble_eq_true rfl) rfl qX2_62 rfl rfl (hsP.lt hh) (shH hh) (kX2_there l D h σ hh) ?_
  refine j_aload_n F dX2_breakable_4 5 rfl 0 rfl ?_
  refine j_get (j := 7) F dX2_breakable_5 8 rfl inX2 rfl (hsP.lt hh) (shH hh) (by decide) qX2_38 rfl ?_
  refine j_iconst (v := (-1)) F dX2_breakable_8 9 rfl (by decide) ?_
  refine j_ixor F dX2_breakable_9 10 rfl ?_
  refine j_iand F dX2_breakable_10 11 rfl ?_
  refine j_aload_n F dX2_breakable_11 12 rfl 0 rfl ?_
  refine j_get (j := 4) F dX2_breakable_12 15 rfl inX2 rfl (hsP.lt hh) (shH hh) (by decide) qX2_29 rfl ?_
  refine j_iconst (v := (-1)) F dX2_breakable_15 16 rfl (by decide) ?_
  refine j_ixor F dX2_breakable_16 17 rfl ?_
  refine j_iand F dX2_breakable_17 18 rfl ?_
  exact j_ret_i F dX2_breakable_18 rfl rfl rfl
def fX9_at (σ : Mm) (q : Nat) (N : Nat) (a2 : Int32) : Int32 := if 0 ≤ a2 then (if a2 < (nI N) then ((σ.1 q a2.toNatClampNeg)) else (0)) else (0)
set_option maxRecDepth 20000 in
theorem kX9_at (l : Launch) (D : Dm) (q : Nat) (N : Nat) (a2 : Int32) (σ : Mm) (hq : iaP q N) : Ct l yX9_at cX9_at 2 (some .int) 1 D [.ref (D.2.1 q), .int a2] σ (some (.int (fX9_at σ q N a2)), σ) := by
  refine ct_of (by decide +kernel) (Nat.le_of_ble_eq_true rfl) (fun X F => ?_)
  have F : Fx X l 2 D cX9_at RX9 1 (some .int) := F
  show JJ X 2 D σ 0 [(0, .ref (D.2.1 q)), (1, .int a2)] [] (QQ X D (some (.int (fX9_at σ q N a2)), σ))
  rw [fX9_at]
  refine j_aload_n F dX9_at_0 1 rfl 0 rfl ?_
  refine j_ifnull F dX9_at_1 4 rfl ?_
  refine j_iload_n F dX9_at_4 5 rfl 1 rfl ?_
  refine j_if_lt F dX9_at_5 20 (by decide) 8 rfl (fun c_5 => ?_) (fun c_5 => ?_)
  · rw [if_pos c_5]
    refine j_iload_n F dX9_at_8 9 rfl 1 rfl ?_
    refine j_aload_n F dX9_at_9 10 rfl 0 rfl ?_
    refine j_alen F dX9_at_10 11 rfl hq ?_
    refine j_icmp_ge F dX9_at_11 20 (by decide) 14 rfl (fun c_11 => ?_) (fun c_11 => ?_)
    · rw [if_pos c_11]
      refine j_aload_n F dX9_at_14 15 rfl 0 rfl ?_
      refine j_iload_n F dX9_at_15 16 rfl 1 rfl ?_
      refine j_iald F dX9_at_16 17 rfl hq (vin_c (by assumption) (by assumption) (by have := hq.2.1; omega)) ?_
      refine j_goto F dX9_at_17 21 (by decide) ?_
      exact j_ret_i F dX9_at_21 rfl rfl rfl
    · rw [if_neg c_11]
      refine j_iconst (v := 0) F dX9_at_20 21 rfl (by decide) ?_
      exact j_ret_i F dX9_at_21 rfl rfl rfl
  · rw [if_neg c_5]
    refine j_iconst (v := 0) F dX9_at_20 21 rfl (by decide) ?_
    exact j_ret_i F dX9_at_21 rfl rfl rfl
def fX2_sameMarks_24 (σ : Mm) (h : Nat) (a1 : Int32) (a2 : Int32)  : Nat → Int32 → Int32 → Nat → Int32
  | 0, _, _, _ => 0
  | n + 1, x3_24, x4_24, k5_24 => if (nI k5_24) < 4 then (if ((x3_24 >>> ((4 * (nI k5_24)) &&& 31)) &&& 15) = 0 then (fX2_sameMarks_24 σ h a1 a2 n x3_24 (x4_24 ||| (1 <<< ((nI k5_24) &&& 31))) (k5_24 + 1)) else (fX2_sameMarks_24 σ h a1 a2 n x3_24 x4_24 (k5_24 + 1))) else (x4_24)
def fX2_sameMarks (σ : Mm) (h : Nat) (a1 : Int32) (a2 : Int32) : Int32 := fX2_sameMarks_24 σ h a1 a2 5 ((fX9_at σ (h + 1) 8 a1) ^^^ (fX9_at σ (h + 1) 8 a2)) 0 0
set_option maxRecDepth 20000 in
theorem kX2_sameMarks (l : Launch) (D : Dm) (h : Nat) (a1 : Int32) (a2 : Int32) (σ : Mm) (hh : hsP h) : Ct l yX2_sameMarks cX2_sameMarks 6 (some .int) 2 D [.ref (D.2.1 h), .int a1, .int a2] σ (some (.int (fX2_sameMarks σ h a1 a2)), σ) := by
  refine ct_of (by decide +kernel) (Nat.le_of_ble_eq_true rfl) (fun X F => ?_)
  have F : Fx X l 6 D cX2_sameMarks RX2 2 (some .int) := F
  show JJ X 6 D σ 0 [(0, .ref (D.2.1 h)), (1, .int a1), (2, .int a2)] [] (QQ X D (some (.int (fX2_sameMarks σ h a1 a2)), σ))
  rw [fX2_sameMarks]
  refine j_aload_n F dX2_sameMarks_0 1 rfl 0 rfl ?_
  refine j_get (j := 0) F dX2_sameMarks_1 4 rfl inX2 rfl (hsP.lt hh) (shH hh) (by decide) qX2_9 rfl ?_
  refine j_iload_n F dX2_sameMarks_4 5 rfl 1 rfl ?_
  refine j_callSNr (as := [.ref (D.2.1 (h + 1)), .int a1]) (st := []) (r := .int (fX9_at σ (h + 1) 8 a1)) (σ9 := σ) F zX9_at dX2_sameMarks_5 8 rfl pX9_at rfl (by decide) (by decide) (Nat.le_of_ble_eq_true rfl) rfl qX2_19 (kX9_at l D (h + 1) 8 a1 σ (iaT hh)) ?_
  refine j_aload_n F dX2_sameMarks_8 9 rfl 0 rfl ?_
  refine j_get (j := 0) F dX2_sameMarks_9 12 rfl inX2 rfl (hsP.lt hh) (shH hh) (by decide) qX2_9 rfl ?_
  refine j_iload_n F dX2_sameMarks_12 13 rfl 2 rfl ?_
  refine j_callSNr (as := [.ref (D.2.1 (h + 1)), .int a2]) (st := [.int (fX9_at σ (h + 1) 8 a1)]) (r := .int (fX9_at σ (h + 1) 8 a2)) (σ9 := σ) F zX9_at dX2_sameMarks_13 16 rfl pX9_at rfl (by decide) (by decide) (Nat.le_of_ble_eq_true rfl) rfl qX2_19 (kX9_at l D (h + 1) 8 a2 σ (iaT hh)) ?_
  refine j_ixor F dX2_sameMarks_16 17 rfl ?_
  refine j_istore_n F dX2_sameMarks_17 18 rfl 3 rfl (by decide) [(3, .int ((fX9_at σ (h + 1) 8 a1) ^^^ (fX9_at σ (h + 1) 8 a2))), (0, .ref (D.2.1 h)), (1, .int a1), (2, .int a2)] rfl ?_
  refine j_iconst (v := 0) F dX2_sameMarks_18 19 rfl (by decide) ?_
  refine j_istore F dX2_sameMarks_19 21 rfl (by decide) [(4, .int 0), (3, .int ((fX9_at σ (h + 1) 8 a1) ^^^ (fX9_at σ (h + 1) 8 a2))), (0, .ref (D.2.1 h)), (1, .int a1), (2, .int a2)] rfl ?_
  refine j_iconst (v := 0) F dX2_sameMarks_21 22 rfl (by decide) ?_
  refine j_istore F dX2_sameMarks_22 24 rfl (by decide) [(5, .int 0), (4, .int 0), (3, .int ((fX9_at σ (h + 1) 8 a1) ^^^ (fX9_at σ (h + 1) 8 a2))), (0, .ref (D.2.1 h)), (1, .int a1), (2, .int a2)] rfl ?_
  have lp_24 : ∀ (n_24 : Nat) (x4_24 : Int32) (k5_24 : Nat), k5_24 ≤ 4 → 4 < k5_24 + n_24 → JJ X 6 D σ 24 [(3, .int ((fX9_at σ (h + 1) 8 a1) ^^^ (fX9_at σ (h + 1) 8 a2))), (4, .int x4_24), (5, .int (nI k5_24))] [] (QQ X D (some (.int (fX2_sameMarks_24 σ h a1 a2 n_24 ((fX9_at σ (h + 1) 8 a1) ^^^ (fX9_at σ (h + 1) 8 a2)) x4_24 k5_24)), σ)) := by
    intro n_24
    induction n_24 with
    | zero => intro x4_24 k5_24 hk_24 hn_24; exact absurd hn_24 (by omega)
    | succ n_24 ih_24 =>
      intro x4_24 k5_24 hk_24 hn_24
      rw [fX2_sameMarks_24]
      refine j_iload F dX2_sameMarks_24 26 rfl 2 rfl ?_
      refine j_iconst (v := 4) F dX2_sameMarks_26 27 rfl (by decide) ?_
      refine j_icmp_ge F dX2_sameMarks_27 57 (by decide) 30 rfl (fun c_27 => ?_) (fun c_27 => ?_)
      · rw [if_pos c_27]
        have h_27 : k5_24 < 4 := nlt c_27 (by decide) (by omega)
        refine j_iload_n F dX2_sameMarks_30 31 rfl 0 rfl ?_
        refine j_iconst (v := 4) F dX2_sameMarks_31 32 rfl (by decide) ?_
        refine j_iload F dX2_sameMarks_32 34 rfl 2 rfl ?_
        refine j_imul F dX2_sameMarks_34 35 rfl ?_
        refine j_ishr F dX2_sameMarks_35 36 rfl ?_
        refine j_bipush (v := 15) F dX2_sameMarks_36 38 rfl (by decide) ?_
        refine j_iand F dX2_sameMarks_38 39 rfl ?_
        refine j_if_ne F dX2_sameMarks_39 51 (by decide) 42 rfl (fun c_39 => ?_) (fun c_39 => ?_)
        · rw [if_pos c_39]
          refine j_iload F dX2_sameMarks_42 44 rfl 1 rfl ?_
          refine j_iconst (v := 1) F dX2_sameMarks_44 45 rfl (by decide) ?_
          refine j_iload F dX2_sameMarks_45 47 rfl 2 rfl ?_
          refine j_ishl F dX2_sameMarks_47 48 rfl ?_
          refine j_ior F dX2_sameMarks_48 49 rfl ?_
          refine j_istore F dX2_sameMarks_49 51 rfl (by decide) [(4, .int (x4_24 ||| (1 <<< ((nI k5_24) &&& 31)))), (3, .int ((fX9_at σ (h + 1) 8 a1) ^^^ (fX9_at σ (h + 1) 8 a2))), (5, .int (nI k5_24))] rfl ?_
          refine j_iinc F dX2_sameMarks_51 54 rfl 2 rfl (nI (k5_24 + 1)) (nI_inc k5_24) (by decide) [(5, .int (nI (k5_24 + 1))), (4, .int (x4_24 ||| (1 <<< ((nI k5_24) &&& 31)))), (3, .int ((fX9_at σ (h + 1) 8 a1) ^^^ (fX9_at σ (h + 1) 8 a2)))] rfl ?_
          refine j_goto F dX2_sameMarks_54 24 (by decide) ?_
          refine j_pick [2, 1, 0] [(3, .int ((fX9_at σ (h + 1) 8 a1) ^^^ (fX9_at σ (h + 1) 8 a2))), (4, .int (x4_24 ||| (1 <<< ((nI k5_24) &&& 31)))), (5, .int (nI (k5_24 + 1)))] rfl ?_
          exact ih_24 (x4_24 ||| (1 <<< ((nI k5_24) &&& 31))) (k5_24 + 1) (by omega) (by omega)
        · rw [if_neg c_39]
          refine j_iinc F dX2_sameMarks_51 54 rfl 2 rfl (nI (k5_24 + 1)) (nI_inc k5_24) (by decide) [(5, .int (nI (k5_24 + 1))), (3, .int ((fX9_at σ (h + 1) 8 a1) ^^^ (fX9_at σ (h + 1) 8 a2))), (4, .int x4_24)] rfl ?_
          refine j_goto F dX2_sameMarks_54 24 (by decide) ?_
          refine j_pick [1, 2, 0] [(3, .int ((fX9_at σ (h + 1) 8 a1) ^^^ (fX9_at σ (h + 1) 8 a2))), (4, .int x4_24), (5, .int (nI (k5_24 + 1)))] rfl ?_
          exact ih_24 x4_24 (k5_24 + 1) (by omega) (by omega)
      · rw [if_neg c_27]
        refine j_iload F dX2_sameMarks_57 59 rfl 1 rfl ?_
        exact j_ret_i F dX2_sameMarks_59 rfl rfl rfl
  refine j_pick [2, 1, 0] [(3, .int ((fX9_at σ (h + 1) 8 a1) ^^^ (fX9_at σ (h + 1) 8 a2))), (4, .int 0), (5, .int 0)] rfl ?_
  exact lp_24 5 0 0 (by omega) (by omega)
def mX2_alikeTo_6 (σ : Mm) (h : Nat) (a1 : Int32) (a2 : Int32) (a3 : Int32)  : Nat := ((σ.1 h 1) : Int32).toNatClampNeg
def fX2_alikeTo_6 (σ : Mm) (h : Nat) (a1 : Int32) (a2 : Int32) (a3 : Int32)  : Nat → Int32 → Nat → Int32
  | 0, _, _ => 0
  | n + 1, x4_6, k5_6 => if (nI k5_6) < (σ.1 h 1) then (if (nI k5_6) = a1 then (fX2_alikeTo_6 σ h a1 a2 a3 n x4_6 (k5_6 + 1)) else (if (fX9_holds a3 (nI k5_6)) = true then (if a2 ≤ (fJ6_bitCount (fX2_sameMarks σ h a1 (nI k5_6))) then (fX2_alikeTo_6 σ h a1 a2 a3 n (x4_6 ||| (1 <<< ((nI k5_6) &&& 31))) (k5_6 + 1)) else (fX2_alikeTo_6 σ h a1 a2 a3 n x4_6 (k5_6 + 1))) else (fX2_alikeTo_6 σ h a1 a2 a3 n x4_6 (k5_6 + 1)))) else (x4_6)
def fX2_alikeTo (σ : Mm) (h : Nat) (a1 : Int32) (a2 : Int32) (a3 : Int32) : Int32 := fX2_alikeTo_6 σ h a1 a2 a3 (mX2_alikeTo_6 σ h a1 a2 a3 + 1) 0 0
set_option maxRecDepth 20000 in
theorem kX2_alikeTo (l : Launch) (D : Dm) (h : Nat) (a1 : Int32) (a2 : Int32) (a3 : Int32) (σ : Mm) (hh : hsP h) : Ct l yX2_alikeTo cX2_alikeTo 6 (some .int) 3 D [.ref (D.2.1 h), .int a1, .int a2, .int a3] σ (some (.int (fX2_alikeTo σ h a1 a2 a3)), σ) := by
  refine ct_of (by decide +kernel) (Nat.le_of_ble_eq_true rfl) (fun X F => ?_)
  have F : Fx X l 6 D cX2_alikeTo RX2 3 (some .int) := F
  show JJ X 6 D σ 0 [(0, .ref (D.2.1 h)), (1, .int a1), (2, .int a2), (3, .int a3)] [] (QQ X D (some (.int (fX2_alikeTo σ h a1 a2 a3)), σ))
  rw [fX2_alikeTo]
  refine j_iconst (v := 0) F dX2_alikeTo_0 1 rfl (by decide) ?_
  refine j_istore F dX2_alikeTo_1 3 rfl (by decide) [(4, .int 0), (0, .ref (D.2.1 h)), (1, .int a1), (2, .int a2), (3, .int a3)] rfl ?_
  refine j_iconst (v := 0) F dX2_alikeTo_3 4 rfl (by decide) ?_
  refine j_istore F dX2_alikeTo_4 6 rfl (by decide) [(5, .int 0), (4, .int 0), (0, .ref (D.2.1 h)), (1, .int a1), (2, .int a2), (3, .int a3)] rfl ?_
  have lp_6 : ∀ (n_6 : Nat) (x4_6 : Int32) (k5_6 : Nat), k5_6 ≤ (((σ.1 h 1) : Int32).toNatClampNeg) → (((σ.1 h 1) : Int32).toNatClampNeg) < k5_6 + n_6 → JJ X 6 D σ 6 [(0, .ref (D.2.1 h)), (1, .int a1), (2, .int a2), (3, .int a3), (4, .int x4_6), (5, .int (nI k5_6))] [] (QQ X D (some (.int (fX2_alikeTo_6 σ h a1 a2 a3 n_6 x4_6 k5_6)), σ)) := by
    intro n_6
    induction n_6 with
    | zero => intro x4_6 k5_6 hk_6 hn_6; exact absurd hn_6 (by omega)
    | succ n_6 ih_6 =>
      intro x4_6 k5_6 hk_6 hn_6
      rw [fX2_alikeTo_6]
      refine j_iload F dX2_alikeTo_6 8 rfl 5 rfl ?_
      refine j_aload_n F dX2_alikeTo_8 9 rfl 0 rfl ?_
      refine j_get (j := 1) F dX2_alikeTo_9 12 rfl inX2 rfl (hsP.lt hh) (shH hh) (by decide) qX2_23 rfl ?_
      refine j_icmp_ge F dX2_alikeTo_12 59 (by decide) 15 rfl (fun c_12 => ?_) (fun c_12 => ?_)
      · rw [if_pos c_12]
        have h_12 : k5_6 < (((σ.1 h 1) : Int32).toNatClampNeg) := nltd c_12 hk_6
        refine j_iload F dX2_alikeTo_15 17 rfl 5 rfl ?_
        refine j_iload_n F dX2_alikeTo_17 18 rfl 1 rfl ?_
        refine j_icmp_eq F dX2_alikeTo_18 53 (by decide) 21 rfl (fun c_18 => ?_) (fun c_18 => ?_)
        · rw [if_neg c_18]
          refine j_iload_n F dX2_alikeTo_21 22 rfl 3 rfl ?_
          refine j_iload F dX2_alikeTo_22 24 rfl 5 rfl ?_
          refine j_callSNr (as := [.int a3, .int (nI k5_6)]) (st := []) (r := .int (bi (fX9_holds a3 (nI k5_6)))) (σ9 := σ) F zX9_holds dX2_alikeTo_24 27 rfl pX9_holds rfl (by decide) (by decide) (Nat.le_of_ble_eq_true rfl) rfl qX2_65 (kX9_holds l D a3 (nI k5_6) σ) ?_
          refine j_ifb_eq F dX2_alikeTo_27 53 (by decide) 30 rfl (fun c_27 => ?_) (fun c_27 => ?_)
          · rw [if_pos c_27]
            refine j_aload_n F dX2_alikeTo_30 31 rfl 0 rfl ?_
            refine j_iload_n F dX2_alikeTo_31 32 rfl 1 rfl ?_
            refine j_iload F dX2_alikeTo_32 34 rfl 5 rfl ?_
            refine j_callVr (as := [.int a1, .int (nI k5_6)]) (st := []) (r := .int (fX2_sameMarks σ h a1 (nI k5_6))) (σ9 := σ) F zX2_sameMarks dX2_alikeTo_34 37 rfl pX2_sameMarks rfl (by decide) (by decide) (Nat.le_of_ble_eq_true rfl) rfl qX2_69 rfl rfl (hsP.lt hh) (shH hh) (kX2_sameMarks l D h a1 (nI k5_6) σ hh) ?_
            refine j_callSr (as := [.int (fX2_sameMarks σ h a1 (nI k5_6))]) (st := []) (r := .int (fJ6_bitCount (fX2_sameMarks σ h a1 (nI k5_6)))) (σ9 := σ) F zJ6_bitCount dX2_alikeTo_37 40 rfl pJ6_bitCount rfl (by decide) (by decide) (Nat.le_of_ble_eq_true rfl) rfl qX2_72 (kJ6_bitCount l D (fX2_sameMarks σ h a1 (nI k5_6)) σ) ?_
            refine j_iload_n F dX2_alikeTo_40 41 rfl 2 rfl ?_
            refine j_icmp_lt F dX2_alikeTo_41 53 (by decide) 44 rfl (fun c_41 => ?_) (fun c_41 => ?_)
            · rw [if_pos c_41]
              refine j_iload F dX2_alikeTo_44 46 rfl 4 rfl ?_
              refine j_iconst (v := 1) F dX2_alikeTo_46 47 rfl (by decide) ?_
              refine j_iload F dX2_alikeTo_47 49 rfl 5 rfl ?_
              refine j_ishl F dX2_alikeTo_49 50 rfl ?_
              refine j_ior F dX2_alikeTo_50 51 rfl ?_
              refine j_istore F dX2_alikeTo_51 53 rfl (by decide) [(4, .int (x4_6 ||| (1 <<< ((nI k5_6) &&& 31)))), (0, .ref (D.2.1 h)), (1, .int a1), (2, .int a2), (3, .int a3), (5, .int (nI k5_6))] rfl ?_
              refine j_iinc F dX2_alikeTo_53 56 rfl 5 rfl (nI (k5_6 + 1)) (nI_inc k5_6) (by decide) [(5, .int (nI (k5_6 + 1))), (4, .int (x4_6 ||| (1 <<< ((nI k5_6) &&& 31)))), (0, .ref (D.2.1 h)), (1, .int a1), (2, .int a2), (3, .int a3)] rfl ?_
              refine j_goto F dX2_alikeTo_56 6 (by decide) ?_
              refine j_pick [2, 3, 4, 5, 1, 0] [(0, .ref (D.2.1 h)), (1, .int a1), (2, .int a2), (3, .int a3), (4, .int (x4_6 ||| (1 <<< ((nI k5_6) &&& 31)))), (5, .int (nI (k5_6 + 1)))] rfl ?_
              exact ih_6 (x4_6 ||| (1 <<< ((nI k5_6) &&& 31))) (k5_6 + 1) (by omega) (by omega)
            · rw [if_neg c_41]
              refine j_iinc F dX2_alikeTo_53 56 rfl 5 rfl (nI (k5_6 + 1)) (nI_inc k5_6) (by decide) [(5, .int (nI (k5_6 + 1))), (0, .ref (D.2.1 h)), (1, .int a1), (2, .int a2), (3, .int a3), (4, .int x4_6)] rfl ?_
              refine j_goto F dX2_alikeTo_56 6 (by decide) ?_
              refine j_pick [1, 2, 3, 4, 5, 0] [(0, .ref (D.2.1 h)), (1, .int a1), (2, .int a2), (3, .int a3), (4, .int x4_6), (5, .int (nI (k5_6 + 1)))] rfl ?_
              exact ih_6 x4_6 (k5_6 + 1) (by omega) (by omega)
          · rw [if_neg c_27]
            refine j_iinc F dX2_alikeTo_53 56 rfl 5 rfl (nI (k5_6 + 1)) (nI_inc k5_6) (by decide) [(5, .int (nI (k5_6 + 1))), (0, .ref (D.2.1 h)), (1, .int a1), (2, .int a2), (3, .int a3), (4, .int x4_6)] rfl ?_
            refine j_goto F dX2_alikeTo_56 6 (by decide) ?_
            refine j_pick [1, 2, 3, 4, 5, 0] [(0, .ref (D.2.1 h)), (1, .int a1), (2, .int a2), (3, .int a3), (4, .int x4_6), (5, .int (nI (k5_6 + 1)))] rfl ?_
            exact ih_6 x4_6 (k5_6 + 1) (by omega) (by omega)
        · rw [if_pos c_18]
          refine j_iinc F dX2_alikeTo_53 56 rfl 5 rfl (nI (k5_6 + 1)) (nI_inc k5_6) (by decide) [(5, .int (nI (k5_6 + 1))), (0, .ref (D.2.1 h)), (1, .int a1), (2, .int a2), (3, .int a3), (4, .int x4_6)] rfl ?_
          refine j_goto F dX2_alikeTo_56 6 (by decide) ?_
          refine j_pick [1, 2, 3, 4, 5, 0] [(0, .ref (D.2.1 h)), (1, .int a1), (2, .int a2), (3, .int a3), (4, .int x4_6), (5, .int (nI (k5_6 + 1)))] rfl ?_
          exact ih_6 x4_6 (k5_6 + 1) (by omega) (by omega)
      · rw [if_neg c_12]
        refine j_iload F dX2_alikeTo_59 61 rfl 4 rfl ?_
        exact j_ret_i F dX2_alikeTo_61 rfl rfl rfl
  refine j_pick [2, 3, 4, 5, 1, 0] [(0, .ref (D.2.1 h)), (1, .int a1), (2, .int a2), (3, .int a3), (4, .int 0), (5, .int 0)] rfl ?_
  exact lp_6 (mX2_alikeTo_6 σ h a1 a2 a3 + 1) 0 0 (Nat.zero_le _) (by show (((σ.1 h 1) : Int32).toNatClampNeg) < 0 + ((((σ.1 h 1) : Int32).toNatClampNeg) + 1); omega)
def mX2_lastOnesBy_5 (σ : Mm) (h : Nat) (a1 : Int32) (a2 : Int32)  : Nat := ((σ.1 h 1) : Int32).toNatClampNeg
def fX2_lastOnesBy_5 (σ : Mm) (h : Nat) (a1 : Int32) (a2 : Int32)  : Nat → Int32 → Nat → Int32
  | 0, _, _ => 0
  | n + 1, x3_5, k4_5 => if (nI k4_5) < (σ.1 h 1) then (if (fX9_holds a2 (nI k4_5)) = true then (if (fX2_alikeTo σ h (nI k4_5) a1 a2) = 0 then (fX2_lastOnesBy_5 σ h a1 a2 n (x3_5 ||| (1 <<< ((nI k4_5) &&& 31))) (k4_5 + 1)) else (fX2_lastOnesBy_5 σ h a1 a2 n x3_5 (k4_5 + 1))) else (fX2_lastOnesBy_5 σ h a1 a2 n x3_5 (k4_5 + 1))) else (x3_5)
def fX2_lastOnesBy (σ : Mm) (h : Nat) (a1 : Int32) (a2 : Int32) : Int32 := fX2_lastOnesBy_5 σ h a1 a2 (mX2_lastOnesBy_5 σ h a1 a2 + 1) 0 0
set_option maxRecDepth 20000 in
theorem kX2_lastOnesBy (l : Launch) (D : Dm) (h : Nat) (a1 : Int32) (a2 : Int32) (σ : Mm) (hh : hsP h) : Ct l yX2_lastOnesBy cX2_lastOnesBy 5 (some .int) 4 D [.ref (D.2.1 h), .int a1, .int a2] σ (some (.int (fX2_lastOnesBy σ h a1 a2)), σ) := by
  refine ct_of (by decide +kernel) (Nat.le_of_ble_eq_true rfl) (fun X F => ?_)
  have F : Fx X l 5 D cX2_lastOnesBy RX2 4 (some .int) := F
  show JJ X 5 D σ 0 [(0, .ref (D.2.1 h)), (1, .int a1), (2, .int a2)] [] (QQ X D (some (.int (fX2_lastOnesBy σ h a1 a2)), σ))
  rw [fX2_lastOnesBy]
  refine j_iconst (v := 0) F dX2_lastOnesBy_0 1 rfl (by decide) ?_
  refine j_istore_n F dX2_lastOnesBy_1 2 rfl 3 rfl (by decide) [(3, .int 0), (0, .ref (D.2.1 h)), (1, .int a1), (2, .int a2)] rfl ?_
  refine j_iconst (v := 0) F dX2_lastOnesBy_2 3 rfl (by decide) ?_
  refine j_istore F dX2_lastOnesBy_3 5 rfl (by decide) [(4, .int 0), (3, .int 0), (0, .ref (D.2.1 h)), (1, .int a1), (2, .int a2)] rfl ?_
  have lp_5 : ∀ (n_5 : Nat) (x3_5 : Int32) (k4_5 : Nat), k4_5 ≤ (((σ.1 h 1) : Int32).toNatClampNeg) → (((σ.1 h 1) : Int32).toNatClampNeg) < k4_5 + n_5 → JJ X 5 D σ 5 [(0, .ref (D.2.1 h)), (1, .int a1), (2, .int a2), (3, .int x3_5), (4, .int (nI k4_5))] [] (QQ X D (some (.int (fX2_lastOnesBy_5 σ h a1 a2 n_5 x3_5 k4_5)), σ)) := by
    intro n_5
    induction n_5 with
    | zero => intro x3_5 k4_5 hk_5 hn_5; exact absurd hn_5 (by omega)
    | succ n_5 ih_5 =>
      intro x3_5 k4_5 hk_5 hn_5
      rw [fX2_lastOnesBy_5]
      refine j_iload F dX2_lastOnesBy_5 7 rfl 4 rfl ?_
      refine j_aload_n F dX2_lastOnesBy_7 8 rfl 0 rfl ?_
      refine j_get (j := 1) F dX2_lastOnesBy_8 11 rfl inX2 rfl (hsP.lt hh) (shH hh) (by decide) qX2_23 rfl ?_
      refine j_icmp_ge F dX2_lastOnesBy_11 47 (by decide) 14 rfl (fun c_11 => ?_) (fun c_11 => ?_)
      · rw [if_pos c_11]
        have h_11 : k4_5 < (((σ.1 h 1) : Int32).toNatClampNeg) := nltd c_11 hk_5
        refine j_iload_n F dX2_lastOnesBy_14 15 rfl 2 rfl ?_
        refine j_iload F dX2_lastOnesBy_15 17 rfl 4 rfl ?_
        refine j_callSNr (as := [.int a2, .int (nI k4_5)]) (st := []) (r := .int (bi (fX9_holds a2 (nI k4_5)))) (σ9 := σ) F zX9_holds dX2_lastOnesBy_17 20 rfl pX9_holds rfl (by decide) (by decide) (Nat.le_of_ble_eq_true rfl) rfl qX2_65 (kX9_holds l D a2 (nI k4_5) σ) ?_
        refine j_ifb_eq F dX2_lastOnesBy_20 41 (by decide) 23 rfl (fun c_20 => ?_) (fun c_20 => ?_)
        · rw [if_pos c_20]
          refine j_aload_n F dX2_lastOnesBy_23 24 rfl 0 rfl ?_
          refine j_iload F dX2_lastOnesBy_24 26 rfl 4 rfl ?_
          refine j_iload_n F dX2_lastOnesBy_26 27 rfl 1 rfl ?_
          refine j_iload_n F dX2_lastOnesBy_27 28 rfl 2 rfl ?_
          refine j_callVr (as := [.int (nI k4_5), .int a1, .int a2]) (st := []) (r := .int (fX2_alikeTo σ h (nI k4_5) a1 a2)) (σ9 := σ) F zX2_alikeTo dX2_lastOnesBy_28 31 rfl pX2_alikeTo rfl (by decide) (by decide) (Nat.le_of_ble_eq_true rfl) rfl qX2_84 rfl rfl (hsP.lt hh) (shH hh) (kX2_alikeTo l D h (nI k4_5) a1 a2 σ hh) ?_
          refine j_if_ne F dX2_lastOnesBy_31 41 (by decide) 34 rfl (fun c_31 => ?_) (fun c_31 => ?_)
          · rw [if_pos c_31]
            refine j_iload_n F dX2_lastOnesBy_34 35 rfl 3 rfl ?_
            refine j_iconst (v := 1) F dX2_lastOnesBy_35 36 rfl (by decide) ?_
            refine j_iload F dX2_lastOnesBy_36 38 rfl 4 rfl ?_
            refine j_ishl F dX2_lastOnesBy_38 39 rfl ?_
            refine j_ior F dX2_lastOnesBy_39 40 rfl ?_
            refine j_istore_n F dX2_lastOnesBy_40 41 rfl 3 rfl (by decide) [(3, .int (x3_5 ||| (1 <<< ((nI k4_5) &&& 31)))), (0, .ref (D.2.1 h)), (1, .int a1), (2, .int a2), (4, .int (nI k4_5))] rfl ?_
            refine j_iinc F dX2_lastOnesBy_41 44 rfl 4 rfl (nI (k4_5 + 1)) (nI_inc k4_5) (by decide) [(4, .int (nI (k4_5 + 1))), (3, .int (x3_5 ||| (1 <<< ((nI k4_5) &&& 31)))), (0, .ref (D.2.1 h)), (1, .int a1), (2, .int a2)] rfl ?_
            refine j_goto F dX2_lastOnesBy_44 5 (by decide) ?_
            refine j_pick [2, 3, 4, 1, 0] [(0, .ref (D.2.1 h)), (1, .int a1), (2, .int a2), (3, .int (x3_5 ||| (1 <<< ((nI k4_5) &&& 31)))), (4, .int (nI (k4_5 + 1)))] rfl ?_
            exact ih_5 (x3_5 ||| (1 <<< ((nI k4_5) &&& 31))) (k4_5 + 1) (by omega) (by omega)
          · rw [if_neg c_31]
            refine j_iinc F dX2_lastOnesBy_41 44 rfl 4 rfl (nI (k4_5 + 1)) (nI_inc k4_5) (by decide) [(4, .int (nI (k4_5 + 1))), (0, .ref (D.2.1 h)), (1, .int a1), (2, .int a2), (3, .int x3_5)] rfl ?_
            refine j_goto F dX2_lastOnesBy_44 5 (by decide) ?_
            refine j_pick [1, 2, 3, 4, 0] [(0, .ref (D.2.1 h)), (1, .int a1), (2, .int a2), (3, .int x3_5), (4, .int (nI (k4_5 + 1)))] rfl ?_
            exact ih_5 x3_5 (k4_5 + 1) (by omega) (by omega)
        · rw [if_neg c_20]
          refine j_iinc F dX2_lastOnesBy_41 44 rfl 4 rfl (nI (k4_5 + 1)) (nI_inc k4_5) (by decide) [(4, .int (nI (k4_5 + 1))), (0, .ref (D.2.1 h)), (1, .int a1), (2, .int a2), (3, .int x3_5)] rfl ?_
          refine j_goto F dX2_lastOnesBy_44 5 (by decide) ?_
          refine j_pick [1, 2, 3, 4, 0] [(0, .ref (D.2.1 h)), (1, .int a1), (2, .int a2), (3, .int x3_5), (4, .int (nI (k4_5 + 1)))] rfl ?_
          exact ih_5 x3_5 (k4_5 + 1) (by omega) (by omega)
      · rw [if_neg c_11]
        refine j_iload_n F dX2_lastOnesBy_47 48 rfl 3 rfl ?_
        exact j_ret_i F dX2_lastOnesBy_48 rfl rfl rfl
  refine j_pick [2, 3, 4, 1, 0] [(0, .ref (D.2.1 h)), (1, .int a1), (2, .int a2), (3, .int 0), (4, .int 0)] rfl ?_
  exact lp_5 (mX2_lastOnesBy_5 σ h a1 a2 + 1) 0 0 (Nat.zero_le _) (by show (((σ.1 h 1) : Int32).toNatClampNeg) < 0 + ((((σ.1 h 1) : Int32).toNatClampNeg) + 1); omega)
def fX2_shown (σ : Mm) (h : Nat) : Int32 := ((fX2_there σ h) &&& ((σ.1 h 6) ^^^ (-1)))
set_option maxRecDepth 20000 in
theorem kX2_shown (l : Launch) (D : Dm) (h : Nat) (σ : Mm) (hh : hsP h) : Ct l yX2_shown cX2_shown 1 (some .int) 3 D [.ref (D.2.1 h)] σ (some (.int (fX2_shown σ h)), σ) := by
  refine ct_of (by decide +kernel) (Nat.le_of_ble_eq_true rfl) (fun X F => ?_)
  have F : Fx X l 1 D cX2_shown RX2 3 (some .int) := F
  show JJ X 1 D σ 0 [(0, .ref (D.2.1 h))] [] (QQ X D (some (.int (fX2_shown σ h)), σ))
  rw [fX2_shown]
  refine j_aload_n F dX2_shown_0 1 rfl 0 rfl ?_
  refine j_callVr (as := []) (st := []) (r := .int (fX2_there σ h)) (σ9 := σ) F zX2_there dX2_shown_1 4 rfl pX2_there rfl (by decide) (by decide) (Nat.le_of_ble_eq_true rfl) rfl qX2_62 rfl rfl (hsP.lt hh) (shH hh) (kX2_there l D h σ hh) ?_
  refine j_aload_n F dX2_shown_4 5 rfl 0 rfl ?_
  refine j_get (j := 6) F dX2_shown_5 8 rfl inX2 rfl (hsP.lt hh) (shH hh) (by decide) qX2_35 rfl ?_
  refine j_iconst (v := (-1)) F dX2_shown_8 9 rfl (by decide) ?_
  refine j_ixor F dX2_shown_9 10 rfl ?_
  refine j_iand F dX2_shown_10 11 rfl ?_
  exact j_ret_i F dX2_shown_11 rfl rfl rfl
def fX2_figure (σ : Mm) (h : Nat) (a1 : Int32) (a2 : Int32) : Int32 := (((fX9_at σ (h + 1) 8 a1) >>> ((4 * a2) &&& 31)) &&& 15)
set_option maxRecDepth 20000 in
theorem kX2_figure (l : Launch) (D : Dm) (h : Nat) (a1 : Int32) (a2 : Int32) (σ : Mm) (hh : hsP h) : Ct l yX2_figure cX2_figure 3 (some .int) 2 D [.ref (D.2.1 h), .int a1, .int a2] σ (some (.int (fX2_figure σ h a1 a2)), σ) := by
  refine ct_of (by decide +kernel) (Nat.le_of_ble_eq_true rfl) (fun X F => ?_)
  have F : Fx X l 3 D cX2_figure RX2 2 (some .int) := F
  show JJ X 3 D σ 0 [(0, .ref (D.2.1 h)), (1, .int a1), (2, .int a2)] [] (QQ X D (some (.int (fX2_figure σ h a1 a2)), σ))
  rw [fX2_figure]
  refine j_aload_n F dX2_figure_0 1 rfl 0 rfl ?_
  refine j_get (j := 0) F dX2_figure_1 4 rfl inX2 rfl (hsP.lt hh) (shH hh) (by decide) qX2_9 rfl ?_
  refine j_iload_n F dX2_figure_4 5 rfl 1 rfl ?_
  refine j_callSNr (as := [.ref (D.2.1 (h + 1)), .int a1]) (st := []) (r := .int (fX9_at σ (h + 1) 8 a1)) (σ9 := σ) F zX9_at dX2_figure_5 8 rfl pX9_at rfl (by decide) (by decide) (Nat.le_of_ble_eq_true rfl) rfl qX2_19 (kX9_at l D (h + 1) 8 a1 σ (iaT hh)) ?_
  refine j_iconst (v := 4) F dX2_figure_8 9 rfl (by decide) ?_
  refine j_iload_n F dX2_figure_9 10 rfl 2 rfl ?_
  refine j_imul F dX2_figure_10 11 rfl ?_
  refine j_ishr F dX2_figure_11 12 rfl ?_
  refine j_bipush (v := 15) F dX2_figure_12 14 rfl (by decide) ?_
  refine j_iand F dX2_figure_14 15 rfl ?_
  exact j_ret_i F dX2_figure_15 rfl rfl rfl
def fX2_has (σ : Mm) (h : Nat) (a1 : Int32) : Bool := if 0 ≤ a1 then (if a1 < (σ.1 h 1) then (true) else (false)) else (false)
set_option maxRecDepth 20000 in
theorem kX2_has (l : Launch) (D : Dm) (h : Nat) (a1 : Int32) (σ : Mm) (hh : hsP h) : Ct l yX2_has cX2_has 2 (some .boolean) 1 D [.ref (D.2.1 h), .int a1] σ (some (.int (bi (fX2_has σ h a1))), σ) := by
  refine ct_of (by decide +kernel) (Nat.le_of_ble_eq_true rfl) (fun X F => ?_)
  have F : Fx X l 2 D cX2_has RX2 1 (some .boolean) := F
  show JJ X 2 D σ 0 [(0, .ref (D.2.1 h)), (1, .int a1)] [] (QQ X D (some (.int (bi (fX2_has σ h a1))), σ))
  rw [fX2_has]
  refine j_iload_n F dX2_has_0 1 rfl 1 rfl ?_
  refine j_if_lt F dX2_has_1 16 (by decide) 4 rfl (fun c_1 => ?_) (fun c_1 => ?_)
  · rw [if_pos c_1]
    refine j_iload_n F dX2_has_4 5 rfl 1 rfl ?_
    refine j_aload_n F dX2_has_5 6 rfl 0 rfl ?_
    refine j_get (j := 1) F dX2_has_6 9 rfl inX2 rfl (hsP.lt hh) (shH hh) (by decide) qX2_23 rfl ?_
    refine j_icmp_ge F dX2_has_9 16 (by decide) 12 rfl (fun c_9 => ?_) (fun c_9 => ?_)
    · rw [if_pos c_9]
      refine j_iconst (v := 1) F dX2_has_12 13 rfl (by decide) ?_
      refine j_goto F dX2_has_13 17 (by decide) ?_
      exact j_ret_b (b := true) F dX2_has_17 rfl rfl rfl
    · rw [if_neg c_9]
      refine j_iconst (v := 0) F dX2_has_16 17 rfl (by decide) ?_
      exact j_ret_b (b := false) F dX2_has_17 rfl rfl rfl
  · rw [if_neg c_1]
    refine j_iconst (v := 0) F dX2_has_16 17 rfl (by decide) ?_
    exact j_ret_b (b := false) F dX2_has_17 rfl rfl rfl
def fX2_shareOf  (a1 : Int32) (a2 : Int32) : Int32 := if 0 < (fJ6_bitCount a2) then (((12 * a1) / (fJ6_bitCount a2))) else (0)
set_option maxRecDepth 20000 in
theorem kX2_shareOf (l : Launch) (D : Dm) (a1 : Int32) (a2 : Int32) (σ : Mm)  : Ct l yX2_shareOf cX2_shareOf 3 (some .int) 2 D [.int a1, .int a2] σ (some (.int (fX2_shareOf a1 a2)), σ) := by
  refine ct_of (by decide +kernel) (Nat.le_of_ble_eq_true rfl) (fun X F => ?_)
  have F : Fx X l 3 D cX2_shareOf RX2 2 (some .int) := F
  show JJ X 3 D σ 0 [(0, .int a1), (1, .int a2)] [] (QQ X D (some (.int (fX2_shareOf a1 a2)), σ))
  rw [fX2_shareOf]
  refine j_iload_n F dX2_shareOf_0 1 rfl 1 rfl ?_
  refine j_callSr (as := [.int a2]) (st := []) (r := .int (fJ6_bitCount a2)) (σ9 := σ) F zJ6_bitCount dX2_shareOf_1 4 rfl pJ6_bitCount rfl (by decide) (by decide) (Nat.le_of_ble_eq_true rfl) rfl qX2_72 (kJ6_bitCount l D a2 σ) ?_
  refine j_istore_n F dX2_shareOf_4 5 rfl 2 rfl (by decide) [(2, .int (fJ6_bitCount a2)), (0, .int a1), (1, .int a2)] rfl ?_
  refine j_iload_n F dX2_shareOf_5 6 rfl 0 rfl ?_
  refine j_if_le F dX2_shareOf_6 18 (by decide) 9 rfl (fun c_6 => ?_) (fun c_6 => ?_)
  · rw [if_pos c_6]
    refine j_bipush (v := 12) F dX2_shareOf_9 11 rfl (by decide) ?_
    refine j_iload_n F dX2_shareOf_11 12 rfl 1 rfl ?_
    refine j_imul F dX2_shareOf_12 13 rfl ?_
    refine j_iload_n F dX2_shareOf_13 14 rfl 0 rfl ?_
    refine j_idiv F dX2_shareOf_14 15 rfl (by first | assumption | exact ne_pos (by assumption)) ?_
    refine j_goto F dX2_shareOf_15 19 (by decide) ?_
    exact j_ret_i F dX2_shareOf_19 rfl rfl rfl
  · rw [if_neg c_6]
    refine j_iconst (v := 0) F dX2_shareOf_18 19 rfl (by decide) ?_
    exact j_ret_i F dX2_shareOf_19 rfl rfl rfl
def fX9_put (σ : Mm) (q : Nat) (N : Nat) (a2 : Int32) (a3 : Int32) : Mm := if 0 ≤ a2 then (if a2 < (nI N) then ((up σ q a2.toNatClampNeg a3)) else (σ)) else (σ)
set_option maxRecDepth 20000 in
theorem kX9_put (l : Launch) (D : Dm) (q : Nat) (N : Nat) (a2 : Int32) (a3 : Int32) (σ : Mm) (hq : iaP q N) : Ct l yX9_put cX9_put 3 none 1 D [.ref (D.2.1 q), .int a2, .int a3] σ (none, fX9_put σ q N a2 a3) := by
  refine ct_of (by decide +kernel) (Nat.le_of_ble_eq_true rfl) (fun X F => ?_)
  have F : Fx X l 3 D cX9_put RX9 1 none := F
  show JJ X 3 D σ 0 [(0, .ref (D.2.1 q)), (1, .int a2), (2, .int a3)] [] (QQ X D (none, fX9_put σ q N a2 a3))
  rw [fX9_put]
  refine j_aload_n F dX9_put_0 1 rfl 0 rfl ?_
  refine j_ifnull F dX9_put_1 4 rfl ?_
  refine j_iload_n F dX9_put_4 5 rfl 1 rfl ?_
  refine j_if_lt F dX9_put_5 18 (by decide) 8 rfl (fun c_5 => ?_) (fun c_5 => ?_)
  · rw [if_pos c_5]
    refine j_iload_n F dX9_put_8 9 rfl 1 rfl ?_
    refine j_aload_n F dX9_put_9 10 rfl 0 rfl ?_
    refine j_alen F dX9_put_10 11 rfl hq ?_
    refine j_icmp_ge F dX9_put_11 18 (by decide) 14 rfl (fun c_11 => ?_) (fun c_11 => ?_)
    · rw [if_pos c_11]
      refine j_aload_n F dX9_put_14 15 rfl 0 rfl ?_
      refine j_iload_n F dX9_put_15 16 rfl 1 rfl ?_
      refine j_iload_n F dX9_put_16 17 rfl 2 rfl ?_
      refine j_iast F dX9_put_17 18 rfl hq (vin_c (by assumption) (by assumption) (by have := hq.2.1; omega)) ?_
      exact j_ret_v F dX9_put_18 rfl rfl rfl
    · rw [if_neg c_11]
      exact j_ret_v F dX9_put_18 rfl rfl rfl
  · rw [if_neg c_5]
    exact j_ret_v F dX9_put_18 rfl rfl rfl
def fX2_addForged_76 (h : Nat) (a1 : Int32) (a2 : Int32)  (s_76 : Mm) (x3_76 : Int32) : Int32 × Mm := (x3_76, (up s_76 h 7 ((s_76.1 h 7) &&& ((fX2_alikeTo s_76 h x3_76 (s_76.1 h 2) (s_76.1 h 7)) ^^^ (-1)))))
def fX2_addForged_56 (h : Nat) (a1 : Int32) (a2 : Int32)  (s_56 : Mm) (x3_56 : Int32) (x4_56 : Int32) : Int32 × Mm := fX2_addForged_76 h a1 a2 (up (fX9_put s_56 (h + 1) 8 x3_56 x4_56) h 1 (((fX9_put s_56 (h + 1) 8 x3_56 x4_56).1 h 1) + 1)) x3_56
def fX2_addForged_23 (h : Nat) (a1 : Int32) (a2 : Int32)  : Nat → Mm → Int32 → Int32 → Int32 → Int32 → Int32 × Mm
  | 0, s_23, _, _, _, _ => (0, s_23)
  | n + 1, s_23, x3_23, x4_23, x5_23, x6_23 => if 0 ≤ x6_23 then (fX2_addForged_23 h a1 a2 n s_23 x3_23 (x4_23 ||| ((rm x5_23 10) <<< ((4 * x6_23) &&& 31))) (x5_23 / 10) (x6_23 + (-1))) else (fX2_addForged_56 h a1 a2 s_23 x3_23 x4_23)
def fX2_addForged (σ : Mm) (h : Nat) (a1 : Int32) (a2 : Int32) : Int32 × Mm := fX2_addForged_23 h a1 a2 5 σ (σ.1 h 1) (((a2 <<< (16 &&& 31)) ||| 1048576) ||| 16777216) a1 3
set_option maxRecDepth 20000 in
theorem kX2_addForged (l : Launch) (D : Dm) (h : Nat) (a1 : Int32) (a2 : Int32) (σ : Mm) (hh : hsP h) : Ct l yX2_addForged cX2_addForged 7 (some .int) 4 D [.ref (D.2.1 h), .int a1, .int a2] σ (some (.int (fX2_addForged σ h a1 a2).1), (fX2_addForged σ h a1 a2).2) := by
  refine ct_of (by decide +kernel) (Nat.le_of_ble_eq_true rfl) (fun X F => ?_)
  have F : Fx X l 7 D cX2_addForged RX2 4 (some .int) := F
  show JJ X 7 D σ 0 [(0, .ref (D.2.1 h)), (1, .int a1), (2, .int a2)] [] (QQ X D (some (.int (fX2_addForged σ h a1 a2).1), (fX2_addForged σ h a1 a2).2))
  rw [fX2_addForged]
  refine j_aload_n F dX2_addForged_0 1 rfl 0 rfl ?_
  refine j_get (j := 1) F dX2_addForged_1 4 rfl inX2 rfl (hsP.lt hh) (shH hh) (by decide) qX2_23 rfl ?_
  refine j_istore_n F dX2_addForged_4 5 rfl 3 rfl (by decide) [(3, .int (σ.1 h 1)), (0, .ref (D.2.1 h)), (1, .int a1), (2, .int a2)] rfl ?_
  refine j_iload_n F dX2_addForged_5 6 rfl 3 rfl ?_
  refine j_bipush (v := 16) F dX2_addForged_6 8 rfl (by decide) ?_
  refine j_ishl F dX2_addForged_8 9 rfl ?_
  refine j_ldc F dX2_addForged_9 11 rfl qX2_101 ?_
  refine j_ior F dX2_addForged_11 12 rfl ?_
  refine j_ldc F dX2_addForged_12 14 rfl qX2_102 ?_
  refine j_ior F dX2_addForged_14 15 rfl ?_
  refine j_istore F dX2_addForged_15 17 rfl (by decide) [(4, .int (((a2 <<< (16 &&& 31)) ||| 1048576) ||| 16777216)), (3, .int (σ.1 h 1)), (0, .ref (D.2.1 h)), (1, .int a1), (2, .int a2)] rfl ?_
  refine j_iload_n F dX2_addForged_17 18 rfl 3 rfl ?_
  refine j_istore F dX2_addForged_18 20 rfl (by decide) [(5, .int a1), (4, .int (((a2 <<< (16 &&& 31)) ||| 1048576) ||| 16777216)), (3, .int (σ.1 h 1)), (0, .ref (D.2.1 h)), (1, .int a1), (2, .int a2)] rfl ?_
  refine j_iconst (v := 3) F dX2_addForged_20 21 rfl (by decide) ?_
  refine j_istore F dX2_addForged_21 23 rfl (by decide) [(6, .int 3), (5, .int a1), (4, .int (((a2 <<< (16 &&& 31)) ||| 1048576) ||| 16777216)), (3, .int (σ.1 h 1)), (0, .ref (D.2.1 h)), (1, .int a1), (2, .int a2)] rfl ?_
  have hx_56 : ∀ (x4_56 : Int32), JJ X 7 D σ 56 [(0, .ref (D.2.1 h)), (3, .int (σ.1 h 1)), (4, .int x4_56)] [] (QQ X D (some (.int (fX2_addForged_56 h a1 a2 σ (σ.1 h 1) x4_56).1), (fX2_addForged_56 h a1 a2 σ (σ.1 h 1) x4_56).2)) := by
    intro x4_56
    rw [fX2_addForged_56]
    refine j_aload_n F dX2_addForged_56 57 rfl 0 rfl ?_
    refine j_get (j := 0) F dX2_addForged_57 60 rfl inX2 rfl (hsP.lt hh) (shH hh) (by decide) qX2_9 rfl ?_
    refine j_iload_n F dX2_addForged_60 61 rfl 1 rfl ?_
    refine j_iload F dX2_addForged_61 63 rfl 2 rfl ?_
    refine j_callSNv (as := [.ref (D.2.1 (h + 1)), .int (σ.1 h 1), .int x4_56]) (st := []) (σ9 := (fX9_put σ (h + 1) 8 (σ.1 h 1) x4_56)) F zX9_put dX2_addForged_63 66 rfl pX9_put rfl (by decide) (by decide) (Nat.le_of_ble_eq_true rfl) rfl qX2_103 (kX9_put l D (h + 1) 8 (σ.1 h 1) x4_56 σ (iaT hh)) ?_
    refine j_aload_n F dX2_addForged_66 67 rfl 0 rfl ?_
    refine j_dup F dX2_addForged_67 68 rfl rfl ?_
    refine j_get (j := 1) F dX2_addForged_68 71 rfl inX2 rfl (hsP.lt hh) (shH hh) (by decide) qX2_23 rfl ?_
    refine j_iconst (v := 1) F dX2_addForged_71 72 rfl (by decide) ?_
    refine j_iadd F dX2_addForged_72 73 rfl ?_
    refine j_put (j := 1) F dX2_addForged_73 76 rfl inX2 tyX2 tyX2_ok nmX2 rfl (hsP.lt hh) (shH hh) (shH hh) (by decide) qX2_23 rfl (tyX2_ok 1 (by decide)) (Nat.le_of_ble_eq_true rfl) ?_
    refine j_pick [0, 1] [(0, .ref (D.2.1 h)), (3, .int (σ.1 h 1))] rfl ?_
    have jn_76 : ∀ (s_76 : Mm), JJ X 7 D s_76 76 [(0, .ref (D.2.1 h)), (3, .int (σ.1 h 1))] [] (QQ X D (some (.int (fX2_addForged_76 h a1 a2 s_76 (σ.1 h 1)).1), (fX2_addForged_76 h a1 a2 s_76 (σ.1 h 1)).2)) := by
      intro s_76
      rw [fX2_addForged_76]
      refine j_aload_n F dX2_addForged_76 77 rfl 0 rfl ?_
      refine j_dup F dX2_addForged_77 78 rfl rfl ?_
      refine j_get (j := 7) F dX2_addForged_78 81 rfl inX2 rfl (hsP.lt hh) (shH hh) (by decide) qX2_38 rfl ?_
      refine j_aload_n F dX2_addForged_81 82 rfl 0 rfl ?_
      refine j_iload_n F dX2_addForged_82 83 rfl 1 rfl ?_
      refine j_aload_n F dX2_addForged_83 84 rfl 0 rfl ?_
      refine j_get (j := 2) F dX2_addForged_84 87 rfl inX2 rfl (hsP.lt hh) (shH hh) (by decide) qX2_15 rfl ?_
      refine j_aload_n F dX2_addForged_87 88 rfl 0 rfl ?_
      refine j_get (j := 7) F dX2_addForged_88 91 rfl inX2 rfl (hsP.lt hh) (shH hh) (by decide) qX2_38 rfl ?_
      refine j_callVr (as := [.int (σ.1 h 1), .int (s_76.1 h 2), .int (s_76.1 h 7)]) (st := [.int (s_76.1 h 7), .ref (D.2.1 h)]) (r := .int (fX2_alikeTo s_76 h (σ.1 h 1) (s_76.1 h 2) (s_76.1 h 7))) (σ9 := s_76) F zX2_alikeTo dX2_addForged_91 94 rfl pX2_alikeTo rfl (by decide) (by decide) (Nat.le_of_ble_eq_true rfl) rfl qX2_84 rfl rfl (hsP.lt hh) (shH hh) (kX2_alikeTo l D h (σ.1 h 1) (s_76.1 h 2) (s_76.1 h 7) s_76 hh) ?_
      refine j_iconst (v := (-1)) F dX2_addForged_94 95 rfl (by decide) ?_
      refine j_ixor F dX2_addForged_95 96 rfl ?_
      refine j_iand F dX2_addForged_96 97 rfl ?_
      refine j_put (j := 7) F dX2_addForged_97 100 rfl inX2 tyX2 tyX2_ok nmX2 rfl (hsP.lt hh) (shH hh) (shH hh) (by decide) qX2_38 rfl (tyX2_ok 7 (by decide)) (Nat.le_of_ble_eq_true rfl) ?_
      refine j_iload_n F dX2_addForged_100 101 rfl 1 rfl ?_
      exact j_ret_i F dX2_addForged_101 rfl rfl rfl
    exact jn_76 (up (fX9_put σ (h + 1) 8 (σ.1 h 1) x4_56) h 1 (((fX9_put σ (h + 1) 8 (σ.1 h 1) x4_56).1 h 1) + 1)) 
  have lp_23 : ∀ (n_23 : Nat) (x4_23 : Int32) (x5_23 : Int32) (x6_23 : Int32), -1 ≤ x6_23.toInt → x6_23.toInt + 1 < n_23 → JJ X 7 D σ 23 [(0, .ref (D.2.1 h)), (3, .int (σ.1 h 1)), (4, .int x4_23), (5, .int x5_23), (6, .int x6_23)] [] (QQ X D (some (.int (fX2_addForged_23 h a1 a2 n_23 σ (σ.1 h 1) x4_23 x5_23 x6_23).1), (fX2_addForged_23 h a1 a2 n_23 σ (σ.1 h 1) x4_23 x5_23 x6_23).2)) := by
    intro n_23
    induction n_23 with
    | zero => intro x4_23 x5_23 x6_23 hk_23 hn_23; exact absurd hn_23 (by omega)
    | succ n_23 ih_23 =>
      intro x4_23 x5_23 x6_23 hk_23 hn_23
      rw [fX2_addForged_23]
      refine j_iload F dX2_addForged_23 25 rfl 4 rfl ?_
      refine j_if_lt F dX2_addForged_25 56 (by decide) 28 rfl (fun c_25 => ?_) (fun c_25 => ?_)
      · rw [if_pos c_25]
        have h_25 := Int32.le_iff_toInt_le.mp c_25
        have g_25 := dn_dec x6_23 c_25
        have h0_25 : (0 : Int32).toInt = 0 := rfl
        refine j_iload F dX2_addForged_28 30 rfl 2 rfl ?_
        refine j_iload F dX2_addForged_30 32 rfl 3 rfl ?_
        refine j_bipush (v := 10) F dX2_addForged_32 34 rfl (by decide) ?_
        refine j_irem F dX2_addForged_34 35 rfl (by decide) ?_
        refine j_iconst (v := 4) F dX2_addForged_35 36 rfl (by decide) ?_
        refine j_iload F dX2_addForged_36 38 rfl 4 rfl ?_
        refine j_imul F dX2_addForged_38 39 rfl ?_
        refine j_ishl F dX2_addForged_39 40 rfl ?_
        refine j_ior F dX2_addForged_40 41 rfl ?_
        refine j_istore F dX2_addForged_41 43 rfl (by decide) [(4, .int (x4_23 ||| ((rm x5_23 10) <<< ((4 * x6_23) &&& 31)))), (0, .ref (D.2.1 h)), (3, .int (σ.1 h 1)), (5, .int x5_23), (6, .int x6_23)] rfl ?_
        refine j_iload F dX2_addForged_43 45 rfl 3 rfl ?_
        refine j_bipush (v := 10) F dX2_addForged_45 47 rfl (by decide) ?_
        refine j_idiv F dX2_addForged_47 48 rfl (by decide) ?_
        refine j_istore F dX2_addForged_48 50 rfl (by decide) [(5, .int (x5_23 / 10)), (4, .int (x4_23 ||| ((rm x5_23 10) <<< ((4 * x6_23) &&& 31)))), (0, .ref (D.2.1 h)), (3, .int (σ.1 h 1)), (6, .int x6_23)] rfl ?_
        refine j_iinc F dX2_addForged_50 53 rfl 4 rfl (x6_23 + (-1)) rfl (by decide) [(6, .int (x6_23 + (-1))), (5, .int (x5_23 / 10)), (4, .int (x4_23 ||| ((rm x5_23 10) <<< ((4 * x6_23) &&& 31)))), (0, .ref (D.2.1 h)), (3, .int (σ.1 h 1))] rfl ?_
        refine j_goto F dX2_addForged_53 23 (by decide) ?_
        refine j_pick [3, 4, 2, 1, 0] [(0, .ref (D.2.1 h)), (3, .int (σ.1 h 1)), (4, .int (x4_23 ||| ((rm x5_23 10) <<< ((4 * x6_23) &&& 31)))), (5, .int (x5_23 / 10)), (6, .int (x6_23 + (-1)))] rfl ?_
        exact ih_23 (x4_23 ||| ((rm x5_23 10) <<< ((4 * x6_23) &&& 31))) (x5_23 / 10) (x6_23 + (-1)) (by omega) (by omega)
      · rw [if_neg c_25]
        refine j_pick [0, 1, 2] [(0, .ref (D.2.1 h)), (3, .int (σ.1 h 1)), (4, .int x4_23)] rfl ?_
        exact hx_56 x4_23
  refine j_pick [4, 3, 2, 1, 0] [(0, .ref (D.2.1 h)), (3, .int (σ.1 h 1)), (4, .int (((a2 <<< (16 &&& 31)) ||| 1048576) ||| 16777216)), (5, .int a1), (6, .int 3)] rfl ?_
  exact lp_23 5 (((a2 <<< (16 &&& 31)) ||| 1048576) ||| 16777216) a1 3 (by decide) (by decide)
def fX2_canBe (σ : Mm) (h : Nat) (a1 : Int32) (a2 : Int32) : Bool := if (fX2_has σ h a2) = true then (if a1 = 0 then ((fX9_holds (fX2_breakable σ h) a2)) else if a1 = 1 then ((fX9_holds ((fX2_lastOnesBy σ h (σ.1 h 2) (fX2_shown σ h)) &&& ((σ.1 h 7) ^^^ (-1))) a2)) else if a1 = 2 then ((fX9_holds ((fX2_there σ h) &&& ((σ.1 h 7) ^^^ (-1))) a2)) else if a1 = 3 then ((fX9_holds (fX2_there σ h) a2)) else (false)) else (false)
set_option maxRecDepth 20000 in
theorem kX2_canBe (l : Launch) (D : Dm) (h : Nat) (a1 : Int32) (a2 : Int32) (σ : Mm) (hh : hsP h) : Ct l yX2_canBe cX2_canBe 3 (some .boolean) 5 D [.ref (D.2.1 h), .int a1, .int a2] σ (some (.int (bi (fX2_canBe σ h a1 a2))), σ) := by
  refine ct_of (by decide +kernel) (Nat.le_of_ble_eq_true rfl) (fun X F => ?_)
  have F : Fx X l 3 D cX2_canBe RX2 5 (some .boolean) := F
  show JJ X 3 D σ 0 [(0, .ref (D.2.1 h)), (1, .int a1), (2, .int a2)] [] (QQ X D (some (.int (bi (fX2_canBe σ h a1 a2))), σ))
  rw [fX2_canBe]
  refine j_aload_n F dX2_canBe_0 1 rfl 0 rfl ?_
  refine j_iload_n F dX2_canBe_1 2 rfl 2 rfl ?_
  refine j_callVr (as := [.int a2]) (st := []) (r := .int (bi (fX2_has σ h a2))) (σ9 := σ) F zX2_has dX2_canBe_2 5 rfl pX2_has rfl (by decide) (by decide) (Nat.le_of_ble_eq_true rfl) rfl qX2_94 rfl rfl (hsP.lt hh) (shH hh) (kX2_has l D h a2 σ hh) ?_
  refine j_ifb_ne F dX2_canBe_5 10 (by decide) 8 rfl (fun c_5 => ?_) (fun c_5 => ?_)
  · rw [if_neg c_5]
    refine j_iconst (v := 0) F dX2_canBe_8 9 rfl (by decide) ?_
    exact j_ret_b (b := false) F dX2_canBe_9 rfl rfl rfl
  · rw [if_pos c_5]
    refine j_iload_n F dX2_canBe_10 11 rfl 1 rfl ?_
    refine j_by (a1 = 0) (fun c_11_0 => ?_) (fun c_11_0 => ?_)
    · rw [if_pos c_11_0]
      refine j_tin (z := 0) F dX2_canBe_11 c_11_0 (by decide) (by decide) (by decide) rfl 40 (by decide) ?_
      refine j_aload_n F dX2_canBe_40 41 rfl 0 rfl ?_
      refine j_callVr (as := []) (st := []) (r := .int (fX2_breakable σ h)) (σ9 := σ) F zX2_breakable dX2_canBe_41 44 rfl pX2_breakable rfl (by decide) (by decide) (Nat.le_of_ble_eq_true rfl) rfl qX2_98 rfl rfl (hsP.lt hh) (shH hh) (kX2_breakable l D h σ hh) ?_
      refine j_iload_n F dX2_canBe_44 45 rfl 2 rfl ?_
      refine j_callSNr (as := [.int (fX2_breakable σ h), .int a2]) (st := []) (r := .int (bi (fX9_holds (fX2_breakable σ h) a2))) (σ9 := σ) F zX9_holds dX2_canBe_45 48 rfl pX9_holds rfl (by decide) (by decide) (Nat.le_of_ble_eq_true rfl) rfl qX2_65 (kX9_holds l D (fX2_breakable σ h) a2 σ) ?_
      exact j_ret_b (b := (fX9_holds (fX2_breakable σ h) a2)) F dX2_canBe_48 rfl rfl rfl
    · rw [if_neg c_11_0]
      refine j_by (a1 = 1) (fun c_11_1 => ?_) (fun c_11_1 => ?_)
      · rw [if_pos c_11_1]
        refine j_tin (z := 1) F dX2_canBe_11 c_11_1 (by decide) (by decide) (by decide) rfl 49 (by decide) ?_
        refine j_aload_n F dX2_canBe_49 50 rfl 0 rfl ?_
        refine j_aload_n F dX2_canBe_50 51 rfl 0 rfl ?_
        refine j_get (j := 2) F dX2_canBe_51 54 rfl inX2 rfl (hsP.lt hh) (shH hh) (by decide) qX2_15 rfl ?_
        refine j_aload_n F dX2_canBe_54 55 rfl 0 rfl ?_
        refine j_callVr (as := []) (st := [.int (σ.1 h 2), .ref (D.2.1 h)]) (r := .int (fX2_shown σ h)) (σ9 := σ) F zX2_shown dX2_canBe_55 58 rfl pX2_shown rfl (by decide) (by decide) (Nat.le_of_ble_eq_true rfl) rfl qX2_78 rfl rfl (hsP.lt hh) (shH hh) (kX2_shown l D h σ hh) ?_
        refine j_callVr (as := [.int (σ.1 h 2), .int (fX2_shown σ h)]) (st := []) (r := .int (fX2_lastOnesBy σ h (σ.1 h 2) (fX2_shown σ h))) (σ9 := σ) F zX2_lastOnesBy dX2_canBe_58 61 rfl pX2_lastOnesBy rfl (by decide) (by decide) (Nat.le_of_ble_eq_true rfl) rfl qX2_81 rfl rfl (hsP.lt hh) (shH hh) (kX2_lastOnesBy l D h (σ.1 h 2) (fX2_shown σ h) σ hh) ?_
        refine j_aload_n F dX2_canBe_61 62 rfl 0 rfl ?_
        refine j_get (j := 7) F dX2_canBe_62 65 rfl inX2 rfl (hsP.lt hh) (shH hh) (by decide) qX2_38 rfl ?_
        refine j_iconst (v := (-1)) F dX2_canBe_65 66 rfl (by decide) ?_
        refine j_ixor F dX2_canBe_66 67 rfl ?_
        refine j_iand F dX2_canBe_67 68 rfl ?_
        refine j_iload_n F dX2_canBe_68 69 rfl 2 rfl ?_
        refine j_callSNr (as := [.int ((fX2_lastOnesBy σ h (σ.1 h 2) (fX2_shown σ h)) &&& ((σ.1 h 7) ^^^ (-1))), .int a2]) (st := []) (r := .int (bi (fX9_holds ((fX2_lastOnesBy σ h (σ.1 h 2) (fX2_shown σ h)) &&& ((σ.1 h 7) ^^^ (-1))) a2))) (σ9 := σ) F zX9_holds dX2_canBe_69 72 rfl pX9_holds rfl (by decide) (by decide) (Nat.le_of_ble_eq_true rfl) rfl qX2_65 (kX9_holds l D ((fX2_lastOnesBy σ h (σ.1 h 2) (fX2_shown σ h)) &&& ((σ.1 h 7) ^^^ (-1))) a2 σ) ?_
        exact j_ret_b (b := (fX9_holds ((fX2_lastOnesBy σ h (σ.1 h 2) (fX2_shown σ h)) &&& ((σ.1 h 7) ^^^ (-1))) a2)) F dX2_canBe_72 rfl rfl rfl
      · rw [if_neg c_11_1]
        refine j_by (a1 = 2) (fun c_11_2 => ?_) (fun c_11_2 => ?_)
        · rw [if_pos c_11_2]
          refine j_tin (z := 2) F dX2_canBe_11 c_11_2 (by decide) (by decide) (by decide) rfl 73 (by decide) ?_
          refine j_aload_n F dX2_canBe_73 74 rfl 0 rfl ?_
          refine j_callVr (as := []) (st := []) (r := .int (fX2_there σ h)) (σ9 := σ) F zX2_there dX2_canBe_74 77 rfl pX2_there rfl (by decide) (by decide) (Nat.le_of_ble_eq_true rfl) rfl qX2_62 rfl rfl (hsP.lt hh) (shH hh) (kX2_there l D h σ hh) ?_
          refine j_aload_n F dX2_canBe_77 78 rfl 0 rfl ?_
          refine j_get (j := 7) F dX2_canBe_78 81 rfl inX2 rfl (hsP.lt hh) (shH hh) (by decide) qX2_38 rfl ?_
          refine j_iconst (v := (-1)) F dX2_canBe_81 82 rfl (by decide) ?_
          refine j_ixor F dX2_canBe_82 83 rfl ?_
          refine j_iand F dX2_canBe_83 84 rfl ?_
          refine j_iload_n F dX2_canBe_84 85 rfl 2 rfl ?_
          refine j_callSNr (as := [.int ((fX2_there σ h) &&& ((σ.1 h 7) ^^^ (-1))), .int a2]) (st := []) (r := .int (bi (fX9_holds ((fX2_there σ h) &&& ((σ.1 h 7) ^^^ (-1))) a2))) (σ9 := σ) F zX9_holds dX2_canBe_85 88 rfl pX9_holds rfl (by decide) (by decide) (Nat.le_of_ble_eq_true rfl) rfl qX2_65 (kX9_holds l D ((fX2_there σ h) &&& ((σ.1 h 7) ^^^ (-1))) a2 σ) ?_
          exact j_ret_b (b := (fX9_holds ((fX2_there σ h) &&& ((σ.1 h 7) ^^^ (-1))) a2)) F dX2_canBe_88 rfl rfl rfl
        · rw [if_neg c_11_2]
          refine j_by (a1 = 3) (fun c_11_3 => ?_) (fun c_11_3 => ?_)
          · rw [if_pos c_11_3]
            refine j_tin (z := 3) F dX2_canBe_11 c_11_3 (by decide) (by decide) (by decide) rfl 89 (by decide) ?_
            refine j_aload_n F dX2_canBe_89 90 rfl 0 rfl ?_
            refine j_callVr (as := []) (st := []) (r := .int (fX2_there σ h)) (σ9 := σ) F zX2_there dX2_canBe_90 93 rfl pX2_there rfl (by decide) (by decide) (Nat.le_of_ble_eq_true rfl) rfl qX2_62 rfl rfl (hsP.lt hh) (shH hh) (kX2_there l D h σ hh) ?_
            refine j_iload_n F dX2_canBe_93 94 rfl 2 rfl ?_
            refine j_callSNr (as := [.int (fX2_there σ h), .int a2]) (st := []) (r := .int (bi (fX9_holds (fX2_there σ h) a2))) (σ9 := σ) F zX9_holds dX2_canBe_94 97 rfl pX9_holds rfl (by decide) (by decide) (Nat.le_of_ble_eq_true rfl) rfl qX2_65 (kX9_holds l D (fX2_there σ h) a2 σ) ?_
            exact j_ret_b (b := (fX9_holds (fX2_there σ h) a2)) F dX2_canBe_97 rfl rfl rfl
          · rw [if_neg c_11_3]
            refine j_tout F dX2_canBe_11 (by have e0 := lv_neT c_11_0 (show (0 : Int32).toInt = 0 from by decide); have e1 := lv_neT c_11_1 (show (1 : Int32).toInt = 1 from by decide); have e2 := lv_neT c_11_2 (show (2 : Int32).toInt = 2 from by decide); have e3 := lv_neT c_11_3 (show (3 : Int32).toInt = 3 from by decide); omega) 98 (by decide) ?_
            refine j_iconst (v := 0) F dX2_canBe_98 99 rfl (by decide) ?_
            exact j_ret_b (b := false) F dX2_canBe_99 rfl rfl rfl
def fX2_lastOnes (σ : Mm) (h : Nat) : Int32 := (fX2_lastOnesBy σ h (σ.1 h 2) (fX2_shown σ h))
set_option maxRecDepth 20000 in
theorem kX2_lastOnes (l : Launch) (D : Dm) (h : Nat) (σ : Mm) (hh : hsP h) : Ct l yX2_lastOnes cX2_lastOnes 1 (some .int) 5 D [.ref (D.2.1 h)] σ (some (.int (fX2_lastOnes σ h)), σ) := by
  refine ct_of (by decide +kernel) (Nat.le_of_ble_eq_true rfl) (fun X F => ?_)
  have F : Fx X l 1 D cX2_lastOnes RX2 5 (some .int) := F
  show JJ X 1 D σ 0 [(0, .ref (D.2.1 h))] [] (QQ X D (some (.int (fX2_lastOnes σ h)), σ))
  rw [fX2_lastOnes]
  refine j_aload_n F dX2_lastOnes_0 1 rfl 0 rfl ?_
  refine j_aload_n F dX2_lastOnes_1 2 rfl 0 rfl ?_
  refine j_get (j := 2) F dX2_lastOnes_2 5 rfl inX2 rfl (hsP.lt hh) (shH hh) (by decide) qX2_15 rfl ?_
  refine j_aload_n F dX2_lastOnes_5 6 rfl 0 rfl ?_
  refine j_callVr (as := []) (st := [.int (σ.1 h 2), .ref (D.2.1 h)]) (r := .int (fX2_shown σ h)) (σ9 := σ) F zX2_shown dX2_lastOnes_6 9 rfl pX2_shown rfl (by decide) (by decide) (Nat.le_of_ble_eq_true rfl) rfl qX2_78 rfl rfl (hsP.lt hh) (shH hh) (kX2_shown l D h σ hh) ?_
  refine j_callVr (as := [.int (σ.1 h 2), .int (fX2_shown σ h)]) (st := []) (r := .int (fX2_lastOnesBy σ h (σ.1 h 2) (fX2_shown σ h))) (σ9 := σ) F zX2_lastOnesBy dX2_lastOnes_9 12 rfl pX2_lastOnesBy rfl (by decide) (by decide) (Nat.le_of_ble_eq_true rfl) rfl qX2_81 rfl rfl (hsP.lt hh) (shH hh) (kX2_lastOnesBy l D h (σ.1 h 2) (fX2_shown σ h) σ hh) ?_
  exact j_ret_i F dX2_lastOnes_12 rfl rfl rfl
def fX2_changeWord (σ : Mm) (h : Nat) (a1 : Int32) : Int32 × Mm := ((((up σ h 2 a1).1 h 7) &&& ((fX2_lastOnes (up σ h 2 a1) h) ^^^ (-1))), (up (up σ h 2 a1) h 7 (((up σ h 2 a1).1 h 7) &&& ((((up σ h 2 a1).1 h 7) &&& ((fX2_lastOnes (up σ h 2 a1) h) ^^^ (-1))) ^^^ (-1)))))
set_option maxRecDepth 20000 in
theorem kX2_changeWord (l : Launch) (D : Dm) (h : Nat) (a1 : Int32) (σ : Mm) (hh : hsP h) : Ct l yX2_changeWord cX2_changeWord 3 (some .int) 6 D [.ref (D.2.1 h), .int a1] σ (some (.int (fX2_changeWord σ h a1).1), (fX2_changeWord σ h a1).2) := by
  refine ct_of (by decide +kernel) (Nat.le_of_ble_eq_true rfl) (fun X F => ?_)
  have F : Fx X l 3 D cX2_changeWord RX2 6 (some .int) := F
  show JJ X 3 D σ 0 [(0, .ref (D.2.1 h)), (1, .int a1)] [] (QQ X D (some (.int (fX2_changeWord σ h a1).1), (fX2_changeWord σ h a1).2))
  rw [fX2_changeWord]
  refine j_aload_n F dX2_changeWord_0 1 rfl 0 rfl ?_
  refine j_iload_n F dX2_changeWord_1 2 rfl 1 rfl ?_
  refine j_put (j := 2) F dX2_changeWord_2 5 rfl inX2 tyX2 tyX2_ok nmX2 rfl (hsP.lt hh) (shH hh) (shH hh) (by decide) qX2_15 rfl (tyX2_ok 2 (by decide)) (Nat.le_of_ble_eq_true rfl) ?_
  refine j_aload_n F dX2_changeWord_5 6 rfl 0 rfl ?_
  refine j_get (j := 7) F dX2_changeWord_6 9 rfl inX2 rfl (hsP.lt hh) (shH hh) (by decide) qX2_38 rfl ?_
  refine j_aload_n F dX2_changeWord_9 10 rfl 0 rfl ?_
  refine j_callVr (as := []) (st := [.int ((up σ h 2 a1).1 h 7)]) (r := .int (fX2_lastOnes (up σ h 2 a1) h)) (σ9 := (up σ h 2 a1)) F zX2_lastOnes dX2_changeWord_10 13 rfl pX2_lastOnes rfl (by decide) (by decide) (Nat.le_of_ble_eq_true rfl) rfl qX2_107 rfl rfl (hsP.lt hh) (shH hh) (kX2_lastOnes l D h (up σ h 2 a1) hh) ?_
  refine j_iconst (v := (-1)) F dX2_changeWord_13 14 rfl (by decide) ?_
  refine j_ixor F dX2_changeWord_14 15 rfl ?_
  refine j_iand F dX2_changeWord_15 16 rfl ?_
  refine j_istore_n F dX2_changeWord_16 17 rfl 2 rfl (by decide) [(2, .int (((up σ h 2 a1).1 h 7) &&& ((fX2_lastOnes (up σ h 2 a1) h) ^^^ (-1)))), (0, .ref (D.2.1 h)), (1, .int a1)] rfl ?_
  refine j_aload_n F dX2_changeWord_17 18 rfl 1 rfl ?_
  refine j_dup F dX2_changeWord_18 19 rfl rfl ?_
  refine j_get (j := 7) F dX2_changeWord_19 22 rfl inX2 rfl (hsP.lt hh) (shH hh) (by decide) qX2_38 rfl ?_
  refine j_iload_n F dX2_changeWord_22 23 rfl 0 rfl ?_
  refine j_iconst (v := (-1)) F dX2_changeWord_23 24 rfl (by decide) ?_
  refine j_ixor F dX2_changeWord_24 25 rfl ?_
  refine j_iand F dX2_changeWord_25 26 rfl ?_
  refine j_put (j := 7) F dX2_changeWord_26 29 rfl inX2 tyX2 tyX2_ok nmX2 rfl (hsP.lt hh) (shH hh) (shH hh) (by decide) qX2_38 rfl (tyX2_ok 7 (by decide)) (Nat.le_of_ble_eq_true rfl) ?_
  refine j_iload_n F dX2_changeWord_29 30 rfl 0 rfl ?_
  exact j_ret_i F dX2_changeWord_30 rfl rfl rfl
def fX2_copyFrom_84 (h : Nat) (h1 : Nat)  (s_84 : Mm) : Mm := (up s_84 h 7 (s_84.1 h1 7))
def fX2_copyFrom_68 (h : Nat) (h1 : Nat)  (s_68 : Mm) : Mm := fX2_copyFrom_84 h h1 (up (up s_68 h 5 (s_68.1 h1 5)) h 6 ((up s_68 h 5 (s_68.1 h1 5)).1 h1 6))
def fX2_copyFrom_52 (h : Nat) (h1 : Nat)  (s_52 : Mm) : Mm := fX2_copyFrom_68 h h1 (up (up s_52 h 3 (s_52.1 h1 3)) h 4 ((up s_52 h 3 (s_52.1 h1 3)).1 h1 4))
def fX2_copyFrom_36 (h : Nat) (h1 : Nat)  (s_36 : Mm) : Mm := fX2_copyFrom_52 h h1 (up (up s_36 h 1 (s_36.1 h1 1)) h 2 ((up s_36 h 1 (s_36.1 h1 1)).1 h1 2))
def fX2_copyFrom_7 (h : Nat) (h1 : Nat)  : Nat → Mm → Nat → Mm
  | 0, s_7, _ => s_7
  | n + 1, s_7, k2_7 => if (nI k2_7) < (nI 8) then (fX2_copyFrom_7 h h1 n (up s_7 (h + 1) k2_7 (fX9_at s_7 (h1 + 1) 8 (nI k2_7))) (k2_7 + 1)) else (fX2_copyFrom_36 h h1 s_7)
def fX2_copyFrom (σ : Mm) (h : Nat) (h1 : Nat) : Mm := fX2_copyFrom_7 h h1 9 σ 0
set_option maxRecDepth 20000 in
theorem kX2_copyFrom (l : Launch) (D : Dm) (h : Nat) (h1 : Nat) (σ : Mm) (hh : hsP h) (hh1 : hsP h1) : Ct l yX2_copyFrom cX2_copyFrom 3 none 2 D [.ref (D.2.1 h), .ref (D.2.1 h1)] σ (none, fX2_copyFrom σ h h1) := by
  refine ct_of (by decide +kernel) (Nat.le_of_ble_eq_true rfl) (fun X F => ?_)
  have F : Fx X l 3 D cX2_copyFrom RX2 2 none := F
  show JJ X 3 D σ 0 [(0, .ref (D.2.1 h)), (1, .ref (D.2.1 h1))] [] (QQ X D (none, fX2_copyFrom σ h h1))
  rw [fX2_copyFrom]
  refine j_aload_n F dX2_copyFrom_0 1 rfl 1 rfl ?_
  refine j_nonnull F dX2_copyFrom_1 5 (by decide) ?_
  refine j_iconst (v := 0) F dX2_copyFrom_5 6 rfl (by decide) ?_
  refine j_istore_n F dX2_copyFrom_6 7 rfl 2 rfl (by decide) [(2, .int 0), (0, .ref (D.2.1 h)), (1, .ref (D.2.1 h1))] rfl ?_
  have hx_36 : ∀ (s_36 : Mm), JJ X 3 D s_36 36 [(0, .ref (D.2.1 h)), (1, .ref (D.2.1 h1))] [] (QQ X D (none, fX2_copyFrom_36 h h1 s_36)) := by
    intro s_36
    rw [fX2_copyFrom_36]
    refine j_aload_n F dX2_copyFrom_36 37 rfl 0 rfl ?_
    refine j_aload_n F dX2_copyFrom_37 38 rfl 1 rfl ?_
    refine j_get (j := 1) F dX2_copyFrom_38 41 rfl inX2 rfl (hsP.lt hh1) (shH hh1) (by decide) qX2_23 rfl ?_
    refine j_put (j := 1) F dX2_copyFrom_41 44 rfl inX2 tyX2 tyX2_ok nmX2 rfl (hsP.lt hh) (shH hh) (shH hh) (by decide) qX2_23 rfl (tyX2_ok 1 (by decide)) (Nat.le_of_ble_eq_true rfl) ?_
    refine j_aload_n F dX2_copyFrom_44 45 rfl 0 rfl ?_
    refine j_aload_n F dX2_copyFrom_45 46 rfl 1 rfl ?_
    refine j_get (j := 2) F dX2_copyFrom_46 49 rfl inX2 rfl (hsP.lt hh1) (shH hh1) (by decide) qX2_15 rfl ?_
    refine j_put (j := 2) F dX2_copyFrom_49 52 rfl inX2 tyX2 tyX2_ok nmX2 rfl (hsP.lt hh) (shH hh) (shH hh) (by decide) qX2_15 rfl (tyX2_ok 2 (by decide)) (Nat.le_of_ble_eq_true rfl) ?_
    have jn_52 : ∀ (s_52 : Mm), JJ X 3 D s_52 52 [(0, .ref (D.2.1 h)), (1, .ref (D.2.1 h1))] [] (QQ X D (none, fX2_copyFrom_52 h h1 s_52)) := by
      intro s_52
      rw [fX2_copyFrom_52]
      refine j_aload_n F dX2_copyFrom_52 53 rfl 0 rfl ?_
      refine j_aload_n F dX2_copyFrom_53 54 rfl 1 rfl ?_
      refine j_get (j := 3) F dX2_copyFrom_54 57 rfl inX2 rfl (hsP.lt hh1) (shH hh1) (by decide) qX2_26 rfl ?_
      refine j_put (j := 3) F dX2_copyFrom_57 60 rfl inX2 tyX2 tyX2_ok nmX2 rfl (hsP.lt hh) (shH hh) (shH hh) (by decide) qX2_26 rfl (tyX2_ok 3 (by decide)) (Nat.le_of_ble_eq_true rfl) ?_
      refine j_aload_n F dX2_copyFrom_60 61 rfl 0 rfl ?_
      refine j_aload_n F dX2_copyFrom_61 62 rfl 1 rfl ?_
      refine j_get (j := 4) F dX2_copyFrom_62 65 rfl inX2 rfl (hsP.lt hh1) (shH hh1) (by decide) qX2_29 rfl ?_
      refine j_put (j := 4) F dX2_copyFrom_65 68 rfl inX2 tyX2 tyX2_ok nmX2 rfl (hsP.lt hh) (shH hh) (shH hh) (by decide) qX2_29 rfl (tyX2_ok 4 (by decide)) (Nat.le_of_ble_eq_true rfl) ?_
      have jn_68 : ∀ (s_68 : Mm), JJ X 3 D s_68 68 [(0, .ref (D.2.1 h)), (1, .ref (D.2.1 h1))] [] (QQ X D (none, fX2_copyFrom_68 h h1 s_68)) := by
        intro s_68
        rw [fX2_copyFrom_68]
        refine j_aload_n F dX2_copyFrom_68 69 rfl 0 rfl ?_
        refine j_aload_n F dX2_copyFrom_69 70 rfl 1 rfl ?_
        refine j_get (j := 5) F dX2_copyFrom_70 73 rfl inX2 rfl (hsP.lt hh1) (shH hh1) (by decide) qX2_32 rfl ?_
        refine j_put (j := 5) F dX2_copyFrom_73 76 rfl inX2 tyX2 tyX2_ok nmX2 rfl (hsP.lt hh) (shH hh) (shH hh) (by decide) qX2_32 rfl (tyX2_ok 5 (by decide)) (Nat.le_of_ble_eq_true rfl) ?_
        refine j_aload_n F dX2_copyFrom_76 77 rfl 0 rfl ?_
        refine j_aload_n F dX2_copyFrom_77 78 rfl 1 rfl ?_
        refine j_get (j := 6) F dX2_copyFrom_78 81 rfl inX2 rfl (hsP.lt hh1) (shH hh1) (by decide) qX2_35 rfl ?_
        refine j_put (j := 6) F dX2_copyFrom_81 84 rfl inX2 tyX2 tyX2_ok nmX2 rfl (hsP.lt hh) (shH hh) (shH hh) (by decide) qX2_35 rfl (tyX2_ok 6 (by decide)) (Nat.le_of_ble_eq_true rfl) ?_
        have jn_84 : ∀ (s_84 : Mm), JJ X 3 D s_84 84 [(0, .ref (D.2.1 h)), (1, .ref (D.2.1 h1))] [] (QQ X D (none, fX2_copyFrom_84 h h1 s_84)) := by
          intro s_84
          rw [fX2_copyFrom_84]
          refine j_aload_n F dX2_copyFrom_84 85 rfl 0 rfl ?_
          refine j_aload_n F dX2_copyFrom_85 86 rfl 1 rfl ?_
          refine j_get (j := 7) F dX2_copyFrom_86 89 rfl inX2 rfl (hsP.lt hh1) (shH hh1) (by decide) qX2_38 rfl ?_
          refine j_put (j := 7) F dX2_copyFrom_89 92 rfl inX2 tyX2 tyX2_ok nmX2 rfl (hsP.lt hh) (shH hh) (shH hh) (by decide) qX2_38 rfl (tyX2_ok 7 (by decide)) (Nat.le_of_ble_eq_true rfl) ?_
          exact j_ret_v F dX2_copyFrom_92 rfl rfl rfl
        exact jn_84 (up (up s_68 h 5 (s_68.1 h1 5)) h 6 ((up s_68 h 5 (s_68.1 h1 5)).1 h1 6)) 
      exact jn_68 (up (up s_52 h 3 (s_52.1 h1 3)) h 4 ((up s_52 h 3 (s_52.1 h1 3)).1 h1 4)) 
    exact jn_52 (up (up s_36 h 1 (s_36.1 h1 1)) h 2 ((up s_36 h 1 (s_36.1 h1 1)).1 h1 2)) 
  have lp_7 : ∀ (n_7 : Nat) (s_7 : Mm) (k2_7 : Nat), k2_7 ≤ 8 → 8 < k2_7 + n_7 → JJ X 3 D s_7 7 [(0, .ref (D.2.1 h)), (1, .ref (D.2.1 h1)), (2, .int (nI k2_7))] [] (QQ X D (none, fX2_copyFrom_7 h h1 n_7 s_7 k2_7)) := by
    intro n_7
    induction n_7 with
    | zero => intro s_7 k2_7 hk_7 hn_7; exact absurd hn_7 (by omega)
    | succ n_7 ih_7 =>
      intro s_7 k2_7 hk_7 hn_7
      rw [fX2_copyFrom_7]
      refine j_iload_n F dX2_copyFrom_7 8 rfl 2 rfl ?_
      refine j_aload_n F dX2_copyFrom_8 9 rfl 0 rfl ?_
      refine j_get (j := 0) F dX2_copyFrom_9 12 rfl inX2 rfl (hsP.lt hh) (shH hh) (by decide) qX2_9 rfl ?_
      refine j_alen F dX2_copyFrom_12 13 rfl (iaT hh) ?_
      refine j_icmp_ge F dX2_copyFrom_13 36 (by decide) 16 rfl (fun c_13 => ?_) (fun c_13 => ?_)
      · rw [if_pos c_13]
        have h_13 : k2_7 < 8 := nlt c_13 (by decide) (by omega)
        refine j_aload_n F dX2_copyFrom_16 17 rfl 0 rfl ?_
        refine j_get (j := 0) F dX2_copyFrom_17 20 rfl inX2 rfl (hsP.lt hh) (shH hh) (by decide) qX2_9 rfl ?_
        refine j_iload_n F dX2_copyFrom_20 21 rfl 2 rfl ?_
        refine j_aload_n F dX2_copyFrom_21 22 rfl 1 rfl ?_
        refine j_get (j := 0) F dX2_copyFrom_22 25 rfl inX2 rfl (hsP.lt hh1) (shH hh1) (by decide) qX2_9 rfl ?_
        refine j_iload_n F dX2_copyFrom_25 26 rfl 2 rfl ?_
        refine j_callSNr (as := [.ref (D.2.1 (h1 + 1)), .int (nI k2_7)]) (st := [.int (nI k2_7), .ref (D.2.1 (h + 1))]) (r := .int (fX9_at s_7 (h1 + 1) 8 (nI k2_7))) (σ9 := s_7) F zX9_at dX2_copyFrom_26 29 rfl pX9_at rfl (by decide) (by decide) (Nat.le_of_ble_eq_true rfl) rfl qX2_19 (kX9_at l D (h1 + 1) 8 (nI k2_7) s_7 (iaT hh1)) ?_
        refine j_iast_n F dX2_copyFrom_29 30 rfl (iaT hh) k2_7 rfl (by omega) ?_
        refine j_iinc F dX2_copyFrom_30 33 rfl 2 rfl (nI (k2_7 + 1)) (nI_inc k2_7) (by decide) [(2, .int (nI (k2_7 + 1))), (0, .ref (D.2.1 h)), (1, .ref (D.2.1 h1))] rfl ?_
        refine j_goto F dX2_copyFrom_33 7 (by decide) ?_
        refine j_pick [1, 2, 0] [(0, .ref (D.2.1 h)), (1, .ref (D.2.1 h1)), (2, .int (nI (k2_7 + 1)))] rfl ?_
        exact ih_7 (up s_7 (h + 1) k2_7 (fX9_at s_7 (h1 + 1) 8 (nI k2_7))) (k2_7 + 1) (by omega) (by omega)
      · rw [if_neg c_13]
        refine j_pick [0, 1] [(0, .ref (D.2.1 h)), (1, .ref (D.2.1 h1))] rfl ?_
        exact hx_36 s_7
  refine j_pick [1, 2, 0] [(0, .ref (D.2.1 h)), (1, .ref (D.2.1 h1)), (2, .int 0)] rfl ?_
  exact lp_7 9 σ 0 (by omega) (by omega)
def fX2_perform (σ : Mm) (h : Nat) (a1 : Int32) (a2 : Int32) : Mm := if a1 = 0 then ((up σ h 5 ((σ.1 h 5) ||| (1 <<< (a2 &&& 31))))) else if a1 = 1 then ((up σ h 7 ((σ.1 h 7) ||| (1 <<< (a2 &&& 31))))) else if a1 = 2 then (if (fX9_holds (fX2_shown (up σ h 6 ((σ.1 h 6) ^^^ (1 <<< (a2 &&& 31)))) h) a2) = true then ((up (up σ h 6 ((σ.1 h 6) ^^^ (1 <<< (a2 &&& 31)))) h 7 (((up σ h 6 ((σ.1 h 6) ^^^ (1 <<< (a2 &&& 31)))).1 h 7) &&& ((fX2_alikeTo (up σ h 6 ((σ.1 h 6) ^^^ (1 <<< (a2 &&& 31)))) h a2 ((up σ h 6 ((σ.1 h 6) ^^^ (1 <<< (a2 &&& 31)))).1 h 2) ((up σ h 6 ((σ.1 h 6) ^^^ (1 <<< (a2 &&& 31)))).1 h 7)) ^^^ (-1))))) else ((up σ h 6 ((σ.1 h 6) ^^^ (1 <<< (a2 &&& 31)))))) else if a1 = 3 then ((up σ h 4 ((σ.1 h 4) ^^^ (1 <<< (a2 &&& 31))))) else (σ)
set_option maxRecDepth 20000 in
theorem kX2_perform (l : Launch) (D : Dm) (h : Nat) (a1 : Int32) (a2 : Int32) (σ : Mm) (hh : hsP h) : Ct l yX2_perform cX2_perform 4 none 4 D [.ref (D.2.1 h), .int a1, .int a2] σ (none, fX2_perform σ h a1 a2) := by
  refine ct_of (by decide +kernel) (Nat.le_of_ble_eq_true rfl) (fun X F => ?_)
  have F : Fx X l 4 D cX2_perform RX2 4 none := F
  show JJ X 4 D σ 0 [(0, .ref (D.2.1 h)), (1, .int a1), (2, .int a2)] [] (QQ X D (none, fX2_perform σ h a1 a2))
  rw [fX2_perform]
  refine j_iconst (v := 1) F dX2_perform_0 1 rfl (by decide) ?_
  refine j_iload_n F dX2_perform_1 2 rfl 2 rfl ?_
  refine j_ishl F dX2_perform_2 3 rfl ?_
  refine j_istore_n F dX2_perform_3 4 rfl 3 rfl (by decide) [(3, .int (1 <<< (a2 &&& 31))), (0, .ref (D.2.1 h)), (1, .int a1), (2, .int a2)] rfl ?_
  refine j_iload_n F dX2_perform_4 5 rfl 2 rfl ?_
  refine j_by (a1 = 0) (fun c_5_0 => ?_) (fun c_5_0 => ?_)
  · rw [if_pos c_5_0]
    refine j_tin (z := 0) F dX2_perform_5 c_5_0 (by decide) (by decide) (by decide) rfl 36 (by decide) ?_
    refine j_aload_n F dX2_perform_36 37 rfl 1 rfl ?_
    refine j_dup F dX2_perform_37 38 rfl rfl ?_
    refine j_get (j := 5) F dX2_perform_38 41 rfl inX2 rfl (hsP.lt hh) (shH hh) (by decide) qX2_32 rfl ?_
    refine j_iload_n F dX2_perform_41 42 rfl 0 rfl ?_
    refine j_ior F dX2_perform_42 43 rfl ?_
    refine j_put (j := 5) F dX2_perform_43 46 rfl inX2 tyX2 tyX2_ok nmX2 rfl (hsP.lt hh) (shH hh) (shH hh) (by decide) qX2_32 rfl (tyX2_ok 5 (by decide)) (Nat.le_of_ble_eq_true rfl) ?_
    refine j_goto F dX2_perform_46 123 (by decide) ?_
    exact j_ret_v F dX2_perform_123 rfl rfl rfl
  · rw [if_neg c_5_0]
    refine j_by (a1 = 1) (fun c_5_1 => ?_) (fun c_5_1 => ?_)
    · rw [if_pos c_5_1]
      refine j_tin (z := 1) F dX2_perform_5 c_5_1 (by decide) (by decide) (by decide) rfl 49 (by decide) ?_
      refine j_aload_n F dX2_perform_49 50 rfl 1 rfl ?_
      refine j_dup F dX2_perform_50 51 rfl rfl ?_
      refine j_get (j := 7) F dX2_perform_51 54 rfl inX2 rfl (hsP.lt hh) (shH hh) (by decide) qX2_38 rfl ?_
      refine j_iload_n F dX2_perform_54 55 rfl 0 rfl ?_
      refine j_ior F dX2_perform_55 56 rfl ?_
      refine j_put (j := 7) F dX2_perform_56 59 rfl inX2 tyX2 tyX2_ok nmX2 rfl (hsP.lt hh) (shH hh) (shH hh) (by decide) qX2_38 rfl (tyX2_ok 7 (by decide)) (Nat.le_of_ble_eq_true rfl) ?_
      refine j_goto F dX2_perform_59 123 (by decide) ?_
      exact j_ret_v F dX2_perform_123 rfl rfl rfl
    · rw [if_neg c_5_1]
      refine j_by (a1 = 2) (fun c_5_2 => ?_) (fun c_5_2 => ?_)
      · rw [if_pos c_5_2]
        refine j_tin (z := 2) F dX2_perform_5 c_5_2 (by decide) (by decide) (by decide) rfl 62 (by decide) ?_
        refine j_aload_n F dX2_perform_62 63 rfl 1 rfl ?_
        refine j_dup F dX2_perform_63 64 rfl rfl ?_
        refine j_get (j := 6) F dX2_perform_64 67 rfl inX2 rfl (hsP.lt hh) (shH hh) (by decide) qX2_35 rfl ?_
        refine j_iload_n F dX2_perform_67 68 rfl 0 rfl ?_
        refine j_ixor F dX2_perform_68 69 rfl ?_
        refine j_put (j := 6) F dX2_perform_69 72 rfl inX2 tyX2 tyX2_ok nmX2 rfl (hsP.lt hh) (shH hh) (shH hh) (by decide) qX2_35 rfl (tyX2_ok 6 (by decide)) (Nat.le_of_ble_eq_true rfl) ?_
        refine j_aload_n F dX2_perform_72 73 rfl 1 rfl ?_
        refine j_callVr (as := []) (st := []) (r := .int (fX2_shown (up σ h 6 ((σ.1 h 6) ^^^ (1 <<< (a2 &&& 31)))) h)) (σ9 := (up σ h 6 ((σ.1 h 6) ^^^ (1 <<< (a2 &&& 31))))) F zX2_shown dX2_perform_73 76 rfl pX2_shown rfl (by decide) (by decide) (Nat.le_of_ble_eq_true rfl) rfl qX2_78 rfl rfl (hsP.lt hh) (shH hh) (kX2_shown l D h (up σ h 6 ((σ.1 h 6) ^^^ (1 <<< (a2 &&& 31)))) hh) ?_
        refine j_iload_n F dX2_perform_76 77 rfl 3 rfl ?_
        refine j_callSNr (as := [.int (fX2_shown (up σ h 6 ((σ.1 h 6) ^^^ (1 <<< (a2 &&& 31)))) h), .int a2]) (st := []) (r := .int (bi (fX9_holds (fX2_shown (up σ h 6 ((σ.1 h 6) ^^^ (1 <<< (a2 &&& 31)))) h) a2))) (σ9 := (up σ h 6 ((σ.1 h 6) ^^^ (1 <<< (a2 &&& 31))))) F zX9_holds dX2_perform_77 80 rfl pX9_holds rfl (by decide) (by decide) (Nat.le_of_ble_eq_true rfl) rfl qX2_65 (kX9_holds l D (fX2_shown (up σ h 6 ((σ.1 h 6) ^^^ (1 <<< (a2 &&& 31)))) h) a2 (up σ h 6 ((σ.1 h 6) ^^^ (1 <<< (a2 &&& 31))))) ?_
        refine j_ifb_eq F dX2_perform_80 123 (by decide) 83 rfl (fun c_80 => ?_) (fun c_80 => ?_)
        · rw [if_pos c_80]
          refine j_aload_n F dX2_perform_83 84 rfl 1 rfl ?_
          refine j_dup F dX2_perform_84 85 rfl rfl ?_
          refine j_get (j := 7) F dX2_perform_85 88 rfl inX2 rfl (hsP.lt hh) (shH hh) (by decide) qX2_38 rfl ?_
          refine j_aload_n F dX2_perform_88 89 rfl 1 rfl ?_
          refine j_iload_n F dX2_perform_89 90 rfl 3 rfl ?_
          refine j_aload_n F dX2_perform_90 91 rfl 1 rfl ?_
          refine j_get (j := 2) F dX2_perform_91 94 rfl inX2 rfl (hsP.lt hh) (shH hh) (by decide) qX2_15 rfl ?_
          refine j_aload_n F dX2_perform_94 95 rfl 1 rfl ?_
          refine j_get (j := 7) F dX2_perform_95 98 rfl inX2 rfl (hsP.lt hh) (shH hh) (by decide) qX2_38 rfl ?_
          refine j_callVr (as := [.int a2, .int ((up σ h 6 ((σ.1 h 6) ^^^ (1 <<< (a2 &&& 31)))).1 h 2), .int ((up σ h 6 ((σ.1 h 6) ^^^ (1 <<< (a2 &&& 31)))).1 h 7)]) (st := [.int ((up σ h 6 ((σ.1 h 6) ^^^ (1 <<< (a2 &&& 31)))).1 h 7), .ref (D.2.1 h)]) (r := .int (fX2_alikeTo (up σ h 6 ((σ.1 h 6) ^^^ (1 <<< (a2 &&& 31)))) h a2 ((up σ h 6 ((σ.1 h 6) ^^^ (1 <<< (a2 &&& 31)))).1 h 2) ((up σ h 6 ((σ.1 h 6) ^^^ (1 <<< (a2 &&& 31)))).1 h 7))) (σ9 := (up σ h 6 ((σ.1 h 6) ^^^ (1 <<< (a2 &&& 31))))) F zX2_alikeTo dX2_perform_98 101 rfl pX2_alikeTo rfl (by decide) (by decide) (Nat.le_of_ble_eq_true rfl) rfl qX2_84 rfl rfl (hsP.lt hh) (shH hh) (kX2_alikeTo l D h a2 ((up σ h 6 ((σ.1 h 6) ^^^ (1 <<< (a2 &&& 31)))).1 h 2) ((up σ h 6 ((σ.1 h 6) ^^^ (1 <<< (a2 &&& 31)))).1 h 7) (up σ h 6 ((σ.1 h 6) ^^^ (1 <<< (a2 &&& 31)))) hh) ?_
          refine j_iconst (v := (-1)) F dX2_perform_101 102 rfl (by decide) ?_
          refine j_ixor F dX2_perform_102 103 rfl ?_
          refine j_iand F dX2_perform_103 104 rfl ?_
          refine j_put (j := 7) F dX2_perform_104 107 rfl inX2 tyX2 tyX2_ok nmX2 rfl (hsP.lt hh) (shH hh) (shH hh) (by decide) qX2_38 rfl (tyX2_ok 7 (by decide)) (Nat.le_of_ble_eq_true rfl) ?_
          refine j_goto F dX2_perform_107 123 (by decide) ?_
          exact j_ret_v F dX2_perform_123 rfl rfl rfl
        · rw [if_neg c_80]
          exact j_ret_v F dX2_perform_123 rfl rfl rfl
      · rw [if_neg c_5_2]
        refine j_by (a1 = 3) (fun c_5_3 => ?_) (fun c_5_3 => ?_)
        · rw [if_pos c_5_3]
          refine j_tin (z := 3) F dX2_perform_5 c_5_3 (by decide) (by decide) (by decide) rfl 110 (by decide) ?_
          refine j_aload_n F dX2_perform_110 111 rfl 1 rfl ?_
          refine j_dup F dX2_perform_111 112 rfl rfl ?_
          refine j_get (j := 4) F dX2_perform_112 115 rfl inX2 rfl (hsP.lt hh) (shH hh) (by decide) qX2_29 rfl ?_
          refine j_iload_n F dX2_perform_115 116 rfl 0 rfl ?_
          refine j_ixor F dX2_perform_116 117 rfl ?_
          refine j_put (j := 4) F dX2_perform_117 120 rfl inX2 tyX2 tyX2_ok nmX2 rfl (hsP.lt hh) (shH hh) (shH hh) (by decide) qX2_29 rfl (tyX2_ok 4 (by decide)) (Nat.le_of_ble_eq_true rfl) ?_
          refine j_goto F dX2_perform_120 123 (by decide) ?_
          exact j_ret_v F dX2_perform_123 rfl rfl rfl
        · rw [if_neg c_5_3]
          refine j_tout F dX2_perform_5 (by have e0 := lv_neT c_5_0 (show (0 : Int32).toInt = 0 from by decide); have e1 := lv_neT c_5_1 (show (1 : Int32).toInt = 1 from by decide); have e2 := lv_neT c_5_2 (show (2 : Int32).toInt = 2 from by decide); have e3 := lv_neT c_5_3 (show (3 : Int32).toInt = 3 from by decide); omega) 123 (by decide) ?_
          exact j_ret_v F dX2_perform_123 rfl rfl rfl
def fX2_priceOf (σ : Mm) (h : Nat) (a1 : Int32) : Int32 := if (fX9_holds (fX2_shown σ h) a1) = true then ((fX2_shareOf (fX2_figure σ h a1 5) ((fX2_alikeTo σ h a1 (σ.1 h 2) (fX2_shown σ h)) ||| (1 <<< (a1 &&& 31))))) else (0)
set_option maxRecDepth 20000 in
theorem kX2_priceOf (l : Launch) (D : Dm) (h : Nat) (a1 : Int32) (σ : Mm) (hh : hsP h) : Ct l yX2_priceOf cX2_priceOf 3 (some .int) 4 D [.ref (D.2.1 h), .int a1] σ (some (.int (fX2_priceOf σ h a1)), σ) := by
  refine ct_of (by decide +kernel) (Nat.le_of_ble_eq_true rfl) (fun X F => ?_)
  have F : Fx X l 3 D cX2_priceOf RX2 4 (some .int) := F
  show JJ X 3 D σ 0 [(0, .ref (D.2.1 h)), (1, .int a1)] [] (QQ X D (some (.int (fX2_priceOf σ h a1)), σ))
  rw [fX2_priceOf]
  refine j_aload_n F dX2_priceOf_0 1 rfl 0 rfl ?_
  refine j_callVr (as := []) (st := []) (r := .int (fX2_shown σ h)) (σ9 := σ) F zX2_shown dX2_priceOf_1 4 rfl pX2_shown rfl (by decide) (by decide) (Nat.le_of_ble_eq_true rfl) rfl qX2_78 rfl rfl (hsP.lt hh) (shH hh) (kX2_shown l D h σ hh) ?_
  refine j_istore_n F dX2_priceOf_4 5 rfl 2 rfl (by decide) [(2, .int (fX2_shown σ h)), (0, .ref (D.2.1 h)), (1, .int a1)] rfl ?_
  refine j_iload_n F dX2_priceOf_5 6 rfl 0 rfl ?_
  refine j_iload_n F dX2_priceOf_6 7 rfl 2 rfl ?_
  refine j_callSNr (as := [.int (fX2_shown σ h), .int a1]) (st := []) (r := .int (bi (fX9_holds (fX2_shown σ h) a1))) (σ9 := σ) F zX9_holds dX2_priceOf_7 10 rfl pX9_holds rfl (by decide) (by decide) (Nat.le_of_ble_eq_true rfl) rfl qX2_65 (kX9_holds l D (fX2_shown σ h) a1 σ) ?_
  refine j_ifb_ne F dX2_priceOf_10 15 (by decide) 13 rfl (fun c_10 => ?_) (fun c_10 => ?_)
  · rw [if_neg c_10]
    refine j_iconst (v := 0) F dX2_priceOf_13 14 rfl (by decide) ?_
    exact j_ret_i F dX2_priceOf_14 rfl rfl rfl
  · rw [if_pos c_10]
    refine j_aload_n F dX2_priceOf_15 16 rfl 1 rfl ?_
    refine j_iload_n F dX2_priceOf_16 17 rfl 2 rfl ?_
    refine j_iconst (v := 5) F dX2_priceOf_17 18 rfl (by decide) ?_
    refine j_callVr (as := [.int a1, .int 5]) (st := []) (r := .int (fX2_figure σ h a1 5)) (σ9 := σ) F zX2_figure dX2_priceOf_18 21 rfl pX2_figure rfl (by decide) (by decide) (Nat.le_of_ble_eq_true rfl) rfl qX2_88 rfl rfl (hsP.lt hh) (shH hh) (kX2_figure l D h a1 5 σ hh) ?_
    refine j_aload_n F dX2_priceOf_21 22 rfl 1 rfl ?_
    refine j_iload_n F dX2_priceOf_22 23 rfl 2 rfl ?_
    refine j_aload_n F dX2_priceOf_23 24 rfl 1 rfl ?_
    refine j_get (j := 2) F dX2_priceOf_24 27 rfl inX2 rfl (hsP.lt hh) (shH hh) (by decide) qX2_15 rfl ?_
    refine j_iload_n F dX2_priceOf_27 28 rfl 0 rfl ?_
    refine j_callVr (as := [.int a1, .int (σ.1 h 2), .int (fX2_shown σ h)]) (st := [.int (fX2_figure σ h a1 5)]) (r := .int (fX2_alikeTo σ h a1 (σ.1 h 2) (fX2_shown σ h))) (σ9 := σ) F zX2_alikeTo dX2_priceOf_28 31 rfl pX2_alikeTo rfl (by decide) (by decide) (Nat.le_of_ble_eq_true rfl) rfl qX2_84 rfl rfl (hsP.lt hh) (shH hh) (kX2_alikeTo l D h a1 (σ.1 h 2) (fX2_shown σ h) σ hh) ?_
    refine j_iconst (v := 1) F dX2_priceOf_31 32 rfl (by decide) ?_
    refine j_iload_n F dX2_priceOf_32 33 rfl 2 rfl ?_
    refine j_ishl F dX2_priceOf_33 34 rfl ?_
    refine j_ior F dX2_priceOf_34 35 rfl ?_
    refine j_callSr (as := [.int (fX2_figure σ h a1 5), .int ((fX2_alikeTo σ h a1 (σ.1 h 2) (fX2_shown σ h)) ||| (1 <<< (a1 &&& 31)))]) (st := []) (r := .int (fX2_shareOf (fX2_figure σ h a1 5) ((fX2_alikeTo σ h a1 (σ.1 h 2) (fX2_shown σ h)) ||| (1 <<< (a1 &&& 31))))) (σ9 := σ) F zX2_shareOf dX2_priceOf_35 38 rfl pX2_shareOf rfl (by decide) (by decide) (Nat.le_of_ble_eq_true rfl) rfl qX2_91 (kX2_shareOf l D (fX2_figure σ h a1 5) ((fX2_alikeTo σ h a1 (σ.1 h 2) (fX2_shown σ h)) ||| (1 <<< (a1 &&& 31))) σ) ?_
    exact j_ret_i F dX2_priceOf_38 rfl rfl rfl
def fX8_figureTold (σ : Mm) (a1 : Int32) (a2 : Int32) : Int32 := ((fX9_at σ 3 56 (((2 + (a1 * 9)) + 1) + a2)) - 48)
set_option maxRecDepth 20000 in
theorem kX8_figureTold (l : Launch) (D : Dm) (a1 : Int32) (a2 : Int32) (σ : Mm)  : Ct l yX8_figureTold cX8_figureTold 3 (some .int) 2 D [.ref (D.2.1 2), .int a1, .int a2] σ (some (.int (fX8_figureTold σ a1 a2)), σ) := by
  refine ct_of (by decide +kernel) (Nat.le_of_ble_eq_true rfl) (fun X F => ?_)
  have F : Fx X l 3 D cX8_figureTold RX8 2 (some .int) := F
  show JJ X 3 D σ 0 [(0, .ref (D.2.1 2)), (1, .int a1), (2, .int a2)] [] (QQ X D (some (.int (fX8_figureTold σ a1 a2)), σ))
  rw [fX8_figureTold]
  refine j_aload_n F dX8_figureTold_0 1 rfl 0 rfl ?_
  refine j_get (j := 0) F dX8_figureTold_1 4 rfl inX8 rfl (by decide) sh2 (by decide) qX8_9 rfl ?_
  refine j_iconst (v := 2) F dX8_figureTold_4 5 rfl (by decide) ?_
  refine j_iload_n F dX8_figureTold_5 6 rfl 1 rfl ?_
  refine j_bipush (v := 9) F dX8_figureTold_6 8 rfl (by decide) ?_
  refine j_imul F dX8_figureTold_8 9 rfl ?_
  refine j_iadd F dX8_figureTold_9 10 rfl ?_
  refine j_iconst (v := 1) F dX8_figureTold_10 11 rfl (by decide) ?_
  refine j_iadd F dX8_figureTold_11 12 rfl ?_
  refine j_iload_n F dX8_figureTold_12 13 rfl 2 rfl ?_
  refine j_iadd F dX8_figureTold_13 14 rfl ?_
  refine j_callSNr (as := [.ref (D.2.1 3), .int (((2 + (a1 * 9)) + 1) + a2)]) (st := []) (r := .int (fX9_at σ 3 56 (((2 + (a1 * 9)) + 1) + a2))) (σ9 := σ) F zX9_at dX8_figureTold_14 17 rfl pX9_at rfl (by decide) (by decide) (Nat.le_of_ble_eq_true rfl) rfl qX8_29 (kX9_at l D 3 56 (((2 + (a1 * 9)) + 1) + a2) σ ia3) ?_
  refine j_bipush (v := 48) F dX8_figureTold_17 19 rfl (by decide) ?_
  refine j_isub F dX8_figureTold_19 20 rfl ?_
  exact j_ret_i F dX8_figureTold_20 rfl rfl rfl
def fX8_things (σ : Mm)  : Int32 := (if 0 < (((σ.1 2 1) - 2) / 9) then (((σ.1 2 1) - 2) / 9) else 0)
set_option maxRecDepth 20000 in
theorem kX8_things (l : Launch) (D : Dm)  (σ : Mm)  : Ct l yX8_things cX8_things 1 (some .int) 1 D [.ref (D.2.1 2)] σ (some (.int (fX8_things σ)), σ) := by
  refine ct_of (by decide +kernel) (Nat.le_of_ble_eq_true rfl) (fun X F => ?_)
  have F : Fx X l 1 D cX8_things RX8 1 (some .int) := F
  show JJ X 1 D σ 0 [(0, .ref (D.2.1 2))] [] (QQ X D (some (.int (fX8_things σ)), σ))
  rw [fX8_things]
  refine j_iconst (v := 0) F dX8_things_0 1 rfl (by decide) ?_
  refine j_aload_n F dX8_things_1 2 rfl 0 rfl ?_
  refine j_get (j := 1) F dX8_things_2 5 rfl inX8 rfl (by decide) sh2 (by decide) qX8_15 rfl ?_
  refine j_iconst (v := 2) F dX8_things_5 6 rfl (by decide) ?_
  refine j_isub F dX8_things_6 7 rfl ?_
  refine j_bipush (v := 9) F dX8_things_7 9 rfl (by decide) ?_
  refine j_idiv F dX8_things_9 10 rfl (by decide) ?_
  refine j_mmax F dX8_things_10 13 rfl (by decide) (Nat.le_of_ble_eq_true rfl) qX8_23 mth_max.1 mth_max.2.1 mth_max.2.2 ?_
  exact j_ret_i F dX8_things_13 rfl rfl rfl
def fX8_wordTold (σ : Mm)  : Int32 := ((fX9_at σ 3 56 1) - 48)
set_option maxRecDepth 20000 in
theorem kX8_wordTold (l : Launch) (D : Dm)  (σ : Mm)  : Ct l yX8_wordTold cX8_wordTold 1 (some .int) 2 D [.ref (D.2.1 2)] σ (some (.int (fX8_wordTold σ)), σ) := by
  refine ct_of (by decide +kernel) (Nat.le_of_ble_eq_true rfl) (fun X F => ?_)
  have F : Fx X l 1 D cX8_wordTold RX8 2 (some .int) := F
  show JJ X 1 D σ 0 [(0, .ref (D.2.1 2))] [] (QQ X D (some (.int (fX8_wordTold σ)), σ))
  rw [fX8_wordTold]
  refine j_aload_n F dX8_wordTold_0 1 rfl 0 rfl ?_
  refine j_get (j := 0) F dX8_wordTold_1 4 rfl inX8 rfl (by decide) sh2 (by decide) qX8_9 rfl ?_
  refine j_iconst (v := 1) F dX8_wordTold_4 5 rfl (by decide) ?_
  refine j_callSNr (as := [.ref (D.2.1 3), .int 1]) (st := []) (r := .int (fX9_at σ 3 56 1)) (σ9 := σ) F zX9_at dX8_wordTold_5 8 rfl pX9_at rfl (by decide) (by decide) (Nat.le_of_ble_eq_true rfl) rfl qX8_29 (kX9_at l D 3 56 1 σ ia3) ?_
  refine j_bipush (v := 48) F dX8_wordTold_8 10 rfl (by decide) ?_
  refine j_isub F dX8_wordTold_10 11 rfl ?_
  exact j_ret_i F dX8_wordTold_11 rfl rfl rfl
def fX2_readFrom_105 (h : Nat) (kb48 : Mm → Nat → Mm) (s_105 : Mm) (k2_105 : Nat) : Mm := kb48 (up s_105 h 4 ((s_105.1 h 4) ||| ((fX8_figureTold s_105 (nI k2_105) 7) <<< ((nI k2_105) &&& 31)))) (k2_105 + 1)
def fX2_readFrom_74 (h : Nat) (kb48 : Mm → Nat → Mm) : Nat → Mm → Nat → Nat → Mm
  | 0, s_74, _, _ => s_74
  | n + 1, s_74, k2_74, k3_74 => if (nI k3_74) < 7 then (fX2_readFrom_74 h kb48 n (up s_74 (h + 1) k2_74 ((s_74.1 (h + 1) k2_74) ||| ((fX8_figureTold s_74 (nI k2_74) (nI k3_74)) <<< ((4 * (nI k3_74)) &&& 31)))) k2_74 (k3_74 + 1)) else (fX2_readFrom_105 h kb48 s_74 k2_74)
def fX2_readFrom_48 (h : Nat)  : Nat → Mm → Nat → Mm
  | 0, s_48, _ => s_48
  | n + 1, s_48, k2_48 => if (nI k2_48) < (nI 8) then (if (nI k2_48) < (s_48.1 h 1) then (fX2_readFrom_74 h (fX2_readFrom_48 h n) 8 (up s_48 (h + 1) k2_48 0) k2_48 0) else (s_48)) else (s_48)
def fX2_readFrom_41 (h : Nat)  (s_41 : Mm) : Mm := fX2_readFrom_48 h 9 (up s_41 h 7 0) 0
def fX2_readFrom_31 (h : Nat)  (s_31 : Mm) : Mm := fX2_readFrom_41 h (up (up s_31 h 5 0) h 6 0)
def fX2_readFrom_21 (h : Nat)  (s_21 : Mm) : Mm := fX2_readFrom_31 h (up (up s_21 h 3 0) h 4 0)
def fX2_readFrom (σ : Mm) (h : Nat) : Mm := fX2_readFrom_21 h (up (up σ h 1 (if 8 < (fX8_things σ) then 8 else (fX8_things σ))) h 2 (fX8_wordTold (up σ h 1 (if 8 < (fX8_things σ) then 8 else (fX8_things σ)))))
set_option maxRecDepth 20000 in
theorem kX2_readFrom (l : Launch) (D : Dm) (h : Nat) (σ : Mm) (hh : hsP h) : Ct l yX2_readFrom cX2_readFrom 4 none 3 D [.ref (D.2.1 h), .ref (D.2.1 2)] σ (none, fX2_readFrom σ h) := by
  refine ct_of (by decide +kernel) (Nat.le_of_ble_eq_true rfl) (fun X F => ?_)
  have F : Fx X l 4 D cX2_readFrom RX2 3 none := F
  show JJ X 4 D σ 0 [(0, .ref (D.2.1 h)), (1, .ref (D.2.1 2))] [] (QQ X D (none, fX2_readFrom σ h))
  rw [fX2_readFrom]
  refine j_aload_n F dX2_readFrom_0 1 rfl 0 rfl ?_
  refine j_aload_n F dX2_readFrom_1 2 rfl 1 rfl ?_
  refine j_callVr (as := []) (st := [.ref (D.2.1 h)]) (r := .int (fX8_things σ)) (σ9 := σ) F zX8_things dX2_readFrom_2 5 rfl pX8_things rfl (by decide) (by decide) (Nat.le_of_ble_eq_true rfl) rfl qX2_41 rfl rfl (by decide) sh2 (kX8_things l D σ) ?_
  refine j_bipush (v := 8) F dX2_readFrom_5 7 rfl (by decide) ?_
  refine j_mmin F dX2_readFrom_7 10 rfl (by decide) (Nat.le_of_ble_eq_true rfl) qX2_47 mth_min.1 mth_min.2.1 mth_min.2.2 ?_
  refine j_put (j := 1) F dX2_readFrom_10 13 rfl inX2 tyX2 tyX2_ok nmX2 rfl (hsP.lt hh) (shH hh) (shH hh) (by decide) qX2_23 rfl (tyX2_ok 1 (by decide)) (Nat.le_of_ble_eq_true rfl) ?_
  refine j_aload_n F dX2_readFrom_13 14 rfl 0 rfl ?_
  refine j_aload_n F dX2_readFrom_14 15 rfl 1 rfl ?_
  refine j_callVr (as := []) (st := [.ref (D.2.1 h)]) (r := .int (fX8_wordTold (up σ h 1 (if 8 < (fX8_things σ) then 8 else (fX8_things σ))))) (σ9 := (up σ h 1 (if 8 < (fX8_things σ) then 8 else (fX8_things σ)))) F zX8_wordTold dX2_readFrom_15 18 rfl pX8_wordTold rfl (by decide) (by decide) (Nat.le_of_ble_eq_true rfl) rfl qX2_53 rfl rfl (by decide) sh2 (kX8_wordTold l D (up σ h 1 (if 8 < (fX8_things σ) then 8 else (fX8_things σ)))) ?_
  refine j_put (j := 2) F dX2_readFrom_18 21 rfl inX2 tyX2 tyX2_ok nmX2 rfl (hsP.lt hh) (shH hh) (shH hh) (by decide) qX2_15 rfl (tyX2_ok 2 (by decide)) (Nat.le_of_ble_eq_true rfl) ?_
  have jn_21 : ∀ (s_21 : Mm), JJ X 4 D s_21 21 [(0, .ref (D.2.1 h)), (1, .ref (D.2.1 2))] [] (QQ X D (none, fX2_readFrom_21 h s_21)) := by
    intro s_21
    rw [fX2_readFrom_21]
    refine j_aload_n F dX2_readFrom_21 22 rfl 0 rfl ?_
    refine j_iconst (v := 0) F dX2_readFrom_22 23 rfl (by decide) ?_
    refine j_put (j := 3) F dX2_readFrom_23 26 rfl inX2 tyX2 tyX2_ok nmX2 rfl (hsP.lt hh) (shH hh) (shH hh) (by decide) qX2_26 rfl (tyX2_ok 3 (by decide)) (Nat.le_of_ble_eq_true rfl) ?_
    refine j_aload_n F dX2_readFrom_26 27 rfl 0 rfl ?_
    refine j_iconst (v := 0) F dX2_readFrom_27 28 rfl (by decide) ?_
    refine j_put (j := 4) F dX2_readFrom_28 31 rfl inX2 tyX2 tyX2_ok nmX2 rfl (hsP.lt hh) (shH hh) (shH hh) (by decide) qX2_29 rfl (tyX2_ok 4 (by decide)) (Nat.le_of_ble_eq_true rfl) ?_
    have jn_31 : ∀ (s_31 : Mm), JJ X 4 D s_31 31 [(0, .ref (D.2.1 h)), (1, .ref (D.2.1 2))] [] (QQ X D (none, fX2_readFrom_31 h s_31)) := by
      intro s_31
      rw [fX2_readFrom_31]
      refine j_aload_n F dX2_readFrom_31 32 rfl 0 rfl ?_
      refine j_iconst (v := 0) F dX2_readFrom_32 33 rfl (by decide) ?_
      refine j_put (j := 5) F dX2_readFrom_33 36 rfl inX2 tyX2 tyX2_ok nmX2 rfl (hsP.lt hh) (shH hh) (shH hh) (by decide) qX2_32 rfl (tyX2_ok 5 (by decide)) (Nat.le_of_ble_eq_true rfl) ?_
      refine j_aload_n F dX2_readFrom_36 37 rfl 0 rfl ?_
      refine j_iconst (v := 0) F dX2_readFrom_37 38 rfl (by decide) ?_
      refine j_put (j := 6) F dX2_readFrom_38 41 rfl inX2 tyX2 tyX2_ok nmX2 rfl (hsP.lt hh) (shH hh) (shH hh) (by decide) qX2_35 rfl (tyX2_ok 6 (by decide)) (Nat.le_of_ble_eq_true rfl) ?_
      have jn_41 : ∀ (s_41 : Mm), JJ X 4 D s_41 41 [(0, .ref (D.2.1 h)), (1, .ref (D.2.1 2))] [] (QQ X D (none, fX2_readFrom_41 h s_41)) := by
        intro s_41
        rw [fX2_readFrom_41]
        refine j_aload_n F dX2_readFrom_41 42 rfl 0 rfl ?_
        refine j_iconst (v := 0) F dX2_readFrom_42 43 rfl (by decide) ?_
        refine j_put (j := 7) F dX2_readFrom_43 46 rfl inX2 tyX2 tyX2_ok nmX2 rfl (hsP.lt hh) (shH hh) (shH hh) (by decide) qX2_38 rfl (tyX2_ok 7 (by decide)) (Nat.le_of_ble_eq_true rfl) ?_
        refine j_iconst (v := 0) F dX2_readFrom_46 47 rfl (by decide) ?_
        refine j_istore_n F dX2_readFrom_47 48 rfl 2 rfl (by decide) [(2, .int 0), (0, .ref (D.2.1 h)), (1, .ref (D.2.1 2))] rfl ?_
        have lp_48 : ∀ (n_48 : Nat) (s_48 : Mm) (k2_48 : Nat), k2_48 ≤ 8 → 8 < k2_48 + n_48 → JJ X 4 D s_48 48 [(0, .ref (D.2.1 h)), (1, .ref (D.2.1 2)), (2, .int (nI k2_48))] [] (QQ X D (none, fX2_readFrom_48 h n_48 s_48 k2_48)) := by
          intro n_48
          induction n_48 with
          | zero => intro s_48 k2_48 hk_48 hn_48; exact absurd hn_48 (by omega)
          | succ n_48 ih_48 =>
            intro s_48 k2_48 hk_48 hn_48
            rw [fX2_readFrom_48]
            refine j_iload_n F dX2_readFrom_48 49 rfl 2 rfl ?_
            refine j_aload_n F dX2_readFrom_49 50 rfl 0 rfl ?_
            refine j_get (j := 0) F dX2_readFrom_50 53 rfl inX2 rfl (hsP.lt hh) (shH hh) (by decide) qX2_9 rfl ?_
            refine j_alen F dX2_readFrom_53 54 rfl (iaT hh) ?_
            refine j_icmp_ge F dX2_readFrom_54 129 (by decide) 57 rfl (fun c_54 => ?_) (fun c_54 => ?_)
            · rw [if_pos c_54]
              have h_54 : k2_48 < 8 := nlt c_54 (by decide) (by omega)
              refine j_iload_n F dX2_readFrom_57 58 rfl 2 rfl ?_
              refine j_aload_n F dX2_readFrom_58 59 rfl 0 rfl ?_
              refine j_get (j := 1) F dX2_readFrom_59 62 rfl inX2 rfl (hsP.lt hh) (shH hh) (by decide) qX2_23 rfl ?_
              refine j_icmp_ge F dX2_readFrom_62 129 (by decide) 65 rfl (fun c_62 => ?_) (fun c_62 => ?_)
              · rw [if_pos c_62]
                refine j_aload_n F dX2_readFrom_65 66 rfl 0 rfl ?_
                refine j_get (j := 0) F dX2_readFrom_66 69 rfl inX2 rfl (hsP.lt hh) (shH hh) (by decide) qX2_9 rfl ?_
                refine j_iload_n F dX2_readFrom_69 70 rfl 2 rfl ?_
                refine j_iconst (v := 0) F dX2_readFrom_70 71 rfl (by decide) ?_
                refine j_iast_n F dX2_readFrom_71 72 rfl (iaT hh) k2_48 rfl (by omega) ?_
                refine j_iconst (v := 0) F dX2_readFrom_72 73 rfl (by decide) ?_
                refine j_istore_n F dX2_readFrom_73 74 rfl 3 rfl (by decide) [(3, .int 0), (0, .ref (D.2.1 h)), (1, .ref (D.2.1 2)), (2, .int (nI k2_48))] rfl ?_
                have hx_105 : ∀ (s_105 : Mm), JJ X 4 D s_105 105 [(0, .ref (D.2.1 h)), (1, .ref (D.2.1 2)), (2, .int (nI k2_48))] [] (QQ X D (none, fX2_readFrom_105 h (fX2_readFrom_48 h n_48) s_105 k2_48)) := by
                  intro s_105
                  rw [fX2_readFrom_105]
                  refine j_aload_n F dX2_readFrom_105 106 rfl 0 rfl ?_
                  refine j_dup F dX2_readFrom_106 107 rfl rfl ?_
                  refine j_get (j := 4) F dX2_readFrom_107 110 rfl inX2 rfl (hsP.lt hh) (shH hh) (by decide) qX2_29 rfl ?_
                  refine j_aload_n F dX2_readFrom_110 111 rfl 1 rfl ?_
                  refine j_iload_n F dX2_readFrom_111 112 rfl 2 rfl ?_
                  refine j_bipush (v := 7) F dX2_readFrom_112 114 rfl (by decide) ?_
                  refine j_callVr (as := [.int (nI k2_48), .int 7]) (st := [.int (s_105.1 h 4), .ref (D.2.1 h)]) (r := .int (fX8_figureTold s_105 (nI k2_48) 7)) (σ9 := s_105) F zX8_figureTold dX2_readFrom_114 117 rfl pX8_figureTold rfl (by decide) (by decide) (Nat.le_of_ble_eq_true rfl) rfl qX2_56 rfl rfl (by decide) sh2 (kX8_figureTold l D (nI k2_48) 7 s_105) ?_
                  refine j_iload_n F dX2_readFrom_117 118 rfl 2 rfl ?_
                  refine j_ishl F dX2_readFrom_118 119 rfl ?_
                  refine j_ior F dX2_readFrom_119 120 rfl ?_
                  refine j_put (j := 4) F dX2_readFrom_120 123 rfl inX2 tyX2 tyX2_ok nmX2 rfl (hsP.lt hh) (shH hh) (shH hh) (by decide) qX2_29 rfl (tyX2_ok 4 (by decide)) (Nat.le_of_ble_eq_true rfl) ?_
                  refine j_iinc F dX2_readFrom_123 126 rfl 2 rfl (nI (k2_48 + 1)) (nI_inc k2_48) (by decide) [(2, .int (nI (k2_48 + 1))), (0, .ref (D.2.1 h)), (1, .ref (D.2.1 2))] rfl ?_
                  refine j_goto F dX2_readFrom_126 48 (by decide) ?_
                  refine j_pick [1, 2, 0] [(0, .ref (D.2.1 h)), (1, .ref (D.2.1 2)), (2, .int (nI (k2_48 + 1)))] rfl ?_
                  exact ih_48 (up s_105 h 4 ((s_105.1 h 4) ||| ((fX8_figureTold s_105 (nI k2_48) 7) <<< ((nI k2_48) &&& 31)))) (k2_48 + 1) (by omega) (by omega)
                have lp_74 : ∀ (n_74 : Nat) (s_74 : Mm) (k3_74 : Nat), k3_74 ≤ 7 → 7 < k3_74 + n_74 → JJ X 4 D s_74 74 [(0, .ref (D.2.1 h)), (1, .ref (D.2.1 2)), (2, .int (nI k2_48)), (3, .int (nI k3_74))] [] (QQ X D (none, fX2_readFrom_74 h (fX2_readFrom_48 h n_48) n_74 s_74 k2_48 k3_74)) := by
                  intro n_74
                  induction n_74 with
                  | zero => intro s_74 k3_74 hk_74 hn_74; exact absurd hn_74 (by omega)
                  | succ n_74 ih_74 =>
                    intro s_74 k3_74 hk_74 hn_74
                    rw [fX2_readFrom_74]
                    refine j_iload_n F dX2_readFrom_74 75 rfl 3 rfl ?_
                    refine j_bipush (v := 7) F dX2_readFrom_75 77 rfl (by decide) ?_
                    refine j_icmp_ge F dX2_readFrom_77 105 (by decide) 80 rfl (fun c_77 => ?_) (fun c_77 => ?_)
                    · rw [if_pos c_77]
                      have h_77 : k3_74 < 7 := nlt c_77 (by decide) (by omega)
                      refine j_aload_n F dX2_readFrom_80 81 rfl 0 rfl ?_
                      refine j_get (j := 0) F dX2_readFrom_81 84 rfl inX2 rfl (hsP.lt hh) (shH hh) (by decide) qX2_9 rfl ?_
                      refine j_iload_n F dX2_readFrom_84 85 rfl 2 rfl ?_
                      refine j_dup2 F dX2_readFrom_85 86 rfl rfl rfl ?_
                      refine j_iald_n F dX2_readFrom_86 87 rfl (iaT hh) k2_48 rfl (by omega) ?_
                      refine j_aload_n F dX2_readFrom_87 88 rfl 1 rfl ?_
                      refine j_iload_n F dX2_readFrom_88 89 rfl 2 rfl ?_
                      refine j_iload_n F dX2_readFrom_89 90 rfl 3 rfl ?_
                      refine j_callVr (as := [.int (nI k2_48), .int (nI k3_74)]) (st := [.int (s_74.1 (h + 1) k2_48), .int (nI k2_48), .ref (D.2.1 (h + 1))]) (r := .int (fX8_figureTold s_74 (nI k2_48) (nI k3_74))) (σ9 := s_74) F zX8_figureTold dX2_readFrom_90 93 rfl pX8_figureTold rfl (by decide) (by decide) (Nat.le_of_ble_eq_true rfl) rfl qX2_56 rfl rfl (by decide) sh2 (kX8_figureTold l D (nI k2_48) (nI k3_74) s_74) ?_
                      refine j_iconst (v := 4) F dX2_readFrom_93 94 rfl (by decide) ?_
                      refine j_iload_n F dX2_readFrom_94 95 rfl 3 rfl ?_
                      refine j_imul F dX2_readFrom_95 96 rfl ?_
                      refine j_ishl F dX2_readFrom_96 97 rfl ?_
                      refine j_ior F dX2_readFrom_97 98 rfl ?_
                      refine j_iast_n F dX2_readFrom_98 99 rfl (iaT hh) k2_48 rfl (by omega) ?_
                      refine j_iinc F dX2_readFrom_99 102 rfl 3 rfl (nI (k3_74 + 1)) (nI_inc k3_74) (by decide) [(3, .int (nI (k3_74 + 1))), (0, .ref (D.2.1 h)), (1, .ref (D.2.1 2)), (2, .int (nI k2_48))] rfl ?_
                      refine j_goto F dX2_readFrom_102 74 (by decide) ?_
                      refine j_pick [1, 2, 3, 0] [(0, .ref (D.2.1 h)), (1, .ref (D.2.1 2)), (2, .int (nI k2_48)), (3, .int (nI (k3_74 + 1)))] rfl ?_
                      exact ih_74 (up s_74 (h + 1) k2_48 ((s_74.1 (h + 1) k2_48) ||| ((fX8_figureTold s_74 (nI k2_48) (nI k3_74)) <<< ((4 * (nI k3_74)) &&& 31)))) (k3_74 + 1) (by omega) (by omega)
                    · rw [if_neg c_77]
                      refine j_pick [0, 1, 2] [(0, .ref (D.2.1 h)), (1, .ref (D.2.1 2)), (2, .int (nI k2_48))] rfl ?_
                      exact hx_105 s_74
                refine j_pick [1, 2, 3, 0] [(0, .ref (D.2.1 h)), (1, .ref (D.2.1 2)), (2, .int (nI k2_48)), (3, .int 0)] rfl ?_
                exact lp_74 8 (up s_48 (h + 1) k2_48 0) 0 (by omega) (by omega)
              · rw [if_neg c_62]
                exact j_ret_v F dX2_readFrom_129 rfl rfl rfl
            · rw [if_neg c_54]
              exact j_ret_v F dX2_readFrom_129 rfl rfl rfl
        refine j_pick [1, 2, 0] [(0, .ref (D.2.1 h)), (1, .ref (D.2.1 2)), (2, .int 0)] rfl ?_
        exact lp_48 9 (up s_41 h 7 0) 0 (by omega) (by omega)
      exact jn_41 (up (up s_31 h 5 0) h 6 0) 
    exact jn_31 (up (up s_21 h 3 0) h 4 0) 
  exact jn_21 (up (up σ h 1 (if 8 < (fX8_things σ) then 8 else (fX8_things σ))) h 2 (fX8_wordTold (up σ h 1 (if 8 < (fX8_things σ) then 8 else (fX8_things σ))))) 
def fX2_unseen (σ : Mm) (h : Nat) : Int32 := ((fX2_there σ h) &&& (σ.1 h 6))
set_option maxRecDepth 20000 in
theorem kX2_unseen (l : Launch) (D : Dm) (h : Nat) (σ : Mm) (hh : hsP h) : Ct l yX2_unseen cX2_unseen 1 (some .int) 3 D [.ref (D.2.1 h)] σ (some (.int (fX2_unseen σ h)), σ) := by
  refine ct_of (by decide +kernel) (Nat.le_of_ble_eq_true rfl) (fun X F => ?_)
  have F : Fx X l 1 D cX2_unseen RX2 3 (some .int) := F
  show JJ X 1 D σ 0 [(0, .ref (D.2.1 h))] [] (QQ X D (some (.int (fX2_unseen σ h)), σ))
  rw [fX2_unseen]
  refine j_aload_n F dX2_unseen_0 1 rfl 0 rfl ?_
  refine j_callVr (as := []) (st := []) (r := .int (fX2_there σ h)) (σ9 := σ) F zX2_there dX2_unseen_1 4 rfl pX2_there rfl (by decide) (by decide) (Nat.le_of_ble_eq_true rfl) rfl qX2_62 rfl rfl (hsP.lt hh) (shH hh) (kX2_there l D h σ hh) ?_
  refine j_aload_n F dX2_unseen_4 5 rfl 0 rfl ?_
  refine j_get (j := 6) F dX2_unseen_5 8 rfl inX2 rfl (hsP.lt hh) (shH hh) (by decide) qX2_35 rfl ?_
  refine j_iand F dX2_unseen_8 9 rfl ?_
  exact j_ret_i F dX2_unseen_9 rfl rfl rfl
def fX8_append (σ : Mm) (a1 : Int32) : Bool × Mm := if 0 ≤ (σ.1 2 1) then (if (nI 56) ≤ (σ.1 2 1) then ((false, σ)) else ((true, (up (up σ 3 (σ.1 2 1).toNatClampNeg a1) 2 1 (((up σ 3 (σ.1 2 1).toNatClampNeg a1).1 2 1) + 1))))) else ((false, σ))
set_option maxRecDepth 20000 in
theorem kX8_append (l : Launch) (D : Dm) (a1 : Int32) (σ : Mm)  : Ct l yX8_append cX8_append 2 (some .boolean) 1 D [.ref (D.2.1 2), .int a1] σ (some (.int (bi (fX8_append σ a1).1)), (fX8_append σ a1).2) := by
  refine ct_of (by decide +kernel) (Nat.le_of_ble_eq_true rfl) (fun X F => ?_)
  have F : Fx X l 2 D cX8_append RX8 1 (some .boolean) := F
  show JJ X 2 D σ 0 [(0, .ref (D.2.1 2)), (1, .int a1)] [] (QQ X D (some (.int (bi (fX8_append σ a1).1)), (fX8_append σ a1).2))
  rw [fX8_append]
  refine j_aload_n F dX8_append_0 1 rfl 0 rfl ?_
  refine j_get (j := 1) F dX8_append_1 4 rfl inX8 rfl (by decide) sh2 (by decide) qX8_15 rfl ?_
  refine j_if_lt F dX8_append_4 19 (by decide) 7 rfl (fun c_4 => ?_) (fun c_4 => ?_)
  · rw [if_pos c_4]
    refine j_aload_n F dX8_append_7 8 rfl 0 rfl ?_
    refine j_get (j := 1) F dX8_append_8 11 rfl inX8 rfl (by decide) sh2 (by decide) qX8_15 rfl ?_
    refine j_aload_n F dX8_append_11 12 rfl 0 rfl ?_
    refine j_get (j := 0) F dX8_append_12 15 rfl inX8 rfl (by decide) sh2 (by decide) qX8_9 rfl ?_
    refine j_alen F dX8_append_15 16 rfl ia3 ?_
    refine j_icmp_lt F dX8_append_16 21 (by decide) 19 rfl (fun c_16 => ?_) (fun c_16 => ?_)
    · rw [if_pos c_16]
      refine j_iconst (v := 0) F dX8_append_19 20 rfl (by decide) ?_
      exact j_ret_b (b := false) F dX8_append_20 rfl rfl rfl
    · rw [if_neg c_16]
      refine j_aload_n F dX8_append_21 22 rfl 0 rfl ?_
      refine j_get (j := 0) F dX8_append_22 25 rfl inX8 rfl (by decide) sh2 (by decide) qX8_9 rfl ?_
      refine j_aload_n F dX8_append_25 26 rfl 0 rfl ?_
      refine j_get (j := 1) F dX8_append_26 29 rfl inX8 rfl (by decide) sh2 (by decide) qX8_15 rfl ?_
      refine j_iload_n F dX8_append_29 30 rfl 1 rfl ?_
      refine j_iast F dX8_append_30 31 rfl ia3 (by first | assumption | exact vin_c (by assumption) (by assumption) (by decide) | exact vin_d (by assumption) (by assumption) (by decide) | exact vin_k (by assumption) (by assumption) (by decide) | exact vin_mono (by assumption) (by decide) | exact vin_mono (isThing_in (by assumption) (by assumption)) (by decide)) ?_
      refine j_aload_n F dX8_append_31 32 rfl 0 rfl ?_
      refine j_dup F dX8_append_32 33 rfl rfl ?_
      refine j_get (j := 1) F dX8_append_33 36 rfl inX8 rfl (by decide) sh2 (by decide) qX8_15 rfl ?_
      refine j_iconst (v := 1) F dX8_append_36 37 rfl (by decide) ?_
      refine j_iadd F dX8_append_37 38 rfl ?_
      refine j_put (j := 1) F dX8_append_38 41 rfl inX8 tyX8 tyX8_ok nmX8 rfl (by decide) sh2 sh2 (by decide) qX8_15 rfl (tyX8_ok 1 (by decide)) (Nat.le_of_ble_eq_true rfl) ?_
      refine j_iconst (v := 1) F dX8_append_41 42 rfl (by decide) ?_
      exact j_ret_b (b := true) F dX8_append_42 rfl rfl rfl
  · rw [if_neg c_4]
    refine j_iconst (v := 0) F dX8_append_19 20 rfl (by decide) ?_
    exact j_ret_b (b := false) F dX8_append_20 rfl rfl rfl
def fX8_isWithin (σ : Mm) (a1 : Int32) (a2 : Int32) (a3 : Int32) : Bool := if a2 ≤ (fX9_at σ 3 56 a1) then (if (fX9_at σ 3 56 a1) ≤ a3 then (true) else (false)) else (false)
set_option maxRecDepth 20000 in
theorem kX8_isWithin (l : Launch) (D : Dm) (a1 : Int32) (a2 : Int32) (a3 : Int32) (σ : Mm)  : Ct l yX8_isWithin cX8_isWithin 5 (some .boolean) 2 D [.ref (D.2.1 2), .int a1, .int a2, .int a3] σ (some (.int (bi (fX8_isWithin σ a1 a2 a3))), σ) := by
  refine ct_of (by decide +kernel) (Nat.le_of_ble_eq_true rfl) (fun X F => ?_)
  have F : Fx X l 5 D cX8_isWithin RX8 2 (some .boolean) := F
  show JJ X 5 D σ 0 [(0, .ref (D.2.1 2)), (1, .int a1), (2, .int a2), (3, .int a3)] [] (QQ X D (some (.int (bi (fX8_isWithin σ a1 a2 a3))), σ))
  rw [fX8_isWithin]
  refine j_aload_n F dX8_isWithin_0 1 rfl 0 rfl ?_
  refine j_get (j := 0) F dX8_isWithin_1 4 rfl inX8 rfl (by decide) sh2 (by decide) qX8_9 rfl ?_
  refine j_iload_n F dX8_isWithin_4 5 rfl 1 rfl ?_
  refine j_callSNr (as := [.ref (D.2.1 3), .int a1]) (st := []) (r := .int (fX9_at σ 3 56 a1)) (σ9 := σ) F zX9_at dX8_isWithin_5 8 rfl pX9_at rfl (by decide) (by decide) (Nat.le_of_ble_eq_true rfl) rfl qX8_29 (kX9_at l D 3 56 a1 σ ia3) ?_
  refine j_istore F dX8_isWithin_8 10 rfl (by decide) [(4, .int (fX9_at σ 3 56 a1)), (0, .ref (D.2.1 2)), (1, .int a1), (2, .int a2), (3, .int a3)] rfl ?_
  refine j_iload F dX8_isWithin_10 12 rfl 0 rfl ?_
  refine j_iload_n F dX8_isWithin_12 13 rfl 3 rfl ?_
  refine j_icmp_lt F dX8_isWithin_13 26 (by decide) 16 rfl (fun c_13 => ?_) (fun c_13 => ?_)
  · rw [if_pos c_13]
    refine j_iload F dX8_isWithin_16 18 rfl 0 rfl ?_
    refine j_iload_n F dX8_isWithin_18 19 rfl 4 rfl ?_
    refine j_icmp_gt F dX8_isWithin_19 26 (by decide) 22 rfl (fun c_19 => ?_) (fun c_19 => ?_)
    · rw [if_pos c_19]
      refine j_iconst (v := 1) F dX8_isWithin_22 23 rfl (by decide) ?_
      refine j_goto F dX8_isWithin_23 27 (by decide) ?_
      exact j_ret_b (b := true) F dX8_isWithin_27 rfl rfl rfl
    · rw [if_neg c_19]
      refine j_iconst (v := 0) F dX8_isWithin_26 27 rfl (by decide) ?_
      exact j_ret_b (b := false) F dX8_isWithin_27 rfl rfl rfl
  · rw [if_neg c_13]
    refine j_iconst (v := 0) F dX8_isWithin_26 27 rfl (by decide) ?_
    exact j_ret_b (b := false) F dX8_isWithin_27 rfl rfl rfl
def fX8_fits (σ : Mm) (a1 : Int32) : Bool := if a1 = 0 then (if (fX9_at σ 3 56 a1) = 75 then (true) else (false)) else (if a1 = 1 then ((fX8_isWithin σ a1 49 52)) else (if ((rm (a1 - 2) 9) - 1) = (-1) then (if (fX9_at σ 3 56 a1) = 88 then (true) else (false)) else if ((rm (a1 - 2) 9) - 1) = 0 then ((fX8_isWithin σ a1 48 57)) else if ((rm (a1 - 2) 9) - 1) = 1 then ((fX8_isWithin σ a1 48 57)) else if ((rm (a1 - 2) 9) - 1) = 2 then ((fX8_isWithin σ a1 48 57)) else if ((rm (a1 - 2) 9) - 1) = 3 then ((fX8_isWithin σ a1 48 57)) else if ((rm (a1 - 2) 9) - 1) = 4 then ((fX8_isWithin σ a1 48 50)) else if ((rm (a1 - 2) 9) - 1) = 5 then ((fX8_isWithin σ a1 49 57)) else if ((rm (a1 - 2) 9) - 1) = 6 then ((fX8_isWithin σ a1 49 57)) else if ((rm (a1 - 2) 9) - 1) = 7 then ((fX8_isWithin σ a1 48 49)) else ((fX8_isWithin σ a1 48 57))))
set_option maxRecDepth 20000 in
theorem kX8_fits (l : Launch) (D : Dm) (a1 : Int32) (σ : Mm)  : Ct l yX8_fits cX8_fits 3 (some .boolean) 3 D [.ref (D.2.1 2), .int a1] σ (some (.int (bi (fX8_fits σ a1))), σ) := by
  refine ct_of (by decide +kernel) (Nat.le_of_ble_eq_true rfl) (fun X F => ?_)
  have F : Fx X l 3 D cX8_fits RX8 3 (some .boolean) := F
  show JJ X 3 D σ 0 [(0, .ref (D.2.1 2)), (1, .int a1)] [] (QQ X D (some (.int (bi (fX8_fits σ a1))), σ))
  rw [fX8_fits]
  refine j_iload_n F dX8_fits_0 1 rfl 1 rfl ?_
  refine j_if_ne F dX8_fits_1 23 (by decide) 4 rfl (fun c_1 => ?_) (fun c_1 => ?_)
  · rw [if_pos c_1]
    refine j_aload_n F dX8_fits_4 5 rfl 0 rfl ?_
    refine j_get (j := 0) F dX8_fits_5 8 rfl inX8 rfl (by decide) sh2 (by decide) qX8_9 rfl ?_
    refine j_iload_n F dX8_fits_8 9 rfl 1 rfl ?_
    refine j_callSNr (as := [.ref (D.2.1 3), .int a1]) (st := []) (r := .int (fX9_at σ 3 56 a1)) (σ9 := σ) F zX9_at dX8_fits_9 12 rfl pX9_at rfl (by decide) (by decide) (Nat.le_of_ble_eq_true rfl) rfl qX8_29 (kX9_at l D 3 56 a1 σ ia3) ?_
    refine j_bipush (v := 75) F dX8_fits_12 14 rfl (by decide) ?_
    refine j_icmp_ne F dX8_fits_14 21 (by decide) 17 rfl (fun c_14 => ?_) (fun c_14 => ?_)
    · rw [if_pos c_14]
      refine j_iconst (v := 1) F dX8_fits_17 18 rfl (by decide) ?_
      refine j_goto F dX8_fits_18 22 (by decide) ?_
      exact j_ret_b (b := true) F dX8_fits_22 rfl rfl rfl
    · rw [if_neg c_14]
      refine j_iconst (v := 0) F dX8_fits_21 22 rfl (by decide) ?_
      exact j_ret_b (b := false) F dX8_fits_22 rfl rfl rfl
  · rw [if_neg c_1]
    refine j_iload_n F dX8_fits_23 24 rfl 1 rfl ?_
    refine j_iconst (v := 1) F dX8_fits_24 25 rfl (by decide) ?_
    refine j_icmp_ne F dX8_fits_25 38 (by decide) 28 rfl (fun c_25 => ?_) (fun c_25 => ?_)
    · rw [if_pos c_25]
      refine j_aload_n F dX8_fits_28 29 rfl 0 rfl ?_
      refine j_iload_n F dX8_fits_29 30 rfl 1 rfl ?_
      refine j_bipush (v := 49) F dX8_fits_30 32 rfl (by decide) ?_
      refine j_bipush (v := 52) F dX8_fits_32 34 rfl (by decide) ?_
      refine j_callVr (as := [.int a1, .int 49, .int 52]) (st := []) (r := .int (bi (fX8_isWithin σ a1 49 52))) (σ9 := σ) F zX8_isWithin dX8_fits_34 37 rfl pX8_isWithin rfl (by decide) (by decide) (Nat.le_of_ble_eq_true rfl) rfl qX8_33 rfl rfl (by decide) sh2 (kX8_isWithin l D a1 49 52 σ) ?_
      exact j_ret_b (b := (fX8_isWithin σ a1 49 52)) F dX8_fits_37 rfl rfl rfl
    · rw [if_neg c_25]
      refine j_iload_n F dX8_fits_38 39 rfl 1 rfl ?_
      refine j_iconst (v := 2) F dX8_fits_39 40 rfl (by decide) ?_
      refine j_isub F dX8_fits_40 41 rfl ?_
      refine j_bipush (v := 9) F dX8_fits_41 43 rfl (by decide) ?_
      refine j_irem F dX8_fits_43 44 rfl (by decide) ?_
      refine j_istore_n F dX8_fits_44 45 rfl 2 rfl (by decide) [(2, .int (rm (a1 - 2) 9)), (0, .ref (D.2.1 2)), (1, .int a1)] rfl ?_
      refine j_iload_n F dX8_fits_45 46 rfl 0 rfl ?_
      refine j_iconst (v := 1) F dX8_fits_46 47 rfl (by decide) ?_
      refine j_isub F dX8_fits_47 48 rfl ?_
      refine j_by (((rm (a1 - 2) 9) - 1) = (-1)) (fun c_48_0 => ?_) (fun c_48_0 => ?_)
      · rw [if_pos c_48_0]
        refine j_tin (z := (-1)) F dX8_fits_48 c_48_0 (by decide) (by decide) (by decide) rfl 100 (by decide) ?_
        refine j_aload_n F dX8_fits_100 101 rfl 1 rfl ?_
        refine j_get (j := 0) F dX8_fits_101 104 rfl inX8 rfl (by decide) sh2 (by decide) qX8_9 rfl ?_
        refine j_iload_n F dX8_fits_104 105 rfl 2 rfl ?_
        refine j_callSNr (as := [.ref (D.2.1 3), .int a1]) (st := []) (r := .int (fX9_at σ 3 56 a1)) (σ9 := σ) F zX9_at dX8_fits_105 108 rfl pX9_at rfl (by decide) (by decide) (Nat.le_of_ble_eq_true rfl) rfl qX8_29 (kX9_at l D 3 56 a1 σ ia3) ?_
        refine j_bipush (v := 88) F dX8_fits_108 110 rfl (by decide) ?_
        refine j_icmp_ne F dX8_fits_110 117 (by decide) 113 rfl (fun c_110 => ?_) (fun c_110 => ?_)
        · rw [if_pos c_110]
          refine j_iconst (v := 1) F dX8_fits_113 114 rfl (by decide) ?_
          refine j_goto F dX8_fits_114 118 (by decide) ?_
          exact j_ret_b (b := true) F dX8_fits_118 rfl rfl rfl
        · rw [if_neg c_110]
          refine j_iconst (v := 0) F dX8_fits_117 118 rfl (by decide) ?_
          exact j_ret_b (b := false) F dX8_fits_118 rfl rfl rfl
      · rw [if_neg c_48_0]
        refine j_by (((rm (a1 - 2) 9) - 1) = 0) (fun c_48_1 => ?_) (fun c_48_1 => ?_)
        · rw [if_pos c_48_1]
          refine j_tin (z := 0) F dX8_fits_48 c_48_1 (by decide) (by decide) (by decide) rfl 159 (by decide) ?_
          refine j_aload_n F dX8_fits_159 160 rfl 1 rfl ?_
          refine j_iload_n F dX8_fits_160 161 rfl 2 rfl ?_
          refine j_bipush (v := 48) F dX8_fits_161 163 rfl (by decide) ?_
          refine j_bipush (v := 57) F dX8_fits_163 165 rfl (by decide) ?_
          refine j_callVr (as := [.int a1, .int 48, .int 57]) (st := []) (r := .int (bi (fX8_isWithin σ a1 48 57))) (σ9 := σ) F zX8_isWithin dX8_fits_165 168 rfl pX8_isWithin rfl (by decide) (by decide) (Nat.le_of_ble_eq_true rfl) rfl qX8_33 rfl rfl (by decide) sh2 (kX8_isWithin l D a1 48 57 σ) ?_
          exact j_ret_b (b := (fX8_isWithin σ a1 48 57)) F dX8_fits_168 rfl rfl rfl
        · rw [if_neg c_48_1]
          refine j_by (((rm (a1 - 2) 9) - 1) = 1) (fun c_48_2 => ?_) (fun c_48_2 => ?_)
          · rw [if_pos c_48_2]
            refine j_tin (z := 1) F dX8_fits_48 c_48_2 (by decide) (by decide) (by decide) rfl 159 (by decide) ?_
            refine j_aload_n F dX8_fits_159 160 rfl 1 rfl ?_
            refine j_iload_n F dX8_fits_160 161 rfl 2 rfl ?_
            refine j_bipush (v := 48) F dX8_fits_161 163 rfl (by decide) ?_
            refine j_bipush (v := 57) F dX8_fits_163 165 rfl (by decide) ?_
            refine j_callVr (as := [.int a1, .int 48, .int 57]) (st := []) (r := .int (bi (fX8_isWithin σ a1 48 57))) (σ9 := σ) F zX8_isWithin dX8_fits_165 168 rfl pX8_isWithin rfl (by decide) (by decide) (Nat.le_of_ble_eq_true rfl) rfl qX8_33 rfl rfl (by decide) sh2 (kX8_isWithin l D a1 48 57 σ) ?_
            exact j_ret_b (b := (fX8_isWithin σ a1 48 57)) F dX8_fits_168 rfl rfl rfl
          · rw [if_neg c_48_2]
            refine j_by (((rm (a1 - 2) 9) - 1) = 2) (fun c_48_3 => ?_) (fun c_48_3 => ?_)
            · rw [if_pos c_48_3]
              refine j_tin (z := 2) F dX8_fits_48 c_48_3 (by decide) (by decide) (by decide) rfl 159 (by decide) ?_
              refine j_aload_n F dX8_fits_159 160 rfl 1 rfl ?_
              refine j_iload_n F dX8_fits_160 161 rfl 2 rfl ?_
              refine j_bipush (v := 48) F dX8_fits_161 163 rfl (by decide) ?_
              refine j_bipush (v := 57) F dX8_fits_163 165 rfl (by decide) ?_
              refine j_callVr (as := [.int a1, .int 48, .int 57]) (st := []) (r := .int (bi (fX8_isWithin σ a1 48 57))) (σ9 := σ) F zX8_isWithin dX8_fits_165 168 rfl pX8_isWithin rfl (by decide) (by decide) (Nat.le_of_ble_eq_true rfl) rfl qX8_33 rfl rfl (by decide) sh2 (kX8_isWithin l D a1 48 57 σ) ?_
              exact j_ret_b (b := (fX8_isWithin σ a1 48 57)) F dX8_fits_168 rfl rfl rfl
            · rw [if_neg c_48_3]
              refine j_by (((rm (a1 - 2) 9) - 1) = 3) (fun c_48_4 => ?_) (fun c_48_4 => ?_)
              · rw [if_pos c_48_4]
                refine j_tin (z := 3) F dX8_fits_48 c_48_4 (by decide) (by decide) (by decide) rfl 159 (by decide) ?_
                refine j_aload_n F dX8_fits_159 160 rfl 1 rfl ?_
                refine j_iload_n F dX8_fits_160 161 rfl 2 rfl ?_
                refine j_bipush (v := 48) F dX8_fits_161 163 rfl (by decide) ?_
                refine j_bipush (v := 57) F dX8_fits_163 165 rfl (by decide) ?_
                refine j_callVr (as := [.int a1, .int 48, .int 57]) (st := []) (r := .int (bi (fX8_isWithin σ a1 48 57))) (σ9 := σ) F zX8_isWithin dX8_fits_165 168 rfl pX8_isWithin rfl (by decide) (by decide) (Nat.le_of_ble_eq_true rfl) rfl qX8_33 rfl rfl (by decide) sh2 (kX8_isWithin l D a1 48 57 σ) ?_
                exact j_ret_b (b := (fX8_isWithin σ a1 48 57)) F dX8_fits_168 rfl rfl rfl
              · rw [if_neg c_48_4]
                refine j_by (((rm (a1 - 2) 9) - 1) = 4) (fun c_48_5 => ?_) (fun c_48_5 => ?_)
                · rw [if_pos c_48_5]
                  refine j_tin (z := 4) F dX8_fits_48 c_48_5 (by decide) (by decide) (by decide) rfl 119 (by decide) ?_
                  refine j_aload_n F dX8_fits_119 120 rfl 1 rfl ?_
                  refine j_iload_n F dX8_fits_120 121 rfl 2 rfl ?_
                  refine j_bipush (v := 48) F dX8_fits_121 123 rfl (by decide) ?_
                  refine j_bipush (v := 50) F dX8_fits_123 125 rfl (by decide) ?_
                  refine j_callVr (as := [.int a1, .int 48, .int 50]) (st := []) (r := .int (bi (fX8_isWithin σ a1 48 50))) (σ9 := σ) F zX8_isWithin dX8_fits_125 128 rfl pX8_isWithin rfl (by decide) (by decide) (Nat.le_of_ble_eq_true rfl) rfl qX8_33 rfl rfl (by decide) sh2 (kX8_isWithin l D a1 48 50 σ) ?_
                  exact j_ret_b (b := (fX8_isWithin σ a1 48 50)) F dX8_fits_128 rfl rfl rfl
                · rw [if_neg c_48_5]
                  refine j_by (((rm (a1 - 2) 9) - 1) = 5) (fun c_48_6 => ?_) (fun c_48_6 => ?_)
                  · rw [if_pos c_48_6]
                    refine j_tin (z := 5) F dX8_fits_48 c_48_6 (by decide) (by decide) (by decide) rfl 129 (by decide) ?_
                    refine j_aload_n F dX8_fits_129 130 rfl 1 rfl ?_
                    refine j_iload_n F dX8_fits_130 131 rfl 2 rfl ?_
                    refine j_bipush (v := 49) F dX8_fits_131 133 rfl (by decide) ?_
                    refine j_bipush (v := 57) F dX8_fits_133 135 rfl (by decide) ?_
                    refine j_callVr (as := [.int a1, .int 49, .int 57]) (st := []) (r := .int (bi (fX8_isWithin σ a1 49 57))) (σ9 := σ) F zX8_isWithin dX8_fits_135 138 rfl pX8_isWithin rfl (by decide) (by decide) (Nat.le_of_ble_eq_true rfl) rfl qX8_33 rfl rfl (by decide) sh2 (kX8_isWithin l D a1 49 57 σ) ?_
                    exact j_ret_b (b := (fX8_isWithin σ a1 49 57)) F dX8_fits_138 rfl rfl rfl
                  · rw [if_neg c_48_6]
                    refine j_by (((rm (a1 - 2) 9) - 1) = 6) (fun c_48_7 => ?_) (fun c_48_7 => ?_)
                    · rw [if_pos c_48_7]
                      refine j_tin (z := 6) F dX8_fits_48 c_48_7 (by decide) (by decide) (by decide) rfl 139 (by decide) ?_
                      refine j_aload_n F dX8_fits_139 140 rfl 1 rfl ?_
                      refine j_iload_n F dX8_fits_140 141 rfl 2 rfl ?_
                      refine j_bipush (v := 49) F dX8_fits_141 143 rfl (by decide) ?_
                      refine j_bipush (v := 57) F dX8_fits_143 145 rfl (by decide) ?_
                      refine j_callVr (as := [.int a1, .int 49, .int 57]) (st := []) (r := .int (bi (fX8_isWithin σ a1 49 57))) (σ9 := σ) F zX8_isWithin dX8_fits_145 148 rfl pX8_isWithin rfl (by decide) (by decide) (Nat.le_of_ble_eq_true rfl) rfl qX8_33 rfl rfl (by decide) sh2 (kX8_isWithin l D a1 49 57 σ) ?_
                      exact j_ret_b (b := (fX8_isWithin σ a1 49 57)) F dX8_fits_148 rfl rfl rfl
                    · rw [if_neg c_48_7]
                      refine j_by (((rm (a1 - 2) 9) - 1) = 7) (fun c_48_8 => ?_) (fun c_48_8 => ?_)
                      · rw [if_pos c_48_8]
                        refine j_tin (z := 7) F dX8_fits_48 c_48_8 (by decide) (by decide) (by decide) rfl 149 (by decide) ?_
                        refine j_aload_n F dX8_fits_149 150 rfl 1 rfl ?_
                        refine j_iload_n F dX8_fits_150 151 rfl 2 rfl ?_
                        refine j_bipush (v := 48) F dX8_fits_151 153 rfl (by decide) ?_
                        refine j_bipush (v := 49) F dX8_fits_153 155 rfl (by decide) ?_
                        refine j_callVr (as := [.int a1, .int 48, .int 49]) (st := []) (r := .int (bi (fX8_isWithin σ a1 48 49))) (σ9 := σ) F zX8_isWithin dX8_fits_155 158 rfl pX8_isWithin rfl (by decide) (by decide) (Nat.le_of_ble_eq_true rfl) rfl qX8_33 rfl rfl (by decide) sh2 (kX8_isWithin l D a1 48 49 σ) ?_
                        exact j_ret_b (b := (fX8_isWithin σ a1 48 49)) F dX8_fits_158 rfl rfl rfl
                      · rw [if_neg c_48_8]
                        refine j_tout F dX8_fits_48 (by have e0 := lv_neT c_48_0 (show (-1 : Int32).toInt = -1 from by decide); have e1 := lv_neT c_48_1 (show (0 : Int32).toInt = 0 from by decide); have e2 := lv_neT c_48_2 (show (1 : Int32).toInt = 1 from by decide); have e3 := lv_neT c_48_3 (show (2 : Int32).toInt = 2 from by decide); have e4 := lv_neT c_48_4 (show (3 : Int32).toInt = 3 from by decide); have e5 := lv_neT c_48_5 (show (4 : Int32).toInt = 4 from by decide); have e6 := lv_neT c_48_6 (show (5 : Int32).toInt = 5 from by decide); have e7 := lv_neT c_48_7 (show (6 : Int32).toInt = 6 from by decide); have e8 := lv_neT c_48_8 (show (7 : Int32).toInt = 7 from by decide); omega) 159 (by decide) ?_
                        refine j_aload_n F dX8_fits_159 160 rfl 1 rfl ?_
                        refine j_iload_n F dX8_fits_160 161 rfl 2 rfl ?_
                        refine j_bipush (v := 48) F dX8_fits_161 163 rfl (by decide) ?_
                        refine j_bipush (v := 57) F dX8_fits_163 165 rfl (by decide) ?_
                        refine j_callVr (as := [.int a1, .int 48, .int 57]) (st := []) (r := .int (bi (fX8_isWithin σ a1 48 57))) (σ9 := σ) F zX8_isWithin dX8_fits_165 168 rfl pX8_isWithin rfl (by decide) (by decide) (Nat.le_of_ble_eq_true rfl) rfl qX8_33 rfl rfl (by decide) sh2 (kX8_isWithin l D a1 48 57 σ) ?_
                        exact j_ret_b (b := (fX8_isWithin σ a1 48 57)) F dX8_fits_168 rfl rfl rfl
def fX8_firstFault_51 (σ : Mm)  (bt0_51 : Bool) : Int32 := if bt0_51 = true then ((-9)) else ((σ.1 2 1))
def fX8_firstFault_50 (σ : Mm)   : Int32 := fX8_firstFault_51 σ false
def fX8_firstFault_26 (σ : Mm)   : Int32 := if 2 ≤ (σ.1 2 1) then (if (rm ((σ.1 2 1) - 2) 9) = 0 then (fX8_firstFault_51 σ true) else (fX8_firstFault_50 σ)) else (fX8_firstFault_50 σ)
def mX8_firstFault_2 (σ : Mm)  : Nat := ((σ.1 2 1) : Int32).toNatClampNeg
def fX8_firstFault_2 (σ : Mm)  : Nat → Nat → Int32
  | 0, _ => 0
  | n + 1, k1_2 => if (nI k1_2) < (σ.1 2 1) then (if (fX8_fits σ (nI k1_2)) = true then (fX8_firstFault_2 σ n (k1_2 + 1)) else ((nI k1_2))) else (fX8_firstFault_26 σ)
def fX8_firstFault (σ : Mm)  : Int32 := fX8_firstFault_2 σ (mX8_firstFault_2 σ + 1) 0
set_option maxRecDepth 20000 in
theorem kX8_firstFault (l : Launch) (D : Dm)  (σ : Mm)  : Ct l yX8_firstFault cX8_firstFault 2 (some .int) 4 D [.ref (D.2.1 2)] σ (some (.int (fX8_firstFault σ)), σ) := by
  refine ct_of (by decide +kernel) (Nat.le_of_ble_eq_true rfl) (fun X F => ?_)
  have F : Fx X l 2 D cX8_firstFault RX8 4 (some .int) := F
  show JJ X 2 D σ 0 [(0, .ref (D.2.1 2))] [] (QQ X D (some (.int (fX8_firstFault σ)), σ))
  rw [fX8_firstFault]
  refine j_iconst (v := 0) F dX8_firstFault_0 1 rfl (by decide) ?_
  refine j_istore_n F dX8_firstFault_1 2 rfl 1 rfl (by decide) [(1, .int 0), (0, .ref (D.2.1 2))] rfl ?_
  have hx_26 : JJ X 2 D σ 26 [(0, .ref (D.2.1 2))] [] (QQ X D (some (.int (fX8_firstFault_26 σ)), σ)) := by
    rw [fX8_firstFault_26]
    refine j_aload_n F dX8_firstFault_26 27 rfl 0 rfl ?_
    refine j_get (j := 1) F dX8_firstFault_27 30 rfl inX8 rfl (by decide) sh2 (by decide) qX8_15 rfl ?_
    refine j_iconst (v := 2) F dX8_firstFault_30 31 rfl (by decide) ?_
    have jn_51 : ∀ (bt0_51 : Bool), JJ X 2 D σ 51 [(0, .ref (D.2.1 2))] [.int (bi bt0_51)] (QQ X D (some (.int (fX8_firstFault_51 σ bt0_51)), σ)) := by
      intro bt0_51
      rw [fX8_firstFault_51]
      refine j_istore_n F dX8_firstFault_51 52 rfl 1 rfl (by decide) [(1, .int (bi bt0_51)), (0, .ref (D.2.1 2))] rfl ?_
      refine j_iload_n F dX8_firstFault_52 53 rfl 0 rfl ?_
      refine j_ifb_eq F dX8_firstFault_53 61 (by decide) 56 rfl (fun c_53 => ?_) (fun c_53 => ?_)
      · rw [if_pos c_53]
        refine j_bipush (v := (-9)) F dX8_firstFault_56 58 rfl (by decide) ?_
        refine j_goto F dX8_firstFault_58 65 (by decide) ?_
        exact j_ret_i F dX8_firstFault_65 rfl rfl rfl
      · rw [if_neg c_53]
        refine j_aload_n F dX8_firstFault_61 62 rfl 1 rfl ?_
        refine j_get (j := 1) F dX8_firstFault_62 65 rfl inX8 rfl (by decide) sh2 (by decide) qX8_15 rfl ?_
        exact j_ret_i F dX8_firstFault_65 rfl rfl rfl
    have jn_50 : JJ X 2 D σ 50 [(0, .ref (D.2.1 2))] [] (QQ X D (some (.int (fX8_firstFault_50 σ)), σ)) := by
      rw [fX8_firstFault_50]
      refine j_iconst (v := 0) F dX8_firstFault_50 51 rfl (by decide) ?_
      exact jn_51 false
    refine j_icmp_lt F dX8_firstFault_31 50 (by decide) 34 rfl (fun c_31 => ?_) (fun c_31 => ?_)
    · rw [if_pos c_31]
      refine j_aload_n F dX8_firstFault_34 35 rfl 0 rfl ?_
      refine j_get (j := 1) F dX8_firstFault_35 38 rfl inX8 rfl (by decide) sh2 (by decide) qX8_15 rfl ?_
      refine j_iconst (v := 2) F dX8_firstFault_38 39 rfl (by decide) ?_
      refine j_isub F dX8_firstFault_39 40 rfl ?_
      refine j_bipush (v := 9) F dX8_firstFault_40 42 rfl (by decide) ?_
      refine j_irem F dX8_firstFault_42 43 rfl (by decide) ?_
      refine j_if_ne F dX8_firstFault_43 50 (by decide) 46 rfl (fun c_43 => ?_) (fun c_43 => ?_)
      · rw [if_pos c_43]
        refine j_iconst (v := 1) F dX8_firstFault_46 47 rfl (by decide) ?_
        refine j_goto F dX8_firstFault_47 51 (by decide) ?_
        exact jn_51 true
      · rw [if_neg c_43]
        exact jn_50
    · rw [if_neg c_31]
      exact jn_50
  have lp_2 : ∀ (n_2 : Nat) (k1_2 : Nat), k1_2 ≤ (((σ.1 2 1) : Int32).toNatClampNeg) → (((σ.1 2 1) : Int32).toNatClampNeg) < k1_2 + n_2 → JJ X 2 D σ 2 [(0, .ref (D.2.1 2)), (1, .int (nI k1_2))] [] (QQ X D (some (.int (fX8_firstFault_2 σ n_2 k1_2)), σ)) := by
    intro n_2
    induction n_2 with
    | zero => intro k1_2 hk_2 hn_2; exact absurd hn_2 (by omega)
    | succ n_2 ih_2 =>
      intro k1_2 hk_2 hn_2
      rw [fX8_firstFault_2]
      refine j_iload_n F dX8_firstFault_2 3 rfl 1 rfl ?_
      refine j_aload_n F dX8_firstFault_3 4 rfl 0 rfl ?_
      refine j_get (j := 1) F dX8_firstFault_4 7 rfl inX8 rfl (by decide) sh2 (by decide) qX8_15 rfl ?_
      refine j_icmp_ge F dX8_firstFault_7 26 (by decide) 10 rfl (fun c_7 => ?_) (fun c_7 => ?_)
      · rw [if_pos c_7]
        have h_7 : k1_2 < (((σ.1 2 1) : Int32).toNatClampNeg) := nltd c_7 hk_2
        refine j_aload_n F dX8_firstFault_10 11 rfl 0 rfl ?_
        refine j_iload_n F dX8_firstFault_11 12 rfl 1 rfl ?_
        refine j_callVr (as := [.int (nI k1_2)]) (st := []) (r := .int (bi (fX8_fits σ (nI k1_2)))) (σ9 := σ) F zX8_fits dX8_firstFault_12 15 rfl pX8_fits rfl (by decide) (by decide) (Nat.le_of_ble_eq_true rfl) rfl qX8_19 rfl rfl (by decide) sh2 (kX8_fits l D (nI k1_2) σ) ?_
        refine j_ifb_ne F dX8_firstFault_15 20 (by decide) 18 rfl (fun c_15 => ?_) (fun c_15 => ?_)
        · rw [if_neg c_15]
          refine j_iload_n F dX8_firstFault_18 19 rfl 1 rfl ?_
          exact j_ret_i F dX8_firstFault_19 rfl rfl rfl
        · rw [if_pos c_15]
          refine j_iinc F dX8_firstFault_20 23 rfl 1 rfl (nI (k1_2 + 1)) (nI_inc k1_2) (by decide) [(1, .int (nI (k1_2 + 1))), (0, .ref (D.2.1 2))] rfl ?_
          refine j_goto F dX8_firstFault_23 2 (by decide) ?_
          refine j_pick [1, 0] [(0, .ref (D.2.1 2)), (1, .int (nI (k1_2 + 1)))] rfl ?_
          exact ih_2 (k1_2 + 1) (by omega) (by omega)
      · rw [if_neg c_7]
        refine j_pick [0] [(0, .ref (D.2.1 2))] rfl ?_
        exact hx_26
  refine j_pick [1, 0] [(0, .ref (D.2.1 2)), (1, .int 0)] rfl ?_
  exact lp_2 (mX8_firstFault_2 σ + 1) 0 (Nat.zero_le _) (by show (((σ.1 2 1) : Int32).toNatClampNeg) < 0 + ((((σ.1 2 1) : Int32).toNatClampNeg) + 1); omega)
def mX9_withoutLast_4 (a1 : Int32) (a2 : Int32)  : Nat := (a2 : Int32).toNatClampNeg
def fX9_withoutLast_4 (a1 : Int32) (a2 : Int32)  : Nat → Int32 → Nat → Int32
  | 0, _, _ => 0
  | n + 1, x2_4, k3_4 => if (nI k3_4) < a2 then (fX9_withoutLast_4 a1 a2 n (x2_4 / 100) (k3_4 + 1)) else (x2_4)
def fX9_withoutLast  (a1 : Int32) (a2 : Int32) : Int32 := fX9_withoutLast_4 a1 a2 (mX9_withoutLast_4 a1 a2 + 1) a1 0
set_option maxRecDepth 20000 in
theorem kX9_withoutLast (l : Launch) (D : Dm) (a1 : Int32) (a2 : Int32) (σ : Mm)  : Ct l yX9_withoutLast cX9_withoutLast 4 (some .int) 1 D [.int a1, .int a2] σ (some (.int (fX9_withoutLast a1 a2)), σ) := by
  refine ct_of (by decide +kernel) (Nat.le_of_ble_eq_true rfl) (fun X F => ?_)
  have F : Fx X l 4 D cX9_withoutLast RX9 1 (some .int) := F
  show JJ X 4 D σ 0 [(0, .int a1), (1, .int a2)] [] (QQ X D (some (.int (fX9_withoutLast a1 a2)), σ))
  rw [fX9_withoutLast]
  refine j_iload_n F dX9_withoutLast_0 1 rfl 0 rfl ?_
  refine j_istore_n F dX9_withoutLast_1 2 rfl 2 rfl (by decide) [(2, .int a1), (0, .int a1), (1, .int a2)] rfl ?_
  refine j_iconst (v := 0) F dX9_withoutLast_2 3 rfl (by decide) ?_
  refine j_istore_n F dX9_withoutLast_3 4 rfl 3 rfl (by decide) [(3, .int 0), (2, .int a1), (0, .int a1), (1, .int a2)] rfl ?_
  have lp_4 : ∀ (n_4 : Nat) (x2_4 : Int32) (k3_4 : Nat), k3_4 ≤ ((a2 : Int32).toNatClampNeg) → ((a2 : Int32).toNatClampNeg) < k3_4 + n_4 → JJ X 4 D σ 4 [(1, .int a2), (2, .int x2_4), (3, .int (nI k3_4))] [] (QQ X D (some (.int (fX9_withoutLast_4 a1 a2 n_4 x2_4 k3_4)), σ)) := by
    intro n_4
    induction n_4 with
    | zero => intro x2_4 k3_4 hk_4 hn_4; exact absurd hn_4 (by omega)
    | succ n_4 ih_4 =>
      intro x2_4 k3_4 hk_4 hn_4
      rw [fX9_withoutLast_4]
      refine j_iload_n F dX9_withoutLast_4 5 rfl 2 rfl ?_
      refine j_iload_n F dX9_withoutLast_5 6 rfl 0 rfl ?_
      refine j_icmp_ge F dX9_withoutLast_6 20 (by decide) 9 rfl (fun c_6 => ?_) (fun c_6 => ?_)
      · rw [if_pos c_6]
        have h_6 : k3_4 < ((a2 : Int32).toNatClampNeg) := nltd c_6 hk_4
        refine j_iload_n F dX9_withoutLast_9 10 rfl 1 rfl ?_
        refine j_bipush (v := 100) F dX9_withoutLast_10 12 rfl (by decide) ?_
        refine j_idiv F dX9_withoutLast_12 13 rfl (by decide) ?_
        refine j_istore_n F dX9_withoutLast_13 14 rfl 2 rfl (by decide) [(2, .int (x2_4 / 100)), (1, .int a2), (3, .int (nI k3_4))] rfl ?_
        refine j_iinc F dX9_withoutLast_14 17 rfl 2 rfl (nI (k3_4 + 1)) (nI_inc k3_4) (by decide) [(3, .int (nI (k3_4 + 1))), (2, .int (x2_4 / 100)), (1, .int a2)] rfl ?_
        refine j_goto F dX9_withoutLast_17 4 (by decide) ?_
        refine j_pick [2, 1, 0] [(1, .int a2), (2, .int (x2_4 / 100)), (3, .int (nI (k3_4 + 1)))] rfl ?_
        exact ih_4 (x2_4 / 100) (k3_4 + 1) (by omega) (by omega)
      · rw [if_neg c_6]
        refine j_iload_n F dX9_withoutLast_20 21 rfl 1 rfl ?_
        exact j_ret_i F dX9_withoutLast_21 rfl rfl rfl
  refine j_pick [3, 1, 0] [(1, .int a2), (2, .int a1), (3, .int 0)] rfl ?_
  exact lp_4 (mX9_withoutLast_4 a1 a2 + 1) a1 0 (Nat.zero_le _) (by show ((a2 : Int32).toNatClampNeg) < 0 + (((a2 : Int32).toNatClampNeg) + 1); omega)
