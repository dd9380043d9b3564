def fX10_broken_39 (a1 : Int32)  (s_39 : Mm) : Int32 × Mm := ((fX10_last s_39), s_39)
def fX10_broken (σ : Mm) (a1 : Int32) : Int32 × Mm := if (fX10_isThing σ a1) = true then (if (fX10_canBreak σ 0 a1) = true then (fX10_broken_39 a1 (up (fX10_keepAct σ) 34 8 (((fX10_keepAct σ).1 34 8) ||| (1 <<< (a1 &&& 31))))) else (((-3), σ))) else (((-1), σ))
set_option maxRecDepth 20000 in
theorem kX10_broken (l : Launch) (D : Dm) (a1 : Int32) (σ : Mm) (hM : vp_in (σ.1 34 13) 9) (hx : vp_in (σ.1 33 4) 16) : Ct l yX10_broken cX10_broken 2 (some .int) 7 D [.ref (D.2.1 33), .int a1] σ (some (.int (fX10_broken σ a1).1), (fX10_broken σ a1).2) := by
  refine ct_of (by decide +kernel) (Nat.le_of_ble_eq_true rfl) (fun X F => ?_)
  have F : Fx X l 2 D cX10_broken RX10 7 (some .int) := F
  show JJ X 2 D σ 0 [(0, .ref (D.2.1 33)), (1, .int a1)] [] (QQ X D (some (.int (fX10_broken σ a1).1), (fX10_broken σ a1).2))
  rw [fX10_broken]
  refine j_aload_n F dX10_broken_0 1 rfl 0 rfl ?_
  refine j_iload_n F dX10_broken_1 2 rfl 1 rfl ?_
  refine j_callVr (as := [.int a1]) (st := []) (r := .int (bi (fX10_isThing σ a1))) (σ9 := σ) F zX10_isThing dX10_broken_2 5 rfl pX10_isThing rfl (by decide) (by decide) (Nat.le_of_ble_eq_true rfl) rfl qX10_128 rfl rfl (by decide) sh33 (kX10_isThing l D a1 σ) ?_
  refine j_ifb_ne F dX10_broken_5 10 (by decide) 8 rfl (fun c_5 => ?_) (fun c_5 => ?_)
  · rw [if_neg c_5]
    refine j_iconst (v := (-1)) F dX10_broken_8 9 rfl (by decide) ?_
    exact j_ret_i F dX10_broken_9 rfl rfl rfl
  · rw [if_pos c_5]
    refine j_aload_n F dX10_broken_10 11 rfl 0 rfl ?_
    refine j_iconst (v := 0) F dX10_broken_11 12 rfl (by decide) ?_
    refine j_iload_n F dX10_broken_12 13 rfl 1 rfl ?_
    refine j_callVr (as := [.int (nI 0), .int a1]) (st := []) (r := .int (bi (fX10_canBreak σ 0 a1))) (σ9 := σ) F zX10_canBreak dX10_broken_13 16 rfl pX10_canBreak rfl (by decide) (by decide) (Nat.le_of_ble_eq_true rfl) rfl qX10_159 rfl rfl (by decide) sh33 (kX10_canBreak l D 0 a1 σ (by decide) (by first | assumption | exact isThing_in (by assumption) (by assumption) | exact vin_mono (by assumption) (by decide) | omega | decide)) ?_
    refine j_ifb_ne F dX10_broken_16 22 (by decide) 19 rfl (fun c_16 => ?_) (fun c_16 => ?_)
    · rw [if_neg c_16]
      refine j_bipush (v := (-3)) F dX10_broken_19 21 rfl (by decide) ?_
      exact j_ret_i F dX10_broken_21 rfl rfl rfl
    · rw [if_pos c_16]
      refine j_aload_n F dX10_broken_22 23 rfl 0 rfl ?_
      refine j_callVv (as := []) (st := []) (σ9 := (fX10_keepAct σ)) F zX10_keepAct dX10_broken_23 26 rfl pX10_keepAct rfl (by decide) (by decide) (Nat.le_of_ble_eq_true rfl) rfl qX10_162 rfl rfl (by decide) sh33 (kX10_keepAct l D σ (by first | assumption | exact isThing_in (by assumption) (by assumption) | exact vin_mono (by assumption) (by decide) | omega | decide)) ?_
      refine j_aload_n F dX10_broken_26 27 rfl 0 rfl ?_
      refine j_get (j := 0) F dX10_broken_27 30 rfl inX10 rfl (by decide) sh33 (by decide) qX10_7 rfl ?_
      refine j_bipush (v := 8) F dX10_broken_30 32 rfl (by decide) ?_
      refine j_dup2 F dX10_broken_32 33 rfl rfl rfl ?_
      refine j_iald_n F dX10_broken_33 34 rfl ia34 8 rfl (by decide) ?_
      refine j_iconst (v := 1) F dX10_broken_34 35 rfl (by decide) ?_
      refine j_iload_n F dX10_broken_35 36 rfl 1 rfl ?_
      refine j_ishl F dX10_broken_36 37 rfl ?_
      refine j_ior F dX10_broken_37 38 rfl ?_
      refine j_iast_n F dX10_broken_38 39 rfl ia34 8 rfl (by decide) ?_
      refine j_pick [0] [(0, .ref (D.2.1 33))] rfl ?_
      have jn_39 : ∀ (s_39 : Mm), (vp_in (s_39.1 34 13) 9) → JJ X 2 D s_39 39 [(0, .ref (D.2.1 33))] [] (QQ X D (some (.int (fX10_broken_39 a1 s_39).1), (fX10_broken_39 a1 s_39).2)) := by
        intro s_39 hM39
        rw [fX10_broken_39]
        refine j_aload_n F dX10_broken_39 40 rfl 0 rfl ?_
        refine j_callVr (as := []) (st := []) (r := .int (fX10_last s_39)) (σ9 := s_39) F zX10_last dX10_broken_40 43 rfl pX10_last rfl (by decide) (by decide) (Nat.le_of_ble_eq_true rfl) rfl qX10_143 rfl rfl (by decide) sh33 (kX10_last l D s_39 (by first | assumption | exact isThing_in (by assumption) (by assumption) | exact vin_mono (by assumption) (by decide) | omega | decide)) ?_
        exact j_ret_i F dX10_broken_43 rfl rfl rfl
      exact jn_39 (up (fX10_keepAct σ) 34 8 (((fX10_keepAct σ).1 34 8) ||| (1 <<< (a1 &&& 31)))) (by rw [up_n (by decide), keepAct_34]; exact hM)
def fX10_claim_39 (a1 : Int32)  (s_39 : Mm) : Int32 × Mm := ((fX10_ones (s_39.1 34 10)), s_39)
def fX10_claim (σ : Mm) (a1 : Int32) : Int32 × Mm := if (fX10_isThing σ a1) = true then (if (fX10_canClaim σ 0 a1) = true then (fX10_claim_39 a1 (up (fX10_keepAct σ) 34 10 (((fX10_keepAct σ).1 34 10) ||| (1 <<< (a1 &&& 31))))) else (((-3), σ))) else (((-1), σ))
set_option maxRecDepth 20000 in
theorem kX10_claim (l : Launch) (D : Dm) (a1 : Int32) (σ : Mm) (hM : vp_in (σ.1 34 13) 9) (hx : vp_in (σ.1 33 4) 16) : Ct l yX10_claim cX10_claim 2 (some .int) 7 D [.ref (D.2.1 33), .int a1] σ (some (.int (fX10_claim σ a1).1), (fX10_claim σ a1).2) := by
  refine ct_of (by decide +kernel) (Nat.le_of_ble_eq_true rfl) (fun X F => ?_)
  have F : Fx X l 2 D cX10_claim RX10 7 (some .int) := F
  show JJ X 2 D σ 0 [(0, .ref (D.2.1 33)), (1, .int a1)] [] (QQ X D (some (.int (fX10_claim σ a1).1), (fX10_claim σ a1).2))
  rw [fX10_claim]
  refine j_aload_n F dX10_claim_0 1 rfl 0 rfl ?_
  refine j_iload_n F dX10_claim_1 2 rfl 1 rfl ?_
  refine j_callVr (as := [.int a1]) (st := []) (r := .int (bi (fX10_isThing σ a1))) (σ9 := σ) F zX10_isThing dX10_claim_2 5 rfl pX10_isThing rfl (by decide) (by decide) (Nat.le_of_ble_eq_true rfl) rfl qX10_128 rfl rfl (by decide) sh33 (kX10_isThing l D a1 σ) ?_
  refine j_ifb_ne F dX10_claim_5 10 (by decide) 8 rfl (fun c_5 => ?_) (fun c_5 => ?_)
  · rw [if_neg c_5]
    refine j_iconst (v := (-1)) F dX10_claim_8 9 rfl (by decide) ?_
    exact j_ret_i F dX10_claim_9 rfl rfl rfl
  · rw [if_pos c_5]
    refine j_aload_n F dX10_claim_10 11 rfl 0 rfl ?_
    refine j_iconst (v := 0) F dX10_claim_11 12 rfl (by decide) ?_
    refine j_iload_n F dX10_claim_12 13 rfl 1 rfl ?_
    refine j_callVr (as := [.int (nI 0), .int a1]) (st := []) (r := .int (bi (fX10_canClaim σ 0 a1))) (σ9 := σ) F zX10_canClaim dX10_claim_13 16 rfl pX10_canClaim rfl (by decide) (by decide) (Nat.le_of_ble_eq_true rfl) rfl qX10_175 rfl rfl (by decide) sh33 (kX10_canClaim l D 0 a1 σ (by decide) (by first | assumption | exact isThing_in (by assumption) (by assumption) | exact vin_mono (by assumption) (by decide) | omega | decide)) ?_
    refine j_ifb_ne F dX10_claim_16 22 (by decide) 19 rfl (fun c_16 => ?_) (fun c_16 => ?_)
    · rw [if_neg c_16]
      refine j_bipush (v := (-3)) F dX10_claim_19 21 rfl (by decide) ?_
      exact j_ret_i F dX10_claim_21 rfl rfl rfl
    · rw [if_pos c_16]
      refine j_aload_n F dX10_claim_22 23 rfl 0 rfl ?_
      refine j_callVv (as := []) (st := []) (σ9 := (fX10_keepAct σ)) F zX10_keepAct dX10_claim_23 26 rfl pX10_keepAct rfl (by decide) (by decide) (Nat.le_of_ble_eq_true rfl) rfl qX10_162 rfl rfl (by decide) sh33 (kX10_keepAct l D σ (by first | assumption | exact isThing_in (by assumption) (by assumption) | exact vin_mono (by assumption) (by decide) | omega | decide)) ?_
      refine j_aload_n F dX10_claim_26 27 rfl 0 rfl ?_
      refine j_get (j := 0) F dX10_claim_27 30 rfl inX10 rfl (by decide) sh33 (by decide) qX10_7 rfl ?_
      refine j_bipush (v := 10) F dX10_claim_30 32 rfl (by decide) ?_
      refine j_dup2 F dX10_claim_32 33 rfl rfl rfl ?_
      refine j_iald_n F dX10_claim_33 34 rfl ia34 10 rfl (by decide) ?_
      refine j_iconst (v := 1) F dX10_claim_34 35 rfl (by decide) ?_
      refine j_iload_n F dX10_claim_35 36 rfl 1 rfl ?_
      refine j_ishl F dX10_claim_36 37 rfl ?_
      refine j_ior F dX10_claim_37 38 rfl ?_
      refine j_iast_n F dX10_claim_38 39 rfl ia34 10 rfl (by decide) ?_
      refine j_pick [0] [(0, .ref (D.2.1 33))] rfl ?_
      have jn_39 : ∀ (s_39 : Mm), JJ X 2 D s_39 39 [(0, .ref (D.2.1 33))] [] (QQ X D (some (.int (fX10_claim_39 a1 s_39).1), (fX10_claim_39 a1 s_39).2)) := by
        intro s_39
        rw [fX10_claim_39]
        refine j_aload_n F dX10_claim_39 40 rfl 0 rfl ?_
        refine j_get (j := 0) F dX10_claim_40 43 rfl inX10 rfl (by decide) sh33 (by decide) qX10_7 rfl ?_
        refine j_bipush (v := 10) F dX10_claim_43 45 rfl (by decide) ?_
        refine j_iald_n F dX10_claim_45 46 rfl ia34 10 rfl (by decide) ?_
        refine j_callSr (as := [.int (s_39.1 34 10)]) (st := []) (r := .int (fX10_ones (s_39.1 34 10))) (σ9 := s_39) F zX10_ones dX10_claim_46 49 rfl pX10_ones rfl (by decide) (by decide) (Nat.le_of_ble_eq_true rfl) rfl qX10_115 (kX10_ones l D (s_39.1 34 10) s_39) ?_
        exact j_ret_i F dX10_claim_49 rfl rfl rfl
      exact jn_39 (up (fX10_keepAct σ) 34 10 (((fX10_keepAct σ).1 34 10) ||| (1 <<< (a1 &&& 31)))) 
def fX10_forge_62 (a1 : Int32) (a2 : Int32)  (s_62 : Mm) (x3_62 : Int32) : Int32 × Mm := (x3_62, (fX10_free (up s_62 34 13 ((s_62.1 34 13) + 1)) 0 x3_62))
def fX10_forge (σ : Mm) (a1 : Int32) (a2 : Int32) : Int32 × Mm := if (fX10_in (a1.toInt64) 0 9999) = true then (if (fX10_in (a2.toInt64) 0 2) = true then (if (σ.1 34 13) = 8 then (((-4), σ)) else (fX10_forge_62 a1 a2 (up (fX10_keepAct σ) 34 ((fX10_keepAct σ).1 34 13).toNatClampNeg (fX10_code a1 a2 1 1 0)) ((fX10_keepAct σ).1 34 13))) else (((-2), σ))) else (((-2), σ))
set_option maxRecDepth 20000 in
theorem kX10_forge (l : Launch) (D : Dm) (a1 : Int32) (a2 : Int32) (σ : Mm) (hM : vp_in (σ.1 34 13) 9) (hx : vp_in (σ.1 33 4) 16) : Ct l yX10_forge cX10_forge 4 (some .int) 6 D [.ref (D.2.1 33), .int a1, .int a2] σ (some (.int (fX10_forge σ a1 a2).1), (fX10_forge σ a1 a2).2) := by
  refine ct_of (by decide +kernel) (Nat.le_of_ble_eq_true rfl) (fun X F => ?_)
  have F : Fx X l 4 D cX10_forge RX10 6 (some .int) := F
  show JJ X 4 D σ 0 [(0, .ref (D.2.1 33)), (1, .int a1), (2, .int a2)] [] (QQ X D (some (.int (fX10_forge σ a1 a2).1), (fX10_forge σ a1 a2).2))
  rw [fX10_forge]
  refine j_iload_n F dX10_forge_0 1 rfl 1 rfl ?_
  refine j_i2l F dX10_forge_1 2 rfl ?_
  refine j_lconst (v := 0) F dX10_forge_2 3 rfl (by decide) ?_
  refine j_ldc2 F dX10_forge_3 6 rfl qX10_165 ?_
  refine j_callSr (as := [.long (a1.toInt64), .long 0, .long 9999]) (st := []) (r := .int (bi (fX10_in (a1.toInt64) 0 9999))) (σ9 := σ) F zX10_in dX10_forge_6 9 rfl pX10_in rfl (by decide) (by decide) (Nat.le_of_ble_eq_true rfl) rfl qX10_58 (kX10_in l D (a1.toInt64) 0 9999 σ) ?_
  refine j_ifb_eq F dX10_forge_9 24 (by decide) 12 rfl (fun c_9 => ?_) (fun c_9 => ?_)
  · rw [if_pos c_9]
    refine j_iload_n F dX10_forge_12 13 rfl 2 rfl ?_
    refine j_i2l F dX10_forge_13 14 rfl ?_
    refine j_lconst (v := 0) F dX10_forge_14 15 rfl (by decide) ?_
    refine j_ldc2 F dX10_forge_15 18 rfl qX10_167 ?_
    refine j_callSr (as := [.long (a2.toInt64), .long 0, .long 2]) (st := []) (r := .int (bi (fX10_in (a2.toInt64) 0 2))) (σ9 := σ) F zX10_in dX10_forge_18 21 rfl pX10_in rfl (by decide) (by decide) (Nat.le_of_ble_eq_true rfl) rfl qX10_58 (kX10_in l D (a2.toInt64) 0 2 σ) ?_
    refine j_ifb_ne F dX10_forge_21 27 (by decide) 24 rfl (fun c_21 => ?_) (fun c_21 => ?_)
    · rw [if_neg c_21]
      refine j_bipush (v := (-2)) F dX10_forge_24 26 rfl (by decide) ?_
      exact j_ret_i F dX10_forge_26 rfl rfl rfl
    · rw [if_pos c_21]
      refine j_aload_n F dX10_forge_27 28 rfl 0 rfl ?_
      refine j_callVr (as := []) (st := []) (r := .int (σ.1 34 13)) (σ9 := σ) F zX10_many dX10_forge_28 31 rfl pX10_many rfl (by decide) (by decide) (Nat.le_of_ble_eq_true rfl) rfl qX10_105 rfl rfl (by decide) sh33 (kX10_many l D σ) ?_
      refine j_bipush (v := 8) F dX10_forge_31 33 rfl (by decide) ?_
      refine j_icmp_ne F dX10_forge_33 39 (by decide) 36 rfl (fun c_33 => ?_) (fun c_33 => ?_)
      · rw [if_pos c_33]
        refine j_bipush (v := (-4)) F dX10_forge_36 38 rfl (by decide) ?_
        exact j_ret_i F dX10_forge_38 rfl rfl rfl
      · rw [if_neg c_33]
        refine j_aload_n F dX10_forge_39 40 rfl 0 rfl ?_
        refine j_callVv (as := []) (st := []) (σ9 := (fX10_keepAct σ)) F zX10_keepAct dX10_forge_40 43 rfl pX10_keepAct rfl (by decide) (by decide) (Nat.le_of_ble_eq_true rfl) rfl qX10_162 rfl rfl (by decide) sh33 (kX10_keepAct l D σ (by first | assumption | exact isThing_in (by assumption) (by assumption) | exact vin_mono (by assumption) (by decide) | omega | decide)) ?_
        refine j_aload_n F dX10_forge_43 44 rfl 0 rfl ?_
        refine j_callVr (as := []) (st := []) (r := .int ((fX10_keepAct σ).1 34 13)) (σ9 := (fX10_keepAct σ)) F zX10_many dX10_forge_44 47 rfl pX10_many rfl (by decide) (by decide) (Nat.le_of_ble_eq_true rfl) rfl qX10_105 rfl rfl (by decide) sh33 (kX10_many l D (fX10_keepAct σ)) ?_
        refine j_istore_n F dX10_forge_47 48 rfl 3 rfl (by decide) [(3, .int ((fX10_keepAct σ).1 34 13)), (0, .ref (D.2.1 33)), (1, .int a1), (2, .int a2)] rfl ?_
        refine j_aload_n F dX10_forge_48 49 rfl 1 rfl ?_
        refine j_get (j := 0) F dX10_forge_49 52 rfl inX10 rfl (by decide) sh33 (by decide) qX10_7 rfl ?_
        refine j_iload_n F dX10_forge_52 53 rfl 0 rfl ?_
        refine j_iload_n F dX10_forge_53 54 rfl 2 rfl ?_
        refine j_iload_n F dX10_forge_54 55 rfl 3 rfl ?_
        refine j_iconst (v := 1) F dX10_forge_55 56 rfl (by decide) ?_
        refine j_iconst (v := 1) F dX10_forge_56 57 rfl (by decide) ?_
        refine j_iconst (v := 0) F dX10_forge_57 58 rfl (by decide) ?_
        refine j_callSr (as := [.int a1, .int a2, .int 1, .int 1, .int 0]) (st := [.int ((fX10_keepAct σ).1 34 13), .ref (D.2.1 34)]) (r := .int (fX10_code a1 a2 1 1 0)) (σ9 := (fX10_keepAct σ)) F zX10_code dX10_forge_58 61 rfl pX10_code rfl (by decide) (by decide) (Nat.le_of_ble_eq_true rfl) rfl qX10_88 (kX10_code l D a1 a2 1 1 0 (fX10_keepAct σ)) ?_
        refine j_iast F dX10_forge_61 62 rfl ia34 (by rw [keepAct_34]; exact vin_mono hM (by decide)) ?_
        refine j_pick [1, 0] [(0, .ref (D.2.1 33)), (3, .int ((fX10_keepAct σ).1 34 13))] rfl ?_
        have jn_62 : ∀ (s_62 : Mm), (vp_in (s_62.1 34 13) 8) → JJ X 4 D s_62 62 [(0, .ref (D.2.1 33)), (3, .int ((fX10_keepAct σ).1 34 13))] [] (QQ X D (some (.int (fX10_forge_62 a1 a2 s_62 ((fX10_keepAct σ).1 34 13)).1), (fX10_forge_62 a1 a2 s_62 ((fX10_keepAct σ).1 34 13)).2)) := by
          intro s_62 hM62
          rw [fX10_forge_62]
          refine j_aload_n F dX10_forge_62 63 rfl 0 rfl ?_
          refine j_get (j := 0) F dX10_forge_63 66 rfl inX10 rfl (by decide) sh33 (by decide) qX10_7 rfl ?_
          refine j_bipush (v := 13) F dX10_forge_66 68 rfl (by decide) ?_
          refine j_dup2 F dX10_forge_68 69 rfl rfl rfl ?_
          refine j_iald_n F dX10_forge_69 70 rfl ia34 13 rfl (by decide) ?_
          refine j_iconst (v := 1) F dX10_forge_70 71 rfl (by decide) ?_
          refine j_iadd F dX10_forge_71 72 rfl ?_
          refine j_iast_n F dX10_forge_72 73 rfl ia34 13 rfl (by decide) ?_
          refine j_aload_n F dX10_forge_73 74 rfl 0 rfl ?_
          refine j_iconst (v := 0) F dX10_forge_74 75 rfl (by decide) ?_
          refine j_iload_n F dX10_forge_75 76 rfl 1 rfl ?_
          refine j_callVv (as := [.int (nI 0), .int ((fX10_keepAct σ).1 34 13)]) (st := []) (σ9 := (fX10_free (up s_62 34 13 ((s_62.1 34 13) + 1)) 0 ((fX10_keepAct σ).1 34 13))) F zX10_free dX10_forge_76 79 rfl pX10_free rfl (by decide) (by decide) (Nat.le_of_ble_eq_true rfl) rfl qX10_155 rfl rfl (by decide) sh33 (kX10_free l D 0 ((fX10_keepAct σ).1 34 13) (up s_62 34 13 ((s_62.1 34 13) + 1)) (by decide) (by rw [keepAct_34]; exact vin_ne9 hM c_33) (forge_b hM62)) ?_
          refine j_iload_n F dX10_forge_79 80 rfl 1 rfl ?_
          exact j_ret_i F dX10_forge_80 rfl rfl rfl
        exact jn_62 (up (fX10_keepAct σ) 34 ((fX10_keepAct σ).1 34 13).toNatClampNeg (fX10_code a1 a2 1 1 0)) (forge_a hM c_33)
  · rw [if_neg c_9]
    refine j_bipush (v := (-2)) F dX10_forge_24 26 rfl (by decide) ?_
    exact j_ret_i F dX10_forge_26 rfl rfl rfl
def fX10_guard_37 (a1 : Int32)  (s_37 : Mm) : Int32 × Mm := ((fX10_guardOf s_37 a1), s_37)
def fX10_guard (σ : Mm) (a1 : Int32) : Int32 × Mm := if (fX10_isThing σ a1) = true then (if (fX10_has (σ.1 34 8) a1) = true then (((-3), σ)) else (fX10_guard_37 a1 (fX10_doGuard (fX10_keepAct σ) 0 a1))) else (((-1), σ))
set_option maxRecDepth 20000 in
theorem kX10_guard (l : Launch) (D : Dm) (a1 : Int32) (σ : Mm) (hM : vp_in (σ.1 34 13) 9) (hx : vp_in (σ.1 33 4) 16) : Ct l yX10_guard cX10_guard 2 (some .int) 3 D [.ref (D.2.1 33), .int a1] σ (some (.int (fX10_guard σ a1).1), (fX10_guard σ a1).2) := by
  refine ct_of (by decide +kernel) (Nat.le_of_ble_eq_true rfl) (fun X F => ?_)
  have F : Fx X l 2 D cX10_guard RX10 3 (some .int) := F
  show JJ X 2 D σ 0 [(0, .ref (D.2.1 33)), (1, .int a1)] [] (QQ X D (some (.int (fX10_guard σ a1).1), (fX10_guard σ a1).2))
  rw [fX10_guard]
  refine j_aload_n F dX10_guard_0 1 rfl 0 rfl ?_
  refine j_iload_n F dX10_guard_1 2 rfl 1 rfl ?_
  refine j_callVr (as := [.int a1]) (st := []) (r := .int (bi (fX10_isThing σ a1))) (σ9 := σ) F zX10_isThing dX10_guard_2 5 rfl pX10_isThing rfl (by decide) (by decide) (Nat.le_of_ble_eq_true rfl) rfl qX10_128 rfl rfl (by decide) sh33 (kX10_isThing l D a1 σ) ?_
  refine j_ifb_ne F dX10_guard_5 10 (by decide) 8 rfl (fun c_5 => ?_) (fun c_5 => ?_)
  · rw [if_neg c_5]
    refine j_iconst (v := (-1)) F dX10_guard_8 9 rfl (by decide) ?_
    exact j_ret_i F dX10_guard_9 rfl rfl rfl
  · rw [if_pos c_5]
    refine j_aload_n F dX10_guard_10 11 rfl 0 rfl ?_
    refine j_get (j := 0) F dX10_guard_11 14 rfl inX10 rfl (by decide) sh33 (by decide) qX10_7 rfl ?_
    refine j_bipush (v := 8) F dX10_guard_14 16 rfl (by decide) ?_
    refine j_iald_n F dX10_guard_16 17 rfl ia34 8 rfl (by decide) ?_
    refine j_iload_n F dX10_guard_17 18 rfl 1 rfl ?_
    refine j_callSr (as := [.int (σ.1 34 8), .int a1]) (st := []) (r := .int (bi (fX10_has (σ.1 34 8) a1))) (σ9 := σ) F zX10_has dX10_guard_18 21 rfl pX10_has rfl (by decide) (by decide) (Nat.le_of_ble_eq_true rfl) rfl qX10_108 (kX10_has l D (σ.1 34 8) a1 σ) ?_
    refine j_ifb_eq F dX10_guard_21 27 (by decide) 24 rfl (fun c_21 => ?_) (fun c_21 => ?_)
    · rw [if_pos c_21]
      refine j_bipush (v := (-3)) F dX10_guard_24 26 rfl (by decide) ?_
      exact j_ret_i F dX10_guard_26 rfl rfl rfl
    · rw [if_neg c_21]
      refine j_aload_n F dX10_guard_27 28 rfl 0 rfl ?_
      refine j_callVv (as := []) (st := []) (σ9 := (fX10_keepAct σ)) F zX10_keepAct dX10_guard_28 31 rfl pX10_keepAct rfl (by decide) (by decide) (Nat.le_of_ble_eq_true rfl) rfl qX10_162 rfl rfl (by decide) sh33 (kX10_keepAct l D σ (by first | assumption | exact isThing_in (by assumption) (by assumption) | exact vin_mono (by assumption) (by decide) | omega | decide)) ?_
      refine j_aload_n F dX10_guard_31 32 rfl 0 rfl ?_
      refine j_iconst (v := 0) F dX10_guard_32 33 rfl (by decide) ?_
      refine j_iload_n F dX10_guard_33 34 rfl 1 rfl ?_
      refine j_callVv (as := [.int (nI 0), .int a1]) (st := []) (σ9 := (fX10_doGuard (fX10_keepAct σ) 0 a1)) F zX10_doGuard dX10_guard_34 37 rfl pX10_doGuard rfl (by decide) (by decide) (Nat.le_of_ble_eq_true rfl) rfl qX10_178 rfl rfl (by decide) sh33 (kX10_doGuard l D 0 a1 (fX10_keepAct σ) (by decide) (by first | assumption | exact isThing_in (by assumption) (by assumption) | exact vin_mono (by assumption) (by decide) | omega | decide)) ?_
      have jn_37 : ∀ (s_37 : Mm), JJ X 2 D s_37 37 [(0, .ref (D.2.1 33)), (1, .int a1)] [] (QQ X D (some (.int (fX10_guard_37 a1 s_37).1), (fX10_guard_37 a1 s_37).2)) := by
        intro s_37
        rw [fX10_guard_37]
        refine j_aload_n F dX10_guard_37 38 rfl 0 rfl ?_
        refine j_iload_n F dX10_guard_38 39 rfl 1 rfl ?_
        refine j_callVr (as := [.int a1]) (st := []) (r := .int (fX10_guardOf s_37 a1)) (σ9 := s_37) F zX10_guardOf dX10_guard_39 42 rfl pX10_guardOf rfl (by decide) (by decide) (Nat.le_of_ble_eq_true rfl) rfl qX10_140 rfl rfl (by decide) sh33 (kX10_guardOf l D a1 s_37 (by first | assumption | exact isThing_in (by assumption) (by assumption) | exact vin_mono (by assumption) (by decide) | omega | decide)) ?_
        exact j_ret_i F dX10_guard_42 rfl rfl rfl
      exact jn_37 (fX10_doGuard (fX10_keepAct σ) 0 a1) 
def fX10_hide_32 (a1 : Int32)  (s_32 : Mm) : Int32 × Mm := ((((s_32.1 34 9) >>> (a1 &&& 31)) &&& 1), s_32)
def fX10_hide (σ : Mm) (a1 : Int32) : Int32 × Mm := if (fX10_isThing σ a1) = true then (if (fX10_canHide σ 0 a1) = true then (fX10_hide_32 a1 (fX10_doHide (fX10_keepAct σ) 0 a1)) else (((-3), σ))) else (((-1), σ))
set_option maxRecDepth 20000 in
theorem kX10_hide (l : Launch) (D : Dm) (a1 : Int32) (σ : Mm) (hM : vp_in (σ.1 34 13) 9) (hx : vp_in (σ.1 33 4) 16) : Ct l yX10_hide cX10_hide 2 (some .int) 7 D [.ref (D.2.1 33), .int a1] σ (some (.int (fX10_hide σ a1).1), (fX10_hide σ a1).2) := by
  refine ct_of (by decide +kernel) (Nat.le_of_ble_eq_true rfl) (fun X F => ?_)
  have F : Fx X l 2 D cX10_hide RX10 7 (some .int) := F
  show JJ X 2 D σ 0 [(0, .ref (D.2.1 33)), (1, .int a1)] [] (QQ X D (some (.int (fX10_hide σ a1).1), (fX10_hide σ a1).2))
  rw [fX10_hide]
  refine j_aload_n F dX10_hide_0 1 rfl 0 rfl ?_
  refine j_iload_n F dX10_hide_1 2 rfl 1 rfl ?_
  refine j_callVr (as := [.int a1]) (st := []) (r := .int (bi (fX10_isThing σ a1))) (σ9 := σ) F zX10_isThing dX10_hide_2 5 rfl pX10_isThing rfl (by decide) (by decide) (Nat.le_of_ble_eq_true rfl) rfl qX10_128 rfl rfl (by decide) sh33 (kX10_isThing l D a1 σ) ?_
  refine j_ifb_ne F dX10_hide_5 10 (by decide) 8 rfl (fun c_5 => ?_) (fun c_5 => ?_)
  · rw [if_neg c_5]
    refine j_iconst (v := (-1)) F dX10_hide_8 9 rfl (by decide) ?_
    exact j_ret_i F dX10_hide_9 rfl rfl rfl
  · rw [if_pos c_5]
    refine j_aload_n F dX10_hide_10 11 rfl 0 rfl ?_
    refine j_iconst (v := 0) F dX10_hide_11 12 rfl (by decide) ?_
    refine j_iload_n F dX10_hide_12 13 rfl 1 rfl ?_
    refine j_callVr (as := [.int (nI 0), .int a1]) (st := []) (r := .int (bi (fX10_canHide σ 0 a1))) (σ9 := σ) F zX10_canHide dX10_hide_13 16 rfl pX10_canHide rfl (by decide) (by decide) (Nat.le_of_ble_eq_true rfl) rfl qX10_169 rfl rfl (by decide) sh33 (kX10_canHide l D 0 a1 σ (by decide)) ?_
    refine j_ifb_ne F dX10_hide_16 22 (by decide) 19 rfl (fun c_16 => ?_) (fun c_16 => ?_)
    · rw [if_neg c_16]
      refine j_bipush (v := (-3)) F dX10_hide_19 21 rfl (by decide) ?_
      exact j_ret_i F dX10_hide_21 rfl rfl rfl
    · rw [if_pos c_16]
      refine j_aload_n F dX10_hide_22 23 rfl 0 rfl ?_
      refine j_callVv (as := []) (st := []) (σ9 := (fX10_keepAct σ)) F zX10_keepAct dX10_hide_23 26 rfl pX10_keepAct rfl (by decide) (by decide) (Nat.le_of_ble_eq_true rfl) rfl qX10_162 rfl rfl (by decide) sh33 (kX10_keepAct l D σ (by first | assumption | exact isThing_in (by assumption) (by assumption) | exact vin_mono (by assumption) (by decide) | omega | decide)) ?_
      refine j_aload_n F dX10_hide_26 27 rfl 0 rfl ?_
      refine j_iconst (v := 0) F dX10_hide_27 28 rfl (by decide) ?_
      refine j_iload_n F dX10_hide_28 29 rfl 1 rfl ?_
      refine j_callVv (as := [.int (nI 0), .int a1]) (st := []) (σ9 := (fX10_doHide (fX10_keepAct σ) 0 a1)) F zX10_doHide dX10_hide_29 32 rfl pX10_doHide rfl (by decide) (by decide) (Nat.le_of_ble_eq_true rfl) rfl qX10_172 rfl rfl (by decide) sh33 (kX10_doHide l D 0 a1 (fX10_keepAct σ) (by decide) (by first | assumption | exact isThing_in (by assumption) (by assumption) | exact vin_mono (by assumption) (by decide) | omega | decide) (by first | exact hM | (rw [keepAct_34]; exact hM))) ?_
      have jn_32 : ∀ (s_32 : Mm), JJ X 2 D s_32 32 [(0, .ref (D.2.1 33)), (1, .int a1)] [] (QQ X D (some (.int (fX10_hide_32 a1 s_32).1), (fX10_hide_32 a1 s_32).2)) := by
        intro s_32
        rw [fX10_hide_32]
        refine j_aload_n F dX10_hide_32 33 rfl 0 rfl ?_
        refine j_get (j := 0) F dX10_hide_33 36 rfl inX10 rfl (by decide) sh33 (by decide) qX10_7 rfl ?_
        refine j_bipush (v := 9) F dX10_hide_36 38 rfl (by decide) ?_
        refine j_iald_n F dX10_hide_38 39 rfl ia34 9 rfl (by decide) ?_
        refine j_iload_n F dX10_hide_39 40 rfl 1 rfl ?_
        refine j_ishr F dX10_hide_40 41 rfl ?_
        refine j_iconst (v := 1) F dX10_hide_41 42 rfl (by decide) ?_
        refine j_iand F dX10_hide_42 43 rfl ?_
        exact j_ret_i F dX10_hide_43 rfl rfl rfl
      exact jn_32 (fX10_doHide (fX10_keepAct σ) 0 a1) 
def fX10_house_170   (s_170 : Mm) : Int32 × Mm := (((up s_170 47 1 0).1 34 13), (up s_170 47 1 0))
def fX10_house_158   (s_158 : Mm) : Int32 × Mm := fX10_house_170 (up (up s_158 33 3 0) 47 0 0)
def fX10_house_112  (kb63 : Mm → Nat → Int32 × Mm) (s_112 : Mm) (k1_112 : Nat) (x2_112 : Int32) (x3_112 : Int32) : Int32 × Mm := kb63 (up s_112 34 k1_112 (fX10_code x3_112 (fX10_figure s_112 (x2_112 + 4)) (fX10_figure s_112 (x2_112 + 5)) (fX10_figure s_112 (x2_112 + 6)) (fX10_figure s_112 (x2_112 + 7)))) (k1_112 + 1)
def fX10_house_86  (kb63 : Mm → Nat → Int32 × Mm) : Nat → Mm → Nat → Int32 → Int32 → Nat → Int32 × Mm
  | 0, s_86, _, _, _, _ => (0, s_86)
  | n + 1, s_86, k1_86, x2_86, x3_86, k4_86 => if (nI k4_86) < 4 then (fX10_house_86 kb63 n s_86 k1_86 x2_86 ((10 * x3_86) + (fX10_figure s_86 (x2_86 + (nI k4_86)))) (k4_86 + 1)) else (fX10_house_112 kb63 s_86 k1_86 x2_86 x3_86)
def mX10_house_63  (s_63 : Mm) : Nat := ((s_63.1 34 13) : Int32).toNatClampNeg
def fX10_house_63   : Nat → Mm → Nat → Int32 × Mm
  | 0, s_63, _ => (0, s_63)
  | n + 1, s_63, k1_63 => if (nI k1_63) < (s_63.1 34 13) then (fX10_house_86 (fX10_house_63 n) 5 s_63 k1_63 (3 + (9 * (nI k1_63))) 0 0) else (fX10_house_158 s_63)
def fX10_house_33   (s_33 : Mm) : Int32 × Mm := fX10_house_63 (mX10_house_63 (up (up s_33 34 11 (fX10_figure s_33 1)) 34 13 ((((up s_33 34 11 (fX10_figure s_33 1)).1 33 2) - 2) / 9)) + 1) (up (up s_33 34 11 (fX10_figure s_33 1)) 34 13 ((((up s_33 34 11 (fX10_figure s_33 1)).1 33 2) - 2) / 9)) 0
def fX10_house_14   : Nat → Mm → Nat → Int32 × Mm
  | 0, s_14, _ => (0, s_14)
  | n + 1, s_14, k1_14 => if (nI k1_14) < 14 then (fX10_house_14 n (up s_14 34 k1_14 0) (k1_14 + 1)) else (fX10_house_33 s_14)
def fX10_house (σ : Mm)  : Int32 × Mm := if (fX10_fault σ) = (-9) then (fX10_house_14 15 σ 0) else (((-3), σ))
set_option maxRecDepth 20000 in
theorem kX10_house (l : Launch) (D : Dm)  (σ : Mm) (hlen : vp_in (σ.1 33 2) 57) : Ct l yX10_house cX10_house 5 (some .int) 4 D [.ref (D.2.1 33)] σ (some (.int (fX10_house σ).1), (fX10_house σ).2) := by
  refine ct_of (by decide +kernel) (Nat.le_of_ble_eq_true rfl) (fun X F => ?_)
  have F : Fx X l 5 D cX10_house RX10 4 (some .int) := F
  show JJ X 5 D σ 0 [(0, .ref (D.2.1 33))] [] (QQ X D (some (.int (fX10_house σ).1), (fX10_house σ).2))
  rw [fX10_house]
  have hN6 := house_n hlen
  refine j_aload_n F dX10_house_0 1 rfl 0 rfl ?_
  refine j_callVr (as := []) (st := []) (r := .int (fX10_fault σ)) (σ9 := σ) F zX10_fault dX10_house_1 4 rfl pX10_fault rfl (by decide) (by decide) (Nat.le_of_ble_eq_true rfl) rfl qX10_80 rfl rfl (by decide) sh33 (kX10_fault l D σ (by first | assumption | exact isThing_in (by assumption) (by assumption) | exact vin_mono (by assumption) (by decide) | omega | decide)) ?_
  refine j_bipush (v := (-9)) F dX10_house_4 6 rfl (by decide) ?_
  refine j_icmp_eq F dX10_house_6 12 (by decide) 9 rfl (fun c_6 => ?_) (fun c_6 => ?_)
  · rw [if_neg c_6]
    refine j_bipush (v := (-3)) F dX10_house_9 11 rfl (by decide) ?_
    exact j_ret_i F dX10_house_11 rfl rfl rfl
  · rw [if_pos c_6]
    refine j_iconst (v := 0) F dX10_house_12 13 rfl (by decide) ?_
    refine j_istore_n F dX10_house_13 14 rfl 1 rfl (by decide) [(1, .int 0), (0, .ref (D.2.1 33))] rfl ?_
    have hx_33 : ∀ (s_33 : Mm), s_33.1 33 2 = σ.1 33 2 → JJ X 5 D s_33 33 [(0, .ref (D.2.1 33))] [] (QQ X D (some (.int (fX10_house_33 s_33).1), (fX10_house_33 s_33).2)) := by
      intro s_33 hn_33
      rw [fX10_house_33]
      refine j_aload_n F dX10_house_33 34 rfl 0 rfl ?_
      refine j_get (j := 0) F dX10_house_34 37 rfl inX10 rfl (by decide) sh33 (by decide) qX10_7 rfl ?_
      refine j_bipush (v := 11) F dX10_house_37 39 rfl (by decide) ?_
      refine j_aload_n F dX10_house_39 40 rfl 0 rfl ?_
      refine j_iconst (v := 1) F dX10_house_40 41 rfl (by decide) ?_
      refine j_callVr (as := [.int 1]) (st := [.int 11, .ref (D.2.1 34)]) (r := .int (fX10_figure s_33 1)) (σ9 := s_33) F zX10_figure dX10_house_41 44 rfl pX10_figure rfl (by decide) (by decide) (Nat.le_of_ble_eq_true rfl) rfl qX10_84 rfl rfl (by decide) sh33 (kX10_figure l D 1 s_33 (vp_in_nI (n := 1) (by decide) (by decide))) ?_
      refine j_iast_n F dX10_house_44 45 rfl ia34 11 rfl (by decide) ?_
      refine j_aload_n F dX10_house_45 46 rfl 0 rfl ?_
      refine j_get (j := 0) F dX10_house_46 49 rfl inX10 rfl (by decide) sh33 (by decide) qX10_7 rfl ?_
      refine j_bipush (v := 13) F dX10_house_49 51 rfl (by decide) ?_
      refine j_aload_n F dX10_house_51 52 rfl 0 rfl ?_
      refine j_get (j := 2) F dX10_house_52 55 rfl inX10 rfl (by decide) sh33 (by decide) qX10_62 rfl ?_
      refine j_iconst (v := 2) F dX10_house_55 56 rfl (by decide) ?_
      refine j_isub F dX10_house_56 57 rfl ?_
      refine j_bipush (v := 9) F dX10_house_57 59 rfl (by decide) ?_
      refine j_idiv F dX10_house_59 60 rfl (by decide) ?_
      refine j_iast_n F dX10_house_60 61 rfl ia34 13 rfl (by decide) ?_
      refine j_iconst (v := 0) F dX10_house_61 62 rfl (by decide) ?_
      refine j_istore_n F dX10_house_62 63 rfl 1 rfl (by decide) [(1, .int 0), (0, .ref (D.2.1 33))] rfl ?_
      have hx_158 : ∀ (s_158 : Mm), JJ X 5 D s_158 158 [(0, .ref (D.2.1 33))] [] (QQ X D (some (.int (fX10_house_158 s_158).1), (fX10_house_158 s_158).2)) := by
        intro s_158
        rw [fX10_house_158]
        refine j_aload_n F dX10_house_158 159 rfl 0 rfl ?_
        refine j_iconst (v := 0) F dX10_house_159 160 rfl (by decide) ?_
        refine j_put (j := 3) F dX10_house_160 163 rfl inX10 tyX10 tyX10_ok nmX10 rfl (by decide) sh33 sh33 (by decide) qX10_92 rfl (tyX10_ok 3 (by decide)) (Nat.le_of_ble_eq_true rfl) ?_
        refine j_aload_n F dX10_house_163 164 rfl 0 rfl ?_
        refine j_get (j := 21) F dX10_house_164 167 rfl inX10 rfl (by decide) sh33 (by decide) qX10_50 rfl ?_
        refine j_iconst (v := 0) F dX10_house_167 168 rfl (by decide) ?_
        refine j_iconst (v := 0) F dX10_house_168 169 rfl (by decide) ?_
        refine j_zast_n (v' := 0) F dX10_house_169 170 rfl (by decide) (by decide) (fun _ _ => sh47) 0 rfl (by decide) (by decide) ?_
        have jn_170 : ∀ (s_170 : Mm), JJ X 5 D s_170 170 [(0, .ref (D.2.1 33))] [] (QQ X D (some (.int (fX10_house_170 s_170).1), (fX10_house_170 s_170).2)) := by
          intro s_170
          rw [fX10_house_170]
          refine j_aload_n F dX10_house_170 171 rfl 0 rfl ?_
          refine j_get (j := 21) F dX10_house_171 174 rfl inX10 rfl (by decide) sh33 (by decide) qX10_50 rfl ?_
          refine j_iconst (v := 1) F dX10_house_174 175 rfl (by decide) ?_
          refine j_iconst (v := 0) F dX10_house_175 176 rfl (by decide) ?_
          refine j_zast_n (v' := 0) F dX10_house_176 177 rfl (by decide) (by decide) (fun _ _ => sh47) 1 rfl (by decide) (by decide) ?_
          refine j_aload_n F dX10_house_177 178 rfl 0 rfl ?_
          refine j_get (j := 0) F dX10_house_178 181 rfl inX10 rfl (by decide) sh33 (by decide) qX10_7 rfl ?_
          refine j_bipush (v := 13) F dX10_house_181 183 rfl (by decide) ?_
          refine j_iald_n F dX10_house_183 184 rfl ia34 13 rfl (by decide) ?_
          exact j_ret_i F dX10_house_184 rfl rfl rfl
        exact jn_170 (up (up s_158 33 3 0) 47 0 0) 
      have lp_63 : ∀ (n_63 : Nat) (s_63 : Mm) (k1_63 : Nat), k1_63 ≤ (((((σ.1 33 2) - 2) / 9) : Int32).toNatClampNeg) → (((((σ.1 33 2) - 2) / 9) : Int32).toNatClampNeg) < k1_63 + n_63 → s_63.1 34 13 = ((σ.1 33 2) - 2) / 9 → JJ X 5 D s_63 63 [(0, .ref (D.2.1 33)), (1, .int (nI k1_63))] [] (QQ X D (some (.int (fX10_house_63 n_63 s_63 k1_63).1), (fX10_house_63 n_63 s_63 k1_63).2)) := by
        intro n_63
        induction n_63 with
        | zero => intro s_63 k1_63 hk_63 hn_63 hi_63; exact absurd hn_63 (by omega)
        | succ n_63 ih_63 =>
          intro s_63 k1_63 hk_63 hn_63 hi_63
          rw [fX10_house_63]
          refine j_iload_n F dX10_house_63 64 rfl 1 rfl ?_
          refine j_aload_n F dX10_house_64 65 rfl 0 rfl ?_
          refine j_get (j := 0) F dX10_house_65 68 rfl inX10 rfl (by decide) sh33 (by decide) qX10_7 rfl ?_
          refine j_bipush (v := 13) F dX10_house_68 70 rfl (by decide) ?_
          refine j_iald_n F dX10_house_70 71 rfl ia34 13 rfl (by decide) ?_
          refine j_icmp_ge F dX10_house_71 158 (by decide) 74 rfl (fun c_71 => ?_) (fun c_71 => ?_)
          · rw [if_pos c_71]
            have h_71 : k1_63 < (((((σ.1 33 2) - 2) / 9) : Int32).toNatClampNeg) := nltd (by have c9 := c_71; rw [hi_63] at c9; exact c9) hk_63
            refine j_iconst (v := 3) F dX10_house_74 75 rfl (by decide) ?_
            refine j_bipush (v := 9) F dX10_house_75 77 rfl (by decide) ?_
            refine j_iload_n F dX10_house_77 78 rfl 1 rfl ?_
            refine j_imul F dX10_house_78 79 rfl ?_
            refine j_iadd F dX10_house_79 80 rfl ?_
            refine j_istore_n F dX10_house_80 81 rfl 2 rfl (by decide) [(2, .int (3 + (9 * (nI k1_63)))), (0, .ref (D.2.1 33)), (1, .int (nI k1_63))] rfl ?_
            refine j_iconst (v := 0) F dX10_house_81 82 rfl (by decide) ?_
            refine j_istore_n F dX10_house_82 83 rfl 3 rfl (by decide) [(3, .int 0), (2, .int (3 + (9 * (nI k1_63)))), (0, .ref (D.2.1 33)), (1, .int (nI k1_63))] rfl ?_
            refine j_iconst (v := 0) F dX10_house_83 84 rfl (by decide) ?_
            refine j_istore F dX10_house_84 86 rfl (by decide) [(4, .int 0), (3, .int 0), (2, .int (3 + (9 * (nI k1_63)))), (0, .ref (D.2.1 33)), (1, .int (nI k1_63))] rfl ?_
            have hx_112 : ∀ (x3_112 : Int32), JJ X 5 D s_63 112 [(0, .ref (D.2.1 33)), (1, .int (nI k1_63)), (2, .int (3 + (9 * (nI k1_63)))), (3, .int x3_112)] [] (QQ X D (some (.int (fX10_house_112 (fX10_house_63 n_63) s_63 k1_63 (3 + (9 * (nI k1_63))) x3_112).1), (fX10_house_112 (fX10_house_63 n_63) s_63 k1_63 (3 + (9 * (nI k1_63))) x3_112).2)) := by
              intro x3_112
              rw [fX10_house_112]
              refine j_aload_n F dX10_house_112 113 rfl 0 rfl ?_
              refine j_get (j := 0) F dX10_house_113 116 rfl inX10 rfl (by decide) sh33 (by decide) qX10_7 rfl ?_
              refine j_iload_n F dX10_house_116 117 rfl 1 rfl ?_
              refine j_iload_n F dX10_house_117 118 rfl 3 rfl ?_
              refine j_aload_n F dX10_house_118 119 rfl 0 rfl ?_
              refine j_iload_n F dX10_house_119 120 rfl 2 rfl ?_
              refine j_iconst (v := 4) F dX10_house_120 121 rfl (by decide) ?_
              refine j_iadd F dX10_house_121 122 rfl ?_
              refine j_callVr (as := [.int ((3 + (9 * (nI k1_63))) + 4)]) (st := [.int x3_112, .int (nI k1_63), .ref (D.2.1 34)]) (r := .int (fX10_figure s_63 ((3 + (9 * (nI k1_63))) + 4))) (σ9 := s_63) F zX10_figure dX10_house_122 125 rfl pX10_figure rfl (by decide) (by decide) (Nat.le_of_ble_eq_true rfl) rfl qX10_84 rfl rfl (by decide) sh33 (kX10_figure l D ((3 + (9 * (nI k1_63))) + 4) s_63 (house_at (m := 4) (by omega) (by decide))) ?_
              refine j_aload_n F dX10_house_125 126 rfl 0 rfl ?_
              refine j_iload_n F dX10_house_126 127 rfl 2 rfl ?_
              refine j_iconst (v := 5) F dX10_house_127 128 rfl (by decide) ?_
              refine j_iadd F dX10_house_128 129 rfl ?_
              refine j_callVr (as := [.int ((3 + (9 * (nI k1_63))) + 5)]) (st := [.int (fX10_figure s_63 ((3 + (9 * (nI k1_63))) + 4)), .int x3_112, .int (nI k1_63), .ref (D.2.1 34)]) (r := .int (fX10_figure s_63 ((3 + (9 * (nI k1_63))) + 5))) (σ9 := s_63) F zX10_figure dX10_house_129 132 rfl pX10_figure rfl (by decide) (by decide) (Nat.le_of_ble_eq_true rfl) rfl qX10_84 rfl rfl (by decide) sh33 (kX10_figure l D ((3 + (9 * (nI k1_63))) + 5) s_63 (house_at (m := 5) (by omega) (by decide))) ?_
              refine j_aload_n F dX10_house_132 133 rfl 0 rfl ?_
              refine j_iload_n F dX10_house_133 134 rfl 2 rfl ?_
              refine j_bipush (v := 6) F dX10_house_134 136 rfl (by decide) ?_
              refine j_iadd F dX10_house_136 137 rfl ?_
              refine j_callVr (as := [.int ((3 + (9 * (nI k1_63))) + 6)]) (st := [.int (fX10_figure s_63 ((3 + (9 * (nI k1_63))) + 5)), .int (fX10_figure s_63 ((3 + (9 * (nI k1_63))) + 4)), .int x3_112, .int (nI k1_63), .ref (D.2.1 34)]) (r := .int (fX10_figure s_63 ((3 + (9 * (nI k1_63))) + 6))) (σ9 := s_63) F zX10_figure dX10_house_137 140 rfl pX10_figure rfl (by decide) (by decide) (Nat.le_of_ble_eq_true rfl) rfl qX10_84 rfl rfl (by decide) sh33 (kX10_figure l D ((3 + (9 * (nI k1_63))) + 6) s_63 (house_at (m := 6) (by omega) (by decide))) ?_
              refine j_aload_n F dX10_house_140 141 rfl 0 rfl ?_
              refine j_iload_n F dX10_house_141 142 rfl 2 rfl ?_
              refine j_bipush (v := 7) F dX10_house_142 144 rfl (by decide) ?_
              refine j_iadd F dX10_house_144 145 rfl ?_
              refine j_callVr (as := [.int ((3 + (9 * (nI k1_63))) + 7)]) (st := [.int (fX10_figure s_63 ((3 + (9 * (nI k1_63))) + 6)), .int (fX10_figure s_63 ((3 + (9 * (nI k1_63))) + 5)), .int (fX10_figure s_63 ((3 + (9 * (nI k1_63))) + 4)), .int x3_112, .int (nI k1_63), .ref (D.2.1 34)]) (r := .int (fX10_figure s_63 ((3 + (9 * (nI k1_63))) + 7))) (σ9 := s_63) F zX10_figure dX10_house_145 148 rfl pX10_figure rfl (by decide) (by decide) (Nat.le_of_ble_eq_true rfl) rfl qX10_84 rfl rfl (by decide) sh33 (kX10_figure l D ((3 + (9 * (nI k1_63))) + 7) s_63 (house_at (m := 7) (by omega) (by decide))) ?_
              refine j_callSr (as := [.int x3_112, .int (fX10_figure s_63 ((3 + (9 * (nI k1_63))) + 4)), .int (fX10_figure s_63 ((3 + (9 * (nI k1_63))) + 5)), .int (fX10_figure s_63 ((3 + (9 * (nI k1_63))) + 6)), .int (fX10_figure s_63 ((3 + (9 * (nI k1_63))) + 7))]) (st := [.int (nI k1_63), .ref (D.2.1 34)]) (r := .int (fX10_code x3_112 (fX10_figure s_63 ((3 + (9 * (nI k1_63))) + 4)) (fX10_figure s_63 ((3 + (9 * (nI k1_63))) + 5)) (fX10_figure s_63 ((3 + (9 * (nI k1_63))) + 6)) (fX10_figure s_63 ((3 + (9 * (nI k1_63))) + 7)))) (σ9 := s_63) F zX10_code dX10_house_148 151 rfl pX10_code rfl (by decide) (by decide) (Nat.le_of_ble_eq_true rfl) rfl qX10_88 (kX10_code l D x3_112 (fX10_figure s_63 ((3 + (9 * (nI k1_63))) + 4)) (fX10_figure s_63 ((3 + (9 * (nI k1_63))) + 5)) (fX10_figure s_63 ((3 + (9 * (nI k1_63))) + 6)) (fX10_figure s_63 ((3 + (9 * (nI k1_63))) + 7)) s_63) ?_
              refine j_iast_n F dX10_house_151 152 rfl ia34 k1_63 rfl (by omega) ?_
              refine j_iinc F dX10_house_152 155 rfl 1 rfl (nI (k1_63 + 1)) (nI_inc k1_63) (by decide) [(1, .int (nI (k1_63 + 1))), (0, .ref (D.2.1 33)), (2, .int (3 + (9 * (nI k1_63)))), (3, .int x3_112)] rfl ?_
              refine j_goto F dX10_house_155 63 (by decide) ?_
              refine j_pick [1, 0] [(0, .ref (D.2.1 33)), (1, .int (nI (k1_63 + 1)))] rfl ?_
              exact ih_63 (up s_63 34 k1_63 (fX10_code x3_112 (fX10_figure s_63 ((3 + (9 * (nI k1_63))) + 4)) (fX10_figure s_63 ((3 + (9 * (nI k1_63))) + 5)) (fX10_figure s_63 ((3 + (9 * (nI k1_63))) + 6)) (fX10_figure s_63 ((3 + (9 * (nI k1_63))) + 7)))) (k1_63 + 1) (by omega) (by omega) (by rw [up_n (by omega)]; exact hi_63)
            have lp_86 : ∀ (n_86 : Nat) (x3_86 : Int32) (k4_86 : Nat), k4_86 ≤ 4 → 4 < k4_86 + n_86 → JJ X 5 D s_63 86 [(0, .ref (D.2.1 33)), (1, .int (nI k1_63)), (2, .int (3 + (9 * (nI k1_63)))), (3, .int x3_86), (4, .int (nI k4_86))] [] (QQ X D (some (.int (fX10_house_86 (fX10_house_63 n_63) n_86 s_63 k1_63 (3 + (9 * (nI k1_63))) x3_86 k4_86).1), (fX10_house_86 (fX10_house_63 n_63) n_86 s_63 k1_63 (3 + (9 * (nI k1_63))) x3_86 k4_86).2)) := by
              intro n_86
              induction n_86 with
              | zero => intro x3_86 k4_86 hk_86 hn_86; exact absurd hn_86 (by omega)
              | succ n_86 ih_86 =>
                intro x3_86 k4_86 hk_86 hn_86
                rw [fX10_house_86]
                refine j_iload F dX10_house_86 88 rfl 4 rfl ?_
                refine j_iconst (v := 4) F dX10_house_88 89 rfl (by decide) ?_
                refine j_icmp_ge F dX10_house_89 112 (by decide) 92 rfl (fun c_89 => ?_) (fun c_89 => ?_)
                · rw [if_pos c_89]
                  have h_89 : k4_86 < 4 := nlt c_89 (by decide) (by omega)
                  refine j_bipush (v := 10) F dX10_house_92 94 rfl (by decide) ?_
                  refine j_iload_n F dX10_house_94 95 rfl 3 rfl ?_
                  refine j_imul F dX10_house_95 96 rfl ?_
                  refine j_aload_n F dX10_house_96 97 rfl 0 rfl ?_
                  refine j_iload_n F dX10_house_97 98 rfl 2 rfl ?_
                  refine j_iload F dX10_house_98 100 rfl 4 rfl ?_
                  refine j_iadd F dX10_house_100 101 rfl ?_
                  refine j_callVr (as := [.int ((3 + (9 * (nI k1_63))) + (nI k4_86))]) (st := [.int (10 * x3_86)]) (r := .int (fX10_figure s_63 ((3 + (9 * (nI k1_63))) + (nI k4_86)))) (σ9 := s_63) F zX10_figure dX10_house_101 104 rfl pX10_figure rfl (by decide) (by decide) (Nat.le_of_ble_eq_true rfl) rfl qX10_84 rfl rfl (by decide) sh33 (kX10_figure l D ((3 + (9 * (nI k1_63))) + (nI k4_86)) s_63 (house_at (by omega) (by omega))) ?_
                  refine j_iadd F dX10_house_104 105 rfl ?_
                  refine j_istore_n F dX10_house_105 106 rfl 3 rfl (by decide) [(3, .int ((10 * x3_86) + (fX10_figure s_63 ((3 + (9 * (nI k1_63))) + (nI k4_86))))), (0, .ref (D.2.1 33)), (1, .int (nI k1_63)), (2, .int (3 + (9 * (nI k1_63)))), (4, .int (nI k4_86))] rfl ?_
                  refine j_iinc F dX10_house_106 109 rfl 4 rfl (nI (k4_86 + 1)) (nI_inc k4_86) (by decide) [(4, .int (nI (k4_86 + 1))), (3, .int ((10 * x3_86) + (fX10_figure s_63 ((3 + (9 * (nI k1_63))) + (nI k4_86))))), (0, .ref (D.2.1 33)), (1, .int (nI k1_63)), (2, .int (3 + (9 * (nI k1_63))))] rfl ?_
                  refine j_goto F dX10_house_109 86 (by decide) ?_
                  refine j_pick [2, 3, 4, 1, 0] [(0, .ref (D.2.1 33)), (1, .int (nI k1_63)), (2, .int (3 + (9 * (nI k1_63)))), (3, .int ((10 * x3_86) + (fX10_figure s_63 ((3 + (9 * (nI k1_63))) + (nI k4_86))))), (4, .int (nI (k4_86 + 1)))] rfl ?_
                  exact ih_86 ((10 * x3_86) + (fX10_figure s_63 ((3 + (9 * (nI k1_63))) + (nI k4_86)))) (k4_86 + 1) (by omega) (by omega)
                · rw [if_neg c_89]
                  refine j_pick [0, 1, 2, 3] [(0, .ref (D.2.1 33)), (1, .int (nI k1_63)), (2, .int (3 + (9 * (nI k1_63)))), (3, .int x3_86)] rfl ?_
                  exact hx_112 x3_86
            refine j_pick [3, 4, 2, 1, 0] [(0, .ref (D.2.1 33)), (1, .int (nI k1_63)), (2, .int (3 + (9 * (nI k1_63)))), (3, .int 0), (4, .int 0)] rfl ?_
            exact lp_86 5 0 0 (by omega) (by omega)
          · rw [if_neg c_71]
            refine j_pick [0] [(0, .ref (D.2.1 33))] rfl ?_
            exact hx_158 s_63
      refine j_pick [1, 0] [(0, .ref (D.2.1 33)), (1, .int 0)] rfl ?_
      exact lp_63 (mX10_house_63 (up (up s_33 34 11 (fX10_figure s_33 1)) 34 13 ((((up s_33 34 11 (fX10_figure s_33 1)).1 33 2) - 2) / 9)) + 1) (up (up s_33 34 11 (fX10_figure s_33 1)) 34 13 ((((up s_33 34 11 (fX10_figure s_33 1)).1 33 2) - 2) / 9)) 0 (Nat.zero_le _) (by have e9 : (up (up s_33 34 11 (fX10_figure s_33 1)) 34 13 ((((up s_33 34 11 (fX10_figure s_33 1)).1 33 2) - 2) / 9)).1 34 13 = ((σ.1 33 2) - 2) / 9 := (by rw [up_e, up_k (by decide), hn_33]); show (((((σ.1 33 2) - 2) / 9) : Int32).toNatClampNeg) < 0 + (((((up (up s_33 34 11 (fX10_figure s_33 1)) 34 13 ((((up s_33 34 11 (fX10_figure s_33 1)).1 33 2) - 2) / 9)).1 34 13) : Int32).toNatClampNeg) + 1); rw [e9]; omega) (by rw [up_e, up_k (by decide), hn_33])
    have lp_14 : ∀ (n_14 : Nat) (s_14 : Mm) (k1_14 : Nat), k1_14 ≤ 14 → 14 < k1_14 + n_14 → s_14.1 33 2 = σ.1 33 2 → JJ X 5 D s_14 14 [(0, .ref (D.2.1 33)), (1, .int (nI k1_14))] [] (QQ X D (some (.int (fX10_house_14 n_14 s_14 k1_14).1), (fX10_house_14 n_14 s_14 k1_14).2)) := by
      intro n_14
      induction n_14 with
      | zero => intro s_14 k1_14 hk_14 hn_14 hi_14; exact absurd hn_14 (by omega)
      | succ n_14 ih_14 =>
        intro s_14 k1_14 hk_14 hn_14 hi_14
        rw [fX10_house_14]
        refine j_iload_n F dX10_house_14 15 rfl 1 rfl ?_
        refine j_bipush (v := 14) F dX10_house_15 17 rfl (by decide) ?_
        refine j_icmp_ge F dX10_house_17 33 (by decide) 20 rfl (fun c_17 => ?_) (fun c_17 => ?_)
        · rw [if_pos c_17]
          have h_17 : k1_14 < 14 := nlt c_17 (by decide) (by omega)
          refine j_aload_n F dX10_house_20 21 rfl 0 rfl ?_
          refine j_get (j := 0) F dX10_house_21 24 rfl inX10 rfl (by decide) sh33 (by decide) qX10_7 rfl ?_
          refine j_iload_n F dX10_house_24 25 rfl 1 rfl ?_
          refine j_iconst (v := 0) F dX10_house_25 26 rfl (by decide) ?_
          refine j_iast_n F dX10_house_26 27 rfl ia34 k1_14 rfl (by omega) ?_
          refine j_iinc F dX10_house_27 30 rfl 1 rfl (nI (k1_14 + 1)) (nI_inc k1_14) (by decide) [(1, .int (nI (k1_14 + 1))), (0, .ref (D.2.1 33))] rfl ?_
          refine j_goto F dX10_house_30 14 (by decide) ?_
          refine j_pick [1, 0] [(0, .ref (D.2.1 33)), (1, .int (nI (k1_14 + 1)))] rfl ?_
          exact ih_14 (up s_14 34 k1_14 0) (k1_14 + 1) (by omega) (by omega) (by exact hi_14)
        · rw [if_neg c_17]
          refine j_pick [0] [(0, .ref (D.2.1 33))] rfl ?_
          exact hx_33 s_14 hi_14
    refine j_pick [1, 0] [(0, .ref (D.2.1 33)), (1, .int 0)] rfl ?_
    exact lp_14 15 σ 0 (by omega) (by omega) rfl
def mX10_judge_64 (a1 : Int32) (a2 : Int32)  : Nat := (a1 : Int32).toNatClampNeg
def fX10_judge_64 (a1 : Int32) (a2 : Int32)  : Nat → Mm → Nat → Int32 × Mm
  | 0, s_64, _ => (0, s_64)
  | n + 1, s_64, k3_64 => if (nI k3_64) < a1 then (if (fX10_isThing s_64 (rm (a2 / (fX10_tenTo ((2 * (a1 - (nI k3_64))) - 2))) 10)) = true then (if (fX10_can s_64 (rm (a2 / (fX10_tenTo ((2 * (a1 - (nI k3_64))) - 1))) 10) (rm (a2 / (fX10_tenTo ((2 * (a1 - (nI k3_64))) - 2))) 10)) = true then (fX10_judge_64 a1 a2 n (fX10_make s_64 (rm (a2 / (fX10_tenTo ((2 * (a1 - (nI k3_64))) - 1))) 10) (rm (a2 / (fX10_tenTo ((2 * (a1 - (nI k3_64))) - 2))) 10)) (k3_64 + 1)) else (((nI k3_64), s_64))) else (((nI k3_64), s_64))) else (((-9), s_64))
def fX10_judge_62 (a1 : Int32) (a2 : Int32)  (s_62 : Mm) : Int32 × Mm := fX10_judge_64 a1 a2 (mX10_judge_64 a1 a2 + 1) s_62 0
def fX10_judge_35 (a1 : Int32) (a2 : Int32)  : Nat → Mm → Nat → Int32 × Mm
  | 0, s_35, _ => (0, s_35)
  | n + 1, s_35, k3_35 => if (nI k3_35) < 14 then (fX10_judge_35 a1 a2 n (up s_35 34 (14 + k3_35) (s_35.1 34 k3_35)) (k3_35 + 1)) else (fX10_judge_62 a1 a2 s_35)
def fX10_judge (σ : Mm) (a1 : Int32) (a2 : Int32) : Int32 × Mm := if (fX10_in (a1.toInt64) 1 4) = true then (if (fX10_in (a2.toInt64) 0 (((fX10_tenTo (2 * a1)) - 1).toInt64)) = true then (fX10_judge_35 a1 a2 15 σ 0) else (((-2), σ))) else (((-2), σ))
set_option maxRecDepth 20000 in
theorem kX10_judge (l : Launch) (D : Dm) (a1 : Int32) (a2 : Int32) (σ : Mm) (hM : vp_in (σ.1 34 13) 9) : Ct l yX10_judge cX10_judge 6 (some .int) 8 D [.ref (D.2.1 33), .int a1, .int a2] σ (some (.int (fX10_judge σ a1 a2).1), (fX10_judge σ a1 a2).2) := by
  refine ct_of (by decide +kernel) (Nat.le_of_ble_eq_true rfl) (fun X F => ?_)
  have F : Fx X l 6 D cX10_judge RX10 8 (some .int) := F
  show JJ X 6 D σ 0 [(0, .ref (D.2.1 33)), (1, .int a1), (2, .int a2)] [] (QQ X D (some (.int (fX10_judge σ a1 a2).1), (fX10_judge σ a1 a2).2))
  rw [fX10_judge]
  refine j_iload_n F dX10_judge_0 1 rfl 1 rfl ?_
  refine j_i2l F dX10_judge_1 2 rfl ?_
  refine j_lconst (v := 1) F dX10_judge_2 3 rfl (by decide) ?_
  refine j_ldc2 F dX10_judge_3 6 rfl qX10_181 ?_
  refine j_callSr (as := [.long (a1.toInt64), .long 1, .long 4]) (st := []) (r := .int (bi (fX10_in (a1.toInt64) 1 4))) (σ9 := σ) F zX10_in dX10_judge_6 9 rfl pX10_in rfl (by decide) (by decide) (Nat.le_of_ble_eq_true rfl) rfl qX10_58 (kX10_in l D (a1.toInt64) 1 4 σ) ?_
  refine j_ifb_eq F dX10_judge_9 30 (by decide) 12 rfl (fun c_9 => ?_) (fun c_9 => ?_)
  · rw [if_pos c_9]
    refine j_iload_n F dX10_judge_12 13 rfl 2 rfl ?_
    refine j_i2l F dX10_judge_13 14 rfl ?_
    refine j_lconst (v := 0) F dX10_judge_14 15 rfl (by decide) ?_
    refine j_iconst (v := 2) F dX10_judge_15 16 rfl (by decide) ?_
    refine j_iload_n F dX10_judge_16 17 rfl 1 rfl ?_
    refine j_imul F dX10_judge_17 18 rfl ?_
    refine j_callSr (as := [.int (2 * a1)]) (st := [.long 0, .long (a2.toInt64)]) (r := .int (fX10_tenTo (2 * a1))) (σ9 := σ) F zX10_tenTo dX10_judge_18 21 rfl pX10_tenTo rfl (by decide) (by decide) (Nat.le_of_ble_eq_true rfl) rfl qX10_98 (kX10_tenTo l D (2 * a1) σ) ?_
    refine j_iconst (v := 1) F dX10_judge_21 22 rfl (by decide) ?_
    refine j_isub F dX10_judge_22 23 rfl ?_
    refine j_i2l F dX10_judge_23 24 rfl ?_
    refine j_callSr (as := [.long (a2.toInt64), .long 0, .long (((fX10_tenTo (2 * a1)) - 1).toInt64)]) (st := []) (r := .int (bi (fX10_in (a2.toInt64) 0 (((fX10_tenTo (2 * a1)) - 1).toInt64)))) (σ9 := σ) F zX10_in dX10_judge_24 27 rfl pX10_in rfl (by decide) (by decide) (Nat.le_of_ble_eq_true rfl) rfl qX10_58 (kX10_in l D (a2.toInt64) 0 (((fX10_tenTo (2 * a1)) - 1).toInt64) σ) ?_
    refine j_ifb_ne F dX10_judge_27 33 (by decide) 30 rfl (fun c_27 => ?_) (fun c_27 => ?_)
    · rw [if_neg c_27]
      refine j_bipush (v := (-2)) F dX10_judge_30 32 rfl (by decide) ?_
      exact j_ret_i F dX10_judge_32 rfl rfl rfl
    · rw [if_pos c_27]
      refine j_iconst (v := 0) F dX10_judge_33 34 rfl (by decide) ?_
      refine j_istore_n F dX10_judge_34 35 rfl 3 rfl (by decide) [(3, .int 0), (0, .ref (D.2.1 33)), (1, .int a1), (2, .int a2)] rfl ?_
      have hx_62 : ∀ (s_62 : Mm), s_62.1 34 13 = σ.1 34 13 → JJ X 6 D s_62 62 [(0, .ref (D.2.1 33)), (1, .int a1), (2, .int a2)] [] (QQ X D (some (.int (fX10_judge_62 a1 a2 s_62).1), (fX10_judge_62 a1 a2 s_62).2)) := by
        intro s_62 hn_62
        rw [fX10_judge_62]
        refine j_iconst (v := 0) F dX10_judge_62 63 rfl (by decide) ?_
        refine j_istore_n F dX10_judge_63 64 rfl 3 rfl (by decide) [(3, .int 0), (0, .ref (D.2.1 33)), (1, .int a1), (2, .int a2)] rfl ?_
        have lp_64 : ∀ (n_64 : Nat) (s_64 : Mm) (k3_64 : Nat), k3_64 ≤ ((a1 : Int32).toNatClampNeg) → ((a1 : Int32).toNatClampNeg) < k3_64 + n_64 → s_64.1 34 13 = σ.1 34 13 → JJ X 6 D s_64 64 [(0, .ref (D.2.1 33)), (1, .int a1), (2, .int a2), (3, .int (nI k3_64))] [] (QQ X D (some (.int (fX10_judge_64 a1 a2 n_64 s_64 k3_64).1), (fX10_judge_64 a1 a2 n_64 s_64 k3_64).2)) := by
          intro n_64
          induction n_64 with
          | zero => intro s_64 k3_64 hk_64 hn_64 hi_64; exact absurd hn_64 (by omega)
          | succ n_64 ih_64 =>
            intro s_64 k3_64 hk_64 hn_64 hi_64
            rw [fX10_judge_64]
            refine j_iload_n F dX10_judge_64 65 rfl 3 rfl ?_
            refine j_iload_n F dX10_judge_65 66 rfl 1 rfl ?_
            refine j_icmp_ge F dX10_judge_66 139 (by decide) 69 rfl (fun c_66 => ?_) (fun c_66 => ?_)
            · rw [if_pos c_66]
              have h_66 : k3_64 < ((a1 : Int32).toNatClampNeg) := nltd c_66 hk_64
              refine j_iload_n F dX10_judge_69 70 rfl 2 rfl ?_
              refine j_iconst (v := 2) F dX10_judge_70 71 rfl (by decide) ?_
              refine j_iload_n F dX10_judge_71 72 rfl 1 rfl ?_
              refine j_iload_n F dX10_judge_72 73 rfl 3 rfl ?_
              refine j_isub F dX10_judge_73 74 rfl ?_
              refine j_imul F dX10_judge_74 75 rfl ?_
              refine j_iconst (v := 1) F dX10_judge_75 76 rfl (by decide) ?_
              refine j_isub F dX10_judge_76 77 rfl ?_
              refine j_callSr (as := [.int ((2 * (a1 - (nI k3_64))) - 1)]) (st := [.int a2]) (r := .int (fX10_tenTo ((2 * (a1 - (nI k3_64))) - 1))) (σ9 := s_64) F zX10_tenTo dX10_judge_77 80 rfl pX10_tenTo rfl (by decide) (by decide) (Nat.le_of_ble_eq_true rfl) rfl qX10_98 (kX10_tenTo l D ((2 * (a1 - (nI k3_64))) - 1) s_64) ?_
              refine j_idiv F dX10_judge_80 81 rfl (tenTo_ne9 (judge_1 c_9 h_66)) ?_
              refine j_bipush (v := 10) F dX10_judge_81 83 rfl (by decide) ?_
              refine j_irem F dX10_judge_83 84 rfl (by decide) ?_
              refine j_istore F dX10_judge_84 86 rfl (by decide) [(4, .int (rm (a2 / (fX10_tenTo ((2 * (a1 - (nI k3_64))) - 1))) 10)), (0, .ref (D.2.1 33)), (1, .int a1), (2, .int a2), (3, .int (nI k3_64))] rfl ?_
              refine j_iload_n F dX10_judge_86 87 rfl 3 rfl ?_
              refine j_iconst (v := 2) F dX10_judge_87 88 rfl (by decide) ?_
              refine j_iload_n F dX10_judge_88 89 rfl 2 rfl ?_
              refine j_iload_n F dX10_judge_89 90 rfl 4 rfl ?_
              refine j_isub F dX10_judge_90 91 rfl ?_
              refine j_imul F dX10_judge_91 92 rfl ?_
              refine j_iconst (v := 2) F dX10_judge_92 93 rfl (by decide) ?_
              refine j_isub F dX10_judge_93 94 rfl ?_
              refine j_callSr (as := [.int ((2 * (a1 - (nI k3_64))) - 2)]) (st := [.int a2]) (r := .int (fX10_tenTo ((2 * (a1 - (nI k3_64))) - 2))) (σ9 := s_64) F zX10_tenTo dX10_judge_94 97 rfl pX10_tenTo rfl (by decide) (by decide) (Nat.le_of_ble_eq_true rfl) rfl qX10_98 (kX10_tenTo l D ((2 * (a1 - (nI k3_64))) - 2) s_64) ?_
              refine j_idiv F dX10_judge_97 98 rfl (tenTo_ne9 (judge_2 c_9 h_66)) ?_
              refine j_bipush (v := 10) F dX10_judge_98 100 rfl (by decide) ?_
              refine j_irem F dX10_judge_100 101 rfl (by decide) ?_
              refine j_istore F dX10_judge_101 103 rfl (by decide) [(5, .int (rm (a2 / (fX10_tenTo ((2 * (a1 - (nI k3_64))) - 2))) 10)), (4, .int (rm (a2 / (fX10_tenTo ((2 * (a1 - (nI k3_64))) - 1))) 10)), (0, .ref (D.2.1 33)), (1, .int a1), (2, .int a2), (3, .int (nI k3_64))] rfl ?_
              have hM64 : vp_in (s_64.1 34 13) 9 := by rw [hi_64]; exact hM
              refine j_aload_n F dX10_judge_103 104 rfl 2 rfl ?_
              refine j_iload F dX10_judge_104 106 rfl 0 rfl ?_
              refine j_callVr (as := [.int (rm (a2 / (fX10_tenTo ((2 * (a1 - (nI k3_64))) - 2))) 10)]) (st := []) (r := .int (bi (fX10_isThing s_64 (rm (a2 / (fX10_tenTo ((2 * (a1 - (nI k3_64))) - 2))) 10)))) (σ9 := s_64) F zX10_isThing dX10_judge_106 109 rfl pX10_isThing rfl (by decide) (by decide) (Nat.le_of_ble_eq_true rfl) rfl qX10_128 rfl rfl (by decide) sh33 (kX10_isThing l D (rm (a2 / (fX10_tenTo ((2 * (a1 - (nI k3_64))) - 2))) 10) s_64) ?_
              refine j_ifb_eq F dX10_judge_109 123 (by decide) 112 rfl (fun c_109 => ?_) (fun c_109 => ?_)
              · rw [if_pos c_109]
                refine j_aload_n F dX10_judge_112 113 rfl 2 rfl ?_
                refine j_iload F dX10_judge_113 115 rfl 1 rfl ?_
                refine j_iload F dX10_judge_115 117 rfl 0 rfl ?_
                refine j_callVr (as := [.int (rm (a2 / (fX10_tenTo ((2 * (a1 - (nI k3_64))) - 1))) 10), .int (rm (a2 / (fX10_tenTo ((2 * (a1 - (nI k3_64))) - 2))) 10)]) (st := []) (r := .int (bi (fX10_can s_64 (rm (a2 / (fX10_tenTo ((2 * (a1 - (nI k3_64))) - 1))) 10) (rm (a2 / (fX10_tenTo ((2 * (a1 - (nI k3_64))) - 2))) 10)))) (σ9 := s_64) F zX10_can dX10_judge_117 120 rfl pX10_can rfl (by decide) (by decide) (Nat.le_of_ble_eq_true rfl) rfl qX10_183 rfl rfl (by decide) sh33 (kX10_can l D (rm (a2 / (fX10_tenTo ((2 * (a1 - (nI k3_64))) - 1))) 10) (rm (a2 / (fX10_tenTo ((2 * (a1 - (nI k3_64))) - 2))) 10) s_64 (by first | assumption | exact isThing_in (by assumption) (by assumption) | exact vin_mono (by assumption) (by decide) | omega | decide) (by first | assumption | exact isThing_in (by assumption) (by assumption) | exact vin_mono (by assumption) (by decide) | omega | decide)) ?_
                refine j_ifb_ne F dX10_judge_120 125 (by decide) 123 rfl (fun c_120 => ?_) (fun c_120 => ?_)
                · rw [if_neg c_120]
                  refine j_iload_n F dX10_judge_123 124 rfl 5 rfl ?_
                  exact j_ret_i F dX10_judge_124 rfl rfl rfl
                · rw [if_pos c_120]
                  refine j_aload_n F dX10_judge_125 126 rfl 2 rfl ?_
                  refine j_iload F dX10_judge_126 128 rfl 1 rfl ?_
                  refine j_iload F dX10_judge_128 130 rfl 0 rfl ?_
                  refine j_callVv (as := [.int (rm (a2 / (fX10_tenTo ((2 * (a1 - (nI k3_64))) - 1))) 10), .int (rm (a2 / (fX10_tenTo ((2 * (a1 - (nI k3_64))) - 2))) 10)]) (st := []) (σ9 := (fX10_make s_64 (rm (a2 / (fX10_tenTo ((2 * (a1 - (nI k3_64))) - 1))) 10) (rm (a2 / (fX10_tenTo ((2 * (a1 - (nI k3_64))) - 2))) 10))) F zX10_make dX10_judge_130 133 rfl pX10_make rfl (by decide) (by decide) (Nat.le_of_ble_eq_true rfl) rfl qX10_186 rfl rfl (by decide) sh33 (kX10_make l D (rm (a2 / (fX10_tenTo ((2 * (a1 - (nI k3_64))) - 1))) 10) (rm (a2 / (fX10_tenTo ((2 * (a1 - (nI k3_64))) - 2))) 10) s_64 (by first | assumption | exact isThing_in (by assumption) (by assumption) | exact vin_mono (by assumption) (by decide) | omega | decide) (by first | assumption | exact isThing_in (by assumption) (by assumption) | exact vin_mono (by assumption) (by decide) | omega | decide)) ?_
                  refine j_iinc F dX10_judge_133 136 rfl 5 rfl (nI (k3_64 + 1)) (nI_inc k3_64) (by decide) [(3, .int (nI (k3_64 + 1))), (5, .int (rm (a2 / (fX10_tenTo ((2 * (a1 - (nI k3_64))) - 2))) 10)), (4, .int (rm (a2 / (fX10_tenTo ((2 * (a1 - (nI k3_64))) - 1))) 10)), (0, .ref (D.2.1 33)), (1, .int a1), (2, .int a2)] rfl ?_
                  refine j_goto F dX10_judge_136 64 (by decide) ?_
                  refine j_pick [3, 4, 5, 0] [(0, .ref (D.2.1 33)), (1, .int a1), (2, .int a2), (3, .int (nI (k3_64 + 1)))] rfl ?_
                  exact ih_64 (fX10_make s_64 (rm (a2 / (fX10_tenTo ((2 * (a1 - (nI k3_64))) - 1))) 10) (rm (a2 / (fX10_tenTo ((2 * (a1 - (nI k3_64))) - 2))) 10)) (k3_64 + 1) (by omega) (by omega) (by rw [make_13 (isThing_in c_109 hM64)]; exact hi_64)
              · rw [if_neg c_109]
                refine j_iload_n F dX10_judge_123 124 rfl 5 rfl ?_
                exact j_ret_i F dX10_judge_124 rfl rfl rfl
            · rw [if_neg c_66]
              refine j_bipush (v := (-9)) F dX10_judge_139 141 rfl (by decide) ?_
              exact j_ret_i F dX10_judge_141 rfl rfl rfl
        refine j_pick [1, 2, 3, 0] [(0, .ref (D.2.1 33)), (1, .int a1), (2, .int a2), (3, .int 0)] rfl ?_
        exact lp_64 (mX10_judge_64 a1 a2 + 1) s_62 0 (Nat.zero_le _) (by show ((a1 : Int32).toNatClampNeg) < 0 + (((a1 : Int32).toNatClampNeg) + 1); omega) hn_62
      have lp_35 : ∀ (n_35 : Nat) (s_35 : Mm) (k3_35 : Nat), k3_35 ≤ 14 → 14 < k3_35 + n_35 → s_35.1 34 13 = σ.1 34 13 → JJ X 6 D s_35 35 [(0, .ref (D.2.1 33)), (1, .int a1), (2, .int a2), (3, .int (nI k3_35))] [] (QQ X D (some (.int (fX10_judge_35 a1 a2 n_35 s_35 k3_35).1), (fX10_judge_35 a1 a2 n_35 s_35 k3_35).2)) := by
        intro n_35
        induction n_35 with
        | zero => intro s_35 k3_35 hk_35 hn_35 hi_35; exact absurd hn_35 (by omega)
        | succ n_35 ih_35 =>
          intro s_35 k3_35 hk_35 hn_35 hi_35
          rw [fX10_judge_35]
          refine j_iload_n F dX10_judge_35 36 rfl 3 rfl ?_
          refine j_bipush (v := 14) F dX10_judge_36 38 rfl (by decide) ?_
          refine j_icmp_ge F dX10_judge_38 62 (by decide) 41 rfl (fun c_38 => ?_) (fun c_38 => ?_)
          · rw [if_pos c_38]
            have h_38 : k3_35 < 14 := nlt c_38 (by decide) (by omega)
            refine j_aload_n F dX10_judge_41 42 rfl 0 rfl ?_
            refine j_get (j := 0) F dX10_judge_42 45 rfl inX10 rfl (by decide) sh33 (by decide) qX10_7 rfl ?_
            refine j_bipush (v := 14) F dX10_judge_45 47 rfl (by decide) ?_
            refine j_iload_n F dX10_judge_47 48 rfl 3 rfl ?_
            refine j_iadd F dX10_judge_48 49 rfl ?_
            refine j_aload_n F dX10_judge_49 50 rfl 0 rfl ?_
            refine j_get (j := 0) F dX10_judge_50 53 rfl inX10 rfl (by decide) sh33 (by decide) qX10_7 rfl ?_
            refine j_iload_n F dX10_judge_53 54 rfl 3 rfl ?_
            refine j_iald_n F dX10_judge_54 55 rfl ia34 k3_35 rfl (by omega) ?_
            refine j_iast_n F dX10_judge_55 56 rfl ia34 (14 + k3_35) (ne_add rfl rfl) (by omega) ?_
            refine j_iinc F dX10_judge_56 59 rfl 3 rfl (nI (k3_35 + 1)) (nI_inc k3_35) (by decide) [(3, .int (nI (k3_35 + 1))), (0, .ref (D.2.1 33)), (1, .int a1), (2, .int a2)] rfl ?_
            refine j_goto F dX10_judge_59 35 (by decide) ?_
            refine j_pick [1, 2, 3, 0] [(0, .ref (D.2.1 33)), (1, .int a1), (2, .int a2), (3, .int (nI (k3_35 + 1)))] rfl ?_
            exact ih_35 (up s_35 34 (14 + k3_35) (s_35.1 34 k3_35)) (k3_35 + 1) (by omega) (by omega) (by rw [up_n (by omega)]; exact hi_35)
          · rw [if_neg c_38]
            refine j_pick [0, 1, 2] [(0, .ref (D.2.1 33)), (1, .int a1), (2, .int a2)] rfl ?_
            exact hx_62 s_35 hi_35
      refine j_pick [1, 2, 3, 0] [(0, .ref (D.2.1 33)), (1, .int a1), (2, .int a2), (3, .int 0)] rfl ?_
      exact lp_35 15 σ 0 (by omega) (by omega) rfl
  · rw [if_neg c_9]
    refine j_bipush (v := (-2)) F dX10_judge_30 32 rfl (by decide) ?_
    exact j_ret_i F dX10_judge_32 rfl rfl rfl
def fX10_word_41 (a1 : Int32)  (s_41 : Mm) : Int32 × Mm := (((s_41.1 34 10) &&& ((fX10_last s_41) ^^^ (-1))), (up s_41 34 10 ((s_41.1 34 10) &&& (((s_41.1 34 10) &&& ((fX10_last s_41) ^^^ (-1))) ^^^ (-1)))))
def fX10_word (σ : Mm) (a1 : Int32) : Int32 × Mm := if (fX10_in (a1.toInt64) 1 4) = true then (if a1 = (σ.1 34 11) then (((-3), σ)) else (fX10_word_41 a1 (up (fX10_keepAct σ) 34 11 a1))) else (((-2), σ))
set_option maxRecDepth 20000 in
theorem kX10_word (l : Launch) (D : Dm) (a1 : Int32) (σ : Mm) (hM : vp_in (σ.1 34 13) 9) (hx : vp_in (σ.1 33 4) 16) : Ct l yX10_word cX10_word 3 (some .int) 7 D [.ref (D.2.1 33), .int a1] σ (some (.int (fX10_word σ a1).1), (fX10_word σ a1).2) := by
  refine ct_of (by decide +kernel) (Nat.le_of_ble_eq_true rfl) (fun X F => ?_)
  have F : Fx X l 3 D cX10_word RX10 7 (some .int) := F
  show JJ X 3 D σ 0 [(0, .ref (D.2.1 33)), (1, .int a1)] [] (QQ X D (some (.int (fX10_word σ a1).1), (fX10_word σ a1).2))
  rw [fX10_word]
  refine j_iload_n F dX10_word_0 1 rfl 1 rfl ?_
  refine j_i2l F dX10_word_1 2 rfl ?_
  refine j_lconst (v := 1) F dX10_word_2 3 rfl (by decide) ?_
  refine j_ldc2 F dX10_word_3 6 rfl qX10_181 ?_
  refine j_callSr (as := [.long (a1.toInt64), .long 1, .long 4]) (st := []) (r := .int (bi (fX10_in (a1.toInt64) 1 4))) (σ9 := σ) F zX10_in dX10_word_6 9 rfl pX10_in rfl (by decide) (by decide) (Nat.le_of_ble_eq_true rfl) rfl qX10_58 (kX10_in l D (a1.toInt64) 1 4 σ) ?_
  refine j_ifb_ne F dX10_word_9 15 (by decide) 12 rfl (fun c_9 => ?_) (fun c_9 => ?_)
  · rw [if_neg c_9]
    refine j_bipush (v := (-2)) F dX10_word_12 14 rfl (by decide) ?_
    exact j_ret_i F dX10_word_14 rfl rfl rfl
  · rw [if_pos c_9]
    refine j_iload_n F dX10_word_15 16 rfl 1 rfl ?_
    refine j_aload_n F dX10_word_16 17 rfl 0 rfl ?_
    refine j_get (j := 0) F dX10_word_17 20 rfl inX10 rfl (by decide) sh33 (by decide) qX10_7 rfl ?_
    refine j_bipush (v := 11) F dX10_word_20 22 rfl (by decide) ?_
    refine j_iald_n F dX10_word_22 23 rfl ia34 11 rfl (by decide) ?_
    refine j_icmp_ne F dX10_word_23 29 (by decide) 26 rfl (fun c_23 => ?_) (fun c_23 => ?_)
    · rw [if_pos c_23]
      refine j_bipush (v := (-3)) F dX10_word_26 28 rfl (by decide) ?_
      exact j_ret_i F dX10_word_28 rfl rfl rfl
    · rw [if_neg c_23]
      refine j_aload_n F dX10_word_29 30 rfl 0 rfl ?_
      refine j_callVv (as := []) (st := []) (σ9 := (fX10_keepAct σ)) F zX10_keepAct dX10_word_30 33 rfl pX10_keepAct rfl (by decide) (by decide) (Nat.le_of_ble_eq_true rfl) rfl qX10_162 rfl rfl (by decide) sh33 (kX10_keepAct l D σ (by first | assumption | exact isThing_in (by assumption) (by assumption) | exact vin_mono (by assumption) (by decide) | omega | decide)) ?_
      refine j_aload_n F dX10_word_33 34 rfl 0 rfl ?_
      refine j_get (j := 0) F dX10_word_34 37 rfl inX10 rfl (by decide) sh33 (by decide) qX10_7 rfl ?_
      refine j_bipush (v := 11) F dX10_word_37 39 rfl (by decide) ?_
      refine j_iload_n F dX10_word_39 40 rfl 1 rfl ?_
      refine j_iast_n F dX10_word_40 41 rfl ia34 11 rfl (by decide) ?_
      refine j_pick [0] [(0, .ref (D.2.1 33))] rfl ?_
      have jn_41 : ∀ (s_41 : Mm), (vp_in (s_41.1 34 13) 9) → JJ X 3 D s_41 41 [(0, .ref (D.2.1 33))] [] (QQ X D (some (.int (fX10_word_41 a1 s_41).1), (fX10_word_41 a1 s_41).2)) := by
        intro s_41 hM41
        rw [fX10_word_41]
        refine j_aload_n F dX10_word_41 42 rfl 0 rfl ?_
        refine j_get (j := 0) F dX10_word_42 45 rfl inX10 rfl (by decide) sh33 (by decide) qX10_7 rfl ?_
        refine j_bipush (v := 10) F dX10_word_45 47 rfl (by decide) ?_
        refine j_iald_n F dX10_word_47 48 rfl ia34 10 rfl (by decide) ?_
        refine j_aload_n F dX10_word_48 49 rfl 0 rfl ?_
        refine j_callVr (as := []) (st := [.int (s_41.1 34 10)]) (r := .int (fX10_last s_41)) (σ9 := s_41) F zX10_last dX10_word_49 52 rfl pX10_last rfl (by decide) (by decide) (Nat.le_of_ble_eq_true rfl) rfl qX10_143 rfl rfl (by decide) sh33 (kX10_last l D s_41 (by first | assumption | exact isThing_in (by assumption) (by assumption) | exact vin_mono (by assumption) (by decide) | omega | decide)) ?_
        refine j_iconst (v := (-1)) F dX10_word_52 53 rfl (by decide) ?_
        refine j_ixor F dX10_word_53 54 rfl ?_
        refine j_iand F dX10_word_54 55 rfl ?_
        refine j_istore_n F dX10_word_55 56 rfl 2 rfl (by decide) [(2, .int ((s_41.1 34 10) &&& ((fX10_last s_41) ^^^ (-1)))), (0, .ref (D.2.1 33))] rfl ?_
        refine j_aload_n F dX10_word_56 57 rfl 1 rfl ?_
        refine j_get (j := 0) F dX10_word_57 60 rfl inX10 rfl (by decide) sh33 (by decide) qX10_7 rfl ?_
        refine j_bipush (v := 10) F dX10_word_60 62 rfl (by decide) ?_
        refine j_dup2 F dX10_word_62 63 rfl rfl rfl ?_
        refine j_iald_n F dX10_word_63 64 rfl ia34 10 rfl (by decide) ?_
        refine j_iload_n F dX10_word_64 65 rfl 0 rfl ?_
        refine j_iconst (v := (-1)) F dX10_word_65 66 rfl (by decide) ?_
        refine j_ixor F dX10_word_66 67 rfl ?_
        refine j_iand F dX10_word_67 68 rfl ?_
        refine j_iast_n F dX10_word_68 69 rfl ia34 10 rfl (by decide) ?_
        refine j_iload_n F dX10_word_69 70 rfl 0 rfl ?_
        exact j_ret_i F dX10_word_70 rfl rfl rfl
      exact jn_41 (up (fX10_keepAct σ) 34 11 a1) (by rw [up_n (by decide), keepAct_34]; exact hM)
def fX10_year_15   (s_15 : Mm) : Int32 × Mm := ((s_15.1 34 12), s_15)
def fX10_year (σ : Mm)  : Int32 × Mm := fX10_year_15 (up (fX10_keepAct σ) 34 12 (((fX10_keepAct σ).1 34 12) + 1))
set_option maxRecDepth 20000 in
theorem kX10_year (l : Launch) (D : Dm)  (σ : Mm) (hx : vp_in (σ.1 33 4) 16) : Ct l yX10_year cX10_year 1 (some .int) 2 D [.ref (D.2.1 33)] σ (some (.int (fX10_year σ).1), (fX10_year σ).2) := by
  refine ct_of (by decide +kernel) (Nat.le_of_ble_eq_true rfl) (fun X F => ?_)
  have F : Fx X l 1 D cX10_year RX10 2 (some .int) := F
  show JJ X 1 D σ 0 [(0, .ref (D.2.1 33))] [] (QQ X D (some (.int (fX10_year σ).1), (fX10_year σ).2))
  rw [fX10_year]
  refine j_aload_n F dX10_year_0 1 rfl 0 rfl ?_
  refine j_callVv (as := []) (st := []) (σ9 := (fX10_keepAct σ)) F zX10_keepAct dX10_year_1 4 rfl pX10_keepAct rfl (by decide) (by decide) (Nat.le_of_ble_eq_true rfl) rfl qX10_162 rfl rfl (by decide) sh33 (kX10_keepAct l D σ (by first | assumption | exact isThing_in (by assumption) (by assumption) | exact vin_mono (by assumption) (by decide) | omega | decide)) ?_
  refine j_aload_n F dX10_year_4 5 rfl 0 rfl ?_
  refine j_get (j := 0) F dX10_year_5 8 rfl inX10 rfl (by decide) sh33 (by decide) qX10_7 rfl ?_
  refine j_bipush (v := 12) F dX10_year_8 10 rfl (by decide) ?_
  refine j_dup2 F dX10_year_10 11 rfl rfl rfl ?_
  refine j_iald_n F dX10_year_11 12 rfl ia34 12 rfl (by decide) ?_
  refine j_iconst (v := 1) F dX10_year_12 13 rfl (by decide) ?_
  refine j_iadd F dX10_year_13 14 rfl ?_
  refine j_iast_n F dX10_year_14 15 rfl ia34 12 rfl (by decide) ?_
  have jn_15 : ∀ (s_15 : Mm), JJ X 1 D s_15 15 [(0, .ref (D.2.1 33))] [] (QQ X D (some (.int (fX10_year_15 s_15).1), (fX10_year_15 s_15).2)) := by
    intro s_15
    rw [fX10_year_15]
    refine j_aload_n F dX10_year_15 16 rfl 0 rfl ?_
    refine j_get (j := 0) F dX10_year_16 19 rfl inX10 rfl (by decide) sh33 (by decide) qX10_7 rfl ?_
    refine j_bipush (v := 12) F dX10_year_19 21 rfl (by decide) ?_
    refine j_iald_n F dX10_year_21 22 rfl ia34 12 rfl (by decide) ?_
    exact j_ret_i F dX10_year_22 rfl rfl rfl
  exact jn_15 (up (fX10_keepAct σ) 34 12 (((fX10_keepAct σ).1 34 12) + 1)) 
