def fX9_slotAt (σ : Mm) (a1 : Int32) : Nat := (53 + 2 * a1.toNatClampNeg)
set_option maxRecDepth 20000 in
theorem kX9_slotAt (l : Launch) (D : Dm) (a1 : Int32) (σ : Mm) (hv : vp_in a1 2) : Ct l yX9_slotAt cX9_slotAt 2 (some (.object "LastOfKind$House")) 1 D [.ref (D.2.1 0), .int a1] σ (some (.ref (D.2.1 (fX9_slotAt σ a1))), σ) := by
  refine ct_of (by decide +kernel) (Nat.le_of_ble_eq_true rfl) (fun X F => ?_)
  have F : Fx X l 2 D cX9_slotAt RX9 1 (some (.object "LastOfKind$House")) := F
  show JJ X 2 D σ 0 [(0, .ref (D.2.1 0)), (1, .int a1)] [] (QQ X D (some (.ref (D.2.1 (fX9_slotAt σ a1))), σ))
  rw [fX9_slotAt]
  refine j_iload_n F dX9_slotAt_0 1 rfl 1 rfl ?_
  refine j_if_lt F dX9_slotAt_1 22 (by decide) 4 rfl (fun c_1 => ?_) (fun c_1 => ?_)
  · skip
    refine j_iload_n F dX9_slotAt_4 5 rfl 1 rfl ?_
    refine j_aload_n F dX9_slotAt_5 6 rfl 0 rfl ?_
    refine j_get (j := 4) F dX9_slotAt_6 9 rfl inX9 rfl (by decide) sh0 (by decide) qX9_33 rfl ?_
    refine j_alenq F dX9_slotAt_9 10 rfl (by decide) sh1 ?_
    refine j_icmp_ge F dX9_slotAt_10 22 (by decide) 13 rfl (fun c_10 => ?_) (fun c_10 => ?_)
    · skip
      refine j_aload_n F dX9_slotAt_13 14 rfl 0 rfl ?_
      refine j_get (j := 4) F dX9_slotAt_14 17 rfl inX9 rfl (by decide) sh0 (by decide) qX9_33 rfl ?_
      refine j_iload_n F dX9_slotAt_17 18 rfl 1 rfl ?_
      refine j_qald F dX9_slotAt_18 19 rfl (by decide) sh1 (by first | assumption | exact vin_c (by assumption) (by assumption) (by decide) | exact vin_d (by assumption) (by assumption) (by decide) | exact vin_k (by assumption) (by assumption) (by decide) | exact vin_mono (by assumption) (by decide) | exact vin_mono (isThing_in (by assumption) (by assumption)) (by decide)) rfl ?_
      refine j_goto F dX9_slotAt_19 23 (by decide) ?_
      exact j_ret_a F dX9_slotAt_23 rfl rfl rfl
    · exact absurd (vinN hv (by decide)) c_10
  · exact absurd (vin0 hv) c_1
def fX9_again_41 (a1 : Int32)  (s_41 : Mm) : Int32 × Mm := ((s_41.1 49 1), s_41)
def fX9_again (σ : Mm) (a1 : Int32) : Int32 × Mm := if (fX9_holds (σ.1 0 5) a1) = true then (fX9_again_41 a1 (fX6_clear (fX2_copyFrom σ 49 (fX9_slotAt σ a1)))) else (((-3), σ))
set_option maxRecDepth 20000 in
theorem kX9_again (l : Launch) (D : Dm) (a1 : Int32) (σ : Mm) (hv : vp_in a1 2) : Ct l yX9_again cX9_again 3 (some .int) 3 D [.ref (D.2.1 0), .int a1] σ (some (.int (fX9_again σ a1).1), (fX9_again σ a1).2) := by
  refine ct_of (by decide +kernel) (Nat.le_of_ble_eq_true rfl) (fun X F => ?_)
  have F : Fx X l 3 D cX9_again RX9 3 (some .int) := F
  show JJ X 3 D σ 0 [(0, .ref (D.2.1 0)), (1, .int a1)] [] (QQ X D (some (.int (fX9_again σ a1).1), (fX9_again σ a1).2))
  rw [fX9_again]
  refine j_aload_n F dX9_again_0 1 rfl 0 rfl ?_
  refine j_iload_n F dX9_again_1 2 rfl 1 rfl ?_
  refine j_callVr (as := [.int a1]) (st := []) (r := .ref (D.2.1 (fX9_slotAt σ a1))) (σ9 := σ) F zX9_slotAt dX9_again_2 5 rfl pX9_slotAt rfl (by decide) (by decide) (Nat.le_of_ble_eq_true rfl) rfl qX9_254 rfl rfl (by decide) sh0 (kX9_slotAt l D a1 σ (by first | assumption | exact isThing_in (by assumption) (by assumption) | exact vin_mono (by assumption) (by decide) | omega | decide)) ?_
  refine j_astore_n F dX9_again_5 6 rfl 2 rfl (by decide) [(2, .ref (D.2.1 (fX9_slotAt σ a1))), (0, .ref (D.2.1 0)), (1, .int a1)] rfl ?_
  refine j_aload_n F dX9_again_6 7 rfl 0 rfl ?_
  refine j_nonnull F dX9_again_7 12 (by decide) ?_
  refine j_aload_n F dX9_again_12 13 rfl 1 rfl ?_
  refine j_get (j := 5) F dX9_again_13 16 rfl inX9 rfl (by decide) sh0 (by decide) qX9_91 rfl ?_
  refine j_iload_n F dX9_again_16 17 rfl 2 rfl ?_
  refine j_callSr (as := [.int (σ.1 0 5), .int a1]) (st := []) (r := .int (bi (fX9_holds (σ.1 0 5) a1))) (σ9 := σ) F zX9_holds dX9_again_17 20 rfl pX9_holds rfl (by decide) (by decide) (Nat.le_of_ble_eq_true rfl) rfl qX9_173 (kX9_holds l D (σ.1 0 5) a1 σ) ?_
  refine j_ifb_ne F dX9_again_20 26 (by decide) 23 rfl (fun c_20 => ?_) (fun c_20 => ?_)
  · rw [if_neg c_20]
    refine j_bipush (v := (-3)) F dX9_again_23 25 rfl (by decide) ?_
    exact j_ret_i F dX9_again_25 rfl rfl rfl
  · rw [if_pos c_20]
    refine j_aload_n F dX9_again_26 27 rfl 1 rfl ?_
    refine j_get (j := 1) F dX9_again_27 30 rfl inX9 rfl (by decide) sh0 (by decide) qX9_19 rfl ?_
    refine j_aload_n F dX9_again_30 31 rfl 0 rfl ?_
    refine j_callVv (as := [.ref (D.2.1 (fX9_slotAt σ a1))]) (st := []) (σ9 := (fX2_copyFrom σ 49 (fX9_slotAt σ a1))) F zX2_copyFrom dX9_again_31 34 rfl pX2_copyFrom rfl (by decide) (by decide) (Nat.le_of_ble_eq_true rfl) rfl qX9_162 rfl rfl (hsP.lt hs49) (shH hs49) (kX2_copyFrom l D 49 (fX9_slotAt σ a1) σ hs49 (hsS (by first | assumption | exact isThing_in (by assumption) (by assumption) | exact vin_mono (by assumption) (by decide) | omega | decide))) ?_
    refine j_aload_n F dX9_again_34 35 rfl 1 rfl ?_
    refine j_get (j := 3) F dX9_again_35 38 rfl inX9 rfl (by decide) sh0 (by decide) qX9_29 rfl ?_
    refine j_callVv (as := []) (st := []) (σ9 := (fX6_clear (fX2_copyFrom σ 49 (fX9_slotAt σ a1)))) F zX6_clear dX9_again_38 41 rfl pX6_clear rfl (by decide) (by decide) (Nat.le_of_ble_eq_true rfl) rfl qX9_88 rfl rfl (by decide) sh4 (kX6_clear l D (fX2_copyFrom σ 49 (fX9_slotAt σ a1))) ?_
    refine j_pick [1] [(0, .ref (D.2.1 0))] rfl ?_
    have jn_41 : ∀ (s_41 : Mm), JJ X 3 D s_41 41 [(0, .ref (D.2.1 0))] [] (QQ X D (some (.int (fX9_again_41 a1 s_41).1), (fX9_again_41 a1 s_41).2)) := by
      intro s_41
      rw [fX9_again_41]
      refine j_aload_n F dX9_again_41 42 rfl 0 rfl ?_
      refine j_get (j := 1) F dX9_again_42 45 rfl inX9 rfl (by decide) sh0 (by decide) qX9_19 rfl ?_
      refine j_get (j := 1) F dX9_again_45 48 rfl inX2 rfl (hsP.lt hs49) (shH hs49) (by decide) qX9_94 rfl ?_
      exact j_ret_i F dX9_again_48 rfl rfl rfl
    exact jn_41 (fX6_clear (fX2_copyFrom σ 49 (fX9_slotAt σ a1))) 
def fX9_alike (σ : Mm) (a1 : Int32) : Int32 := if (fX2_has σ 49 a1) = true then ((fX2_alikeTo σ 49 a1 (σ.1 49 2) (fX2_shown σ 49))) else ((-1))
set_option maxRecDepth 20000 in
theorem kX9_alike (l : Launch) (D : Dm) (a1 : Int32) (σ : Mm)  : Ct l yX9_alike cX9_alike 2 (some .int) 4 D [.ref (D.2.1 0), .int a1] σ (some (.int (fX9_alike σ a1)), σ) := by
  refine ct_of (by decide +kernel) (Nat.le_of_ble_eq_true rfl) (fun X F => ?_)
  have F : Fx X l 2 D cX9_alike RX9 4 (some .int) := F
  show JJ X 2 D σ 0 [(0, .ref (D.2.1 0)), (1, .int a1)] [] (QQ X D (some (.int (fX9_alike σ a1)), σ))
  rw [fX9_alike]
  refine j_aload_n F dX9_alike_0 1 rfl 0 rfl ?_
  refine j_get (j := 1) F dX9_alike_1 4 rfl inX9 rfl (by decide) sh0 (by decide) qX9_19 rfl ?_
  refine j_iload_n F dX9_alike_4 5 rfl 1 rfl ?_
  refine j_callVr (as := [.int a1]) (st := []) (r := .int (bi (fX2_has σ 49 a1))) (σ9 := σ) F zX2_has dX9_alike_5 8 rfl pX2_has rfl (by decide) (by decide) (Nat.le_of_ble_eq_true rfl) rfl qX9_97 rfl rfl (hsP.lt hs49) (shH hs49) (kX2_has l D 49 a1 σ hs49) ?_
  refine j_ifb_eq F dX9_alike_8 36 (by decide) 11 rfl (fun c_8 => ?_) (fun c_8 => ?_)
  · rw [if_pos c_8]
    refine j_aload_n F dX9_alike_11 12 rfl 0 rfl ?_
    refine j_get (j := 1) F dX9_alike_12 15 rfl inX9 rfl (by decide) sh0 (by decide) qX9_19 rfl ?_
    refine j_iload_n F dX9_alike_15 16 rfl 1 rfl ?_
    refine j_aload_n F dX9_alike_16 17 rfl 0 rfl ?_
    refine j_get (j := 1) F dX9_alike_17 20 rfl inX9 rfl (by decide) sh0 (by decide) qX9_19 rfl ?_
    refine j_get (j := 2) F dX9_alike_20 23 rfl inX2 rfl (hsP.lt hs49) (shH hs49) (by decide) qX9_119 rfl ?_
    refine j_aload_n F dX9_alike_23 24 rfl 0 rfl ?_
    refine j_get (j := 1) F dX9_alike_24 27 rfl inX9 rfl (by decide) sh0 (by decide) qX9_19 rfl ?_
    refine j_callVr (as := []) (st := [.int (σ.1 49 2), .int a1, .ref (D.2.1 49)]) (r := .int (fX2_shown σ 49)) (σ9 := σ) F zX2_shown dX9_alike_27 30 rfl pX2_shown rfl (by decide) (by decide) (Nat.le_of_ble_eq_true rfl) rfl qX9_122 rfl rfl (hsP.lt hs49) (shH hs49) (kX2_shown l D 49 σ hs49) ?_
    refine j_callVr (as := [.int a1, .int (σ.1 49 2), .int (fX2_shown σ 49)]) (st := []) (r := .int (fX2_alikeTo σ 49 a1 (σ.1 49 2) (fX2_shown σ 49))) (σ9 := σ) F zX2_alikeTo dX9_alike_30 33 rfl pX2_alikeTo rfl (by decide) (by decide) (Nat.le_of_ble_eq_true rfl) rfl qX9_125 rfl rfl (hsP.lt hs49) (shH hs49) (kX2_alikeTo l D 49 a1 (σ.1 49 2) (fX2_shown σ 49) σ hs49) ?_
    refine j_goto F dX9_alike_33 37 (by decide) ?_
    exact j_ret_i F dX9_alike_37 rfl rfl rfl
  · rw [if_neg c_8]
    refine j_iconst (v := (-1)) F dX9_alike_36 37 rfl (by decide) ?_
    exact j_ret_i F dX9_alike_37 rfl rfl rfl
def fX9_bestWord (σ : Mm) (a1 : Int32) : Int32 := if 0 ≤ a1 then (if 1 < a1 then ((-2)) else (if a1 = 0 then ((fX5_wordOfMostLast σ 49)) else ((fX5_lastBy σ 49 (fX5_wordOfMostLast σ 49))))) else ((-2))
set_option maxRecDepth 20000 in
theorem kX9_bestWord (l : Launch) (D : Dm) (a1 : Int32) (σ : Mm)  : Ct l yX9_bestWord cX9_bestWord 3 (some .int) 7 D [.ref (D.2.1 0), .int a1] σ (some (.int (fX9_bestWord σ a1)), σ) := by
  refine ct_of (by decide +kernel) (Nat.le_of_ble_eq_true rfl) (fun X F => ?_)
  have F : Fx X l 3 D cX9_bestWord RX9 7 (some .int) := F
  show JJ X 3 D σ 0 [(0, .ref (D.2.1 0)), (1, .int a1)] [] (QQ X D (some (.int (fX9_bestWord σ a1)), σ))
  rw [fX9_bestWord]
  refine j_iload_n F dX9_bestWord_0 1 rfl 1 rfl ?_
  refine j_if_lt F dX9_bestWord_1 9 (by decide) 4 rfl (fun c_1 => ?_) (fun c_1 => ?_)
  · rw [if_pos c_1]
    refine j_iload_n F dX9_bestWord_4 5 rfl 1 rfl ?_
    refine j_iconst (v := 1) F dX9_bestWord_5 6 rfl (by decide) ?_
    refine j_icmp_le F dX9_bestWord_6 12 (by decide) 9 rfl (fun c_6 => ?_) (fun c_6 => ?_)
    · rw [if_pos c_6]
      refine j_bipush (v := (-2)) F dX9_bestWord_9 11 rfl (by decide) ?_
      exact j_ret_i F dX9_bestWord_11 rfl rfl rfl
    · rw [if_neg c_6]
      refine j_aload_n F dX9_bestWord_12 13 rfl 0 rfl ?_
      refine j_get (j := 6) F dX9_bestWord_13 16 rfl inX9 rfl (by decide) sh0 (by decide) qX9_40 rfl ?_
      refine j_aload_n F dX9_bestWord_16 17 rfl 0 rfl ?_
      refine j_get (j := 1) F dX9_bestWord_17 20 rfl inX9 rfl (by decide) sh0 (by decide) qX9_19 rfl ?_
      refine j_callVr (as := [.ref (D.2.1 49)]) (st := []) (r := .int (fX5_wordOfMostLast σ 49)) (σ9 := σ) F zX5_wordOfMostLast dX9_bestWord_20 23 rfl pX5_wordOfMostLast rfl (by decide) (by decide) (Nat.le_of_ble_eq_true rfl) rfl qX9_193 rfl rfl (by decide) sh6 (kX5_wordOfMostLast l D 49 σ hs49) ?_
      refine j_istore_n F dX9_bestWord_23 24 rfl 2 rfl (by decide) [(2, .int (fX5_wordOfMostLast σ 49)), (0, .ref (D.2.1 0)), (1, .int a1)] rfl ?_
      refine j_iload_n F dX9_bestWord_24 25 rfl 2 rfl ?_
      refine j_if_ne F dX9_bestWord_25 32 (by decide) 28 rfl (fun c_25 => ?_) (fun c_25 => ?_)
      · rw [if_pos c_25]
        refine j_iload_n F dX9_bestWord_28 29 rfl 0 rfl ?_
        refine j_goto F dX9_bestWord_29 44 (by decide) ?_
        exact j_ret_i F dX9_bestWord_44 rfl rfl rfl
      · rw [if_neg c_25]
        refine j_aload_n F dX9_bestWord_32 33 rfl 1 rfl ?_
        refine j_get (j := 6) F dX9_bestWord_33 36 rfl inX9 rfl (by decide) sh0 (by decide) qX9_40 rfl ?_
        refine j_aload_n F dX9_bestWord_36 37 rfl 1 rfl ?_
        refine j_get (j := 1) F dX9_bestWord_37 40 rfl inX9 rfl (by decide) sh0 (by decide) qX9_19 rfl ?_
        refine j_iload_n F dX9_bestWord_40 41 rfl 0 rfl ?_
        refine j_callVr (as := [.ref (D.2.1 49), .int (fX5_wordOfMostLast σ 49)]) (st := []) (r := .int (fX5_lastBy σ 49 (fX5_wordOfMostLast σ 49))) (σ9 := σ) F zX5_lastBy dX9_bestWord_41 44 rfl pX5_lastBy rfl (by decide) (by decide) (Nat.le_of_ble_eq_true rfl) rfl qX9_197 rfl rfl (by decide) sh6 (kX5_lastBy l D 49 (fX5_wordOfMostLast σ 49) σ hs49) ?_
        exact j_ret_i F dX9_bestWord_44 rfl rfl rfl
  · rw [if_neg c_1]
    refine j_bipush (v := (-2)) F dX9_bestWord_9 11 rfl (by decide) ?_
    exact j_ret_i F dX9_bestWord_11 rfl rfl rfl
def fX9_tryAct (σ : Mm) (a1 : Int32) (a2 : Int32) : Int32 × Mm := if (fX2_has σ 49 a2) = true then (if (fX2_canBe σ 49 a1 a2) = true then ((0, (fX2_perform (fX6_remember σ 49) 49 a1 a2))) else (((-3), σ))) else (((-1), σ))
set_option maxRecDepth 20000 in
theorem kX9_tryAct (l : Launch) (D : Dm) (a1 : Int32) (a2 : Int32) (σ : Mm) (hx : vp_in (σ.1 4 1) 16) : Ct l yX9_tryAct cX9_tryAct 3 (some .int) 6 D [.ref (D.2.1 0), .int a1, .int a2] σ (some (.int (fX9_tryAct σ a1 a2).1), (fX9_tryAct σ a1 a2).2) := by
  refine ct_of (by decide +kernel) (Nat.le_of_ble_eq_true rfl) (fun X F => ?_)
  have F : Fx X l 3 D cX9_tryAct RX9 6 (some .int) := F
  show JJ X 3 D σ 0 [(0, .ref (D.2.1 0)), (1, .int a1), (2, .int a2)] [] (QQ X D (some (.int (fX9_tryAct σ a1 a2).1), (fX9_tryAct σ a1 a2).2))
  rw [fX9_tryAct]
  refine j_aload_n F dX9_tryAct_0 1 rfl 0 rfl ?_
  refine j_get (j := 1) F dX9_tryAct_1 4 rfl inX9 rfl (by decide) sh0 (by decide) qX9_19 rfl ?_
  refine j_iload_n F dX9_tryAct_4 5 rfl 2 rfl ?_
  refine j_callVr (as := [.int a2]) (st := []) (r := .int (bi (fX2_has σ 49 a2))) (σ9 := σ) F zX2_has dX9_tryAct_5 8 rfl pX2_has rfl (by decide) (by decide) (Nat.le_of_ble_eq_true rfl) rfl qX9_97 rfl rfl (hsP.lt hs49) (shH hs49) (kX2_has l D 49 a2 σ hs49) ?_
  refine j_ifb_ne F dX9_tryAct_8 13 (by decide) 11 rfl (fun c_8 => ?_) (fun c_8 => ?_)
  · rw [if_neg c_8]
    refine j_iconst (v := (-1)) F dX9_tryAct_11 12 rfl (by decide) ?_
    exact j_ret_i F dX9_tryAct_12 rfl rfl rfl
  · rw [if_pos c_8]
    refine j_aload_n F dX9_tryAct_13 14 rfl 0 rfl ?_
    refine j_get (j := 1) F dX9_tryAct_14 17 rfl inX9 rfl (by decide) sh0 (by decide) qX9_19 rfl ?_
    refine j_iload_n F dX9_tryAct_17 18 rfl 1 rfl ?_
    refine j_iload_n F dX9_tryAct_18 19 rfl 2 rfl ?_
    refine j_callVr (as := [.int a1, .int a2]) (st := []) (r := .int (bi (fX2_canBe σ 49 a1 a2))) (σ9 := σ) F zX2_canBe dX9_tryAct_19 22 rfl pX2_canBe rfl (by decide) (by decide) (Nat.le_of_ble_eq_true rfl) rfl qX9_165 rfl rfl (hsP.lt hs49) (shH hs49) (kX2_canBe l D 49 a1 a2 σ hs49) ?_
    refine j_ifb_ne F dX9_tryAct_22 28 (by decide) 25 rfl (fun c_22 => ?_) (fun c_22 => ?_)
    · rw [if_neg c_22]
      refine j_bipush (v := (-3)) F dX9_tryAct_25 27 rfl (by decide) ?_
      exact j_ret_i F dX9_tryAct_27 rfl rfl rfl
    · rw [if_pos c_22]
      refine j_aload_n F dX9_tryAct_28 29 rfl 0 rfl ?_
      refine j_get (j := 3) F dX9_tryAct_29 32 rfl inX9 rfl (by decide) sh0 (by decide) qX9_29 rfl ?_
      refine j_aload_n F dX9_tryAct_32 33 rfl 0 rfl ?_
      refine j_get (j := 1) F dX9_tryAct_33 36 rfl inX9 rfl (by decide) sh0 (by decide) qX9_19 rfl ?_
      refine j_callVv (as := [.ref (D.2.1 49)]) (st := []) (σ9 := (fX6_remember σ 49)) F zX6_remember dX9_tryAct_36 39 rfl pX6_remember rfl (by decide) (by decide) (Nat.le_of_ble_eq_true rfl) rfl qX9_136 rfl rfl (by decide) sh4 (kX6_remember l D 49 σ hs49 (by first | assumption | exact isThing_in (by assumption) (by assumption) | exact vin_mono (by assumption) (by decide) | omega | decide)) ?_
      refine j_aload_n F dX9_tryAct_39 40 rfl 0 rfl ?_
      refine j_get (j := 1) F dX9_tryAct_40 43 rfl inX9 rfl (by decide) sh0 (by decide) qX9_19 rfl ?_
      refine j_iload_n F dX9_tryAct_43 44 rfl 1 rfl ?_
      refine j_iload_n F dX9_tryAct_44 45 rfl 2 rfl ?_
      refine j_callVv (as := [.int a1, .int a2]) (st := []) (σ9 := (fX2_perform (fX6_remember σ 49) 49 a1 a2)) F zX2_perform dX9_tryAct_45 48 rfl pX2_perform rfl (by decide) (by decide) (Nat.le_of_ble_eq_true rfl) rfl qX9_169 rfl rfl (hsP.lt hs49) (shH hs49) (kX2_perform l D 49 a1 a2 (fX6_remember σ 49) hs49) ?_
      refine j_iconst (v := 0) F dX9_tryAct_48 49 rfl (by decide) ?_
      exact j_ret_i F dX9_tryAct_49 rfl rfl rfl
def fX9_broken (σ : Mm) (a1 : Int32) : Int32 × Mm := if (fX9_tryAct σ 0 a1).1 < 0 then (((fX9_tryAct σ 0 a1).1, (fX9_tryAct σ 0 a1).2)) else (((fX2_lastOnes ((fX9_tryAct σ 0 a1).2) 49), (fX9_tryAct σ 0 a1).2))
set_option maxRecDepth 20000 in
theorem kX9_broken (l : Launch) (D : Dm) (a1 : Int32) (σ : Mm) (hx : vp_in (σ.1 4 1) 16) : Ct l yX9_broken cX9_broken 3 (some .int) 7 D [.ref (D.2.1 0), .int a1] σ (some (.int (fX9_broken σ a1).1), (fX9_broken σ a1).2) := by
  refine ct_of (by decide +kernel) (Nat.le_of_ble_eq_true rfl) (fun X F => ?_)
  have F : Fx X l 3 D cX9_broken RX9 7 (some .int) := F
  show JJ X 3 D σ 0 [(0, .ref (D.2.1 0)), (1, .int a1)] [] (QQ X D (some (.int (fX9_broken σ a1).1), (fX9_broken σ a1).2))
  rw [fX9_broken]
  refine j_aload_n F dX9_broken_0 1 rfl 0 rfl ?_
  refine j_iconst (v := 0) F dX9_broken_1 2 rfl (by decide) ?_
  refine j_iload_n F dX9_broken_2 3 rfl 1 rfl ?_
  refine j_callVr (as := [.int 0, .int a1]) (st := []) (r := .int ((fX9_tryAct σ 0 a1).1)) (σ9 := (fX9_tryAct σ 0 a1).2) F zX9_tryAct dX9_broken_3 6 rfl pX9_tryAct rfl (by decide) (by decide) (Nat.le_of_ble_eq_true rfl) rfl qX9_133 rfl rfl (by decide) sh0 (kX9_tryAct l D 0 a1 σ (by first | assumption | exact isThing_in (by assumption) (by assumption) | exact vin_mono (by assumption) (by decide) | omega | decide)) ?_
  refine j_istore_n F dX9_broken_6 7 rfl 2 rfl (by decide) [(2, .int ((fX9_tryAct σ 0 a1).1)), (0, .ref (D.2.1 0)), (1, .int a1)] rfl ?_
  refine j_iload_n F dX9_broken_7 8 rfl 0 rfl ?_
  refine j_if_ge F dX9_broken_8 15 (by decide) 11 rfl (fun c_8 => ?_) (fun c_8 => ?_)
  · rw [if_pos c_8]
    refine j_iload_n F dX9_broken_11 12 rfl 0 rfl ?_
    refine j_goto F dX9_broken_12 22 (by decide) ?_
    exact j_ret_i F dX9_broken_22 rfl rfl rfl
  · rw [if_neg c_8]
    refine j_aload_n F dX9_broken_15 16 rfl 1 rfl ?_
    refine j_get (j := 1) F dX9_broken_16 19 rfl inX9 rfl (by decide) sh0 (by decide) qX9_19 rfl ?_
    refine j_callVr (as := []) (st := []) (r := .int (fX2_lastOnes ((fX9_tryAct σ 0 a1).2) 49)) (σ9 := (fX9_tryAct σ 0 a1).2) F zX2_lastOnes dX9_broken_19 22 rfl pX2_lastOnes rfl (by decide) (by decide) (Nat.le_of_ble_eq_true rfl) rfl qX9_116 rfl rfl (hsP.lt hs49) (shH hs49) (kX2_lastOnes l D 49 ((fX9_tryAct σ 0 a1).2) hs49) ?_
    exact j_ret_i F dX9_broken_22 rfl rfl rfl
def fX9_campaign (σ : Mm) (a1 : Int32) : Int32 × Mm := if (fX2_has σ 49 a1) = true then (if (fX9_holds (fX2_shown σ 49) a1) = true then ((((fX5_seekCampaign σ 49 a1).1 6 0), (fX5_seekCampaign σ 49 a1))) else (((-3), σ))) else (((-1), σ))
set_option maxRecDepth 20000 in
theorem kX9_campaign (l : Launch) (D : Dm) (a1 : Int32) (σ : Mm)  : Ct l yX9_campaign cX9_campaign 2 (some .int) 5 D [.ref (D.2.1 0), .int a1] σ (some (.int (fX9_campaign σ a1).1), (fX9_campaign σ a1).2) := by
  refine ct_of (by decide +kernel) (Nat.le_of_ble_eq_true rfl) (fun X F => ?_)
  have F : Fx X l 2 D cX9_campaign RX9 5 (some .int) := F
  show JJ X 2 D σ 0 [(0, .ref (D.2.1 0)), (1, .int a1)] [] (QQ X D (some (.int (fX9_campaign σ a1).1), (fX9_campaign σ a1).2))
  rw [fX9_campaign]
  refine j_aload_n F dX9_campaign_0 1 rfl 0 rfl ?_
  refine j_get (j := 1) F dX9_campaign_1 4 rfl inX9 rfl (by decide) sh0 (by decide) qX9_19 rfl ?_
  refine j_iload_n F dX9_campaign_4 5 rfl 1 rfl ?_
  refine j_callVr (as := [.int a1]) (st := []) (r := .int (bi (fX2_has σ 49 a1))) (σ9 := σ) F zX2_has dX9_campaign_5 8 rfl pX2_has rfl (by decide) (by decide) (Nat.le_of_ble_eq_true rfl) rfl qX9_97 rfl rfl (hsP.lt hs49) (shH hs49) (kX2_has l D 49 a1 σ hs49) ?_
  refine j_ifb_ne F dX9_campaign_8 13 (by decide) 11 rfl (fun c_8 => ?_) (fun c_8 => ?_)
  · rw [if_neg c_8]
    refine j_iconst (v := (-1)) F dX9_campaign_11 12 rfl (by decide) ?_
    exact j_ret_i F dX9_campaign_12 rfl rfl rfl
  · rw [if_pos c_8]
    refine j_aload_n F dX9_campaign_13 14 rfl 0 rfl ?_
    refine j_get (j := 1) F dX9_campaign_14 17 rfl inX9 rfl (by decide) sh0 (by decide) qX9_19 rfl ?_
    refine j_callVr (as := []) (st := []) (r := .int (fX2_shown σ 49)) (σ9 := σ) F zX2_shown dX9_campaign_17 20 rfl pX2_shown rfl (by decide) (by decide) (Nat.le_of_ble_eq_true rfl) rfl qX9_122 rfl rfl (hsP.lt hs49) (shH hs49) (kX2_shown l D 49 σ hs49) ?_
    refine j_iload_n F dX9_campaign_20 21 rfl 1 rfl ?_
    refine j_callSr (as := [.int (fX2_shown σ 49), .int a1]) (st := []) (r := .int (bi (fX9_holds (fX2_shown σ 49) a1))) (σ9 := σ) F zX9_holds dX9_campaign_21 24 rfl pX9_holds rfl (by decide) (by decide) (Nat.le_of_ble_eq_true rfl) rfl qX9_173 (kX9_holds l D (fX2_shown σ 49) a1 σ) ?_
    refine j_ifb_ne F dX9_campaign_24 30 (by decide) 27 rfl (fun c_24 => ?_) (fun c_24 => ?_)
    · rw [if_neg c_24]
      refine j_bipush (v := (-3)) F dX9_campaign_27 29 rfl (by decide) ?_
      exact j_ret_i F dX9_campaign_29 rfl rfl rfl
    · rw [if_pos c_24]
      refine j_aload_n F dX9_campaign_30 31 rfl 0 rfl ?_
      refine j_get (j := 6) F dX9_campaign_31 34 rfl inX9 rfl (by decide) sh0 (by decide) qX9_40 rfl ?_
      refine j_aload_n F dX9_campaign_34 35 rfl 0 rfl ?_
      refine j_get (j := 1) F dX9_campaign_35 38 rfl inX9 rfl (by decide) sh0 (by decide) qX9_19 rfl ?_
      refine j_iload_n F dX9_campaign_38 39 rfl 1 rfl ?_
      refine j_callVv (as := [.ref (D.2.1 49), .int a1]) (st := []) (σ9 := (fX5_seekCampaign σ 49 a1)) F zX5_seekCampaign dX9_campaign_39 42 rfl pX5_seekCampaign rfl (by decide) (by decide) (Nat.le_of_ble_eq_true rfl) rfl qX9_176 rfl rfl (by decide) sh6 (kX5_seekCampaign l D 49 a1 σ hs49) ?_
      refine j_aload_n F dX9_campaign_42 43 rfl 0 rfl ?_
      refine j_get (j := 6) F dX9_campaign_43 46 rfl inX9 rfl (by decide) sh0 (by decide) qX9_40 rfl ?_
      refine j_get (j := 0) F dX9_campaign_46 49 rfl inX5 rfl (by decide) sh6 (by decide) qX9_180 rfl ?_
      exact j_ret_i F dX9_campaign_49 rfl rfl rfl
def fX9_campaignBy (σ : Mm) (a1 : Int32) (a2 : Int32) : Int32 × Mm := if (fX2_has σ 49 a1) = true then (if 0 ≤ a2 then (if 1 < a2 then (((-2), σ)) else (if (fX9_holds (fX2_shown σ 49) a1) = true then (if a2 = 0 then ((((fX5_seekCampaign σ 49 a1).1 6 1), (fX5_seekCampaign σ 49 a1))) else ((((fX5_seekCampaign σ 49 a1).1 6 2), (fX5_seekCampaign σ 49 a1)))) else (((-3), σ)))) else (((-2), σ))) else (((-1), σ))
set_option maxRecDepth 20000 in
theorem kX9_campaignBy (l : Launch) (D : Dm) (a1 : Int32) (a2 : Int32) (σ : Mm)  : Ct l yX9_campaignBy cX9_campaignBy 3 (some .int) 5 D [.ref (D.2.1 0), .int a1, .int a2] σ (some (.int (fX9_campaignBy σ a1 a2).1), (fX9_campaignBy σ a1 a2).2) := by
  refine ct_of (by decide +kernel) (Nat.le_of_ble_eq_true rfl) (fun X F => ?_)
  have F : Fx X l 3 D cX9_campaignBy RX9 5 (some .int) := F
  show JJ X 3 D σ 0 [(0, .ref (D.2.1 0)), (1, .int a1), (2, .int a2)] [] (QQ X D (some (.int (fX9_campaignBy σ a1 a2).1), (fX9_campaignBy σ a1 a2).2))
  rw [fX9_campaignBy]
  refine j_aload_n F dX9_campaignBy_0 1 rfl 0 rfl ?_
  refine j_get (j := 1) F dX9_campaignBy_1 4 rfl inX9 rfl (by decide) sh0 (by decide) qX9_19 rfl ?_
  refine j_iload_n F dX9_campaignBy_4 5 rfl 1 rfl ?_
  refine j_callVr (as := [.int a1]) (st := []) (r := .int (bi (fX2_has σ 49 a1))) (σ9 := σ) F zX2_has dX9_campaignBy_5 8 rfl pX2_has rfl (by decide) (by decide) (Nat.le_of_ble_eq_true rfl) rfl qX9_97 rfl rfl (hsP.lt hs49) (shH hs49) (kX2_has l D 49 a1 σ hs49) ?_
  refine j_ifb_ne F dX9_campaignBy_8 13 (by decide) 11 rfl (fun c_8 => ?_) (fun c_8 => ?_)
  · rw [if_neg c_8]
    refine j_iconst (v := (-1)) F dX9_campaignBy_11 12 rfl (by decide) ?_
    exact j_ret_i F dX9_campaignBy_12 rfl rfl rfl
  · rw [if_pos c_8]
    refine j_iload_n F dX9_campaignBy_13 14 rfl 2 rfl ?_
    refine j_if_lt F dX9_campaignBy_14 22 (by decide) 17 rfl (fun c_14 => ?_) (fun c_14 => ?_)
    · rw [if_pos c_14]
      refine j_iload_n F dX9_campaignBy_17 18 rfl 2 rfl ?_
      refine j_iconst (v := 1) F dX9_campaignBy_18 19 rfl (by decide) ?_
      refine j_icmp_le F dX9_campaignBy_19 25 (by decide) 22 rfl (fun c_19 => ?_) (fun c_19 => ?_)
      · rw [if_pos c_19]
        refine j_bipush (v := (-2)) F dX9_campaignBy_22 24 rfl (by decide) ?_
        exact j_ret_i F dX9_campaignBy_24 rfl rfl rfl
      · rw [if_neg c_19]
        refine j_aload_n F dX9_campaignBy_25 26 rfl 0 rfl ?_
        refine j_get (j := 1) F dX9_campaignBy_26 29 rfl inX9 rfl (by decide) sh0 (by decide) qX9_19 rfl ?_
        refine j_callVr (as := []) (st := []) (r := .int (fX2_shown σ 49)) (σ9 := σ) F zX2_shown dX9_campaignBy_29 32 rfl pX2_shown rfl (by decide) (by decide) (Nat.le_of_ble_eq_true rfl) rfl qX9_122 rfl rfl (hsP.lt hs49) (shH hs49) (kX2_shown l D 49 σ hs49) ?_
        refine j_iload_n F dX9_campaignBy_32 33 rfl 1 rfl ?_
        refine j_callSr (as := [.int (fX2_shown σ 49), .int a1]) (st := []) (r := .int (bi (fX9_holds (fX2_shown σ 49) a1))) (σ9 := σ) F zX9_holds dX9_campaignBy_33 36 rfl pX9_holds rfl (by decide) (by decide) (Nat.le_of_ble_eq_true rfl) rfl qX9_173 (kX9_holds l D (fX2_shown σ 49) a1 σ) ?_
        refine j_ifb_ne F dX9_campaignBy_36 42 (by decide) 39 rfl (fun c_36 => ?_) (fun c_36 => ?_)
        · rw [if_neg c_36]
          refine j_bipush (v := (-3)) F dX9_campaignBy_39 41 rfl (by decide) ?_
          exact j_ret_i F dX9_campaignBy_41 rfl rfl rfl
        · rw [if_pos c_36]
          refine j_aload_n F dX9_campaignBy_42 43 rfl 0 rfl ?_
          refine j_get (j := 6) F dX9_campaignBy_43 46 rfl inX9 rfl (by decide) sh0 (by decide) qX9_40 rfl ?_
          refine j_aload_n F dX9_campaignBy_46 47 rfl 0 rfl ?_
          refine j_get (j := 1) F dX9_campaignBy_47 50 rfl inX9 rfl (by decide) sh0 (by decide) qX9_19 rfl ?_
          refine j_iload_n F dX9_campaignBy_50 51 rfl 1 rfl ?_
          refine j_callVv (as := [.ref (D.2.1 49), .int a1]) (st := []) (σ9 := (fX5_seekCampaign σ 49 a1)) F zX5_seekCampaign dX9_campaignBy_51 54 rfl pX5_seekCampaign rfl (by decide) (by decide) (Nat.le_of_ble_eq_true rfl) rfl qX9_176 rfl rfl (by decide) sh6 (kX5_seekCampaign l D 49 a1 σ hs49) ?_
          refine j_iload_n F dX9_campaignBy_54 55 rfl 2 rfl ?_
          refine j_if_ne F dX9_campaignBy_55 68 (by decide) 58 rfl (fun c_55 => ?_) (fun c_55 => ?_)
          · rw [if_pos c_55]
            refine j_aload_n F dX9_campaignBy_58 59 rfl 0 rfl ?_
            refine j_get (j := 6) F dX9_campaignBy_59 62 rfl inX9 rfl (by decide) sh0 (by decide) qX9_40 rfl ?_
            refine j_get (j := 1) F dX9_campaignBy_62 65 rfl inX5 rfl (by decide) sh6 (by decide) qX9_183 rfl ?_
            refine j_goto F dX9_campaignBy_65 75 (by decide) ?_
            exact j_ret_i F dX9_campaignBy_75 rfl rfl rfl
          · rw [if_neg c_55]
            refine j_aload_n F dX9_campaignBy_68 69 rfl 0 rfl ?_
            refine j_get (j := 6) F dX9_campaignBy_69 72 rfl inX9 rfl (by decide) sh0 (by decide) qX9_40 rfl ?_
            refine j_get (j := 2) F dX9_campaignBy_72 75 rfl inX5 rfl (by decide) sh6 (by decide) qX9_186 rfl ?_
            exact j_ret_i F dX9_campaignBy_75 rfl rfl rfl
    · rw [if_neg c_14]
      refine j_bipush (v := (-2)) F dX9_campaignBy_22 24 rfl (by decide) ?_
      exact j_ret_i F dX9_campaignBy_24 rfl rfl rfl
def fX9_chance (σ : Mm) (a1 : Int32) (a2 : Int32) (a3 : Bool) : Int32 × Mm := if (fX2_has σ 49 a1) = true then (if 0 ≤ a2 then (if 10 < a2 then (((-2), σ)) else (if a3 = true then ((((fX0_weigh σ 49 a1 a2).1 32 1), (fX0_weigh σ 49 a1 a2))) else ((((fX0_weigh σ 49 a1 a2).1 32 2), (fX0_weigh σ 49 a1 a2))))) else (((-2), σ))) else (((-1), σ))
set_option maxRecDepth 20000 in
theorem kX9_chance (l : Launch) (D : Dm) (a1 : Int32) (a2 : Int32) (a3 : Bool) (σ : Mm)  : Ct l yX9_chance cX9_chance 4 (some .int) 5 D [.ref (D.2.1 0), .int a1, .int a2, .int (bi a3)] σ (some (.int (fX9_chance σ a1 a2 a3).1), (fX9_chance σ a1 a2 a3).2) := by
  refine ct_of (by decide +kernel) (Nat.le_of_ble_eq_true rfl) (fun X F => ?_)
  have F : Fx X l 4 D cX9_chance RX9 5 (some .int) := F
  show JJ X 4 D σ 0 [(0, .ref (D.2.1 0)), (1, .int a1), (2, .int a2), (3, .int (bi a3))] [] (QQ X D (some (.int (fX9_chance σ a1 a2 a3).1), (fX9_chance σ a1 a2 a3).2))
  rw [fX9_chance]
  refine j_aload_n F dX9_chance_0 1 rfl 0 rfl ?_
  refine j_get (j := 1) F dX9_chance_1 4 rfl inX9 rfl (by decide) sh0 (by decide) qX9_19 rfl ?_
  refine j_iload_n F dX9_chance_4 5 rfl 1 rfl ?_
  refine j_callVr (as := [.int a1]) (st := []) (r := .int (bi (fX2_has σ 49 a1))) (σ9 := σ) F zX2_has dX9_chance_5 8 rfl pX2_has rfl (by decide) (by decide) (Nat.le_of_ble_eq_true rfl) rfl qX9_97 rfl rfl (hsP.lt hs49) (shH hs49) (kX2_has l D 49 a1 σ hs49) ?_
  refine j_ifb_ne F dX9_chance_8 13 (by decide) 11 rfl (fun c_8 => ?_) (fun c_8 => ?_)
  · rw [if_neg c_8]
    refine j_iconst (v := (-1)) F dX9_chance_11 12 rfl (by decide) ?_
    exact j_ret_i F dX9_chance_12 rfl rfl rfl
  · rw [if_pos c_8]
    refine j_iload_n F dX9_chance_13 14 rfl 2 rfl ?_
    refine j_if_lt F dX9_chance_14 23 (by decide) 17 rfl (fun c_14 => ?_) (fun c_14 => ?_)
    · rw [if_pos c_14]
      refine j_iload_n F dX9_chance_17 18 rfl 2 rfl ?_
      refine j_bipush (v := 10) F dX9_chance_18 20 rfl (by decide) ?_
      refine j_icmp_le F dX9_chance_20 26 (by decide) 23 rfl (fun c_20 => ?_) (fun c_20 => ?_)
      · rw [if_pos c_20]
        refine j_bipush (v := (-2)) F dX9_chance_23 25 rfl (by decide) ?_
        exact j_ret_i F dX9_chance_25 rfl rfl rfl
      · rw [if_neg c_20]
        refine j_aload_n F dX9_chance_26 27 rfl 0 rfl ?_
        refine j_get (j := 10) F dX9_chance_27 30 rfl inX9 rfl (by decide) sh0 (by decide) qX9_68 rfl ?_
        refine j_aload_n F dX9_chance_30 31 rfl 0 rfl ?_
        refine j_get (j := 1) F dX9_chance_31 34 rfl inX9 rfl (by decide) sh0 (by decide) qX9_19 rfl ?_
        refine j_iload_n F dX9_chance_34 35 rfl 1 rfl ?_
        refine j_iload_n F dX9_chance_35 36 rfl 2 rfl ?_
        refine j_callVv (as := [.ref (D.2.1 49), .int a1, .int a2]) (st := []) (σ9 := (fX0_weigh σ 49 a1 a2)) F zX0_weigh dX9_chance_36 39 rfl pX0_weigh rfl (by decide) (by decide) (Nat.le_of_ble_eq_true rfl) rfl qX9_237 rfl rfl (by decide) sh32 (kX0_weigh l D 49 a1 a2 σ hs49) ?_
        refine j_iload_n F dX9_chance_39 40 rfl 3 rfl ?_
        refine j_ifb_eq F dX9_chance_40 53 (by decide) 43 rfl (fun c_40 => ?_) (fun c_40 => ?_)
        · rw [if_pos c_40]
          refine j_aload_n F dX9_chance_43 44 rfl 0 rfl ?_
          refine j_get (j := 10) F dX9_chance_44 47 rfl inX9 rfl (by decide) sh0 (by decide) qX9_68 rfl ?_
          refine j_get (j := 1) F dX9_chance_47 50 rfl inX0 rfl (by decide) sh32 (by decide) qX9_240 rfl ?_
          refine j_goto F dX9_chance_50 60 (by decide) ?_
          exact j_ret_i F dX9_chance_60 rfl rfl rfl
        · rw [if_neg c_40]
          refine j_aload_n F dX9_chance_53 54 rfl 0 rfl ?_
          refine j_get (j := 10) F dX9_chance_54 57 rfl inX9 rfl (by decide) sh0 (by decide) qX9_68 rfl ?_
          refine j_get (j := 2) F dX9_chance_57 60 rfl inX0 rfl (by decide) sh32 (by decide) qX9_243 rfl ?_
          exact j_ret_i F dX9_chance_60 rfl rfl rfl
    · rw [if_neg c_14]
      refine j_bipush (v := (-2)) F dX9_chance_23 25 rfl (by decide) ?_
      exact j_ret_i F dX9_chance_25 rfl rfl rfl
def fX9_claim (σ : Mm) (a1 : Int32) : Int32 × Mm := if (fX9_tryAct σ 1 a1).1 < 0 then (((fX9_tryAct σ 1 a1).1, (fX9_tryAct σ 1 a1).2)) else (((fJ6_bitCount (((fX9_tryAct σ 1 a1).2).1 49 7)), (fX9_tryAct σ 1 a1).2))
set_option maxRecDepth 20000 in
theorem kX9_claim (l : Launch) (D : Dm) (a1 : Int32) (σ : Mm) (hx : vp_in (σ.1 4 1) 16) : Ct l yX9_claim cX9_claim 3 (some .int) 7 D [.ref (D.2.1 0), .int a1] σ (some (.int (fX9_claim σ a1).1), (fX9_claim σ a1).2) := by
  refine ct_of (by decide +kernel) (Nat.le_of_ble_eq_true rfl) (fun X F => ?_)
  have F : Fx X l 3 D cX9_claim RX9 7 (some .int) := F
  show JJ X 3 D σ 0 [(0, .ref (D.2.1 0)), (1, .int a1)] [] (QQ X D (some (.int (fX9_claim σ a1).1), (fX9_claim σ a1).2))
  rw [fX9_claim]
  refine j_aload_n F dX9_claim_0 1 rfl 0 rfl ?_
  refine j_iconst (v := 1) F dX9_claim_1 2 rfl (by decide) ?_
  refine j_iload_n F dX9_claim_2 3 rfl 1 rfl ?_
  refine j_callVr (as := [.int 1, .int a1]) (st := []) (r := .int ((fX9_tryAct σ 1 a1).1)) (σ9 := (fX9_tryAct σ 1 a1).2) F zX9_tryAct dX9_claim_3 6 rfl pX9_tryAct rfl (by decide) (by decide) (Nat.le_of_ble_eq_true rfl) rfl qX9_133 rfl rfl (by decide) sh0 (kX9_tryAct l D 1 a1 σ (by first | assumption | exact isThing_in (by assumption) (by assumption) | exact vin_mono (by assumption) (by decide) | omega | decide)) ?_
  refine j_istore_n F dX9_claim_6 7 rfl 2 rfl (by decide) [(2, .int ((fX9_tryAct σ 1 a1).1)), (0, .ref (D.2.1 0)), (1, .int a1)] rfl ?_
  refine j_iload_n F dX9_claim_7 8 rfl 0 rfl ?_
  refine j_if_ge F dX9_claim_8 15 (by decide) 11 rfl (fun c_8 => ?_) (fun c_8 => ?_)
  · rw [if_pos c_8]
    refine j_iload_n F dX9_claim_11 12 rfl 0 rfl ?_
    refine j_goto F dX9_claim_12 25 (by decide) ?_
    exact j_ret_i F dX9_claim_25 rfl rfl rfl
  · rw [if_neg c_8]
    refine j_aload_n F dX9_claim_15 16 rfl 1 rfl ?_
    refine j_get (j := 1) F dX9_claim_16 19 rfl inX9 rfl (by decide) sh0 (by decide) qX9_19 rfl ?_
    refine j_get (j := 7) F dX9_claim_19 22 rfl inX2 rfl (hsP.lt hs49) (shH hs49) (by decide) qX9_113 rfl ?_
    refine j_callSr (as := [.int (((fX9_tryAct σ 1 a1).2).1 49 7)]) (st := []) (r := .int (fJ6_bitCount (((fX9_tryAct σ 1 a1).2).1 49 7))) (σ9 := (fX9_tryAct σ 1 a1).2) F zJ6_bitCount dX9_claim_22 25 rfl pJ6_bitCount rfl (by decide) (by decide) (Nat.le_of_ble_eq_true rfl) rfl qX9_143 (kJ6_bitCount l D (((fX9_tryAct σ 1 a1).2).1 49 7) ((fX9_tryAct σ 1 a1).2)) ?_
    exact j_ret_i F dX9_claim_25 rfl rfl rfl
def fX9_copy (σ : Mm) (a1 : Int32) : Int32 := if (fX2_has σ 49 a1) = true then (if (fX9_holds (σ.1 49 7) a1) = true then ((fX5_leastCopy σ 49 a1)) else ((-3))) else ((-1))
set_option maxRecDepth 20000 in
theorem kX9_copy (l : Launch) (D : Dm) (a1 : Int32) (σ : Mm)  : Ct l yX9_copy cX9_copy 2 (some .int) 6 D [.ref (D.2.1 0), .int a1] σ (some (.int (fX9_copy σ a1)), σ) := by
  refine ct_of (by decide +kernel) (Nat.le_of_ble_eq_true rfl) (fun X F => ?_)
  have F : Fx X l 2 D cX9_copy RX9 6 (some .int) := F
  show JJ X 2 D σ 0 [(0, .ref (D.2.1 0)), (1, .int a1)] [] (QQ X D (some (.int (fX9_copy σ a1)), σ))
  rw [fX9_copy]
  refine j_aload_n F dX9_copy_0 1 rfl 0 rfl ?_
  refine j_get (j := 1) F dX9_copy_1 4 rfl inX9 rfl (by decide) sh0 (by decide) qX9_19 rfl ?_
  refine j_iload_n F dX9_copy_4 5 rfl 1 rfl ?_
  refine j_callVr (as := [.int a1]) (st := []) (r := .int (bi (fX2_has σ 49 a1))) (σ9 := σ) F zX2_has dX9_copy_5 8 rfl pX2_has rfl (by decide) (by decide) (Nat.le_of_ble_eq_true rfl) rfl qX9_97 rfl rfl (hsP.lt hs49) (shH hs49) (kX2_has l D 49 a1 σ hs49) ?_
  refine j_ifb_ne F dX9_copy_8 13 (by decide) 11 rfl (fun c_8 => ?_) (fun c_8 => ?_)
  · rw [if_neg c_8]
    refine j_iconst (v := (-1)) F dX9_copy_11 12 rfl (by decide) ?_
    exact j_ret_i F dX9_copy_12 rfl rfl rfl
  · rw [if_pos c_8]
    refine j_aload_n F dX9_copy_13 14 rfl 0 rfl ?_
    refine j_get (j := 1) F dX9_copy_14 17 rfl inX9 rfl (by decide) sh0 (by decide) qX9_19 rfl ?_
    refine j_get (j := 7) F dX9_copy_17 20 rfl inX2 rfl (hsP.lt hs49) (shH hs49) (by decide) qX9_113 rfl ?_
    refine j_iload_n F dX9_copy_20 21 rfl 1 rfl ?_
    refine j_callSr (as := [.int (σ.1 49 7), .int a1]) (st := []) (r := .int (bi (fX9_holds (σ.1 49 7) a1))) (σ9 := σ) F zX9_holds dX9_copy_21 24 rfl pX9_holds rfl (by decide) (by decide) (Nat.le_of_ble_eq_true rfl) rfl qX9_173 (kX9_holds l D (σ.1 49 7) a1 σ) ?_
    refine j_ifb_ne F dX9_copy_24 30 (by decide) 27 rfl (fun c_24 => ?_) (fun c_24 => ?_)
    · rw [if_neg c_24]
      refine j_bipush (v := (-3)) F dX9_copy_27 29 rfl (by decide) ?_
      exact j_ret_i F dX9_copy_29 rfl rfl rfl
    · rw [if_pos c_24]
      refine j_aload_n F dX9_copy_30 31 rfl 0 rfl ?_
      refine j_get (j := 6) F dX9_copy_31 34 rfl inX9 rfl (by decide) sh0 (by decide) qX9_40 rfl ?_
      refine j_aload_n F dX9_copy_34 35 rfl 0 rfl ?_
      refine j_get (j := 1) F dX9_copy_35 38 rfl inX9 rfl (by decide) sh0 (by decide) qX9_19 rfl ?_
      refine j_iload_n F dX9_copy_38 39 rfl 1 rfl ?_
      refine j_callVr (as := [.ref (D.2.1 49), .int a1]) (st := []) (r := .int (fX5_leastCopy σ 49 a1)) (σ9 := σ) F zX5_leastCopy dX9_copy_39 42 rfl pX5_leastCopy rfl (by decide) (by decide) (Nat.le_of_ble_eq_true rfl) rfl qX9_189 rfl rfl (by decide) sh6 (kX5_leastCopy l D 49 a1 σ hs49) ?_
      exact j_ret_i F dX9_copy_42 rfl rfl rfl
def fX9_count (σ : Mm) (a1 : Int32) : Int32 := if a1 = 0 then ((σ.1 2 1)) else if a1 = 1 then ((σ.1 49 1)) else if a1 = 2 then ((σ.1 49 2)) else if a1 = 3 then ((σ.1 49 3)) else if a1 = 4 then ((fX2_shown σ 49)) else if a1 = 5 then ((fX2_lastOnes σ 49)) else if a1 = 6 then ((σ.1 49 7)) else if a1 = 7 then ((fX2_unseen σ 49)) else if a1 = 8 then ((σ.1 49 5)) else if a1 = 9 then ((σ.1 4 2)) else if a1 = 10 then ((σ.1 26 5)) else ((-2))
set_option maxRecDepth 20000 in
theorem kX9_count (l : Launch) (D : Dm) (a1 : Int32) (σ : Mm)  : Ct l yX9_count cX9_count 2 (some .int) 6 D [.ref (D.2.1 0), .int a1] σ (some (.int (fX9_count σ a1)), σ) := by
  refine ct_of (by decide +kernel) (Nat.le_of_ble_eq_true rfl) (fun X F => ?_)
  have F : Fx X l 2 D cX9_count RX9 6 (some .int) := F
  show JJ X 2 D σ 0 [(0, .ref (D.2.1 0)), (1, .int a1)] [] (QQ X D (some (.int (fX9_count σ a1)), σ))
  rw [fX9_count]
  refine j_iload_n F dX9_count_0 1 rfl 1 rfl ?_
  refine j_by (a1 = 0) (fun c_1_0 => ?_) (fun c_1_0 => ?_)
  · rw [if_pos c_1_0]
    refine j_tin (z := 0) F dX9_count_1 c_1_0 (by decide) (by decide) (by decide) rfl 60 (by decide) ?_
    refine j_aload_n F dX9_count_60 61 rfl 0 rfl ?_
    refine j_get (j := 0) F dX9_count_61 64 rfl inX9 rfl (by decide) sh0 (by decide) qX9_10 rfl ?_
    refine j_get (j := 1) F dX9_count_64 67 rfl inX8 rfl (by decide) sh2 (by decide) qX9_76 rfl ?_
    exact j_ret_i F dX9_count_67 rfl rfl rfl
  · rw [if_neg c_1_0]
    refine j_by (a1 = 1) (fun c_1_1 => ?_) (fun c_1_1 => ?_)
    · rw [if_pos c_1_1]
      refine j_tin (z := 1) F dX9_count_1 c_1_1 (by decide) (by decide) (by decide) rfl 68 (by decide) ?_
      refine j_aload_n F dX9_count_68 69 rfl 0 rfl ?_
      refine j_get (j := 1) F dX9_count_69 72 rfl inX9 rfl (by decide) sh0 (by decide) qX9_19 rfl ?_
      refine j_get (j := 1) F dX9_count_72 75 rfl inX2 rfl (hsP.lt hs49) (shH hs49) (by decide) qX9_94 rfl ?_
      exact j_ret_i F dX9_count_75 rfl rfl rfl
    · rw [if_neg c_1_1]
      refine j_by (a1 = 2) (fun c_1_2 => ?_) (fun c_1_2 => ?_)
      · rw [if_pos c_1_2]
        refine j_tin (z := 2) F dX9_count_1 c_1_2 (by decide) (by decide) (by decide) rfl 76 (by decide) ?_
        refine j_aload_n F dX9_count_76 77 rfl 0 rfl ?_
        refine j_get (j := 1) F dX9_count_77 80 rfl inX9 rfl (by decide) sh0 (by decide) qX9_19 rfl ?_
        refine j_get (j := 2) F dX9_count_80 83 rfl inX2 rfl (hsP.lt hs49) (shH hs49) (by decide) qX9_119 rfl ?_
        exact j_ret_i F dX9_count_83 rfl rfl rfl
      · rw [if_neg c_1_2]
        refine j_by (a1 = 3) (fun c_1_3 => ?_) (fun c_1_3 => ?_)
        · rw [if_pos c_1_3]
          refine j_tin (z := 3) F dX9_count_1 c_1_3 (by decide) (by decide) (by decide) rfl 84 (by decide) ?_
          refine j_aload_n F dX9_count_84 85 rfl 0 rfl ?_
          refine j_get (j := 1) F dX9_count_85 88 rfl inX9 rfl (by decide) sh0 (by decide) qX9_19 rfl ?_
          refine j_get (j := 3) F dX9_count_88 91 rfl inX2 rfl (hsP.lt hs49) (shH hs49) (by decide) qX9_151 rfl ?_
          exact j_ret_i F dX9_count_91 rfl rfl rfl
        · rw [if_neg c_1_3]
          refine j_by (a1 = 4) (fun c_1_4 => ?_) (fun c_1_4 => ?_)
          · rw [if_pos c_1_4]
            refine j_tin (z := 4) F dX9_count_1 c_1_4 (by decide) (by decide) (by decide) rfl 92 (by decide) ?_
            refine j_aload_n F dX9_count_92 93 rfl 0 rfl ?_
            refine j_get (j := 1) F dX9_count_93 96 rfl inX9 rfl (by decide) sh0 (by decide) qX9_19 rfl ?_
            refine j_callVr (as := []) (st := []) (r := .int (fX2_shown σ 49)) (σ9 := σ) F zX2_shown dX9_count_96 99 rfl pX2_shown rfl (by decide) (by decide) (Nat.le_of_ble_eq_true rfl) rfl qX9_122 rfl rfl (hsP.lt hs49) (shH hs49) (kX2_shown l D 49 σ hs49) ?_
            exact j_ret_i F dX9_count_99 rfl rfl rfl
          · rw [if_neg c_1_4]
            refine j_by (a1 = 5) (fun c_1_5 => ?_) (fun c_1_5 => ?_)
            · rw [if_pos c_1_5]
              refine j_tin (z := 5) F dX9_count_1 c_1_5 (by decide) (by decide) (by decide) rfl 100 (by decide) ?_
              refine j_aload_n F dX9_count_100 101 rfl 0 rfl ?_
              refine j_get (j := 1) F dX9_count_101 104 rfl inX9 rfl (by decide) sh0 (by decide) qX9_19 rfl ?_
              refine j_callVr (as := []) (st := []) (r := .int (fX2_lastOnes σ 49)) (σ9 := σ) F zX2_lastOnes dX9_count_104 107 rfl pX2_lastOnes rfl (by decide) (by decide) (Nat.le_of_ble_eq_true rfl) rfl qX9_116 rfl rfl (hsP.lt hs49) (shH hs49) (kX2_lastOnes l D 49 σ hs49) ?_
              exact j_ret_i F dX9_count_107 rfl rfl rfl
            · rw [if_neg c_1_5]
              refine j_by (a1 = 6) (fun c_1_6 => ?_) (fun c_1_6 => ?_)
              · rw [if_pos c_1_6]
                refine j_tin (z := 6) F dX9_count_1 c_1_6 (by decide) (by decide) (by decide) rfl 108 (by decide) ?_
                refine j_aload_n F dX9_count_108 109 rfl 0 rfl ?_
                refine j_get (j := 1) F dX9_count_109 112 rfl inX9 rfl (by decide) sh0 (by decide) qX9_19 rfl ?_
                refine j_get (j := 7) F dX9_count_112 115 rfl inX2 rfl (hsP.lt hs49) (shH hs49) (by decide) qX9_113 rfl ?_
                exact j_ret_i F dX9_count_115 rfl rfl rfl
              · rw [if_neg c_1_6]
                refine j_by (a1 = 7) (fun c_1_7 => ?_) (fun c_1_7 => ?_)
                · rw [if_pos c_1_7]
                  refine j_tin (z := 7) F dX9_count_1 c_1_7 (by decide) (by decide) (by decide) rfl 116 (by decide) ?_
                  refine j_aload_n F dX9_count_116 117 rfl 0 rfl ?_
                  refine j_get (j := 1) F dX9_count_117 120 rfl inX9 rfl (by decide) sh0 (by decide) qX9_19 rfl ?_
                  refine j_callVr (as := []) (st := []) (r := .int (fX2_unseen σ 49)) (σ9 := σ) F zX2_unseen dX9_count_120 123 rfl pX2_unseen rfl (by decide) (by decide) (Nat.le_of_ble_eq_true rfl) rfl qX9_258 rfl rfl (hsP.lt hs49) (shH hs49) (kX2_unseen l D 49 σ hs49) ?_
                  exact j_ret_i F dX9_count_123 rfl rfl rfl
                · rw [if_neg c_1_7]
                  refine j_by (a1 = 8) (fun c_1_8 => ?_) (fun c_1_8 => ?_)
                  · rw [if_pos c_1_8]
                    refine j_tin (z := 8) F dX9_count_1 c_1_8 (by decide) (by decide) (by decide) rfl 124 (by decide) ?_
                    refine j_aload_n F dX9_count_124 125 rfl 0 rfl ?_
                    refine j_get (j := 1) F dX9_count_125 128 rfl inX9 rfl (by decide) sh0 (by decide) qX9_19 rfl ?_
                    refine j_get (j := 5) F dX9_count_128 131 rfl inX2 rfl (hsP.lt hs49) (shH hs49) (by decide) qX9_107 rfl ?_
                    exact j_ret_i F dX9_count_131 rfl rfl rfl
                  · rw [if_neg c_1_8]
                    refine j_by (a1 = 9) (fun c_1_9 => ?_) (fun c_1_9 => ?_)
                    · rw [if_pos c_1_9]
                      refine j_tin (z := 9) F dX9_count_1 c_1_9 (by decide) (by decide) (by decide) rfl 132 (by decide) ?_
                      refine j_aload_n F dX9_count_132 133 rfl 0 rfl ?_
                      refine j_get (j := 3) F dX9_count_133 136 rfl inX9 rfl (by decide) sh0 (by decide) qX9_29 rfl ?_
                      refine j_get (j := 2) F dX9_count_136 139 rfl inX6 rfl (by decide) sh4 (by decide) qX9_158 rfl ?_
                      exact j_ret_i F dX9_count_139 rfl rfl rfl
                    · rw [if_neg c_1_9]
                      refine j_by (a1 = 10) (fun c_1_10 => ?_) (fun c_1_10 => ?_)
                      · rw [if_pos c_1_10]
                        refine j_tin (z := 10) F dX9_count_1 c_1_10 (by decide) (by decide) (by decide) rfl 140 (by decide) ?_
                        refine j_aload_n F dX9_count_140 141 rfl 0 rfl ?_
                        refine j_get (j := 8) F dX9_count_141 144 rfl inX9 rfl (by decide) sh0 (by decide) qX9_54 rfl ?_
                        refine j_get (j := 5) F dX9_count_144 147 rfl inX7 rfl (by decide) sh26 (by decide) qX9_212 rfl ?_
                        exact j_ret_i F dX9_count_147 rfl rfl rfl
                      · rw [if_neg c_1_10]
                        refine j_tout F dX9_count_1 (by have e0 := lv_neT c_1_0 (show (0 : Int32).toInt = 0 from by decide); have e1 := lv_neT c_1_1 (show (1 : Int32).toInt = 1 from by decide); have e2 := lv_neT c_1_2 (show (2 : Int32).toInt = 2 from by decide); have e3 := lv_neT c_1_3 (show (3 : Int32).toInt = 3 from by decide); have e4 := lv_neT c_1_4 (show (4 : Int32).toInt = 4 from by decide); have e5 := lv_neT c_1_5 (show (5 : Int32).toInt = 5 from by decide); have e6 := lv_neT c_1_6 (show (6 : Int32).toInt = 6 from by decide); have e7 := lv_neT c_1_7 (show (7 : Int32).toInt = 7 from by decide); have e8 := lv_neT c_1_8 (show (8 : Int32).toInt = 8 from by decide); have e9 := lv_neT c_1_9 (show (9 : Int32).toInt = 9 from by decide); have e10 := lv_neT c_1_10 (show (10 : Int32).toInt = 10 from by decide); omega) 148 (by decide) ?_
                        refine j_bipush (v := (-2)) F dX9_count_148 150 rfl (by decide) ?_
                        exact j_ret_i F dX9_count_150 rfl rfl rfl
def fX9_fault (σ : Mm)  : Int32 := (fX8_firstFault σ)
set_option maxRecDepth 20000 in
theorem kX9_fault (l : Launch) (D : Dm)  (σ : Mm)  : Ct l yX9_fault cX9_fault 1 (some .int) 5 D [.ref (D.2.1 0)] σ (some (.int (fX9_fault σ)), σ) := by
  refine ct_of (by decide +kernel) (Nat.le_of_ble_eq_true rfl) (fun X F => ?_)
  have F : Fx X l 1 D cX9_fault RX9 5 (some .int) := F
  show JJ X 1 D σ 0 [(0, .ref (D.2.1 0))] [] (QQ X D (some (.int (fX9_fault σ)), σ))
  rw [fX9_fault]
  refine j_aload_n F dX9_fault_0 1 rfl 0 rfl ?_
  refine j_get (j := 0) F dX9_fault_1 4 rfl inX9 rfl (by decide) sh0 (by decide) qX9_10 rfl ?_
  refine j_callVr (as := []) (st := []) (r := .int (fX8_firstFault σ)) (σ9 := σ) F zX8_firstFault dX9_fault_4 7 rfl pX8_firstFault rfl (by decide) (by decide) (Nat.le_of_ble_eq_true rfl) rfl qX9_80 rfl rfl (by decide) sh2 (kX8_firstFault l D σ) ?_
  exact j_ret_i F dX9_fault_7 rfl rfl rfl
def fX9_forge (σ : Mm) (a1 : Int32) (a2 : Int32) : Int32 × Mm := if 0 ≤ a1 then (if a1 ≤ 9999 then (if 0 ≤ a2 then (if 3 ≤ a2 then (((-2), σ)) else (if 8 ≤ (σ.1 49 1) then (((-4), σ)) else (((fX2_addForged (fX6_remember σ 49) 49 a1 a2).1, (fX2_addForged (fX6_remember σ 49) 49 a1 a2).2)))) else (((-2), σ))) else (((-2), σ))) else (((-2), σ))
set_option maxRecDepth 20000 in
theorem kX9_forge (l : Launch) (D : Dm) (a1 : Int32) (a2 : Int32) (σ : Mm) (hx : vp_in (σ.1 4 1) 16) : Ct l yX9_forge cX9_forge 3 (some .int) 5 D [.ref (D.2.1 0), .int a1, .int a2] σ (some (.int (fX9_forge σ a1 a2).1), (fX9_forge σ a1 a2).2) := by
  refine ct_of (by decide +kernel) (Nat.le_of_ble_eq_true rfl) (fun X F => ?_)
  have F : Fx X l 3 D cX9_forge RX9 5 (some .int) := F
  show JJ X 3 D σ 0 [(0, .ref (D.2.1 0)), (1, .int a1), (2, .int a2)] [] (QQ X D (some (.int (fX9_forge σ a1 a2).1), (fX9_forge σ a1 a2).2))
  rw [fX9_forge]
  refine j_iload_n F dX9_forge_0 1 rfl 1 rfl ?_
  refine j_if_lt F dX9_forge_1 20 (by decide) 4 rfl (fun c_1 => ?_) (fun c_1 => ?_)
  · rw [if_pos c_1]
    refine j_iload_n F dX9_forge_4 5 rfl 1 rfl ?_
    refine j_sipush (v := 9999) F dX9_forge_5 8 rfl (by decide) ?_
    refine j_icmp_gt F dX9_forge_8 20 (by decide) 11 rfl (fun c_8 => ?_) (fun c_8 => ?_)
    · rw [if_pos c_8]
      refine j_iload_n F dX9_forge_11 12 rfl 2 rfl ?_
      refine j_if_lt F dX9_forge_12 20 (by decide) 15 rfl (fun c_12 => ?_) (fun c_12 => ?_)
      · rw [if_pos c_12]
        refine j_iload_n F dX9_forge_15 16 rfl 2 rfl ?_
        refine j_iconst (v := 3) F dX9_forge_16 17 rfl (by decide) ?_
        refine j_icmp_lt F dX9_forge_17 23 (by decide) 20 rfl (fun c_17 => ?_) (fun c_17 => ?_)
        · rw [if_pos c_17]
          refine j_bipush (v := (-2)) F dX9_forge_20 22 rfl (by decide) ?_
          exact j_ret_i F dX9_forge_22 rfl rfl rfl
        · rw [if_neg c_17]
          refine j_aload_n F dX9_forge_23 24 rfl 0 rfl ?_
          refine j_get (j := 1) F dX9_forge_24 27 rfl inX9 rfl (by decide) sh0 (by decide) qX9_19 rfl ?_
          refine j_get (j := 1) F dX9_forge_27 30 rfl inX2 rfl (hsP.lt hs49) (shH hs49) (by decide) qX9_94 rfl ?_
          refine j_bipush (v := 8) F dX9_forge_30 32 rfl (by decide) ?_
          refine j_icmp_lt F dX9_forge_32 38 (by decide) 35 rfl (fun c_32 => ?_) (fun c_32 => ?_)
          · rw [if_pos c_32]
            refine j_bipush (v := (-4)) F dX9_forge_35 37 rfl (by decide) ?_
            exact j_ret_i F dX9_forge_37 rfl rfl rfl
          · rw [if_neg c_32]
            refine j_aload_n F dX9_forge_38 39 rfl 0 rfl ?_
            refine j_get (j := 3) F dX9_forge_39 42 rfl inX9 rfl (by decide) sh0 (by decide) qX9_29 rfl ?_
            refine j_aload_n F dX9_forge_42 43 rfl 0 rfl ?_
            refine j_get (j := 1) F dX9_forge_43 46 rfl inX9 rfl (by decide) sh0 (by decide) qX9_19 rfl ?_
            refine j_callVv (as := [.ref (D.2.1 49)]) (st := []) (σ9 := (fX6_remember σ 49)) F zX6_remember dX9_forge_46 49 rfl pX6_remember rfl (by decide) (by decide) (Nat.le_of_ble_eq_true rfl) rfl qX9_136 rfl rfl (by decide) sh4 (kX6_remember l D 49 σ hs49 (by first | assumption | exact isThing_in (by assumption) (by assumption) | exact vin_mono (by assumption) (by decide) | omega | decide)) ?_
            refine j_aload_n F dX9_forge_49 50 rfl 0 rfl ?_
            refine j_get (j := 1) F dX9_forge_50 53 rfl inX9 rfl (by decide) sh0 (by decide) qX9_19 rfl ?_
            refine j_iload_n F dX9_forge_53 54 rfl 1 rfl ?_
            refine j_iload_n F dX9_forge_54 55 rfl 2 rfl ?_
            refine j_callVr (as := [.int a1, .int a2]) (st := []) (r := .int ((fX2_addForged (fX6_remember σ 49) 49 a1 a2).1)) (σ9 := (fX2_addForged (fX6_remember σ 49) 49 a1 a2).2) F zX2_addForged dX9_forge_55 58 rfl pX2_addForged rfl (by decide) (by decide) (Nat.le_of_ble_eq_true rfl) rfl qX9_140 rfl rfl (hsP.lt hs49) (shH hs49) (kX2_addForged l D 49 a1 a2 (fX6_remember σ 49) hs49) ?_
            exact j_ret_i F dX9_forge_58 rfl rfl rfl
      · rw [if_neg c_12]
        refine j_bipush (v := (-2)) F dX9_forge_20 22 rfl (by decide) ?_
        exact j_ret_i F dX9_forge_22 rfl rfl rfl
    · rw [if_neg c_8]
      refine j_bipush (v := (-2)) F dX9_forge_20 22 rfl (by decide) ?_
      exact j_ret_i F dX9_forge_22 rfl rfl rfl
  · rw [if_neg c_1]
    refine j_bipush (v := (-2)) F dX9_forge_20 22 rfl (by decide) ?_
    exact j_ret_i F dX9_forge_22 rfl rfl rfl
def fX9_guard (σ : Mm) (a1 : Int32) : Int32 × Mm := if (fX9_tryAct σ 3 a1).1 < 0 then (((fX9_tryAct σ 3 a1).1, (fX9_tryAct σ 3 a1).2)) else (((((((fX9_tryAct σ 3 a1).2).1 49 4) >>> (a1 &&& 31)) &&& 1), (fX9_tryAct σ 3 a1).2))
set_option maxRecDepth 20000 in
theorem kX9_guard (l : Launch) (D : Dm) (a1 : Int32) (σ : Mm) (hx : vp_in (σ.1 4 1) 16) : Ct l yX9_guard cX9_guard 3 (some .int) 7 D [.ref (D.2.1 0), .int a1] σ (some (.int (fX9_guard σ a1).1), (fX9_guard σ a1).2) := by
  refine ct_of (by decide +kernel) (Nat.le_of_ble_eq_true rfl) (fun X F => ?_)
  have F : Fx X l 3 D cX9_guard RX9 7 (some .int) := F
  show JJ X 3 D σ 0 [(0, .ref (D.2.1 0)), (1, .int a1)] [] (QQ X D (some (.int (fX9_guard σ a1).1), (fX9_guard σ a1).2))
  rw [fX9_guard]
  refine j_aload_n F dX9_guard_0 1 rfl 0 rfl ?_
  refine j_iconst (v := 3) F dX9_guard_1 2 rfl (by decide) ?_
  refine j_iload_n F dX9_guard_2 3 rfl 1 rfl ?_
  refine j_callVr (as := [.int 3, .int a1]) (st := []) (r := .int ((fX9_tryAct σ 3 a1).1)) (σ9 := (fX9_tryAct σ 3 a1).2) F zX9_tryAct dX9_guard_3 6 rfl pX9_tryAct rfl (by decide) (by decide) (Nat.le_of_ble_eq_true rfl) rfl qX9_133 rfl rfl (by decide) sh0 (kX9_tryAct l D 3 a1 σ (by first | assumption | exact isThing_in (by assumption) (by assumption) | exact vin_mono (by assumption) (by decide) | omega | decide)) ?_
  refine j_istore_n F dX9_guard_6 7 rfl 2 rfl (by decide) [(2, .int ((fX9_tryAct σ 3 a1).1)), (0, .ref (D.2.1 0)), (1, .int a1)] rfl ?_
  refine j_iload_n F dX9_guard_7 8 rfl 0 rfl ?_
  refine j_if_ge F dX9_guard_8 15 (by decide) 11 rfl (fun c_8 => ?_) (fun c_8 => ?_)
  · rw [if_pos c_8]
    refine j_iload_n F dX9_guard_11 12 rfl 0 rfl ?_
    refine j_goto F dX9_guard_12 26 (by decide) ?_
    exact j_ret_i F dX9_guard_26 rfl rfl rfl
  · rw [if_neg c_8]
    refine j_aload_n F dX9_guard_15 16 rfl 1 rfl ?_
    refine j_get (j := 1) F dX9_guard_16 19 rfl inX9 rfl (by decide) sh0 (by decide) qX9_19 rfl ?_
    refine j_get (j := 4) F dX9_guard_19 22 rfl inX2 rfl (hsP.lt hs49) (shH hs49) (by decide) qX9_104 rfl ?_
    refine j_iload_n F dX9_guard_22 23 rfl 2 rfl ?_
    refine j_ishr F dX9_guard_23 24 rfl ?_
    refine j_iconst (v := 1) F dX9_guard_24 25 rfl (by decide) ?_
    refine j_iand F dX9_guard_25 26 rfl ?_
    exact j_ret_i F dX9_guard_26 rfl rfl rfl
def fX9_hide (σ : Mm) (a1 : Int32) : Int32 × Mm := if (fX9_tryAct σ 2 a1).1 < 0 then (((fX9_tryAct σ 2 a1).1, (fX9_tryAct σ 2 a1).2)) else (((((((fX9_tryAct σ 2 a1).2).1 49 6) >>> (a1 &&& 31)) &&& 1), (fX9_tryAct σ 2 a1).2))
set_option maxRecDepth 20000 in
theorem kX9_hide (l : Launch) (D : Dm) (a1 : Int32) (σ : Mm) (hx : vp_in (σ.1 4 1) 16) : Ct l yX9_hide cX9_hide 3 (some .int) 7 D [.ref (D.2.1 0), .int a1] σ (some (.int (fX9_hide σ a1).1), (fX9_hide σ a1).2) := by
  refine ct_of (by decide +kernel) (Nat.le_of_ble_eq_true rfl) (fun X F => ?_)
  have F : Fx X l 3 D cX9_hide RX9 7 (some .int) := F
  show JJ X 3 D σ 0 [(0, .ref (D.2.1 0)), (1, .int a1)] [] (QQ X D (some (.int (fX9_hide σ a1).1), (fX9_hide σ a1).2))
  rw [fX9_hide]
  refine j_aload_n F dX9_hide_0 1 rfl 0 rfl ?_
  refine j_iconst (v := 2) F dX9_hide_1 2 rfl (by decide) ?_
  refine j_iload_n F dX9_hide_2 3 rfl 1 rfl ?_
  refine j_callVr (as := [.int 2, .int a1]) (st := []) (r := .int ((fX9_tryAct σ 2 a1).1)) (σ9 := (fX9_tryAct σ 2 a1).2) F zX9_tryAct dX9_hide_3 6 rfl pX9_tryAct rfl (by decide) (by decide) (Nat.le_of_ble_eq_true rfl) rfl qX9_133 rfl rfl (by decide) sh0 (kX9_tryAct l D 2 a1 σ (by first | assumption | exact isThing_in (by assumption) (by assumption) | exact vin_mono (by assumption) (by decide) | omega | decide)) ?_
  refine j_istore_n F dX9_hide_6 7 rfl 2 rfl (by decide) [(2, .int ((fX9_tryAct σ 2 a1).1)), (0, .ref (D.2.1 0)), (1, .int a1)] rfl ?_
  refine j_iload_n F dX9_hide_7 8 rfl 0 rfl ?_
  refine j_if_ge F dX9_hide_8 15 (by decide) 11 rfl (fun c_8 => ?_) (fun c_8 => ?_)
  · rw [if_pos c_8]
    refine j_iload_n F dX9_hide_11 12 rfl 0 rfl ?_
    refine j_goto F dX9_hide_12 26 (by decide) ?_
    exact j_ret_i F dX9_hide_26 rfl rfl rfl
  · rw [if_neg c_8]
    refine j_aload_n F dX9_hide_15 16 rfl 1 rfl ?_
    refine j_get (j := 1) F dX9_hide_16 19 rfl inX9 rfl (by decide) sh0 (by decide) qX9_19 rfl ?_
    refine j_get (j := 6) F dX9_hide_19 22 rfl inX2 rfl (hsP.lt hs49) (shH hs49) (by decide) qX9_110 rfl ?_
    refine j_iload_n F dX9_hide_22 23 rfl 2 rfl ?_
    refine j_ishr F dX9_hide_23 24 rfl ?_
    refine j_iconst (v := 1) F dX9_hide_24 25 rfl (by decide) ?_
    refine j_iand F dX9_hide_25 26 rfl ?_
    exact j_ret_i F dX9_hide_26 rfl rfl rfl
def fX9_house_33   (s_33 : Mm) : Int32 × Mm := (((up s_33 0 5 0).1 49 1), (up s_33 0 5 0))
def fX9_house (σ : Mm)  : Int32 × Mm := if (fX8_firstFault σ) = (-9) then (fX9_house_33 (fX6_clear (fX2_readFrom σ 49))) else (((-3), σ))
set_option maxRecDepth 20000 in
theorem kX9_house (l : Launch) (D : Dm)  (σ : Mm)  : Ct l yX9_house cX9_house 1 (some .int) 5 D [.ref (D.2.1 0)] σ (some (.int (fX9_house σ).1), (fX9_house σ).2) := by
  refine ct_of (by decide +kernel) (Nat.le_of_ble_eq_true rfl) (fun X F => ?_)
  have F : Fx X l 1 D cX9_house RX9 5 (some .int) := F
  show JJ X 1 D σ 0 [(0, .ref (D.2.1 0))] [] (QQ X D (some (.int (fX9_house σ).1), (fX9_house σ).2))
  rw [fX9_house]
  refine j_aload_n F dX9_house_0 1 rfl 0 rfl ?_
  refine j_get (j := 0) F dX9_house_1 4 rfl inX9 rfl (by decide) sh0 (by decide) qX9_10 rfl ?_
  refine j_callVr (as := []) (st := []) (r := .int (fX8_firstFault σ)) (σ9 := σ) F zX8_firstFault dX9_house_4 7 rfl pX8_firstFault rfl (by decide) (by decide) (Nat.le_of_ble_eq_true rfl) rfl qX9_80 rfl rfl (by decide) sh2 (kX8_firstFault l D σ) ?_
  refine j_bipush (v := (-9)) F dX9_house_7 9 rfl (by decide) ?_
  refine j_icmp_eq F dX9_house_9 15 (by decide) 12 rfl (fun c_9 => ?_) (fun c_9 => ?_)
  · rw [if_neg c_9]
    refine j_bipush (v := (-3)) F dX9_house_12 14 rfl (by decide) ?_
    exact j_ret_i F dX9_house_14 rfl rfl rfl
  · rw [if_pos c_9]
    refine j_aload_n F dX9_house_15 16 rfl 0 rfl ?_
    refine j_get (j := 1) F dX9_house_16 19 rfl inX9 rfl (by decide) sh0 (by decide) qX9_19 rfl ?_
    refine j_aload_n F dX9_house_19 20 rfl 0 rfl ?_
    refine j_get (j := 0) F dX9_house_20 23 rfl inX9 rfl (by decide) sh0 (by decide) qX9_10 rfl ?_
    refine j_callVv (as := [.ref (D.2.1 2)]) (st := []) (σ9 := (fX2_readFrom σ 49)) F zX2_readFrom dX9_house_23 26 rfl pX2_readFrom rfl (by decide) (by decide) (Nat.le_of_ble_eq_true rfl) rfl qX9_84 rfl rfl (hsP.lt hs49) (shH hs49) (kX2_readFrom l D 49 σ hs49) ?_
    refine j_aload_n F dX9_house_26 27 rfl 0 rfl ?_
    refine j_get (j := 3) F dX9_house_27 30 rfl inX9 rfl (by decide) sh0 (by decide) qX9_29 rfl ?_
    refine j_callVv (as := []) (st := []) (σ9 := (fX6_clear (fX2_readFrom σ 49))) F zX6_clear dX9_house_30 33 rfl pX6_clear rfl (by decide) (by decide) (Nat.le_of_ble_eq_true rfl) rfl qX9_88 rfl rfl (by decide) sh4 (kX6_clear l D (fX2_readFrom σ 49)) ?_
    have jn_33 : ∀ (s_33 : Mm), JJ X 1 D s_33 33 [(0, .ref (D.2.1 0))] [] (QQ X D (some (.int (fX9_house_33 s_33).1), (fX9_house_33 s_33).2)) := by
      intro s_33
      rw [fX9_house_33]
      refine j_aload_n F dX9_house_33 34 rfl 0 rfl ?_
      refine j_iconst (v := 0) F dX9_house_34 35 rfl (by decide) ?_
      refine j_put (j := 5) F dX9_house_35 38 rfl inX9 tyX9 tyX9_ok nmX9 rfl (by decide) sh0 sh0 (by decide) qX9_91 rfl (tyX9_ok 5 (by decide)) (Nat.le_of_ble_eq_true rfl) ?_
      refine j_aload_n F dX9_house_38 39 rfl 0 rfl ?_
      refine j_get (j := 1) F dX9_house_39 42 rfl inX9 rfl (by decide) sh0 (by decide) qX9_19 rfl ?_
      refine j_get (j := 1) F dX9_house_42 45 rfl inX2 rfl (hsP.lt hs49) (shH hs49) (by decide) qX9_94 rfl ?_
      exact j_ret_i F dX9_house_45 rfl rfl rfl
    exact jn_33 (fX6_clear (fX2_readFrom σ 49)) 
def mX9_judge_41 (a1 : Int32) (a2 : Int32)  : Nat := (a1 : Int32).toNatClampNeg
def fX9_judge_41 (a1 : Int32) (a2 : Int32)  : Nat → Mm → Nat → Int32 × Mm
  | 0, s_41, _ => (0, s_41)
  | n + 1, s_41, k3_41 => if (nI k3_41) < a1 then (if (fX2_canBe s_41 51 ((rm (fX9_withoutLast a2 ((a1 - 1) - (nI k3_41))) 100) / 10) (rm (rm (fX9_withoutLast a2 ((a1 - 1) - (nI k3_41))) 100) 10)) = true then (fX9_judge_41 a1 a2 n (fX2_perform s_41 51 ((rm (fX9_withoutLast a2 ((a1 - 1) - (nI k3_41))) 100) / 10) (rm (rm (fX9_withoutLast a2 ((a1 - 1) - (nI k3_41))) 100) 10)) (k3_41 + 1)) else (((nI k3_41), s_41))) else (((-9), s_41))
def fX9_judge (σ : Mm) (a1 : Int32) (a2 : Int32) : Int32 × Mm := if 1 ≤ a1 then (if 4 < a1 then (((-2), σ)) else (if 0 ≤ a2 then (if (fX9_withoutLast a2 a1) = 0 then (fX9_judge_41 a1 a2 (mX9_judge_41 a1 a2 + 1) (fX2_copyFrom σ 51 49) 0) else (((-2), σ))) else (((-2), σ)))) else (((-2), σ))
set_option maxRecDepth 20000 in
theorem kX9_judge (l : Launch) (D : Dm) (a1 : Int32) (a2 : Int32) (σ : Mm)  : Ct l yX9_judge cX9_judge 7 (some .int) 6 D [.ref (D.2.1 0), .int a1, .int a2] σ (some (.int (fX9_judge σ a1 a2).1), (fX9_judge σ a1 a2).2) := by
  refine ct_of (by decide +kernel) (Nat.le_of_ble_eq_true rfl) (fun X F => ?_)
  have F : Fx X l 7 D cX9_judge RX9 6 (some .int) := F
  show JJ X 7 D σ 0 [(0, .ref (D.2.1 0)), (1, .int a1), (2, .int a2)] [] (QQ X D (some (.int (fX9_judge σ a1 a2).1), (fX9_judge σ a1 a2).2))
  rw [fX9_judge]
  refine j_iload_n F dX9_judge_0 1 rfl 1 rfl ?_
  refine j_iconst (v := 1) F dX9_judge_1 2 rfl (by decide) ?_
  refine j_icmp_lt F dX9_judge_2 10 (by decide) 5 rfl (fun c_2 => ?_) (fun c_2 => ?_)
  · rw [if_pos c_2]
    refine j_iload_n F dX9_judge_5 6 rfl 1 rfl ?_
    refine j_iconst (v := 4) F dX9_judge_6 7 rfl (by decide) ?_
    refine j_icmp_le F dX9_judge_7 13 (by decide) 10 rfl (fun c_7 => ?_) (fun c_7 => ?_)
    · rw [if_pos c_7]
      refine j_bipush (v := (-2)) F dX9_judge_10 12 rfl (by decide) ?_
      exact j_ret_i F dX9_judge_12 rfl rfl rfl
    · rw [if_neg c_7]
      refine j_iload_n F dX9_judge_13 14 rfl 2 rfl ?_
      refine j_if_lt F dX9_judge_14 25 (by decide) 17 rfl (fun c_14 => ?_) (fun c_14 => ?_)
      · rw [if_pos c_14]
        refine j_iload_n F dX9_judge_17 18 rfl 2 rfl ?_
        refine j_iload_n F dX9_judge_18 19 rfl 1 rfl ?_
        refine j_callSr (as := [.int a2, .int a1]) (st := []) (r := .int (fX9_withoutLast a2 a1)) (σ9 := σ) F zX9_withoutLast dX9_judge_19 22 rfl pX9_withoutLast rfl (by decide) (by decide) (Nat.le_of_ble_eq_true rfl) rfl qX9_159 (kX9_withoutLast l D a2 a1 σ) ?_
        refine j_if_eq F dX9_judge_22 28 (by decide) 25 rfl (fun c_22 => ?_) (fun c_22 => ?_)
        · rw [if_neg c_22]
          refine j_bipush (v := (-2)) F dX9_judge_25 27 rfl (by decide) ?_
          exact j_ret_i F dX9_judge_27 rfl rfl rfl
        · rw [if_pos c_22]
          refine j_aload_n F dX9_judge_28 29 rfl 0 rfl ?_
          refine j_get (j := 2) F dX9_judge_29 32 rfl inX9 rfl (by decide) sh0 (by decide) qX9_23 rfl ?_
          refine j_aload_n F dX9_judge_32 33 rfl 0 rfl ?_
          refine j_get (j := 1) F dX9_judge_33 36 rfl inX9 rfl (by decide) sh0 (by decide) qX9_19 rfl ?_
          refine j_callVv (as := [.ref (D.2.1 49)]) (st := []) (σ9 := (fX2_copyFrom σ 51 49)) F zX2_copyFrom dX9_judge_36 39 rfl pX2_copyFrom rfl (by decide) (by decide) (Nat.le_of_ble_eq_true rfl) rfl qX9_162 rfl rfl (hsP.lt hs51) (shH hs51) (kX2_copyFrom l D 51 49 σ hs51 hs49) ?_
          refine j_iconst (v := 0) F dX9_judge_39 40 rfl (by decide) ?_
          refine j_istore_n F dX9_judge_40 41 rfl 3 rfl (by decide) [(3, .int 0), (0, .ref (D.2.1 0)), (1, .int a1), (2, .int a2)] rfl ?_
          have lp_41 : ∀ (n_41 : Nat) (s_41 : Mm) (k3_41 : Nat), k3_41 ≤ ((a1 : Int32).toNatClampNeg) → ((a1 : Int32).toNatClampNeg) < k3_41 + n_41 → JJ X 7 D s_41 41 [(0, .ref (D.2.1 0)), (1, .int a1), (2, .int a2), (3, .int (nI k3_41))] [] (QQ X D (some (.int (fX9_judge_41 a1 a2 n_41 s_41 k3_41).1), (fX9_judge_41 a1 a2 n_41 s_41 k3_41).2)) := by
            intro n_41
            induction n_41 with
            | zero => intro s_41 k3_41 hk_41 hn_41; exact absurd hn_41 (by omega)
            | succ n_41 ih_41 =>
              intro s_41 k3_41 hk_41 hn_41
              rw [fX9_judge_41]
              refine j_iload_n F dX9_judge_41 42 rfl 3 rfl ?_
              refine j_iload_n F dX9_judge_42 43 rfl 1 rfl ?_
              refine j_icmp_ge F dX9_judge_43 107 (by decide) 46 rfl (fun c_43 => ?_) (fun c_43 => ?_)
              · rw [if_pos c_43]
                have h_43 : k3_41 < ((a1 : Int32).toNatClampNeg) := nltd c_43 hk_41
                refine j_iload_n F dX9_judge_46 47 rfl 2 rfl ?_
                refine j_iload_n F dX9_judge_47 48 rfl 1 rfl ?_
                refine j_iconst (v := 1) F dX9_judge_48 49 rfl (by decide) ?_
                refine j_isub F dX9_judge_49 50 rfl ?_
                refine j_iload_n F dX9_judge_50 51 rfl 3 rfl ?_
                refine j_isub F dX9_judge_51 52 rfl ?_
                refine j_callSr (as := [.int a2, .int ((a1 - 1) - (nI k3_41))]) (st := []) (r := .int (fX9_withoutLast a2 ((a1 - 1) - (nI k3_41)))) (σ9 := s_41) F zX9_withoutLast dX9_judge_52 55 rfl pX9_withoutLast rfl (by decide) (by decide) (Nat.le_of_ble_eq_true rfl) rfl qX9_159 (kX9_withoutLast l D a2 ((a1 - 1) - (nI k3_41)) s_41) ?_
                refine j_bipush (v := 100) F dX9_judge_55 57 rfl (by decide) ?_
                refine j_irem F dX9_judge_57 58 rfl (by decide) ?_
                refine j_istore F dX9_judge_58 60 rfl (by decide) [(4, .int (rm (fX9_withoutLast a2 ((a1 - 1) - (nI k3_41))) 100)), (0, .ref (D.2.1 0)), (1, .int a1), (2, .int a2), (3, .int (nI k3_41))] rfl ?_
                refine j_iload F dX9_judge_60 62 rfl 0 rfl ?_
                refine j_bipush (v := 10) F dX9_judge_62 64 rfl (by decide) ?_
                refine j_idiv F dX9_judge_64 65 rfl (by decide) ?_
                refine j_istore F dX9_judge_65 67 rfl (by decide) [(5, .int ((rm (fX9_withoutLast a2 ((a1 - 1) - (nI k3_41))) 100) / 10)), (4, .int (rm (fX9_withoutLast a2 ((a1 - 1) - (nI k3_41))) 100)), (0, .ref (D.2.1 0)), (1, .int a1), (2, .int a2), (3, .int (nI k3_41))] rfl ?_
                refine j_iload F dX9_judge_67 69 rfl 1 rfl ?_
                refine j_bipush (v := 10) F dX9_judge_69 71 rfl (by decide) ?_
                refine j_irem F dX9_judge_71 72 rfl (by decide) ?_
                refine j_istore F dX9_judge_72 74 rfl (by decide) [(6, .int (rm (rm (fX9_withoutLast a2 ((a1 - 1) - (nI k3_41))) 100) 10)), (5, .int ((rm (fX9_withoutLast a2 ((a1 - 1) - (nI k3_41))) 100) / 10)), (4, .int (rm (fX9_withoutLast a2 ((a1 - 1) - (nI k3_41))) 100)), (0, .ref (D.2.1 0)), (1, .int a1), (2, .int a2), (3, .int (nI k3_41))] rfl ?_
                refine j_aload_n F dX9_judge_74 75 rfl 3 rfl ?_
                refine j_get (j := 2) F dX9_judge_75 78 rfl inX9 rfl (by decide) sh0 (by decide) qX9_23 rfl ?_
                refine j_iload F dX9_judge_78 80 rfl 1 rfl ?_
                refine j_iload F dX9_judge_80 82 rfl 0 rfl ?_
                refine j_callVr (as := [.int ((rm (fX9_withoutLast a2 ((a1 - 1) - (nI k3_41))) 100) / 10), .int (rm (rm (fX9_withoutLast a2 ((a1 - 1) - (nI k3_41))) 100) 10)]) (st := []) (r := .int (bi (fX2_canBe s_41 51 ((rm (fX9_withoutLast a2 ((a1 - 1) - (nI k3_41))) 100) / 10) (rm (rm (fX9_withoutLast a2 ((a1 - 1) - (nI k3_41))) 100) 10)))) (σ9 := s_41) F zX2_canBe dX9_judge_82 85 rfl pX2_canBe rfl (by decide) (by decide) (Nat.le_of_ble_eq_true rfl) rfl qX9_165 rfl rfl (hsP.lt hs51) (shH hs51) (kX2_canBe l D 51 ((rm (fX9_withoutLast a2 ((a1 - 1) - (nI k3_41))) 100) / 10) (rm (rm (fX9_withoutLast a2 ((a1 - 1) - (nI k3_41))) 100) 10) s_41 hs51) ?_
                refine j_ifb_ne F dX9_judge_85 90 (by decide) 88 rfl (fun c_85 => ?_) (fun c_85 => ?_)
                · rw [if_neg c_85]
                  refine j_iload_n F dX9_judge_88 89 rfl 6 rfl ?_
                  exact j_ret_i F dX9_judge_89 rfl rfl rfl
                · rw [if_pos c_85]
                  refine j_aload_n F dX9_judge_90 91 rfl 3 rfl ?_
                  refine j_get (j := 2) F dX9_judge_91 94 rfl inX9 rfl (by decide) sh0 (by decide) qX9_23 rfl ?_
                  refine j_iload F dX9_judge_94 96 rfl 1 rfl ?_
                  refine j_iload F dX9_judge_96 98 rfl 0 rfl ?_
                  refine j_callVv (as := [.int ((rm (fX9_withoutLast a2 ((a1 - 1) - (nI k3_41))) 100) / 10), .int (rm (rm (fX9_withoutLast a2 ((a1 - 1) - (nI k3_41))) 100) 10)]) (st := []) (σ9 := (fX2_perform s_41 51 ((rm (fX9_withoutLast a2 ((a1 - 1) - (nI k3_41))) 100) / 10) (rm (rm (fX9_withoutLast a2 ((a1 - 1) - (nI k3_41))) 100) 10))) F zX2_perform dX9_judge_98 101 rfl pX2_perform rfl (by decide) (by decide) (Nat.le_of_ble_eq_true rfl) rfl qX9_169 rfl rfl (hsP.lt hs51) (shH hs51) (kX2_perform l D 51 ((rm (fX9_withoutLast a2 ((a1 - 1) - (nI k3_41))) 100) / 10) (rm (rm (fX9_withoutLast a2 ((a1 - 1) - (nI k3_41))) 100) 10) s_41 hs51) ?_
                  refine j_iinc F dX9_judge_101 104 rfl 6 rfl (nI (k3_41 + 1)) (nI_inc k3_41) (by decide) [(3, .int (nI (k3_41 + 1))), (6, .int (rm (rm (fX9_withoutLast a2 ((a1 - 1) - (nI k3_41))) 100) 10)), (5, .int ((rm (fX9_withoutLast a2 ((a1 - 1) - (nI k3_41))) 100) / 10)), (4, .int (rm (fX9_withoutLast a2 ((a1 - 1) - (nI k3_41))) 100)), (0, .ref (D.2.1 0)), (1, .int a1), (2, .int a2)] rfl ?_
                  refine j_goto F dX9_judge_104 41 (by decide) ?_
                  refine j_pick [4, 5, 6, 0] [(0, .ref (D.2.1 0)), (1, .int a1), (2, .int a2), (3, .int (nI (k3_41 + 1)))] rfl ?_
                  exact ih_41 (fX2_perform s_41 51 ((rm (fX9_withoutLast a2 ((a1 - 1) - (nI k3_41))) 100) / 10) (rm (rm (fX9_withoutLast a2 ((a1 - 1) - (nI k3_41))) 100) 10)) (k3_41 + 1) (by omega) (by omega)
              · rw [if_neg c_43]
                refine j_bipush (v := (-9)) F dX9_judge_107 109 rfl (by decide) ?_
                exact j_ret_i F dX9_judge_109 rfl rfl rfl
          refine j_pick [1, 2, 3, 0] [(0, .ref (D.2.1 0)), (1, .int a1), (2, .int a2), (3, .int 0)] rfl ?_
          exact lp_41 (mX9_judge_41 a1 a2 + 1) (fX2_copyFrom σ 51 49) 0 (Nat.zero_le _) (by show ((a1 : Int32).toNatClampNeg) < 0 + (((a1 : Int32).toNatClampNeg) + 1); omega)
      · rw [if_neg c_14]
        refine j_bipush (v := (-2)) F dX9_judge_25 27 rfl (by decide) ?_
        exact j_ret_i F dX9_judge_27 rfl rfl rfl
  · rw [if_neg c_2]
    refine j_bipush (v := (-2)) F dX9_judge_10 12 rfl (by decide) ?_
    exact j_ret_i F dX9_judge_12 rfl rfl rfl
def fX9_keep_32 (a1 : Int32)  (s_32 : Mm) : Int32 × Mm := ((s_32.1 49 1), s_32)
def fX9_keep (σ : Mm) (a1 : Int32) : Int32 × Mm := fX9_keep_32 a1 (up (fX2_copyFrom σ (fX9_slotAt σ a1) 49) 0 5 (((fX2_copyFrom σ (fX9_slotAt σ a1) 49).1 0 5) ||| (1 <<< (a1 &&& 31))))
set_option maxRecDepth 20000 in
theorem kX9_keep (l : Launch) (D : Dm) (a1 : Int32) (σ : Mm) (hv : vp_in a1 2) : Ct l yX9_keep cX9_keep 3 (some .int) 3 D [.ref (D.2.1 0), .int a1] σ (some (.int (fX9_keep σ a1).1), (fX9_keep σ a1).2) := by
  refine ct_of (by decide +kernel) (Nat.le_of_ble_eq_true rfl) (fun X F => ?_)
  have F : Fx X l 3 D cX9_keep RX9 3 (some .int) := F
  show JJ X 3 D σ 0 [(0, .ref (D.2.1 0)), (1, .int a1)] [] (QQ X D (some (.int (fX9_keep σ a1).1), (fX9_keep σ a1).2))
  rw [fX9_keep]
  refine j_aload_n F dX9_keep_0 1 rfl 0 rfl ?_
  refine j_iload_n F dX9_keep_1 2 rfl 1 rfl ?_
  refine j_callVr (as := [.int a1]) (st := []) (r := .ref (D.2.1 (fX9_slotAt σ a1))) (σ9 := σ) F zX9_slotAt dX9_keep_2 5 rfl pX9_slotAt rfl (by decide) (by decide) (Nat.le_of_ble_eq_true rfl) rfl qX9_254 rfl rfl (by decide) sh0 (kX9_slotAt l D a1 σ (by first | assumption | exact isThing_in (by assumption) (by assumption) | exact vin_mono (by assumption) (by decide) | omega | decide)) ?_
  refine j_astore_n F dX9_keep_5 6 rfl 2 rfl (by decide) [(2, .ref (D.2.1 (fX9_slotAt σ a1))), (0, .ref (D.2.1 0)), (1, .int a1)] rfl ?_
  refine j_aload_n F dX9_keep_6 7 rfl 0 rfl ?_
  refine j_nonnull F dX9_keep_7 12 (by decide) ?_
  refine j_aload_n F dX9_keep_12 13 rfl 0 rfl ?_
  refine j_aload_n F dX9_keep_13 14 rfl 1 rfl ?_
  refine j_get (j := 1) F dX9_keep_14 17 rfl inX9 rfl (by decide) sh0 (by decide) qX9_19 rfl ?_
  refine j_callVv (as := [.ref (D.2.1 49)]) (st := []) (σ9 := (fX2_copyFrom σ (fX9_slotAt σ a1) 49)) F zX2_copyFrom dX9_keep_17 20 rfl pX2_copyFrom rfl (by decide) (by decide) (Nat.le_of_ble_eq_true rfl) rfl qX9_162 rfl rfl (hsP.lt (hsS (by first | assumption | exact isThing_in (by assumption) (by assumption) | exact vin_mono (by assumption) (by decide) | omega | decide))) (shH (hsS (by first | assumption | exact isThing_in (by assumption) (by assumption) | exact vin_mono (by assumption) (by decide) | omega | decide))) (kX2_copyFrom l D (fX9_slotAt σ a1) 49 σ (hsS (by first | assumption | exact isThing_in (by assumption) (by assumption) | exact vin_mono (by assumption) (by decide) | omega | decide)) hs49) ?_
  refine j_aload_n F dX9_keep_20 21 rfl 1 rfl ?_
  refine j_dup F dX9_keep_21 22 rfl rfl ?_
  refine j_get (j := 5) F dX9_keep_22 25 rfl inX9 rfl (by decide) sh0 (by decide) qX9_91 rfl ?_
  refine j_iconst (v := 1) F dX9_keep_25 26 rfl (by decide) ?_
  refine j_iload_n F dX9_keep_26 27 rfl 2 rfl ?_
  refine j_ishl F dX9_keep_27 28 rfl ?_
  refine j_ior F dX9_keep_28 29 rfl ?_
  refine j_put (j := 5) F dX9_keep_29 32 rfl inX9 tyX9 tyX9_ok nmX9 rfl (by decide) sh0 sh0 (by decide) qX9_91 rfl (tyX9_ok 5 (by decide)) (Nat.le_of_ble_eq_true rfl) ?_
  refine j_pick [1] [(0, .ref (D.2.1 0))] rfl ?_
  have jn_32 : ∀ (s_32 : Mm), JJ X 3 D s_32 32 [(0, .ref (D.2.1 0))] [] (QQ X D (some (.int (fX9_keep_32 a1 s_32).1), (fX9_keep_32 a1 s_32).2)) := by
    intro s_32
    rw [fX9_keep_32]
    refine j_aload_n F dX9_keep_32 33 rfl 0 rfl ?_
    refine j_get (j := 1) F dX9_keep_33 36 rfl inX9 rfl (by decide) sh0 (by decide) qX9_19 rfl ?_
    refine j_get (j := 1) F dX9_keep_36 39 rfl inX2 rfl (hsP.lt hs49) (shH hs49) (by decide) qX9_94 rfl ?_
    exact j_ret_i F dX9_keep_39 rfl rfl rfl
  exact jn_32 (up (fX2_copyFrom σ (fX9_slotAt σ a1) 49) 0 5 (((fX2_copyFrom σ (fX9_slotAt σ a1) 49).1 0 5) ||| (1 <<< (a1 &&& 31)))) 
def fX9_price (σ : Mm) (a1 : Int32) : Int32 := if (fX2_has σ 49 a1) = true then ((fX2_priceOf σ 49 a1)) else ((-1))
set_option maxRecDepth 20000 in
theorem kX9_price (l : Launch) (D : Dm) (a1 : Int32) (σ : Mm)  : Ct l yX9_price cX9_price 2 (some .int) 5 D [.ref (D.2.1 0), .int a1] σ (some (.int (fX9_price σ a1)), σ) := by
  refine ct_of (by decide +kernel) (Nat.le_of_ble_eq_true rfl) (fun X F => ?_)
  have F : Fx X l 2 D cX9_price RX9 5 (some .int) := F
  show JJ X 2 D σ 0 [(0, .ref (D.2.1 0)), (1, .int a1)] [] (QQ X D (some (.int (fX9_price σ a1)), σ))
  rw [fX9_price]
  refine j_aload_n F dX9_price_0 1 rfl 0 rfl ?_
  refine j_get (j := 1) F dX9_price_1 4 rfl inX9 rfl (by decide) sh0 (by decide) qX9_19 rfl ?_
  refine j_iload_n F dX9_price_4 5 rfl 1 rfl ?_
  refine j_callVr (as := [.int a1]) (st := []) (r := .int (bi (fX2_has σ 49 a1))) (σ9 := σ) F zX2_has dX9_price_5 8 rfl pX2_has rfl (by decide) (by decide) (Nat.le_of_ble_eq_true rfl) rfl qX9_97 rfl rfl (hsP.lt hs49) (shH hs49) (kX2_has l D 49 a1 σ hs49) ?_
  refine j_ifb_eq F dX9_price_8 22 (by decide) 11 rfl (fun c_8 => ?_) (fun c_8 => ?_)
  · rw [if_pos c_8]
    refine j_aload_n F dX9_price_11 12 rfl 0 rfl ?_
    refine j_get (j := 1) F dX9_price_12 15 rfl inX9 rfl (by decide) sh0 (by decide) qX9_19 rfl ?_
    refine j_iload_n F dX9_price_15 16 rfl 1 rfl ?_
    refine j_callVr (as := [.int a1]) (st := []) (r := .int (fX2_priceOf σ 49 a1)) (σ9 := σ) F zX2_priceOf dX9_price_16 19 rfl pX2_priceOf rfl (by decide) (by decide) (Nat.le_of_ble_eq_true rfl) rfl qX9_129 rfl rfl (hsP.lt hs49) (shH hs49) (kX2_priceOf l D 49 a1 σ hs49) ?_
    refine j_goto F dX9_price_19 23 (by decide) ?_
    exact j_ret_i F dX9_price_23 rfl rfl rfl
  · rw [if_neg c_8]
    refine j_iconst (v := (-1)) F dX9_price_22 23 rfl (by decide) ?_
    exact j_ret_i F dX9_price_23 rfl rfl rfl
def fX9_rests (σ : Mm) (a1 : Int32) : Int32 × Mm := if 0 ≤ a1 then (if 4 < a1 then (((-2), σ)) else (if a1 = 0 then ((((fX4_weigh σ 49).1 7 5), (fX4_weigh σ 49))) else if a1 = 4 then (if 0 < ((fX4_weigh σ 49).1 7 5) then ((1, (fX4_weigh σ 49))) else ((0, (fX4_weigh σ 49)))) else (((fX4_firstChoice (fX4_weigh σ 49) (a1 - 1)), (fX4_weigh σ 49))))) else (((-2), σ))
set_option maxRecDepth 20000 in
theorem kX9_rests (l : Launch) (D : Dm) (a1 : Int32) (σ : Mm)  : Ct l yX9_rests cX9_rests 2 (some .int) 7 D [.ref (D.2.1 0), .int a1] σ (some (.int (fX9_rests σ a1).1), (fX9_rests σ a1).2) := by
  refine ct_of (by decide +kernel) (Nat.le_of_ble_eq_true rfl) (fun X F => ?_)
  have F : Fx X l 2 D cX9_rests RX9 7 (some .int) := F
  show JJ X 2 D σ 0 [(0, .ref (D.2.1 0)), (1, .int a1)] [] (QQ X D (some (.int (fX9_rests σ a1).1), (fX9_rests σ a1).2))
  rw [fX9_rests]
  refine j_iload_n F dX9_rests_0 1 rfl 1 rfl ?_
  refine j_if_lt F dX9_rests_1 9 (by decide) 4 rfl (fun c_1 => ?_) (fun c_1 => ?_)
  · rw [if_pos c_1]
    refine j_iload_n F dX9_rests_4 5 rfl 1 rfl ?_
    refine j_iconst (v := 4) F dX9_rests_5 6 rfl (by decide) ?_
    refine j_icmp_le F dX9_rests_6 12 (by decide) 9 rfl (fun c_6 => ?_) (fun c_6 => ?_)
    · rw [if_pos c_6]
      refine j_bipush (v := (-2)) F dX9_rests_9 11 rfl (by decide) ?_
      exact j_ret_i F dX9_rests_11 rfl rfl rfl
    · rw [if_neg c_6]
      refine j_aload_n F dX9_rests_12 13 rfl 0 rfl ?_
      refine j_get (j := 7) F dX9_rests_13 16 rfl inX9 rfl (by decide) sh0 (by decide) qX9_47 rfl ?_
      refine j_aload_n F dX9_rests_16 17 rfl 0 rfl ?_
      refine j_get (j := 1) F dX9_rests_17 20 rfl inX9 rfl (by decide) sh0 (by decide) qX9_19 rfl ?_
      refine j_callVv (as := [.ref (D.2.1 49)]) (st := []) (σ9 := (fX4_weigh σ 49)) F zX4_weigh dX9_rests_20 23 rfl pX4_weigh rfl (by decide) (by decide) (Nat.le_of_ble_eq_true rfl) rfl qX9_200 rfl rfl (by decide) sh7 (kX4_weigh l D 49 σ hs49) ?_
      refine j_iload_n F dX9_rests_23 24 rfl 1 rfl ?_
      refine j_by (a1 = 0) (fun c_24_0 => ?_) (fun c_24_0 => ?_)
      · rw [if_pos c_24_0]
        refine j_lsw (off := 28) F dX9_rests_24 (by decide) (by rw [c_24_0]; decide) 52 (by decide) ?_
        refine j_aload_n F dX9_rests_52 53 rfl 0 rfl ?_
        refine j_get (j := 7) F dX9_rests_53 56 rfl inX9 rfl (by decide) sh0 (by decide) qX9_47 rfl ?_
        refine j_get (j := 5) F dX9_rests_56 59 rfl inX4 rfl (by decide) sh7 (by decide) qX9_203 rfl ?_
        exact j_ret_i F dX9_rests_59 rfl rfl rfl
      · rw [if_neg c_24_0]
        refine j_by (a1 = 4) (fun c_24_1 => ?_) (fun c_24_1 => ?_)
        · rw [if_pos c_24_1]
          refine j_lsw (off := 36) F dX9_rests_24 (by decide) (by rw [c_24_1]; decide) 60 (by decide) ?_
          refine j_aload_n F dX9_rests_60 61 rfl 0 rfl ?_
          refine j_get (j := 7) F dX9_rests_61 64 rfl inX9 rfl (by decide) sh0 (by decide) qX9_47 rfl ?_
          refine j_get (j := 5) F dX9_rests_64 67 rfl inX4 rfl (by decide) sh7 (by decide) qX9_203 rfl ?_
          refine j_if_le F dX9_rests_67 74 (by decide) 70 rfl (fun c_67 => ?_) (fun c_67 => ?_)
          · rw [if_pos c_67]
            refine j_iconst (v := 1) F dX9_rests_70 71 rfl (by decide) ?_
            refine j_goto F dX9_rests_71 75 (by decide) ?_
            exact j_ret_i F dX9_rests_75 rfl rfl rfl
          · rw [if_neg c_67]
            refine j_iconst (v := 0) F dX9_rests_74 75 rfl (by decide) ?_
            exact j_ret_i F dX9_rests_75 rfl rfl rfl
        · rw [if_neg c_24_1]
          refine j_lsw (off := 52) F dX9_rests_24 (by decide) (by show Op.lookupswitch.offset [(0, 28), (4, 36)] 52 _ = _; rw [lv_osw c_24_0 (show (0 : Int32).toInt = 0 from by decide), lv_osw c_24_1 (show (4 : Int32).toInt = 4 from by decide)]; rfl) 76 (by decide) ?_
          refine j_aload_n F dX9_rests_76 77 rfl 0 rfl ?_
          refine j_get (j := 7) F dX9_rests_77 80 rfl inX9 rfl (by decide) sh0 (by decide) qX9_47 rfl ?_
          refine j_iload_n F dX9_rests_80 81 rfl 1 rfl ?_
          refine j_iconst (v := 1) F dX9_rests_81 82 rfl (by decide) ?_
          refine j_isub F dX9_rests_82 83 rfl ?_
          refine j_callVr (as := [.int (a1 - 1)]) (st := []) (r := .int (fX4_firstChoice (fX4_weigh σ 49) (a1 - 1))) (σ9 := (fX4_weigh σ 49)) F zX4_firstChoice dX9_rests_83 86 rfl pX4_firstChoice rfl (by decide) (by decide) (Nat.le_of_ble_eq_true rfl) rfl qX9_206 rfl rfl (by decide) sh7 (kX4_firstChoice l D (a1 - 1) (fX4_weigh σ 49)) ?_
          exact j_ret_i F dX9_rests_86 rfl rfl rfl
  · rw [if_neg c_1]
    refine j_bipush (v := (-2)) F dX9_rests_9 11 rfl (by decide) ?_
    exact j_ret_i F dX9_rests_11 rfl rfl rfl
def fX9_seed (σ : Mm) (a1 : Int64) : Int64 × Mm := ((σ.2 32), (upL σ 32 a1))
set_option maxRecDepth 20000 in
theorem kX9_seed (l : Launch) (D : Dm) (a1 : Int64) (σ : Mm)  : Ct l yX9_seed cX9_seed 5 (some .long) 1 D [.ref (D.2.1 0), .long a1] σ (some (.long (fX9_seed σ a1).1), (fX9_seed σ a1).2) := by
  refine ct_of (by decide +kernel) (Nat.le_of_ble_eq_true rfl) (fun X F => ?_)
  have F : Fx X l 5 D cX9_seed RX9 1 (some .long) := F
  show JJ X 5 D σ 0 [(0, .ref (D.2.1 0)), (1, .long a1)] [] (QQ X D (some (.long (fX9_seed σ a1).1), (fX9_seed σ a1).2))
  rw [fX9_seed]
  refine j_aload_n F dX9_seed_0 1 rfl 0 rfl ?_
  refine j_get (j := 10) F dX9_seed_1 4 rfl inX9 rfl (by decide) sh0 (by decide) qX9_68 rfl ?_
  refine j_get (j := 0) F dX9_seed_4 7 rfl inX0 rfl (by decide) sh32 (by decide) qX9_246 rfl ?_
  refine j_lstore_n F dX9_seed_7 8 rfl 3 rfl (by decide) [(3, .long (σ.2 32)), (0, .ref (D.2.1 0)), (1, .long a1)] rfl ?_
  refine j_aload_n F dX9_seed_8 9 rfl 1 rfl ?_
  refine j_get (j := 10) F dX9_seed_9 12 rfl inX9 rfl (by decide) sh0 (by decide) qX9_68 rfl ?_
  refine j_lload_n F dX9_seed_12 13 rfl 2 rfl ?_
  refine j_putL (j := 0) F dX9_seed_13 16 rfl inX0 tyX0 tyX0_ok nmX0 rfl (by decide) sh32 sh32 (by decide) qX9_246 rfl (tyX0_ok 0 (by decide)) (Nat.le_of_ble_eq_true rfl) ?_
  refine j_lload_n F dX9_seed_16 17 rfl 0 rfl ?_
  exact j_ret_l F dX9_seed_17 rfl rfl rfl
def fX9_sight (σ : Mm) (a1 : Int32) (a2 : Int32) (a3 : Bool) : Int32 × Mm := if (fX2_has σ 49 a1) = true then (if 0 ≤ a2 then (if 8 < a2 then (((-2), σ)) else (if (fX7_append σ a1 a2 a3).1 = true then (((((fX7_append σ a1 a2 a3).2).1 26 5), (fX7_append σ a1 a2 a3).2)) else (((-4), (fX7_append σ a1 a2 a3).2)))) else (((-2), σ))) else (((-1), σ))
set_option maxRecDepth 20000 in
theorem kX9_sight (l : Launch) (D : Dm) (a1 : Int32) (a2 : Int32) (a3 : Bool) (σ : Mm)  : Ct l yX9_sight cX9_sight 4 (some .int) 2 D [.ref (D.2.1 0), .int a1, .int a2, .int (bi a3)] σ (some (.int (fX9_sight σ a1 a2 a3).1), (fX9_sight σ a1 a2 a3).2) := by
  refine ct_of (by decide +kernel) (Nat.le_of_ble_eq_true rfl) (fun X F => ?_)
  have F : Fx X l 4 D cX9_sight RX9 2 (some .int) := F
  show JJ X 4 D σ 0 [(0, .ref (D.2.1 0)), (1, .int a1), (2, .int a2), (3, .int (bi a3))] [] (QQ X D (some (.int (fX9_sight σ a1 a2 a3).1), (fX9_sight σ a1 a2 a3).2))
  rw [fX9_sight]
  refine j_aload_n F dX9_sight_0 1 rfl 0 rfl ?_
  refine j_get (j := 1) F dX9_sight_1 4 rfl inX9 rfl (by decide) sh0 (by decide) qX9_19 rfl ?_
  refine j_iload_n F dX9_sight_4 5 rfl 1 rfl ?_
  refine j_callVr (as := [.int a1]) (st := []) (r := .int (bi (fX2_has σ 49 a1))) (σ9 := σ) F zX2_has dX9_sight_5 8 rfl pX2_has rfl (by decide) (by decide) (Nat.le_of_ble_eq_true rfl) rfl qX9_97 rfl rfl (hsP.lt hs49) (shH hs49) (kX2_has l D 49 a1 σ hs49) ?_
  refine j_ifb_ne F dX9_sight_8 13 (by decide) 11 rfl (fun c_8 => ?_) (fun c_8 => ?_)
  · rw [if_neg c_8]
    refine j_iconst (v := (-1)) F dX9_sight_11 12 rfl (by decide) ?_
    exact j_ret_i F dX9_sight_12 rfl rfl rfl
  · rw [if_pos c_8]
    refine j_iload_n F dX9_sight_13 14 rfl 2 rfl ?_
    refine j_if_lt F dX9_sight_14 23 (by decide) 17 rfl (fun c_14 => ?_) (fun c_14 => ?_)
    · rw [if_pos c_14]
      refine j_iload_n F dX9_sight_17 18 rfl 2 rfl ?_
      refine j_bipush (v := 8) F dX9_sight_18 20 rfl (by decide) ?_
      refine j_icmp_le F dX9_sight_20 26 (by decide) 23 rfl (fun c_20 => ?_) (fun c_20 => ?_)
      · rw [if_pos c_20]
        refine j_bipush (v := (-2)) F dX9_sight_23 25 rfl (by decide) ?_
        exact j_ret_i F dX9_sight_25 rfl rfl rfl
      · rw [if_neg c_20]
        refine j_aload_n F dX9_sight_26 27 rfl 0 rfl ?_
        refine j_get (j := 8) F dX9_sight_27 30 rfl inX9 rfl (by decide) sh0 (by decide) qX9_54 rfl ?_
        refine j_iload_n F dX9_sight_30 31 rfl 1 rfl ?_
        refine j_iload_n F dX9_sight_31 32 rfl 2 rfl ?_
        refine j_iload_n F dX9_sight_32 33 rfl 3 rfl ?_
        refine j_callVr (as := [.int a1, .int a2, .int (bi a3)]) (st := []) (r := .int (bi ((fX7_append σ a1 a2 a3).1))) (σ9 := (fX7_append σ a1 a2 a3).2) F zX7_append dX9_sight_33 36 rfl pX7_append rfl (by decide) (by decide) (Nat.le_of_ble_eq_true rfl) rfl qX9_209 rfl rfl (by decide) sh26 (kX7_append l D a1 a2 a3 σ) ?_
        refine j_ifb_eq F dX9_sight_36 49 (by decide) 39 rfl (fun c_36 => ?_) (fun c_36 => ?_)
        · rw [if_pos c_36]
          refine j_aload_n F dX9_sight_39 40 rfl 0 rfl ?_
          refine j_get (j := 8) F dX9_sight_40 43 rfl inX9 rfl (by decide) sh0 (by decide) qX9_54 rfl ?_
          refine j_get (j := 5) F dX9_sight_43 46 rfl inX7 rfl (by decide) sh26 (by decide) qX9_212 rfl ?_
          refine j_goto F dX9_sight_46 51 (by decide) ?_
          exact j_ret_i F dX9_sight_51 rfl rfl rfl
        · rw [if_neg c_36]
          refine j_bipush (v := (-4)) F dX9_sight_49 51 rfl (by decide) ?_
          exact j_ret_i F dX9_sight_51 rfl rfl rfl
    · rw [if_neg c_14]
      refine j_bipush (v := (-2)) F dX9_sight_23 25 rfl (by decide) ?_
      exact j_ret_i F dX9_sight_25 rfl rfl rfl
def fX9_thing_33 (σ : Mm) (a1 : Int32) (a2 : Int32)   : Int32 := if a2 = 7 then ((((σ.1 49 4) >>> (a1 &&& 31)) &&& 1)) else if a2 = 8 then ((((σ.1 49 5) >>> (a1 &&& 31)) &&& 1)) else if a2 = 9 then ((((σ.1 49 6) >>> (a1 &&& 31)) &&& 1)) else if a2 = 10 then ((((σ.1 49 7) >>> (a1 &&& 31)) &&& 1)) else if a2 = 11 then ((((fX2_lastOnes σ 49) >>> (a1 &&& 31)) &&& 1)) else ((-2))
def fX9_thing (σ : Mm) (a1 : Int32) (a2 : Int32) : Int32 := if (fX2_has σ 49 a1) = true then (if 0 ≤ a2 then (if a2 < 7 then ((fX2_figure σ 49 a1 a2)) else (fX9_thing_33 σ a1 a2)) else (fX9_thing_33 σ a1 a2)) else ((-1))
set_option maxRecDepth 20000 in
theorem kX9_thing (l : Launch) (D : Dm) (a1 : Int32) (a2 : Int32) (σ : Mm)  : Ct l yX9_thing cX9_thing 3 (some .int) 6 D [.ref (D.2.1 0), .int a1, .int a2] σ (some (.int (fX9_thing σ a1 a2)), σ) := by
  refine ct_of (by decide +kernel) (Nat.le_of_ble_eq_true rfl) (fun X F => ?_)
  have F : Fx X l 3 D cX9_thing RX9 6 (some .int) := F
  show JJ X 3 D σ 0 [(0, .ref (D.2.1 0)), (1, .int a1), (2, .int a2)] [] (QQ X D (some (.int (fX9_thing σ a1 a2)), σ))
  rw [fX9_thing]
  refine j_aload_n F dX9_thing_0 1 rfl 0 rfl ?_
  refine j_get (j := 1) F dX9_thing_1 4 rfl inX9 rfl (by decide) sh0 (by decide) qX9_19 rfl ?_
  refine j_iload_n F dX9_thing_4 5 rfl 1 rfl ?_
  refine j_callVr (as := [.int a1]) (st := []) (r := .int (bi (fX2_has σ 49 a1))) (σ9 := σ) F zX2_has dX9_thing_5 8 rfl pX2_has rfl (by decide) (by decide) (Nat.le_of_ble_eq_true rfl) rfl qX9_97 rfl rfl (hsP.lt hs49) (shH hs49) (kX2_has l D 49 a1 σ hs49) ?_
  refine j_ifb_ne F dX9_thing_8 13 (by decide) 11 rfl (fun c_8 => ?_) (fun c_8 => ?_)
  · rw [if_neg c_8]
    refine j_iconst (v := (-1)) F dX9_thing_11 12 rfl (by decide) ?_
    exact j_ret_i F dX9_thing_12 rfl rfl rfl
  · rw [if_pos c_8]
    refine j_iload_n F dX9_thing_13 14 rfl 2 rfl ?_
    have jn_33 : JJ X 3 D σ 33 [(0, .ref (D.2.1 0)), (1, .int a1), (2, .int a2)] [] (QQ X D (some (.int (fX9_thing_33 σ a1 a2)), σ)) := by
      rw [fX9_thing_33]
      refine j_iload_n F dX9_thing_33 34 rfl 2 rfl ?_
      refine j_by (a2 = 7) (fun c_34_0 => ?_) (fun c_34_0 => ?_)
      · rw [if_pos c_34_0]
        refine j_tin (z := 7) F dX9_thing_34 c_34_0 (by decide) (by decide) (by decide) rfl 68 (by decide) ?_
        refine j_aload_n F dX9_thing_68 69 rfl 0 rfl ?_
        refine j_get (j := 1) F dX9_thing_69 72 rfl inX9 rfl (by decide) sh0 (by decide) qX9_19 rfl ?_
        refine j_get (j := 4) F dX9_thing_72 75 rfl inX2 rfl (hsP.lt hs49) (shH hs49) (by decide) qX9_104 rfl ?_
        refine j_iload_n F dX9_thing_75 76 rfl 1 rfl ?_
        refine j_ishr F dX9_thing_76 77 rfl ?_
        refine j_iconst (v := 1) F dX9_thing_77 78 rfl (by decide) ?_
        refine j_iand F dX9_thing_78 79 rfl ?_
        exact j_ret_i F dX9_thing_79 rfl rfl rfl
      · rw [if_neg c_34_0]
        refine j_by (a2 = 8) (fun c_34_1 => ?_) (fun c_34_1 => ?_)
        · rw [if_pos c_34_1]
          refine j_tin (z := 8) F dX9_thing_34 c_34_1 (by decide) (by decide) (by decide) rfl 80 (by decide) ?_
          refine j_aload_n F dX9_thing_80 81 rfl 0 rfl ?_
          refine j_get (j := 1) F dX9_thing_81 84 rfl inX9 rfl (by decide) sh0 (by decide) qX9_19 rfl ?_
          refine j_get (j := 5) F dX9_thing_84 87 rfl inX2 rfl (hsP.lt hs49) (shH hs49) (by decide) qX9_107 rfl ?_
          refine j_iload_n F dX9_thing_87 88 rfl 1 rfl ?_
          refine j_ishr F dX9_thing_88 89 rfl ?_
          refine j_iconst (v := 1) F dX9_thing_89 90 rfl (by decide) ?_
          refine j_iand F dX9_thing_90 91 rfl ?_
          exact j_ret_i F dX9_thing_91 rfl rfl rfl
        · rw [if_neg c_34_1]
          refine j_by (a2 = 9) (fun c_34_2 => ?_) (fun c_34_2 => ?_)
          · rw [if_pos c_34_2]
            refine j_tin (z := 9) F dX9_thing_34 c_34_2 (by decide) (by decide) (by decide) rfl 92 (by decide) ?_
            refine j_aload_n F dX9_thing_92 93 rfl 0 rfl ?_
            refine j_get (j := 1) F dX9_thing_93 96 rfl inX9 rfl (by decide) sh0 (by decide) qX9_19 rfl ?_
            refine j_get (j := 6) F dX9_thing_96 99 rfl inX2 rfl (hsP.lt hs49) (shH hs49) (by decide) qX9_110 rfl ?_
            refine j_iload_n F dX9_thing_99 100 rfl 1 rfl ?_
            refine j_ishr F dX9_thing_100 101 rfl ?_
            refine j_iconst (v := 1) F dX9_thing_101 102 rfl (by decide) ?_
            refine j_iand F dX9_thing_102 103 rfl ?_
            exact j_ret_i F dX9_thing_103 rfl rfl rfl
          · rw [if_neg c_34_2]
            refine j_by (a2 = 10) (fun c_34_3 => ?_) (fun c_34_3 => ?_)
            · rw [if_pos c_34_3]
              refine j_tin (z := 10) F dX9_thing_34 c_34_3 (by decide) (by decide) (by decide) rfl 104 (by decide) ?_
              refine j_aload_n F dX9_thing_104 105 rfl 0 rfl ?_
              refine j_get (j := 1) F dX9_thing_105 108 rfl inX9 rfl (by decide) sh0 (by decide) qX9_19 rfl ?_
              refine j_get (j := 7) F dX9_thing_108 111 rfl inX2 rfl (hsP.lt hs49) (shH hs49) (by decide) qX9_113 rfl ?_
              refine j_iload_n F dX9_thing_111 112 rfl 1 rfl ?_
              refine j_ishr F dX9_thing_112 113 rfl ?_
              refine j_iconst (v := 1) F dX9_thing_113 114 rfl (by decide) ?_
              refine j_iand F dX9_thing_114 115 rfl ?_
              exact j_ret_i F dX9_thing_115 rfl rfl rfl
            · rw [if_neg c_34_3]
              refine j_by (a2 = 11) (fun c_34_4 => ?_) (fun c_34_4 => ?_)
              · rw [if_pos c_34_4]
                refine j_tin (z := 11) F dX9_thing_34 c_34_4 (by decide) (by decide) (by decide) rfl 116 (by decide) ?_
                refine j_aload_n F dX9_thing_116 117 rfl 0 rfl ?_
                refine j_get (j := 1) F dX9_thing_117 120 rfl inX9 rfl (by decide) sh0 (by decide) qX9_19 rfl ?_
                refine j_callVr (as := []) (st := []) (r := .int (fX2_lastOnes σ 49)) (σ9 := σ) F zX2_lastOnes dX9_thing_120 123 rfl pX2_lastOnes rfl (by decide) (by decide) (Nat.le_of_ble_eq_true rfl) rfl qX9_116 rfl rfl (hsP.lt hs49) (shH hs49) (kX2_lastOnes l D 49 σ hs49) ?_
                refine j_iload_n F dX9_thing_123 124 rfl 1 rfl ?_
                refine j_ishr F dX9_thing_124 125 rfl ?_
                refine j_iconst (v := 1) F dX9_thing_125 126 rfl (by decide) ?_
                refine j_iand F dX9_thing_126 127 rfl ?_
                exact j_ret_i F dX9_thing_127 rfl rfl rfl
              · rw [if_neg c_34_4]
                refine j_tout F dX9_thing_34 (by have e0 := lv_neT c_34_0 (show (7 : Int32).toInt = 7 from by decide); have e1 := lv_neT c_34_1 (show (8 : Int32).toInt = 8 from by decide); have e2 := lv_neT c_34_2 (show (9 : Int32).toInt = 9 from by decide); have e3 := lv_neT c_34_3 (show (10 : Int32).toInt = 10 from by decide); have e4 := lv_neT c_34_4 (show (11 : Int32).toInt = 11 from by decide); omega) 128 (by decide) ?_
                refine j_bipush (v := (-2)) F dX9_thing_128 130 rfl (by decide) ?_
                exact j_ret_i F dX9_thing_130 rfl rfl rfl
    refine j_if_lt F dX9_thing_14 33 (by decide) 17 rfl (fun c_14 => ?_) (fun c_14 => ?_)
    · rw [if_pos c_14]
      refine j_iload_n F dX9_thing_17 18 rfl 2 rfl ?_
      refine j_bipush (v := 7) F dX9_thing_18 20 rfl (by decide) ?_
      refine j_icmp_ge F dX9_thing_20 33 (by decide) 23 rfl (fun c_20 => ?_) (fun c_20 => ?_)
      · rw [if_pos c_20]
        refine j_aload_n F dX9_thing_23 24 rfl 0 rfl ?_
        refine j_get (j := 1) F dX9_thing_24 27 rfl inX9 rfl (by decide) sh0 (by decide) qX9_19 rfl ?_
        refine j_iload_n F dX9_thing_27 28 rfl 1 rfl ?_
        refine j_iload_n F dX9_thing_28 29 rfl 2 rfl ?_
        refine j_callVr (as := [.int a1, .int a2]) (st := []) (r := .int (fX2_figure σ 49 a1 a2)) (σ9 := σ) F zX2_figure dX9_thing_29 32 rfl pX2_figure rfl (by decide) (by decide) (Nat.le_of_ble_eq_true rfl) rfl qX9_100 rfl rfl (hsP.lt hs49) (shH hs49) (kX2_figure l D 49 a1 a2 σ hs49) ?_
        exact j_ret_i F dX9_thing_32 rfl rfl rfl
      · rw [if_neg c_20]
        exact jn_33
    · rw [if_neg c_14]
      exact jn_33
def fX9_toSeek (σ : Mm)  : Int32 × Mm := ((fX7_mostTelling (fX7_survey σ 49) 49), (fX7_survey σ 49))
set_option maxRecDepth 20000 in
theorem kX9_toSeek (l : Launch) (D : Dm)  (σ : Mm)  : Ct l yX9_toSeek cX9_toSeek 1 (some .int) 6 D [.ref (D.2.1 0)] σ (some (.int (fX9_toSeek σ).1), (fX9_toSeek σ).2) := by
  refine ct_of (by decide +kernel) (Nat.le_of_ble_eq_true rfl) (fun X F => ?_)
  have F : Fx X l 1 D cX9_toSeek RX9 6 (some .int) := F
  show JJ X 1 D σ 0 [(0, .ref (D.2.1 0))] [] (QQ X D (some (.int (fX9_toSeek σ).1), (fX9_toSeek σ).2))
  rw [fX9_toSeek]
  refine j_aload_n F dX9_toSeek_0 1 rfl 0 rfl ?_
  refine j_get (j := 8) F dX9_toSeek_1 4 rfl inX9 rfl (by decide) sh0 (by decide) qX9_54 rfl ?_
  refine j_aload_n F dX9_toSeek_4 5 rfl 0 rfl ?_
  refine j_get (j := 1) F dX9_toSeek_5 8 rfl inX9 rfl (by decide) sh0 (by decide) qX9_19 rfl ?_
  refine j_callVv (as := [.ref (D.2.1 49)]) (st := []) (σ9 := (fX7_survey σ 49)) F zX7_survey dX9_toSeek_8 11 rfl pX7_survey rfl (by decide) (by decide) (Nat.le_of_ble_eq_true rfl) rfl qX9_213 rfl rfl (by decide) sh26 (kX7_survey l D 49 σ hs49) ?_
  refine j_aload_n F dX9_toSeek_11 12 rfl 0 rfl ?_
  refine j_get (j := 8) F dX9_toSeek_12 15 rfl inX9 rfl (by decide) sh0 (by decide) qX9_54 rfl ?_
  refine j_aload_n F dX9_toSeek_15 16 rfl 0 rfl ?_
  refine j_get (j := 1) F dX9_toSeek_16 19 rfl inX9 rfl (by decide) sh0 (by decide) qX9_19 rfl ?_
  refine j_callVr (as := [.ref (D.2.1 49)]) (st := []) (r := .int (fX7_mostTelling (fX7_survey σ 49) 49)) (σ9 := (fX7_survey σ 49)) F zX7_mostTelling dX9_toSeek_19 22 rfl pX7_mostTelling rfl (by decide) (by decide) (Nat.le_of_ble_eq_true rfl) rfl qX9_225 rfl rfl (by decide) sh26 (kX7_mostTelling l D 49 (fX7_survey σ 49) hs49) ?_
  exact j_ret_i F dX9_toSeek_22 rfl rfl rfl
def fX9_undo (σ : Mm)  : Int32 × Mm := if (fX6_takeBack σ 49).1 = true then (((((fX6_takeBack σ 49).2).1 4 2), (fX6_takeBack σ 49).2)) else (((-3), (fX6_takeBack σ 49).2))
set_option maxRecDepth 20000 in
theorem kX9_undo (l : Launch) (D : Dm)  (σ : Mm) (hx : vp_in (σ.1 4 1) 16) : Ct l yX9_undo cX9_undo 1 (some .int) 4 D [.ref (D.2.1 0)] σ (some (.int (fX9_undo σ).1), (fX9_undo σ).2) := by
  refine ct_of (by decide +kernel) (Nat.le_of_ble_eq_true rfl) (fun X F => ?_)
  have F : Fx X l 1 D cX9_undo RX9 4 (some .int) := F
  show JJ X 1 D σ 0 [(0, .ref (D.2.1 0))] [] (QQ X D (some (.int (fX9_undo σ).1), (fX9_undo σ).2))
  rw [fX9_undo]
  refine j_aload_n F dX9_undo_0 1 rfl 0 rfl ?_
  refine j_get (j := 3) F dX9_undo_1 4 rfl inX9 rfl (by decide) sh0 (by decide) qX9_29 rfl ?_
  refine j_aload_n F dX9_undo_4 5 rfl 0 rfl ?_
  refine j_get (j := 1) F dX9_undo_5 8 rfl inX9 rfl (by decide) sh0 (by decide) qX9_19 rfl ?_
  refine j_callVr (as := [.ref (D.2.1 49)]) (st := []) (r := .int (bi ((fX6_takeBack σ 49).1))) (σ9 := (fX6_takeBack σ 49).2) F zX6_takeBack dX9_undo_8 11 rfl pX6_takeBack rfl (by decide) (by decide) (Nat.le_of_ble_eq_true rfl) rfl qX9_154 rfl rfl (by decide) sh4 (kX6_takeBack l D 49 σ hs49 (by first | assumption | exact isThing_in (by assumption) (by assumption) | exact vin_mono (by assumption) (by decide) | omega | decide)) ?_
  refine j_ifb_eq F dX9_undo_11 24 (by decide) 14 rfl (fun c_11 => ?_) (fun c_11 => ?_)
  · rw [if_pos c_11]
    refine j_aload_n F dX9_undo_14 15 rfl 0 rfl ?_
    refine j_get (j := 3) F dX9_undo_15 18 rfl inX9 rfl (by decide) sh0 (by decide) qX9_29 rfl ?_
    refine j_get (j := 2) F dX9_undo_18 21 rfl inX6 rfl (by decide) sh4 (by decide) qX9_158 rfl ?_
    refine j_goto F dX9_undo_21 26 (by decide) ?_
    exact j_ret_i F dX9_undo_26 rfl rfl rfl
  · rw [if_neg c_11]
    refine j_bipush (v := (-3)) F dX9_undo_24 26 rfl (by decide) ?_
    exact j_ret_i F dX9_undo_26 rfl rfl rfl
def fX9_unsight (σ : Mm)  : Int32 × Mm := ((σ.1 26 5), (up σ 26 5 0))
set_option maxRecDepth 20000 in
theorem kX9_unsight (l : Launch) (D : Dm)  (σ : Mm)  : Ct l yX9_unsight cX9_unsight 2 (some .int) 1 D [.ref (D.2.1 0)] σ (some (.int (fX9_unsight σ).1), (fX9_unsight σ).2) := by
  refine ct_of (by decide +kernel) (Nat.le_of_ble_eq_true rfl) (fun X F => ?_)
  have F : Fx X l 2 D cX9_unsight RX9 1 (some .int) := F
  show JJ X 2 D σ 0 [(0, .ref (D.2.1 0))] [] (QQ X D (some (.int (fX9_unsight σ).1), (fX9_unsight σ).2))
  rw [fX9_unsight]
  refine j_aload_n F dX9_unsight_0 1 rfl 0 rfl ?_
  refine j_get (j := 8) F dX9_unsight_1 4 rfl inX9 rfl (by decide) sh0 (by decide) qX9_54 rfl ?_
  refine j_get (j := 5) F dX9_unsight_4 7 rfl inX7 rfl (by decide) sh26 (by decide) qX9_212 rfl ?_
  refine j_istore_n F dX9_unsight_7 8 rfl 1 rfl (by decide) [(1, .int (σ.1 26 5)), (0, .ref (D.2.1 0))] rfl ?_
  refine j_aload_n F dX9_unsight_8 9 rfl 1 rfl ?_
  refine j_get (j := 8) F dX9_unsight_9 12 rfl inX9 rfl (by decide) sh0 (by decide) qX9_54 rfl ?_
  refine j_iconst (v := 0) F dX9_unsight_12 13 rfl (by decide) ?_
  refine j_put (j := 5) F dX9_unsight_13 16 rfl inX7 tyX7 tyX7_ok nmX7 rfl (by decide) sh26 sh26 (by decide) qX9_212 rfl (tyX7_ok 5 (by decide)) (Nat.le_of_ble_eq_true rfl) ?_
  refine j_iload_n F dX9_unsight_16 17 rfl 0 rfl ?_
  exact j_ret_i F dX9_unsight_17 rfl rfl rfl
def fX9_wipe (σ : Mm)  : Int32 × Mm := ((σ.1 2 1), (up σ 2 1 0))
set_option maxRecDepth 20000 in
theorem kX9_wipe (l : Launch) (D : Dm)  (σ : Mm)  : Ct l yX9_wipe cX9_wipe 2 (some .int) 1 D [.ref (D.2.1 0)] σ (some (.int (fX9_wipe σ).1), (fX9_wipe σ).2) := by
  refine ct_of (by decide +kernel) (Nat.le_of_ble_eq_true rfl) (fun X F => ?_)
  have F : Fx X l 2 D cX9_wipe RX9 1 (some .int) := F
  show JJ X 2 D σ 0 [(0, .ref (D.2.1 0))] [] (QQ X D (some (.int (fX9_wipe σ).1), (fX9_wipe σ).2))
  rw [fX9_wipe]
  refine j_aload_n F dX9_wipe_0 1 rfl 0 rfl ?_
  refine j_get (j := 0) F dX9_wipe_1 4 rfl inX9 rfl (by decide) sh0 (by decide) qX9_10 rfl ?_
  refine j_get (j := 1) F dX9_wipe_4 7 rfl inX8 rfl (by decide) sh2 (by decide) qX9_76 rfl ?_
  refine j_istore_n F dX9_wipe_7 8 rfl 1 rfl (by decide) [(1, .int (σ.1 2 1)), (0, .ref (D.2.1 0))] rfl ?_
  refine j_aload_n F dX9_wipe_8 9 rfl 1 rfl ?_
  refine j_get (j := 0) F dX9_wipe_9 12 rfl inX9 rfl (by decide) sh0 (by decide) qX9_10 rfl ?_
  refine j_iconst (v := 0) F dX9_wipe_12 13 rfl (by decide) ?_
  refine j_put (j := 1) F dX9_wipe_13 16 rfl inX8 tyX8 tyX8_ok nmX8 rfl (by decide) sh2 sh2 (by decide) qX9_76 rfl (tyX8_ok 1 (by decide)) (Nat.le_of_ble_eq_true rfl) ?_
  refine j_iload_n F dX9_wipe_16 17 rfl 0 rfl ?_
  exact j_ret_i F dX9_wipe_17 rfl rfl rfl
def fX9_word (σ : Mm) (a1 : Int32) : Int32 × Mm := if 1 ≤ a1 then (if 4 < a1 then (((-2), σ)) else (if a1 = (σ.1 49 2) then (((-3), σ)) else (((fX2_changeWord (fX6_remember σ 49) 49 a1).1, (fX2_changeWord (fX6_remember σ 49) 49 a1).2)))) else (((-2), σ))
set_option maxRecDepth 20000 in
theorem kX9_word (l : Launch) (D : Dm) (a1 : Int32) (σ : Mm) (hx : vp_in (σ.1 4 1) 16) : Ct l yX9_word cX9_word 2 (some .int) 7 D [.ref (D.2.1 0), .int a1] σ (some (.int (fX9_word σ a1).1), (fX9_word σ a1).2) := by
  refine ct_of (by decide +kernel) (Nat.le_of_ble_eq_true rfl) (fun X F => ?_)
  have F : Fx X l 2 D cX9_word RX9 7 (some .int) := F
  show JJ X 2 D σ 0 [(0, .ref (D.2.1 0)), (1, .int a1)] [] (QQ X D (some (.int (fX9_word σ a1).1), (fX9_word σ a1).2))
  rw [fX9_word]
  refine j_iload_n F dX9_word_0 1 rfl 1 rfl ?_
  refine j_iconst (v := 1) F dX9_word_1 2 rfl (by decide) ?_
  refine j_icmp_lt F dX9_word_2 10 (by decide) 5 rfl (fun c_2 => ?_) (fun c_2 => ?_)
  · rw [if_pos c_2]
    refine j_iload_n F dX9_word_5 6 rfl 1 rfl ?_
    refine j_iconst (v := 4) F dX9_word_6 7 rfl (by decide) ?_
    refine j_icmp_le F dX9_word_7 13 (by decide) 10 rfl (fun c_7 => ?_) (fun c_7 => ?_)
    · rw [if_pos c_7]
      refine j_bipush (v := (-2)) F dX9_word_10 12 rfl (by decide) ?_
      exact j_ret_i F dX9_word_12 rfl rfl rfl
    · rw [if_neg c_7]
      refine j_iload_n F dX9_word_13 14 rfl 1 rfl ?_
      refine j_aload_n F dX9_word_14 15 rfl 0 rfl ?_
      refine j_get (j := 1) F dX9_word_15 18 rfl inX9 rfl (by decide) sh0 (by decide) qX9_19 rfl ?_
      refine j_get (j := 2) F dX9_word_18 21 rfl inX2 rfl (hsP.lt hs49) (shH hs49) (by decide) qX9_119 rfl ?_
      refine j_icmp_ne F dX9_word_21 27 (by decide) 24 rfl (fun c_21 => ?_) (fun c_21 => ?_)
      · rw [if_pos c_21]
        refine j_bipush (v := (-3)) F dX9_word_24 26 rfl (by decide) ?_
        exact j_ret_i F dX9_word_26 rfl rfl rfl
      · rw [if_neg c_21]
        refine j_aload_n F dX9_word_27 28 rfl 0 rfl ?_
        refine j_get (j := 3) F dX9_word_28 31 rfl inX9 rfl (by decide) sh0 (by decide) qX9_29 rfl ?_
        refine j_aload_n F dX9_word_31 32 rfl 0 rfl ?_
        refine j_get (j := 1) F dX9_word_32 35 rfl inX9 rfl (by decide) sh0 (by decide) qX9_19 rfl ?_
        refine j_callVv (as := [.ref (D.2.1 49)]) (st := []) (σ9 := (fX6_remember σ 49)) F zX6_remember dX9_word_35 38 rfl pX6_remember rfl (by decide) (by decide) (Nat.le_of_ble_eq_true rfl) rfl qX9_136 rfl rfl (by decide) sh4 (kX6_remember l D 49 σ hs49 (by first | assumption | exact isThing_in (by assumption) (by assumption) | exact vin_mono (by assumption) (by decide) | omega | decide)) ?_
        refine j_aload_n F dX9_word_38 39 rfl 0 rfl ?_
        refine j_get (j := 1) F dX9_word_39 42 rfl inX9 rfl (by decide) sh0 (by decide) qX9_19 rfl ?_
        refine j_iload_n F dX9_word_42 43 rfl 1 rfl ?_
        refine j_callVr (as := [.int a1]) (st := []) (r := .int ((fX2_changeWord (fX6_remember σ 49) 49 a1).1)) (σ9 := (fX2_changeWord (fX6_remember σ 49) 49 a1).2) F zX2_changeWord dX9_word_43 46 rfl pX2_changeWord rfl (by decide) (by decide) (Nat.le_of_ble_eq_true rfl) rfl qX9_148 rfl rfl (hsP.lt hs49) (shH hs49) (kX2_changeWord l D 49 a1 (fX6_remember σ 49) hs49) ?_
        exact j_ret_i F dX9_word_46 rfl rfl rfl
  · rw [if_neg c_2]
    refine j_bipush (v := (-2)) F dX9_word_10 12 rfl (by decide) ?_
    exact j_ret_i F dX9_word_12 rfl rfl rfl
def fX9_worlds (σ : Mm) (a1 : Int32) : Int32 × Mm := if 0 ≤ a1 then (if 2 < a1 then (((-2), σ)) else (if a1 = 0 then ((((fX7_survey σ 49).1 26 6), (fX7_survey σ 49))) else (if ((fX7_survey σ 49).1 26 6) = 0 then (((-9), (fX7_survey σ 49))) else (if a1 = 1 then ((((fX7_survey σ 49).1 26 7), (fX7_survey σ 49))) else ((((fX7_survey σ 49).1 26 8), (fX7_survey σ 49))))))) else (((-2), σ))
set_option maxRecDepth 20000 in
theorem kX9_worlds (l : Launch) (D : Dm) (a1 : Int32) (σ : Mm)  : Ct l yX9_worlds cX9_worlds 2 (some .int) 6 D [.ref (D.2.1 0), .int a1] σ (some (.int (fX9_worlds σ a1).1), (fX9_worlds σ a1).2) := by
  refine ct_of (by decide +kernel) (Nat.le_of_ble_eq_true rfl) (fun X F => ?_)
  have F : Fx X l 2 D cX9_worlds RX9 6 (some .int) := F
  show JJ X 2 D σ 0 [(0, .ref (D.2.1 0)), (1, .int a1)] [] (QQ X D (some (.int (fX9_worlds σ a1).1), (fX9_worlds σ a1).2))
  rw [fX9_worlds]
  refine j_iload_n F dX9_worlds_0 1 rfl 1 rfl ?_
  refine j_if_lt F dX9_worlds_1 9 (by decide) 4 rfl (fun c_1 => ?_) (fun c_1 => ?_)
  · rw [if_pos c_1]
    refine j_iload_n F dX9_worlds_4 5 rfl 1 rfl ?_
    refine j_iconst (v := 2) F dX9_worlds_5 6 rfl (by decide) ?_
    refine j_icmp_le F dX9_worlds_6 12 (by decide) 9 rfl (fun c_6 => ?_) (fun c_6 => ?_)
    · rw [if_pos c_6]
      refine j_bipush (v := (-2)) F dX9_worlds_9 11 rfl (by decide) ?_
      exact j_ret_i F dX9_worlds_11 rfl rfl rfl
    · rw [if_neg c_6]
      refine j_aload_n F dX9_worlds_12 13 rfl 0 rfl ?_
      refine j_get (j := 8) F dX9_worlds_13 16 rfl inX9 rfl (by decide) sh0 (by decide) qX9_54 rfl ?_
      refine j_aload_n F dX9_worlds_16 17 rfl 0 rfl ?_
      refine j_get (j := 1) F dX9_worlds_17 20 rfl inX9 rfl (by decide) sh0 (by decide) qX9_19 rfl ?_
      refine j_callVv (as := [.ref (D.2.1 49)]) (st := []) (σ9 := (fX7_survey σ 49)) F zX7_survey dX9_worlds_20 23 rfl pX7_survey rfl (by decide) (by decide) (Nat.le_of_ble_eq_true rfl) rfl qX9_213 rfl rfl (by decide) sh26 (kX7_survey l D 49 σ hs49) ?_
      refine j_iload_n F dX9_worlds_23 24 rfl 1 rfl ?_
      refine j_if_ne F dX9_worlds_24 35 (by decide) 27 rfl (fun c_24 => ?_) (fun c_24 => ?_)
      · rw [if_pos c_24]
        refine j_aload_n F dX9_worlds_27 28 rfl 0 rfl ?_
        refine j_get (j := 8) F dX9_worlds_28 31 rfl inX9 rfl (by decide) sh0 (by decide) qX9_54 rfl ?_
        refine j_get (j := 6) F dX9_worlds_31 34 rfl inX7 rfl (by decide) sh26 (by decide) qX9_216 rfl ?_
        exact j_ret_i F dX9_worlds_34 rfl rfl rfl
      · rw [if_neg c_24]
        refine j_aload_n F dX9_worlds_35 36 rfl 0 rfl ?_
        refine j_get (j := 8) F dX9_worlds_36 39 rfl inX9 rfl (by decide) sh0 (by decide) qX9_54 rfl ?_
        refine j_get (j := 6) F dX9_worlds_39 42 rfl inX7 rfl (by decide) sh26 (by decide) qX9_216 rfl ?_
        refine j_if_ne F dX9_worlds_42 48 (by decide) 45 rfl (fun c_42 => ?_) (fun c_42 => ?_)
        · rw [if_pos c_42]
          refine j_bipush (v := (-9)) F dX9_worlds_45 47 rfl (by decide) ?_
          exact j_ret_i F dX9_worlds_47 rfl rfl rfl
        · rw [if_neg c_42]
          refine j_iload_n F dX9_worlds_48 49 rfl 1 rfl ?_
          refine j_iconst (v := 1) F dX9_worlds_49 50 rfl (by decide) ?_
          refine j_icmp_ne F dX9_worlds_50 63 (by decide) 53 rfl (fun c_50 => ?_) (fun c_50 => ?_)
          · rw [if_pos c_50]
            refine j_aload_n F dX9_worlds_53 54 rfl 0 rfl ?_
            refine j_get (j := 8) F dX9_worlds_54 57 rfl inX9 rfl (by decide) sh0 (by decide) qX9_54 rfl ?_
            refine j_get (j := 7) F dX9_worlds_57 60 rfl inX7 rfl (by decide) sh26 (by decide) qX9_219 rfl ?_
            refine j_goto F dX9_worlds_60 70 (by decide) ?_
            exact j_ret_i F dX9_worlds_70 rfl rfl rfl
          · rw [if_neg c_50]
            refine j_aload_n F dX9_worlds_63 64 rfl 0 rfl ?_
            refine j_get (j := 8) F dX9_worlds_64 67 rfl inX9 rfl (by decide) sh0 (by decide) qX9_54 rfl ?_
            refine j_get (j := 8) F dX9_worlds_67 70 rfl inX7 rfl (by decide) sh26 (by decide) qX9_222 rfl ?_
            exact j_ret_i F dX9_worlds_70 rfl rfl rfl
  · rw [if_neg c_1]
    refine j_bipush (v := (-2)) F dX9_worlds_9 11 rfl (by decide) ?_
    exact j_ret_i F dX9_worlds_11 rfl rfl rfl
def fX9_write (σ : Mm) (a1 : Int32) : Int32 × Mm := if 0 ≤ a1 then (if 255 < a1 then (((-2), σ)) else (if (fX8_append σ a1).1 = true then (((((fX8_append σ a1).2).1 2 1), (fX8_append σ a1).2)) else (((-4), (fX8_append σ a1).2)))) else (((-2), σ))
set_option maxRecDepth 20000 in
theorem kX9_write (l : Launch) (D : Dm) (a1 : Int32) (σ : Mm)  : Ct l yX9_write cX9_write 2 (some .int) 2 D [.ref (D.2.1 0), .int a1] σ (some (.int (fX9_write σ a1).1), (fX9_write σ a1).2) := by
  refine ct_of (by decide +kernel) (Nat.le_of_ble_eq_true rfl) (fun X F => ?_)
  have F : Fx X l 2 D cX9_write RX9 2 (some .int) := F
  show JJ X 2 D σ 0 [(0, .ref (D.2.1 0)), (1, .int a1)] [] (QQ X D (some (.int (fX9_write σ a1).1), (fX9_write σ a1).2))
  rw [fX9_write]
  refine j_iload_n F dX9_write_0 1 rfl 1 rfl ?_
  refine j_if_lt F dX9_write_1 11 (by decide) 4 rfl (fun c_1 => ?_) (fun c_1 => ?_)
  · rw [if_pos c_1]
    refine j_iload_n F dX9_write_4 5 rfl 1 rfl ?_
    refine j_sipush (v := 255) F dX9_write_5 8 rfl (by decide) ?_
    refine j_icmp_le F dX9_write_8 14 (by decide) 11 rfl (fun c_8 => ?_) (fun c_8 => ?_)
    · rw [if_pos c_8]
      refine j_bipush (v := (-2)) F dX9_write_11 13 rfl (by decide) ?_
      exact j_ret_i F dX9_write_13 rfl rfl rfl
    · rw [if_neg c_8]
      refine j_aload_n F dX9_write_14 15 rfl 0 rfl ?_
      refine j_get (j := 0) F dX9_write_15 18 rfl inX9 rfl (by decide) sh0 (by decide) qX9_10 rfl ?_
      refine j_iload_n F dX9_write_18 19 rfl 1 rfl ?_
      refine j_callVr (as := [.int a1]) (st := []) (r := .int (bi ((fX8_append σ a1).1))) (σ9 := (fX8_append σ a1).2) F zX8_append dX9_write_19 22 rfl pX8_append rfl (by decide) (by decide) (Nat.le_of_ble_eq_true rfl) rfl qX9_72 rfl rfl (by decide) sh2 (kX8_append l D a1 σ) ?_
      refine j_ifb_eq F dX9_write_22 35 (by decide) 25 rfl (fun c_22 => ?_) (fun c_22 => ?_)
      · rw [if_pos c_22]
        refine j_aload_n F dX9_write_25 26 rfl 0 rfl ?_
        refine j_get (j := 0) F dX9_write_26 29 rfl inX9 rfl (by decide) sh0 (by decide) qX9_10 rfl ?_
        refine j_get (j := 1) F dX9_write_29 32 rfl inX8 rfl (by decide) sh2 (by decide) qX9_76 rfl ?_
        refine j_goto F dX9_write_32 37 (by decide) ?_
        exact j_ret_i F dX9_write_37 rfl rfl rfl
      · rw [if_neg c_22]
        refine j_bipush (v := (-4)) F dX9_write_35 37 rfl (by decide) ?_
        exact j_ret_i F dX9_write_37 rfl rfl rfl
  · rw [if_neg c_1]
    refine j_bipush (v := (-2)) F dX9_write_11 13 rfl (by decide) ?_
    exact j_ret_i F dX9_write_13 rfl rfl rfl
def fX9_year_24   (s_24 : Mm) : Int32 × Mm := ((s_24.1 49 3), s_24)
def fX9_year (σ : Mm)  : Int32 × Mm := fX9_year_24 (up (fX6_remember σ 49) 49 3 (((fX6_remember σ 49).1 49 3) + 1))
set_option maxRecDepth 20000 in
theorem kX9_year (l : Launch) (D : Dm)  (σ : Mm) (hx : vp_in (σ.1 4 1) 16) : Ct l yX9_year cX9_year 1 (some .int) 4 D [.ref (D.2.1 0)] σ (some (.int (fX9_year σ).1), (fX9_year σ).2) := by
  refine ct_of (by decide +kernel) (Nat.le_of_ble_eq_true rfl) (fun X F => ?_)
  have F : Fx X l 1 D cX9_year RX9 4 (some .int) := F
  show JJ X 1 D σ 0 [(0, .ref (D.2.1 0))] [] (QQ X D (some (.int (fX9_year σ).1), (fX9_year σ).2))
  rw [fX9_year]
  refine j_aload_n F dX9_year_0 1 rfl 0 rfl ?_
  refine j_get (j := 3) F dX9_year_1 4 rfl inX9 rfl (by decide) sh0 (by decide) qX9_29 rfl ?_
  refine j_aload_n F dX9_year_4 5 rfl 0 rfl ?_
  refine j_get (j := 1) F dX9_year_5 8 rfl inX9 rfl (by decide) sh0 (by decide) qX9_19 rfl ?_
  refine j_callVv (as := [.ref (D.2.1 49)]) (st := []) (σ9 := (fX6_remember σ 49)) F zX6_remember dX9_year_8 11 rfl pX6_remember rfl (by decide) (by decide) (Nat.le_of_ble_eq_true rfl) rfl qX9_136 rfl rfl (by decide) sh4 (kX6_remember l D 49 σ hs49 (by first | assumption | exact isThing_in (by assumption) (by assumption) | exact vin_mono (by assumption) (by decide) | omega | decide)) ?_
  refine j_aload_n F dX9_year_11 12 rfl 0 rfl ?_
  refine j_get (j := 1) F dX9_year_12 15 rfl inX9 rfl (by decide) sh0 (by decide) qX9_19 rfl ?_
  refine j_dup F dX9_year_15 16 rfl rfl ?_
  refine j_get (j := 3) F dX9_year_16 19 rfl inX2 rfl (hsP.lt hs49) (shH hs49) (by decide) qX9_151 rfl ?_
  refine j_iconst (v := 1) F dX9_year_19 20 rfl (by decide) ?_
  refine j_iadd F dX9_year_20 21 rfl ?_
  refine j_put (j := 3) F dX9_year_21 24 rfl inX2 tyX2 tyX2_ok nmX2 rfl (hsP.lt hs49) (shH hs49) (shH hs49) (by decide) qX9_151 rfl (tyX2_ok 3 (by decide)) (Nat.le_of_ble_eq_true rfl) ?_
  have jn_24 : ∀ (s_24 : Mm), JJ X 1 D s_24 24 [(0, .ref (D.2.1 0))] [] (QQ X D (some (.int (fX9_year_24 s_24).1), (fX9_year_24 s_24).2)) := by
    intro s_24
    rw [fX9_year_24]
    refine j_aload_n F dX9_year_24 25 rfl 0 rfl ?_
    refine j_get (j := 1) F dX9_year_25 28 rfl inX9 rfl (by decide) sh0 (by decide) qX9_19 rfl ?_
    refine j_get (j := 3) F dX9_year_28 31 rfl inX2 rfl (hsP.lt hs49) (shH hs49) (by decide) qX9_151 rfl ?_
    exact j_ret_i F dX9_year_31 rfl rfl rfl
  exact jn_24 (up (fX6_remember σ 49) 49 3 (((fX6_remember σ 49).1 49 3) + 1)) 
def fX9_years (σ : Mm) (a1 : Int32) (a2 : Int32) : Int32 × Mm := if 1 ≤ a1 then (if a1 ≤ 30 then (if 0 ≤ a2 then (if 10 < a2 then (((-2), σ)) else (((fX0_lastAfter σ 49 a1 a2).1, (fX0_lastAfter σ 49 a1 a2).2))) else (((-2), σ))) else (((-2), σ))) else (((-2), σ))
set_option maxRecDepth 20000 in
theorem kX9_years (l : Launch) (D : Dm) (a1 : Int32) (a2 : Int32) (σ : Mm)  : Ct l yX9_years cX9_years 3 (some .int) 6 D [.ref (D.2.1 0), .int a1, .int a2] σ (some (.int (fX9_years σ a1 a2).1), (fX9_years σ a1 a2).2) := by
  refine ct_of (by decide +kernel) (Nat.le_of_ble_eq_true rfl) (fun X F => ?_)
  have F : Fx X l 3 D cX9_years RX9 6 (some .int) := F
  show JJ X 3 D σ 0 [(0, .ref (D.2.1 0)), (1, .int a1), (2, .int a2)] [] (QQ X D (some (.int (fX9_years σ a1 a2).1), (fX9_years σ a1 a2).2))
  rw [fX9_years]
  refine j_iload_n F dX9_years_0 1 rfl 1 rfl ?_
  refine j_iconst (v := 1) F dX9_years_1 2 rfl (by decide) ?_
  refine j_icmp_lt F dX9_years_2 21 (by decide) 5 rfl (fun c_2 => ?_) (fun c_2 => ?_)
  · rw [if_pos c_2]
    refine j_iload_n F dX9_years_5 6 rfl 1 rfl ?_
    refine j_bipush (v := 30) F dX9_years_6 8 rfl (by decide) ?_
    refine j_icmp_gt F dX9_years_8 21 (by decide) 11 rfl (fun c_8 => ?_) (fun c_8 => ?_)
    · rw [if_pos c_8]
      refine j_iload_n F dX9_years_11 12 rfl 2 rfl ?_
      refine j_if_lt F dX9_years_12 21 (by decide) 15 rfl (fun c_12 => ?_) (fun c_12 => ?_)
      · rw [if_pos c_12]
        refine j_iload_n F dX9_years_15 16 rfl 2 rfl ?_
        refine j_bipush (v := 10) F dX9_years_16 18 rfl (by decide) ?_
        refine j_icmp_le F dX9_years_18 24 (by decide) 21 rfl (fun c_18 => ?_) (fun c_18 => ?_)
        · rw [if_pos c_18]
          refine j_bipush (v := (-2)) F dX9_years_21 23 rfl (by decide) ?_
          exact j_ret_i F dX9_years_23 rfl rfl rfl
        · rw [if_neg c_18]
          refine j_aload_n F dX9_years_24 25 rfl 0 rfl ?_
          refine j_get (j := 10) F dX9_years_25 28 rfl inX9 rfl (by decide) sh0 (by decide) qX9_68 rfl ?_
          refine j_aload_n F dX9_years_28 29 rfl 0 rfl ?_
          refine j_get (j := 1) F dX9_years_29 32 rfl inX9 rfl (by decide) sh0 (by decide) qX9_19 rfl ?_
          refine j_iload_n F dX9_years_32 33 rfl 1 rfl ?_
          refine j_iload_n F dX9_years_33 34 rfl 2 rfl ?_
          refine j_callVr (as := [.ref (D.2.1 49), .int a1, .int a2]) (st := []) (r := .int ((fX0_lastAfter σ 49 a1 a2).1)) (σ9 := (fX0_lastAfter σ 49 a1 a2).2) F zX0_lastAfter dX9_years_34 37 rfl pX0_lastAfter rfl (by decide) (by decide) (Nat.le_of_ble_eq_true rfl) rfl qX9_250 rfl rfl (by decide) sh32 (kX0_lastAfter l D 49 a1 a2 σ hs49) ?_
          exact j_ret_i F dX9_years_37 rfl rfl rfl
      · rw [if_neg c_12]
        refine j_bipush (v := (-2)) F dX9_years_21 23 rfl (by decide) ?_
        exact j_ret_i F dX9_years_23 rfl rfl rfl
    · rw [if_neg c_8]
      refine j_bipush (v := (-2)) F dX9_years_21 23 rfl (by decide) ?_
      exact j_ret_i F dX9_years_23 rfl rfl rfl
  · rw [if_neg c_2]
    refine j_bipush (v := (-2)) F dX9_years_21 23 rfl (by decide) ?_
    exact j_ret_i F dX9_years_23 rfl rfl rfl
