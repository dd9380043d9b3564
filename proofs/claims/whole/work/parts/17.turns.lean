def fX3_play_32 (h1 : Nat) (a2 : Int32)  (s_32 : Mm) : Mm := (up ((fX3_leadF 5 s_32 a2 (s_32.1 h1 5) (s_32.1 h1 7) (-1000) 1000).2) 21 4 ((fX3_leadF 5 s_32 a2 (s_32.1 h1 5) (s_32.1 h1 7) (-1000) 1000).1))
def fX3_play_16 (h1 : Nat) (a2 : Int32)  (s_16 : Mm) : Mm := fX3_play_32 h1 a2 (up (up s_16 21 2 (s_16.1 h1 6)) 21 3 ((up s_16 21 2 (s_16.1 h1 6)).1 h1 4))
def fX3_play (σ : Mm) (h1 : Nat) (a2 : Int32) : Mm := fX3_play_16 h1 a2 (up (fX1_learn σ 22 h1) 21 1 (fX2_all (fX1_learn σ 22 h1) h1))
set_option maxRecDepth 20000 in
theorem kX3_play (l : Launch) (D : Dm) (h1 : Nat) (a2 : Int32) (σ : Mm) (hh1 : hsP h1) (ht : a2.toInt ≤ 4) : Ct l yX3_play cX3_play 3 none 14 D [.ref (D.2.1 21), .ref (D.2.1 h1), .int a2] σ (none, fX3_play σ h1 a2) := by
  refine ct_of (by decide +kernel) (Nat.le_of_ble_eq_true rfl) (fun X F => ?_)
  have F : Fx X l 3 D cX3_play RX3 14 none := F
  show JJ X 3 D σ 0 [(0, .ref (D.2.1 21)), (1, .ref (D.2.1 h1)), (2, .int a2)] [] (QQ X D (none, fX3_play σ h1 a2))
  rw [fX3_play]
  refine j_aload_n F dX3_play_0 1 rfl 0 rfl ?_
  refine j_get (j := 0) F dX3_play_1 4 rfl inX3 rfl (by decide) sh21 (by decide) qX3_14 rfl ?_
  refine j_aload_n F dX3_play_4 5 rfl 1 rfl ?_
  refine j_callVv (as := [.ref (D.2.1 h1)]) (st := []) (σ9 := (fX1_learn σ 22 h1)) F zX1_learn dX3_play_5 8 rfl pX1_learn rfl (by decide) (by decide) (Nat.le_of_ble_eq_true rfl) rfl qX3_18 rfl rfl (gdP.lt gd22) (shG gd22) (kX1_learn l D 22 h1 σ gd22 hh1) ?_
  refine j_aload_n F dX3_play_8 9 rfl 0 rfl ?_
  refine j_aload_n F dX3_play_9 10 rfl 1 rfl ?_
  refine j_callVr (as := []) (st := [.ref (D.2.1 21)]) (r := .int (fX2_all (fX1_learn σ 22 h1) h1)) (σ9 := (fX1_learn σ 22 h1)) F zX2_all dX3_play_10 13 rfl pX2_all rfl (by decide) (by decide) (Nat.le_of_ble_eq_true rfl) rfl qX3_22 rfl rfl (hsP.lt hh1) (shH hh1) (kX2_all l D h1 (fX1_learn σ 22 h1) hh1) ?_
  refine j_put (j := 1) F dX3_play_13 16 rfl inX3 tyX3 tyX3_ok nmX3 rfl (by decide) sh21 sh21 (by decide) qX3_28 rfl (tyX3_ok 1 (by decide)) (Nat.le_of_ble_eq_true rfl) ?_
  have jn_16 : ∀ (s_16 : Mm), JJ X 3 D s_16 16 [(0, .ref (D.2.1 21)), (1, .ref (D.2.1 h1)), (2, .int a2)] [] (QQ X D (none, fX3_play_16 h1 a2 s_16)) := by
    intro s_16
    rw [fX3_play_16]
    refine j_aload_n F dX3_play_16 17 rfl 0 rfl ?_
    refine j_aload_n F dX3_play_17 18 rfl 1 rfl ?_
    refine j_get (j := 6) F dX3_play_18 21 rfl inX2 rfl (hsP.lt hh1) (shH hh1) (by decide) qX3_32 rfl ?_
    refine j_put (j := 2) F dX3_play_21 24 rfl inX3 tyX3 tyX3_ok nmX3 rfl (by decide) sh21 sh21 (by decide) qX3_35 rfl (tyX3_ok 2 (by decide)) (Nat.le_of_ble_eq_true rfl) ?_
    refine j_aload_n F dX3_play_24 25 rfl 0 rfl ?_
    refine j_aload_n F dX3_play_25 26 rfl 1 rfl ?_
    refine j_get (j := 4) F dX3_play_26 29 rfl inX2 rfl (hsP.lt hh1) (shH hh1) (by decide) qX3_36 rfl ?_
    refine j_put (j := 3) F dX3_play_29 32 rfl inX3 tyX3 tyX3_ok nmX3 rfl (by decide) sh21 sh21 (by decide) qX3_39 rfl (tyX3_ok 3 (by decide)) (Nat.le_of_ble_eq_true rfl) ?_
    have jn_32 : ∀ (s_32 : Mm), JJ X 3 D s_32 32 [(0, .ref (D.2.1 21)), (1, .ref (D.2.1 h1)), (2, .int a2)] [] (QQ X D (none, fX3_play_32 h1 a2 s_32)) := by
      intro s_32
      rw [fX3_play_32]
      refine j_aload_n F dX3_play_32 33 rfl 0 rfl ?_
      refine j_aload_n F dX3_play_33 34 rfl 0 rfl ?_
      refine j_iload_n F dX3_play_34 35 rfl 2 rfl ?_
      refine j_aload_n F dX3_play_35 36 rfl 1 rfl ?_
      refine j_get (j := 5) F dX3_play_36 39 rfl inX2 rfl (hsP.lt hh1) (shH hh1) (by decide) qX3_40 rfl ?_
      refine j_aload_n F dX3_play_39 40 rfl 1 rfl ?_
      refine j_get (j := 7) F dX3_play_40 43 rfl inX2 rfl (hsP.lt hh1) (shH hh1) (by decide) qX3_43 rfl ?_
      refine j_sipush (v := (-1000)) F dX3_play_43 46 rfl (by decide) ?_
      refine j_sipush (v := 1000) F dX3_play_46 49 rfl (by decide) ?_
      refine j_callSr (as := [.ref (D.2.1 21), .int a2, .int (s_32.1 h1 5), .int (s_32.1 h1 7), .int (-1000), .int 1000]) (st := [.ref (D.2.1 21)]) (r := .int ((fX3_leadF 5 s_32 a2 (s_32.1 h1 5) (s_32.1 h1 7) (-1000) 1000).1)) (σ9 := (fX3_leadF 5 s_32 a2 (s_32.1 h1 5) (s_32.1 h1 7) (-1000) 1000).2) F zX3_lead dX3_play_49 52 rfl pX3_lead rfl (by decide) (by decide) (Nat.le_of_ble_eq_true rfl) rfl qX3_46 (kX3_lead l D a2 (s_32.1 h1 5) (s_32.1 h1 7) (-1000) 1000 s_32 (by first | assumption | exact isThing_in (by assumption) (by assumption) | exact vin_mono (by assumption) (by decide) | omega | decide)) ?_
      refine j_put (j := 4) F dX3_play_52 55 rfl inX3 tyX3 tyX3_ok nmX3 rfl (by decide) sh21 sh21 (by decide) qX3_50 rfl (tyX3_ok 4 (by decide)) (Nat.le_of_ble_eq_true rfl) ?_
      exact j_ret_v F dX3_play_55 rfl rfl rfl
    exact jn_32 (up (up s_16 21 2 (s_16.1 h1 6)) 21 3 ((up s_16 21 2 (s_16.1 h1 6)).1 h1 4)) 
  exact jn_16 (up (fX1_learn σ 22 h1) 21 1 (fX2_all (fX1_learn σ 22 h1) h1)) 
def fX9_byTurns (σ : Mm) (a1 : Int32) (a2 : Int32) : Int32 × Mm := if 0 ≤ a1 then (if a1 ≤ 4 then (if 0 ≤ a2 then (if 1 < a2 then (((-2), σ)) else (if a2 = 0 then (((((fX3_play σ 49 a1).1 21 4) + 1000), (fX3_play σ 49 a1))) else ((((fX3_play σ 49 a1).1 21 5), (fX3_play σ 49 a1))))) else (((-2), σ))) else (((-2), σ))) else (((-2), σ))
set_option maxRecDepth 20000 in
theorem kX9_byTurns (l : Launch) (D : Dm) (a1 : Int32) (a2 : Int32) (σ : Mm)  : Ct l yX9_byTurns cX9_byTurns 3 (some .int) 15 D [.ref (D.2.1 0), .int a1, .int a2] σ (some (.int (fX9_byTurns σ a1 a2).1), (fX9_byTurns σ a1 a2).2) := by
  refine ct_of (by decide +kernel) (Nat.le_of_ble_eq_true rfl) (fun X F => ?_)
  have F : Fx X l 3 D cX9_byTurns RX9 15 (some .int) := F
  show JJ X 3 D σ 0 [(0, .ref (D.2.1 0)), (1, .int a1), (2, .int a2)] [] (QQ X D (some (.int (fX9_byTurns σ a1 a2).1), (fX9_byTurns σ a1 a2).2))
  rw [fX9_byTurns]
  refine j_iload_n F dX9_byTurns_0 1 rfl 1 rfl ?_
  refine j_if_lt F dX9_byTurns_1 18 (by decide) 4 rfl (fun c_1 => ?_) (fun c_1 => ?_)
  · rw [if_pos c_1]
    refine j_iload_n F dX9_byTurns_4 5 rfl 1 rfl ?_
    refine j_iconst (v := 4) F dX9_byTurns_5 6 rfl (by decide) ?_
    refine j_icmp_gt F dX9_byTurns_6 18 (by decide) 9 rfl (fun c_6 => ?_) (fun c_6 => ?_)
    · rw [if_pos c_6]
      refine j_iload_n F dX9_byTurns_9 10 rfl 2 rfl ?_
      refine j_if_lt F dX9_byTurns_10 18 (by decide) 13 rfl (fun c_10 => ?_) (fun c_10 => ?_)
      · rw [if_pos c_10]
        refine j_iload_n F dX9_byTurns_13 14 rfl 2 rfl ?_
        refine j_iconst (v := 1) F dX9_byTurns_14 15 rfl (by decide) ?_
        refine j_icmp_le F dX9_byTurns_15 21 (by decide) 18 rfl (fun c_15 => ?_) (fun c_15 => ?_)
        · rw [if_pos c_15]
          refine j_bipush (v := (-2)) F dX9_byTurns_18 20 rfl (by decide) ?_
          exact j_ret_i F dX9_byTurns_20 rfl rfl rfl
        · rw [if_neg c_15]
          refine j_aload_n F dX9_byTurns_21 22 rfl 0 rfl ?_
          refine j_get (j := 9) F dX9_byTurns_22 25 rfl inX9 rfl (by decide) sh0 (by decide) qX9_61 rfl ?_
          refine j_aload_n F dX9_byTurns_25 26 rfl 0 rfl ?_
          refine j_get (j := 1) F dX9_byTurns_26 29 rfl inX9 rfl (by decide) sh0 (by decide) qX9_19 rfl ?_
          refine j_iload_n F dX9_byTurns_29 30 rfl 1 rfl ?_
          refine j_callVv (as := [.ref (D.2.1 49), .int a1]) (st := []) (σ9 := (fX3_play σ 49 a1)) F zX3_play dX9_byTurns_30 33 rfl pX3_play rfl (by decide) (by decide) (Nat.le_of_ble_eq_true rfl) rfl qX9_228 rfl rfl (by decide) sh21 (kX3_play l D 49 a1 σ hs49 (le4 (by assumption))) ?_
          refine j_iload_n F dX9_byTurns_33 34 rfl 2 rfl ?_
          refine j_if_ne F dX9_byTurns_34 51 (by decide) 37 rfl (fun c_34 => ?_) (fun c_34 => ?_)
          · rw [if_pos c_34]
            refine j_aload_n F dX9_byTurns_37 38 rfl 0 rfl ?_
            refine j_get (j := 9) F dX9_byTurns_38 41 rfl inX9 rfl (by decide) sh0 (by decide) qX9_61 rfl ?_
            refine j_get (j := 4) F dX9_byTurns_41 44 rfl inX3 rfl (by decide) sh21 (by decide) qX9_231 rfl ?_
            refine j_sipush (v := 1000) F dX9_byTurns_44 47 rfl (by decide) ?_
            refine j_iadd F dX9_byTurns_47 48 rfl ?_
            refine j_goto F dX9_byTurns_48 58 (by decide) ?_
            exact j_ret_i F dX9_byTurns_58 rfl rfl rfl
          · rw [if_neg c_34]
            refine j_aload_n F dX9_byTurns_51 52 rfl 0 rfl ?_
            refine j_get (j := 9) F dX9_byTurns_52 55 rfl inX9 rfl (by decide) sh0 (by decide) qX9_61 rfl ?_
            refine j_get (j := 5) F dX9_byTurns_55 58 rfl inX3 rfl (by decide) sh21 (by decide) qX9_234 rfl ?_
            exact j_ret_i F dX9_byTurns_58 rfl rfl rfl
      · rw [if_neg c_10]
        refine j_bipush (v := (-2)) F dX9_byTurns_18 20 rfl (by decide) ?_
        exact j_ret_i F dX9_byTurns_20 rfl rfl rfl
    · rw [if_neg c_6]
      refine j_bipush (v := (-2)) F dX9_byTurns_18 20 rfl (by decide) ?_
      exact j_ret_i F dX9_byTurns_20 rfl rfl rfl
  · rw [if_neg c_1]
    refine j_bipush (v := (-2)) F dX9_byTurns_18 20 rfl (by decide) ?_
    exact j_ret_i F dX9_byTurns_20 rfl rfl rfl
