def fX10_common_4 (a1 : Int32) (a2 : Int32)  : Nat → Int32 → Int32 → Int32
  | 0, _, _ => 0
  | n + 1, x2_4, x3_4 => if x3_4 = 0 then (x2_4) else (fX10_common_4 a1 a2 n x3_4 (rm x2_4 x3_4))
def fX10_common  (a1 : Int32) (a2 : Int32) : Int32 := fX10_common_4 a1 a2 (a2.toNatClampNeg + 1) a1 a2
set_option maxRecDepth 20000 in
theorem kX10_common (l : Launch) (D : Dm) (a1 : Int32) (a2 : Int32) (σ : Mm) (h1 : 0 ≤ a1.toInt) (h2 : 0 ≤ a2.toInt) : Ct l yX10_common cX10_common 5 (some .int) 1 D [.int a1, .int a2] σ (some (.int (fX10_common a1 a2)), σ) := by
  refine ct_of (by decide +kernel) (Nat.le_of_ble_eq_true rfl) (fun X F => ?_)
  have F : Fx X l 5 D cX10_common RX10 1 (some .int) := F
  show JJ X 5 D σ 0 [(0, .int a1), (1, .int a2)] [] (QQ X D (some (.int (fX10_common a1 a2)), σ))
  rw [fX10_common]
  refine j_iload_n F dX10_common_0 1 rfl 0 rfl ?_
  refine j_istore_n F dX10_common_1 2 rfl 2 rfl (by decide) [(2, .int a1), (0, .int a1), (1, .int a2)] rfl ?_
  refine j_iload_n F dX10_common_2 3 rfl 2 rfl ?_
  refine j_istore_n F dX10_common_3 4 rfl 3 rfl (by decide) [(3, .int a2), (2, .int a1), (0, .int a1), (1, .int a2)] rfl ?_
  have lp_4 : ∀ (n_4 : Nat) (x2_4 : Int32) (x3_4 : Int32), 0 ≤ x2_4.toInt → 0 ≤ x3_4.toInt → x3_4.toNatClampNeg < n_4 → JJ X 5 D σ 4 [(2, .int x2_4), (3, .int x3_4)] [] (QQ X D (some (.int (fX10_common_4 a1 a2 n_4 x2_4 x3_4)), σ)) := by
    intro n_4
    induction n_4 with
    | zero => intro x2_4 x3_4 p_4 q_4 r_4; exact absurd r_4 (by omega)
    | succ n_4 ih_4 =>
      intro x2_4 x3_4 p_4 q_4 r_4
      rw [fX10_common_4]
      refine j_iload_n F dX10_common_4 5 rfl 1 rfl ?_
      refine j_if_eq F dX10_common_5 21 (by decide) 8 rfl (fun c_5 => ?_) (fun c_5 => ?_)
      · rw [if_neg c_5]
        refine j_iload_n F dX10_common_8 9 rfl 0 rfl ?_
        refine j_iload_n F dX10_common_9 10 rfl 1 rfl ?_
        refine j_irem F dX10_common_10 11 rfl (by first | assumption | exact ne_pos (by assumption)) ?_
        refine j_istore F dX10_common_11 13 rfl (by decide) [(4, .int (rm x2_4 x3_4)), (2, .int x2_4), (3, .int x3_4)] rfl ?_
        refine j_iload_n F dX10_common_13 14 rfl 2 rfl ?_
        refine j_istore_n F dX10_common_14 15 rfl 2 rfl (by decide) [(2, .int x3_4), (4, .int (rm x2_4 x3_4)), (3, .int x3_4)] rfl ?_
        refine j_iload F dX10_common_15 17 rfl 1 rfl ?_
        refine j_istore_n F dX10_common_17 18 rfl 3 rfl (by decide) [(3, .int (rm x2_4 x3_4)), (2, .int x3_4), (4, .int (rm x2_4 x3_4))] rfl ?_
        refine j_goto F dX10_common_18 4 (by decide) ?_
        refine j_pick [1, 0] [(2, .int x3_4), (3, .int (rm x2_4 x3_4))] rfl ?_
        exact ih_4 x3_4 (rm x2_4 x3_4) q_4 (rm_nn p_4 q_4 c_5).1 (by have := (rm_nn p_4 q_4 c_5).2; omega)
      · rw [if_pos c_5]
        refine j_iload_n F dX10_common_21 22 rfl 0 rfl ?_
        exact j_ret_i F dX10_common_22 rfl rfl rfl
  refine j_pick [1, 0] [(2, .int a1), (3, .int a2)] rfl ?_
  exact lp_4 (a2.toNatClampNeg + 1) a1 a2 h1 h2 (by omega)
def fX10_toSeek_103  (kb12 : Mm → Int32 → Int32 → Nat → Int32 × Mm) (s_103 : Mm) (x2_103 : Int32) (k3_103 : Nat) (x4_103 : Int32) (b5_103 : Bool) (xt0_103 : Int32) : Int32 × Mm := if b5_103 = true then (kb12 s_103 xt0_103 x4_103 (k3_103 + 1)) else (kb12 s_103 xt0_103 x2_103 (k3_103 + 1))
def fX10_toSeek_91  (kb12 : Mm → Int32 → Int32 → Nat → Int32 × Mm) (s_91 : Mm) (x1_91 : Int32) (x2_91 : Int32) (k3_91 : Nat) (x4_91 : Int32) (bt0_91 : Bool) : Int32 × Mm := if bt0_91 = true then (fX10_toSeek_103 kb12 s_91 x2_91 k3_91 x4_91 bt0_91 (nI k3_91)) else (fX10_toSeek_103 kb12 s_91 x2_91 k3_91 x4_91 bt0_91 x1_91)
def fX10_toSeek_90  (kb12 : Mm → Int32 → Int32 → Nat → Int32 × Mm) (s_90 : Mm) (x1_90 : Int32) (x2_90 : Int32) (k3_90 : Nat) (x4_90 : Int32) : Int32 × Mm := fX10_toSeek_91 kb12 s_90 x1_90 x2_90 k3_90 x4_90 false
def fX10_toSeek_67  (kb12 : Mm → Int32 → Int32 → Nat → Int32 × Mm) (s_67 : Mm) (x1_67 : Int32) (x2_67 : Int32) (k3_67 : Nat) (xt0_67 : Int32) : Int32 × Mm := if (fX10_has (fX10_hiddenThere s_67) (nI k3_67)) = true then (if x2_67 < xt0_67 then (fX10_toSeek_91 kb12 s_67 x1_67 x2_67 k3_67 xt0_67 true) else (fX10_toSeek_90 kb12 s_67 x1_67 x2_67 k3_67 xt0_67)) else (fX10_toSeek_90 kb12 s_67 x1_67 x2_67 k3_67 xt0_67)
def mX10_toSeek_12  (s_12 : Mm) : Nat := ((s_12.1 34 13) : Int32).toNatClampNeg
def fX10_toSeek_12   : Nat → Mm → Int32 → Int32 → Nat → Int32 × Mm
  | 0, s_12, _, _, _ => (0, s_12)
  | n + 1, s_12, x1_12, x2_12, k3_12 => if (nI k3_12) < (s_12.1 34 13) then (if 0 < (s_12.1 33 10) then (if (s_12.1 40 k3_12) < ((s_12.1 33 10) - (s_12.1 40 k3_12)) then (fX10_toSeek_67 (fX10_toSeek_12 n) s_12 x1_12 x2_12 k3_12 (s_12.1 40 k3_12)) else (fX10_toSeek_67 (fX10_toSeek_12 n) s_12 x1_12 x2_12 k3_12 ((s_12.1 33 10) - (s_12.1 40 k3_12)))) else ((x1_12, s_12))) else ((x1_12, s_12))
def fX10_toSeek (σ : Mm)  : Int32 × Mm := fX10_toSeek_12 (mX10_toSeek_12 (fX10_layWorlds σ) + 1) (fX10_layWorlds σ) (-9) (-9) 0
set_option maxRecDepth 20000 in
theorem kX10_toSeek (l : Launch) (D : Dm)  (σ : Mm) (hM : vp_in (σ.1 34 13) 9) (hS : vp_in (σ.1 33 6) 7) : Ct l yX10_toSeek cX10_toSeek 6 (some .int) 7 D [.ref (D.2.1 33)] σ (some (.int (fX10_toSeek σ).1), (fX10_toSeek σ).2) := by
  refine ct_of (by decide +kernel) (Nat.le_of_ble_eq_true rfl) (fun X F => ?_)
  have F : Fx X l 6 D cX10_toSeek RX10 7 (some .int) := F
  show JJ X 6 D σ 0 [(0, .ref (D.2.1 33))] [] (QQ X D (some (.int (fX10_toSeek σ).1), (fX10_toSeek σ).2))
  rw [fX10_toSeek]
  refine j_aload_n F dX10_toSeek_0 1 rfl 0 rfl ?_
  refine j_callVv (as := []) (st := []) (σ9 := (fX10_layWorlds σ)) F zX10_layWorlds dX10_toSeek_1 4 rfl pX10_layWorlds rfl (by decide) (by decide) (Nat.le_of_ble_eq_true rfl) rfl qX10_229 rfl rfl (by decide) sh33 (kX10_layWorlds l D σ (by first | assumption | exact isThing_in (by assumption) (by assumption) | exact vin_mono (by assumption) (by decide) | omega | decide) (by first | assumption | exact isThing_in (by assumption) (by assumption) | exact vin_mono (by assumption) (by decide) | omega | decide)) ?_
  have hm9 : ((fX10_layWorlds σ).1 34 13).toNatClampNeg ≤ 8 := by rw [layWorlds_k (by decide) (by decide)]; exact vin_le hM
  refine j_bipush (v := (-9)) F dX10_toSeek_4 6 rfl (by decide) ?_
  refine j_istore_n F dX10_toSeek_6 7 rfl 1 rfl (by decide) [(1, .int (-9)), (0, .ref (D.2.1 33))] rfl ?_
  refine j_bipush (v := (-9)) F dX10_toSeek_7 9 rfl (by decide) ?_
  refine j_istore_n F dX10_toSeek_9 10 rfl 2 rfl (by decide) [(2, .int (-9)), (1, .int (-9)), (0, .ref (D.2.1 33))] rfl ?_
  refine j_iconst (v := 0) F dX10_toSeek_10 11 rfl (by decide) ?_
  refine j_istore_n F dX10_toSeek_11 12 rfl 3 rfl (by decide) [(3, .int 0), (2, .int (-9)), (1, .int (-9)), (0, .ref (D.2.1 33))] rfl ?_
  have lp_12 : ∀ (n_12 : Nat) (x1_12 : Int32) (x2_12 : Int32) (k3_12 : Nat), k3_12 ≤ ((((fX10_layWorlds σ).1 34 13) : Int32).toNatClampNeg) → ((((fX10_layWorlds σ).1 34 13) : Int32).toNatClampNeg) < k3_12 + n_12 → JJ X 6 D (fX10_layWorlds σ) 12 [(0, .ref (D.2.1 33)), (1, .int x1_12), (2, .int x2_12), (3, .int (nI k3_12))] [] (QQ X D (some (.int (fX10_toSeek_12 n_12 (fX10_layWorlds σ) x1_12 x2_12 k3_12).1), (fX10_toSeek_12 n_12 (fX10_layWorlds σ) x1_12 x2_12 k3_12).2)) := by
    intro n_12
    induction n_12 with
    | zero => intro x1_12 x2_12 k3_12 hk_12 hn_12; exact absurd hn_12 (by omega)
    | succ n_12 ih_12 =>
      intro x1_12 x2_12 k3_12 hk_12 hn_12
      rw [fX10_toSeek_12]
      refine j_iload_n F dX10_toSeek_12 13 rfl 3 rfl ?_
      refine j_aload_n F dX10_toSeek_13 14 rfl 0 rfl ?_
      refine j_callVr (as := []) (st := [.int (nI k3_12)]) (r := .int ((fX10_layWorlds σ).1 34 13)) (σ9 := (fX10_layWorlds σ)) F zX10_many dX10_toSeek_14 17 rfl pX10_many rfl (by decide) (by decide) (Nat.le_of_ble_eq_true rfl) rfl qX10_105 rfl rfl (by decide) sh33 (kX10_many l D (fX10_layWorlds σ)) ?_
      refine j_icmp_ge F dX10_toSeek_17 122 (by decide) 20 rfl (fun c_17 => ?_) (fun c_17 => ?_)
      · rw [if_pos c_17]
        have h_17 : k3_12 < ((((fX10_layWorlds σ).1 34 13) : Int32).toNatClampNeg) := nltd c_17 hk_12
        refine j_aload_n F dX10_toSeek_20 21 rfl 0 rfl ?_
        refine j_get (j := 10) F dX10_toSeek_21 24 rfl inX10 rfl (by decide) sh33 (by decide) qX10_217 rfl ?_
        refine j_if_le F dX10_toSeek_24 122 (by decide) 27 rfl (fun c_24 => ?_) (fun c_24 => ?_)
        · rw [if_pos c_24]
          refine j_aload_n F dX10_toSeek_27 28 rfl 0 rfl ?_
          refine j_get (j := 13) F dX10_toSeek_28 31 rfl inX10 rfl (by decide) sh33 (by decide) qX10_29 rfl ?_
          refine j_iload_n F dX10_toSeek_31 32 rfl 3 rfl ?_
          refine j_iald_n F dX10_toSeek_32 33 rfl ia40 k3_12 rfl (by omega) ?_
          refine j_aload_n F dX10_toSeek_33 34 rfl 0 rfl ?_
          refine j_get (j := 10) F dX10_toSeek_34 37 rfl inX10 rfl (by decide) sh33 (by decide) qX10_217 rfl ?_
          refine j_aload_n F dX10_toSeek_37 38 rfl 0 rfl ?_
          refine j_get (j := 13) F dX10_toSeek_38 41 rfl inX10 rfl (by decide) sh33 (by decide) qX10_29 rfl ?_
          refine j_iload_n F dX10_toSeek_41 42 rfl 3 rfl ?_
          refine j_iald_n F dX10_toSeek_42 43 rfl ia40 k3_12 rfl (by omega) ?_
          refine j_isub F dX10_toSeek_43 44 rfl ?_
          have jn_67 : ∀ (xt0_67 : Int32), JJ X 6 D (fX10_layWorlds σ) 67 [(0, .ref (D.2.1 33)), (1, .int x1_12), (2, .int x2_12), (3, .int (nI k3_12))] [.int xt0_67] (QQ X D (some (.int (fX10_toSeek_67 (fX10_toSeek_12 n_12) (fX10_layWorlds σ) x1_12 x2_12 k3_12 xt0_67).1), (fX10_toSeek_67 (fX10_toSeek_12 n_12) (fX10_layWorlds σ) x1_12 x2_12 k3_12 xt0_67).2)) := by
            intro xt0_67
            rw [fX10_toSeek_67]
            refine j_istore F dX10_toSeek_67 69 rfl (by decide) [(4, .int xt0_67), (0, .ref (D.2.1 33)), (1, .int x1_12), (2, .int x2_12), (3, .int (nI k3_12))] rfl ?_
            refine j_aload_n F dX10_toSeek_69 70 rfl 1 rfl ?_
            refine j_callVr (as := []) (st := []) (r := .int (fX10_hiddenThere (fX10_layWorlds σ))) (σ9 := (fX10_layWorlds σ)) F zX10_hiddenThere dX10_toSeek_70 73 rfl pX10_hiddenThere rfl (by decide) (by decide) (Nat.le_of_ble_eq_true rfl) rfl qX10_214 rfl rfl (by decide) sh33 (kX10_hiddenThere l D (fX10_layWorlds σ)) ?_
            refine j_iload_n F dX10_toSeek_73 74 rfl 4 rfl ?_
            refine j_callSr (as := [.int (fX10_hiddenThere (fX10_layWorlds σ)), .int (nI k3_12)]) (st := []) (r := .int (bi (fX10_has (fX10_hiddenThere (fX10_layWorlds σ)) (nI k3_12)))) (σ9 := (fX10_layWorlds σ)) F zX10_has dX10_toSeek_74 77 rfl pX10_has rfl (by decide) (by decide) (Nat.le_of_ble_eq_true rfl) rfl qX10_108 (kX10_has l D (fX10_hiddenThere (fX10_layWorlds σ)) (nI k3_12) (fX10_layWorlds σ)) ?_
            have jn_91 : ∀ (bt0_91 : Bool), JJ X 6 D (fX10_layWorlds σ) 91 [(0, .ref (D.2.1 33)), (1, .int x1_12), (2, .int x2_12), (3, .int (nI k3_12)), (4, .int xt0_67)] [.int (bi bt0_91)] (QQ X D (some (.int (fX10_toSeek_91 (fX10_toSeek_12 n_12) (fX10_layWorlds σ) x1_12 x2_12 k3_12 xt0_67 bt0_91).1), (fX10_toSeek_91 (fX10_toSeek_12 n_12) (fX10_layWorlds σ) x1_12 x2_12 k3_12 xt0_67 bt0_91).2)) := by
              intro bt0_91
              rw [fX10_toSeek_91]
              refine j_istore F dX10_toSeek_91 93 rfl (by decide) [(5, .int (bi bt0_91)), (0, .ref (D.2.1 33)), (1, .int x1_12), (2, .int x2_12), (3, .int (nI k3_12)), (4, .int xt0_67)] rfl ?_
              refine j_iload F dX10_toSeek_93 95 rfl 0 rfl ?_
              have jn_103 : ∀ (xt0_103 : Int32), JJ X 6 D (fX10_layWorlds σ) 103 [(0, .ref (D.2.1 33)), (2, .int x2_12), (3, .int (nI k3_12)), (4, .int xt0_67), (5, .int (bi bt0_91))] [.int xt0_103] (QQ X D (some (.int (fX10_toSeek_103 (fX10_toSeek_12 n_12) (fX10_layWorlds σ) x2_12 k3_12 xt0_67 bt0_91 xt0_103).1), (fX10_toSeek_103 (fX10_toSeek_12 n_12) (fX10_layWorlds σ) x2_12 k3_12 xt0_67 bt0_91 xt0_103).2)) := by
                intro xt0_103
                rw [fX10_toSeek_103]
                refine j_istore_n F dX10_toSeek_103 104 rfl 1 rfl (by decide) [(1, .int xt0_103), (0, .ref (D.2.1 33)), (2, .int x2_12), (3, .int (nI k3_12)), (4, .int xt0_67), (5, .int (bi bt0_91))] rfl ?_
                refine j_iload F dX10_toSeek_104 106 rfl 5 rfl ?_
                refine j_ifb_eq F dX10_toSeek_106 114 (by decide) 109 rfl (fun c_106 => ?_) (fun c_106 => ?_)
                · rw [if_pos c_106]
                  refine j_iload F dX10_toSeek_109 111 rfl 4 rfl ?_
                  refine j_goto F dX10_toSeek_111 115 (by decide) ?_
                  refine j_istore_n F dX10_toSeek_115 116 rfl 2 rfl (by decide) [(2, .int xt0_67), (1, .int xt0_103), (0, .ref (D.2.1 33)), (3, .int (nI k3_12)), (4, .int xt0_67), (5, .int (bi bt0_91))] rfl ?_
                  refine j_iinc F dX10_toSeek_116 119 rfl 3 rfl (nI (k3_12 + 1)) (nI_inc k3_12) (by decide) [(3, .int (nI (k3_12 + 1))), (2, .int xt0_67), (1, .int xt0_103), (0, .ref (D.2.1 33)), (4, .int xt0_67), (5, .int (bi bt0_91))] rfl ?_
                  refine j_goto F dX10_toSeek_119 12 (by decide) ?_
                  refine j_pick [3, 2, 1, 0] [(0, .ref (D.2.1 33)), (1, .int xt0_103), (2, .int xt0_67), (3, .int (nI (k3_12 + 1)))] rfl ?_
                  exact ih_12 xt0_103 xt0_67 (k3_12 + 1) (by omega) (by omega)
                · rw [if_neg c_106]
                  refine j_iload_n F dX10_toSeek_114 115 rfl 2 rfl ?_
                  refine j_istore_n F dX10_toSeek_115 116 rfl 2 rfl (by decide) [(2, .int x2_12), (1, .int xt0_103), (0, .ref (D.2.1 33)), (3, .int (nI k3_12)), (4, .int xt0_67), (5, .int (bi bt0_91))] rfl ?_
                  refine j_iinc F dX10_toSeek_116 119 rfl 3 rfl (nI (k3_12 + 1)) (nI_inc k3_12) (by decide) [(3, .int (nI (k3_12 + 1))), (2, .int x2_12), (1, .int xt0_103), (0, .ref (D.2.1 33)), (4, .int xt0_67), (5, .int (bi bt0_91))] rfl ?_
                  refine j_goto F dX10_toSeek_119 12 (by decide) ?_
                  refine j_pick [3, 2, 1, 0] [(0, .ref (D.2.1 33)), (1, .int xt0_103), (2, .int x2_12), (3, .int (nI (k3_12 + 1)))] rfl ?_
                  exact ih_12 xt0_103 x2_12 (k3_12 + 1) (by omega) (by omega)
              refine j_ifb_eq F dX10_toSeek_95 102 (by decide) 98 rfl (fun c_95 => ?_) (fun c_95 => ?_)
              · rw [if_pos c_95]
                refine j_iload_n F dX10_toSeek_98 99 rfl 4 rfl ?_
                refine j_goto F dX10_toSeek_99 103 (by decide) ?_
                refine j_pick [1, 3, 4, 5, 0] [(0, .ref (D.2.1 33)), (2, .int x2_12), (3, .int (nI k3_12)), (4, .int xt0_67), (5, .int (bi bt0_91))] rfl ?_
                exact jn_103 (nI k3_12)
              · rw [if_neg c_95]
                refine j_iload_n F dX10_toSeek_102 103 rfl 2 rfl ?_
                refine j_pick [1, 3, 4, 5, 0] [(0, .ref (D.2.1 33)), (2, .int x2_12), (3, .int (nI k3_12)), (4, .int xt0_67), (5, .int (bi bt0_91))] rfl ?_
                exact jn_103 x1_12
            have jn_90 : JJ X 6 D (fX10_layWorlds σ) 90 [(0, .ref (D.2.1 33)), (1, .int x1_12), (2, .int x2_12), (3, .int (nI k3_12)), (4, .int xt0_67)] [] (QQ X D (some (.int (fX10_toSeek_90 (fX10_toSeek_12 n_12) (fX10_layWorlds σ) x1_12 x2_12 k3_12 xt0_67).1), (fX10_toSeek_90 (fX10_toSeek_12 n_12) (fX10_layWorlds σ) x1_12 x2_12 k3_12 xt0_67).2)) := by
              rw [fX10_toSeek_90]
              refine j_iconst (v := 0) F dX10_toSeek_90 91 rfl (by decide) ?_
              exact jn_91 false
            refine j_ifb_eq F dX10_toSeek_77 90 (by decide) 80 rfl (fun c_77 => ?_) (fun c_77 => ?_)
            · rw [if_pos c_77]
              refine j_iload F dX10_toSeek_80 82 rfl 0 rfl ?_
              refine j_iload_n F dX10_toSeek_82 83 rfl 3 rfl ?_
              refine j_icmp_le F dX10_toSeek_83 90 (by decide) 86 rfl (fun c_83 => ?_) (fun c_83 => ?_)
              · rw [if_pos c_83]
                refine j_iconst (v := 1) F dX10_toSeek_86 87 rfl (by decide) ?_
                refine j_goto F dX10_toSeek_87 91 (by decide) ?_
                refine j_pick [1, 2, 3, 4, 0] [(0, .ref (D.2.1 33)), (1, .int x1_12), (2, .int x2_12), (3, .int (nI k3_12)), (4, .int xt0_67)] rfl ?_
                exact jn_91 true
              · rw [if_neg c_83]
                refine j_pick [1, 2, 3, 4, 0] [(0, .ref (D.2.1 33)), (1, .int x1_12), (2, .int x2_12), (3, .int (nI k3_12)), (4, .int xt0_67)] rfl ?_
                exact jn_90
            · rw [if_neg c_77]
              refine j_pick [1, 2, 3, 4, 0] [(0, .ref (D.2.1 33)), (1, .int x1_12), (2, .int x2_12), (3, .int (nI k3_12)), (4, .int xt0_67)] rfl ?_
              exact jn_90
          refine j_icmp_ge F dX10_toSeek_44 56 (by decide) 47 rfl (fun c_44 => ?_) (fun c_44 => ?_)
          · rw [if_pos c_44]
            refine j_aload_n F dX10_toSeek_47 48 rfl 0 rfl ?_
            refine j_get (j := 13) F dX10_toSeek_48 51 rfl inX10 rfl (by decide) sh33 (by decide) qX10_29 rfl ?_
            refine j_iload_n F dX10_toSeek_51 52 rfl 3 rfl ?_
            refine j_iald_n F dX10_toSeek_52 53 rfl ia40 k3_12 rfl (by omega) ?_
            refine j_goto F dX10_toSeek_53 67 (by decide) ?_
            exact jn_67 ((fX10_layWorlds σ).1 40 k3_12)
          · rw [if_neg c_44]
            refine j_aload_n F dX10_toSeek_56 57 rfl 0 rfl ?_
            refine j_get (j := 10) F dX10_toSeek_57 60 rfl inX10 rfl (by decide) sh33 (by decide) qX10_217 rfl ?_
            refine j_aload_n F dX10_toSeek_60 61 rfl 0 rfl ?_
            refine j_get (j := 13) F dX10_toSeek_61 64 rfl inX10 rfl (by decide) sh33 (by decide) qX10_29 rfl ?_
            refine j_iload_n F dX10_toSeek_64 65 rfl 3 rfl ?_
            refine j_iald_n F dX10_toSeek_65 66 rfl ia40 k3_12 rfl (by omega) ?_
            refine j_isub F dX10_toSeek_66 67 rfl ?_
            exact jn_67 (((fX10_layWorlds σ).1 33 10) - ((fX10_layWorlds σ).1 40 k3_12))
        · rw [if_neg c_24]
          refine j_iload_n F dX10_toSeek_122 123 rfl 1 rfl ?_
          exact j_ret_i F dX10_toSeek_123 rfl rfl rfl
      · rw [if_neg c_17]
        refine j_iload_n F dX10_toSeek_122 123 rfl 1 rfl ?_
        exact j_ret_i F dX10_toSeek_123 rfl rfl rfl
  refine j_pick [3, 2, 1, 0] [(0, .ref (D.2.1 33)), (1, .int (-9)), (2, .int (-9)), (3, .int 0)] rfl ?_
  exact lp_12 (mX10_toSeek_12 (fX10_layWorlds σ) + 1) (-9) (-9) 0 (Nat.zero_le _) (by show ((((fX10_layWorlds σ).1 34 13) : Int32).toNatClampNeg) < 0 + (((((fX10_layWorlds σ).1 34 13) : Int32).toNatClampNeg) + 1); omega)
