set_option maxRecDepth 20000 in
theorem kX10_byTurns (l : Launch) (D : Dm) (a1 : Int32) (a2 : Int32) (σ : Mm) (hM : vp_in (σ.1 34 13) 9) : Ct l yX10_byTurns cX10_byTurns 7 (some .int) 7 D [.ref (D.2.1 33), .int a1, .int a2] σ (some (.int (fX10_byTurns σ a1 a2).1), (fX10_byTurns σ a1 a2).2) := by
  refine ct_of (by decide +kernel) (Nat.le_of_ble_eq_true rfl) (fun X F => ?_)
  have F : Fx X l 7 D cX10_byTurns RX10 7 (some .int) := F
  show JJ X 7 D σ 0 [(0, .ref (D.2.1 33)), (1, .int a1), (2, .int a2)] [] (QQ X D (some (.int (fX10_byTurns σ a1 a2).1), (fX10_byTurns σ a1 a2).2))
  rw [fX10_byTurns]
  refine j_iload_n F dX10_byTurns_0 1 rfl 1 rfl ?_
  refine j_i2l F dX10_byTurns_1 2 rfl ?_
  refine j_lconst (v := 0) F dX10_byTurns_2 3 rfl (by decide) ?_
  refine j_ldc2 F dX10_byTurns_3 6 rfl qX10_181 ?_
  refine j_callSr (as := [.long (a1.toInt64), .long 0, .long 4]) (st := []) (r := .int (bi (fX10_in (a1.toInt64) 0 4))) (σ9 := σ) F zX10_in dX10_byTurns_6 9 rfl pX10_in rfl (by decide) (by decide) (Nat.le_of_ble_eq_true rfl) rfl qX10_58 (kX10_in l D (a1.toInt64) 0 4 σ) ?_
  refine j_ifb_eq F dX10_byTurns_9 22 (by decide) 12 rfl (fun c_9 => ?_) (fun c_9 => ?_)
  · rw [if_pos c_9]
    refine j_iload_n F dX10_byTurns_12 13 rfl 2 rfl ?_
    refine j_i2l F dX10_byTurns_13 14 rfl ?_
    refine j_lconst (v := 0) F dX10_byTurns_14 15 rfl (by decide) ?_
    refine j_lconst (v := 1) F dX10_byTurns_15 16 rfl (by decide) ?_
    refine j_callSr (as := [.long (a2.toInt64), .long 0, .long 1]) (st := []) (r := .int (bi (fX10_in (a2.toInt64) 0 1))) (σ9 := σ) F zX10_in dX10_byTurns_16 19 rfl pX10_in rfl (by decide) (by decide) (Nat.le_of_ble_eq_true rfl) rfl qX10_58 (kX10_in l D (a2.toInt64) 0 1 σ) ?_
    refine j_ifb_ne F dX10_byTurns_19 25 (by decide) 22 rfl (fun c_19 => ?_) (fun c_19 => ?_)
    · rw [if_neg c_19]
      refine j_bipush (v := (-2)) F dX10_byTurns_22 24 rfl (by decide) ?_
      exact j_ret_i F dX10_byTurns_24 rfl rfl rfl
    · rw [if_pos c_19]
      obtain ⟨N, hN, ea1⟩ := in4 c_9
      refine j_iconst (v := 0) F dX10_byTurns_25 26 rfl (by decide) ?_
      refine j_istore_n F dX10_byTurns_26 27 rfl 3 rfl (by decide) [(3, .int 0), (0, .ref (D.2.1 33)), (1, .int a1), (2, .int a2)] rfl ?_
      refine j_aload_n F dX10_byTurns_27 28 rfl 1 rfl ?_
      refine j_iconst (v := 0) F dX10_byTurns_28 29 rfl (by decide) ?_
      refine j_aload_n F dX10_byTurns_29 30 rfl 1 rfl ?_
      refine j_get (j := 0) F dX10_byTurns_30 33 rfl inX10 rfl (by decide) sh33 (by decide) qX10_7 rfl ?_
      refine j_bipush (v := 8) F dX10_byTurns_33 35 rfl (by decide) ?_
      refine j_iald_n F dX10_byTurns_35 36 rfl ia34 8 rfl (by decide) ?_
      refine j_aload_n F dX10_byTurns_36 37 rfl 1 rfl ?_
      refine j_get (j := 0) F dX10_byTurns_37 40 rfl inX10 rfl (by decide) sh33 (by decide) qX10_7 rfl ?_
      refine j_bipush (v := 10) F dX10_byTurns_40 42 rfl (by decide) ?_
      refine j_iald_n F dX10_byTurns_42 43 rfl ia34 10 rfl (by decide) ?_
      refine j_callVv (as := [.int 0, .int (σ.1 34 8), .int (σ.1 34 10)]) (st := []) (σ9 := (fX10_begin σ 0 (σ.1 34 8) (σ.1 34 10))) F zX10_begin dX10_byTurns_43 46 rfl pX10_begin rfl (by decide) (by decide) (Nat.le_of_ble_eq_true rfl) rfl qX10_233 rfl rfl (by decide) sh33 (kX10_begin l D 0 (σ.1 34 8) (σ.1 34 10) σ (vp_in_nI (n := 0) (by decide) (by decide))) ?_
      refine j_iload_n F dX10_byTurns_46 47 rfl 2 rfl ?_
      have jn_55 : ∀ (bt0_55 : Bool), JJ X 7 D (fX10_begin σ 0 (σ.1 34 8) (σ.1 34 10)) 55 [(0, .ref (D.2.1 33)), (1, .int a1), (2, .int a2), (3, .int 0)] [.int (bi bt0_55)] (QQ X D (some (.int (fX10_byTurns_55 a1 a2 (fX10_begin σ 0 (σ.1 34 8) (σ.1 34 10)) bt0_55).1), (fX10_byTurns_55 a1 a2 (fX10_begin σ 0 (σ.1 34 8) (σ.1 34 10)) bt0_55).2)) := by
        intro bt0_55
        rw [fX10_byTurns_55]
        refine j_istore F dX10_byTurns_55 57 rfl (by decide) [(4, .int (bi bt0_55)), (0, .ref (D.2.1 33)), (1, .int a1), (2, .int a2), (3, .int 0)] rfl ?_
        refine j_aload_n F dX10_byTurns_57 58 rfl 1 rfl ?_
        refine j_get (j := 17) F dX10_byTurns_58 61 rfl inX10 rfl (by decide) sh33 (by decide) qX10_41 rfl ?_
        refine j_iconst (v := 0) F dX10_byTurns_61 62 rfl (by decide) ?_
        refine j_iload F dX10_byTurns_62 64 rfl 0 rfl ?_
        have jn_77 : ∀ (xt0_77 : Int32), JJ X 7 D (fX10_begin σ 0 (σ.1 34 8) (σ.1 34 10)) 77 [(0, .ref (D.2.1 33)), (1, .int a1), (2, .int a2), (3, .int 0), (4, .int (bi bt0_55))] [.int xt0_77, .int 0, .ref (D.2.1 44)] (QQ X D (some (.int (fX10_byTurns_77 a1 a2 (fX10_begin σ 0 (σ.1 34 8) (σ.1 34 10)) bt0_55 xt0_77).1), (fX10_byTurns_77 a1 a2 (fX10_begin σ 0 (σ.1 34 8) (σ.1 34 10)) bt0_55 xt0_77).2)) := by
          intro xt0_77
          rw [fX10_byTurns_77]
          refine j_iast_n F dX10_byTurns_77 78 rfl ia44 0 rfl (by decide) ?_
          have hx_251 : ∀ (s_251 : Mm), JJ X 7 D s_251 251 [(0, .ref (D.2.1 33)), (2, .int a2)] [] (QQ X D (some (.int (fX10_byTurns_251 a1 a2 s_251).1), (fX10_byTurns_251 a1 a2 s_251).2)) := by
            intro s_251
            rw [fX10_byTurns_251]
            refine j_iload_n F dX10_byTurns_251 252 rfl 1 rfl ?_
            refine j_if_ne F dX10_byTurns_252 268 (by decide) 255 rfl (fun c_252 => ?_) (fun c_252 => ?_)
            · rw [if_pos c_252]
              refine j_sipush (v := 1000) F dX10_byTurns_255 258 rfl (by decide) ?_
              refine j_aload_n F dX10_byTurns_258 259 rfl 0 rfl ?_
              refine j_get (j := 17) F dX10_byTurns_259 262 rfl inX10 rfl (by decide) sh33 (by decide) qX10_41 rfl ?_
              refine j_iconst (v := 0) F dX10_byTurns_262 263 rfl (by decide) ?_
              refine j_iald_n F dX10_byTurns_263 264 rfl ia44 0 rfl (by decide) ?_
              refine j_iadd F dX10_byTurns_264 265 rfl ?_
              refine j_goto F dX10_byTurns_265 274 (by decide) ?_
              exact j_ret_i F dX10_byTurns_274 rfl rfl rfl
            · rw [if_neg c_252]
              refine j_aload_n F dX10_byTurns_268 269 rfl 0 rfl ?_
              refine j_get (j := 18) F dX10_byTurns_269 272 rfl inX10 rfl (by decide) sh33 (by decide) qX10_44 rfl ?_
              refine j_iconst (v := 0) F dX10_byTurns_272 273 rfl (by decide) ?_
              refine j_iald_n F dX10_byTurns_273 274 rfl ia45 0 rfl (by decide) ?_
              exact j_ret_i F dX10_byTurns_274 rfl rfl rfl
          have lp_78 : ∀ (n_78 : Nat) (s_78 : Mm) (x3_78 : Int32) (b4_78 : Bool), BI N s_78 x3_78 b4_78 n_78 → JJ X 7 D s_78 78 [(0, .ref (D.2.1 33)), (1, .int a1), (2, .int a2), (3, .int x3_78), (4, .int (bi b4_78))] [] (QQ X D (some (.int (fX10_byTurns_78 a1 a2 n_78 s_78 x3_78 b4_78).1), (fX10_byTurns_78 a1 a2 n_78 s_78 x3_78 b4_78).2)) := by
            intro n_78
            induction n_78 with
            | zero => intro s_78 x3_78 b4_78 hi_78; exact (BI_no hi_78).elim
            | succ n_78 ih_78 =>
              intro s_78 x3_78 b4_78 hi_78
              rw [fX10_byTurns_78]
              refine j_iload F dX10_byTurns_78 80 rfl 4 rfl ?_
              refine j_ifb_ne F dX10_byTurns_80 251 (by decide) 83 rfl (fun c_80 => ?_) (fun c_80 => ?_)
              · rw [if_neg c_80]
                obtain ⟨hM8, hm8, hb8⟩ := hi_78
                have eb8 : b4_78 = false := Bool.eq_false_iff.mpr c_80
                obtain ⟨at8, hat8, ex8, htr8, hmu8⟩ := hb8 eb8
                have hv1 : vp_in x3_78 6 := by rw [ex8]; exact vp_in_nI (by omega) (by decide)
                refine j_iload_n F dX10_byTurns_83 84 rfl 3 rfl ?_
                refine j_iload_n F dX10_byTurns_84 85 rfl 1 rfl ?_
                have jn_99 : JJ X 7 D s_78 99 [(0, .ref (D.2.1 33)), (1, .int a1), (2, .int a2), (3, .int x3_78)] [] (QQ X D (some (.int (fX10_byTurns_99 a1 a2 (fX10_byTurns_78 a1 a2 n_78) s_78 x3_78).1), (fX10_byTurns_99 a1 a2 (fX10_byTurns_78 a1 a2 n_78) s_78 x3_78).2)) := by
                  rw [fX10_byTurns_99]
                  refine j_iload_n F dX10_byTurns_99 100 rfl 3 rfl ?_
                  refine j_iload_n F dX10_byTurns_100 101 rfl 1 rfl ?_
                  have jn_114 : ∀ (xt0_114 : Int32), JJ X 7 D s_78 114 [(0, .ref (D.2.1 33)), (1, .int a1), (2, .int a2), (3, .int x3_78)] [.int xt0_114] (QQ X D (some (.int (fX10_byTurns_114 a1 a2 (fX10_byTurns_78 a1 a2 n_78) s_78 x3_78 xt0_114).1), (fX10_byTurns_114 a1 a2 (fX10_byTurns_78 a1 a2 n_78) s_78 x3_78 xt0_114).2)) := by
                    intro xt0_114
                    rw [fX10_byTurns_114]
                    refine j_istore F dX10_byTurns_114 116 rfl (by decide) [(5, .int xt0_114), (0, .ref (D.2.1 33)), (1, .int a1), (2, .int a2), (3, .int x3_78)] rfl ?_
                    refine j_iinc F dX10_byTurns_116 119 rfl 4 rfl (x3_78 + (-1)) rfl (by decide) [(3, .int (x3_78 + (-1))), (5, .int xt0_114), (0, .ref (D.2.1 33)), (1, .int a1), (2, .int a2)] rfl ?_
                    refine j_iload_n F dX10_byTurns_119 120 rfl 0 rfl ?_
                    have jn_196 : ∀ (s_196 : Mm), (s_196.1 43 = s_78.1 43 ∧ s_196.1 34 = s_78.1 34) → JJ X 7 D s_196 196 [(0, .ref (D.2.1 33)), (1, .int a1), (2, .int a2), (3, .int (x3_78 + (-1)))] [] (QQ X D (some (.int (fX10_byTurns_196 a1 a2 (fX10_byTurns_78 a1 a2 n_78) s_196 (x3_78 + (-1))).1), (fX10_byTurns_196 a1 a2 (fX10_byTurns_78 a1 a2 n_78) s_196 (x3_78 + (-1))).2)) := by
                      intro s_196 h_196
                      rw [fX10_byTurns_196]
                      refine j_iload_n F dX10_byTurns_196 197 rfl 3 rfl ?_
                      refine j_if_ge F dX10_byTurns_197 204 (by decide) 200 rfl (fun c_197 => ?_) (fun c_197 => ?_)
                      · rw [if_pos c_197]
                        refine j_iconst (v := 1) F dX10_byTurns_200 201 rfl (by decide) ?_
                        refine j_goto F dX10_byTurns_201 205 (by decide) ?_
                        refine j_istore F dX10_byTurns_205 207 rfl (by decide) [(4, .int 1), (0, .ref (D.2.1 33)), (1, .int a1), (2, .int a2), (3, .int (x3_78 + (-1)))] rfl ?_
                        refine j_goto F dX10_byTurns_207 78 (by decide) ?_
                        refine j_pick [1, 2, 3, 4, 0] [(0, .ref (D.2.1 33)), (1, .int a1), (2, .int a2), (3, .int (x3_78 + (-1))), (4, .int 1)] rfl ?_
                        exact ih_78 s_196 (x3_78 + (-1)) true ((BI_pop hN hM8 hat8 ex8 htr8 hmu8 h_196).1 c_197)
                      · rw [if_neg c_197]
                        refine j_iconst (v := 0) F dX10_byTurns_204 205 rfl (by decide) ?_
                        refine j_istore F dX10_byTurns_205 207 rfl (by decide) [(4, .int 0), (0, .ref (D.2.1 33)), (1, .int a1), (2, .int a2), (3, .int (x3_78 + (-1)))] rfl ?_
                        refine j_goto F dX10_byTurns_207 78 (by decide) ?_
                        refine j_pick [1, 2, 3, 4, 0] [(0, .ref (D.2.1 33)), (1, .int a1), (2, .int a2), (3, .int (x3_78 + (-1))), (4, .int 0)] rfl ?_
                        exact ih_78 s_196 (x3_78 + (-1)) false ((BI_pop hN hM8 hat8 ex8 htr8 hmu8 h_196).2 c_197)
                    refine j_if_lt F dX10_byTurns_120 196 (by decide) 123 rfl (fun c_120 => ?_) (fun c_120 => ?_)
                    · rw [if_pos c_120]
                      have hv2 := vin_m1 (by omega) ex8 c_120
                      refine j_aload_n F dX10_byTurns_123 124 rfl 2 rfl ?_
                      refine j_get (j := 19) F dX10_byTurns_124 127 rfl inX10 rfl (by decide) sh33 (by decide) qX10_47 rfl ?_
                      refine j_iload_n F dX10_byTurns_127 128 rfl 0 rfl ?_
                      refine j_iald F dX10_byTurns_128 129 rfl ia46 hv2 ?_
                      refine j_iload F dX10_byTurns_129 131 rfl 1 rfl ?_
                      refine j_isub F dX10_byTurns_131 132 rfl ?_
                      refine j_istore F dX10_byTurns_132 134 rfl (by decide) [(6, .int ((s_78.1 46 (x3_78 + (-1)).toNatClampNeg) - xt0_114)), (3, .int (x3_78 + (-1))), (5, .int xt0_114), (0, .ref (D.2.1 33)), (1, .int a1), (2, .int a2)] rfl ?_
                      refine j_aload_n F dX10_byTurns_134 135 rfl 3 rfl ?_
                      refine j_get (j := 18) F dX10_byTurns_135 138 rfl inX10 rfl (by decide) sh33 (by decide) qX10_44 rfl ?_
                      refine j_iload_n F dX10_byTurns_138 139 rfl 1 rfl ?_
                      refine j_iload F dX10_byTurns_139 141 rfl 0 rfl ?_
                      refine j_aload_n F dX10_byTurns_141 142 rfl 3 rfl ?_
                      refine j_get (j := 17) F dX10_byTurns_142 145 rfl inX10 rfl (by decide) sh33 (by decide) qX10_41 rfl ?_
                      refine j_iload_n F dX10_byTurns_145 146 rfl 1 rfl ?_
                      refine j_iald F dX10_byTurns_146 147 rfl ia44 hv2 ?_
                      have jn_167 : ∀ (xt0_167 : Int32), JJ X 7 D s_78 167 [(0, .ref (D.2.1 33)), (1, .int a1), (2, .int a2), (3, .int (x3_78 + (-1))), (6, .int ((s_78.1 46 (x3_78 + (-1)).toNatClampNeg) - xt0_114))] [.int xt0_167, .int (x3_78 + (-1)), .ref (D.2.1 45)] (QQ X D (some (.int (fX10_byTurns_167 a1 a2 (fX10_byTurns_78 a1 a2 n_78) s_78 (x3_78 + (-1)) ((s_78.1 46 (x3_78 + (-1)).toNatClampNeg) - xt0_114) xt0_167 (x3_78 + (-1))).1), (fX10_byTurns_167 a1 a2 (fX10_byTurns_78 a1 a2 n_78) s_78 (x3_78 + (-1)) ((s_78.1 46 (x3_78 + (-1)).toNatClampNeg) - xt0_114) xt0_167 (x3_78 + (-1))).2)) := by
                        intro xt0_167
                        rw [fX10_byTurns_167]
                        refine j_iast F dX10_byTurns_167 168 rfl ia45 hv2 ?_
                        refine j_aload_n F dX10_byTurns_168 169 rfl 0 rfl ?_
                        refine j_get (j := 17) F dX10_byTurns_169 172 rfl inX10 rfl (by decide) sh33 (by decide) qX10_41 rfl ?_
                        refine j_iload_n F dX10_byTurns_172 173 rfl 3 rfl ?_
                        refine j_iload F dX10_byTurns_173 175 rfl 4 rfl ?_
                        refine j_aload_n F dX10_byTurns_175 176 rfl 0 rfl ?_
                        refine j_get (j := 17) F dX10_byTurns_176 179 rfl inX10 rfl (by decide) sh33 (by decide) qX10_41 rfl ?_
                        refine j_iload_n F dX10_byTurns_179 180 rfl 3 rfl ?_
                        refine j_iald F dX10_byTurns_180 181 rfl ia44 hv2 ?_
                        have jn_195 : ∀ (xt0_195 : Int32), JJ X 7 D (up s_78 45 (x3_78 + (-1)).toNatClampNeg xt0_167) 195 [(0, .ref (D.2.1 33)), (1, .int a1), (2, .int a2), (3, .int (x3_78 + (-1)))] [.int xt0_195, .int (x3_78 + (-1)), .ref (D.2.1 44)] (QQ X D (some (.int (fX10_byTurns_195 a1 a2 (fX10_byTurns_78 a1 a2 n_78) (up s_78 45 (x3_78 + (-1)).toNatClampNeg xt0_167) (x3_78 + (-1)) xt0_195 (x3_78 + (-1))).1), (fX10_byTurns_195 a1 a2 (fX10_byTurns_78 a1 a2 n_78) (up s_78 45 (x3_78 + (-1)).toNatClampNeg xt0_167) (x3_78 + (-1)) xt0_195 (x3_78 + (-1))).2)) := by
                          intro xt0_195
                          rw [fX10_byTurns_195]
                          refine j_iast F dX10_byTurns_195 196 rfl ia44 hv2 ?_
                          exact jn_196 (up (up s_78 45 (x3_78 + (-1)).toNatClampNeg xt0_167) 44 (x3_78 + (-1)).toNatClampNeg xt0_195) ⟨by rw [up_ne (by decide), up_ne (by decide)], by rw [up_ne (by decide), up_ne (by decide)]⟩
                        refine j_icmp_le F dX10_byTurns_181 189 (by decide) 184 rfl (fun c_181 => ?_) (fun c_181 => ?_)
                        · rw [if_pos c_181]
                          refine j_iload F dX10_byTurns_184 186 rfl 4 rfl ?_
                          refine j_goto F dX10_byTurns_186 195 (by decide) ?_
                          refine j_pick [0, 1, 2, 3] [(0, .ref (D.2.1 33)), (1, .int a1), (2, .int a2), (3, .int (x3_78 + (-1)))] rfl ?_
                          exact jn_195 ((s_78.1 46 (x3_78 + (-1)).toNatClampNeg) - xt0_114)
                        · rw [if_neg c_181]
                          refine j_aload_n F dX10_byTurns_189 190 rfl 0 rfl ?_
                          refine j_get (j := 17) F dX10_byTurns_190 193 rfl inX10 rfl (by decide) sh33 (by decide) qX10_41 rfl ?_
                          refine j_iload_n F dX10_byTurns_193 194 rfl 3 rfl ?_
                          refine j_iald F dX10_byTurns_194 195 rfl ia44 hv2 ?_
                          refine j_pick [0, 1, 2, 3] [(0, .ref (D.2.1 33)), (1, .int a1), (2, .int a2), (3, .int (x3_78 + (-1)))] rfl ?_
                          exact jn_195 ((up s_78 45 (x3_78 + (-1)).toNatClampNeg xt0_167).1 44 (x3_78 + (-1)).toNatClampNeg)
                      refine j_icmp_le F dX10_byTurns_147 161 (by decide) 150 rfl (fun c_147 => ?_) (fun c_147 => ?_)
                      · rw [if_pos c_147]
                        refine j_aload_n F dX10_byTurns_150 151 rfl 3 rfl ?_
                        refine j_get (j := 16) F dX10_byTurns_151 154 rfl inX10 rfl (by decide) sh33 (by decide) qX10_38 rfl ?_
                        refine j_iload_n F dX10_byTurns_154 155 rfl 1 rfl ?_
                        refine j_iald F dX10_byTurns_155 156 rfl ia43 hv2 ?_
                        refine j_iconst (v := 1) F dX10_byTurns_156 157 rfl (by decide) ?_
                        refine j_isub F dX10_byTurns_157 158 rfl ?_
                        refine j_goto F dX10_byTurns_158 167 (by decide) ?_
                        refine j_pick [3, 4, 5, 1, 0] [(0, .ref (D.2.1 33)), (1, .int a1), (2, .int a2), (3, .int (x3_78 + (-1))), (6, .int ((s_78.1 46 (x3_78 + (-1)).toNatClampNeg) - xt0_114))] rfl ?_
                        exact jn_167 ((s_78.1 43 (x3_78 + (-1)).toNatClampNeg) - 1)
                      · rw [if_neg c_147]
                        refine j_aload_n F dX10_byTurns_161 162 rfl 3 rfl ?_
                        refine j_get (j := 18) F dX10_byTurns_162 165 rfl inX10 rfl (by decide) sh33 (by decide) qX10_44 rfl ?_
                        refine j_iload_n F dX10_byTurns_165 166 rfl 1 rfl ?_
                        refine j_iald F dX10_byTurns_166 167 rfl ia45 hv2 ?_
                        refine j_pick [3, 4, 5, 1, 0] [(0, .ref (D.2.1 33)), (1, .int a1), (2, .int a2), (3, .int (x3_78 + (-1))), (6, .int ((s_78.1 46 (x3_78 + (-1)).toNatClampNeg) - xt0_114))] rfl ?_
                        exact jn_167 (s_78.1 45 (x3_78 + (-1)).toNatClampNeg)
                    · rw [if_neg c_120]
                      refine j_pick [2, 3, 4, 0] [(0, .ref (D.2.1 33)), (1, .int a1), (2, .int a2), (3, .int (x3_78 + (-1)))] rfl ?_
                      exact jn_196 s_78 ⟨rfl, rfl⟩
                  refine j_icmp_ne F dX10_byTurns_101 108 (by decide) 104 rfl (fun c_101 => ?_) (fun c_101 => ?_)
                  · rw [if_pos c_101]
                    refine j_iconst (v := 0) F dX10_byTurns_104 105 rfl (by decide) ?_
                    refine j_goto F dX10_byTurns_105 114 (by decide) ?_
                    exact jn_114 0
                  · rw [if_neg c_101]
                    refine j_aload_n F dX10_byTurns_108 109 rfl 0 rfl ?_
                    refine j_get (j := 17) F dX10_byTurns_109 112 rfl inX10 rfl (by decide) sh33 (by decide) qX10_41 rfl ?_
                    refine j_iload_n F dX10_byTurns_112 113 rfl 3 rfl ?_
                    refine j_iald F dX10_byTurns_113 114 rfl ia44 hv1 ?_
                    exact jn_114 (s_78.1 44 x3_78.toNatClampNeg)
                refine j_icmp_eq F dX10_byTurns_85 99 (by decide) 88 rfl (fun c_85 => ?_) (fun c_85 => ?_)
                · rw [if_neg c_85]
                  refine j_aload_n F dX10_byTurns_88 89 rfl 0 rfl ?_
                  refine j_get (j := 16) F dX10_byTurns_89 92 rfl inX10 rfl (by decide) sh33 (by decide) qX10_38 rfl ?_
                  refine j_iload_n F dX10_byTurns_92 93 rfl 3 rfl ?_
                  refine j_iald F dX10_byTurns_93 94 rfl ia43 hv1 ?_
                  refine j_bipush (v := 18) F dX10_byTurns_94 96 rfl (by decide) ?_
                  refine j_icmp_le F dX10_byTurns_96 210 (by decide) 99 rfl (fun c_96 => ?_) (fun c_96 => ?_)
                  · rw [if_pos c_96]
                    refine j_pick [0, 1, 2, 3] [(0, .ref (D.2.1 33)), (1, .int a1), (2, .int a2), (3, .int x3_78)] rfl ?_
                    exact jn_99
                  · rw [if_neg c_96]
                    obtain ⟨hl8, t8, ht8, e8⟩ := BI_try hN ea1 hat8 ex8 htr8 c_85 c_96
                    have hv3 : vp_in x3_78 5 := by rw [ex8]; exact vp_in_nI (by omega) (by decide)
                    have hMu : vp_in ((up s_78 43 x3_78.toNatClampNeg ((s_78.1 43 x3_78.toNatClampNeg) + 1)).1 34 13) 9 := by rw [up_ne (by decide)]; exact hM8
                    have hbk := BI_skip (b := b4_78) hN hM8 hl8 ex8 htr8 hmu8 e8 ht8
                    refine j_aload_n F dX10_byTurns_210 211 rfl 0 rfl ?_
                    refine j_get (j := 16) F dX10_byTurns_211 214 rfl inX10 rfl (by decide) sh33 (by decide) qX10_38 rfl ?_
                    refine j_iload_n F dX10_byTurns_214 215 rfl 3 rfl ?_
                    refine j_iald F dX10_byTurns_215 216 rfl ia43 hv1 ?_
                    refine j_istore F dX10_byTurns_216 218 rfl (by decide) [(5, .int (s_78.1 43 x3_78.toNatClampNeg)), (0, .ref (D.2.1 33)), (1, .int a1), (2, .int a2), (3, .int x3_78), (4, .int (bi b4_78))] rfl ?_
                    refine j_aload_n F dX10_byTurns_218 219 rfl 1 rfl ?_
                    refine j_get (j := 16) F dX10_byTurns_219 222 rfl inX10 rfl (by decide) sh33 (by decide) qX10_38 rfl ?_
                    refine j_iload_n F dX10_byTurns_222 223 rfl 4 rfl ?_
                    refine j_dup2 F dX10_byTurns_223 224 rfl rfl rfl ?_
                    refine j_iald F dX10_byTurns_224 225 rfl ia43 hv1 ?_
                    refine j_iconst (v := 1) F dX10_byTurns_225 226 rfl (by decide) ?_
                    refine j_iadd F dX10_byTurns_226 227 rfl ?_
                    refine j_iast F dX10_byTurns_227 228 rfl ia43 hv1 ?_
                    refine j_aload_n F dX10_byTurns_228 229 rfl 1 rfl ?_
                    refine j_iload_n F dX10_byTurns_229 230 rfl 4 rfl ?_
                    refine j_iload F dX10_byTurns_230 232 rfl 0 rfl ?_
                    refine j_callVr (as := [.int x3_78, .int (s_78.1 43 x3_78.toNatClampNeg)]) (st := []) (r := .int (bi (fX10_canMove (up s_78 43 x3_78.toNatClampNeg ((s_78.1 43 x3_78.toNatClampNeg) + 1)) x3_78 (s_78.1 43 x3_78.toNatClampNeg)))) (σ9 := (up s_78 43 x3_78.toNatClampNeg ((s_78.1 43 x3_78.toNatClampNeg) + 1))) F zX10_canMove dX10_byTurns_232 235 rfl pX10_canMove rfl (by decide) (by decide) (Nat.le_of_ble_eq_true rfl) rfl qX10_237 rfl rfl (by decide) sh33 (kX10_canMove l D x3_78 (s_78.1 43 x3_78.toNatClampNeg) (up s_78 43 x3_78.toNatClampNeg ((s_78.1 43 x3_78.toNatClampNeg) + 1)) hv1 hMu) ?_
                    refine j_ifb_eq F dX10_byTurns_235 248 (by decide) 238 rfl (fun c_235 => ?_) (fun c_235 => ?_)
                    · rw [if_pos c_235]
                      refine j_aload_n F dX10_byTurns_238 239 rfl 1 rfl ?_
                      refine j_iload_n F dX10_byTurns_239 240 rfl 4 rfl ?_
                      refine j_iload F dX10_byTurns_240 242 rfl 0 rfl ?_
                      refine j_callVv (as := [.int x3_78, .int (s_78.1 43 x3_78.toNatClampNeg)]) (st := []) (σ9 := (fX10_go (up s_78 43 x3_78.toNatClampNeg ((s_78.1 43 x3_78.toNatClampNeg) + 1)) x3_78 (s_78.1 43 x3_78.toNatClampNeg))) F zX10_go dX10_byTurns_242 245 rfl pX10_go rfl (by decide) (by decide) (Nat.le_of_ble_eq_true rfl) rfl qX10_240 rfl rfl (by decide) sh33 (kX10_go l D x3_78 (s_78.1 43 x3_78.toNatClampNeg) (up s_78 43 x3_78.toNatClampNeg ((s_78.1 43 x3_78.toNatClampNeg) + 1)) hv3 hMu (cm_t hMu c_235)) ?_
                      refine j_iinc F dX10_byTurns_245 248 rfl 4 rfl (x3_78 + 1) rfl (by decide) [(3, .int (x3_78 + 1)), (5, .int (s_78.1 43 x3_78.toNatClampNeg)), (0, .ref (D.2.1 33)), (1, .int a1), (2, .int a2), (4, .int (bi b4_78))] rfl ?_
                      refine j_goto F dX10_byTurns_248 78 (by decide) ?_
                      refine j_pick [2, 3, 4, 0, 5] [(0, .ref (D.2.1 33)), (1, .int a1), (2, .int a2), (3, .int (x3_78 + 1)), (4, .int (bi b4_78))] rfl ?_
                      exact ih_78 (fX10_go (up s_78 43 x3_78.toNatClampNeg ((s_78.1 43 x3_78.toNatClampNeg) + 1)) x3_78 (s_78.1 43 x3_78.toNatClampNeg)) (x3_78 + 1) b4_78 (hbk.2 _)
                    · rw [if_neg c_235]
                      refine j_goto F dX10_byTurns_248 78 (by decide) ?_
                      refine j_pick [1, 2, 3, 4, 5] [(0, .ref (D.2.1 33)), (1, .int a1), (2, .int a2), (3, .int x3_78), (4, .int (bi b4_78))] rfl ?_
                      exact ih_78 (up s_78 43 x3_78.toNatClampNeg ((s_78.1 43 x3_78.toNatClampNeg) + 1)) x3_78 b4_78 hbk.1
                · rw [if_pos c_85]
                  refine j_pick [0, 1, 2, 3] [(0, .ref (D.2.1 33)), (1, .int a1), (2, .int a2), (3, .int x3_78)] rfl ?_
                  exact jn_99
              · rw [if_pos c_80]
                refine j_pick [0, 2] [(0, .ref (D.2.1 33)), (2, .int a2)] rfl ?_
                exact hx_251 s_78
          exact lp_78 300000 (up (fX10_begin σ 0 (σ.1 34 8) (σ.1 34 10)) 44 0 xt0_77) 0 bt0_55 (BI_start hN hM)
        refine j_ifb_eq F dX10_byTurns_64 71 (by decide) 67 rfl (fun c_64 => ?_) (fun c_64 => ?_)
        · rw [if_pos c_64]
          refine j_iconst (v := 0) F dX10_byTurns_67 68 rfl (by decide) ?_
          refine j_goto F dX10_byTurns_68 77 (by decide) ?_
          refine j_pick [1, 2, 3, 4, 0] [(0, .ref (D.2.1 33)), (1, .int a1), (2, .int a2), (3, .int 0), (4, .int (bi bt0_55))] rfl ?_
          exact jn_77 0
        · rw [if_neg c_64]
          refine j_aload_n F dX10_byTurns_71 72 rfl 1 rfl ?_
          refine j_get (j := 17) F dX10_byTurns_72 75 rfl inX10 rfl (by decide) sh33 (by decide) qX10_41 rfl ?_
          refine j_iconst (v := 0) F dX10_byTurns_75 76 rfl (by decide) ?_
          refine j_iald_n F dX10_byTurns_76 77 rfl ia44 0 rfl (by decide) ?_
          refine j_pick [1, 2, 3, 4, 0] [(0, .ref (D.2.1 33)), (1, .int a1), (2, .int a2), (3, .int 0), (4, .int (bi bt0_55))] rfl ?_
          exact jn_77 ((fX10_begin σ 0 (σ.1 34 8) (σ.1 34 10)).1 44 0)
      refine j_if_ne F dX10_byTurns_47 54 (by decide) 50 rfl (fun c_47 => ?_) (fun c_47 => ?_)
      · rw [if_pos c_47]
        refine j_iconst (v := 1) F dX10_byTurns_50 51 rfl (by decide) ?_
        refine j_goto F dX10_byTurns_51 55 (by decide) ?_
        refine j_pick [1, 2, 3, 0] [(0, .ref (D.2.1 33)), (1, .int a1), (2, .int a2), (3, .int 0)] rfl ?_
        exact jn_55 true
      · rw [if_neg c_47]
        refine j_iconst (v := 0) F dX10_byTurns_54 55 rfl (by decide) ?_
        refine j_pick [1, 2, 3, 0] [(0, .ref (D.2.1 33)), (1, .int a1), (2, .int a2), (3, .int 0)] rfl ?_
        exact jn_55 false
  · rw [if_neg c_9]
    refine j_bipush (v := (-2)) F dX10_byTurns_22 24 rfl (by decide) ?_
    exact j_ret_i F dX10_byTurns_24 rfl rfl rfl
theorem ct_byTurns_ok : ct_byTurns := fun l D a1 a2 σ h0 => kX10_byTurns l D a1 a2 σ h0
