set_option maxRecDepth 20000 in
theorem kX10_chance (l : Launch) (D : Dm) (a1 : Int32) (a2 : Int32) (a3 : Bool) (σ : Mm) (hM : vp_in (σ.1 34 13) 9) : Ct l yX10_chance cX10_chance 10 (some .int) 6 D [.ref (D.2.1 33), .int a1, .int a2, .int (bi a3)] σ (some (.int (fX10_chance σ a1 a2 a3)), σ) := by
  refine ct_of (by decide +kernel) (Nat.le_of_ble_eq_true rfl) (fun X F => ?_)
  have F : Fx X l 10 D cX10_chance RX10 6 (some .int) := F
  show JJ X 10 D σ 0 [(0, .ref (D.2.1 33)), (1, .int a1), (2, .int a2), (3, .int (bi a3))] [] (QQ X D (some (.int (fX10_chance σ a1 a2 a3)), σ))
  rw [fX10_chance]
  refine j_aload_n F dX10_chance_0 1 rfl 0 rfl ?_
  refine j_iload_n F dX10_chance_1 2 rfl 1 rfl ?_
  refine j_callVr (as := [.int a1]) (st := []) (r := .int (bi (fX10_isThing σ a1))) (σ9 := σ) F zX10_isThing dX10_chance_2 5 rfl pX10_isThing rfl (by decide) (by decide) (Nat.le_of_ble_eq_true rfl) rfl qX10_128 rfl rfl (by decide) sh33 (kX10_isThing l D a1 σ) ?_
  refine j_ifb_ne F dX10_chance_5 10 (by decide) 8 rfl (fun c_5 => ?_) (fun c_5 => ?_)
  · rw [if_neg c_5]
    refine j_iconst (v := (-1)) F dX10_chance_8 9 rfl (by decide) ?_
    exact j_ret_i F dX10_chance_9 rfl rfl rfl
  · rw [if_pos c_5]
    refine j_iload_n F dX10_chance_10 11 rfl 2 rfl ?_
    refine j_i2l F dX10_chance_11 12 rfl ?_
    refine j_lconst (v := 0) F dX10_chance_12 13 rfl (by decide) ?_
    refine j_ldc2 F dX10_chance_13 16 rfl qX10_243 ?_
    refine j_callSr (as := [.long (a2.toInt64), .long 0, .long 10]) (st := []) (r := .int (bi (fX10_in (a2.toInt64) 0 10))) (σ9 := σ) F zX10_in dX10_chance_16 19 rfl pX10_in rfl (by decide) (by decide) (Nat.le_of_ble_eq_true rfl) rfl qX10_58 (kX10_in l D (a2.toInt64) 0 10 σ) ?_
    refine j_ifb_ne F dX10_chance_19 25 (by decide) 22 rfl (fun c_19 => ?_) (fun c_19 => ?_)
    · rw [if_neg c_19]
      refine j_bipush (v := (-2)) F dX10_chance_22 24 rfl (by decide) ?_
      exact j_ret_i F dX10_chance_24 rfl rfl rfl
    · rw [if_pos c_19]
      obtain ⟨xv, hxv, ea2⟩ := in10 c_19
      obtain ⟨Fv, hFv, eF⟩ := frail_lt (fX10_shown σ 0) hM
      refine j_aload_n F dX10_chance_25 26 rfl 0 rfl ?_
      refine j_aload_n F dX10_chance_26 27 rfl 0 rfl ?_
      refine j_iconst (v := 0) F dX10_chance_27 28 rfl (by decide) ?_
      refine j_callVr (as := [.int (nI 0)]) (st := [.ref (D.2.1 33)]) (r := .int (fX10_shown σ 0)) (σ9 := σ) F zX10_shown dX10_chance_28 31 rfl pX10_shown rfl (by decide) (by decide) (Nat.le_of_ble_eq_true rfl) rfl qX10_122 rfl rfl (by decide) sh33 (kX10_shown l D 0 σ (by decide)) ?_
      refine j_callVr (as := [.int (fX10_shown σ 0)]) (st := []) (r := .int (fX10_frail σ (fX10_shown σ 0))) (σ9 := σ) F zX10_frail dX10_chance_31 34 rfl pX10_frail rfl (by decide) (by decide) (Nat.le_of_ble_eq_true rfl) rfl qX10_245 rfl rfl (by decide) sh33 (kX10_frail l D (fX10_shown σ 0) σ (by first | assumption | exact isThing_in (by assumption) (by assumption) | exact vin_mono (by assumption) (by decide) | omega | decide)) ?_
      refine j_istore F dX10_chance_34 36 rfl (by decide) [(4, .int (fX10_frail σ (fX10_shown σ 0))), (0, .ref (D.2.1 33)), (1, .int a1), (2, .int a2), (3, .int (bi a3))] rfl ?_
      refine j_iconst (v := 0) F dX10_chance_36 37 rfl (by decide) ?_
      refine j_istore F dX10_chance_37 39 rfl (by decide) [(5, .int 0), (4, .int (fX10_frail σ (fX10_shown σ 0))), (0, .ref (D.2.1 33)), (1, .int a1), (2, .int a2), (3, .int (bi a3))] rfl ?_
      refine j_iconst (v := 0) F dX10_chance_39 40 rfl (by decide) ?_
      refine j_istore F dX10_chance_40 42 rfl (by decide) [(6, .int 0), (5, .int 0), (4, .int (fX10_frail σ (fX10_shown σ 0))), (0, .ref (D.2.1 33)), (1, .int a1), (2, .int a2), (3, .int (bi a3))] rfl ?_
      refine j_iconst (v := 0) F dX10_chance_42 43 rfl (by decide) ?_
      refine j_istore F dX10_chance_43 45 rfl (by decide) [(7, .int 0), (6, .int 0), (5, .int 0), (4, .int (fX10_frail σ (fX10_shown σ 0))), (0, .ref (D.2.1 33)), (1, .int a1), (2, .int a2), (3, .int (bi a3))] rfl ?_
      have hx_171 : ∀ (x5_171 : Int32) (x6_171 : Int32), CJ Fv xv 256 x5_171 x6_171 → JJ X 10 D σ 171 [(3, .int (bi a3)), (5, .int x5_171), (6, .int x6_171)] [] (QQ X D (some (.int (fX10_chance_171 σ a1 a2 a3 x5_171 x6_171)), σ)) := by
        intro x5_171 x6_171 hci
        obtain ⟨hp1, hp2, hp3⟩ := CJ_end hxv hci
        rw [fX10_chance_171]
        refine j_iload F dX10_chance_171 173 rfl 1 rfl ?_
        refine j_iload F dX10_chance_173 175 rfl 2 rfl ?_
        refine j_callSr (as := [.int x5_171, .int x6_171]) (st := []) (r := .int (fX10_common x5_171 x6_171)) (σ9 := σ) F zX10_common dX10_chance_175 178 rfl pX10_common rfl (by decide) (by decide) (Nat.le_of_ble_eq_true rfl) rfl qX10_248 (kX10_common l D x5_171 x6_171 σ hp1 hp2) ?_
        refine j_istore F dX10_chance_178 180 rfl (by decide) [(7, .int (fX10_common x5_171 x6_171)), (3, .int (bi a3)), (5, .int x5_171), (6, .int x6_171)] rfl ?_
        refine j_iload_n F dX10_chance_180 181 rfl 1 rfl ?_
        refine j_ifb_eq F dX10_chance_181 192 (by decide) 184 rfl (fun c_181 => ?_) (fun c_181 => ?_)
        · rw [if_pos c_181]
          refine j_iload F dX10_chance_184 186 rfl 2 rfl ?_
          refine j_iload F dX10_chance_186 188 rfl 0 rfl ?_
          refine j_idiv F dX10_chance_188 189 rfl hp3 ?_
          refine j_goto F dX10_chance_189 197 (by decide) ?_
          exact j_ret_i F dX10_chance_197 rfl rfl rfl
        · rw [if_neg c_181]
          refine j_iload F dX10_chance_192 194 rfl 3 rfl ?_
          refine j_iload F dX10_chance_194 196 rfl 0 rfl ?_
          refine j_idiv F dX10_chance_196 197 rfl hp3 ?_
          exact j_ret_i F dX10_chance_197 rfl rfl rfl
      have lp_45 : ∀ (n_45 : Nat) (x5_45 : Int32) (x6_45 : Int32) (k7_45 : Nat), k7_45 ≤ 256 → 256 < k7_45 + n_45 → CJ Fv xv k7_45 x5_45 x6_45 → JJ X 10 D σ 45 [(0, .ref (D.2.1 33)), (1, .int a1), (2, .int a2), (3, .int (bi a3)), (4, .int (fX10_frail σ (fX10_shown σ 0))), (5, .int x5_45), (6, .int x6_45), (7, .int (nI k7_45))] [] (QQ X D (some (.int (fX10_chance_45 σ a1 a2 a3 n_45 (fX10_frail σ (fX10_shown σ 0)) x5_45 x6_45 k7_45)), σ)) := by
        intro n_45
        induction n_45 with
        | zero => intro x5_45 x6_45 k7_45 hk_45 hn_45 hci_45; exact absurd hn_45 (by omega)
        | succ n_45 ih_45 =>
          intro x5_45 x6_45 k7_45 hk_45 hn_45 hci_45
          rw [fX10_chance_45]
          refine j_iload F dX10_chance_45 47 rfl 7 rfl ?_
          refine j_sipush (v := 256) F dX10_chance_47 50 rfl (by decide) ?_
          refine j_icmp_ge F dX10_chance_50 171 (by decide) 53 rfl (fun c_50 => ?_) (fun c_50 => ?_)
          · rw [if_pos c_50]
            have h_50 : k7_45 < 256 := nlt c_50 (by decide) (by omega)
            refine j_iload F dX10_chance_53 55 rfl 7 rfl ?_
            refine j_iload F dX10_chance_55 57 rfl 4 rfl ?_
            refine j_iconst (v := (-1)) F dX10_chance_57 58 rfl (by decide) ?_
            refine j_ixor F dX10_chance_58 59 rfl ?_
            refine j_iand F dX10_chance_59 60 rfl ?_
            refine j_if_ne F dX10_chance_60 165 (by decide) 63 rfl (fun c_60 => ?_) (fun c_60 => ?_)
            · rw [if_pos c_60]
              refine j_iconst (v := 1) F dX10_chance_63 64 rfl (by decide) ?_
              refine j_istore F dX10_chance_64 66 rfl (by decide) [(8, .int 1), (0, .ref (D.2.1 33)), (1, .int a1), (2, .int a2), (3, .int (bi a3)), (4, .int (fX10_frail σ (fX10_shown σ 0))), (5, .int x5_45), (6, .int x6_45), (7, .int (nI k7_45))] rfl ?_
              refine j_iconst (v := 0) F dX10_chance_66 67 rfl (by decide) ?_
              refine j_istore F dX10_chance_67 69 rfl (by decide) [(9, .int 0), (8, .int 1), (0, .ref (D.2.1 33)), (1, .int a1), (2, .int a2), (3, .int (bi a3)), (4, .int (fX10_frail σ (fX10_shown σ 0))), (5, .int x5_45), (6, .int x6_45), (7, .int (nI k7_45))] rfl ?_
              have hx_119 : ∀ (x8_119 : Int32), x8_119 = nI (wt Fv xv k7_45) → JJ X 10 D σ 119 [(0, .ref (D.2.1 33)), (1, .int a1), (2, .int a2), (3, .int (bi a3)), (4, .int (fX10_frail σ (fX10_shown σ 0))), (5, .int x5_45), (6, .int x6_45), (7, .int (nI k7_45)), (8, .int x8_119)] [] (QQ X D (some (.int (fX10_chance_119 σ a1 a2 a3 (fX10_chance_45 σ a1 a2 a3 n_45) (fX10_frail σ (fX10_shown σ 0)) x5_45 x6_45 k7_45 x8_119)), σ)) := by
                intro x8_119 e8_119
                rw [fX10_chance_119]
                refine j_iload F dX10_chance_119 121 rfl 6 rfl ?_
                refine j_iload F dX10_chance_121 123 rfl 8 rfl ?_
                refine j_iadd F dX10_chance_123 124 rfl ?_
                refine j_istore F dX10_chance_124 126 rfl (by decide) [(6, .int (x6_45 + x8_119)), (0, .ref (D.2.1 33)), (1, .int a1), (2, .int a2), (3, .int (bi a3)), (4, .int (fX10_frail σ (fX10_shown σ 0))), (5, .int x5_45), (7, .int (nI k7_45)), (8, .int x8_119)] rfl ?_
                refine j_iload F dX10_chance_126 128 rfl 6 rfl ?_
                refine j_aload_n F dX10_chance_128 129 rfl 1 rfl ?_
                refine j_aload_n F dX10_chance_129 130 rfl 1 rfl ?_
                refine j_iconst (v := 0) F dX10_chance_130 131 rfl (by decide) ?_
                refine j_callVr (as := [.int (nI 0)]) (st := [.ref (D.2.1 33), .int x5_45]) (r := .int (fX10_shown σ 0)) (σ9 := σ) F zX10_shown dX10_chance_131 134 rfl pX10_shown rfl (by decide) (by decide) (Nat.le_of_ble_eq_true rfl) rfl qX10_122 rfl rfl (by decide) sh33 (kX10_shown l D 0 σ (by decide)) ?_
                refine j_iload F dX10_chance_134 136 rfl 7 rfl ?_
                refine j_iconst (v := (-1)) F dX10_chance_136 137 rfl (by decide) ?_
                refine j_ixor F dX10_chance_137 138 rfl ?_
                refine j_iand F dX10_chance_138 139 rfl ?_
                refine j_aload_n F dX10_chance_139 140 rfl 1 rfl ?_
                refine j_get (j := 0) F dX10_chance_140 143 rfl inX10 rfl (by decide) sh33 (by decide) qX10_7 rfl ?_
                refine j_bipush (v := 11) F dX10_chance_143 145 rfl (by decide) ?_
                refine j_iald_n F dX10_chance_145 146 rfl ia34 11 rfl (by decide) ?_
                refine j_callVr (as := [.int ((fX10_shown σ 0) &&& ((nI k7_45) ^^^ (-1))), .int (σ.1 34 11)]) (st := [.int x5_45]) (r := .int (fX10_lastOf σ ((fX10_shown σ 0) &&& ((nI k7_45) ^^^ (-1))) (σ.1 34 11))) (σ9 := σ) F zX10_lastOf dX10_chance_146 149 rfl pX10_lastOf rfl (by decide) (by decide) (Nat.le_of_ble_eq_true rfl) rfl qX10_125 rfl rfl (by decide) sh33 (kX10_lastOf l D ((fX10_shown σ 0) &&& ((nI k7_45) ^^^ (-1))) (σ.1 34 11) σ (by first | assumption | exact isThing_in (by assumption) (by assumption) | exact vin_mono (by assumption) (by decide) | omega | decide)) ?_
                refine j_iload_n F dX10_chance_149 150 rfl 2 rfl ?_
                refine j_callSr (as := [.int (fX10_lastOf σ ((fX10_shown σ 0) &&& ((nI k7_45) ^^^ (-1))) (σ.1 34 11)), .int a1]) (st := [.int x5_45]) (r := .int (bi (fX10_has (fX10_lastOf σ ((fX10_shown σ 0) &&& ((nI k7_45) ^^^ (-1))) (σ.1 34 11)) a1))) (σ9 := σ) F zX10_has dX10_chance_150 153 rfl pX10_has rfl (by decide) (by decide) (Nat.le_of_ble_eq_true rfl) rfl qX10_108 (kX10_has l D (fX10_lastOf σ ((fX10_shown σ 0) &&& ((nI k7_45) ^^^ (-1))) (σ.1 34 11)) a1 σ) ?_
                refine j_ifb_eq F dX10_chance_153 161 (by decide) 156 rfl (fun c_153 => ?_) (fun c_153 => ?_)
                · rw [if_pos c_153]
                  refine j_iload F dX10_chance_156 158 rfl 8 rfl ?_
                  refine j_goto F dX10_chance_158 162 (by decide) ?_
                  refine j_iadd F dX10_chance_162 163 rfl ?_
                  refine j_istore F dX10_chance_163 165 rfl (by decide) [(5, .int (x5_45 + x8_119)), (6, .int (x6_45 + x8_119)), (0, .ref (D.2.1 33)), (1, .int a1), (2, .int a2), (3, .int (bi a3)), (4, .int (fX10_frail σ (fX10_shown σ 0))), (7, .int (nI k7_45)), (8, .int x8_119)] rfl ?_
                  refine j_iinc F dX10_chance_165 168 rfl 7 rfl (nI (k7_45 + 1)) (nI_inc k7_45) (by decide) [(7, .int (nI (k7_45 + 1))), (5, .int (x5_45 + x8_119)), (6, .int (x6_45 + x8_119)), (0, .ref (D.2.1 33)), (1, .int a1), (2, .int a2), (3, .int (bi a3)), (4, .int (fX10_frail σ (fX10_shown σ 0))), (8, .int x8_119)] rfl ?_
                  refine j_goto F dX10_chance_168 45 (by decide) ?_
                  refine j_pick [3, 4, 5, 6, 7, 1, 2, 0] [(0, .ref (D.2.1 33)), (1, .int a1), (2, .int a2), (3, .int (bi a3)), (4, .int (fX10_frail σ (fX10_shown σ 0))), (5, .int (x5_45 + x8_119)), (6, .int (x6_45 + x8_119)), (7, .int (nI (k7_45 + 1)))] rfl ?_
                  exact ih_45 (x5_45 + x8_119) (x6_45 + x8_119) (k7_45 + 1) (by omega) (by omega) (by rw [e8_119]; exact (CJ_a h_50 hci_45 (by rw [← eF]; exact c_60)).1)
                · rw [if_neg c_153]
                  refine j_iconst (v := 0) F dX10_chance_161 162 rfl (by decide) ?_
                  refine j_iadd F dX10_chance_162 163 rfl ?_
                  refine j_istore F dX10_chance_163 165 rfl (by decide) [(5, .int (x5_45 + 0)), (6, .int (x6_45 + x8_119)), (0, .ref (D.2.1 33)), (1, .int a1), (2, .int a2), (3, .int (bi a3)), (4, .int (fX10_frail σ (fX10_shown σ 0))), (7, .int (nI k7_45)), (8, .int x8_119)] rfl ?_
                  refine j_iinc F dX10_chance_165 168 rfl 7 rfl (nI (k7_45 + 1)) (nI_inc k7_45) (by decide) [(7, .int (nI (k7_45 + 1))), (5, .int (x5_45 + 0)), (6, .int (x6_45 + x8_119)), (0, .ref (D.2.1 33)), (1, .int a1), (2, .int a2), (3, .int (bi a3)), (4, .int (fX10_frail σ (fX10_shown σ 0))), (8, .int x8_119)] rfl ?_
                  refine j_goto F dX10_chance_168 45 (by decide) ?_
                  refine j_pick [3, 4, 5, 6, 7, 1, 2, 0] [(0, .ref (D.2.1 33)), (1, .int a1), (2, .int a2), (3, .int (bi a3)), (4, .int (fX10_frail σ (fX10_shown σ 0))), (5, .int (x5_45 + 0)), (6, .int (x6_45 + x8_119)), (7, .int (nI (k7_45 + 1)))] rfl ?_
                  exact ih_45 (x5_45 + 0) (x6_45 + x8_119) (k7_45 + 1) (by omega) (by omega) (by rw [e8_119]; exact (CJ_a h_50 hci_45 (by rw [← eF]; exact c_60)).2)
              have lp_69 : ∀ (n_69 : Nat) (x8_69 : Int32) (k9_69 : Nat), k9_69 ≤ 8 → 8 < k9_69 + n_69 → x8_69 = nI (pd (wtf Fv xv k7_45) k9_69) → JJ X 10 D σ 69 [(0, .ref (D.2.1 33)), (1, .int a1), (2, .int a2), (3, .int (bi a3)), (4, .int (fX10_frail σ (fX10_shown σ 0))), (5, .int x5_45), (6, .int x6_45), (7, .int (nI k7_45)), (8, .int x8_69), (9, .int (nI k9_69))] [] (QQ X D (some (.int (fX10_chance_69 σ a1 a2 a3 (fX10_chance_45 σ a1 a2 a3 n_45) n_69 (fX10_frail σ (fX10_shown σ 0)) x5_45 x6_45 k7_45 x8_69 k9_69)), σ)) := by
                intro n_69
                induction n_69 with
                | zero => intro x8_69 k9_69 hk_69 hn_69 e8_69; exact absurd hn_69 (by omega)
                | succ n_69 ih_69 =>
                  intro x8_69 k9_69 hk_69 hn_69 e8_69
                  rw [fX10_chance_69]
                  refine j_iload F dX10_chance_69 71 rfl 9 rfl ?_
                  refine j_bipush (v := 8) F dX10_chance_71 73 rfl (by decide) ?_
                  refine j_icmp_ge F dX10_chance_73 119 (by decide) 76 rfl (fun c_73 => ?_) (fun c_73 => ?_)
                  · rw [if_pos c_73]
                    have h_73 : k9_69 < 8 := nlt c_73 (by decide) (by omega)
                    refine j_iload F dX10_chance_76 78 rfl 8 rfl ?_
                    refine j_iload F dX10_chance_78 80 rfl 4 rfl ?_
                    refine j_iload F dX10_chance_80 82 rfl 9 rfl ?_
                    refine j_callSr (as := [.int (fX10_frail σ (fX10_shown σ 0)), .int (nI k9_69)]) (st := [.int x8_69]) (r := .int (bi (fX10_has (fX10_frail σ (fX10_shown σ 0)) (nI k9_69)))) (σ9 := σ) F zX10_has dX10_chance_82 85 rfl pX10_has rfl (by decide) (by decide) (Nat.le_of_ble_eq_true rfl) rfl qX10_108 (kX10_has l D (fX10_frail σ (fX10_shown σ 0)) (nI k9_69) σ) ?_
                    refine j_ifb_ne F dX10_chance_85 92 (by decide) 88 rfl (fun c_85 => ?_) (fun c_85 => ?_)
                    · rw [if_neg c_85]
                      refine j_iconst (v := 1) F dX10_chance_88 89 rfl (by decide) ?_
                      refine j_goto F dX10_chance_89 110 (by decide) ?_
                      refine j_imul F dX10_chance_110 111 rfl ?_
                      refine j_istore F dX10_chance_111 113 rfl (by decide) [(8, .int (x8_69 * 1)), (0, .ref (D.2.1 33)), (1, .int a1), (2, .int a2), (3, .int (bi a3)), (4, .int (fX10_frail σ (fX10_shown σ 0))), (5, .int x5_45), (6, .int x6_45), (7, .int (nI k7_45)), (9, .int (nI k9_69))] rfl ?_
                      refine j_iinc F dX10_chance_113 116 rfl 9 rfl (nI (k9_69 + 1)) (nI_inc k9_69) (by decide) [(9, .int (nI (k9_69 + 1))), (8, .int (x8_69 * 1)), (0, .ref (D.2.1 33)), (1, .int a1), (2, .int a2), (3, .int (bi a3)), (4, .int (fX10_frail σ (fX10_shown σ 0))), (5, .int x5_45), (6, .int x6_45), (7, .int (nI k7_45))] rfl ?_
                      refine j_goto F dX10_chance_116 69 (by decide) ?_
                      refine j_pick [2, 3, 4, 5, 6, 7, 8, 9, 1, 0] [(0, .ref (D.2.1 33)), (1, .int a1), (2, .int a2), (3, .int (bi a3)), (4, .int (fX10_frail σ (fX10_shown σ 0))), (5, .int x5_45), (6, .int x6_45), (7, .int (nI k7_45)), (8, .int (x8_69 * 1)), (9, .int (nI (k9_69 + 1)))] rfl ?_
                      exact ih_69 (x8_69 * 1) (k9_69 + 1) (by omega) (by omega) (wt_1 hFv h_73 e8_69 (by rw [← eF]; exact c_85))
                    · rw [if_pos c_85]
                      refine j_iload F dX10_chance_92 94 rfl 7 rfl ?_
                      refine j_iload F dX10_chance_94 96 rfl 9 rfl ?_
                      refine j_callSr (as := [.int (nI k7_45), .int (nI k9_69)]) (st := [.int x8_69]) (r := .int (bi (fX10_has (nI k7_45) (nI k9_69)))) (σ9 := σ) F zX10_has dX10_chance_96 99 rfl pX10_has rfl (by decide) (by decide) (Nat.le_of_ble_eq_true rfl) rfl qX10_108 (kX10_has l D (nI k7_45) (nI k9_69) σ) ?_
                      refine j_ifb_eq F dX10_chance_99 106 (by decide) 102 rfl (fun c_99 => ?_) (fun c_99 => ?_)
                      · rw [if_pos c_99]
                        refine j_iload_n F dX10_chance_102 103 rfl 2 rfl ?_
                        refine j_goto F dX10_chance_103 110 (by decide) ?_
                        refine j_imul F dX10_chance_110 111 rfl ?_
                        refine j_istore F dX10_chance_111 113 rfl (by decide) [(8, .int (x8_69 * a2)), (0, .ref (D.2.1 33)), (1, .int a1), (2, .int a2), (3, .int (bi a3)), (4, .int (fX10_frail σ (fX10_shown σ 0))), (5, .int x5_45), (6, .int x6_45), (7, .int (nI k7_45)), (9, .int (nI k9_69))] rfl ?_
                        refine j_iinc F dX10_chance_113 116 rfl 9 rfl (nI (k9_69 + 1)) (nI_inc k9_69) (by decide) [(9, .int (nI (k9_69 + 1))), (8, .int (x8_69 * a2)), (0, .ref (D.2.1 33)), (1, .int a1), (2, .int a2), (3, .int (bi a3)), (4, .int (fX10_frail σ (fX10_shown σ 0))), (5, .int x5_45), (6, .int x6_45), (7, .int (nI k7_45))] rfl ?_
                        refine j_goto F dX10_chance_116 69 (by decide) ?_
                        refine j_pick [2, 3, 4, 5, 6, 7, 8, 9, 1, 0] [(0, .ref (D.2.1 33)), (1, .int a1), (2, .int a2), (3, .int (bi a3)), (4, .int (fX10_frail σ (fX10_shown σ 0))), (5, .int x5_45), (6, .int x6_45), (7, .int (nI k7_45)), (8, .int (x8_69 * a2)), (9, .int (nI (k9_69 + 1)))] rfl ?_
                        exact ih_69 (x8_69 * a2) (k9_69 + 1) (by omega) (by omega) (by rw [ea2]; exact wt_x hFv h_50 h_73 e8_69 (by rw [← eF]; exact c_85) c_99)
                      · rw [if_neg c_99]
                        refine j_bipush (v := 10) F dX10_chance_106 108 rfl (by decide) ?_
                        refine j_iload_n F dX10_chance_108 109 rfl 2 rfl ?_
                        refine j_isub F dX10_chance_109 110 rfl ?_
                        refine j_imul F dX10_chance_110 111 rfl ?_
                        refine j_istore F dX10_chance_111 113 rfl (by decide) [(8, .int (x8_69 * (10 - a2))), (0, .ref (D.2.1 33)), (1, .int a1), (2, .int a2), (3, .int (bi a3)), (4, .int (fX10_frail σ (fX10_shown σ 0))), (5, .int x5_45), (6, .int x6_45), (7, .int (nI k7_45)), (9, .int (nI k9_69))] rfl ?_
                        refine j_iinc F dX10_chance_113 116 rfl 9 rfl (nI (k9_69 + 1)) (nI_inc k9_69) (by decide) [(9, .int (nI (k9_69 + 1))), (8, .int (x8_69 * (10 - a2))), (0, .ref (D.2.1 33)), (1, .int a1), (2, .int a2), (3, .int (bi a3)), (4, .int (fX10_frail σ (fX10_shown σ 0))), (5, .int x5_45), (6, .int x6_45), (7, .int (nI k7_45))] rfl ?_
                        refine j_goto F dX10_chance_116 69 (by decide) ?_
                        refine j_pick [2, 3, 4, 5, 6, 7, 8, 9, 1, 0] [(0, .ref (D.2.1 33)), (1, .int a1), (2, .int a2), (3, .int (bi a3)), (4, .int (fX10_frail σ (fX10_shown σ 0))), (5, .int x5_45), (6, .int x6_45), (7, .int (nI k7_45)), (8, .int (x8_69 * (10 - a2))), (9, .int (nI (k9_69 + 1)))] rfl ?_
                        exact ih_69 (x8_69 * (10 - a2)) (k9_69 + 1) (by omega) (by omega) (by rw [ea2]; exact wt_y hFv h_50 h_73 hxv e8_69 (by rw [← eF]; exact c_85) c_99)
                  · rw [if_neg c_73]
                    refine j_pick [0, 1, 2, 3, 4, 5, 6, 7, 8] [(0, .ref (D.2.1 33)), (1, .int a1), (2, .int a2), (3, .int (bi a3)), (4, .int (fX10_frail σ (fX10_shown σ 0))), (5, .int x5_45), (6, .int x6_45), (7, .int (nI k7_45)), (8, .int x8_69)] rfl ?_
                    exact hx_119 x8_69 (by rw [e8_69, k8_of hk_69 c_73]; rfl)
              refine j_pick [2, 3, 4, 5, 6, 7, 8, 9, 1, 0] [(0, .ref (D.2.1 33)), (1, .int a1), (2, .int a2), (3, .int (bi a3)), (4, .int (fX10_frail σ (fX10_shown σ 0))), (5, .int x5_45), (6, .int x6_45), (7, .int (nI k7_45)), (8, .int 1), (9, .int 0)] rfl ?_
              exact lp_69 9 1 0 (by omega) (by omega) rfl
            · rw [if_neg c_60]
              refine j_iinc F dX10_chance_165 168 rfl 7 rfl (nI (k7_45 + 1)) (nI_inc k7_45) (by decide) [(7, .int (nI (k7_45 + 1))), (0, .ref (D.2.1 33)), (1, .int a1), (2, .int a2), (3, .int (bi a3)), (4, .int (fX10_frail σ (fX10_shown σ 0))), (5, .int x5_45), (6, .int x6_45)] rfl ?_
              refine j_goto F dX10_chance_168 45 (by decide) ?_
              refine j_pick [1, 2, 3, 4, 5, 6, 7, 0] [(0, .ref (D.2.1 33)), (1, .int a1), (2, .int a2), (3, .int (bi a3)), (4, .int (fX10_frail σ (fX10_shown σ 0))), (5, .int x5_45), (6, .int x6_45), (7, .int (nI (k7_45 + 1)))] rfl ?_
              exact ih_45 x5_45 x6_45 (k7_45 + 1) (by omega) (by omega) (CJ_skip h_50 hci_45 (by rw [← eF]; exact c_60))
          · rw [if_neg c_50]
            refine j_pick [3, 5, 6] [(3, .int (bi a3)), (5, .int x5_45), (6, .int x6_45)] rfl ?_
            exact hx_171 x5_45 x6_45 (by rw [← k256_of hk_45 c_50]; exact hci_45)
      refine j_pick [4, 5, 6, 7, 3, 2, 1, 0] [(0, .ref (D.2.1 33)), (1, .int a1), (2, .int a2), (3, .int (bi a3)), (4, .int (fX10_frail σ (fX10_shown σ 0))), (5, .int 0), (6, .int 0), (7, .int 0)] rfl ?_
      exact lp_45 257 0 0 0 (by omega) (by omega) (CJ_0 Fv xv)
theorem ct_chance_ok : ct_chance := fun l D a1 a2 a3 σ h0 => kX10_chance l D a1 a2 a3 σ h0
