theorem lt1 {a : Int32} (h : ¬ a ≤ 0) (h2 : ¬ a = 1) : 1 < a.toInt := by
  rw [Int32.le_iff_toInt_le] at h
  have h0 : (0 : Int32).toInt = 0 := rfl
  have h1 : a.toInt ≠ 1 := fun e => h2 (Int32.toInt_inj.mp (by rw [e]; rfl))
  omega
theorem le4 {a : Int32} (h : a ≤ 4) : a.toInt ≤ 4 := by
  rw [Int32.le_iff_toInt_le] at h
  exact h
theorem sub1 {a : Int32} (h : 1 < a.toInt) : (a - 1).toInt = a.toInt - 1 := by
  have h9 := fb_rng9 a
  have h1 : (1 : Int32).toInt = 1 := rfl
  rw [Int32.toInt_sub, h1]
  apply Int.bmod_eq_of_le <;> omega
theorem vin_not {x : Int32} {N : Nat} (hN : N < 2 ^ 31) (h : 0 ≤ x) (h2 : x < nI N) : vp_in x N := vin_c h h2 hN
section NULLS
variable {X : Cx} {l : Launch} {nL : Nat} {D : Dm} {cc : ByteArray} {own : String} {dep : Nat} {ret : Option FieldType} {σ : Mm} {pc : Nat} {ls : List (Nat × Value)} {st : List Value} {Q : State → Prop}
theorem j_ret_n (F : Fx X l nL D cc own dep ret) {C : String} {t : Option Value × Mm} (d : decode cc pc = .ok (.areturn, 1)) (hr : ret = some (.object C)) (h1 : t.1 = some .null) (h2 : t.2 = σ) : JJ X nL D σ pc ls [.null] (QQ X D t) := by
  obtain ⟨p, l9, e, R, s, m, args, below, meth, c, cells, slots, A⟩ := X
  obtain ⟨rfl, hx, hb, hml, hown, hts, hK, hi, hNs, hA, hlk, hret, hfr, hlo, hce, hsl⟩ := F
  intro H locs lsA hP hS hl
  subst hret
  exact W.aret hx hb hr (Or.inl ⟨_, rfl⟩) (Or.inl rfl) (fun u hu hW => ⟨⟨by rw [h1], by rw [h2, hu]; exact hP, va_K.moved hW.alike hK⟩, hS.F hu⟩) hS.2.2 d hlk
theorem j_astN (F : Fx X l nL D cc own dep ret) {k : Fin 4} (d : decode cc pc = .ok (.astore_n k, 1)) (n : Nat) (hn : pc + 1 = n) (i : Nat) (hki : (k : Nat) = i) (hn2 : i < nL) (ls' : List (Nat × Value)) (hls : (i, Value.null) :: ls.filter (fun q => !(q.1 == i) && !(q.1 + 1 == i && q.2.category == 2)) = ls') (kk : JJ X nL D σ n ls' st Q) : JJ X nL D σ pc ls (.null :: st) Q := by
  subst hn
  obtain ⟨p, l9, e, R, s, m, args, below, meth, c, cells, slots, A⟩ := X
  obtain ⟨rfl, hx, hb, hml, hown, hts, hK, hi, hNs, hA, hlk, hret, hfr, hlo, hce, hsl⟩ := F
  intro H locs lsA hP hS hl
  exact lv_astore_nN hx hb d hki hl hn2 hls (fun lsA hl => kk H locs lsA hP hS hl)
theorem j_aldN (F : Fx X l nL D cc own dep ret) {k : Fin 4} (d : decode cc pc = .ok (.aload_n k, 1)) (n : Nat) (hn : pc + 1 = n) (q : Nat) (h : ls[q]? = some ((k : Nat), .null)) (kk : JJ X nL D σ n ls (.null :: st) Q) : JJ X nL D σ pc ls st Q := by
  subst hn
  obtain ⟨p, l9, e, R, s, m, args, below, meth, c, cells, slots, A⟩ := X
  obtain ⟨rfl, hx, hb, hml, hown, hts, hK, hi, hNs, hA, hlk, hret, hfr, hlo, hce, hsl⟩ := F
  intro H locs lsA hP hS hl
  exact lv_aload_nN hx hb d rfl (lv_at hl q h) (kk H locs lsA hP hS hl)
theorem j_nonnullN (F : Fx X l nL D cc own dep ret) {off : Int} (d : decode cc pc = .ok (.ifnonnull off, 3)) (n : Nat) (hn : pc + 3 = n) (kk : JJ X nL D σ n ls st Q) : JJ X nL D σ pc ls (.null :: st) Q := by
  subst hn
  obtain ⟨p, l9, e, R, s, m, args, below, meth, c, cells, slots, A⟩ := X
  obtain ⟨rfl, hx, hb, hml, hown, hts, hK, hi, hNs, hA, hlk, hret, hfr, hlo, hce, hsl⟩ := F
  intro H locs lsA hP hS hl
  exact lv_ifnonnullN hx hb d (kk H locs lsA hP hS hl)
end NULLS
/-- slotAt where there is no such slot -/
theorem kX9_slotAt_o (l : Launch) (D : Dm) (a1 : Int32) (σ : Mm) (hv : ¬ vp_in a1 2) : Ct l yX9_slotAt cX9_slotAt 2 (some (.object "LastOfKind$House")) 1 D [.ref (D.2.1 0), .int a1] σ (some .null, σ) := by
  refine ct_of (by decide +kernel) (Nat.le_of_ble_eq_true rfl) (fun X F => ?_)
  have F : Fx X l 2 D cX9_slotAt RX9 1 (some (.object "LastOfKind$House")) := F
  show JJ X 2 D σ 0 [(0, .ref (D.2.1 0)), (1, .int a1)] [] (QQ X D (some .null, σ))
  refine j_iload_n F dX9_slotAt_0 1 rfl 1 rfl ?_
  refine j_if_lt F dX9_slotAt_1 22 (by decide) 4 rfl (fun c_1 => ?_) (fun c_1 => ?_)
  · refine j_iload_n F dX9_slotAt_4 5 rfl 1 rfl ?_
    refine j_aload_n F dX9_slotAt_5 6 rfl 0 rfl ?_
    refine j_get (j := 4) F dX9_slotAt_6 9 rfl inX9 rfl (by decide) sh0 (by decide) qX9_33 rfl ?_
    refine j_alenq F dX9_slotAt_9 10 rfl (by decide) sh1 ?_
    refine j_icmp_ge F dX9_slotAt_10 22 (by decide) 13 rfl (fun c_10 => ?_) (fun c_10 => ?_)
    · exact absurd (vin_c c_1 c_10 (by decide)) hv
    · refine j_null F dX9_slotAt_22 23 rfl ?_
      exact j_ret_n F dX9_slotAt_23 rfl rfl rfl
  · refine j_null F dX9_slotAt_22 23 rfl ?_
    exact j_ret_n F dX9_slotAt_23 rfl rfl rfl
theorem kX9_keep_o (l : Launch) (D : Dm) (a1 : Int32) (σ : Mm) (hv : ¬ vp_in a1 2) : Ct l yX9_keep cX9_keep 3 (some .int) 3 D [.ref (D.2.1 0), .int a1] σ (some (.int (-1)), σ) := by
  refine ct_of (by decide +kernel) (Nat.le_of_ble_eq_true rfl) (fun X F => ?_)
  have F : Fx X l 3 D cX9_keep RX9 3 (some .int) := F
  show JJ X 3 D σ 0 [(0, .ref (D.2.1 0)), (1, .int a1)] [] (QQ X D (some (.int (-1)), σ))
  refine j_aload_n F dX9_keep_0 1 rfl 0 rfl ?_
  refine j_iload_n F dX9_keep_1 2 rfl 1 rfl ?_
  refine j_callVr (as := [.int a1]) (st := []) (r := .null) (σ9 := σ) F zX9_slotAt dX9_keep_2 5 rfl pX9_slotAt rfl (by decide) (by decide) (Nat.le_of_ble_eq_true rfl) rfl qX9_254 rfl rfl (by decide) sh0 (kX9_slotAt_o l D a1 σ hv) ?_
  refine j_astN F dX9_keep_5 6 rfl 2 rfl (by decide) [(2, .null), (0, .ref (D.2.1 0)), (1, .int a1)] rfl ?_
  refine j_aldN F dX9_keep_6 7 rfl 0 rfl ?_
  refine j_nonnullN F dX9_keep_7 10 rfl ?_
  refine j_iconst (v := (-1)) F dX9_keep_10 11 rfl (by decide) ?_
  exact j_ret_i F dX9_keep_11 rfl rfl rfl
theorem kX9_again_o (l : Launch) (D : Dm) (a1 : Int32) (σ : Mm) (hv : ¬ vp_in a1 2) : Ct l yX9_again cX9_again 3 (some .int) 3 D [.ref (D.2.1 0), .int a1] σ (some (.int (-1)), σ) := by
  refine ct_of (by decide +kernel) (Nat.le_of_ble_eq_true rfl) (fun X F => ?_)
  have F : Fx X l 3 D cX9_again RX9 3 (some .int) := F
  show JJ X 3 D σ 0 [(0, .ref (D.2.1 0)), (1, .int a1)] [] (QQ X D (some (.int (-1)), σ))
  refine j_aload_n F dX9_again_0 1 rfl 0 rfl ?_
  refine j_iload_n F dX9_again_1 2 rfl 1 rfl ?_
  refine j_callVr (as := [.int a1]) (st := []) (r := .null) (σ9 := σ) F zX9_slotAt dX9_again_2 5 rfl pX9_slotAt rfl (by decide) (by decide) (Nat.le_of_ble_eq_true rfl) rfl qX9_254 rfl rfl (by decide) sh0 (kX9_slotAt_o l D a1 σ hv) ?_
  refine j_astN F dX9_again_5 6 rfl 2 rfl (by decide) [(2, .null), (0, .ref (D.2.1 0)), (1, .int a1)] rfl ?_
  refine j_aldN F dX9_again_6 7 rfl 0 rfl ?_
  refine j_nonnullN F dX9_again_7 10 rfl ?_
  refine j_iconst (v := (-1)) F dX9_again_10 11 rfl (by decide) ?_
  exact j_ret_i F dX9_again_11 rfl rfl rfl
