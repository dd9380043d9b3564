theorem outer3 (c : ClassId) (h : Nat) : Jvm.Free.Multi.outerC c 3 h 3 = vp_cell c (3, qs (va_up (va_up (va_up (fun _ => none) 0 (some (h + 1 + 0))) 1 (some (h + 1 + 1))) 2 (some (h + 1 + 2)))) := by
  rw [vp_cell_q]
  show ((({ cls := c, slots := Array.replicate 3 .null, vm := .none } : Cell).setSlot 0 (.ref (h + 1 + 0))).setSlot 1 (.ref (h + 1 + 1))).setSlot 2 (.ref (h + 1 + 2)) = _
  rw [arrV_new, arrV_store, arrV_store, arrV_store]
  refine congrArg (arrV c 3) (funext fun j => ?_)
  simp only [updV, va_up]
  by_cases h2 : j = 2
  · simp [h2, va_rf]
  · by_cases h1 : j = 1
    · simp [h1, va_rf]
    · by_cases h0 : j = 0
      · simp [h0, va_rf]
      · simp [h2, h1, h0, va_rf]
theorem inner_z (c : ClassId) (M : Nat) : Jvm.Free.Multi.innerC c M (.int 0) = vp_cell c (M, .inl (fun _ => 0)) := by
  rw [vp_cell_i]
  show ({ cls := c, slots := Array.replicate M (.int 0), vm := .none } : Cell) = _
  rw [arrV_new]
theorem k_mna {X : Cx} {l : Launch} {nL : Nat} {G : va_G} {cA : Nat → ClassId} {cc : ByteArray} {own : String} {dep mc ms : Nat} {ws : va_W} {pc : Nat} {ls : List (Nat × Value)} {st : List Value} {k n : Nat} {Q : State → Prop} (F : Fk X l nL G cA cc own dep mc ms) {x : Int32} {M index : Nat} (d : decode cc pc = .ok (.multianewarray index 2, 4)) (z : Nat) (hz : pc + 4 = z) (hcl : Cond.classLink own index "[[I" ∈ lw_ok) (hx9 : ¬ x < 0) (hM : x.toNatClampNeg = M) (hbig : M < 1000) (h1 : k + 4 ≤ mc) (h2 : n + (3 + 3 * M) ≤ ms) (kk : ∀ q r0 r1 r2 : Nat, JK X nL G (ws ++ [(q, .inl (cA 3, (3, qs (va_up (va_up (va_up (fun _ => none) 0 (some r0)) 1 (some r1)) 2 (some r2))))), (r0, .inl (cA 0, (M, .inl (fun _ => 0)))), (r1, .inl (cA 0, (M, .inl (fun _ => 0)))), (r2, .inl (cA 0, (M, .inl (fun _ => 0))))]) z ls (.ref q :: st) (k + 4) (n + (3 + 3 * M)) Q) : JK X nL G ws pc ls (.int x :: .int 3 :: st) k n Q := by
  subst hz
  subst hM
  obtain ⟨p, l9, e, R, s, m, args, below, meth, c, cells, slots, A⟩ := X
  obtain ⟨rfl, hx, hb, hml, hown, hts, hK, hO, hA, hlk, hfr, hlo, hce, hsl⟩ := F
  intro H locs lsA hP hD hS hl
  intro T hT Xs
  obtain ⟨vm₁, c9, comp, -, fA, fC, -, -, X', step⟩ := Xs.multianewarray2F (ty := .int) hx hown (hts _ hcl) hO.2 (hts _ ac_int) (g := F0 m pc lsA (.int x :: .int 3 :: st)) rfl (by rw [hb]; exact d) (n := 3) (k := x) (rest := st) rfl (by decide) hx9 (by decide) (Nat.le_trans (Nat.mul_le_mul_right _ (Nat.le_of_lt hbig)) (by decide)) (by omega) rfl rfl (by have : (3 : Int32).toNatClampNeg = 3 := rfl; omega) (by have : (3 : Int32).toNatClampNeg = 3 := rfl; rw [this]; omega)
  have e3 : (3 : Int32).toNatClampNeg = 3 := rfl
  rw [e3] at X' step
  have ec : comp = cA 0 := Option.some.inj (fC.symm.trans (hK.2 0 (cA 0, .int) rfl).2)
  have ec2 : c9 = cA 3 := Option.some.inj (fA.symm.trans (hK.2 3 (cA 3, .array .int) rfl).2)
  subst ec
  subst ec2
  have hTh : (T.setVm vm₁).heap = H := hT
  obtain ⟨f1, f2, -, -⟩ := Jvm.Free.Multi.fill_facts (T.setVm vm₁) (cA 3) (cA 0) 3 x.toNatClampNeg (defaultValue .int) 3
  have hold : ∀ a : Nat, a < H.size → (Jvm.Free.Multi.fill (T.setVm vm₁) (cA 3) (cA 0) 3 x.toNatClampNeg (defaultValue .int) 3).heap[a]? = H[a]? := fun a ha => by
    rw [Jvm.Free.Multi.fill_old (T.setVm vm₁) (cA 3) (cA 0) 3 x.toNatClampNeg (defaultValue .int) (a := a) (by rw [hTh]; exact ha) 3, hTh]
  have hrow : ∀ j : Nat, j < 3 → (Jvm.Free.Multi.fill (T.setVm vm₁) (cA 3) (cA 0) 3 x.toNatClampNeg (defaultValue .int) 3).heap[H.size + 1 + j]? = some (vp_cell (cA 0) (x.toNatClampNeg, .inl (fun _ => 0))) := fun j hj => by
    have h9 := Jvm.Free.Multi.fill_inner (T.setVm vm₁) (cA 3) (cA 0) 3 x.toNatClampNeg (defaultValue .int) 3 j hj
    rw [hTh] at h9
    rw [h9]
    exact congrArg some (inner_z _ _)
  rw [hTh, outer3] at f2
  rw [hTh] at f1
  generalize Jvm.Free.Multi.fill (T.setVm vm₁) (cA 3) (cA 0) 3 x.toNatClampNeg (defaultValue .int) 3 = F9 at *
  have hlt : ∀ (i : Nat) (y : Nat × va_E), ws[i]? = some y → y.1 < H.size := fun i y hy => (hP i y hy).lt
  have hP1 : va_P G vwCl (ws ++ [(H.size, .inl (cA 3, (3, qs (va_up (va_up (va_up (fun _ => none) 0 (some (H.size + 1 + 0))) 1 (some (H.size + 1 + 1))) 2 (some (H.size + 1 + 2)))))), (H.size + 1 + 0, .inl (cA 0, (x.toNatClampNeg, .inl (fun _ => 0)))), (H.size + 1 + 1, .inl (cA 0, (x.toNatClampNeg, .inl (fun _ => 0)))), (H.size + 1 + 2, .inl (cA 0, (x.toNatClampNeg, .inl (fun _ => 0))))]) F9.heap := by
    refine va_P.app (hP.kept (fun i y hy => hold y.1 (hlt i y hy))) (fun i y hy => ?_)
    match i, hy with
    | 0, hy => cases hy; exact f2
    | 1, hy => cases hy; exact hrow 0 (by decide)
    | 2, hy => cases hy; exact hrow 1 (by decide)
    | 3, hy => cases hy; exact hrow 2 (by decide)
    | i + 4, hy => simp at hy
  have hD1 : va_D A (ws ++ [(H.size, .inl (cA 3, (3, qs (va_up (va_up (va_up (fun _ => none) 0 (some (H.size + 1 + 0))) 1 (some (H.size + 1 + 1))) 2 (some (H.size + 1 + 2)))))), (H.size + 1 + 0, .inl (cA 0, (x.toNatClampNeg, .inl (fun _ => 0)))), (H.size + 1 + 1, .inl (cA 0, (x.toNatClampNeg, .inl (fun _ => 0)))), (H.size + 1 + 2, .inl (cA 0, (x.toNatClampNeg, .inl (fun _ => 0))))]) := by
    have hs := hS.1
    refine va_D.app hD ⟨fun i j p9 q9 hi hj h9 => ?_, fun i y hy => ?_⟩ (fun i j p9 q9 hi hj h9 => ?_)
    · match i, j, hi, hj with
      | 0, 0, _, _ => rfl
      | 1, 1, _, _ => rfl
      | 2, 2, _, _ => rfl
      | 3, 3, _, _ => rfl
      | 0, 1, hi, hj => cases hi; cases hj; simp at h9; try omega
      | 0, 2, hi, hj => cases hi; cases hj; simp at h9; try omega
      | 0, 3, hi, hj => cases hi; cases hj; simp at h9; try omega
      | 1, 0, hi, hj => cases hi; cases hj; simp at h9; try omega
      | 1, 2, hi, hj => cases hi; cases hj; simp at h9; try omega
      | 1, 3, hi, hj => cases hi; cases hj; simp at h9; try omega
      | 2, 0, hi, hj => cases hi; cases hj; simp at h9; try omega
      | 2, 1, hi, hj => cases hi; cases hj; simp at h9; try omega
      | 2, 3, hi, hj => cases hi; cases hj; simp at h9; try omega
      | 3, 0, hi, hj => cases hi; cases hj; simp at h9; try omega
      | 3, 1, hi, hj => cases hi; cases hj; simp at h9; try omega
      | 3, 2, hi, hj => cases hi; cases hj; simp at h9; try omega
      | i + 4, _, hi, _ => simp at hi
      | _, j + 4, _, hj => simp at hj
    · match i, hy with
      | 0, hy => cases hy; exact hA _ hs
      | 1, hy => cases hy; exact hA _ (by omega)
      | 2, hy => cases hy; exact hA _ (by omega)
      | 3, hy => cases hy; exact hA _ (by omega)
      | i + 4, hy => simp at hy
    · have hl9 := hlt i p9 hi
      match j, hj with
      | 0, hj => cases hj; simp at h9; omega
      | 1, hj => cases hj; simp at h9; omega
      | 2, hj => cases hj; simp at h9; omega
      | 3, hj => cases hj; simp at h9; omega
      | j + 4, hj => simp at hj
  have hS1 : va_S A s.heap F9.heap locs := ⟨by have := hS.1; omega, fun q h3 h4 => (hold q (Nat.lt_of_lt_of_le h3 hS.1)).trans (hS.2.1 q h3 h4), hS.2.2⟩
  have X2 : Stand p l9 e R s m args below meth c F9 locs (k + 4) (n + (3 + 3 * x.toNatClampNeg)) := by
    have e1 : k + 1 + 3 = k + 4 := by omega
    have e2 : n + 3 + 3 * x.toNatClampNeg = n + (3 + 3 * x.toNatClampNeg) := by omega
    rw [← e1, ← e2]
    exact X'
  obtain ⟨t, a1, b1⟩ := kk H.size (H.size + 1 + 0) (H.size + 1 + 1) (H.size + 1 + 2) F9.heap locs lsA hP1 hD1 hS1 hl F9 rfl X2
  rw [hT] at step
  exact ⟨t, step t a1, b1⟩
