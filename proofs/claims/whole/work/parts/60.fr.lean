/-! the class's telling of alike things looks at the size and the tags alone -/
theorem at_fr {σ τ : Mm} {q N : Nat} {a : Int32} (e : σ.1 q = τ.1 q) : fX9_at σ q N a = fX9_at τ q N a := by
  unfold fX9_at
  rw [e]
theorem sm_fr {σ τ : Mm} {h : Nat} {a b : Int32} : ∀ m (x y : Int32) k, fX2_sameMarks_24 σ h a b m x y k = fX2_sameMarks_24 τ h a b m x y k := by
  intro m
  induction m with
  | zero => intro x y k; rfl
  | succ m ih =>
    intro x y k
    show (if nI k < 4 then (if (x >>> ((4 * (nI k)) &&& 31)) &&& 15 = 0 then fX2_sameMarks_24 σ h a b m x (y ||| (1 <<< ((nI k) &&& 31))) (k + 1) else fX2_sameMarks_24 σ h a b m x y (k + 1)) else y) = (if nI k < 4 then (if (x >>> ((4 * (nI k)) &&& 31)) &&& 15 = 0 then fX2_sameMarks_24 τ h a b m x (y ||| (1 <<< ((nI k) &&& 31))) (k + 1) else fX2_sameMarks_24 τ h a b m x y (k + 1)) else y)
    rw [ih, ih]
theorem sameMarks_fr {σ τ : Mm} {h : Nat} {a b : Int32} (e2 : σ.1 (h + 1) = τ.1 (h + 1)) : fX2_sameMarks σ h a b = fX2_sameMarks τ h a b := by
  unfold fX2_sameMarks
  rw [at_fr e2, at_fr e2, sm_fr]
theorem at6_fr {σ τ : Mm} {h : Nat} {a w s : Int32} (e1 : σ.1 h 1 = τ.1 h 1) (e2 : σ.1 (h + 1) = τ.1 (h + 1)) : ∀ m (x : Int32) k, fX2_alikeTo_6 σ h a w s m x k = fX2_alikeTo_6 τ h a w s m x k := by
  intro m
  induction m with
  | zero => intro x k; rfl
  | succ m ih =>
    intro x k
    show (if nI k < σ.1 h 1 then (if nI k = a then fX2_alikeTo_6 σ h a w s m x (k + 1) else (if fX9_holds s (nI k) = true then (if w ≤ fJ6_bitCount (fX2_sameMarks σ h a (nI k)) then fX2_alikeTo_6 σ h a w s m (x ||| (1 <<< ((nI k) &&& 31))) (k + 1) else fX2_alikeTo_6 σ h a w s m x (k + 1)) else fX2_alikeTo_6 σ h a w s m x (k + 1))) else x) = (if nI k < τ.1 h 1 then (if nI k = a then fX2_alikeTo_6 τ h a w s m x (k + 1) else (if fX9_holds s (nI k) = true then (if w ≤ fJ6_bitCount (fX2_sameMarks τ h a (nI k)) then fX2_alikeTo_6 τ h a w s m (x ||| (1 <<< ((nI k) &&& 31))) (k + 1) else fX2_alikeTo_6 τ h a w s m x (k + 1)) else fX2_alikeTo_6 τ h a w s m x (k + 1))) else x)
    rw [e1, sameMarks_fr e2, ih, ih]
theorem alikeTo_fr {σ τ : Mm} {h : Nat} {a w s : Int32} (e1 : σ.1 h 1 = τ.1 h 1) (e2 : σ.1 (h + 1) = τ.1 (h + 1)) : fX2_alikeTo σ h a w s = fX2_alikeTo τ h a w s := by
  unfold fX2_alikeTo mX2_alikeTo_6
  rw [e1]
  exact at6_fr e1 e2 _ _ _
theorem lo5_fr {σ τ : Mm} {h : Nat} {w s : Int32} (e1 : σ.1 h 1 = τ.1 h 1) (e2 : σ.1 (h + 1) = τ.1 (h + 1)) : ∀ m (x : Int32) k, fX2_lastOnesBy_5 σ h w s m x k = fX2_lastOnesBy_5 τ h w s m x k := by
  intro m
  induction m with
  | zero => intro x k; rfl
  | succ m ih =>
    intro x k
    show (if nI k < σ.1 h 1 then (if fX9_holds s (nI k) = true then (if fX2_alikeTo σ h (nI k) w s = 0 then fX2_lastOnesBy_5 σ h w s m (x ||| (1 <<< ((nI k) &&& 31))) (k + 1) else fX2_lastOnesBy_5 σ h w s m x (k + 1)) else fX2_lastOnesBy_5 σ h w s m x (k + 1)) else x) = (if nI k < τ.1 h 1 then (if fX9_holds s (nI k) = true then (if fX2_alikeTo τ h (nI k) w s = 0 then fX2_lastOnesBy_5 τ h w s m (x ||| (1 <<< ((nI k) &&& 31))) (k + 1) else fX2_lastOnesBy_5 τ h w s m x (k + 1)) else fX2_lastOnesBy_5 τ h w s m x (k + 1)) else x)
    rw [e1, alikeTo_fr e1 e2, ih, ih]
theorem lastOnesBy_fr {σ τ : Mm} {h : Nat} {w s : Int32} (e1 : σ.1 h 1 = τ.1 h 1) (e2 : σ.1 (h + 1) = τ.1 (h + 1)) : fX2_lastOnesBy σ h w s = fX2_lastOnesBy τ h w s := by
  unfold fX2_lastOnesBy mX2_lastOnesBy_5
  rw [e1]
  exact lo5_fr e1 e2 _ _ _
/-- a set cut down stays within its bound -/
theorem and_cut (c : Nat) (y : Int32) : ∃ c', c' ≤ c ∧ nI c &&& y = nI c' := by
  refine ⟨c &&& y.toBitVec.toNat, Nat.and_le_left, ?_⟩
  rw [← nI_and]
  congr 1
  apply Int32.toBitVec_inj.mp
  show y.toBitVec = BitVec.ofNat 32 y.toBitVec.toNat
  rw [BitVec.ofNat_toNat, BitVec.setWidth_eq]
