theorem tenTo_ne {m : Int32} (h : vp_in m 4) : ¬ fX10_tenTo (3 - m) = 0 := by
  obtain ⟨j, hj, rfl⟩ := vp_in_of h (by decide)
  have h9 : ∀ j : Nat, j < 4 → ¬ fX10_tenTo (3 - nI j) = 0 := by decide +kernel
  exact h9 j hj
theorem ones_in_go (a : Int32) : ∀ (n k c : Nat), c ≤ k → k ≤ 8 → 8 < k + n → ∃ d, d ≤ 8 ∧ fX10_ones_4 a n (nI c) k = nI d := by
  intro n
  induction n with
  | zero => intro k c h1 h2 h3; omega
  | succ n ih =>
    intro k c h1 h2 h3
    rw [fX10_ones_4]
    by_cases q : nI k < 8
    · rw [if_pos q]
      have q2 : k < 8 := nlt q (by decide) (by omega)
      obtain ⟨j, hj, e⟩ := pk_andE (a >>> (nI k &&& 31)) (m := 1) 1 (by decide)
      rw [e, nI_add]
      exact ih (k + 1) (c + j) (by omega) (by omega) (by omega)
    · rw [if_neg q]
      exact ⟨c, by omega, rfl⟩
theorem ones_in (a : Int32) : ∃ d, d ≤ 8 ∧ fX10_ones a = nI d := ones_in_go a 9 0 0 (by omega) (by omega) (by omega)
theorem ones_ne (a : Int32) : ¬ 1 + fX10_ones a = 0 := by
  obtain ⟨d, hd, e⟩ := ones_in a
  rw [e]
  have h9 : ∀ j : Nat, j < 9 → ¬ 1 + nI j = 0 := by decide +kernel
  exact h9 d (by omega)
theorem in_iff {a b c : Int64} : fX10_in a b c = true ↔ b ≤ a ∧ a ≤ c := by
  unfold fX10_in
  by_cases h : b ≤ a
  · rw [if_pos h]
    by_cases h2 : a ≤ c
    · rw [if_pos h2]; simp [h, h2]
    · rw [if_neg h2]; simp [h2]
  · rw [if_neg h]; simp [h]
theorem isThing_iff {σ : Mm} {t : Int32} {j : Nat} (hj : j < 9) (e : σ.1 34 13 = nI j) : fX10_isThing σ t = true ↔ 0 ≤ t.toInt ∧ t.toInt < j := by
  unfold fX10_isThing
  rw [in_iff, e, Int64.le_iff_toInt_le, Int64.le_iff_toInt_le, Int32.toInt_toInt64]
  have h9 : ∀ j : Nat, j < 9 → ((nI j - 1).toInt64).toInt = (j : Int) - 1 := by decide +kernel
  have h0 : (0 : Int64).toInt = 0 := rfl
  rw [h9 j hj, h0]
  omega
theorem isThing_in {σ : Mm} {t : Int32} (h : fX10_isThing σ t = true) (hM : vp_in (σ.1 34 13) 9) : vp_in t 8 := by
  obtain ⟨j, hj, e⟩ := vp_in_of hM (by decide)
  rw [isThing_iff hj e] at h
  rw [vp_in_iff]
  omega
