theorem at_text {σ : Mm} {k : Nat} (hk : k < 56) : fX9_at σ 3 56 (nI k) = σ.1 3 k := by
  unfold fX9_at
  rw [if_pos (nI_pos' (by omega)), if_pos (nI_lt hk (by decide)), nI_clamp (by omega)]
theorem within_in {σ : Mm} {k : Nat} (hk : k < 56) (e : σ.1 3 k = σ.1 35 k) {lo hi : Int32} {lo' hi' : Int64} (e1 : lo.toInt = lo'.toInt) (e2 : hi.toInt = hi'.toInt) : fX8_isWithin σ (nI k) lo hi = fX10_in ((σ.1 35 k).toInt64) lo' hi' := by
  unfold fX8_isWithin
  rw [at_text hk, e]
  by_cases c1 : lo ≤ σ.1 35 k
  · rw [if_pos c1]
    by_cases c2 : σ.1 35 k ≤ hi
    · rw [if_pos c2]
      exact (in_pos e1 e2 c1 c2).symm
    · rw [if_neg c2]
      exact (Bool.eq_false_iff.mpr (in_neg2 e2 c2)).symm
  · rw [if_neg c1]
    exact (Bool.eq_false_iff.mpr (in_neg1 e1 c1)).symm
theorem rm9 : ∀ k, k < 56 → 2 ≤ k → rm (nI k - 2) 9 = nI ((k - 2) % 9) := by decide +kernel
theorem fits_eq {σ : Mm} {k : Nat} (hk : k < 56) (e : σ.1 3 k = σ.1 35 k) : fX8_fits σ (nI k) = fX10_fits σ (nI k) := by
  unfold fX8_fits fX10_fits
  rw [nI_clamp (by omega)]
  by_cases k0 : k = 0
  · subst k0
    rw [if_pos (show nI 0 = 0 from rfl), at_text hk, e, if_pos (show nI 0 < 2 from by decide), if_pos (show nI 0 = 0 from rfl)]
  · by_cases k1 : k = 1
    · subst k1
      rw [if_neg (show ¬ nI 1 = 0 from by decide), if_pos (show nI 1 = 1 from rfl), if_pos (show nI 1 < 2 from by decide), if_neg (show ¬ nI 1 = 0 from by decide)]
      exact within_in hk e rfl rfl
    · have hr := rm9 k hk (by omega)
      rw [if_neg (show ¬ nI k = 0 from fun q => k0 ((nI_eq (by omega) (by decide)).mp q)), if_neg (show ¬ nI k = 1 from fun q => k1 ((nI_eq (by omega) (by decide)).mp q)), if_neg (show ¬ nI k < 2 from nI_nlt (a := k) (b := 2) (by omega) (by omega)), if_neg (show ¬ 55 < nI k from nI_nlt (a := 55) (b := k) (by omega) (by decide)), hr]
      generalize hg : (k - 2) % 9 = r
      have hr9 : r < 9 := by omega
      rcases (show r = 0 ∨ r = 1 ∨ r = 2 ∨ r = 3 ∨ r = 4 ∨ r = 5 ∨ r = 6 ∨ r = 7 ∨ r = 8 by omega) with rfl | rfl | rfl | rfl | rfl | rfl | rfl | rfl | rfl
      · rw [if_pos (show nI 0 - 1 = -1 from rfl), at_text hk, e, if_pos (show nI 0 = 0 from rfl), if_pos (show nI k < 56 from nI_lt hk (by decide))]
      all_goals
        (repeat rw [if_neg (by decide)])
        rw [if_pos (by decide)]
        (repeat rw [if_neg (by decide)])
        rw [if_pos (by decide)]
        exact within_in hk e rfl rfl
theorem fault_go {σ : Mm} {L : Nat} (hL : L ≤ 56) (h2 : σ.1 2 1 = nI L) (h3 : σ.1 33 2 = nI L) (h4 : ∀ j, j < L → σ.1 3 j = σ.1 35 j) : ∀ n k, k ≤ L → fX8_firstFault_2 σ n k = fX10_fault_2 σ n k := by
  intro n
  induction n with
  | zero => intro k _; rfl
  | succ n ih =>
    intro k hk
    show (if nI k < σ.1 2 1 then (if fX8_fits σ (nI k) = true then fX8_firstFault_2 σ n (k + 1) else nI k) else fX8_firstFault_26 σ) = (if nI k < σ.1 33 2 then (if fX10_fits σ (nI k) = true then fX10_fault_2 σ n (k + 1) else nI k) else fX10_fault_26 σ)
    rw [h2, h3]
    by_cases c : k < L
    · rw [if_pos (nI_lt c (by omega)), if_pos (nI_lt c (by omega)), fits_eq (by omega) (h4 k c), ih (k + 1) (by omega)]
    · rw [if_neg (nI_nlt (by omega) (by omega)), if_neg (nI_nlt (by omega) (by omega))]
      unfold fX8_firstFault_26 fX10_fault_26 fX8_firstFault_50 fX8_firstFault_51
      rw [h2, h3]
      by_cases c2 : 2 ≤ L
      · rw [if_pos (show 2 ≤ nI L from nI_le (a := 2) c2 (by omega)), if_pos (show 1 < nI L from nI_lt (a := 1) (by omega) (by omega))]
        by_cases c3 : rm (nI L - 2) 9 = 0
        · rw [if_pos c3, if_pos c3, if_pos rfl]
        · rw [if_neg c3, if_neg c3, if_neg (by decide)]
      · rw [if_neg (show ¬ 2 ≤ nI L from nI_ge (a := L) (b := 2) (by omega) (by decide)), if_neg (show ¬ 1 < nI L from nI_nlt (a := 1) (b := L) (by omega) (by decide)), if_neg (by decide)]
theorem fault_eq {σ : Mm} (h : RT σ) : fX8_firstFault σ = fX10_fault σ := by
  obtain ⟨n, h1, h2, h3, h4⟩ := h
  unfold fX8_firstFault fX10_fault mX8_firstFault_2 mX10_fault_2
  rw [h2, h3]
  exact fault_go h1 h2 h3 h4 _ 0 (Nat.zero_le _)
theorem s_fault : sc_fault Rv := fun σ h => ⟨h.hL, fault_eq h.1, h⟩
