theorem s_write : sc_write Rv := by
  intro σ a h
  obtain ⟨n, h1, h2, h3, h4⟩ := h.1
  by_cases c0 : 0 ≤ a
  · by_cases c1 : 255 < a
    · have e9 : fX9_write σ a = (-2, σ) := by
        unfold fX9_write
        rw [if_pos c0, if_pos c1]
      have e10 : fX10_write σ a = (-2, σ) := by
        unfold fX10_write
        rw [if_neg (in_neg2 (y := 255) rfl (Int32.not_le.mpr c1))]
      rw [e9]
      show vp_in (σ.1 33 2) 57 ∧ (-2) = (fX10_write σ a).1 ∧ Rv (fX10_write σ a).2
      rw [e10]
      exact ⟨h.hL, rfl, h⟩
    · have hin : fX10_in a.toInt64 0 255 = true := in_pos (x := 0) (y := 255) rfl rfl c0 (Int32.not_lt.mp c1)
      by_cases c2 : n = 56
      · subst c2
        have ea : fX8_append σ a = (false, σ) := by
          unfold fX8_append
          rw [h2, if_pos (nI_pos' (by decide)), if_pos (nI_le (Nat.le_refl _) (by decide))]
        have e9 : fX9_write σ a = (-4, σ) := by
          unfold fX9_write
          rw [if_pos c0, if_neg c1, ea, if_neg (show ¬ (false = true) from by decide)]
        have e10 : fX10_write σ a = (-4, σ) := by
          unfold fX10_write
          rw [if_pos hin, h3, if_pos (by decide)]
        rw [e9]
        show vp_in (σ.1 33 2) 57 ∧ (-4) = (fX10_write σ a).1 ∧ Rv (fX10_write σ a).2
        rw [e10]
        exact ⟨h.hL, rfl, h⟩
      · have ea : fX8_append σ a = (true, up (up σ 3 n a) 2 1 (nI (n + 1))) := by
          unfold fX8_append
          rw [h2, if_pos (nI_pos' (by omega)), if_neg (nI_ge (by omega) (by decide)), nI_clamp (by omega), up_k (by decide), h2, nI_1]
        have e9 : fX9_write σ a = (nI (n + 1), up (up σ 3 n a) 2 1 (nI (n + 1))) := by
          unfold fX9_write
          rw [if_pos c0, if_neg c1, ea, if_pos rfl]
          show ((up (up σ 3 n a) 2 1 (nI (n + 1))).1 2 1, _) = _
          rw [up_e]
        have ht : (up (up σ 3 n a) 2 1 (nI (n + 1))).1 33 2 = nI n := by rw [up_k (by decide), up_k (by decide), h3]
        have e10 : fX10_write (up (up σ 3 n a) 2 1 (nI (n + 1))) a = (nI (n + 1), up (up (up (up σ 3 n a) 2 1 (nI (n + 1))) 35 n a) 33 2 (nI (n + 1))) := by
          unfold fX10_write fX10_write_47
          rw [if_pos hin, ht, if_neg (show ¬ nI n = 56 from fun q => c2 ((nI_eq (by omega) (by decide)).mp q)), nI_clamp (by omega), up_e, up_k (by decide), ht, nI_1]
        rw [e9]
        show vp_in ((up (up σ 3 n a) 2 1 (nI (n + 1))).1 33 2) 57 ∧ nI (n + 1) = (fX10_write (up (up σ 3 n a) 2 1 (nI (n + 1))) a).1 ∧ Rv (fX10_write (up (up σ 3 n a) 2 1 (nI (n + 1))) a).2
        rw [e10, ht]
        refine ⟨vp_in_nI (by omega) (by decide), rfl, ?_⟩
        refine h.txt ⟨n + 1, by omega, ?_, ?_, fun j hj => ?_⟩ (fun k k1 k2 k3 k4 => ?_) (fun j hj => ?_) rfl
        · rw [up_k (by decide), up_k (by decide), up_e]
        · rw [up_e]
        · by_cases hjn : j = n
          · subst hjn
            rw [up_k (by decide), up_k (by decide), up_k (by decide), up_e, up_k (by decide), up_e]
          · rw [up_k (by decide), up_k (by decide), up_k (by decide), up_n hjn, up_k (by decide), up_n hjn, up_k (by decide), up_k (by decide)]
            exact h4 j (by omega)
        · rw [up_ne k3, up_ne k4, up_ne k1, up_ne k2]
        · rw [up_n hj, up_k (by decide), up_k (by decide), up_k (by decide)]
  · have e9 : fX9_write σ a = (-2, σ) := by
      unfold fX9_write
      rw [if_neg c0]
    have e10 : fX10_write σ a = (-2, σ) := by
      unfold fX10_write
      rw [if_neg (in_neg1 (x := 0) rfl c0)]
    rw [e9]
    show vp_in (σ.1 33 2) 57 ∧ (-2) = (fX10_write σ a).1 ∧ Rv (fX10_write σ a).2
    rw [e10]
    exact ⟨h.hL, rfl, h⟩
/-- the sightings changed, nothing else -/
theorem Rv.sgt {σ τ : Mm} (h : Rv σ) (hS : RS τ) (e : ∀ k, ¬ (26 ≤ k ∧ k ≤ 29) → k ≠ 33 → ¬ (37 ≤ k ∧ k ≤ 39) → τ.1 k = σ.1 k) (e33 : ∀ j, j ≠ 6 → τ.1 33 j = σ.1 33 j) (e2 : τ.2 = σ.2) : Rv τ := by
  obtain ⟨h1, h2, h3, h4, h5, h6⟩ := h
  refine ⟨h1.fr (e 2 (by omega) (by omega) (by omega)) (e 3 (by omega) (by omega) (by omega)) (e 35 (by omega) (by omega) (by omega)) (e33 2 (by decide)), ?_, h3.fr (e 4 (by omega) (by omega) (by omega)) (e 36 (by omega) (by omega) (by omega)) (e33 3 (by decide)) (e33 4 (by decide)) (fun k hk => e k (by omega) (by omega) (by omega)), h4.fr (by rw [e 0 (by omega) (by omega) (by omega)]) (e 47 (by omega) (by omega) (by omega)) (e 48 (by omega) (by omega) (by omega)) (fun k hk _ => e k (by omega) (by omega) (by omega)), hS, by rw [e2]; exact h6⟩
  rw [e 49 (by omega) (by omega) (by omega), e 50 (by omega) (by omega) (by omega), e 34 (by omega) (by omega) (by omega)]
  exact h2
theorem s_unsight : sc_unsight Rv := by
  intro σ h
  obtain ⟨n, h1, h2, h3, h4⟩ := h.2.2.2.2.1
  refine ⟨?_, ?_⟩
  · show σ.1 26 5 = (up σ 26 5 0).1 33 6
    rw [up_k (by decide), h2, h3]
  · refine h.sgt (τ := up (up σ 26 5 0) 33 6 0) ⟨0, by decide, ?_, ?_, fun j hj => absurd hj (Nat.not_lt_zero j)⟩ (fun k k1 k2 k3 => ?_) (fun j hj => ?_) rfl
    · rw [up_k (by decide), up_e]; rfl
    · rw [up_e]; rfl
    · rw [up_ne k2, up_ne (by omega)]
    · rw [up_n hj, up_ne (by decide)]
theorem nI_ex {a : Int32} {n : Nat} (h0 : 0 ≤ a) (h1 : a < nI n) (hn : n < 2 ^ 31) : ∃ i, i < n ∧ a = nI i := by
  have g0 := Int32.le_iff_toInt_le.mp h0
  have g1 := Int32.lt_iff_toInt_lt.mp h1
  rw [nI_toInt hn] at g1
  have z : (0 : Int32).toInt = 0 := rfl
  rw [z] at g0
  refine ⟨a.toInt.toNat, by omega, Int32.toInt_inj.mp ?_⟩
  rw [nI_toInt (by omega)]
  omega
theorem has_iff {σ : Mm} {h n : Nat} {a : Int32} (e : σ.1 h 1 = nI n) (hn : n < 2 ^ 31) : fX2_has σ h a = true ↔ ∃ i, i < n ∧ a = nI i := by
  unfold fX2_has
  rw [e]
  constructor
  · intro q
    by_cases c0 : 0 ≤ a
    · rw [if_pos c0] at q
      by_cases c1 : a < nI n
      · exact nI_ex c0 c1 hn
      · rw [if_neg c1] at q
        exact absurd q (by decide)
    · rw [if_neg c0] at q
      exact absurd q (by decide)
  · rintro ⟨i, hi, rfl⟩
    rw [if_pos (nI_pos' (by omega)), if_pos (nI_lt hi hn)]
theorem thing_iff {σ : Mm} {n : Nat} {a : Int32} (e : σ.1 34 13 = nI n) (hn : n < 2 ^ 31) : fX10_isThing σ a = true ↔ ∃ i, i < n ∧ a = nI i := by
  unfold fX10_isThing
  rw [e, in_ti, Int32.toInt_toInt64]
  have z : (0 : Int64).toInt = 0 := rfl
  have e1 : (nI n - 1).toInt = (n : Int) - 1 := by
    rcases Nat.eq_zero_or_pos n with rfl | hp
    · rfl
    · obtain ⟨k, rfl⟩ := Nat.exists_eq_succ_of_ne_zero (by omega : n ≠ 0)
      rw [Nat.succ_eq_add_one, nI_pred, nI_toInt (by omega)]
      omega
  rw [e1, z]
  constructor
  · intro q
    refine ⟨a.toInt.toNat, by omega, Int32.toInt_inj.mp ?_⟩
    rw [nI_toInt (by omega)]
    omega
  · rintro ⟨i, hi, rfl⟩
    rw [nI_toInt (by omega)]
    omega
theorem HR.size {f t g : Nat → Int32} (h : HR f t g) : ∃ n, n ≤ 8 ∧ f 1 = nI n ∧ g 13 = nI n := by
  obtain ⟨n, w, B, Hd, C, Gd, d, h1, -, -, -, -, -, h2, h3, -⟩ := h
  exact ⟨n, h1, h2, h3⟩
theorem s_sight : sc_sight Rv := by
  intro σ a b c h
  obtain ⟨n, h1, h2, h3, h4⟩ := h.2.2.2.2.1
  obtain ⟨N, g1, g2, g3⟩ := h.2.1.size
  have same : ∀ z : Int32, fX9_sight σ a b c = (z, σ) → fX10_sight σ a b c = (z, σ) → vp_in ((fX9_sight σ a b c).2.1 34 13) 9 ∧ vp_in ((fX9_sight σ a b c).2.1 33 6) 7 ∧ (fX9_sight σ a b c).1 = (fX10_sight (fX9_sight σ a b c).2 a b c).1 ∧ Rv (fX10_sight (fX9_sight σ a b c).2 a b c).2 := by
    intro z e9 e10
    rw [e9]
    show vp_in (σ.1 34 13) 9 ∧ vp_in (σ.1 33 6) 7 ∧ z = (fX10_sight σ a b c).1 ∧ Rv (fX10_sight σ a b c).2
    rw [e10]
    exact ⟨h.hM, h.hS, rfl, h⟩
  by_cases c0 : ∃ i, i < N ∧ a = nI i
  · have q9 : fX2_has σ 49 a = true := (has_iff g2 (by omega)).mpr c0
    have q10 : fX10_isThing σ a = true := (thing_iff g3 (by omega)).mpr c0
    by_cases c1 : 0 ≤ b
    · by_cases c2 : 8 < b
      · exact same (-2) (by unfold fX9_sight; rw [if_pos q9, if_pos c1, if_pos c2]) (by unfold fX10_sight; rw [if_pos q10, if_neg (in_neg2 (y := 8) rfl (Int32.not_le.mpr c2))])
      · have hin : fX10_in b.toInt64 0 8 = true := in_pos (x := 0) (y := 8) rfl rfl c1 (Int32.not_lt.mp c2)
        by_cases c3 : n = 6
        · subst c3
          have ea : fX7_append σ a b c = (false, σ) := by
            unfold fX7_append
            rw [h2, if_pos (nI_pos' (by decide)), if_pos (show (6 : Int32) ≤ nI 6 from nI_le (Nat.le_refl _) (by decide))]
          exact same (-4) (by unfold fX9_sight; rw [if_pos q9, if_pos c1, if_neg c2, ea, if_neg (show ¬ (false = true) from by decide)]) (by unfold fX10_sight; rw [if_pos q10, if_pos hin, h3, if_pos (show nI 6 = 6 from rfl)])
        · obtain ⟨i, hi, rfl⟩ := c0
          obtain ⟨j, hj, rfl⟩ := nI_ex c1 (show b < nI 9 from Int32.lt_of_le_of_lt (Int32.not_lt.mp c2) (by decide)) (by decide)
          have ea : fX7_append σ (nI i) (nI j) c = (true, up (up (up (up σ 27 n (nI i)) 28 n (nI j)) 29 n (bi c)) 26 5 (nI (n + 1))) := by
            unfold fX7_append fX7_append_38
            rw [h2, if_pos (nI_pos' (by omega)), if_neg (show ¬ (6 : Int32) ≤ nI n from nI_ge (a := n) (b := 6) (by omega) (by decide)), nI_clamp (by omega), up_k (by decide), h2, nI_clamp (by omega), up_k (by decide), up_k (by decide), h2, nI_clamp (by omega), up_k (by decide), up_k (by decide), up_k (by decide), h2, nI_1]
          have e9 : fX9_sight σ (nI i) (nI j) c = (nI (n + 1), up (up (up (up σ 27 n (nI i)) 28 n (nI j)) 29 n (bi c)) 26 5 (nI (n + 1))) := by
            unfold fX9_sight
            rw [if_pos q9, if_pos c1, if_neg c2, ea, if_pos rfl]
            show ((up _ 26 5 (nI (n + 1))).1 26 5, _) = _
            rw [up_e]
          generalize hτ : up (up (up (up σ 27 n (nI i)) 28 n (nI j)) 29 n (bi c)) 26 5 (nI (n + 1)) = τ at e9
          have t33 : τ.1 33 = σ.1 33 := by rw [← hτ, up_ne (by decide), up_ne (by decide), up_ne (by decide), up_ne (by decide)]
          have t34 : τ.1 34 = σ.1 34 := by rw [← hτ, up_ne (by decide), up_ne (by decide), up_ne (by decide), up_ne (by decide)]
          have qt : fX10_isThing τ (nI i) = true := (thing_iff (by rw [t34]; exact g3) (by omega)).mpr ⟨i, hi, rfl⟩
          have e10 : fX10_sight τ (nI i) (nI j) c = (nI (n + 1), up (up (up (up τ 37 n (nI i)) 38 n (nI j)) 39 n (bi c)) 33 6 (nI (n + 1))) := by
            unfold fX10_sight fX10_sight_57 fX10_sight_77
            rw [if_pos qt, if_pos hin, t33, h3, if_neg (show ¬ nI n = 6 from fun q => c3 ((nI_eq (by omega) (by decide)).mp q)), nI_clamp (by omega)]
            repeat (first | rw [up_e] | rw [up_k (by decide)])
            rw [t33, h3, nI_clamp (by omega), nI_1]
          rw [e9]
          show vp_in (τ.1 34 13) 9 ∧ vp_in (τ.1 33 6) 7 ∧ nI (n + 1) = (fX10_sight τ (nI i) (nI j) c).1 ∧ Rv (fX10_sight τ (nI i) (nI j) c).2
          rw [e10, t34, t33]
          refine ⟨h.hM, h.hS, rfl, h.sgt ⟨n + 1, by omega, ?_, ?_, fun k hk => ?_⟩ (fun k k1 k2 k3 => ?_) (fun k hk => ?_) (by subst hτ; rfl)⟩
          · subst hτ
            rw [up_k (by decide), up_k (by decide), up_k (by decide), up_k (by decide), up_e]
          · rw [up_e]
          · subst hτ
            by_cases hkn : k = n
            · subst hkn
              refine ⟨i, j, c, by omega, by omega, ?_, ?_, ?_, ?_, ?_, ?_⟩
              all_goals repeat (first | rw [up_e] | rw [up_k (by decide)])
            · obtain ⟨a9, b9, c9, r1, r2, r3, r4, r5, r6, r7, r8⟩ := h4 k (by omega)
              refine ⟨a9, b9, c9, r1, r2, ?_, ?_, ?_, ?_, ?_, ?_⟩
              all_goals repeat (first | rw [up_k (by decide)] | rw [up_n hkn])
              all_goals assumption
          · subst hτ
            rw [up_ne k2, up_ne (by omega), up_ne (by omega), up_ne (by omega), up_ne (by omega), up_ne (by omega), up_ne (by omega), up_ne (by omega)]
          · rw [up_n hk, up_k (by decide), up_k (by decide), up_k (by decide), t33]
    · exact same (-2) (by unfold fX9_sight; rw [if_pos q9, if_neg c1]) (by unfold fX10_sight; rw [if_pos q10, if_neg (in_neg1 (x := 0) rfl c1)])
  · have q9 : ¬ fX2_has σ 49 a = true := fun q => c0 ((has_iff g2 (by omega)).mp q)
    have q10 : ¬ fX10_isThing σ a = true := fun q => c0 ((thing_iff g3 (by omega)).mp q)
    exact same (-1) (by unfold fX9_sight; rw [if_neg q9]) (by unfold fX10_sight; rw [if_neg q10])
