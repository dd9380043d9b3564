theorem keepAct_go (a : Nat) (ha : a ≠ 36) (ha2 : a ≠ 33) : ∀ (n : Nat) (s : Mm) (k : Nat), (fX10_keepAct_2 n s k).1 a = s.1 a := by
  intro n
  induction n with
  | zero => intro s k; rfl
  | succ n ih =>
    intro s k
    rw [fX10_keepAct_2]
    split
    · rw [ih, up_ne ha]
    · unfold fX10_keepAct_34
      split <;> rw [up_ne ha2, up_ne ha2]
theorem keepAct_k {σ : Mm} {a : Nat} (ha : a ≠ 36) (ha2 : a ≠ 33) : (fX10_keepAct σ).1 a = σ.1 a := keepAct_go a ha ha2 15 σ 0
theorem keepAct_34 {σ : Mm} : (fX10_keepAct σ).1 34 = σ.1 34 := keepAct_k (by decide) (by decide)
theorem keepAct_33_go (j : Nat) (h3 : j ≠ 3) (h4 : j ≠ 4) : ∀ (n : Nat) (s : Mm) (k : Nat), (fX10_keepAct_2 n s k).1 33 j = s.1 33 j := by
  intro n
  induction n with
  | zero => intro s k; rfl
  | succ n ih =>
    intro s k
    rw [fX10_keepAct_2]
    split
    · rw [ih, up_k (by decide)]
    · unfold fX10_keepAct_34
      split <;> rw [up_n h3, up_n h4]
theorem keepAct_2 {σ : Mm} : (fX10_keepAct σ).2 = σ.2 := by
  have h : ∀ (n : Nat) (s : Mm) (k : Nat), (fX10_keepAct_2 n s k).2 = s.2 := by
    intro n
    induction n with
    | zero => intro s k; rfl
    | succ n ih =>
      intro s k
      rw [fX10_keepAct_2]
      split
      · rw [ih]; rfl
      · unfold fX10_keepAct_34
        split <;> rfl
  exact h 15 σ 0
theorem free_13 {σ : Mm} {l : Nat} {t : Int32} (hl : l ≤ 1) : (fX10_free σ l t).1 34 13 = σ.1 34 13 := by
  unfold fX10_free
  rw [up_n (by omega)]
theorem doHide_13 {σ : Mm} {l : Nat} {t : Int32} (hl : l ≤ 1) : (fX10_doHide σ l t).1 34 13 = σ.1 34 13 := by
  unfold fX10_doHide
  split
  · rw [up_n (by omega)]
  · rw [free_13 hl, up_n (by omega)]
theorem lv_ne {t : Int32} (h : vp_in t 8) : (13 : Nat) ≠ (14 * nI 1 + t).toNatClampNeg := by
  obtain ⟨j, hj, rfl⟩ := vp_in_of h (by decide)
  have e : (14 : Int32) * nI 1 + nI j = nI (14 * 1 + j) := ne_add (ne_mul (a := 14) rfl rfl) rfl
  rw [e, nI_cl (by omega)]
  omega
theorem lv_ne0 {t : Int32} (h : vp_in t 8) : (13 : Nat) ≠ (14 * nI 0 + t).toNatClampNeg := by
  obtain ⟨j, hj, rfl⟩ := vp_in_of h (by decide)
  have e : (14 : Int32) * nI 0 + nI j = nI (14 * 0 + j) := ne_add (ne_mul (a := 14) rfl rfl) rfl
  rw [e, nI_cl (by omega)]
  omega
theorem doGuard_13 {σ : Mm} {t : Int32} (h : vp_in t 8) : (fX10_doGuard σ 1 t).1 34 13 = σ.1 34 13 := by
  unfold fX10_doGuard
  split <;> rw [up_n (lv_ne h)]
theorem make_13 {σ : Mm} {w t : Int32} (h : vp_in t 8) : (fX10_make σ w t).1 34 13 = σ.1 34 13 := by
  unfold fX10_make
  split
  · rw [up_n (by decide)]
  · split
    · rw [up_n (by decide)]
    · split
      · exact doHide_13 (by decide)
      · exact doGuard_13 h
theorem tenTo_ne9 {x : Int32} (h : vp_in x 9) : ¬ fX10_tenTo x = 0 := by
  obtain ⟨j, hj, rfl⟩ := vp_in_of h (by decide)
  have h9 : ∀ j : Nat, j < 9 → ¬ fX10_tenTo (nI j) = 0 := by decide +kernel
  exact h9 j hj
theorem in_1_4 {a : Int32} (h : fX10_in a.toInt64 1 4 = true) : ∃ j, 1 ≤ j ∧ j ≤ 4 ∧ a = nI j := by
  rw [in_iff, Int64.le_iff_toInt_le, Int64.le_iff_toInt_le, Int32.toInt_toInt64] at h
  have h1 : (1 : Int64).toInt = 1 := rfl
  have h4 : (4 : Int64).toInt = 4 := rfl
  rw [h1, h4] at h
  obtain ⟨j, hj, rfl⟩ := vp_in_of (x := a) (n := 5) (vp_in_iff.mpr (by omega)) (by decide)
  rw [nI_toInt (by omega)] at h
  exact ⟨j, by omega, by omega, rfl⟩
theorem judge_1 {a : Int32} {k : Nat} (h : fX10_in a.toInt64 1 4 = true) (hk : k < a.toNatClampNeg) : vp_in (2 * (a - nI k) - 1) 9 := by
  obtain ⟨j, h1, h4, rfl⟩ := in_1_4 h
  rw [nI_cl (by omega)] at hk
  have h9 : ∀ j : Nat, j < 5 → ∀ k : Nat, k < j → ¬ (2 * (nI j - nI k) - 1 < 0 ∨ 9 ≤ (2 * (nI j - nI k) - 1).toNatClampNeg) := by decide +kernel
  exact h9 j (by omega) k hk
theorem judge_2 {a : Int32} {k : Nat} (h : fX10_in a.toInt64 1 4 = true) (hk : k < a.toNatClampNeg) : vp_in (2 * (a - nI k) - 2) 9 := by
  obtain ⟨j, h1, h4, rfl⟩ := in_1_4 h
  rw [nI_cl (by omega)] at hk
  have h9 : ∀ j : Nat, j < 5 → ∀ k : Nat, k < j → ¬ (2 * (nI j - nI k) - 2 < 0 ∨ 9 ≤ (2 * (nI j - nI k) - 2).toNatClampNeg) := by decide +kernel
  exact h9 j (by omega) k hk
theorem forge_M {K : Mm} {t v : Int32} (ht : vp_in t 8) (e : K.1 34 13 = t) : vp_in ((up (up K 34 t.toNatClampNeg v) 34 13 ((up K 34 t.toNatClampNeg v).1 34 13 + 1)).1 34 13) 9 := by
  obtain ⟨j, hj, rfl⟩ := vp_in_of ht (by decide)
  rw [up_e, nI_cl (by omega), up_n (by omega), e, nI_1]
  exact vp_in_nI (by omega) (by decide)
theorem forge_a {σ : Mm} {v : Int32} (hM : vp_in (σ.1 34 13) 9) (h8 : ¬ σ.1 34 13 = 8) : vp_in ((up (fX10_keepAct σ) 34 ((fX10_keepAct σ).1 34 13).toNatClampNeg v).1 34 13) 8 := by
  obtain ⟨j, hj, e⟩ := vp_in_of (vin_ne9 hM h8) (by decide)
  rw [keepAct_34, e, nI_cl (by omega), up_n (by omega), keepAct_34, e]
  exact vp_in_nI hj (by decide)
theorem forge_b {s : Mm} (h : vp_in (s.1 34 13) 8) : vp_in ((up s 34 13 (s.1 34 13 + 1)).1 34 13) 9 := by
  obtain ⟨j, hj, e⟩ := vp_in_of h (by decide)
  rw [up_e, e, nI_1]
  exact vp_in_nI (by omega) (by decide)
theorem house_n {x : Int32} (h : vp_in x 57) : ((x - 2) / 9).toNatClampNeg ≤ 6 := by
  obtain ⟨j, hj, rfl⟩ := vp_in_of h (by decide)
  have h9 : ∀ j : Nat, j < 57 → ((nI j - 2) / 9).toNatClampNeg ≤ 6 := by decide +kernel
  exact h9 j hj
theorem house_at {k m : Nat} (hk : k < 6) (hm : m < 8) : vp_in (3 + 9 * nI k + nI m) 56 := by
  have e : (3 : Int32) + 9 * nI k + nI m = nI (3 + 9 * k + m) := ne_add (ne_add (a := 3) rfl (ne_mul (a := 9) rfl rfl)) rfl
  rw [e]
  exact vp_in_nI (by omega) (by decide)
