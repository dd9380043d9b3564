theorem vin_le {x : Int32} {n : Nat} (h : vp_in x (n + 1)) : x.toNatClampNeg ≤ n := by
  rw [vp_in_iff] at h
  show x.toInt.toNat ≤ n
  omega
theorem vin_ne {x : Int32} (h : vp_in x 57) (h2 : ¬ x = 56) : vp_in x 56 := by
  obtain ⟨j, hj, rfl⟩ := vp_in_of h (by decide)
  refine vp_in_nI ?_ (by decide)
  by_cases e : j = 56
  · subst e
    exact absurd rfl h2
  · omega
theorem vin_ne9 {x : Int32} (h : vp_in x 9) (h2 : ¬ x = 8) : vp_in x 8 := by
  obtain ⟨j, hj, rfl⟩ := vp_in_of h (by decide)
  refine vp_in_nI ?_ (by decide)
  by_cases e : j = 8
  · subst e
    exact absurd rfl h2
  · omega
theorem vin_ne7 {x : Int32} (h : vp_in x 7) (h2 : ¬ x = 6) : vp_in x 6 := by
  obtain ⟨j, hj, rfl⟩ := vp_in_of h (by decide)
  refine vp_in_nI ?_ (by decide)
  by_cases e : j = 6
  · subst e
    exact absurd rfl h2
  · omega
theorem vin_of4 {x : Int32} (h : x = 0 ∨ x = 1 ∨ x = 2 ∨ x = 3) : vp_in x 4 := by
  rcases h with rfl | rfl | rfl | rfl
  · exact vp_in_nI (n := 0) (by decide) (by decide)
  · exact vp_in_nI (n := 1) (by decide) (by decide)
  · exact vp_in_nI (n := 2) (by decide) (by decide)
  · exact vp_in_nI (n := 3) (by decide) (by decide)
theorem vin_lv {t : Int32} {l : Nat} (hl : l ≤ 1) (h : vp_in t 8) : vp_in (14 * nI l + t) 28 := by
  obtain ⟨j, hj, rfl⟩ := vp_in_of h (by decide)
  have e : (14 : Int32) * nI l + nI j = nI (14 * l + j) := ne_add (ne_mul (a := 14) rfl rfl) rfl
  rw [e]
  exact vp_in_nI (by omega) (by decide)
theorem vin_row {x : Int32} {k : Nat} (h : vp_in x 16) (hk : k < 14) : vp_in (14 * x + nI k) 224 := by
  obtain ⟨j, hj, rfl⟩ := vp_in_of h (by decide)
  have e : (14 : Int32) * nI j + nI k = nI (14 * j + k) := ne_add (ne_mul (a := 14) rfl rfl) rfl
  rw [e]
  exact vp_in_nI (by omega) (by decide)
theorem vin_kp {x : Int32} {k : Nat} (h : vp_in x 2) (hk : k < 14) : vp_in (14 * x + nI k) 28 := by
  obtain ⟨j, hj, rfl⟩ := vp_in_of h (by decide)
  have e : (14 : Int32) * nI j + nI k = nI (14 * j + k) := ne_add (ne_mul (a := 14) rfl rfl) rfl
  rw [e]
  exact vp_in_nI (by omega) (by decide)
theorem vin_rm15 {x : Int32} (h : vp_in x 16) : vp_in (rm (x + 15) 16) 16 := by
  obtain ⟨j, hj, rfl⟩ := vp_in_of h (by decide)
  have h9 : ∀ j : Nat, j < 16 → ¬ (rm (nI j + 15) 16 < 0 ∨ 16 ≤ (rm (nI j + 15) 16).toNatClampNeg) := by decide +kernel
  exact h9 j hj
theorem up_n {σ : Mm} {k j a b : Nat} {v : Int32} (h : b ≠ j) : (up σ k j v).1 a b = σ.1 a b := by
  simp [up, h]
theorem up_k {σ : Mm} {k j a b : Nat} {v : Int32} (h : a ≠ k) : (up σ k j v).1 a b = σ.1 a b := by
  simp [up, h]
theorem up_e {σ : Mm} {k j : Nat} {v : Int32} : (up σ k j v).1 k j = v := by
  simp [up]
