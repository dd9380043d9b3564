theorem own_1 {x : Int32} (h : vp_in x 9) (h2 : ¬ x = 0) : vp_in (x - 1) 8 := by
  obtain ⟨j, hj, rfl⟩ := vp_in_of h (by decide)
  cases j with
  | zero => exact absurd rfl h2
  | succ j => rw [nI_pred]; exact vp_in_nI (by omega) (by decide)
theorem rests_1 {k : Nat} (h : k < 729) : vp_in (nI k / 81) 9 := by
  rw [show (81 : Int32) = nI 81 from rfl, pk_div (by omega) (by decide) (by decide)]
  exact vp_in_nI (by omega) (by decide)
theorem rm_nI {a d : Nat} (ha : a < 2 ^ 31) (h0 : 0 < d) (hd : d < 2 ^ 31) : rm (nI a) (nI d) = nI (a % d) := pk_rem ha h0 hd
theorem rests_3 {k : Nat} (h : k < 729) : vp_in (rm (nI k) 9) 9 := by
  rw [show (9 : Int32) = nI 9 from rfl, rm_nI (by omega) (by decide) (by decide)]
  exact vp_in_nI (by omega) (by decide)
theorem rests_2 {k : Nat} (h : k < 729) : vp_in (rm (nI k / 9) 9) 9 := by
  rw [show (9 : Int32) = nI 9 from rfl, pk_div (by omega) (by decide) (by decide), rm_nI (by omega) (by decide) (by decide)]
  exact vp_in_nI (by omega) (by decide)
theorem in_0_1 {a : Int32} (h : fX10_in a.toInt64 0 1 = true) : vp_in a 2 := by
  rw [in_iff, Int64.le_iff_toInt_le, Int64.le_iff_toInt_le, Int32.toInt_toInt64] at h
  have h1 : (0 : Int64).toInt = 0 := rfl
  have h4 : (1 : Int64).toInt = 1 := rfl
  rw [h1, h4] at h
  rw [vp_in_iff]
  omega
theorem vin_s {x : Int32} (h : vp_in x 5) : vp_in (x + 1) 6 := by
  obtain ⟨j, hj, rfl⟩ := vp_in_of h (by decide)
  rw [nI_1]
  exact vp_in_nI (by omega) (by decide)
