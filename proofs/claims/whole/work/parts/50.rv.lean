/-! the invariant: what class and reference keep is the same -/
def pkT (d : Nat → Nat) : Nat := d 0 + 16 * d 1 + 256 * d 2 + 4096 * d 3 + 65536 * d 4 + 1048576 * d 5 + 16777216 * d 6
def pkC (d : Nat → Nat) : Nat := ((((d 0 * 1000 + d 1 * 100 + d 2 * 10 + d 3) * 3 + d 4) * 10 + d 5) * 10 + d 6) * 2 + d 7
/-- a house: the class's fields f and tags t, the reference's row g of 14 -/
def HR (f t g : Nat → Int32) : Prop := ∃ (n w B Hd C Gd : Nat) (d : Nat → Nat → Nat), n ≤ 8 ∧ (1 ≤ w ∧ w ≤ 4) ∧ B < 2 ^ n ∧ Hd < 2 ^ n ∧ C < 2 ^ n ∧ Gd < 2 ^ n ∧ f 1 = nI n ∧ g 13 = nI n ∧ f 2 = nI w ∧ g 11 = nI w ∧ f 3 = g 12 ∧ f 5 = nI B ∧ g 8 = nI B ∧ f 6 = nI Hd ∧ g 9 = nI Hd ∧ f 7 = nI C ∧ g 10 = nI C ∧ f 4 = nI Gd ∧ ∀ i, i < n → (∀ k, k < 7 → d i k ≤ 9) ∧ d i 4 ≤ 2 ∧ d i 7 ≤ 1 ∧ Gd / 2 ^ i % 2 = d i 7 ∧ t i = nI (pkT (d i)) ∧ g i = nI (pkC (d i))
/-- the text -/
def RT (σ : Mm) : Prop := ∃ n, n ≤ 56 ∧ σ.1 2 1 = nI n ∧ σ.1 33 2 = nI n ∧ ∀ j, j < n → σ.1 3 j = σ.1 35 j
/-- the row of the houses before -/
def RR (σ : Mm) : Prop := ∃ nx ln, nx < 16 ∧ ln ≤ 16 ∧ σ.1 4 1 = nI nx ∧ σ.1 33 4 = nI nx ∧ σ.1 4 2 = nI ln ∧ σ.1 33 3 = nI ln ∧ ∀ k, k < 16 → (nx + 15 - k) % 16 < ln → HR (σ.1 (57 + 2 * k)) (σ.1 (58 + 2 * k)) (fun j => σ.1 36 (14 * k + j))
/-- the kept houses -/
def RK (σ : Mm) : Prop := ∃ m, m < 4 ∧ σ.1 0 5 = nI m ∧ ∀ i, i < 2 → σ.1 47 i = nI (m / 2 ^ i % 2) ∧ (m / 2 ^ i % 2 = 1 → HR (σ.1 (53 + 2 * i)) (σ.1 (54 + 2 * i)) (fun j => σ.1 48 (14 * i + j)))
/-- the sightings -/
def RS (σ : Mm) : Prop := ∃ n, n ≤ 6 ∧ σ.1 26 5 = nI n ∧ σ.1 33 6 = nI n ∧ ∀ j, j < n → ∃ (a b : Nat) (c : Bool), a < 8 ∧ b ≤ 8 ∧ σ.1 27 j = nI a ∧ σ.1 37 j = nI a ∧ σ.1 28 j = nI b ∧ σ.1 38 j = nI b ∧ σ.1 29 j = bi c ∧ σ.1 39 j = bi c
def Rv (σ : Mm) : Prop := RT σ ∧ HR (σ.1 49) (σ.1 50) (σ.1 34) ∧ RR σ ∧ RK σ ∧ RS σ ∧ σ.2 32 = σ.2 33
theorem RT.fr {σ τ : Mm} (h : RT σ) (e2 : τ.1 2 = σ.1 2) (e3 : τ.1 3 = σ.1 3) (e35 : τ.1 35 = σ.1 35) (e33 : τ.1 33 2 = σ.1 33 2) : RT τ := by
  unfold RT at *
  rw [e2, e3, e35, e33]
  exact h
theorem RR.fr {σ τ : Mm} (h : RR σ) (e4 : τ.1 4 = σ.1 4) (e36 : τ.1 36 = σ.1 36) (e3 : τ.1 33 3 = σ.1 33 3) (e4' : τ.1 33 4 = σ.1 33 4) (eh : ∀ k, 57 ≤ k → τ.1 k = σ.1 k) : RR τ := by
  obtain ⟨nx, ln, a1, a2, a3, a4, a5, a6, a7⟩ := h
  refine ⟨nx, ln, a1, a2, by rw [e4]; exact a3, by rw [e4']; exact a4, by rw [e4]; exact a5, by rw [e3]; exact a6, fun k hk hl => ?_⟩
  rw [eh _ (by omega), eh _ (by omega), e36]
  exact a7 k hk hl
theorem RK.fr {σ τ : Mm} (h : RK σ) (e0 : τ.1 0 5 = σ.1 0 5) (e47 : τ.1 47 = σ.1 47) (e48 : τ.1 48 = σ.1 48) (eh : ∀ k, 53 ≤ k → k < 57 → τ.1 k = σ.1 k) : RK τ := by
  obtain ⟨m, a1, a2, a3⟩ := h
  refine ⟨m, a1, by rw [e0]; exact a2, fun i hi => ?_⟩
  rw [eh (53 + 2 * i) (by omega) (by omega), eh (54 + 2 * i) (by omega) (by omega), e47, e48]
  exact a3 i hi
theorem RS.fr {σ τ : Mm} (h : RS σ) (e26 : τ.1 26 5 = σ.1 26 5) (e27 : τ.1 27 = σ.1 27) (e28 : τ.1 28 = σ.1 28) (e29 : τ.1 29 = σ.1 29) (e33 : τ.1 33 6 = σ.1 33 6) (e37 : τ.1 37 = σ.1 37) (e38 : τ.1 38 = σ.1 38) (e39 : τ.1 39 = σ.1 39) : RS τ := by
  unfold RS at *
  rw [e26, e27, e28, e29, e33, e37, e38, e39]
  exact h
theorem Rv_0 : Rv σ0 := by
  refine ⟨⟨0, by decide, rfl, rfl, fun j hj => absurd hj (Nat.not_lt_zero j)⟩, ⟨0, 4, 0, 0, 0, 0, fun _ _ => 0, by decide, ⟨by decide, by decide⟩, by decide, by decide, by decide, by decide, rfl, rfl, rfl, rfl, rfl, rfl, rfl, rfl, rfl, rfl, rfl, rfl, fun i hi => absurd hi (Nat.not_lt_zero i)⟩, ⟨0, 0, by decide, by decide, rfl, rfl, rfl, rfl, fun k _ hl => absurd hl (Nat.not_lt_zero _)⟩, ⟨0, by decide, rfl, fun i hi => ⟨?_, fun h => ?_⟩⟩, ⟨0, by decide, rfl, rfl, fun j hj => absurd hj (Nat.not_lt_zero j)⟩, rfl⟩
  · rcases (show i = 0 ∨ i = 1 by omega) with rfl | rfl <;> rfl
  · rcases (show i = 0 ∨ i = 1 by omega) with rfl | rfl <;> exact absurd h (by decide)
theorem in_ti {a : Int32} {lo hi : Int64} : fX10_in a.toInt64 lo hi = true ↔ lo.toInt ≤ a.toInt ∧ a.toInt ≤ hi.toInt := by
  unfold fX10_in
  by_cases h1 : lo ≤ a.toInt64
  · rw [if_pos h1]
    have h1' := Int64.le_iff_toInt_le.mp h1
    rw [Int32.toInt_toInt64] at h1'
    by_cases h2 : a.toInt64 ≤ hi
    · rw [if_pos h2]
      have h2' := Int64.le_iff_toInt_le.mp h2
      rw [Int32.toInt_toInt64] at h2'
      exact ⟨fun _ => ⟨h1', h2'⟩, fun _ => rfl⟩
    · rw [if_neg h2]
      refine ⟨fun q => absurd q (by decide), fun q => absurd (Int64.le_iff_toInt_le.mpr ?_) h2⟩
      rw [Int32.toInt_toInt64]
      exact q.2
  · rw [if_neg h1]
    refine ⟨fun q => absurd q (by decide), fun q => absurd (Int64.le_iff_toInt_le.mpr ?_) h1⟩
    rw [Int32.toInt_toInt64]
    exact q.1
/-- a number within bounds, as both sides ask it -/
theorem in_pos {a : Int32} {lo hi : Int64} {x y : Int32} (hx : x.toInt = lo.toInt) (hy : y.toInt = hi.toInt) (h1 : x ≤ a) (h2 : a ≤ y) : fX10_in a.toInt64 lo hi = true := in_ti.mpr ⟨hx ▸ Int32.le_iff_toInt_le.mp h1, hy ▸ Int32.le_iff_toInt_le.mp h2⟩
theorem in_neg1 {a : Int32} {lo hi : Int64} {x : Int32} (hx : x.toInt = lo.toInt) (h1 : ¬ x ≤ a) : ¬ fX10_in a.toInt64 lo hi = true := fun q => h1 (Int32.le_iff_toInt_le.mpr (hx ▸ (in_ti.mp q).1))
theorem in_neg2 {a : Int32} {lo hi : Int64} {y : Int32} (hy : y.toInt = hi.toInt) (h1 : ¬ a ≤ y) : ¬ fX10_in a.toInt64 lo hi = true := fun q => h1 (Int32.le_iff_toInt_le.mpr (hy ▸ (in_ti.mp q).2))
theorem Rv.hL {σ : Mm} (h : Rv σ) : vp_in (σ.1 33 2) 57 := by
  obtain ⟨⟨n, h1, h2, h3, h4⟩, -⟩ := h
  rw [h3]
  exact vp_in_nI (by omega) (by decide)
theorem Rv.hM {σ : Mm} (h : Rv σ) : vp_in (σ.1 34 13) 9 := by
  obtain ⟨-, ⟨n, w, B, Hd, C, Gd, d, h1, -, -, -, -, -, -, h2, -⟩, -⟩ := h
  rw [h2]
  exact vp_in_nI (by omega) (by decide)
theorem Rv.hx {σ : Mm} (h : Rv σ) : vp_in (σ.1 4 1) 16 := by
  obtain ⟨-, -, ⟨nx, ln, h1, h2, h3, -⟩, -⟩ := h
  rw [h3]
  exact vp_in_nI h1 (by decide)
theorem Rv.hX {σ : Mm} (h : Rv σ) : vp_in (σ.1 33 4) 16 := by
  obtain ⟨-, -, ⟨nx, ln, h1, h2, -, h3, -⟩, -⟩ := h
  rw [h3]
  exact vp_in_nI h1 (by decide)
theorem Rv.hS {σ : Mm} (h : Rv σ) : vp_in (σ.1 33 6) 7 := by
  obtain ⟨-, -, -, -, ⟨n, h1, -, h3, -⟩, -⟩ := h
  rw [h3]
  exact vp_in_nI (by omega) (by decide)
/-- the text changed, nothing else -/
theorem Rv.txt {σ τ : Mm} (h : Rv σ) (hT : RT τ) (e : ∀ k, k ≠ 2 → k ≠ 3 → k ≠ 33 → k ≠ 35 → τ.1 k = σ.1 k) (e33 : ∀ j, j ≠ 2 → τ.1 33 j = σ.1 33 j) (e2 : τ.2 = σ.2) : Rv τ := by
  obtain ⟨-, h2, h3, h4, h5, h6⟩ := h
  refine ⟨hT, ?_, h3.fr (e 4 (by decide) (by decide) (by decide) (by decide)) (e 36 (by decide) (by decide) (by decide) (by decide)) (e33 3 (by decide)) (e33 4 (by decide)) (fun k hk => e k (by omega) (by omega) (by omega) (by omega)), h4.fr (by rw [e 0 (by decide) (by decide) (by decide) (by decide)]) (e 47 (by decide) (by decide) (by decide) (by decide)) (e 48 (by decide) (by decide) (by decide) (by decide)) (fun k hk _ => e k (by omega) (by omega) (by omega) (by omega)), h5.fr (by rw [e 26 (by decide) (by decide) (by decide) (by decide)]) (e 27 (by decide) (by decide) (by decide) (by decide)) (e 28 (by decide) (by decide) (by decide) (by decide)) (e 29 (by decide) (by decide) (by decide) (by decide)) (e33 6 (by decide)) (e 37 (by decide) (by decide) (by decide) (by decide)) (e 38 (by decide) (by decide) (by decide) (by decide)) (e 39 (by decide) (by decide) (by decide) (by decide)), by rw [e2]; exact h6⟩
  rw [e 49 (by decide) (by decide) (by decide) (by decide), e 50 (by decide) (by decide) (by decide) (by decide), e 34 (by decide) (by decide) (by decide) (by decide)]
  exact h2
theorem s_wipe : sc_wipe Rv := by
  intro σ h
  obtain ⟨n, h1, h2, h3, h4⟩ := h.1
  refine ⟨?_, ?_⟩
  · show σ.1 2 1 = (up σ 2 1 0).1 33 2
    rw [up_k (by decide), h2, h3]
  · refine h.txt (τ := up (up σ 2 1 0) 33 2 0) ⟨0, by decide, ?_, ?_, fun j hj => absurd hj (Nat.not_lt_zero j)⟩ (fun k k1 k2 k3 k4 => ?_) (fun j hj => ?_) rfl
    · rw [up_k (by decide), up_e]; rfl
    · rw [up_e]; rfl
    · rw [up_ne k3, up_ne k1]
    · rw [up_n hj, up_ne (by decide)]
theorem s_seed : sc_seed Rv := by
  intro σ a1 h
  obtain ⟨h1, h2, h3, h4, h5, h6⟩ := h
  refine ⟨?_, h1, h2, h3, h4, h5, ?_⟩
  · show σ.2 32 = (upL σ 32 a1).2 33
    rw [upL_ne (by decide)]
    exact h6
  · show (upL (upL σ 32 a1) 33 a1).2 32 = (upL (upL σ 32 a1) 33 a1).2 33
    rw [upL_eq, upL_ne (by decide), upL_eq]
