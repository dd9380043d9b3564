theorem HR.yr {f t g f' t' g' : Nat → Int32} (h : HR f t g) (hy : f' 3 = g' 12) (hf : ∀ j, 1 ≤ j → j ≤ 7 → j ≠ 3 → f' j = f j) (ht : ∀ j, j < 8 → t' j = t j) (hg : ∀ j, j < 14 → j ≠ 12 → g' j = g j) : HR f' t' g' := by
  obtain ⟨n, w, B, Hd, C, Gd, d, a1, a2, a3, a4, a5, a6, b1, b2, b3, b4, b5, b6, b7, b8, b9, c1, c2, c3, c4⟩ := h
  refine ⟨n, w, B, Hd, C, Gd, d, a1, a2, a3, a4, a5, a6, ?_, ?_, ?_, ?_, hy, ?_, ?_, ?_, ?_, ?_, ?_, ?_, fun i hi => ?_⟩
  · rw [hf 1 (by decide) (by decide) (by decide)]; exact b1
  · rw [hg 13 (by decide) (by decide)]; exact b2
  · rw [hf 2 (by decide) (by decide) (by decide)]; exact b3
  · rw [hg 11 (by decide) (by decide)]; exact b4
  · rw [hf 5 (by decide) (by decide) (by decide)]; exact b6
  · rw [hg 8 (by decide) (by decide)]; exact b7
  · rw [hf 6 (by decide) (by decide) (by decide)]; exact b8
  · rw [hg 9 (by decide) (by decide)]; exact b9
  · rw [hf 7 (by decide) (by decide) (by decide)]; exact c1
  · rw [hg 10 (by decide) (by decide)]; exact c2
  · rw [hf 4 (by decide) (by decide) (by decide)]; exact c3
  · rw [ht i (by omega), hg i (by omega) (by omega)]
    exact c4 i hi
theorem HR.year {f t g : Nat → Int32} (h : HR f t g) : f 3 = g 12 := by
  obtain ⟨n, w, B, Hd, C, Gd, d, a1, a2, a3, a4, a5, a6, b1, b2, b3, b4, b5, -⟩ := h
  exact b5
/-- what the class's remembering leaves -/
theorem Rv.rem {σ σ1 : Mm} (h : Rv σ) (e1 : fX6_remember σ 49 = σ1) : σ1.2 = σ.2 ∧ (∀ k, k < 57 → k ≠ 4 → σ1.1 k = σ.1 k) := by
  obtain ⟨nx, ln, b1, b2, b3, b4, b5, b6, b7⟩ := h.2.2.1
  obtain ⟨p1, p2, -⟩ := rem_all b1 b2 b3 b5 σ1 e1
  exact ⟨p1, fun k hk k4 => p2 k (by omega) (by omega) k4⟩
theorem s_year : sc_year Rv := by
  intro σ h
  generalize e1 : fX6_remember σ 49 = σ1
  obtain ⟨p1, p2⟩ := h.rem e1
  have e9 : fX9_year σ = (σ1.1 49 3 + 1, up σ1 49 3 (σ1.1 49 3 + 1)) := by
    unfold fX9_year fX9_year_24
    rw [e1, up_e]
  generalize h2 : up σ1 49 3 (σ1.1 49 3 + 1) = σ2 at e9
  generalize e3 : fX10_keepAct σ2 = σ3
  have e10 : fX10_year σ2 = (σ3.1 34 12 + 1, up σ3 34 12 (σ3.1 34 12 + 1)) := by
    unfold fX10_year fX10_year_15
    rw [e3, up_e]
  have q34 : σ3.1 34 = σ.1 34 := by rw [← e3, keepAct_34, ← h2, up_ne (by decide), p2 34 (by decide) (by decide)]
  have q33 : σ2.1 33 = σ.1 33 := by rw [← h2, up_ne (by decide), p2 33 (by decide) (by decide)]
  have q49 : σ1.1 49 = σ.1 49 := p2 49 (by decide) (by decide)
  have r49 : σ3.1 49 = σ2.1 49 := by rw [← e3]; exact keepAct_k (by decide) (by decide)
  have r50 : σ3.1 50 = σ2.1 50 := by rw [← e3]; exact keepAct_k (by decide) (by decide)
  have s50 : σ2.1 50 = σ.1 50 := by rw [← h2, up_ne (by decide), p2 50 (by decide) (by decide)]
  rw [e9]
  show vp_in (σ.1 4 1) 16 ∧ vp_in (σ2.1 33 4) 16 ∧ σ1.1 49 3 + 1 = (fX10_year σ2).1 ∧ Rv (fX10_year σ2).2
  rw [e10, q33, q34, q49]
  refine ⟨h.hx, h.hX, by rw [h.2.1.year], h.act e1 (fun k k1 k2 => by rw [← h2, up_ne k1]) (by rw [← h2]; rfl) e3 (fun k hk => up_ne hk) rfl (h.2.1.yr ?_ (fun j j1 j2 j3 => ?_) (fun j hj => ?_) (fun j hj hj2 => ?_))⟩
  · rw [up_ne (by decide), r49, ← h2, up_e, up_e, q49, h.2.1.year]
  · rw [up_ne (by decide), r49, ← h2, up_n j3, q49]
  · rw [up_ne (by decide), r50, s50]
  · rw [up_n hj2, q34]
/-! bits -/
theorem nI_xor (a b : Nat) : nI a ^^^ nI b = nI (a ^^^ b) := by
  apply Int32.toBitVec_inj.mp
  show BitVec.ofNat 32 a ^^^ BitVec.ofNat 32 b = BitVec.ofNat 32 (a ^^^ b)
  rw [BitVec.ofNat_xor]
theorem nI_or (a b : Nat) : nI a ||| nI b = nI (a ||| b) := by
  apply Int32.toBitVec_inj.mp
  show BitVec.ofNat 32 a ||| BitVec.ofNat 32 b = BitVec.ofNat 32 (a ||| b)
  rw [BitVec.ofNat_or]
theorem nI_and (a b : Nat) : nI a &&& nI b = nI (a &&& b) := by
  apply Int32.toBitVec_inj.mp
  show BitVec.ofNat 32 a &&& BitVec.ofNat 32 b = BitVec.ofNat 32 (a &&& b)
  rw [BitVec.ofNat_and]
