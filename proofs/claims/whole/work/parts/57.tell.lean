/-- what a house now has, by name -/
theorem HR.all {f t g : Nat → Int32} (h : HR f t g) : f 1 = g 13 ∧ f 2 = g 11 ∧ f 3 = g 12 ∧ f 5 = g 8 ∧ f 6 = g 9 ∧ f 7 = g 10 := by
  obtain ⟨n, w, B, Hd, C, Gd, d, a1, a2, a3, a4, a5, a6, b1, b2, b3, b4, b5, b6, b7, b8, b9, c1, c2, c3, c4⟩ := h
  exact ⟨b1.trans b2.symm, b3.trans b4.symm, b5, b6.trans b7.symm, b8.trans b9.symm, c1.trans c2.symm⟩
theorem shown_eq {σ : Mm} (h : HR (σ.1 49) (σ.1 50) (σ.1 34)) : fX2_shown σ 49 = fX10_shown σ 0 := by
  obtain ⟨e1, e2, e3, e5, e6, e7⟩ := h.all
  unfold fX2_shown fX2_there fX2_all fX10_shown
  show ((((1 : Int32) <<< ((σ.1 49 1) &&& 31)) - 1) &&& ((σ.1 49 5) ^^^ (-1))) &&& ((σ.1 49 6) ^^^ (-1)) = ((((1 : Int32) <<< ((σ.1 34 13) &&& 31)) - 1) &&& ((σ.1 34 8) ^^^ (-1))) &&& ((σ.1 34 9) ^^^ (-1))
  rw [e1, e5, e6]
theorem lastNow_eq {σ : Mm} (h : HR (σ.1 49) (σ.1 50) (σ.1 34)) : fX2_lastOnes σ 49 = fX10_last σ := by
  obtain ⟨n, d, H⟩ := h.tg
  unfold fX2_lastOnes fX10_last
  rw [last_eq H, shown_eq h, h.all.2.1]
theorem unseen_eq {σ : Mm} (h : HR (σ.1 49) (σ.1 50) (σ.1 34)) : fX2_unseen σ 49 = fX10_hiddenThere σ := by
  obtain ⟨e1, e2, e3, e5, e6, e7⟩ := h.all
  unfold fX2_unseen fX2_there fX2_all fX10_hiddenThere
  rw [e1, e5, e6, Int32.and_assoc, Int32.and_comm ((σ.1 34 8) ^^^ (-1)), ← Int32.and_assoc]
theorem thing_has {σ : Mm} (h : Rv σ) (a : Int32) : fX2_has σ 49 a = fX10_isThing σ a := by
  obtain ⟨n, h1, h2, h3⟩ := h.2.1.size
  exact Bool.eq_iff_iff.mpr ((has_iff h2 (by omega)).trans (thing_iff h3 (by omega)).symm)
theorem s_count : sc_count Rv := by
  intro σ a h
  refine ⟨h.hM, ?_, h⟩
  obtain ⟨e1, e2, e3, e5, e6, e7⟩ := h.2.1.all
  obtain ⟨n, q1, q2, q3, -⟩ := h.1
  obtain ⟨nx, ln, -, -, -, -, r1, r2, -⟩ := h.2.2.1
  obtain ⟨m, -, s1, s2, -⟩ := h.2.2.2.2.1
  unfold fX9_count fX10_count
  rw [e1, e2, e3, e5, e7, q2, q3, r1, r2, s1, s2, shown_eq h.2.1, lastNow_eq h.2.1, unseen_eq h.2.1]
theorem s_alike : sc_alike Rv := by
  intro σ a h
  refine ⟨h.hM, ?_, h⟩
  unfold fX9_alike fX10_alike
  rw [thing_has h]
  by_cases c : fX10_isThing σ a = true
  · obtain ⟨n, d, H⟩ := h.2.1.tg
    obtain ⟨i, hi, rfl⟩ := (thing_iff H.2.2.1 (by have := H.1; omega)).mp c
    rw [if_pos c, if_pos c, alike_eq H hi, shown_eq h.2.1, h.2.1.all.2.1]
  · rw [if_neg c, if_neg c]
