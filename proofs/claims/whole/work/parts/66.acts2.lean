theorem thing_h {σ τ : Mm} {a : Int32} (e : τ.1 34 = σ.1 34) : fX10_isThing τ a = fX10_isThing σ a := by
  unfold fX10_isThing
  rw [e]
/-- the three ways of an act -/
theorem act_cases {σ : Mm} (h : Rv σ) {k : Nat} (hk : k < 4) (a : Int32) : (fX9_tryAct σ (nI k) a = (-1, σ) ∧ fX10_isThing σ a = false) ∨ (∃ i, a = nI i ∧ fX9_tryAct σ (nI k) a = (-3, σ) ∧ fX10_isThing σ a = true ∧ can10 σ 0 k i = false) ∨ (∃ n i σ2 σ4, a = nI i ∧ i < n ∧ n ≤ 8 ∧ σ4.1 49 1 = nI n ∧ fX9_tryAct σ (nI k) a = (0, σ2) ∧ fX10_isThing σ2 a = true ∧ can10 σ2 0 k i = true ∧ mk10 (fX10_keepAct σ2) 0 k i = σ4 ∧ vp_in (σ2.1 34 13) 9 ∧ vp_in (σ2.1 33 4) 16 ∧ σ4.1 49 = σ2.1 49 ∧ σ4.1 50 = σ2.1 50 ∧ Rv σ4) := by
  obtain ⟨n, w, B, Hd, C, Gd, d, P⟩ := h.2.1.hp
  have n8 := P.1
  have b1 := P.ch.2.1
  by_cases c : fX10_isThing σ a = true
  · obtain ⟨i, hi, rfl⟩ := (thing_iff P.rg.2.1 (by omega)).mp c
    right
    by_cases cc : fX2_canBe σ 49 (nI k) (nI i) = true
    · right
      obtain ⟨s34, s33, s49, s50, hc, hR⟩ := act_all h b1 n8 hi hk cc _ _ rfl rfl
      refine ⟨n, i, _, _, rfl, hi, n8, ?_, ?_, ?_, hc, rfl, ?_, ?_, s49, s50, hR⟩
      · rw [s49]
        obtain ⟨p1, p2⟩ := h.rem (σ1 := fX6_remember σ 49) rfl
        unfold fX2_perform
        repeat' split
        all_goals (repeat rw [up_n (by decide)])
        all_goals (rw [p2 49 (by decide) (by decide)]; exact b1)
      · unfold fX9_tryAct
        rw [if_pos (has2 b1 n8 hi), if_pos cc]
      · rw [thing_h s34]
        exact c
      · rw [s34]
        exact h.hM
      · rw [s33]
        exact h.hX
    · left
      refine ⟨i, rfl, ?_, c, ?_⟩
      · unfold fX9_tryAct
        rw [if_pos (has2 b1 n8 hi), if_neg cc]
      · have P0 : HP (σ.1 49) (σ.1 50) (fun j => σ.1 34 (14 * 0 + j)) n w B Hd C Gd d := by
          rw [z_add]
          exact P
        rw [can10_eq (by decide) P0 P.rg hi hk, ← can2 (by decide) P P.ch hi hk]
        exact Bool.eq_false_iff.mpr cc
  · left
    refine ⟨?_, Bool.eq_false_iff.mpr c⟩
    unfold fX9_tryAct
    rw [thing_has h, if_neg c]
theorem bF {b : Bool} (h : b = false) : ¬ b = true := by rw [h]; decide
theorem lastOnes_h {σ τ : Mm} (e1 : τ.1 49 = σ.1 49) (e2 : τ.1 50 = σ.1 50) : fX2_lastOnes σ 49 = fX2_lastOnes τ 49 := by
  unfold fX2_lastOnes fX2_shown fX2_there fX2_all
  rw [e1]
  exact lastOnesBy_fr (by rw [e1]) e2.symm
theorem s_broken : sc_broken Rv := by
  intro σ a h
  rcases act_cases h (k := 0) (by decide) a with ⟨e, c⟩ | ⟨i, rfl, e, c, cc⟩ | ⟨n, i, σ2, σ4, rfl, hi, n8, en, e, c, cc, e4, m1, m2, s49, s50, hR⟩
  · have e : fX9_tryAct σ 0 a = (-1, σ) := e
    have e9 : fX9_broken σ a = (-1, σ) := by
      unfold fX9_broken
      rw [e, if_pos (show (-1 : Int32) < 0 from by decide)]
    rw [e9]
    show vp_in (σ.1 4 1) 16 ∧ vp_in (σ.1 34 13) 9 ∧ vp_in (σ.1 33 4) 16 ∧ -1 = (fX10_broken σ a).1 ∧ Rv (fX10_broken σ a).2
    unfold fX10_broken
    rw [if_neg (bF c)]
    exact ⟨h.hx, h.hM, h.hX, rfl, h⟩
  · have e : fX9_tryAct σ 0 (nI i) = (-3, σ) := e
    have e9 : fX9_broken σ (nI i) = (-3, σ) := by
      unfold fX9_broken
      rw [e, if_pos (show (-3 : Int32) < 0 from by decide)]
    rw [e9]
    show vp_in (σ.1 4 1) 16 ∧ vp_in (σ.1 34 13) 9 ∧ vp_in (σ.1 33 4) 16 ∧ -3 = (fX10_broken σ (nI i)).1 ∧ Rv (fX10_broken σ (nI i)).2
    unfold fX10_broken
    rw [if_pos c, if_neg (show ¬ fX10_canBreak σ 0 (nI i) = true from bF cc)]
    exact ⟨h.hx, h.hM, h.hX, rfl, h⟩
  · have e : fX9_tryAct σ 0 (nI i) = (0, σ2) := e
    have e9 : fX9_broken σ (nI i) = (fX2_lastOnes σ2 49, σ2) := by
      unfold fX9_broken
      rw [e, if_neg (show ¬ (0 : Int32) < 0 from by decide)]
    have e10 : fX10_broken σ2 (nI i) = (fX10_last σ4, σ4) := by
      unfold fX10_broken
      rw [if_pos c, if_pos (show fX10_canBreak σ2 0 (nI i) = true from cc), ← e4]
      rfl
    rw [e9]
    show vp_in (σ.1 4 1) 16 ∧ vp_in (σ2.1 34 13) 9 ∧ vp_in (σ2.1 33 4) 16 ∧ fX2_lastOnes σ2 49 = (fX10_broken σ2 (nI i)).1 ∧ Rv (fX10_broken σ2 (nI i)).2
    rw [e10]
    exact ⟨h.hx, m1, m2, (lastOnes_h s49 s50).trans (lastNow_eq hR.2.1), hR⟩
theorem s_claim : sc_claim Rv := by
  intro σ a h
  rcases act_cases h (k := 1) (by decide) a with ⟨e, c⟩ | ⟨i, rfl, e, c, cc⟩ | ⟨n, i, σ2, σ4, rfl, hi, n8, en, e, c, cc, e4, m1, m2, s49, s50, hR⟩
  · have e : fX9_tryAct σ 1 a = (-1, σ) := e
    have e9 : fX9_claim σ a = (-1, σ) := by
      unfold fX9_claim
      rw [e, if_pos (show (-1 : Int32) < 0 from by decide)]
    rw [e9]
    show vp_in (σ.1 4 1) 16 ∧ vp_in (σ.1 34 13) 9 ∧ vp_in (σ.1 33 4) 16 ∧ -1 = (fX10_claim σ a).1 ∧ Rv (fX10_claim σ a).2
    unfold fX10_claim
    rw [if_neg (bF c)]
    exact ⟨h.hx, h.hM, h.hX, rfl, h⟩
  · have e : fX9_tryAct σ 1 (nI i) = (-3, σ) := e
    have e9 : fX9_claim σ (nI i) = (-3, σ) := by
      unfold fX9_claim
      rw [e, if_pos (show (-3 : Int32) < 0 from by decide)]
    rw [e9]
    show vp_in (σ.1 4 1) 16 ∧ vp_in (σ.1 34 13) 9 ∧ vp_in (σ.1 33 4) 16 ∧ -3 = (fX10_claim σ (nI i)).1 ∧ Rv (fX10_claim σ (nI i)).2
    unfold fX10_claim
    rw [if_pos c, if_neg (show ¬ fX10_canClaim σ 0 (nI i) = true from bF cc)]
    exact ⟨h.hx, h.hM, h.hX, rfl, h⟩
  · have e : fX9_tryAct σ 1 (nI i) = (0, σ2) := e
    have e9 : fX9_claim σ (nI i) = (fJ6_bitCount (σ2.1 49 7), σ2) := by
      unfold fX9_claim
      rw [e, if_neg (show ¬ (0 : Int32) < 0 from by decide)]
    have e10 : fX10_claim σ2 (nI i) = (fX10_ones (σ4.1 34 10), σ4) := by
      unfold fX10_claim
      rw [if_pos c, if_pos (show fX10_canClaim σ2 0 (nI i) = true from cc), ← e4]
      rfl
    rw [e9]
    show vp_in (σ.1 4 1) 16 ∧ vp_in (σ2.1 34 13) 9 ∧ vp_in (σ2.1 33 4) 16 ∧ fJ6_bitCount (σ2.1 49 7) = (fX10_claim σ2 (nI i)).1 ∧ Rv (fX10_claim σ2 (nI i)).2
    rw [e10]
    refine ⟨h.hx, m1, m2, ?_, hR⟩
    obtain ⟨n, w, B, Hd, C, Gd, d, a1, a2, a3, a4, a5, a6, b1, b2, b3, b4, b5, b6, b7, b8, b9, c1, c2, c3, c4⟩ := hR.2.1.hp
    show fJ6_bitCount (σ2.1 49 7) = fX10_ones (σ4.1 34 10)
    rw [← s49, c1, c2, ones_eq C (p8 a1 a5)]
theorem s_hide : sc_hide Rv := by
  intro σ a h
  rcases act_cases h (k := 2) (by decide) a with ⟨e, c⟩ | ⟨i, rfl, e, c, cc⟩ | ⟨n, i, σ2, σ4, rfl, hi, n8, en, e, c, cc, e4, m1, m2, s49, s50, hR⟩
  · have e : fX9_tryAct σ 2 a = (-1, σ) := e
    have e9 : fX9_hide σ a = (-1, σ) := by
      unfold fX9_hide
      rw [e, if_pos (show (-1 : Int32) < 0 from by decide)]
    rw [e9]
    show vp_in (σ.1 4 1) 16 ∧ vp_in (σ.1 34 13) 9 ∧ vp_in (σ.1 33 4) 16 ∧ -1 = (fX10_hide σ a).1 ∧ Rv (fX10_hide σ a).2
    unfold fX10_hide
    rw [if_neg (bF c)]
    exact ⟨h.hx, h.hM, h.hX, rfl, h⟩
  · have e : fX9_tryAct σ 2 (nI i) = (-3, σ) := e
    have e9 : fX9_hide σ (nI i) = (-3, σ) := by
      unfold fX9_hide
      rw [e, if_pos (show (-3 : Int32) < 0 from by decide)]
    rw [e9]
    show vp_in (σ.1 4 1) 16 ∧ vp_in (σ.1 34 13) 9 ∧ vp_in (σ.1 33 4) 16 ∧ -3 = (fX10_hide σ (nI i)).1 ∧ Rv (fX10_hide σ (nI i)).2
    unfold fX10_hide
    rw [if_pos c, if_neg (show ¬ fX10_canHide σ 0 (nI i) = true from bF cc)]
    exact ⟨h.hx, h.hM, h.hX, rfl, h⟩
  · have e : fX9_tryAct σ 2 (nI i) = (0, σ2) := e
    have e9 : fX9_hide σ (nI i) = (((σ2.1 49 6) >>> (nI i &&& 31)) &&& 1, σ2) := by
      unfold fX9_hide
      rw [e, if_neg (show ¬ (0 : Int32) < 0 from by decide)]
    have e10 : fX10_hide σ2 (nI i) = (((σ4.1 34 9) >>> (nI i &&& 31)) &&& 1, σ4) := by
      unfold fX10_hide
      rw [if_pos c, if_pos (show fX10_canHide σ2 0 (nI i) = true from cc), ← e4]
      rfl
    rw [e9]
    show vp_in (σ.1 4 1) 16 ∧ vp_in (σ2.1 34 13) 9 ∧ vp_in (σ2.1 33 4) 16 ∧ ((σ2.1 49 6) >>> (nI i &&& 31)) &&& 1 = (fX10_hide σ2 (nI i)).1 ∧ Rv (fX10_hide σ2 (nI i)).2
    rw [e10]
    refine ⟨h.hx, m1, m2, ?_, hR⟩
    show ((σ2.1 49 6) >>> (nI i &&& 31)) &&& 1 = ((σ4.1 34 9) >>> (nI i &&& 31)) &&& 1
    rw [← s49, hR.2.1.all.2.2.2.2.1]
theorem s_guard : sc_guard Rv := by
  intro σ a h
  have hz : ∀ (τ : Mm) (i : Nat), can10 τ 0 3 i = !fX10_has (τ.1 34 8) (nI i) := fun τ i => rfl
  rcases act_cases h (k := 3) (by decide) a with ⟨e, c⟩ | ⟨i, rfl, e, c, cc⟩ | ⟨n, i, σ2, σ4, rfl, hi, n8, en, e, c, cc, e4, m1, m2, s49, s50, hR⟩
  · have e : fX9_tryAct σ 3 a = (-1, σ) := e
    have e9 : fX9_guard σ a = (-1, σ) := by
      unfold fX9_guard
      rw [e, if_pos (show (-1 : Int32) < 0 from by decide)]
    rw [e9]
    show vp_in (σ.1 4 1) 16 ∧ vp_in (σ.1 34 13) 9 ∧ vp_in (σ.1 33 4) 16 ∧ -1 = (fX10_guard σ a).1 ∧ Rv (fX10_guard σ a).2
    unfold fX10_guard
    rw [if_neg (bF c)]
    exact ⟨h.hx, h.hM, h.hX, rfl, h⟩
  · have e : fX9_tryAct σ 3 (nI i) = (-3, σ) := e
    have e9 : fX9_guard σ (nI i) = (-3, σ) := by
      unfold fX9_guard
      rw [e, if_pos (show (-3 : Int32) < 0 from by decide)]
    have ch : fX10_has (σ.1 34 8) (nI i) = true := by
      rw [hz] at cc
      cases e : fX10_has (σ.1 34 8) (nI i)
      · rw [e] at cc
        exact absurd cc (by decide)
      · rfl
    rw [e9]
    show vp_in (σ.1 4 1) 16 ∧ vp_in (σ.1 34 13) 9 ∧ vp_in (σ.1 33 4) 16 ∧ -3 = (fX10_guard σ (nI i)).1 ∧ Rv (fX10_guard σ (nI i)).2
    unfold fX10_guard
    rw [if_pos c, if_pos ch]
    exact ⟨h.hx, h.hM, h.hX, rfl, h⟩
  · have e : fX9_tryAct σ 3 (nI i) = (0, σ2) := e
    have e9 : fX9_guard σ (nI i) = (((σ2.1 49 4) >>> (nI i &&& 31)) &&& 1, σ2) := by
      unfold fX9_guard
      rw [e, if_neg (show ¬ (0 : Int32) < 0 from by decide)]
    have ch : ¬ fX10_has (σ2.1 34 8) (nI i) = true := by
      rw [hz] at cc
      intro q
      rw [q] at cc
      exact absurd cc (by decide)
    have e10 : fX10_guard σ2 (nI i) = (fX10_guardOf σ4 (nI i), σ4) := by
      unfold fX10_guard
      rw [if_pos c, if_neg ch, ← e4]
      rfl
    rw [e9]
    show vp_in (σ.1 4 1) 16 ∧ vp_in (σ2.1 34 13) 9 ∧ vp_in (σ2.1 33 4) 16 ∧ ((σ2.1 49 4) >>> (nI i &&& 31)) &&& 1 = (fX10_guard σ2 (nI i)).1 ∧ Rv (fX10_guard σ2 (nI i)).2
    rw [e10]
    refine ⟨h.hx, m1, m2, ?_, hR⟩
    show ((σ2.1 49 4) >>> (nI i &&& 31)) &&& 1 = fX10_guardOf σ4 (nI i)
    unfold fX10_guardOf
    rw [← s49, hR.2.1.gd en n8 hi, nI_clamp (by omega)]
