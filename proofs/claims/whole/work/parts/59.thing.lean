theorem HR.gd {f t g : Nat → Int32} (h : HR f t g) {i n : Nat} (hn : f 1 = nI n) (h8 : n ≤ 8) (hi : i < n) : ((f 4) >>> (nI i &&& 31)) &&& 1 = rm (g i) 2 := by
  obtain ⟨n', w, B, Hd, C, Gd, d, a1, a2, a3, a4, a5, a6, b1, b2, b3, b4, b5, b6, b7, b8, b9, c1, c2, c3, c4⟩ := h
  have e : n' = n := (nI_eq (by omega) (by omega)).mp (b1.symm.trans hn)
  subst e
  obtain ⟨g1, g2, g3, g4, g5, g6⟩ := c4 i hi
  have hG : Gd < 2 ^ 8 := Nat.lt_of_lt_of_le a6 (Nat.pow_le_pow_right (by decide) a1)
  have hl := pkC_lt g1 g3
  rw [c3, g6, pk_shrN (by omega) _ i (sh_i i (by omega)), pk_andN (Nat.lt_of_le_of_lt (Nat.div_le_self _ _) (by omega)) 1 (by decide +kernel), show (2 : Int32) = nI 2 from rfl, rm_nI hl (by decide) (by decide), (pkC_parts g1 g2 g3).2.2.2, show (2 ^ 1 : Nat) = 2 from rfl, g4]
theorem s_thing : sc_thing Rv := by
  intro σ a b h
  refine ⟨h.hM, ?_, h⟩
  obtain ⟨e1, e2, e3, e5, e6, e7⟩ := h.2.1.all
  unfold fX9_thing fX10_thing fX9_thing_33
  rw [thing_has h]
  by_cases c : fX10_isThing σ a = true
  · obtain ⟨n, d, H⟩ := h.2.1.tg
    have hn := H.1
    obtain ⟨i, hi, rfl⟩ := (thing_iff H.2.2.1 (by omega)).mp c
    rw [if_pos c, if_pos c]
    obtain ⟨p1, p2, p3, p4⟩ := parts_eq H hi
    have m := fun (k : Nat) (hk : k < 4) => marks_eq H hi hk
    have f := fun (k : Nat) (hk : k < 7) => fig_eq H hi hk
    have gd : ((σ.1 49 4) >>> (nI i &&& 31)) &&& 1 = fX10_guardOf σ (nI i) := by
      rw [h.2.1.gd H.2.1 hn hi]
      unfold fX10_guardOf
      rw [nI_clamp (by omega)]
    by_cases c0 : 0 ≤ b
    · by_cases c1 : b < 7
      · obtain ⟨k, hk, rfl⟩ := nI_ex c0 (show b < nI 7 from c1) (by decide)
        rw [if_pos c0, if_pos c1, f k hk, p1, p2, p3]
        rcases (show k = 0 ∨ k = 1 ∨ k = 2 ∨ k = 3 ∨ k = 4 ∨ k = 5 ∨ k = 6 by omega) with rfl | rfl | rfl | rfl | rfl | rfl | rfl
        · rw [if_pos (by decide), m 0 (by decide)]
        · rw [if_neg (by decide), if_pos (by decide), m 1 (by decide)]
        · rw [if_neg (by decide), if_neg (by decide), if_pos (by decide), m 2 (by decide)]
        · rw [if_neg (by decide), if_neg (by decide), if_neg (by decide), if_pos (by decide), m 3 (by decide)]
        · rw [if_neg (by decide), if_neg (by decide), if_neg (by decide), if_neg (by decide), if_pos (by decide)]
        · rw [if_neg (by decide), if_neg (by decide), if_neg (by decide), if_neg (by decide), if_neg (by decide), if_pos (by decide)]
        · rw [if_neg (by decide), if_neg (by decide), if_neg (by decide), if_neg (by decide), if_neg (by decide), if_neg (by decide), if_pos (by decide)]
      · have ne : ∀ v : Int32, v < 7 → ¬ b = v := fun v hv q => c1 (q ▸ hv)
        rw [if_pos c0, if_neg c1, if_neg (ne 0 (by decide)), if_neg (ne 1 (by decide)), if_neg (ne 2 (by decide)), if_neg (ne 3 (by decide)), if_neg (ne 4 (by decide)), if_neg (ne 5 (by decide)), if_neg (ne 6 (by decide)), gd, e5, e6, e7, lastNow_eq h.2.1]
    · have ne : ∀ v : Int32, 0 ≤ v → ¬ b = v := fun v hv q => c0 (q ▸ hv)
      rw [if_neg c0, if_neg (ne 0 (by decide)), if_neg (ne 1 (by decide)), if_neg (ne 2 (by decide)), if_neg (ne 3 (by decide)), if_neg (ne 4 (by decide)), if_neg (ne 5 (by decide)), if_neg (ne 6 (by decide)), gd, e5, e6, e7, lastNow_eq h.2.1]
  · rw [if_neg c, if_neg c]
