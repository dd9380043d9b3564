theorem HR.wd {f t g f' t' g' : Nat → Int32} (h : HR f t g) {w' : Nat} (w1 : 1 ≤ w') (w4 : w' ≤ 4) (hw : f' 2 = nI w') (hw2 : g' 11 = nI w') {y : Int32} (hc : f' 7 = f 7 &&& y) (hc2 : g' 10 = f' 7) (hf : ∀ j, 1 ≤ j → j ≤ 7 → j ≠ 2 → j ≠ 7 → f' j = f j) (ht : ∀ j, j < 8 → t' j = t j) (hg : ∀ j, j < 14 → j ≠ 10 → j ≠ 11 → g' j = g j) : HR f' t' g' := by
  obtain ⟨n, w, B, Hd, C, Gd, d, a1, a2, a3, a4, a5, a6, b1, b2, b3, b4, b5, b6, b7, b8, b9, c1, c2, c3, c4⟩ := h
  obtain ⟨C', hC, eC⟩ := and_cut C y
  rw [c1, eC] at hc
  refine ⟨n, w', B, Hd, C', Gd, d, a1, ⟨w1, w4⟩, a3, a4, by omega, a6, ?_, ?_, hw, hw2, ?_, ?_, ?_, ?_, ?_, hc, hc2.trans hc, ?_, fun i hi => ?_⟩
  · rw [hf 1 (by decide) (by decide) (by decide) (by decide)]; exact b1
  · rw [hg 13 (by decide) (by decide) (by decide)]; exact b2
  · rw [hf 3 (by decide) (by decide) (by decide) (by decide), hg 12 (by decide) (by decide) (by decide)]; exact b5
  · rw [hf 5 (by decide) (by decide) (by decide) (by decide)]; exact b6
  · rw [hg 8 (by decide) (by decide) (by decide)]; exact b7
  · rw [hf 6 (by decide) (by decide) (by decide) (by decide)]; exact b8
  · rw [hg 9 (by decide) (by decide) (by decide)]; exact b9
  · rw [hf 4 (by decide) (by decide) (by decide) (by decide)]; exact c3
  · rw [ht i (by omega), hg i (by omega) (by omega) (by omega)]
    exact c4 i hi
theorem s_word : sc_word Rv := by
  intro σ a h
  have same : ∀ z : Int32, fX9_word σ a = (z, σ) → fX10_word σ a = (z, σ) → vp_in (σ.1 4 1) 16 ∧ vp_in ((fX9_word σ a).2.1 34 13) 9 ∧ vp_in ((fX9_word σ a).2.1 33 4) 16 ∧ (fX9_word σ a).1 = (fX10_word (fX9_word σ a).2 a).1 ∧ Rv (fX10_word (fX9_word σ a).2 a).2 := by
    intro z e9 e10
    rw [e9]
    show vp_in (σ.1 4 1) 16 ∧ vp_in (σ.1 34 13) 9 ∧ vp_in (σ.1 33 4) 16 ∧ z = (fX10_word σ a).1 ∧ Rv (fX10_word σ a).2
    rw [e10]
    exact ⟨h.hx, h.hM, h.hX, rfl, h⟩
  by_cases c1 : 1 ≤ a
  · by_cases c4 : 4 < a
    · exact same (-2) (by unfold fX9_word; rw [if_pos c1, if_pos c4]) (by unfold fX10_word; rw [if_neg (in_neg2 (y := 4) rfl (Int32.not_le.mpr c4))])
    · have hin : fX10_in a.toInt64 1 4 = true := in_pos (x := 1) (y := 4) rfl rfl c1 (Int32.not_lt.mp c4)
      obtain ⟨q1, q2, q3, q5, q6, q7⟩ := h.2.1.all
      by_cases cw : a = σ.1 49 2
      · exact same (-3) (by unfold fX9_word; rw [if_pos c1, if_neg c4, if_pos cw]) (by unfold fX10_word; rw [if_pos hin, if_pos (cw.trans q2)])
      · obtain ⟨w, hw, rfl⟩ := nI_ex (show 0 ≤ a from Int32.le_trans (by decide) c1) (show a < nI 5 from Int32.lt_of_le_of_lt (Int32.not_lt.mp c4) (by decide)) (by decide)
        have hw1 : 1 ≤ w := by
          rcases Nat.eq_zero_or_pos w with rfl | hp
          · exact absurd c1 (by decide)
          · exact hp
        generalize e1 : fX6_remember σ 49 = σ1
        obtain ⟨p1, p2⟩ := h.rem e1
        generalize hρ : up σ1 49 2 (nI w) = ρ
        generalize hx : fX2_lastOnes ρ 49 = x
        have ρ7 : ρ.1 49 7 = σ.1 49 7 := by rw [← hρ, up_n (by decide), p2 49 (by decide) (by decide)]
        have e9 : fX9_word σ (nI w) = (σ.1 49 7 &&& (x ^^^ (-1)), up ρ 49 7 (σ.1 49 7 &&& ((σ.1 49 7 &&& (x ^^^ (-1))) ^^^ (-1)))) := by
          unfold fX9_word fX2_changeWord
          rw [if_pos c1, if_neg c4, if_neg cw, e1, hρ, hx, ρ7]
        generalize h2 : up ρ 49 7 (σ.1 49 7 &&& ((σ.1 49 7 &&& (x ^^^ (-1))) ^^^ (-1))) = σ2 at e9
        generalize e3 : fX10_keepAct σ2 = σ3
        have s2 : ∀ k, k < 57 → k ≠ 4 → k ≠ 49 → σ2.1 k = σ.1 k := fun k k1 k4 k9 => by rw [← h2, up_ne k9, ← hρ, up_ne k9, p2 k k1 k4]
        have t3 : ∀ k, k ≠ 36 → k ≠ 33 → σ3.1 k = σ2.1 k := fun k k1 k2 => by rw [← e3]; exact keepAct_k k1 k2
        have q34 : σ3.1 34 = σ.1 34 := by rw [t3 34 (by decide) (by decide), s2 34 (by decide) (by decide) (by decide)]
        generalize hs : up σ3 34 11 (nI w) = s
        have s10 : s.1 34 10 = σ.1 49 7 := by rw [← hs, up_n (by decide), q34, q7]
        have hy : fX10_last s = x := by
          obtain ⟨n, d, H⟩ := h.2.1.tg
          have s49 : s.1 49 1 = σ.1 49 1 := by rw [← hs, up_ne (by decide), t3 49 (by decide) (by decide), ← h2, up_n (by decide), ← hρ, up_n (by decide), p2 49 (by decide) (by decide)]
          have s50 : s.1 50 = σ.1 50 := by rw [← hs, up_ne (by decide), t3 50 (by decide) (by decide), s2 50 (by decide) (by decide) (by decide)]
          have g : ∀ j, j ≠ 11 → s.1 34 j = σ.1 34 j := fun j hj => by rw [← hs, up_n hj, q34]
          have HS : TG (s.1 49) (s.1 50) (s.1 34) n d := ⟨H.1, by rw [s49]; exact H.2.1, by rw [g 13 (by decide)]; exact H.2.2.1, fun i hi => by
            have hn := H.1
            rw [s50, g i (by omega)]
            exact H.2.2.2 i hi⟩
          have r49 : ∀ j, j ≠ 2 → ρ.1 49 j = σ.1 49 j := fun j hj => by rw [← hρ, up_n hj, p2 49 (by decide) (by decide)]
          have r50 : ρ.1 50 = σ.1 50 := by rw [← hρ, up_ne (by decide), p2 50 (by decide) (by decide)]
          have r2 : ρ.1 49 2 = nI w := by rw [← hρ, up_e]
          have s11 : s.1 34 11 = nI w := by rw [← hs, up_e]
          have sh : fX2_shown ρ 49 = fX10_shown s 0 := by
            have o := shown_eq h.2.1
            have o1 : fX2_shown ρ 49 = fX2_shown σ 49 := by
              unfold fX2_shown fX2_there fX2_all
              rw [r49 1 (by decide), r49 5 (by decide), r49 6 (by decide)]
            have o2 : fX10_shown s 0 = fX10_shown σ 0 := by
              unfold fX10_shown
              rw [g (14 * 0 + 13) (by decide), g (14 * 0 + 8) (by decide), g (14 * 0 + 9) (by decide)]
            rw [o1, o2, o]
          rw [← hx]
          unfold fX10_last fX2_lastOnes
          rw [← last_eq HS, s11, r2, sh]
          exact lastOnesBy_fr (by rw [s49, r49 1 (by decide)]) (by rw [s50, r50])
        have e10 : fX10_word σ2 (nI w) = (σ.1 49 7 &&& (x ^^^ (-1)), up s 34 10 (σ.1 49 7 &&& ((σ.1 49 7 &&& (x ^^^ (-1))) ^^^ (-1)))) := by
          unfold fX10_word fX10_word_41
          rw [if_pos hin, s2 34 (by decide) (by decide) (by decide), ← q2, if_neg cw, e3, hs, hy, s10]
        rw [e9]
        show vp_in (σ.1 4 1) 16 ∧ vp_in (σ2.1 34 13) 9 ∧ vp_in (σ2.1 33 4) 16 ∧ σ.1 49 7 &&& (x ^^^ (-1)) = (fX10_word σ2 (nI w)).1 ∧ Rv (fX10_word σ2 (nI w)).2
        rw [e10, s2 34 (by decide) (by decide) (by decide), s2 33 (by decide) (by decide) (by decide)]
        refine ⟨h.hx, h.hM, h.hX, rfl, h.act e1 (fun k k1 k2 => by rw [← h2, up_ne k1, ← hρ, up_ne k1]) (by rw [← h2, ← hρ]; rfl) e3 (fun k hk => by rw [up_ne hk, ← hs, up_ne hk]) (by rw [← hs]; rfl) (h.2.1.wd hw1 (by omega) ?_ ?_ (y := (σ.1 49 7 &&& (x ^^^ (-1))) ^^^ (-1)) ?_ ?_ (fun j j1 j2 j3 j4 => ?_) (fun j hj => ?_) (fun j hj j1 j2 => ?_))⟩
        · rw [up_ne (by decide), ← hs, up_ne (by decide), t3 49 (by decide) (by decide), ← h2, up_n (by decide), ← hρ, up_e]
        · rw [up_n (by decide), ← hs, up_e]
        · rw [up_ne (by decide), ← hs, up_ne (by decide), t3 49 (by decide) (by decide), ← h2, up_e]
        · rw [up_e, up_ne (by decide), ← hs, up_ne (by decide), t3 49 (by decide) (by decide), ← h2, up_e]
        · rw [up_ne (by decide), ← hs, up_ne (by decide), t3 49 (by decide) (by decide), ← h2, up_n j4, ← hρ, up_n j3, p2 49 (by decide) (by decide)]
        · rw [up_ne (by decide), ← hs, up_ne (by decide), t3 50 (by decide) (by decide), s2 50 (by decide) (by decide) (by decide)]
        · rw [up_n j1, ← hs, up_n j2, q34]
  · exact same (-2) (by unfold fX9_word; rw [if_neg c1]) (by unfold fX10_word; rw [if_neg (in_neg1 (x := 1) rfl c1)])
