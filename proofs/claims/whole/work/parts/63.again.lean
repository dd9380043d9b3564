theorem ag_go {ρ : Mm} {i : Nat} (hi : i < 2) : ∀ n k (s : Mm), k ≤ 14 → 14 < k + n → s.2 = ρ.2 → (∀ q, q ≠ 34 → s.1 q = ρ.1 q) → (∀ j, j < k → s.1 34 j = ρ.1 48 (14 * i + j)) → ∀ τ, fX10_again_26 (nI i) n s k = τ → τ.1 = ρ.1 48 (14 * i + 13) ∧ τ.2.2 = ρ.2 ∧ (∀ q, q ≠ 34 → q ≠ 33 → τ.2.1 q = ρ.1 q) ∧ (∀ j, j < 14 → τ.2.1 34 j = ρ.1 48 (14 * i + j)) ∧ (∀ j, j ≠ 3 → τ.2.1 33 j = ρ.1 33 j) ∧ τ.2.1 33 3 = 0 := by
  intro n
  induction n with
  | zero => intro k s hk hn; omega
  | succ n ih =>
    intro k s hk hn e2 e1 ej τ hτ
    replace hτ : (if nI k < 14 then fX10_again_26 (nI i) n (up s 34 k (s.1 48 ((14 * (nI i)) + (nI k)).toNatClampNeg)) (k + 1) else (((up s 33 3 0).1 34 13, up s 33 3 0) : Int32 × Mm)) = τ := hτ
    by_cases c : k < 14
    · have hx : ((14 * (nI i)) + (nI k)).toNatClampNeg = 14 * i + k := by
        rw [show (14 : Int32) * nI i = nI (14 * i) from ne_mul (a := 14) rfl rfl, nI_add, nI_clamp (by omega)]
      rw [if_pos (show nI k < 14 from nI_lt c (by decide)), hx, e1 48 (by decide)] at hτ
      refine ih (k + 1) (up s 34 k (ρ.1 48 (14 * i + k))) (by omega) (by omega) e2 (fun q hq => ?_) (fun j hj => ?_) τ hτ
      · rw [up_ne hq]
        exact e1 q hq
      · by_cases hjk : j = k
        · subst hjk
          rw [up_e]
        · rw [up_n hjk]
          exact ej j (by omega)
    · rw [if_neg (show ¬ nI k < 14 from nI_nlt (a := k) (b := 14) (by omega) (by omega))] at hτ
      subst hτ
      refine ⟨?_, e2, fun q q1 q2 => ?_, fun j hj => ?_, fun j hj => ?_, ?_⟩
      · show (up s 33 3 0).1 34 13 = _
        rw [up_ne (by decide)]
        exact ej 13 (by omega)
      · show (up s 33 3 0).1 q = _
        rw [up_ne q2]
        exact e1 q q1
      · show (up s 33 3 0).1 34 j = _
        rw [up_ne (by decide)]
        exact ej j (by omega)
      · show (up s 33 3 0).1 33 j = _
        rw [up_n hj, e1 33 (by decide)]
      · show (up s 33 3 0).1 33 3 = _
        rw [up_e]
theorem hold2 : ∀ m, m < 4 → ∀ i, i < 2 → (fX9_holds (nI m) (nI i) = true ↔ m / 2 ^ i % 2 = 1) ∧ (nI (m / 2 ^ i % 2) = 0 ↔ ¬ m / 2 ^ i % 2 = 1) := by decide +kernel
theorem s_again : sc_again Rv := by
  intro σ a h
  have same : ∀ z : Int32, fX9_againT σ a = (z, σ) → fX10_again σ a = (z, σ) → (fX9_againT σ a).1 = (fX10_again ((fX9_againT σ a).2) a).1 ∧ Rv ((fX10_again ((fX9_againT σ a).2) a).2) := by
    intro z e9 e10
    rw [e9]
    show z = (fX10_again σ a).1 ∧ Rv (fX10_again σ a).2
    rw [e10]
    exact ⟨rfl, h⟩
  by_cases c0 : 0 ≤ a
  · by_cases c1 : a < 2
    · obtain ⟨i, hi, rfl⟩ := nI_ex c0 (show a < nI 2 from c1) (by decide)
      have hin : fX10_in (nI i).toInt64 0 1 = true := in_pos (x := 0) (y := 1) rfl rfl c0 (show nI i ≤ nI 1 from nI_le (by omega) (by decide))
      obtain ⟨t1, t2, ⟨nx, ln, b1, b2, b3, b4, b5, b6, b7⟩, ⟨m, m4, em, hm⟩, t5, t6⟩ := id h
      obtain ⟨k1, k2⟩ := hold2 m m4 i hi
      by_cases cm : m / 2 ^ i % 2 = 1
      · have HK := (hm i hi).2 cm
        obtain ⟨a1, a2, a3, a4⟩ := cf_all (σ := σ) (h := 49) (h1 := 53 + 2 * i) (by omega) (by omega) (by omega)
        have e9 : fX9_againT σ (nI i) = (σ.1 (53 + 2 * i) 1, up (fX2_copyFrom σ 49 (53 + 2 * i)) 4 2 0) := by
          unfold fX9_againT fX9_again fX9_again_41 fX6_clear fX9_slotAt
          rw [if_pos c0, if_pos c1, em, if_pos (k1.mpr cm), nI_clamp (by omega), up_ne (by decide), a3 1 (by decide) (by decide)]
        generalize fX2_copyFrom σ 49 (53 + 2 * i) = ρ at a1 a2 a3 a4 e9
        generalize h2 : up ρ 4 2 0 = σ2 at e9
        have q : ∀ k, k ≠ 4 → k ≠ 49 → k ≠ 50 → σ2.1 k = σ.1 k := fun k k1 k2 k3 => by rw [← h2, up_ne k1]; exact a2 k k2 k3
        generalize hu : fX10_again σ2 (nI i) = u
        have e10 : fX10_again_26 (nI i) 15 σ2 0 = u := by
          rw [← hu]
          unfold fX10_again
          rw [if_pos hin, nI_clamp (by omega), q 47 (by decide) (by decide) (by decide), (hm i hi).1, if_neg (fun z => k2.mp z cm)]
        obtain ⟨u1, u2, u3, u4, u5, u6⟩ := ag_go (ρ := σ2) hi 15 0 _ (by decide) (by decide) rfl (fun _ _ => rfl) (fun j hj => absurd hj (Nat.not_lt_zero j)) u e10
        have fr : ∀ k, k ≠ 4 → k ≠ 49 → k ≠ 50 → k ≠ 33 → k ≠ 34 → u.2.1 k = σ.1 k := fun k k1 k2 k3 k4 k5 => by rw [u3 k k5 k4, q k k1 k2 k3]
        have f33 : ∀ j, j ≠ 3 → u.2.1 33 j = σ.1 33 j := fun j j3 => by rw [u5 j j3, q 33 (by decide) (by decide) (by decide)]
        rw [e9]
        show σ.1 (53 + 2 * i) 1 = (fX10_again σ2 (nI i)).1 ∧ Rv (fX10_again σ2 (nI i)).2
        rw [hu, u1, q 48 (by decide) (by decide) (by decide)]
        refine ⟨HK.all.1, t1.fr (fr 2 (by decide) (by decide) (by decide) (by decide) (by decide)) (fr 3 (by decide) (by decide) (by decide) (by decide) (by decide)) (fr 35 (by decide) (by decide) (by decide) (by decide) (by decide)) (f33 2 (by decide)), ?_, ⟨nx, 0, b1, by decide, ?_, ?_, ?_, ?_, fun k hk hl => absurd hl (Nat.not_lt_zero _)⟩, RK.fr ⟨m, m4, em, hm⟩ (by rw [fr 0 (by decide) (by decide) (by decide) (by decide) (by decide)]) (fr 47 (by decide) (by decide) (by decide) (by decide) (by decide)) (fr 48 (by decide) (by decide) (by decide) (by decide) (by decide)) (fun k q1 q2 => fr k (by omega) (by omega) (by omega) (by omega) (by omega)), t5.fr (by rw [fr 26 (by decide) (by decide) (by decide) (by decide) (by decide)]) (fr 27 (by decide) (by decide) (by decide) (by decide) (by decide)) (fr 28 (by decide) (by decide) (by decide) (by decide) (by decide)) (fr 29 (by decide) (by decide) (by decide) (by decide) (by decide)) (f33 6 (by decide)) (fr 37 (by decide) (by decide) (by decide) (by decide) (by decide)) (fr 38 (by decide) (by decide) (by decide) (by decide) (by decide)) (fr 39 (by decide) (by decide) (by decide) (by decide) (by decide)), ?_⟩
        · refine HK.congr (fun z z1 z2 => ?_) (fun z hz => ?_) (fun z hz => ?_)
          · rw [u3 49 (by decide) (by decide), ← h2, up_ne (by decide)]
            exact a3 z z1 z2
          · rw [u3 50 (by decide) (by decide), ← h2, up_ne (by decide), show 54 + 2 * i = 53 + 2 * i + 1 by omega]
            exact a4 z hz
          · rw [u4 z hz, q 48 (by decide) (by decide) (by decide)]
        · rw [u3 4 (by decide) (by decide), ← h2, up_n (by decide), a2 4 (by decide) (by decide)]
          exact b3
        · rw [f33 4 (by decide)]
          exact b4
        · rw [u3 4 (by decide) (by decide), ← h2, up_e]
          rfl
        · rw [u6]
          rfl
        · rw [u2, ← h2]
          show ρ.2 32 = ρ.2 33
          rw [a1]
          exact t6
      · exact same (-3) (by unfold fX9_againT fX9_again; rw [if_pos c0, if_pos c1, em, if_neg (fun z => cm (k1.mp z))]) (by unfold fX10_again; rw [if_pos hin, nI_clamp (by omega), (hm i hi).1, if_pos (k2.mpr cm)])
    · exact same (-1) (by unfold fX9_againT; rw [if_pos c0, if_neg c1]) (by unfold fX10_again; rw [if_neg (in_neg2 (y := 1) rfl (fun q => c1 (Int32.lt_of_le_of_lt q (by decide))))])
  · exact same (-1) (by unfold fX9_againT; rw [if_neg c0]) (by unfold fX10_again; rw [if_neg (in_neg1 (x := 0) rfl c0)])
