theorem kp_go {ρ : Mm} {i : Nat} (hi : i < 2) : ∀ n k (s : Mm), k ≤ 14 → 14 < k + n → s.2 = ρ.2 → (∀ q, q ≠ 48 → s.1 q = ρ.1 q) → (∀ j, j < k → s.1 48 (14 * i + j) = ρ.1 34 j) → (∀ z, z < 14 * i ∨ 14 * i + 14 ≤ z → s.1 48 z = ρ.1 48 z) → ∀ τ, fX10_keep_21 (nI i) n s k = τ → τ.1 = ρ.1 34 13 ∧ τ.2.2 = ρ.2 ∧ (∀ q, q ≠ 48 → τ.2.1 q = ρ.1 q) ∧ (∀ j, j < 14 → τ.2.1 48 (14 * i + j) = ρ.1 34 j) ∧ ∀ z, z < 14 * i ∨ 14 * i + 14 ≤ z → τ.2.1 48 z = ρ.1 48 z := by
  intro n
  induction n with
  | zero => intro k s hk hn; omega
  | succ n ih =>
    intro k s hk hn e2 e1 ej ez τ hτ
    replace hτ : (if nI k < 14 then fX10_keep_21 (nI i) n (up s 48 ((14 * (nI i)) + (nI k)).toNatClampNeg (s.1 34 k)) (k + 1) else ((s.1 34 13, s) : Int32 × Mm)) = τ := hτ
    by_cases c : k < 14
    · have hx : ((14 * (nI i)) + (nI k)).toNatClampNeg = 14 * i + k := by
        rw [show (14 : Int32) * nI i = nI (14 * i) from ne_mul (a := 14) rfl rfl, nI_add, nI_clamp (by omega)]
      rw [if_pos (show nI k < 14 from nI_lt c (by decide)), hx, e1 34 (by decide)] at hτ
      refine ih (k + 1) (up s 48 (14 * i + k) (ρ.1 34 k)) (by omega) (by omega) e2 (fun q hq => ?_) (fun j hj => ?_) (fun z hz => ?_) τ hτ
      · rw [up_ne hq]
        exact e1 q hq
      · by_cases hjk : j = k
        · subst hjk
          rw [up_e]
        · rw [up_n (by omega)]
          exact ej j (by omega)
      · rw [up_n (by omega)]
        exact ez z hz
    · rw [if_neg (show ¬ nI k < 14 from nI_nlt (a := k) (b := 14) (by omega) (by omega))] at hτ
      subst hτ
      refine ⟨?_, e2, e1, fun j hj => ej j (by omega), ez⟩
      show s.1 34 13 = _
      rw [e1 34 (by decide)]
theorem orb : ∀ m, m < 4 → ∀ i, i < 2 → (m ||| 2 ^ i) < 4 ∧ (m ||| 2 ^ i) / 2 ^ i % 2 = 1 ∧ ∀ j, j < 2 → j ≠ i → (m ||| 2 ^ i) / 2 ^ j % 2 = m / 2 ^ j % 2 := by decide +kernel
theorem s_keep : sc_keep Rv := by
  intro σ a h
  have same : ∀ z : Int32, fX9_keepT σ a = (z, σ) → fX10_keep σ a = (z, σ) → (fX9_keepT σ a).1 = (fX10_keep ((fX9_keepT σ a).2) a).1 ∧ Rv ((fX10_keep ((fX9_keepT σ a).2) a).2) := by
    intro z e9 e10
    rw [e9]
    show z = (fX10_keep σ a).1 ∧ Rv (fX10_keep σ a).2
    rw [e10]
    exact ⟨rfl, h⟩
  by_cases c0 : 0 ≤ a
  · by_cases c1 : a < 2
    · obtain ⟨i, hi, rfl⟩ := nI_ex c0 (show a < nI 2 from c1) (by decide)
      have hin : fX10_in (nI i).toInt64 0 1 = true := in_pos (x := 0) (y := 1) rfl rfl c0 (show nI i ≤ nI 1 from nI_le (by omega) (by decide))
      obtain ⟨t1, t2, t3, ⟨m, m4, em, hm⟩, t5, t6⟩ := id h
      obtain ⟨a1, a2, a3, a4⟩ := cf_all (σ := σ) (h := 53 + 2 * i) (h1 := 49) (by omega) (by omega) (by omega)
      have e9 : fX9_keepT σ (nI i) = (σ.1 49 1, up (fX2_copyFrom σ (53 + 2 * i) 49) 0 5 (nI (m ||| 2 ^ i))) := by
        unfold fX9_keepT fX9_keep fX9_keep_32 fX9_slotAt
        rw [if_pos c0, if_pos c1, nI_clamp (by omega), a2 0 (by omega) (by omega), em, bit_k i (by omega), nI_or, up_ne (by decide), a2 49 (by omega) (by omega)]
      generalize fX2_copyFrom σ (53 + 2 * i) 49 = ρ at a1 a2 a3 a4 e9
      generalize h2 : up ρ 0 5 (nI (m ||| 2 ^ i)) = σ2 at e9
      generalize hu : fX10_keep σ2 (nI i) = u
      have e10 : fX10_keep_21 (nI i) 15 (up σ2 47 i 1) 0 = u := by
        rw [← hu]
        unfold fX10_keep
        rw [if_pos hin, nI_clamp (by omega)]
      obtain ⟨u1, u2, u3, u4, u5⟩ := kp_go (ρ := up σ2 47 i 1) hi 15 0 _ (by decide) (by decide) rfl (fun _ _ => rfl) (fun j hj => absurd hj (Nat.not_lt_zero j)) (fun _ _ => rfl) u e10
      have fr : ∀ k, k ≠ 0 → k ≠ 47 → k ≠ 48 → k ≠ 53 + 2 * i → k ≠ 53 + 2 * i + 1 → u.2.1 k = σ.1 k := fun k k0 k1 k2 k3 k4 => by rw [u3 k k2, up_ne k1, ← h2, up_ne k0, a2 k k3 k4]
      have q34 : (up σ2 47 i 1).1 34 = σ.1 34 := by rw [up_ne (by decide), ← h2, up_ne (by decide), a2 34 (by omega) (by omega)]
      have q48 : (up σ2 47 i 1).1 48 = σ.1 48 := by rw [up_ne (by decide), ← h2, up_ne (by decide), a2 48 (by omega) (by omega)]
      obtain ⟨o1, o2, o3⟩ := orb m m4 i hi
      rw [e9]
      show σ.1 49 1 = (fX10_keep σ2 (nI i)).1 ∧ Rv (fX10_keep σ2 (nI i)).2
      rw [hu, u1, q34]
      refine ⟨t2.all.1, t1.fr (fr 2 (by decide) (by decide) (by decide) (by omega) (by omega)) (fr 3 (by decide) (by decide) (by decide) (by omega) (by omega)) (fr 35 (by decide) (by decide) (by decide) (by omega) (by omega)) (by rw [fr 33 (by decide) (by decide) (by decide) (by omega) (by omega)]), ?_, t3.fr (fr 4 (by decide) (by decide) (by decide) (by omega) (by omega)) (fr 36 (by decide) (by decide) (by decide) (by omega) (by omega)) (by rw [fr 33 (by decide) (by decide) (by decide) (by omega) (by omega)]) (by rw [fr 33 (by decide) (by decide) (by decide) (by omega) (by omega)]) (fun k hk => fr k (by omega) (by omega) (by omega) (by omega) (by omega)), ⟨m ||| 2 ^ i, o1, ?_, fun j hj => ⟨?_, fun hb => ?_⟩⟩, t5.fr (by rw [fr 26 (by decide) (by decide) (by decide) (by omega) (by omega)]) (fr 27 (by decide) (by decide) (by decide) (by omega) (by omega)) (fr 28 (by decide) (by decide) (by decide) (by omega) (by omega)) (fr 29 (by decide) (by decide) (by decide) (by omega) (by omega)) (by rw [fr 33 (by decide) (by decide) (by decide) (by omega) (by omega)]) (fr 37 (by decide) (by decide) (by decide) (by omega) (by omega)) (fr 38 (by decide) (by decide) (by decide) (by omega) (by omega)) (fr 39 (by decide) (by decide) (by decide) (by omega) (by omega)), ?_⟩
      · rw [fr 49 (by decide) (by decide) (by decide) (by omega) (by omega), fr 50 (by decide) (by decide) (by decide) (by omega) (by omega), fr 34 (by decide) (by decide) (by decide) (by omega) (by omega)]
        exact t2
      · rw [u3 0 (by decide), up_ne (by decide), ← h2, up_e]
      · rw [u3 47 (by decide)]
        by_cases hji : j = i
        · subst hji
          rw [up_e, o2]
          rfl
        · rw [up_n hji, o3 j hj hji, ← h2, up_ne (by decide), a2 47 (by omega) (by omega)]
          exact (hm j hj).1
      · by_cases hji : j = i
        · subst hji
          refine t2.congr (fun z z1 z2 => ?_) (fun z hz => ?_) (fun z hz => ?_)
          · rw [u3 _ (by omega), up_ne (by omega), ← h2, up_ne (by omega)]
            exact a3 z z1 z2
          · rw [u3 _ (by omega), up_ne (by omega), ← h2, up_ne (by omega), show 54 + 2 * j = 53 + 2 * j + 1 by omega]
            exact a4 z hz
          · show u.2.1 48 (14 * j + z) = _
            rw [u4 z hz, q34]
        · rw [o3 j hj hji] at hb
          refine ((hm j hj).2 hb).congr (fun z z1 z2 => ?_) (fun z hz => ?_) (fun z hz => ?_)
          · rw [fr _ (by omega) (by omega) (by omega) (by omega) (by omega)]
          · rw [fr _ (by omega) (by omega) (by omega) (by omega) (by omega)]
          · show u.2.1 48 (14 * j + z) = σ.1 48 (14 * j + z)
            rw [u5 _ (by omega), q48]
      · rw [u2]
        show σ2.2 32 = σ2.2 33
        rw [← h2]
        show ρ.2 32 = ρ.2 33
        rw [a1]
        exact t6
    · exact same (-1) (by unfold fX9_keepT; rw [if_pos c0, if_neg c1]) (by unfold fX10_keep; rw [if_neg (in_neg2 (y := 1) rfl (fun q => c1 (Int32.lt_of_le_of_lt q (by decide))))])
  · exact same (-1) (by unfold fX9_keepT; rw [if_neg c0]) (by unfold fX10_keep; rw [if_neg (in_neg1 (x := 0) rfl c0)])
