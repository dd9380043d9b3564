theorem rm15 : ∀ k, k < 16 → rm (nI k + 16 - 1) 16 = nI ((k + 15) % 16) ∧ rm (nI k + 15) 16 = nI ((k + 15) % 16) := by decide +kernel
theorem undo_go {ρ : Mm} {p : Nat} (hp : p < 16) (g1 : ρ.1 33 4 = nI p) : ∀ n k (s : Mm), k ≤ 14 → 14 < k + n → s.2 = ρ.2 → (∀ q, q ≠ 34 → s.1 q = ρ.1 q) → (∀ j, j < k → s.1 34 j = ρ.1 36 (14 * p + j)) → ∀ τ, fX10_undo_36 n s k = τ → τ.1 = ρ.1 33 3 ∧ τ.2.2 = ρ.2 ∧ (∀ q, q ≠ 34 → τ.2.1 q = ρ.1 q) ∧ ∀ j, j < 14 → τ.2.1 34 j = ρ.1 36 (14 * p + j) := by
  intro n
  induction n with
  | zero => intro k s hk hn; omega
  | succ n ih =>
    intro k s hk hn e2 e1 ej τ hτ
    replace hτ : (if nI k < 14 then fX10_undo_36 n (up s 34 k (s.1 36 ((14 * (s.1 33 4)) + (nI k)).toNatClampNeg)) (k + 1) else ((s.1 33 3, s) : Int32 × Mm)) = τ := hτ
    have s4 : s.1 33 4 = nI p := by rw [e1 33 (by decide)]; exact g1
    by_cases c : k < 14
    · have hi : ((14 * (s.1 33 4)) + (nI k)).toNatClampNeg = 14 * p + k := by
        rw [s4, show (14 : Int32) * nI p = nI (14 * p) from ne_mul (a := 14) rfl rfl, nI_add, nI_clamp (by omega)]
      rw [if_pos (show nI k < 14 from nI_lt c (by decide)), hi, e1 36 (by decide)] at hτ
      refine ih (k + 1) (up s 34 k (ρ.1 36 (14 * p + k))) (by omega) (by omega) e2 (fun q hq => ?_) (fun j hj => ?_) τ hτ
      · rw [up_ne hq]
        exact e1 q hq
      · by_cases hjk : j = k
        · subst hjk
          rw [up_e]
        · rw [up_n hjk]
          exact ej j (by omega)
    · rw [if_neg (show ¬ nI k < 14 from nI_nlt (a := k) (b := 14) (by omega) (by omega))] at hτ
      subst hτ
      refine ⟨?_, e2, e1, fun j hj => ej j (by omega)⟩
      show s.1 33 3 = _
      rw [e1 33 (by decide)]
theorem s_undo : sc_undo Rv := by
  intro σ h
  obtain ⟨t1, t2, ⟨nx, ln, b1, b2, b3, b4, b5, b6, b7⟩, t4, t5, t6⟩ := id h
  by_cases c : ln = 0
  · subst c
    have e9 : fX9_undo σ = (-3, σ) := by
      have et : fX6_takeBack σ 49 = (false, σ) := by
        unfold fX6_takeBack
        rw [b5, if_neg (show ¬ 0 < nI 0 from by decide)]
      unfold fX9_undo
      rw [et, if_neg (show ¬ (false = true) from by decide)]
    have e10 : fX10_undo σ = (-3, σ) := by
      unfold fX10_undo
      rw [b6, if_pos (show nI 0 = 0 from rfl)]
    rw [e9]
    show vp_in (σ.1 4 1) 16 ∧ vp_in (σ.1 33 4) 16 ∧ (-3) = (fX10_undo σ).1 ∧ Rv (fX10_undo σ).2
    rw [e10]
    exact ⟨h.hx, h.hX, rfl, h⟩
  · generalize hp : (nx + 15) % 16 = p
    have hp16 : p < 16 := by omega
    obtain ⟨a1, a2, a3, a4⟩ := cf_all (σ := σ) (h := 49) (h1 := 57 + 2 * p) (by omega) (by omega) (by omega)
    have e9 : fX9_undo σ = (nI (ln - 1), up (up (fX2_copyFrom σ 49 (57 + 2 * p)) 4 1 (nI p)) 4 2 (nI (ln - 1))) := by
      have et : fX6_takeBack σ 49 = (true, up (up (fX2_copyFrom σ 49 (57 + 2 * p)) 4 1 (nI p)) 4 2 (nI (ln - 1))) := by
        unfold fX6_takeBack fX6_takeBack_42 fX6_placeAt
        rw [b5, if_pos (show 0 < nI ln from nI_lt (a := 0) (by omega) (by omega)), b3, (rm15 nx b1).1, hp, nI_clamp (by omega), up_n (by decide), a2 4 (by decide) (by decide), b5, show (1 : Int32) = nI 1 from rfl, pk_sub (by omega)]
      unfold fX9_undo
      rw [et, if_pos rfl]
      show ((up _ 4 2 (nI (ln - 1))).1 4 2, _) = _
      rw [up_e]
    generalize fX2_copyFrom σ 49 (57 + 2 * p) = ρ at a1 a2 a3 a4 e9
    generalize h2 : up (up ρ 4 1 (nI p)) 4 2 (nI (ln - 1)) = σ2 at e9
    have q : ∀ k, k ≠ 4 → k ≠ 49 → k ≠ 50 → σ2.1 k = σ.1 k := fun k k1 k2 k3 => by rw [← h2, up_ne k1, up_ne k1]; exact a2 k k2 k3
    have q33 := q 33 (by decide) (by decide) (by decide)
    generalize hu : fX10_undo σ2 = u
    have e10 : fX10_undo_36 15 (up (up σ2 33 3 (nI (ln - 1))) 33 4 (nI p)) 0 = u := by
      rw [← hu]
      unfold fX10_undo
      rw [q33, b6, if_neg (show ¬ nI ln = 0 from nI_ne0 (by omega) (by omega)), show (1 : Int32) = nI 1 from rfl, pk_sub (by omega), up_n (by decide), q33, b4, (rm15 nx b1).2, hp]
    obtain ⟨u1, u2, u3, u4⟩ := undo_go (ρ := up (up σ2 33 3 (nI (ln - 1))) 33 4 (nI p)) hp16 up_e 15 0 _ (by decide) (by decide) rfl (fun _ _ => rfl) (fun j hj => absurd hj (Nat.not_lt_zero j)) u e10
    have fr : ∀ k, k ≠ 4 → k ≠ 49 → k ≠ 50 → k ≠ 33 → k ≠ 34 → u.2.1 k = σ.1 k := fun k k1 k2 k3 k4 k5 => by rw [u3 k k5, up_ne k4, up_ne k4, q k k1 k2 k3]
    have f33 : ∀ j, j ≠ 3 → j ≠ 4 → u.2.1 33 j = σ.1 33 j := fun j j3 j4 => by rw [u3 33 (by decide), up_n j4, up_n j3, q33]
    rw [e9]
    show vp_in (σ.1 4 1) 16 ∧ vp_in (σ2.1 33 4) 16 ∧ nI (ln - 1) = (fX10_undo σ2).1 ∧ Rv (fX10_undo σ2).2
    rw [hu, q33, u1, up_n (by decide), up_e]
    refine ⟨h.hx, h.hX, rfl, t1.fr (fr 2 (by decide) (by decide) (by decide) (by decide) (by decide)) (fr 3 (by decide) (by decide) (by decide) (by decide) (by decide)) (fr 35 (by decide) (by decide) (by decide) (by decide) (by decide)) (f33 2 (by decide) (by decide)), ?_, ⟨p, ln - 1, hp16, by omega, ?_, ?_, ?_, ?_, fun k hk hl => ?_⟩, t4.fr (by rw [fr 0 (by decide) (by decide) (by decide) (by decide) (by decide)]) (fr 47 (by decide) (by decide) (by decide) (by decide) (by decide)) (fr 48 (by decide) (by decide) (by decide) (by decide) (by decide)) (fun k q1 q2 => fr k (by omega) (by omega) (by omega) (by omega) (by omega)), t5.fr (by rw [fr 26 (by decide) (by decide) (by decide) (by decide) (by decide)]) (fr 27 (by decide) (by decide) (by decide) (by decide) (by decide)) (fr 28 (by decide) (by decide) (by decide) (by decide) (by decide)) (fr 29 (by decide) (by decide) (by decide) (by decide) (by decide)) (f33 6 (by decide) (by decide)) (fr 37 (by decide) (by decide) (by decide) (by decide) (by decide)) (fr 38 (by decide) (by decide) (by decide) (by decide) (by decide)) (fr 39 (by decide) (by decide) (by decide) (by decide) (by decide)), ?_⟩
    · refine (b7 p hp16 (by omega)).congr (fun j j1 j2 => ?_) (fun j hj => ?_) (fun j hj => ?_)
      · rw [u3 49 (by decide), up_ne (by decide), up_ne (by decide), ← h2, up_ne (by decide), up_ne (by decide)]
        exact a3 j j1 j2
      · rw [u3 50 (by decide), up_ne (by decide), up_ne (by decide), ← h2, up_ne (by decide), up_ne (by decide)]
        have a4j := a4 j hj
        rw [show 57 + 2 * p + 1 = 58 + 2 * p by omega] at a4j
        exact a4j
      · rw [u4 j hj, up_ne (by decide), up_ne (by decide), q 36 (by decide) (by decide) (by decide)]
    · rw [u3 4 (by decide), up_ne (by decide), up_ne (by decide), ← h2, up_n (by decide), up_e]
    · rw [u3 33 (by decide), up_e]
    · rw [u3 4 (by decide), up_ne (by decide), up_ne (by decide), ← h2, up_e]
    · rw [u3 33 (by decide), up_n (by decide), up_e]
    · refine (b7 k hk (by omega)).congr (fun j j1 j2 => ?_) (fun j hj => ?_) (fun j hj => ?_)
      · rw [fr _ (by omega) (by omega) (by omega) (by omega) (by omega)]
      · rw [fr _ (by omega) (by omega) (by omega) (by omega) (by omega)]
      · show u.2.1 36 (14 * k + j) = σ.1 36 (14 * k + j)
        rw [fr 36 (by decide) (by decide) (by decide) (by decide) (by decide)]
    · rw [u2]
      show σ2.2 32 = σ2.2 33
      rw [← h2]
      show ρ.2 32 = ρ.2 33
      rw [a1]
      exact t6
