theorem HR.congr {f t g f' t' g' : Nat → Int32} (h : HR f t g) (hf : ∀ j, 1 ≤ j → j ≤ 7 → f' j = f j) (ht : ∀ j, j < 8 → t' j = t j) (hg : ∀ j, j < 14 → g' j = g j) : HR f' t' g' := by
  obtain ⟨n, w, B, Hd, C, Gd, d, a1, a2, a3, a4, a5, a6, b1, b2, b3, b4, b5, b6, b7, b8, b9, c1, c2, c3, c4⟩ := h
  refine ⟨n, w, B, Hd, C, Gd, d, a1, a2, a3, a4, a5, a6, ?_, ?_, ?_, ?_, ?_, ?_, ?_, ?_, ?_, ?_, ?_, ?_, fun i hi => ?_⟩
  · rw [hf 1 (by decide) (by decide)]; exact b1
  · rw [hg 13 (by decide)]; exact b2
  · rw [hf 2 (by decide) (by decide)]; exact b3
  · rw [hg 11 (by decide)]; exact b4
  · rw [hf 3 (by decide) (by decide), hg 12 (by decide)]; exact b5
  · rw [hf 5 (by decide) (by decide)]; exact b6
  · rw [hg 8 (by decide)]; exact b7
  · rw [hf 6 (by decide) (by decide)]; exact b8
  · rw [hg 9 (by decide)]; exact b9
  · rw [hf 7 (by decide) (by decide)]; exact c1
  · rw [hg 10 (by decide)]; exact c2
  · rw [hf 4 (by decide) (by decide)]; exact c3
  · rw [ht i (by omega), hg i (by omega)]
    exact c4 i hi
theorem at_tag {σ : Mm} {q k : Nat} (hk : k < 8) : fX9_at σ q 8 (nI k) = σ.1 q k := by
  unfold fX9_at
  rw [if_pos (nI_pos' (by omega)), if_pos (nI_lt hk (by decide)), nI_clamp (by omega)]
theorem cf36 {h h1 : Nat} {s : Mm} (hne : h1 ≠ h) : fX2_copyFrom_36 h h1 s = up (up (up (up (up (up (up s h 1 (s.1 h1 1)) h 2 (s.1 h1 2)) h 3 (s.1 h1 3)) h 4 (s.1 h1 4)) h 5 (s.1 h1 5)) h 6 (s.1 h1 6)) h 7 (s.1 h1 7) := by
  unfold fX2_copyFrom_36 fX2_copyFrom_52 fX2_copyFrom_68 fX2_copyFrom_84
  simp only [up_ne hne]
/-- a copy of a house -/
theorem cf_go {σ : Mm} {h h1 : Nat} (n1 : h1 ≠ h) (n2 : h1 ≠ h + 1) (n3 : h1 + 1 ≠ h) : ∀ n k (s : Mm), k ≤ 8 → 8 < k + n → s.2 = σ.2 → (∀ q, q ≠ h + 1 → s.1 q = σ.1 q) → (∀ j, j < k → s.1 (h + 1) j = σ.1 (h1 + 1) j) → ∀ τ, fX2_copyFrom_7 h h1 n s k = τ → τ.2 = σ.2 ∧ (∀ q, q ≠ h → q ≠ h + 1 → τ.1 q = σ.1 q) ∧ (∀ j, 1 ≤ j → j ≤ 7 → τ.1 h j = σ.1 h1 j) ∧ ∀ j, j < 8 → τ.1 (h + 1) j = σ.1 (h1 + 1) j := by
  intro n
  induction n with
  | zero => intro k s hk hn; omega
  | succ n ih =>
    intro k s hk hn e2 e1 ej τ hτ
    have hτ : (if nI k < nI 8 then fX2_copyFrom_7 h h1 n (up s (h + 1) k (fX9_at s (h1 + 1) 8 (nI k))) (k + 1) else fX2_copyFrom_36 h h1 s) = τ := hτ
    by_cases c : k < 8
    · rw [if_pos (nI_lt c (by decide)), at_tag c, e1 (h1 + 1) (by omega)] at hτ
      refine ih (k + 1) (up s (h + 1) k (σ.1 (h1 + 1) k)) (by omega) (by omega) e2 (fun q hq => ?_) (fun j hj => ?_) τ hτ
      · rw [up_ne hq]
        exact e1 q hq
      · by_cases hjk : j = k
        · subst hjk
          rw [up_e]
        · rw [up_n hjk]
          exact ej j (by omega)
    · rw [if_neg (nI_nlt (by omega) (by omega)), cf36 n1, e1 h1 n2] at hτ
      subst hτ
      refine ⟨e2, fun q q1 q2 => ?_, fun j j1 j2 => ?_, fun j hj => ?_⟩
      · rw [up_ne q1, up_ne q1, up_ne q1, up_ne q1, up_ne q1, up_ne q1, up_ne q1]
        exact e1 q q2
      · rcases (show j = 1 ∨ j = 2 ∨ j = 3 ∨ j = 4 ∨ j = 5 ∨ j = 6 ∨ j = 7 by omega) with rfl | rfl | rfl | rfl | rfl | rfl | rfl
        all_goals repeat (first | rw [up_e] | rw [up_n (by decide)])
      · have hne : h + 1 ≠ h := by omega
        rw [up_ne hne, up_ne hne, up_ne hne, up_ne hne, up_ne hne, up_ne hne, up_ne hne]
        exact ej j (by omega)
theorem cf_all {σ : Mm} {h h1 : Nat} (n1 : h1 ≠ h) (n2 : h1 ≠ h + 1) (n3 : h1 + 1 ≠ h) : (fX2_copyFrom σ h h1).2 = σ.2 ∧ (∀ q, q ≠ h → q ≠ h + 1 → (fX2_copyFrom σ h h1).1 q = σ.1 q) ∧ (∀ j, 1 ≤ j → j ≤ 7 → (fX2_copyFrom σ h h1).1 h j = σ.1 h1 j) ∧ ∀ j, j < 8 → (fX2_copyFrom σ h h1).1 (h + 1) j = σ.1 (h1 + 1) j :=
  cf_go n1 n2 n3 9 0 σ (by decide) (by decide) rfl (fun _ _ => rfl) (fun j hj => absurd hj (Nat.not_lt_zero j)) _ rfl
theorem rm16 : ∀ k, k < 16 → rm (nI (k + 1)) 16 = nI ((k + 1) % 16) := by decide +kernel
/-- the class remembers the house now -/
theorem rem_all {σ : Mm} {nx ln : Nat} (h1 : nx < 16) (h2 : ln ≤ 16) (e1 : σ.1 4 1 = nI nx) (e2 : σ.1 4 2 = nI ln) : ∀ τ, fX6_remember σ 49 = τ → τ.2 = σ.2 ∧ (∀ q, q ≠ 57 + 2 * nx → q ≠ 58 + 2 * nx → q ≠ 4 → τ.1 q = σ.1 q) ∧ (∀ j, 1 ≤ j → j ≤ 7 → τ.1 (57 + 2 * nx) j = σ.1 49 j) ∧ (∀ j, j < 8 → τ.1 (58 + 2 * nx) j = σ.1 50 j) ∧ τ.1 4 1 = nI ((nx + 1) % 16) ∧ τ.1 4 2 = nI (min (ln + 1) 16) := by
  intro τ hτ
  unfold fX6_remember fX6_remember_32 fX6_placeAt at hτ
  rw [e1, nI_clamp (by omega)] at hτ
  obtain ⟨a1, a2, a3, a4⟩ := cf_all (σ := σ) (h := 57 + 2 * nx) (h1 := 49) (by omega) (by omega) (by omega)
  generalize fX2_copyFrom σ (57 + 2 * nx) 49 = ρ at hτ a1 a2 a3 a4
  rw [a2 4 (by omega) (by omega), e1, nI_1, rm16 nx h1, up_n (by decide), a2 4 (by omega) (by omega), e2, nI_1] at hτ
  have hm : (if 16 < nI (ln + 1) then (16 : Int32) else nI (ln + 1)) = nI (min (ln + 1) 16) := by
    by_cases c : ln + 1 ≤ 16
    · rw [if_neg (show ¬ 16 < nI (ln + 1) from nI_nlt (a := 16) (b := ln + 1) c (by decide)), Nat.min_eq_left c]
    · rw [if_pos (show 16 < nI (ln + 1) from nI_lt (a := 16) (by omega) (by omega)), Nat.min_eq_right (by omega)]
      rfl
  rw [hm] at hτ
  subst hτ
  refine ⟨a1, fun q q1 q2 q3 => ?_, fun j j1 j2 => ?_, fun j hj => ?_, ?_, ?_⟩
  · rw [up_ne q3, up_ne q3]
    exact a2 q q1 (by omega)
  · rw [up_ne (by omega), up_ne (by omega)]
    exact a3 j j1 j2
  · rw [up_ne (by omega), up_ne (by omega)]
    have a4j := a4 j hj
    rw [show 57 + 2 * nx + 1 = 58 + 2 * nx by omega] at a4j
    exact a4j
  · rw [up_n (by decide), up_e]
  · rw [up_e]
theorem keep_go {σ : Mm} {nx ln : Nat} (h1 : nx < 16) (h2 : ln ≤ 16) (g1 : σ.1 33 4 = nI nx) (g2 : σ.1 33 3 = nI ln) : ∀ n k (s : Mm), k ≤ 14 → 14 < k + n → s.2 = σ.2 → (∀ q, q ≠ 36 → s.1 q = σ.1 q) → (∀ j, j < k → s.1 36 (14 * nx + j) = σ.1 34 j) → (∀ i, i < 14 * nx ∨ 14 * nx + 14 ≤ i → s.1 36 i = σ.1 36 i) → ∀ τ, fX10_keepAct_2 n s k = τ → τ.2 = σ.2 ∧ (∀ q, q ≠ 36 → q ≠ 33 → τ.1 q = σ.1 q) ∧ (∀ j, j ≠ 3 → j ≠ 4 → τ.1 33 j = σ.1 33 j) ∧ (∀ j, j < 14 → τ.1 36 (14 * nx + j) = σ.1 34 j) ∧ (∀ i, i < 14 * nx ∨ 14 * nx + 14 ≤ i → τ.1 36 i = σ.1 36 i) ∧ τ.1 33 4 = nI ((nx + 1) % 16) ∧ τ.1 33 3 = nI (min (ln + 1) 16) := by
  intro n
  induction n with
  | zero => intro k s hk hn; omega
  | succ n ih =>
    intro k s hk hn e2 e1 ej ei τ hτ
    replace hτ : (if nI k < 14 then fX10_keepAct_2 n (up s 36 ((14 * (s.1 33 4)) + (nI k)).toNatClampNeg (s.1 34 k)) (k + 1) else fX10_keepAct_34 s) = τ := hτ
    have s4 : s.1 33 4 = nI nx := by rw [e1 33 (by decide)]; exact g1
    have s3 : s.1 33 3 = nI ln := by rw [e1 33 (by decide)]; exact g2
    by_cases c : k < 14
    · have hi : ((14 * (s.1 33 4)) + (nI k)).toNatClampNeg = 14 * nx + k := by
        rw [s4, show (14 : Int32) * nI nx = nI (14 * nx) from ne_mul (a := 14) rfl rfl, nI_add, nI_clamp (by omega)]
      rw [if_pos (show nI k < 14 from nI_lt c (by decide)), hi, e1 34 (by decide)] at hτ
      refine ih (k + 1) (up s 36 (14 * nx + k) (σ.1 34 k)) (by omega) (by omega) e2 (fun q hq => ?_) (fun j hj => ?_) (fun i hi => ?_) τ hτ
      · rw [up_ne hq]
        exact e1 q hq
      · by_cases hjk : j = k
        · subst hjk
          rw [up_e]
        · rw [up_n (by omega)]
          exact ej j (by omega)
      · rw [up_n (by omega)]
        exact ei i hi
    · rw [if_neg (show ¬ nI k < 14 from nI_nlt (a := k) (b := 14) (by omega) (by omega))] at hτ
      have hk14 : k = 14 := by omega
      subst hk14
      unfold fX10_keepAct_34 at hτ
      rw [s4, nI_1, rm16 nx h1, up_n (by decide), s3, nI_1] at hτ
      have hm : ∀ ρ : Mm, (if nI ln < 16 then up ρ 33 3 (nI (ln + 1)) else up ρ 33 3 16) = up ρ 33 3 (nI (min (ln + 1) 16)) := by
        intro ρ
        by_cases c : ln < 16
        · rw [if_pos (show nI ln < 16 from nI_lt c (by decide)), Nat.min_eq_left (by omega)]
        · rw [if_neg (show ¬ nI ln < 16 from nI_nlt (a := ln) (b := 16) (by omega) (by omega)), Nat.min_eq_right (by omega)]
          rfl
      rw [hm] at hτ
      subst hτ
      refine ⟨e2, fun q q1 q2 => ?_, fun j j1 j2 => ?_, fun j hj => ?_, fun i hi => ?_, ?_, ?_⟩
      · rw [up_ne q2, up_ne q2]
        exact e1 q q1
      · rw [up_n j1, up_n j2, e1 33 (by decide)]
      · rw [up_ne (by decide), up_ne (by decide)]
        exact ej j hj
      · rw [up_ne (by decide), up_ne (by decide)]
        exact ei i hi
      · rw [up_n (by decide), up_e]
      · rw [up_e]
/-- an act that is remembered: first the class remembers and changes its house, then the reference keeps and changes its own -/
theorem Rv.act {σ σ1 σ2 σ3 σ4 : Mm} (h : Rv σ) (e1 : fX6_remember σ 49 = σ1) (e2 : ∀ k, k ≠ 49 → k ≠ 50 → σ2.1 k = σ1.1 k) (e2' : σ2.2 = σ1.2) (e3 : fX10_keepAct σ2 = σ3) (e4 : ∀ k, k ≠ 34 → σ4.1 k = σ3.1 k) (e4' : σ4.2 = σ3.2) (hn : HR (σ4.1 49) (σ4.1 50) (σ4.1 34)) : Rv σ4 := by
  obtain ⟨t1, t2, ⟨nx, ln, b1, b2, b3, b4, b5, b6, b7⟩, t4, t5, t6⟩ := h
  obtain ⟨p1, p2, p3, p4, p5, p6⟩ := rem_all b1 b2 b3 b5 σ1 e1
  have g4 : σ2.1 33 4 = nI nx := by rw [e2 33 (by decide) (by decide), p2 33 (by omega) (by omega) (by decide)]; exact b4
  have g3 : σ2.1 33 3 = nI ln := by rw [e2 33 (by decide) (by decide), p2 33 (by omega) (by omega) (by decide)]; exact b6
  obtain ⟨k1, k2, k3, k4, k5, k6, k7⟩ := keep_go b1 b2 g4 g3 15 0 σ2 (by decide) (by decide) rfl (fun _ _ => rfl) (fun j hj => absurd hj (Nat.not_lt_zero j)) (fun _ _ => rfl) σ3 e3
  have fr : ∀ k, k < 49 → k ≠ 34 → k ≠ 36 → k ≠ 33 → k ≠ 4 → σ4.1 k = σ.1 k := fun k q0 q1 q2 q3 q4 => by rw [e4 k q1, k2 k q2 q3, e2 k (by omega) (by omega), p2 k (by omega) (by omega) q4]
  have fh : ∀ k, 51 ≤ k → k ≠ 57 + 2 * nx → k ≠ 58 + 2 * nx → σ4.1 k = σ.1 k := fun k q0 q1 q2 => by rw [e4 k (by omega), k2 k (by omega) (by omega), e2 k (by omega) (by omega), p2 k q1 q2 (by omega)]
  have f33 : ∀ j, j ≠ 3 → j ≠ 4 → σ4.1 33 j = σ.1 33 j := fun j q1 q2 => by rw [e4 33 (by decide), k3 j q1 q2, e2 33 (by decide) (by decide), p2 33 (by omega) (by omega) (by decide)]
  have e36 : σ2.1 36 = σ.1 36 := by rw [e2 36 (by decide) (by decide), p2 36 (by omega) (by omega) (by decide)]
  have e34 : σ2.1 34 = σ.1 34 := by rw [e2 34 (by decide) (by decide), p2 34 (by omega) (by omega) (by decide)]
  refine ⟨t1.fr (fr 2 (by decide) (by decide) (by decide) (by decide) (by decide)) (fr 3 (by decide) (by decide) (by decide) (by decide) (by decide)) (fr 35 (by decide) (by decide) (by decide) (by decide) (by decide)) (f33 2 (by decide) (by decide)), hn, ⟨(nx + 1) % 16, min (ln + 1) 16, by omega, by omega, ?_, ?_, ?_, ?_, fun k hk hl => ?_⟩, t4.fr (by rw [fr 0 (by decide) (by decide) (by decide) (by decide) (by decide)]) (fr 47 (by decide) (by decide) (by decide) (by decide) (by decide)) (fr 48 (by decide) (by decide) (by decide) (by decide) (by decide)) (fun k q1 q2 => fh k (by omega) (by omega) (by omega)), t5.fr (by rw [fr 26 (by decide) (by decide) (by decide) (by decide) (by decide)]) (fr 27 (by decide) (by decide) (by decide) (by decide) (by decide)) (fr 28 (by decide) (by decide) (by decide) (by decide) (by decide)) (fr 29 (by decide) (by decide) (by decide) (by decide) (by decide)) (f33 6 (by decide) (by decide)) (fr 37 (by decide) (by decide) (by decide) (by decide) (by decide)) (fr 38 (by decide) (by decide) (by decide) (by decide) (by decide)) (fr 39 (by decide) (by decide) (by decide) (by decide) (by decide)), by rw [e4', k1, e2', p1]; exact t6⟩
  · rw [e4 4 (by decide), k2 4 (by decide) (by decide), e2 4 (by decide) (by decide)]; exact p5
  · rw [e4 33 (by decide)]; exact k6
  · rw [e4 4 (by decide), k2 4 (by decide) (by decide), e2 4 (by decide) (by decide)]; exact p6
  · rw [e4 33 (by decide)]; exact k7
  · by_cases hkn : k = nx
    · subst hkn
      refine t2.congr (fun j j1 j2 => ?_) (fun j hj => ?_) (fun j hj => ?_)
      · rw [e4 _ (by omega), k2 _ (by omega) (by omega), e2 _ (by omega) (by omega)]
        exact p3 j j1 j2
      · rw [e4 _ (by omega), k2 _ (by omega) (by omega), e2 _ (by omega) (by omega)]
        exact p4 j hj
      · show σ4.1 36 (14 * k + j) = _
        rw [e4 36 (by decide), k4 j hj, e34]
    · refine (b7 k hk (by omega)).congr (fun j j1 j2 => ?_) (fun j hj => ?_) (fun j hj => ?_)
      · rw [fh _ (by omega) (by omega) (by omega)]
      · rw [fh _ (by omega) (by omega) (by omega)]
      · show σ4.1 36 (14 * k + j) = σ.1 36 (14 * k + j)
        rw [e4 36 (by decide), k5 _ (by omega), e36]
