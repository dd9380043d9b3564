theorem hz_go {ρ : Mm} : ∀ m k (s : Mm), 14 < k + m → k ≤ 14 → (∀ q, q ≠ 34 → s.1 q = ρ.1 q) → s.2 = ρ.2 → (∀ i, i < k → s.1 34 i = 0) → ∃ s' : Mm, fX10_house_14 m s k = fX10_house_33 s' ∧ (∀ q, q ≠ 34 → s'.1 q = ρ.1 q) ∧ s'.2 = ρ.2 ∧ ∀ i, i < 14 → s'.1 34 i = 0 := by
  intro m
  induction m with
  | zero => intro k s h1 h2; omega
  | succ m ih =>
    intro k s h1 h2 e1 e2 e3
    rw [fX10_house_14]
    by_cases c : k < 14
    · rw [if_pos (show nI k < 14 from nI_lt c (by decide))]
      refine ih (k + 1) (up s 34 k 0) (by omega) (by omega) (fun q hq => by rw [up_ne hq]; exact e1 q hq) e2 (fun i hi => ?_)
      by_cases e : i = k
      · subst e
        rw [up_e]
      · rw [up_n e]
        exact e3 i (by omega)
    · rw [if_neg (show ¬ nI k < 14 from nI_nlt (a := k) (b := 14) (by omega) (by omega))]
      exact ⟨s, rfl, e1, e2, fun i hi => e3 i (by omega)⟩
theorem hm_go {σ s : Mm} {L T w k : Nat} {kb : Mm → Nat → Int32 × Mm} (X : TX σ L T w) (e : s.1 35 = σ.1 35) (hk : k < T) : fX10_house_86 kb 5 s k (nI (3 + 9 * k)) 0 0 = fX10_house_112 kb s k (nI (3 + 9 * k)) (nI (td (σ.1 35) k 0 * 1000 + td (σ.1 35) k 1 * 100 + td (σ.1 35) k 2 * 10 + td (σ.1 35) k 3)) := by
  have hT := X.2.1
  have st : ∀ m x i, i < 4 → fX10_house_86 kb (m + 1) s k (nI (3 + 9 * k)) (nI x) i = fX10_house_86 kb m s k (nI (3 + 9 * k)) (nI (10 * x + td (σ.1 35) k i)) (i + 1) := by
    intro m x i hi
    rw [fX10_house_86, if_pos (show nI i < 4 from nI_lt (a := i) (b := 4) hi (by decide)), nI_add, fig10 X e hk (by omega), show (10 : Int32) = nI 10 from rfl, pk_mul, nI_add]
  show fX10_house_86 kb 5 s k (nI (3 + 9 * k)) (nI 0) 0 = _
  rw [st 4 0 0 (by decide), st 3 _ 1 (by decide), st 2 _ 2 (by decide), st 1 _ 3 (by decide), fX10_house_86, if_neg (show ¬ nI 4 < 4 by decide)]
  congr 2
  omega
theorem hc_eq {σ s : Mm} {L T w k : Nat} (X : TX σ L T w) (e : s.1 35 = σ.1 35) (hk : k < T) : fX10_code (nI (td (σ.1 35) k 0 * 1000 + td (σ.1 35) k 1 * 100 + td (σ.1 35) k 2 * 10 + td (σ.1 35) k 3)) (fX10_figure s (nI (3 + 9 * k) + 4)) (fX10_figure s (nI (3 + 9 * k) + 5)) (fX10_figure s (nI (3 + 9 * k) + 6)) (fX10_figure s (nI (3 + 9 * k) + 7)) = nI (pkC (td (σ.1 35) k)) := by
  unfold fX10_code
  rw [show nI (3 + 9 * k) + 4 = nI (3 + 9 * k + 4) from nI_add _ 4, show nI (3 + 9 * k) + 5 = nI (3 + 9 * k + 5) from nI_add _ 5, show nI (3 + 9 * k) + 6 = nI (3 + 9 * k + 6) from nI_add _ 6, show nI (3 + 9 * k) + 7 = nI (3 + 9 * k + 7) from nI_add _ 7, fig10 X e hk (by decide), fig10 X e hk (by decide), fig10 X e hk (by decide), fig10 X e hk (by decide)]
  rw [show (3 : Int32) = nI 3 from rfl, show (10 : Int32) = nI 10 from rfl, show (2 : Int32) = nI 2 from rfl, pk_mul, nI_add, pk_mul, nI_add, pk_mul, nI_add, pk_mul, nI_add]
  rfl
theorem ho_go {σ ρ : Mm} {L T w : Nat} (X : TX σ L T w) (r35 : ρ.1 35 = σ.1 35) (r13 : ρ.1 34 13 = nI T) : ∀ j m k (s : Mm), k + j = T → j < m → (∀ q, q ≠ 34 → s.1 q = ρ.1 q) → s.2 = ρ.2 → (∀ i, 7 ≤ i → s.1 34 i = ρ.1 34 i) → (∀ t, t < k → s.1 34 t = nI (pkC (td (σ.1 35) t))) → ∃ s' : Mm, fX10_house_63 m s k = fX10_house_158 s' ∧ (∀ q, q ≠ 34 → s'.1 q = ρ.1 q) ∧ s'.2 = ρ.2 ∧ (∀ i, 7 ≤ i → s'.1 34 i = ρ.1 34 i) ∧ ∀ t, t < T → s'.1 34 t = nI (pkC (td (σ.1 35) t)) := by
  have hT := X.2.1
  intro j
  induction j with
  | zero =>
    intro m k s h1 h2 e1 e2 e3 e4
    obtain ⟨m, rfl⟩ : ∃ m', m = m' + 1 := ⟨m - 1, by omega⟩
    rw [fX10_house_63, e3 13 (by decide), r13, if_neg (nI_nlt (by omega) (by omega))]
    exact ⟨s, rfl, e1, e2, e3, fun t ht => e4 t (by omega)⟩
  | succ j ih =>
    intro m k s h1 h2 e1 e2 e3 e4
    obtain ⟨m, rfl⟩ : ∃ m', m = m' + 1 := ⟨m - 1, by omega⟩
    have hk : k < T := by omega
    have e35 : s.1 35 = σ.1 35 := (e1 35 (by decide)).trans r35
    rw [fX10_house_63, e3 13 (by decide), r13, if_pos (nI_lt hk (by omega)), show (3 : Int32) + 9 * nI k = nI (3 + 9 * k) by rw [show (9 : Int32) = nI 9 from rfl, show (3 : Int32) = nI 3 from rfl, pk_mul, nI_add], hm_go X e35 hk]
    unfold fX10_house_112
    rw [hc_eq X e35 hk]
    refine ih m (k + 1) (up s 34 k (nI (pkC (td (σ.1 35) k)))) (by omega) (by omega) (fun q hq => by rw [up_ne hq]; exact e1 q hq) e2 (fun i hi => by rw [up_n (by omega)]; exact e3 i hi) (fun t ht => ?_)
    by_cases e : t = k
    · subst e
      rw [up_e]
    · rw [up_n e]
      exact e4 t (by omega)
theorem gds_tb {g : Nat → Int32} {T t : Nat} (ht : t < T) (h7 : td g t 7 ≤ 1) : gds g T / 2 ^ t % 2 = td g t 7 := by
  have e := bs_tb (fun t => td g t 7 == 1) T t
  have e2 : (gds g T).testBit t = (decide (t < T) && (td g t 7 == 1)) := e
  rw [Nat.testBit_eq_decide_div_mod_eq, decide_eq_true ht, Bool.true_and] at e2
  have hm := Nat.mod_lt (gds g T / 2 ^ t) (show 0 < 2 by decide)
  rcases (show td g t 7 = 0 ∨ td g t 7 = 1 by omega) with z | z
  · rw [z] at e2
    have := of_decide_eq_false e2
    omega
  · rw [z] at e2
    have := of_decide_eq_true e2
    omega
theorem s_house : sc_house Rv := by
  intro σ h
  obtain ⟨L, hL, h2, h33, h3⟩ := h.1
  have hf := fault_eq h.1
  by_cases c : fX10_fault σ = -9
  · have c9 : fX8_firstFault σ = -9 := hf.trans c
    have ok := fault_ok hL h33 (L + 1) 0 (by omega) (Nat.zero_le _) (by
      unfold fX10_fault mX10_fault_2 at c
      rw [h33, nI_clamp (by omega)] at c
      exact c)
    have X := tx_of hL (fun j hj => ok.1 j (Nat.zero_le _) hj) ok.2.1 ok.2.2
    generalize hw : dg (σ.1 35) 1 = w at X
    generalize hτ : fX2_readFrom σ 49 = τ
    obtain ⟨t1, t2, t3, t4, t5, t6, t7, t8, t9, t10⟩ := rd_all hL h2 h3 ok.2.1 X τ hτ
    generalize hT : (L - 2) / 9 = T at X t3 t9 t10
    have hT6 := X.2.1
    have e9 : fX9_house σ = (nI T, up (up τ 4 2 0) 0 5 0) := by
      unfold fX9_house fX9_house_33 fX6_clear
      rw [if_pos c9, hτ, up_ne (by decide), up_ne (by decide), t3]
    generalize h2' : up (up τ 4 2 0) 0 5 0 = σ2 at e9
    have k2 : ∀ q, q ≠ 0 → q ≠ 4 → q ≠ 49 → q ≠ 50 → σ2.1 q = σ.1 q := fun q q0 q4 q1 q2 => by rw [← h2', up_ne q0, up_ne q4, t1 q q1 q2]
    have k49 : σ2.1 49 = τ.1 49 := by rw [← h2', up_ne (by decide), up_ne (by decide)]
    have k50 : σ2.1 50 = τ.1 50 := by rw [← h2', up_ne (by decide), up_ne (by decide)]
    have e33 := k2 33 (by decide) (by decide) (by decide) (by decide)
    have e35 := k2 35 (by decide) (by decide) (by decide) (by decide)
    have RT2 : RT σ2 := h.1.fr (k2 2 (by decide) (by decide) (by decide) (by decide)) (k2 3 (by decide) (by decide) (by decide) (by decide)) e35 (by rw [e33])
    have cf : fX10_fault σ2 = -9 := by
      rw [← fault_eq RT2]
      have o : fX8_firstFault σ2 = fX10_fault σ2 := fault_eq RT2
      rw [o]
      have fe : ∀ m k, fX10_fault_2 σ2 m k = fX10_fault_2 σ m k := by
        intro m
        induction m with
        | zero => intro k; rfl
        | succ m ih =>
          intro k
          rw [fX10_fault_2, fX10_fault_2, ih]
          unfold fX10_fault_26 fX10_fits
          rw [e33, e35]
      have fm : mX10_fault_2 σ2 = mX10_fault_2 σ := by
        unfold mX10_fault_2
        rw [e33]
      unfold fX10_fault
      rw [fm, fe]
      exact c
    obtain ⟨s1, z0, z1, z2, z3⟩ := hz_go (ρ := σ2) 15 0 σ2 (by decide) (by decide) (fun _ _ => rfl) rfl (fun i hi => absurd hi (Nat.not_lt_zero i))
    have s35 : s1.1 35 = σ.1 35 := (z1 35 (by decide)).trans e35
    have efw : fX10_figure s1 1 = nI w := by
      unfold fX10_figure
      rw [show (1 : Int32) = nI 1 from rfl, nI_clamp (by decide), s35, X.2.2.1, show (48 : Int32) = nI 48 from rfl, pk_sub (by omega)]
      congr 1
      omega
    generalize hs2 : up (up s1 34 11 (nI w)) 34 13 (nI T) = s2
    have e33' : fX10_house_33 s1 = fX10_house_63 (T + 1) s2 0 := by
      unfold fX10_house_33 mX10_house_63
      have e2 : (up s1 34 11 (nI w)).1 33 2 = nI L := by rw [up_ne (by decide), z1 33 (by decide), e33, h33]
      rw [efw, e2, show (2 : Int32) = nI 2 from rfl, show (9 : Int32) = nI 9 from rfl, show (nI L - nI 2) / nI 9 = nI ((L - 2) / 9) from (thg L (by omega) ok.2.1).2, hT, hs2]
      rw [show s2.1 34 13 = nI T by rw [← hs2, up_e], nI_clamp (by omega)]
    obtain ⟨s3, y0, y1, y2, y3, y4⟩ := ho_go (ρ := s2) X (by rw [← hs2, up_ne (by decide), up_ne (by decide)]; exact s35) (by rw [← hs2, up_e]) T (T + 1) 0 s2 (by omega) (by omega) (fun _ _ => rfl) rfl (fun _ _ => rfl) (fun t ht => absurd ht (Nat.not_lt_zero t))
    generalize h4' : up (up (up s3 33 3 0) 47 0 0) 47 1 0 = σ4
    have e10 : fX10_house σ2 = (nI T, σ4) := by
      unfold fX10_house
      rw [if_pos cf, z0, e33', y0]
      unfold fX10_house_158 fX10_house_170
      rw [h4', ← h4', up_ne (by decide), up_ne (by decide), up_ne (by decide), y3 13 (by decide), ← hs2, up_e]
    rw [e9]
    show vp_in (σ2.1 33 2) 57 ∧ nI T = (fX10_house σ2).1 ∧ Rv (fX10_house σ2).2
    rw [e10, e33]
    have q4 : ∀ q, q ≠ 33 → q ≠ 47 → q ≠ 34 → σ4.1 q = σ2.1 q := fun q a b c => by rw [← h4', up_ne b, up_ne b, up_ne a, y1 q c, ← hs2, up_ne c, up_ne c, z1 q c]
    have q33 : ∀ j, j ≠ 3 → σ4.1 33 j = σ.1 33 j := fun j hj => by rw [← h4', up_ne (by decide), up_ne (by decide), up_n hj, y1 33 (by decide), ← hs2, up_ne (by decide), up_ne (by decide), z1 33 (by decide), e33]
    have g34 : ∀ i, 7 ≤ i → i ≠ 11 → i ≠ 13 → i < 14 → σ4.1 34 i = 0 := fun i a b c d => by rw [← h4', up_ne (by decide), up_ne (by decide), up_ne (by decide), y3 i a, ← hs2, up_n c, up_n b, z3 i d]
    have g11 : σ4.1 34 11 = nI w := by rw [← h4', up_ne (by decide), up_ne (by decide), up_ne (by decide), y3 11 (by decide), ← hs2, up_n (by decide), up_e]
    have g13 : σ4.1 34 13 = nI T := by rw [← h4', up_ne (by decide), up_ne (by decide), up_ne (by decide), y3 13 (by decide), ← hs2, up_e]
    have g0 : ∀ t, t < T → σ4.1 34 t = nI (pkC (td (σ.1 35) t)) := fun t ht => by rw [← h4', up_ne (by decide), up_ne (by decide), up_ne (by decide), y4 t ht]
    have c49 : σ4.1 49 = τ.1 49 := (q4 49 (by decide) (by decide) (by decide)).trans k49
    have c50 : σ4.1 50 = τ.1 50 := (q4 50 (by decide) (by decide) (by decide)).trans k50
    have pw := Nat.two_pow_pos T
    refine ⟨h.hL, rfl, RT2.fr (q4 2 (by decide) (by decide) (by decide)) (q4 3 (by decide) (by decide) (by decide)) (q4 35 (by decide) (by decide) (by decide)) (by rw [q33 2 (by decide), e33]), ?_, ?_, ?_, ?_, ?_⟩
    · rw [c49, c50]
      refine ⟨T, w, 0, 0, 0, gds (σ.1 35) T, td (σ.1 35), by omega, ⟨X.2.2.2.1, X.2.2.2.2.1⟩, pw, pw, pw, bs_lt _ T, t3, g13, t4, g11, ?_, t6, g34 8 (by decide) (by decide) (by decide) (by decide), t7, g34 9 (by decide) (by decide) (by decide) (by decide), t8, g34 10 (by decide) (by decide) (by decide) (by decide), t9, fun t ht => ?_⟩
      · rw [t5, g34 12 (by decide) (by decide) (by decide) (by decide)]
      · obtain ⟨f1, f2, f3, f4⟩ := X.2.2.2.2.2 t ht
        exact ⟨f2, f3, f4, gds_tb ht f4, t10 t ht, g0 t ht⟩
    · obtain ⟨nx, ln, b1, b2, b3, b4, b5, b6, b7⟩ := h.2.2.1
      refine ⟨nx, 0, b1, by decide, ?_, ?_, ?_, ?_, fun k hk hl => absurd hl (Nat.not_lt_zero _)⟩
      · rw [q4 4 (by decide) (by decide) (by decide), ← h2', up_ne (by decide), up_n (by decide), t1 4 (by decide) (by decide)]
        exact b3
      · rw [q33 4 (by decide)]
        exact b4
      · rw [q4 4 (by decide) (by decide) (by decide), ← h2', up_ne (by decide), up_e]
        rfl
      · rw [← h4', up_ne (by decide), up_ne (by decide), up_e]
        rfl
    · refine ⟨0, by decide, ?_, fun i hi => ⟨?_, fun hb => ?_⟩⟩
      · rw [q4 0 (by decide) (by decide) (by decide), ← h2', up_e]
        rfl
      · rcases (show i = 0 ∨ i = 1 by omega) with rfl | rfl
        · rw [← h4', up_n (by decide), up_e]
          rfl
        · rw [← h4', up_e]
          rfl
      · rcases (show i = 0 ∨ i = 1 by omega) with rfl | rfl <;> exact absurd hb (by decide)
    · refine h.2.2.2.2.1.fr ?_ ?_ ?_ ?_ (q33 6 (by decide)) ?_ ?_ ?_
      · rw [q4 26 (by decide) (by decide) (by decide), k2 26 (by decide) (by decide) (by decide) (by decide)]
      · rw [q4 27 (by decide) (by decide) (by decide), k2 27 (by decide) (by decide) (by decide) (by decide)]
      · rw [q4 28 (by decide) (by decide) (by decide), k2 28 (by decide) (by decide) (by decide) (by decide)]
      · rw [q4 29 (by decide) (by decide) (by decide), k2 29 (by decide) (by decide) (by decide) (by decide)]
      · rw [q4 37 (by decide) (by decide) (by decide), k2 37 (by decide) (by decide) (by decide) (by decide)]
      · rw [q4 38 (by decide) (by decide) (by decide), k2 38 (by decide) (by decide) (by decide) (by decide)]
      · rw [q4 39 (by decide) (by decide) (by decide), k2 39 (by decide) (by decide) (by decide) (by decide)]
    · have e : σ4.2 = σ.2 := by
        rw [← h4']
        show s3.2 = σ.2
        rw [y2, ← hs2]
        show s1.2 = σ.2
        rw [z2, ← h2']
        exact t2
      rw [e]
      exact h.2.2.2.2.2
  · have c9 : ¬ fX8_firstFault σ = -9 := fun q => c (hf.symm.trans q)
    have e9 : fX9_house σ = (-3, σ) := by
      unfold fX9_house
      rw [if_neg c9]
    have e10 : fX10_house σ = (-3, σ) := by
      unfold fX10_house
      rw [if_neg c]
    rw [e9]
    show vp_in (σ.1 33 2) 57 ∧ -3 = (fX10_house σ).1 ∧ Rv (fX10_house σ).2
    rw [e10]
    exact ⟨h.hL, rfl, h⟩
