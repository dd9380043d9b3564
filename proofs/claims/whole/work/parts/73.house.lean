/-! a house is read -/
theorem rm9' : ∀ k, k < 57 → 2 ≤ k → rm (nI k - 2) 9 = nI ((k - 2) % 9) := by decide +kernel
theorem fault_ok {σ : Mm} {L : Nat} (hL : L ≤ 56) (e : σ.1 33 2 = nI L) : ∀ m k, L < k + m → k ≤ L → fX10_fault_2 σ m k = -9 → (∀ j, k ≤ j → j < L → fX10_fits σ (nI j) = true) ∧ 2 ≤ L ∧ (L - 2) % 9 = 0 := by
  intro m
  induction m with
  | zero => intro k h1 h2; omega
  | succ m ih =>
    intro k h1 h2 hf
    rw [fX10_fault_2, e] at hf
    by_cases c : k < L
    · rw [if_pos (nI_lt c (by omega))] at hf
      by_cases q : fX10_fits σ (nI k) = true
      · rw [if_pos q] at hf
        obtain ⟨g1, g2, g3⟩ := ih (k + 1) (by omega) (by omega) hf
        refine ⟨fun j j1 j2 => ?_, g2, g3⟩
        by_cases e : j = k
        · subst e
          exact q
        · exact g1 j (by omega) j2
      · rw [if_neg q] at hf
        exact absurd hf (ne9 (by omega))
    · rw [if_neg (nI_nlt (by omega) (by omega))] at hf
      unfold fX10_fault_26 at hf
      rw [e] at hf
      by_cases c2 : 2 ≤ L
      · rw [if_pos (show 1 < nI L from nI_lt (a := 1) (by omega) (by omega)), rm9' L (by omega) c2] at hf
        by_cases c3 : (L - 2) % 9 = 0
        · exact ⟨fun j j1 j2 => absurd j2 (by omega), c2, c3⟩
        · rw [if_neg (nI_ne0 (by omega) (by omega))] at hf
          exact absurd hf (ne9 (by omega))
      · rw [if_neg (show ¬ 1 < nI L from nI_nlt (a := 1) (b := L) (by omega) (by decide))] at hf
        exact absurd hf (ne9 (by omega))
/-- a letter's figure -/
def dg (g : Nat → Int32) (p : Nat) : Nat := (g p).toNatClampNeg - 48
theorem dig_of {g : Nat → Int32} {p : Nat} {lo hi : Int64} {a b : Nat} (hlo : lo.toInt = (48 + a : Nat)) (hhi : hi.toInt = (48 + b : Nat)) (hb : b < 100) (h : fX10_in (g p).toInt64 lo hi = true) : g p = nI (48 + dg g p) ∧ a ≤ dg g p ∧ dg g p ≤ b := by
  obtain ⟨h1, h2⟩ := in_ti.mp h
  rw [hlo] at h1
  rw [hhi] at h2
  unfold dg
  have e : (g p).toNatClampNeg = (g p).toInt.toNat := rfl
  rw [e]
  refine ⟨Int32.toInt_inj.mp ?_, by omega, by omega⟩
  rw [nI_toInt (by omega)]
  omega
theorem fit_0 {σ : Mm} {p q : Nat} (hq : (p - 2) % 9 = q + 1) (hq4 : q < 4) (h2 : 2 ≤ p) (hp : p < 56) (h : fX10_fits σ (nI p) = true) : σ.1 35 p = nI (48 + dg (σ.1 35) p) ∧ 0 ≤ dg (σ.1 35) p ∧ dg (σ.1 35) p ≤ 9 := by
  unfold fX10_fits at h
  rw [nI_clamp (by omega), if_neg (show ¬ nI p < 2 from nI_nlt (a := p) (b := 2) (by omega) (by omega)), if_neg (show ¬ 55 < nI p from nI_nlt (a := 55) (b := p) (by omega) (by decide)), rm9 p hp h2, hq] at h
  rcases (show q = 0 ∨ q = 1 ∨ q = 2 ∨ q = 3 by omega) with rfl | rfl | rfl | rfl
  all_goals
    (repeat rw [if_neg (by decide)] at h)
    rw [if_pos (by decide)] at h
    exact dig_of (a := 0) (b := 9) rfl rfl (by decide) h
theorem fit_4 {σ : Mm} {p : Nat} (hq : (p - 2) % 9 = 5) (h2 : 2 ≤ p) (hp : p < 56) (h : fX10_fits σ (nI p) = true) : σ.1 35 p = nI (48 + dg (σ.1 35) p) ∧ 0 ≤ dg (σ.1 35) p ∧ dg (σ.1 35) p ≤ 2 := by
  unfold fX10_fits at h
  rw [nI_clamp (by omega), if_neg (show ¬ nI p < 2 from nI_nlt (a := p) (b := 2) (by omega) (by omega)), if_neg (show ¬ 55 < nI p from nI_nlt (a := 55) (b := p) (by omega) (by decide)), rm9 p hp h2, hq] at h
  (repeat rw [if_neg (by decide)] at h)
  rw [if_pos (by decide)] at h
  exact dig_of (a := 0) (b := 2) rfl rfl (by decide) h
theorem fit_5 {σ : Mm} {p q : Nat} (hq : (p - 2) % 9 = q + 6) (hq4 : q < 2) (h2 : 2 ≤ p) (hp : p < 56) (h : fX10_fits σ (nI p) = true) : σ.1 35 p = nI (48 + dg (σ.1 35) p) ∧ 1 ≤ dg (σ.1 35) p ∧ dg (σ.1 35) p ≤ 9 := by
  unfold fX10_fits at h
  rw [nI_clamp (by omega), if_neg (show ¬ nI p < 2 from nI_nlt (a := p) (b := 2) (by omega) (by omega)), if_neg (show ¬ 55 < nI p from nI_nlt (a := 55) (b := p) (by omega) (by decide)), rm9 p hp h2, hq] at h
  rcases (show q = 0 ∨ q = 1 by omega) with rfl | rfl
  all_goals
    (repeat rw [if_neg (by decide)] at h)
    rw [if_pos (by decide)] at h
    exact dig_of (a := 1) (b := 9) rfl rfl (by decide) h
theorem fit_7 {σ : Mm} {p : Nat} (hq : (p - 2) % 9 = 8) (h2 : 2 ≤ p) (hp : p < 56) (h : fX10_fits σ (nI p) = true) : σ.1 35 p = nI (48 + dg (σ.1 35) p) ∧ 0 ≤ dg (σ.1 35) p ∧ dg (σ.1 35) p ≤ 1 := by
  unfold fX10_fits at h
  rw [nI_clamp (by omega), if_neg (show ¬ nI p < 2 from nI_nlt (a := p) (b := 2) (by omega) (by omega)), if_neg (show ¬ 55 < nI p from nI_nlt (a := 55) (b := p) (by omega) (by decide)), rm9 p hp h2, hq] at h
  (repeat rw [if_neg (by decide)] at h)
  rw [if_pos (by decide)] at h
  exact dig_of (a := 0) (b := 1) rfl rfl (by decide) h
theorem fit_w {σ : Mm} (h : fX10_fits σ (nI 1) = true) : σ.1 35 1 = nI (48 + dg (σ.1 35) 1) ∧ 1 ≤ dg (σ.1 35) 1 ∧ dg (σ.1 35) 1 ≤ 4 := by
  unfold fX10_fits at h
  rw [nI_clamp (by decide), if_pos (show nI 1 < 2 from by decide), if_neg (show ¬ nI 1 = 0 from by decide)] at h
  exact dig_of (a := 1) (b := 4) rfl rfl (by decide) h
/-- the figures of a thing that is told -/
def td (g : Nat → Int32) (t q : Nat) : Nat := dg g (3 + 9 * t + q)
/-- the text tells a house of T things by the word w -/
def TX (σ : Mm) (L T w : Nat) : Prop := L = 2 + 9 * T ∧ T ≤ 6 ∧ σ.1 35 1 = nI (48 + w) ∧ 1 ≤ w ∧ w ≤ 4 ∧ ∀ t, t < T → (∀ q, q < 8 → σ.1 35 (3 + 9 * t + q) = nI (48 + td (σ.1 35) t q)) ∧ (∀ q, q < 7 → td (σ.1 35) t q ≤ 9) ∧ td (σ.1 35) t 4 ≤ 2 ∧ td (σ.1 35) t 7 ≤ 1
theorem tx_of {σ : Mm} {L : Nat} (hL : L ≤ 56) (h1 : ∀ j, j < L → fX10_fits σ (nI j) = true) (h2 : 2 ≤ L) (h3 : (L - 2) % 9 = 0) : TX σ L ((L - 2) / 9) (dg (σ.1 35) 1) := by
  obtain ⟨w1, w2, w3⟩ := fit_w (h1 1 (by omega))
  refine ⟨by omega, by omega, w1, w2, w3, fun t ht => ?_⟩
  have f0 := fun q (hq : q < 4) => fit_0 (p := 3 + 9 * t + q) (q := q) (by omega) hq (by omega) (by omega) (h1 _ (by omega))
  have f4 := fit_4 (p := 3 + 9 * t + 4) (by omega) (by omega) (by omega) (h1 _ (by omega))
  have f5 := fun q (hq : q < 2) => fit_5 (p := 3 + 9 * t + (5 + q)) (q := q) (by omega) hq (by omega) (by omega) (h1 _ (by omega))
  have f7 := fit_7 (p := 3 + 9 * t + 7) (by omega) (by omega) (by omega) (h1 _ (by omega))
  refine ⟨fun q hq => ?_, fun q hq => ?_, f4.2.2, f7.2.2⟩
  · rcases (show q < 4 ∨ q = 4 ∨ q = 5 ∨ q = 6 ∨ q = 7 by omega) with c | rfl | rfl | rfl | rfl
    · exact (f0 q c).1
    · exact f4.1
    · exact (f5 0 (by decide)).1
    · exact (f5 1 (by decide)).1
    · exact f7.1
  · rcases (show q < 4 ∨ q = 4 ∨ q = 5 ∨ q = 6 by omega) with c | rfl | rfl | rfl
    · exact (f0 q c).2.2
    · exact Nat.le_trans f4.2.2 (by decide)
    · exact (f5 0 (by decide)).2.2
    · exact (f5 1 (by decide)).2.2
theorem fig10 {σ s : Mm} {L T w t q : Nat} (X : TX σ L T w) (e : s.1 35 = σ.1 35) (ht : t < T) (hq : q < 8) : fX10_figure s (nI (3 + 9 * t + q)) = nI (td (σ.1 35) t q) := by
  have hT := X.2.1
  unfold fX10_figure
  rw [nI_clamp (by omega), e, (X.2.2.2.2.2 t ht).1 q hq, show (48 : Int32) = nI 48 from rfl, pk_sub (by omega)]
  congr 1
  omega
theorem figT {σ s : Mm} {L T w t q : Nat} (X : TX σ L T w) (e : ∀ j, j < L → s.1 3 j = σ.1 35 j) (ht : t < T) (hq : q < 8) : fX8_figureTold s (nI t) (nI q) = nI (td (σ.1 35) t q) := by
  have hT := X.2.1
  have hL := X.1
  unfold fX8_figureTold
  have ei : (((2 : Int32) + (nI t) * 9) + 1) + nI q = nI (3 + 9 * t + q) := by
    rw [show (9 : Int32) = nI 9 from rfl, show (2 : Int32) = nI 2 from rfl, show (1 : Int32) = nI 1 from rfl, pk_mul, nI_add, nI_add, nI_add]
    congr 1
    omega
  rw [ei, at_text (by omega), e _ (by omega), (X.2.2.2.2.2 t ht).1 q hq, show (48 : Int32) = nI 48 from rfl, pk_sub (by omega)]
  congr 1
  omega
theorem nib7 : ∀ a, a < 10 → ∀ k, k < 7 → nI a <<< ((4 * nI k) &&& 31) = nI (a * 2 ^ (4 * k)) := by decide +kernel
theorem gbit : ∀ a, a < 2 → ∀ k, k < 8 → nI a <<< (nI k &&& 31) = nI (a * 2 ^ k) := by decide +kernel
def acc (d : Nat → Nat) : Nat → Nat
  | 0 => 0
  | k + 1 => acc d k + d k * 2 ^ (4 * k)
theorem acc_lt {d : Nat → Nat} (h : ∀ k, k < 7 → d k ≤ 9) : ∀ k, k ≤ 7 → acc d k < 2 ^ (4 * k) := by
  intro k
  induction k with
  | zero => intro _; exact Nat.zero_lt_one
  | succ k ih =>
    intro hk
    have h1 := ih (by omega)
    have h2 := h k (by omega)
    show acc d k + d k * 2 ^ (4 * k) < 2 ^ (4 * (k + 1))
    have h3 : d k * 2 ^ (4 * k) ≤ 9 * 2 ^ (4 * k) := Nat.mul_le_mul_right _ h2
    have h4 : 2 ^ (4 * (k + 1)) = 16 * 2 ^ (4 * k) := by
      rw [show 4 * (k + 1) = 4 * k + 4 by omega, Nat.pow_add, Nat.mul_comm]
    omega
theorem acc_7 (d : Nat → Nat) : acc d 7 = pkT d := by
  unfold pkT
  show (((((((0 + d 0 * 2 ^ (4 * 0)) + d 1 * 2 ^ (4 * 1)) + d 2 * 2 ^ (4 * 2)) + d 3 * 2 ^ (4 * 3)) + d 4 * 2 ^ (4 * 4)) + d 5 * 2 ^ (4 * 5)) + d 6 * 2 ^ (4 * 6)) = _
  omega
theorem acc_or {d : Nat → Nat} (h : ∀ k, k < 7 → d k ≤ 9) {k : Nat} (hk : k < 7) : nI (acc d k) ||| (nI (d k) <<< ((4 * nI k) &&& 31)) = nI (acc d (k + 1)) := by
  have h1 := acc_lt h k (by omega)
  have h2 := h k hk
  rw [nib7 _ (by omega) k hk, nI_or, Nat.or_comm, Nat.mul_comm (d k), ← Nat.two_pow_add_eq_or_of_lt h1, Nat.add_comm, Nat.mul_comm]
  rfl
def gds (g : Nat → Int32) (k : Nat) : Nat := bs k fun t => td g t 7 == 1
theorem gds_s {g : Nat → Int32} {k : Nat} (h : td g k 7 ≤ 1) : nI (gds g k) ||| nI (td g k 7 * 2 ^ k) = nI (gds g (k + 1)) := by
  unfold gds
  rw [nI_or]
  congr 1
  rcases (show td g k 7 = 0 ∨ td g k 7 = 1 by omega) with e | e
  · rw [bs_f (n := k) (p := fun t => td g t 7 == 1) (by show (td g k 7 == 1) = false; rw [e]; rfl), e, Nat.zero_mul, Nat.or_zero]
  · rw [bs_t (n := k) (p := fun t => td g t 7 == 1) (by show (td g k 7 == 1) = true; rw [e]; rfl), e, Nat.one_mul]
theorem rd_in {σ : Mm} {L T w k : Nat} {kb : Mm → Nat → Mm} (X : TX σ L T w) (hk : k < T) : ∀ j m i (s : Mm), i + j = 7 → j < m → (∀ z, z < L → s.1 3 z = σ.1 35 z) → s.1 50 k = nI (acc (td (σ.1 35) k) i) → ∃ s' : Mm, fX2_readFrom_74 49 kb m s k i = fX2_readFrom_105 49 kb s' k ∧ s'.1 50 k = nI (pkT (td (σ.1 35) k)) ∧ (∀ q, q ≠ 50 → s'.1 q = s.1 q) ∧ (∀ z, z ≠ k → s'.1 50 z = s.1 50 z) ∧ s'.2 = s.2 := by
  intro j
  induction j with
  | zero =>
    intro m i s h1 h2 h3 h4
    obtain ⟨m, rfl⟩ : ∃ m', m = m' + 1 := ⟨m - 1, by omega⟩
    rw [fX2_readFrom_74, if_neg (show ¬ nI i < 7 from nI_nlt (a := i) (b := 7) (by omega) (by omega))]
    refine ⟨s, rfl, ?_, fun _ _ => rfl, fun _ _ => rfl, rfl⟩
    rw [h4, show i = 7 by omega, acc_7]
  | succ j ih =>
    intro m i s h1 h2 h3 h4
    obtain ⟨m, rfl⟩ : ∃ m', m = m' + 1 := ⟨m - 1, by omega⟩
    rw [fX2_readFrom_74, if_pos (show nI i < 7 from nI_lt (a := i) (b := 7) (by omega) (by decide)), figT X h3 hk (by omega)]
    rw [show s.1 (49 + 1) k = nI (acc (td (σ.1 35) k) i) from h4, acc_or (X.2.2.2.2.2 k hk).2.1 (by omega)]
    obtain ⟨s', g1, g2, g3, g4, g5⟩ := ih m (i + 1) (up s 50 k (nI (acc (td (σ.1 35) k) (i + 1)))) (by omega) (by omega) (fun z hz => by rw [up_ne (by decide)]; exact h3 z hz) up_e
    exact ⟨s', g1, g2, fun q hq => by rw [g3 q hq, up_ne hq], fun z hz => by rw [g4 z hz, up_n hz], g5⟩
theorem rd_out {σ ρ : Mm} {L T w : Nat} (X : TX σ L T w) (r3 : ∀ z, z < L → ρ.1 3 z = σ.1 35 z) (r1 : ρ.1 49 1 = nI T) : ∀ j m k (s : Mm), k + j = T → j < m → (∀ q, q ≠ 49 → q ≠ 50 → s.1 q = ρ.1 q) → (∀ i, i ≠ 4 → s.1 49 i = ρ.1 49 i) → s.2 = ρ.2 → s.1 49 4 = nI (gds (σ.1 35) k) → (∀ t, t < k → s.1 50 t = nI (pkT (td (σ.1 35) t))) → ∀ τ, fX2_readFrom_48 49 m s k = τ → (∀ q, q ≠ 49 → q ≠ 50 → τ.1 q = ρ.1 q) ∧ (∀ i, i ≠ 4 → τ.1 49 i = ρ.1 49 i) ∧ τ.2 = ρ.2 ∧ τ.1 49 4 = nI (gds (σ.1 35) T) ∧ (∀ t, t < T → τ.1 50 t = nI (pkT (td (σ.1 35) t))) := by
  have hT := X.2.1
  intro j
  induction j with
  | zero =>
    intro m k s h1 h2 f1 f2 f3 f4 f5 τ hτ
    obtain ⟨m, rfl⟩ : ∃ m', m = m' + 1 := ⟨m - 1, by omega⟩
    rw [fX2_readFrom_48, f2 1 (by decide), r1, if_pos (nI_lt (a := k) (b := 8) (by omega) (by decide)), if_neg (nI_nlt (by omega) (by omega))] at hτ
    have e : k = T := by omega
    subst e
    subst hτ
    exact ⟨f1, f2, f3, f4, f5⟩
  | succ j ih =>
    intro m k s h1 h2 f1 f2 f3 f4 f5 τ hτ
    obtain ⟨m, rfl⟩ : ∃ m', m = m' + 1 := ⟨m - 1, by omega⟩
    have hk : k < T := by omega
    rw [fX2_readFrom_48, f2 1 (by decide), r1, if_pos (nI_lt (a := k) (b := 8) (by omega) (by decide)), if_pos (nI_lt hk (by omega))] at hτ
    obtain ⟨s', g1, g2, g3, g4, g5⟩ := rd_in (kb := fX2_readFrom_48 49 m) X hk 7 8 0 (up s 50 k 0) (by decide) (by decide) (fun z hz => by rw [up_ne (by decide), f1 3 (by decide) (by decide)]; exact r3 z hz) up_e
    rw [show (49 + 1 : Nat) = 50 from rfl, g1] at hτ
    unfold fX2_readFrom_105 at hτ
    have s3 : ∀ z, z < L → s'.1 3 z = σ.1 35 z := fun z hz => by rw [g3 3 (by decide), up_ne (by decide), f1 3 (by decide) (by decide)]; exact r3 z hz
    have d7 := (X.2.2.2.2.2 k hk).2.2.2
    have e7 : fX8_figureTold s' (nI k) 7 = nI (td (σ.1 35) k 7) := figT (q := 7) X s3 hk (by decide)
    rw [g3 49 (by decide), up_ne (by decide), f4, e7, gbit _ (by omega) k (by omega), gds_s d7] at hτ
    refine ih m (k + 1) (up s' 49 4 (nI (gds (σ.1 35) (k + 1)))) (by omega) (by omega) (fun q q1 q2 => ?_) (fun i hi => ?_) ?_ up_e (fun t ht => ?_) τ hτ
    · rw [up_ne q1, g3 q q2, up_ne q2]
      exact f1 q q1 q2
    · rw [up_n hi, g3 49 (by decide), up_ne (by decide)]
      exact f2 i hi
    · show s'.2 = ρ.2
      rw [g5]
      exact f3
    · rw [up_ne (by decide)]
      by_cases e : t = k
      · subst e
        exact g2
      · rw [g4 t e, up_n e]
        exact f5 t (by omega)
theorem thg : ∀ L, L < 57 → 2 ≤ L → (if 0 < (nI L - 2) / 9 then (nI L - 2) / 9 else 0) = nI ((L - 2) / 9) ∧ (nI L - 2) / 9 = nI ((L - 2) / 9) := by decide +kernel
/-- the class has read its house -/
theorem rd_all {σ : Mm} {L w : Nat} (hL : L ≤ 56) (h2 : σ.1 2 1 = nI L) (h3 : ∀ j, j < L → σ.1 3 j = σ.1 35 j) (L2 : 2 ≤ L) (X : TX σ L ((L - 2) / 9) w) : ∀ τ, fX2_readFrom σ 49 = τ → (∀ q, q ≠ 49 → q ≠ 50 → τ.1 q = σ.1 q) ∧ τ.2 = σ.2 ∧ τ.1 49 1 = nI ((L - 2) / 9) ∧ τ.1 49 2 = nI w ∧ τ.1 49 3 = 0 ∧ τ.1 49 5 = 0 ∧ τ.1 49 6 = 0 ∧ τ.1 49 7 = 0 ∧ τ.1 49 4 = nI (gds (σ.1 35) ((L - 2) / 9)) ∧ (∀ t, t < (L - 2) / 9 → τ.1 50 t = nI (pkT (td (σ.1 35) t))) := by
  intro τ hτ
  have e8 : (if 8 < fX8_things σ then 8 else fX8_things σ) = nI ((L - 2) / 9) := by
    unfold fX8_things
    rw [h2, (thg L (by omega) L2).1, if_neg (show ¬ 8 < nI ((L - 2) / 9) from nI_nlt (a := 8) (b := (L - 2) / 9) (by omega) (by decide))]
  have ew : fX8_wordTold (up σ 49 1 (nI ((L - 2) / 9))) = nI w := by
    unfold fX8_wordTold
    rw [show (1 : Int32) = nI 1 from rfl, at_text (by decide), up_ne (by decide), h3 1 (by omega), X.2.2.1, show (48 : Int32) = nI 48 from rfl, pk_sub (by omega)]
    congr 1
    omega
  unfold fX2_readFrom fX2_readFrom_21 fX2_readFrom_31 fX2_readFrom_41 at hτ
  rw [e8, ew] at hτ
  generalize hρ : up (up (up (up (up (up (up σ 49 1 (nI ((L - 2) / 9))) 49 2 (nI w)) 49 3 0) 49 4 0) 49 5 0) 49 6 0) 49 7 0 = ρ at hτ
  have ρk : ∀ q, q ≠ 49 → ρ.1 q = σ.1 q := fun q hq => by rw [← hρ, up_ne hq, up_ne hq, up_ne hq, up_ne hq, up_ne hq, up_ne hq, up_ne hq]
  have ρ1 : ρ.1 49 1 = nI ((L - 2) / 9) := by
    rw [← hρ]
    repeat (first | rw [up_e] | rw [up_n (by decide)])
  obtain ⟨t1, t2, t3, t4, t5⟩ := rd_out (ρ := ρ) X (fun z hz => by rw [ρk 3 (by decide)]; exact h3 z hz) ρ1 ((L - 2) / 9) 9 0 ρ (by omega) (by omega) (fun _ _ _ => rfl) (fun _ _ => rfl) rfl (by rw [← hρ, up_n (by decide), up_n (by decide), up_n (by decide), up_e]; rfl) (fun t ht => absurd ht (Nat.not_lt_zero t)) τ hτ
  refine ⟨fun q q1 q2 => by rw [t1 q q1 q2, ρk q q1], by rw [t3, ← hρ]; rfl, by rw [t2 1 (by decide)]; exact ρ1, ?_, ?_, ?_, ?_, ?_, t4, t5⟩
  all_goals
    rw [t2 _ (by decide), ← hρ]
    repeat (first | rw [up_e] | rw [up_n (by decide)])
