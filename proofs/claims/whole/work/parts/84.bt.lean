/-! how long two museums go on -/
def TT : Nat → Nat
  | 0 => 1
  | r + 1 => 19 * (1 + TT r) + 1
def tmB (N : Nat) (f : Nat → Int32) (i : Nat) : Nat := if i < N then (19 - (f i).toNatClampNeg) * (1 + TT (N - i - 1)) + 1 else 1
def muB (N : Nat) (f : Nat → Int32) : Nat → Nat
  | 0 => tmB N f 0
  | k + 1 => muB N f k + tmB N f (k + 1)
theorem tmB_pos (N : Nat) (f : Nat → Int32) (i : Nat) : 0 < tmB N f i := by
  unfold tmB
  split <;> omega
theorem muB_pos (N : Nat) (f : Nat → Int32) : ∀ k, 0 < muB N f k := by
  intro k
  cases k with
  | zero => exact tmB_pos N f 0
  | succ k =>
    have := tmB_pos N f (k + 1)
    show 0 < muB N f k + tmB N f (k + 1)
    omega
theorem muB_congr {N : Nat} {f g : Nat → Int32} : ∀ k, (∀ i, i ≤ k → f i = g i) → muB N f k = muB N g k := by
  intro k
  induction k with
  | zero =>
    intro h
    show tmB N f 0 = tmB N g 0
    unfold tmB
    rw [h 0 (Nat.le_refl _)]
  | succ k ih =>
    intro h
    show muB N f k + tmB N f (k + 1) = muB N g k + tmB N g (k + 1)
    rw [ih (fun i hi => h i (by omega))]
    unfold tmB
    rw [h (k + 1) (Nat.le_refl _)]
theorem tmB_inc {N at' t : Nat} {f g : Nat → Int32} (h : at' < N) (e1 : f at' = nI t) (ht : t ≤ 18) (e2 : g at' = nI (t + 1)) : tmB N g at' + (1 + TT (N - at' - 1)) = tmB N f at' := by
  unfold tmB
  rw [if_pos h, if_pos h, e1, e2, nI_clamp (by omega), nI_clamp (by omega), show 19 - t = (19 - (t + 1)) + 1 by omega, Nat.add_mul]
  omega
theorem muB_inc {N at' t : Nat} {f g : Nat → Int32} (h : at' < N) (e1 : f at' = nI t) (ht : t ≤ 18) (e2 : g at' = nI (t + 1)) (e3 : ∀ i, i < at' → g i = f i) : muB N g at' + (1 + TT (N - at' - 1)) = muB N f at' := by
  have ti := tmB_inc (f := f) (g := g) h e1 ht e2
  cases at' with
  | zero => exact ti
  | succ k =>
    have hc := muB_congr (N := N) (f := g) (g := f) k (fun i hi => e3 i (by omega))
    show muB N g k + tmB N g (k + 1) + (1 + TT (N - (k + 1) - 1)) = muB N f k + tmB N f (k + 1)
    rw [hc]
    omega
theorem tmB_new {N at' : Nat} {f : Nat → Int32} (h : at' < N) (e : f (at' + 1) = 0) : tmB N f (at' + 1) = TT (N - at' - 1) := by
  unfold tmB
  by_cases c : at' + 1 < N
  · rw [if_pos c, e, show N - at' - 1 = (N - (at' + 1) - 1) + 1 by omega]
    rfl
  · rw [if_neg c, show N - at' - 1 = 0 by omega]
    rfl
/-- what the loop of byTurns keeps -/
def BI (N : Nat) (s : Mm) (x3 : Int32) (b4 : Bool) (m : Nat) : Prop := vp_in (s.1 34 13) 9 ∧ 0 < m ∧ (b4 = false → ∃ at', at' ≤ N ∧ x3 = nI at' ∧ (∀ i, i ≤ at' → i < N → ∃ t, t ≤ 19 ∧ s.1 43 i = nI t) ∧ muB N (s.1 43) at' < m)
theorem BI_no {N : Nat} {s : Mm} {x : Int32} {b : Bool} (h : BI N s x b 0) : False := absurd h.2.1 (Nat.lt_irrefl 0)
theorem BI_pop {N at' m : Nat} {s s' : Mm} {x : Int32} (hN : N ≤ 4) (hM : vp_in (s.1 34 13) 9) (hat : at' ≤ N) (ex : x = nI at') (htr : ∀ i, i ≤ at' → i < N → ∃ t, t ≤ 19 ∧ s.1 43 i = nI t) (hmu : muB N (s.1 43) at' < m + 1) (h : s'.1 43 = s.1 43 ∧ s'.1 34 = s.1 34) : (x + (-1) < 0 → BI N s' (x + (-1)) true m) ∧ (¬ x + (-1) < 0 → BI N s' (x + (-1)) false m) := by
  have hp := muB_pos N (s.1 43) at'
  constructor
  · intro _
    refine ⟨by rw [h.2]; exact hM, by omega, fun q => absurd q (by decide)⟩
  · intro c
    obtain ⟨k, rfl⟩ : ∃ k, at' = k + 1 := by
      cases at' with
      | zero =>
        exfalso
        apply c
        rw [ex]
        decide
      | succ k => exact ⟨k, rfl⟩
    have ep := tmB_pos N (s.1 43) (k + 1)
    have em : muB N (s.1 43) (k + 1) = muB N (s.1 43) k + tmB N (s.1 43) (k + 1) := rfl
    refine ⟨by rw [h.2]; exact hM, by omega, fun _ => ⟨k, by omega, ?_, fun i hi hn => ?_, ?_⟩⟩
    · rw [ex, pk_m1]
    · rw [h.1]
      exact htr i (by omega) hn
    · rw [h.1]
      omega
theorem go_form {s : Mm} {a b : Int32} : ∃ x y z, fX10_go s a b = fX10_begin (up s 46 a.toNatClampNeg z) (a + 1) x y := by
  unfold fX10_go fX10_go_16 fX10_go_42 fX10_go_67 fX10_go_73 fX10_go_108
  repeat' split
  all_goals exact ⟨_, _, _, rfl⟩
theorem begin_43 {s : Mm} {a x y : Int32} : (∀ i, (fX10_begin s a x y).1 43 i = if i = a.toNatClampNeg then 0 else s.1 43 i) ∧ (fX10_begin s a x y).1 34 = s.1 34 := by
  unfold fX10_begin fX10_begin_14 fX10_begin_29
  constructor
  · intro i
    rw [up_ne (by decide), up_ne (by decide)]
    by_cases c : i = a.toNatClampNeg
    · subst c
      rw [if_pos rfl, up_e]
    · rw [if_neg c, up_n c, up_ne (by decide), up_ne (by decide)]
  · rw [up_ne (by decide), up_ne (by decide), up_ne (by decide), up_ne (by decide), up_ne (by decide)]
theorem BI_skip {N at' t m : Nat} {s : Mm} {x : Int32} {b : Bool} (hN : N ≤ 4) (hM : vp_in (s.1 34 13) 9) (hat : at' < N) (ex : x = nI at') (htr : ∀ i, i ≤ at' → i < N → ∃ t, t ≤ 19 ∧ s.1 43 i = nI t) (hmu : muB N (s.1 43) at' < m + 1) (e1 : s.1 43 at' = nI t) (ht : t ≤ 18) : BI N (up s 43 x.toNatClampNeg ((s.1 43 x.toNatClampNeg) + 1)) x b m ∧ ∀ c, BI N (fX10_go (up s 43 x.toNatClampNeg ((s.1 43 x.toNatClampNeg) + 1)) x c) (x + 1) b m := by
  have ec : x.toNatClampNeg = at' := by rw [ex, nI_clamp (by omega)]
  rw [ec, e1, nI_1]
  generalize hs : up s 43 at' (nI (t + 1)) = s1
  have k43 : ∀ i, i ≠ at' → s1.1 43 i = s.1 43 i := fun i hi => by rw [← hs, up_n hi]
  have k43e : s1.1 43 at' = nI (t + 1) := by rw [← hs, up_e]
  have k34 : s1.1 34 = s.1 34 := by rw [← hs, up_ne (by decide)]
  have mi := muB_inc (f := s.1 43) (g := s1.1 43) hat e1 ht k43e (fun i hi => k43 i (by omega))
  have tr : ∀ i, i ≤ at' → i < N → ∃ t, t ≤ 19 ∧ s1.1 43 i = nI t := fun i hi hn => by
    by_cases e : i = at'
    · subst e
      exact ⟨t + 1, by omega, k43e⟩
    · rw [k43 i e]
      exact htr i hi hn
  have mp := muB_pos N (s1.1 43) at'
  refine ⟨⟨by rw [k34]; exact hM, by omega, fun _ => ⟨at', by omega, ex, tr, by omega⟩⟩, fun c => ?_⟩
  obtain ⟨y1, y2, y3, eg⟩ := go_form (s := s1) (a := x) (b := c)
  obtain ⟨b1, b2⟩ := begin_43 (s := up s1 46 x.toNatClampNeg y3) (a := x + 1) (x := y1) (y := y2)
  have ex1 : x + 1 = nI (at' + 1) := by rw [ex, nI_1]
  have ec1 : (x + 1).toNatClampNeg = at' + 1 := by rw [ex1, nI_clamp (by omega)]
  rw [eg]
  generalize fX10_begin (up s1 46 x.toNatClampNeg y3) (x + 1) y1 y2 = s2 at b1 b2
  have g1 : ∀ i, i ≤ at' → s2.1 43 i = s1.1 43 i := fun i hi => by rw [b1 i, if_neg (by rw [ec1]; omega), up_ne (by decide)]
  have g2 : s2.1 43 (at' + 1) = 0 := by rw [b1 (at' + 1), if_pos ec1.symm]
  have mc := muB_congr (N := N) (f := s2.1 43) (g := s1.1 43) at' g1
  have tn := tmB_new (f := s2.1 43) hat g2
  have em : muB N (s2.1 43) (at' + 1) = muB N (s2.1 43) at' + tmB N (s2.1 43) (at' + 1) := rfl
  refine ⟨by rw [b2, up_ne (by decide), k34]; exact hM, by omega, fun _ => ⟨at' + 1, by omega, ex1, fun i hi hn => ?_, by omega⟩⟩
  by_cases e : i = at' + 1
  · subst e
    exact ⟨0, by decide, g2⟩
  · rw [g1 i (by omega)]
    exact tr i (by omega) hn
theorem TT_4 : ∀ N, N ≤ 4 → TT N < 300000 := by
  intro N hN
  rcases (show N = 0 ∨ N = 1 ∨ N = 2 ∨ N = 3 ∨ N = 4 by omega) with rfl | rfl | rfl | rfl | rfl <;> decide
theorem BI_start {N : Nat} {σ : Mm} {x y z : Int32} {b : Bool} (hN : N ≤ 4) (hM : vp_in (σ.1 34 13) 9) : BI N (up (fX10_begin σ 0 x y) 44 0 z) 0 b 300000 := by
  obtain ⟨b1, b2⟩ := begin_43 (s := σ) (a := 0) (x := x) (y := y)
  have z0 : (fX10_begin σ 0 x y).1 43 0 = 0 := by rw [b1 0]; exact if_pos rfl
  refine ⟨by rw [up_ne (by decide), b2]; exact hM, by decide, fun _ => ⟨0, Nat.zero_le _, rfl, fun i hi _ => ⟨0, by decide, ?_⟩, ?_⟩⟩
  · rw [up_ne (by decide), show i = 0 by omega]
    exact z0
  · rw [up_ne (by decide)]
    have hT := TT_4 N hN
    show tmB N ((fX10_begin σ 0 x y).1 43) 0 < 300000
    unfold tmB
    rw [z0]
    by_cases c : 0 < N
    · rw [if_pos c]
      have e : TT N = (19 - (0 : Int32).toNatClampNeg) * (1 + TT (N - 0 - 1)) + 1 := by
        obtain ⟨k, rfl⟩ : ∃ k, N = k + 1 := ⟨N - 1, by omega⟩
        rfl
      omega
    · rw [if_neg c]
      decide
theorem cm_t {σ : Mm} {a b : Int32} (hM : vp_in (σ.1 34 13) 9) (h : fX10_canMove σ a b = true) : b = 0 ∨ vp_in (if 10 < b then (b - 11) else (b - 1)) 8 := by
  unfold fX10_canMove fX10_canMove_22 at h
  by_cases c0 : b = 0
  · exact Or.inl c0
  · right
    rw [if_neg c0] at h
    by_cases c : 10 < b
    · rw [if_pos c] at h ⊢
      by_cases q : fX10_isThing σ (b - 11) = true
      · exact isThing_in q hM
      · rw [if_neg q] at h
        exact absurd h (by decide)
    · rw [if_neg c] at h ⊢
      by_cases q : fX10_isThing σ (b - 1) = true
      · exact isThing_in q hM
      · rw [if_neg q] at h
        exact absurd h (by decide)
theorem in4 {a : Int32} (h : fX10_in a.toInt64 0 4 = true) : ∃ x, x ≤ 4 ∧ a = nI x := by
  obtain ⟨h1, h2⟩ := in_ti.mp h
  have z0 : (0 : Int64).toInt = 0 := rfl
  have z1 : (4 : Int64).toInt = 4 := rfl
  rw [z0] at h1
  rw [z1] at h2
  refine ⟨a.toInt.toNat, by omega, Int32.toInt_inj.mp ?_⟩
  rw [nI_toInt (by omega)]
  omega
theorem BI_try {N at' : Nat} {s : Mm} {x a1 : Int32} (hN : N ≤ 4) (ea : a1 = nI N) (hat : at' ≤ N) (ex : x = nI at') (htr : ∀ i, i ≤ at' → i < N → ∃ t, t ≤ 19 ∧ s.1 43 i = nI t) (c1 : ¬ x = a1) (c2 : ¬ 18 < s.1 43 x.toNatClampNeg) : at' < N ∧ ∃ t, t ≤ 18 ∧ s.1 43 at' = nI t := by
  have hl : at' < N := by
    by_cases q : at' < N
    · exact q
    · exact absurd (by rw [ex, ea, show at' = N by omega]) c1
  obtain ⟨t, ht, e⟩ := htr at' (Nat.le_refl _) hl
  refine ⟨hl, t, ?_, e⟩
  rw [ex, nI_clamp (by omega), e] at c2
  by_cases q : t ≤ 18
  · exact q
  · exact absurd (show 18 < nI t from nI_lt (a := 18) (by omega) (by omega)) c2
theorem vin_m1 {x : Int32} {at' : Nat} (h4 : at' ≤ 4) (ex : x = nI at') (c : 0 ≤ x + (-1)) : vp_in (x + (-1)) 6 := by
  cases at' with
  | zero =>
    rw [ex] at c
    exact absurd c (by decide)
  | succ k =>
    rw [ex, pk_m1]
    exact vp_in_nI (by omega) (by decide)
