/-! judge -/
theorem wl_go {a : Int32} {N : Nat} (hN : N < 2 ^ 31) : ∀ j m k x, k + j = N → j < m → x < 2 ^ 31 → fX9_withoutLast_4 a (nI N) m (nI x) k = nI (x / 100 ^ j) := by
  intro j
  induction j with
  | zero =>
    intro m k x h1 h2 hx
    obtain ⟨m, rfl⟩ : ∃ m', m = m' + 1 := ⟨m - 1, by omega⟩
    rw [fX9_withoutLast_4, if_neg (nI_nlt (by omega) (by omega)), Nat.pow_zero, Nat.div_one]
  | succ j ih =>
    intro m k x h1 h2 hx
    obtain ⟨m, rfl⟩ : ∃ m', m = m' + 1 := ⟨m - 1, by omega⟩
    rw [fX9_withoutLast_4, if_pos (nI_lt (by omega) hN), show (100 : Int32) = nI 100 from rfl, pk_div hx (by decide) (by decide), ih m (k + 1) _ (by omega) (by omega) (Nat.lt_of_le_of_lt (Nat.div_le_self _ _) hx), Nat.div_div_eq_div_mul, Nat.pow_succ, Nat.mul_comm]
theorem wl_eq {R N : Nat} (hR : R < 2 ^ 31) (hN : N < 2 ^ 31) : fX9_withoutLast (nI R) (nI N) = nI (R / 100 ^ N) := by
  unfold fX9_withoutLast mX9_withoutLast_4
  rw [nI_clamp hN]
  exact wl_go hN N (N + 1) 0 R (by omega) (by omega) hR
theorem ten_k : ∀ x, x ≤ 8 → fX10_tenTo (nI x) = nI (10 ^ x) := by decide +kernel
theorem perf_1 {s : Mm} {h : Nat} {a b : Int32} : (fX2_perform s h a b).1 h 1 = s.1 h 1 := by
  unfold fX2_perform
  repeat' split
  all_goals first | rfl | (repeat rw [up_n (by decide)])
theorem mk10_lo {r : Mm} {a i j : Nat} (hi : i < 8) (hj : j < 14) : (mk10 r 1 a i).1 34 j = r.1 34 j := by
  match a with
  | 0 => rw [mk10_a, up_n (by omega)]
  | 1 => rw [mk10_b, up_n (by omega)]
  | 2 =>
    rw [mk10_c]
    unfold fX10_doHide fX10_free
    split
    all_goals (repeat rw [up_n (by omega)])
  | a + 3 =>
    show (fX10_doGuard r 1 (nI i)).1 34 j = _
    unfold fX10_doGuard
    rw [ix10 (by decide) hi]
    split
    all_goals rw [up_n (by omega)]
theorem can_10 {r : Mm} {a t : Nat} (ha : a < 4) : fX10_can r (nI a) (nI t) = can10 r 1 a t := by
  unfold fX10_can
  rcases (show a = 0 ∨ a = 1 ∨ a = 2 ∨ a = 3 by omega) with rfl | rfl | rfl | rfl
  · rw [if_pos (show nI 0 = 0 from rfl)]
    rfl
  · rw [if_neg (show ¬ nI 1 = 0 by decide), if_pos (show nI 1 = 1 from rfl)]
    rfl
  · rw [if_neg (show ¬ nI 2 = 0 by decide), if_neg (show ¬ nI 2 = 1 by decide), if_pos (show nI 2 = 2 from rfl)]
    rfl
  · rw [if_neg (show ¬ nI 3 = 0 by decide), if_neg (show ¬ nI 3 = 1 by decide), if_neg (show ¬ nI 3 = 2 by decide), if_pos (show nI 3 = 3 from rfl)]
    show _ = !fX10_has (r.1 34 22) (nI t)
    cases fX10_has (r.1 34 22) (nI t) <;> rfl
theorem make_10 {r : Mm} {a t : Nat} (ha : a < 4) : fX10_make r (nI a) (nI t) = mk10 r 1 a t := by
  unfold fX10_make
  rcases (show a = 0 ∨ a = 1 ∨ a = 2 ∨ a = 3 by omega) with rfl | rfl | rfl | rfl
  · rw [if_pos (show nI 0 = 0 from rfl)]
    rfl
  · rw [if_neg (show ¬ nI 1 = 0 by decide), if_pos (show nI 1 = 1 from rfl)]
    rfl
  · rw [if_neg (show ¬ nI 2 = 0 by decide), if_neg (show ¬ nI 2 = 1 by decide), if_pos (show nI 2 = 2 from rfl)]
    rfl
  · rw [if_neg (show ¬ nI 3 = 0 by decide), if_neg (show ¬ nI 3 = 1 by decide), if_neg (show ¬ nI 3 = 2 by decide)]
    rfl
theorem no_act {s : Mm} {h a : Nat} {b : Int32} (h4 : 4 ≤ a) (ha : a < 10) : fX2_canBe s h (nI a) b = false := by
  unfold fX2_canBe
  have ne : ∀ z, z < 4 → ¬ nI a = nI z := fun z hz q => by
    have := (nI_eq (by omega) (by omega)).mp q
    omega
  rw [if_neg (show ¬ nI a = 0 from ne 0 (by decide)), if_neg (show ¬ nI a = 1 from ne 1 (by decide)), if_neg (show ¬ nI a = 2 from ne 2 (by decide)), if_neg (show ¬ nI a = 3 from ne 3 (by decide)), ite_self]
theorem no_can {r : Mm} {a : Nat} {b : Int32} (h4 : 4 ≤ a) (ha : a < 10) : fX10_can r (nI a) b = false := by
  unfold fX10_can
  have ne : ∀ z, z < 4 → ¬ nI a = nI z := fun z hz q => by
    have := (nI_eq (by omega) (by omega)).mp q
    omega
  rw [if_neg (show ¬ nI a = 0 from ne 0 (by decide)), if_neg (show ¬ nI a = 1 from ne 1 (by decide)), if_neg (show ¬ nI a = 2 from ne 2 (by decide)), if_neg (show ¬ nI a = 3 from ne 3 (by decide))]
theorem jd_go {n R N : Nat} {d : Nat → Nat → Nat} (hR : R < 2 ^ 31) (hN : N ≤ 4) : ∀ j m m' k (s r : Mm), k + j = N → j < m → j < m' → HR (s.1 51) (s.1 52) (fun j => r.1 34 (14 * 1 + j)) → CH (s.1 51) (s.1 52) n d → RG (r.1 34) n d → ∀ x y, fX9_judge_41 (nI N) (nI R) m s k = x → fX10_judge_64 (nI N) (nI R) m' r k = y → x.1 = y.1 ∧ (∀ q, q ≠ 51 → x.2.1 q = s.1 q) ∧ x.2.2 = s.2 ∧ (∀ q, q ≠ 34 → y.2.1 q = r.1 q) ∧ (∀ q, q < 14 → y.2.1 34 q = r.1 34 q) ∧ y.2.2 = r.2 := by
  intro j
  induction j with
  | zero =>
    intro m m' k s r h1 h2 h3 H D D10 x y hx hy
    obtain ⟨m, rfl⟩ : ∃ z, m = z + 1 := ⟨m - 1, by omega⟩
    obtain ⟨m', rfl⟩ : ∃ z, m' = z + 1 := ⟨m' - 1, by omega⟩
    rw [fX9_judge_41, if_neg (nI_nlt (by omega) (by omega))] at hx
    rw [fX10_judge_64, if_neg (nI_nlt (by omega) (by omega))] at hy
    subst hx hy
    exact ⟨rfl, fun _ _ => rfl, rfl, fun _ _ => rfl, fun _ _ => rfl, rfl⟩
  | succ j ih =>
    intro m m' k s r h1 h2 h3 H D D10 x y hx hy
    obtain ⟨m, rfl⟩ : ∃ z, m = z + 1 := ⟨m - 1, by omega⟩
    obtain ⟨m', rfl⟩ : ∃ z, m' = z + 1 := ⟨m' - 1, by omega⟩
    have n8 := D.1
    have e0 : (nI N - 1) - nI k = nI j := by
      rw [show (1 : Int32) = nI 1 from rfl, pk_sub (by omega), pk_sub (by omega)]
      congr 1
      omega
    have e1 : (2 * (nI N - nI k)) - 1 = nI (2 * j + 1) := by
      rw [pk_sub (by omega), show (2 : Int32) = nI 2 from rfl, show (1 : Int32) = nI 1 from rfl, pk_mul, pk_sub (by omega)]
      congr 1
      omega
    have e2 : (2 * (nI N - nI k)) - 2 = nI (2 * j) := by
      rw [pk_sub (by omega), show (2 : Int32) = nI 2 from rfl, pk_mul, pk_sub (by omega)]
      congr 1
      omega
    have hp : 100 ^ j = 10 ^ (2 * j) := by rw [Nat.pow_mul]
    have p0 : 0 < 10 ^ (2 * j) := Nat.pow_pos (by decide)
    have p1 : 0 < 10 ^ (2 * j + 1) := Nat.pow_pos (by decide)
    have pl1 : 10 ^ (2 * j + 1) < 2 ^ 31 := Nat.lt_of_le_of_lt (Nat.pow_le_pow_right (by decide) (show 2 * j + 1 ≤ 8 by omega)) (by decide)
    have pl0 : 10 ^ (2 * j) < 2 ^ 31 := Nat.lt_of_le_of_lt (Nat.pow_le_pow_right (by decide) (show 2 * j ≤ 8 by omega)) (by decide)
    generalize hQ : R / 10 ^ (2 * j) = Q
    have Q31 : Q < 2 ^ 31 := by rw [← hQ]; exact Nat.lt_of_le_of_lt (Nat.div_le_self _ _) hR
    have hQ10 : R / 10 ^ (2 * j + 1) = Q / 10 := by rw [← hQ, Nat.pow_succ, Nat.div_div_eq_div_mul]
    have eT : rm (fX9_withoutLast (nI R) (nI j)) 100 = nI (Q % 100) := by
      rw [wl_eq hR (by omega), hp, hQ, show (100 : Int32) = nI 100 from rfl, rm_nI Q31 (by decide) (by decide)]
    have eA : nI (Q % 100) / 10 = nI (Q / 10 % 10) := by
      rw [show (10 : Int32) = nI 10 from rfl, pk_div (by omega) (by decide) (by decide)]
      congr 1
      omega
    have eH : rm (nI (Q % 100)) 10 = nI (Q % 10) := by
      rw [show (10 : Int32) = nI 10 from rfl, rm_nI (by omega) (by decide) (by decide)]
      congr 1
      omega
    have fA : rm (nI R / fX10_tenTo (nI (2 * j + 1))) 10 = nI (Q / 10 % 10) := by
      rw [ten_k _ (by omega), pk_div hR p1 pl1, hQ10, show (10 : Int32) = nI 10 from rfl, rm_nI (by omega) (by decide) (by decide)]
    have fH : rm (nI R / fX10_tenTo (nI (2 * j))) 10 = nI (Q % 10) := by
      rw [ten_k _ (by omega), pk_div hR p0 pl0, hQ, show (10 : Int32) = nI 10 from rfl, rm_nI Q31 (by decide) (by decide)]
    rw [fX9_judge_41, if_pos (nI_lt (by omega) (by omega)), e0, eT, eA, eH] at hx
    rw [fX10_judge_64, if_pos (nI_lt (by omega) (by omega)), e1, e2, fA, fH] at hy
    have ha10 : Q / 10 % 10 < 10 := Nat.mod_lt _ (by decide)
    have ht10 : Q % 10 < 10 := Nat.mod_lt _ (by decide)
    generalize Q / 10 % 10 = a at hx hy ha10
    generalize Q % 10 = t at hx hy ht10
    have stop : fX2_canBe s 51 (nI a) (nI t) = false → (fX10_isThing r (nI t) = true → fX10_can r (nI a) (nI t) = false) → x.1 = y.1 ∧ (∀ q, q ≠ 51 → x.2.1 q = s.1 q) ∧ x.2.2 = s.2 ∧ (∀ q, q ≠ 34 → y.2.1 q = r.1 q) ∧ (∀ q, q < 14 → y.2.1 34 q = r.1 34 q) ∧ y.2.2 = r.2 := by
      intro q1 q2
      rw [q1, if_neg (by decide)] at hx
      have hy' : (nI k, r) = y := by
        rw [← hy]
        by_cases z : fX10_isThing r (nI t) = true
        · rw [if_pos z, q2 z, if_neg (by decide)]
        · rw [if_neg z]
      subst hx hy'
      exact ⟨rfl, fun _ _ => rfl, rfl, fun _ _ => rfl, fun _ _ => rfl, rfl⟩
    by_cases ct : t < n
    · by_cases ca : a < 4
      · obtain ⟨n', w, B, Hd, C, Gd, d', P⟩ := H.hp
        have en : n' = n := (nI_eq (by have := P.1; omega) (by omega)).mp (P.ch.2.1.symm.trans D.2.1)
        subst en
        have c2 := can2 (h := 51) (by decide) P D ct ca
        have c10 := can10_eq (l := 1) (by decide) P D10 ct ca
        by_cases cc : cab n' d w B Hd C Gd a t = true
        · rw [c2, if_pos cc] at hx
          rw [if_pos ((thing_iff D10.2.1 (by omega)).mpr ⟨t, ct, rfl⟩), can_10 ca, c10, if_pos cc, make_10 ca] at hy
          have HN := perf_hp (s := s) (r := r) (h := 51) (l := 1) (by decide) (by decide) P D D10 ct ca cc
          have D' : CH ((fX2_perform s 51 (nI a) (nI t)).1 51) ((fX2_perform s 51 (nI a) (nI t)).1 52) n' d := by
            rw [perf_k 52 (by decide)]
            exact ⟨D.1, by rw [perf_1]; exact D.2.1, D.2.2⟩
          have D10' : RG ((mk10 r 1 a t).1 34) n' d := ⟨D10.1, by rw [mk10_lo (by omega) (by decide)]; exact D10.2.1, fun i hi => by
            rw [mk10_lo (by omega) (by omega)]
            exact D10.2.2 i hi⟩
          obtain ⟨r1, r2, r3, r4, r5, r6⟩ := ih m m' (k + 1) _ _ (by omega) (by omega) (by omega) HN D' D10' x y hx hy
          exact ⟨r1, fun q hq => by rw [r2 q hq, perf_k q hq], by rw [r3, perf_2], fun q hq => by rw [r4 q hq, mk10_k q hq], fun q hq => by rw [r5 q hq, mk10_lo (by omega) hq], by rw [r6, mk10_2]⟩
        · have cf := Bool.eq_false_iff.mpr cc
          exact stop (c2.trans cf) (fun _ => (can_10 ca).trans (c10.trans cf))
      · exact stop (no_act (by omega) ha10) (fun _ => no_can (by omega) ha10)
    · refine stop ?_ (fun z => ?_)
      · unfold fX2_canBe
        rw [if_neg (fun z => ?_)]
        obtain ⟨i, hi, e⟩ := (has_iff D.2.1 (by omega)).mp z
        have := (nI_eq (by omega) (by omega)).mp e
        omega
      · obtain ⟨i, hi, e⟩ := (thing_iff D10.2.1 (by omega)).mp z
        have := (nI_eq (by omega) (by omega)).mp e
        omega
theorem jc_go {ρ : Mm} {a b : Int32} : ∀ m k (s : Mm), 14 < k + m → k ≤ 14 → (∀ q, q ≠ 34 → s.1 q = ρ.1 q) → s.2 = ρ.2 → (∀ i, i < 14 → s.1 34 i = ρ.1 34 i) → (∀ i, i < k → s.1 34 (14 + i) = ρ.1 34 i) → ∃ s' : Mm, fX10_judge_35 a b m s k = fX10_judge_62 a b s' ∧ (∀ q, q ≠ 34 → s'.1 q = ρ.1 q) ∧ s'.2 = ρ.2 ∧ (∀ i, i < 14 → s'.1 34 i = ρ.1 34 i) ∧ ∀ i, i < 14 → s'.1 34 (14 + i) = ρ.1 34 i := by
  intro m
  induction m with
  | zero => intro k s h1 h2; omega
  | succ m ih =>
    intro k s h1 h2 e1 e2 e3 e4
    rw [fX10_judge_35]
    by_cases c : k < 14
    · rw [if_pos (show nI k < 14 from nI_lt c (by decide))]
      refine ih (k + 1) (up s 34 (14 + k) (s.1 34 k)) (by omega) (by omega) (fun q hq => by rw [up_ne hq]; exact e1 q hq) e2 (fun i hi => by rw [up_n (by omega)]; exact e3 i hi) (fun i hi => ?_)
      by_cases e : i = k
      · subst e
        rw [up_e]
        exact e3 i c
      · rw [up_n (by omega)]
        exact e4 i (by omega)
    · rw [if_neg (show ¬ nI k < 14 from nI_nlt (a := k) (b := 14) (by omega) (by omega))]
      exact ⟨s, rfl, e1, e2, e3, fun i hi => e4 i (by omega)⟩
theorem s_judge : sc_judge Rv := by
  intro σ a b h
  have same : ∀ z : Int32, fX9_judge σ a b = (z, σ) → fX10_judge σ a b = (z, σ) → vp_in ((fX9_judge σ a b).2.1 34 13) 9 ∧ (fX9_judge σ a b).1 = (fX10_judge (fX9_judge σ a b).2 a b).1 ∧ Rv (fX10_judge (fX9_judge σ a b).2 a b).2 := by
    intro z e9 e10
    rw [e9]
    show vp_in (σ.1 34 13) 9 ∧ z = (fX10_judge σ a b).1 ∧ Rv (fX10_judge σ a b).2
    rw [e10]
    exact ⟨h.hM, rfl, h⟩
  by_cases c1 : 1 ≤ a
  · by_cases c4 : 4 < a
    · exact same (-2) (by unfold fX9_judge; rw [if_pos c1, if_pos c4]) (by unfold fX10_judge; rw [if_neg (in_neg2 (y := 4) rfl (Int32.not_le.mpr c4))])
    · have i1 : fX10_in a.toInt64 1 4 = true := in_pos (x := 1) (y := 4) rfl rfl c1 (Int32.not_lt.mp c4)
      obtain ⟨N, hN, rfl⟩ := nI_ex (show 0 ≤ a from Int32.le_trans (by decide) c1) (show a < nI 5 from Int32.lt_of_le_of_lt (Int32.not_lt.mp c4) (by decide)) (by decide)
      have pl : 10 ^ (2 * N) < 2 ^ 31 := Nat.lt_of_le_of_lt (Nat.pow_le_pow_right (by decide) (show 2 * N ≤ 8 by omega)) (by decide)
      have p0 : 0 < 10 ^ (2 * N) := Nat.pow_pos (by decide)
      have eh : (fX10_tenTo (2 * nI N) - 1).toInt64.toInt = ((10 ^ (2 * N) - 1 : Nat) : Int) := by
        rw [show (2 : Int32) = nI 2 from rfl, show (1 : Int32) = nI 1 from rfl, pk_mul, ten_k _ (by omega), pk_sub (by omega), Int32.toInt_toInt64, nI_toInt (by omega)]
      by_cases d0 : 0 ≤ b
      · obtain ⟨R, hR, rfl⟩ := nI_of (fun q => absurd q (Int32.not_lt.mpr d0))
        by_cases d1 : R < 10 ^ (2 * N)
        · have i2 : fX10_in (nI R).toInt64 0 ((fX10_tenTo (2 * nI N) - 1).toInt64) = true := by
            rw [in_ti, eh, nI_toInt hR]
            refine ⟨?_, by omega⟩
            show (0 : Int) ≤ R
            omega
          have w0 : fX9_withoutLast (nI R) (nI N) = 0 := by
            rw [wl_eq hR (by omega), show (100 : Nat) ^ N = 10 ^ (2 * N) by rw [Nat.pow_mul], Nat.div_eq_of_lt d1]
            rfl
          obtain ⟨a1, a2, a3, a4⟩ := cf_all (σ := σ) (h := 51) (h1 := 49) (by decide) (by decide) (by decide)
          generalize hs : fX2_copyFrom σ 51 49 = s at a1 a2 a3 a4
          obtain ⟨n, w, B, Hd, C, Gd, d, P⟩ := h.2.1.hp
          have D : CH (s.1 51) (s.1 52) n d := ⟨P.1, by rw [a3 1 (by decide) (by decide)]; exact P.ch.2.1, fun i hi => by
            have n8 := P.1
            rw [show s.1 52 i = σ.1 50 i from a4 i (by omega)]
            exact P.ch.2.2 i hi⟩
          have e9 : fX9_judge σ (nI N) (nI R) = fX9_judge_41 (nI N) (nI R) (N + 1) s 0 := by
            unfold fX9_judge mX9_judge_41
            rw [if_pos c1, if_neg c4, if_pos d0, if_pos w0, nI_clamp (by omega), hs]
          generalize hx : fX9_judge_41 (nI N) (nI R) (N + 1) s 0 = x at e9
          have hh : ∀ (r : Mm), (∀ i, i < 14 → r.1 34 i = σ.1 34 i) → (∀ i, i < 14 → r.1 34 (14 + i) = σ.1 34 i) → ∀ y, fX10_judge_64 (nI N) (nI R) (N + 1) r 0 = y → x.1 = y.1 ∧ (∀ q, q ≠ 51 → x.2.1 q = s.1 q) ∧ x.2.2 = s.2 ∧ (∀ q, q ≠ 34 → y.2.1 q = r.1 q) ∧ (∀ q, q < 14 → y.2.1 34 q = r.1 34 q) ∧ y.2.2 = r.2 := by
            intro r r1 r2 y hy
            refine jd_go (n := n) (d := d) hR (by omega) N (N + 1) (N + 1) 0 s r (by omega) (by omega) (by omega) ?_ D ?_ x y hx hy
            · exact h.2.1.congr (fun j j1 j2 => a3 j j1 j2) (fun j hj => a4 j hj) (fun j hj => r2 j hj)
            · have n8 := P.1
              exact ⟨P.1, by rw [r1 13 (by decide)]; exact P.rg.2.1, fun i hi => by
                rw [r1 i (by omega)]
                exact P.rg.2.2 i hi⟩
          obtain ⟨r, q0, q1, q2, q3, q4⟩ := jc_go (ρ := x.2) (a := nI N) (b := nI R) 15 0 x.2 (by decide) (by decide) (fun _ _ => rfl) rfl (fun _ _ => rfl) (fun i hi => absurd hi (Nat.not_lt_zero i))
          have x34 : x.2.1 34 = σ.1 34 := by
            have rr : ∃ r : Mm, (∀ i, i < 14 → r.1 34 i = σ.1 34 i) ∧ (∀ i, i < 14 → r.1 34 (14 + i) = σ.1 34 i) := ⟨(fun _ i => if i < 14 then σ.1 34 i else σ.1 34 (i - 14), σ.2), fun i hi => if_pos hi, fun i hi => by
              show (if 14 + i < 14 then σ.1 34 (14 + i) else σ.1 34 (14 + i - 14)) = σ.1 34 i
              rw [if_neg (by omega), show 14 + i - 14 = i by omega]⟩
            obtain ⟨r, r1, r2⟩ := rr
            rw [(hh r r1 r2 _ rfl).2.1 34 (by decide)]
            exact a2 34 (by decide) (by decide)
          obtain ⟨y1, y2, y3, y4, y5, y6⟩ := hh r (fun i hi => by rw [q3 i hi, x34]) (fun i hi => by rw [q4 i hi, x34]) _ rfl
          have e10 : fX10_judge x.2 (nI N) (nI R) = fX10_judge_64 (nI N) (nI R) (N + 1) r 0 := by
            unfold fX10_judge
            rw [if_pos i1, if_pos i2, q0]
            unfold fX10_judge_62 mX10_judge_64
            rw [nI_clamp (by omega)]
          generalize fX10_judge_64 (nI N) (nI R) (N + 1) r 0 = y at e10 y1 y4 y5 y6
          rw [e9]
          refine ⟨by rw [x34]; exact h.hM, ?_, ?_⟩
          · rw [e10]
            exact y1
          · rw [e10]
            have xk : ∀ q, q ≠ 51 → q ≠ 52 → x.2.1 q = σ.1 q := fun q z1 z2 => by rw [y2 q z1]; exact a2 q z1 z2
            refine h.scr (fun k k1 k2 k3 => ?_) ?_ (fun j _ => ?_) (fun j hj => ?_) ?_
            · rw [y4 k (by omega), q1 k (by omega), xk k k2 k3]
            · rw [y4 26 (by decide), q1 26 (by decide), xk 26 (by decide) (by decide)]
            · rw [y4 33 (by decide), q1 33 (by decide), xk 33 (by decide) (by decide)]
            · rw [y5 j hj, q3 j hj, x34]
            · rw [y6, q2, y3, a1]
              exact h.2.2.2.2.2
        · have i2 : ¬ fX10_in (nI R).toInt64 0 ((fX10_tenTo (2 * nI N) - 1).toInt64) = true := by
            rw [in_ti, eh, nI_toInt hR]
            intro q
            omega
          have w0 : ¬ fX9_withoutLast (nI R) (nI N) = 0 := by
            rw [wl_eq hR (by omega), show (100 : Nat) ^ N = 10 ^ (2 * N) by rw [Nat.pow_mul]]
            have := Nat.div_pos (show 10 ^ (2 * N) ≤ R by omega) p0
            exact nI_ne0 this (Nat.lt_of_le_of_lt (Nat.div_le_self _ _) hR)
          exact same (-2) (by unfold fX9_judge; rw [if_pos c1, if_neg c4, if_pos d0, if_neg w0]) (by unfold fX10_judge; rw [if_pos i1, if_neg i2])
      · exact same (-2) (by unfold fX9_judge; rw [if_pos c1, if_neg c4, if_neg d0]) (by unfold fX10_judge; rw [if_pos i1, if_neg (in_neg1 (x := 0) rfl d0)])
  · exact same (-2) (by unfold fX9_judge; rw [if_neg c1]) (by unfold fX10_judge; rw [if_neg (in_neg1 (x := 1) rfl c1)])
