theorem wt_go {ρ : Mm} {kb : Mm → Int32 → Nat → Mm} {x1 : Int32} {k : Nat} (hk : k < 256) {W : Nat → Nat} (hW : ∀ t, t < 8 → ρ.1 40 t = nI (W t)) : ∀ m t (s : Mm), 8 < t + m → t ≤ 8 → (∀ q, q ≠ 40 → s.1 q = ρ.1 q) → s.2 = ρ.2 → (∀ i, i < t → s.1 40 i = nI (W i + k / 2 ^ i % 2)) → (∀ i, t ≤ i → s.1 40 i = ρ.1 40 i) → ∃ τ : Mm, fX10_layWorlds_104 kb m s x1 k t = kb τ x1 (k + 1) ∧ (∀ q, q ≠ 40 → τ.1 q = ρ.1 q) ∧ τ.2 = ρ.2 ∧ ∀ i, i < 8 → τ.1 40 i = nI (W i + k / 2 ^ i % 2) := by
  intro m
  induction m with
  | zero => intro t s h1 h2; omega
  | succ m ih =>
    intro t s h1 h2 e1 e2 e3 e4
    rw [fX10_layWorlds_104]
    by_cases c : t < 8
    · rw [if_pos (show nI t < 8 from nI_lt c (by decide)), sh_bit (by omega) c, e4 t (Nat.le_refl _), hW t c, nI_add]
      refine ih (t + 1) (up s 40 t (nI (W t + k / 2 ^ t % 2))) (by omega) (by omega) (fun q hq => by rw [up_ne hq]; exact e1 q hq) e2 (fun i hi => ?_) (fun i hi => ?_)
      · by_cases e : i = t
        · subst e
          rw [up_e]
        · rw [up_n e]
          exact e3 i (by omega)
      · rw [up_n (by omega)]
        exact e4 i (by omega)
    · rw [if_neg (show ¬ nI t < 8 from nI_nlt (a := t) (b := 8) (by omega) (by omega))]
      exact ⟨s, rfl, e1, e2, fun i hi => e3 i (by omega)⟩
theorem lw_go {σ ρ : Mm} {n w B Hd L : Nat} {d : Nat → Nat → Nat} {sg : Nat → Nat × Nat × Bool} {U : Nat} {so : Nat → Bool} (D : RG (ρ.1 34) n d) (hw : ρ.1 34 11 = nI w) (w4 : w ≤ 4) (hB : ρ.1 34 8 = nI B) (hH : ρ.1 34 9 = nI Hd) (G : SG σ L sg) (e37 : ρ.1 37 = σ.1 37) (e38 : ρ.1 38 = σ.1 38) (e39 : ρ.1 39 = σ.1 39) (e33 : ρ.1 33 6 = σ.1 33 6) (hU : U < 2 ^ n) (hso : ∀ k, dif k U = 0 → so k = al L (sok n d w sg (k ||| SHb n B Hd))) : ∀ j m k (s : Mm) (v : Wv), k + j = 256 → j < m → RW s v → (∀ q, q ≠ 33 → q ≠ 40 → s.1 q = ρ.1 q) → (∀ i, i < 10 → s.1 33 i = ρ.1 33 i) → s.2 = ρ.2 → ∀ τ, fX10_layWorlds_43 m s (nI U) k = τ → RW τ (wrun so U j k v) ∧ (∀ q, q ≠ 33 → q ≠ 40 → τ.1 q = ρ.1 q) ∧ (∀ i, i < 10 → τ.1 33 i = ρ.1 33 i) ∧ τ.2 = ρ.2 := by
  have n8 := D.1
  intro j
  induction j with
  | zero =>
    intro m k s v h1 h2 hc f1 f2 f3 τ hτ
    obtain ⟨m, rfl⟩ : ∃ m', m = m' + 1 := ⟨m - 1, by omega⟩
    rw [fX10_layWorlds_43, if_neg (show ¬ nI k < 256 from nI_nlt (a := k) (b := 256) (by omega) (by omega))] at hτ
    subst hτ
    exact ⟨hc, f1, f2, f3⟩
  | succ j ih =>
    intro m k s v h1 h2 hc f1 f2 f3 τ hτ
    obtain ⟨m, rfl⟩ : ∃ m', m = m' + 1 := ⟨m - 1, by omega⟩
    have s34 : s.1 34 = ρ.1 34 := f1 34 (by decide) (by decide)
    have Ds : RG (s.1 34) n d := by rw [s34]; exact D
    have hk32 : k < 2 ^ 32 := by omega
    rw [fX10_layWorlds_43, if_pos (show nI k < 256 from nI_lt (a := k) (b := 256) (by omega) (by decide)), nI_dif, shn10 (l := 0) n8 (show s.1 34 13 = nI n from Ds.2.1) (show s.1 34 8 = nI B by rw [s34]; exact hB) (show s.1 34 9 = nI Hd by rw [s34]; exact hH), nI_or] at hτ
    have e : wrun so U (j + 1) k v = wrun so U j (k + 1) (wstep so U k v) := rfl
    rw [e]
    have hd31 : dif k U < 2 ^ 31 := Nat.lt_of_le_of_lt (dif_le k U) (by omega)
    by_cases q : dif k U = 0
    · have kU : k < 2 ^ n := by
        refine sub_lt (b := U) (fun t ht => ?_) hU
        have z : (dif k U).testBit t = false := by rw [q, Nat.zero_testBit]
        rw [dif_tb hk32, ht, Bool.true_and] at z
        cases hu : U.testBit t
        · rw [hu] at z
          exact absurd z (by decide)
        · rfl
      have hX : SHb n B Hd ||| k < 2 ^ n := Nat.or_lt_two_pow (SH_lt _ _ _) kU
      have his : fX10_isSighted s (nI (SHb n B Hd ||| k)) = so k := by
        apply Bool.eq_iff_iff.mpr
        rw [hso k q, al_iff, Nat.or_comm k]
        have g := so10 (r := s) (d := d) (w := w) Ds (by rw [s34]; exact hw) w4 G ((f1 37 (by decide) (by decide)).trans e37) ((f1 38 (by decide) (by decide)).trans e38) ((f1 39 (by decide) (by decide)).trans e39) ((f2 6 (by decide)).trans e33) hX (L + 1) 0 true (by omega) (Nat.zero_le _)
        unfold fX10_isSighted mX10_isSighted_4
        rw [f2 6 (by decide), e33, G.2.2.1, nI_clamp (by have := G.1; omega)]
        exact g.trans ⟨fun z j hj => z.2 j (Nat.zero_le _) hj, fun z => ⟨rfl, fun j _ hj => z j hj⟩⟩
      rw [if_pos ((n0 hd31).mpr q), his] at hτ
      by_cases q2 : so k = true
      · rw [if_pos q2] at hτ
        obtain ⟨w1, w2, w3, w4'⟩ := hc
        have ew : wstep so U k v = (v.1 + 1, v.2.1 &&& k, v.2.2.1 ||| k, fun t => v.2.2.2 t + k / 2 ^ t % 2) := if_pos ⟨q, q2⟩
        unfold fX10_layWorlds_92 at hτ
        rw [w1, nI_1, up_n (by decide), w2, nI_and, up_n (by decide), up_n (by decide), w3, nI_or] at hτ
        generalize hρ2 : up (up (up s 33 10 (nI (v.1 + 1))) 33 11 (nI (v.2.1 &&& k))) 33 12 (nI (v.2.2.1 ||| k)) = ρ2 at hτ
        have r40 : ρ2.1 40 = s.1 40 := by rw [← hρ2, up_ne (by decide), up_ne (by decide), up_ne (by decide)]
        have r2 : ρ2.2 = s.2 := by rw [← hρ2]; rfl
        obtain ⟨ρ3, t0, t1, t2, t3⟩ := wt_go (ρ := ρ2) (kb := fX10_layWorlds_43 m) (x1 := nI U) (k := k) (by omega) (W := v.2.2.2) (fun t ht => by rw [r40]; exact w4' t ht) 9 0 ρ2 (by decide) (by decide) (fun _ _ => rfl) rfl (fun i hi => absurd hi (Nat.not_lt_zero i)) (fun _ _ => rfl)
        rw [t0] at hτ
        refine ih m (k + 1) ρ3 (wstep so U k v) (by omega) (by omega) ?_ (fun q q1 q3 => ?_) (fun i hi => ?_) ?_ τ hτ
        · rw [ew]
          refine ⟨?_, ?_, ?_, t3⟩
          · rw [t1 33 (by decide), ← hρ2, up_n (by decide), up_n (by decide), up_e]
          · rw [t1 33 (by decide), ← hρ2, up_n (by decide), up_e]
          · rw [t1 33 (by decide), ← hρ2, up_e]
        · rw [t1 q q3, ← hρ2, up_ne q1, up_ne q1, up_ne q1]
          exact f1 q q1 q3
        · rw [t1 33 (by decide), ← hρ2, up_n (by omega), up_n (by omega), up_n (by omega)]
          exact f2 i hi
        · rw [t2, r2]
          exact f3
      · have ew : wstep so U k v = v := if_neg (fun z => q2 z.2)
        rw [if_neg q2] at hτ
        rw [ew]
        exact ih m (k + 1) s v (by omega) (by omega) hc f1 f2 f3 τ hτ
    · have ew : wstep so U k v = v := if_neg (fun z => q z.1)
      rw [if_neg (fun z => q ((n0 hd31).mp z))] at hτ
      rw [ew]
      exact ih m (k + 1) s v (by omega) (by omega) hc f1 f2 f3 τ hτ
theorem lz_go {ρ : Mm} : ∀ m t (s : Mm), 8 < t + m → t ≤ 8 → (∀ q, q ≠ 31 → s.1 q = ρ.1 q) → s.2 = ρ.2 → (∀ i, i < t → s.1 31 i = 0) → ∀ τ, fX7_learn_58 49 m s t = τ → (∀ q, q ≠ 31 → τ.1 q = ρ.1 q) ∧ τ.2 = ρ.2 ∧ ∀ i, i < 8 → τ.1 31 i = 0 := by
  intro m
  induction m with
  | zero => intro t s h1 h2; omega
  | succ m ih =>
    intro t s h1 h2 e1 e2 e3 τ hτ
    rw [fX7_learn_58] at hτ
    by_cases c : t < 8
    · rw [if_pos (show nI t < 8 from nI_lt c (by decide))] at hτ
      refine ih (t + 1) (up s 31 t 0) (by omega) (by omega) (fun q hq => by rw [up_ne hq]; exact e1 q hq) e2 (fun i hi => ?_) τ hτ
      by_cases e : i = t
      · subst e
        rw [up_e]
      · rw [up_n e]
        exact e3 i (by omega)
    · rw [if_neg (show ¬ nI t < 8 from nI_nlt (a := t) (b := 8) (by omega) (by omega))] at hτ
      subst hτ
      exact ⟨e1, e2, fun i hi => e3 i (by omega)⟩
theorem wz_go {ρ : Mm} {x1 : Int32} : ∀ m t (s : Mm), 8 < t + m → t ≤ 8 → (∀ q, q ≠ 40 → s.1 q = ρ.1 q) → s.2 = ρ.2 → (∀ i, i < t → s.1 40 i = 0) → ∃ τ : Mm, fX10_layWorlds_22 m s x1 t = fX10_layWorlds_41 τ x1 ∧ (∀ q, q ≠ 40 → τ.1 q = ρ.1 q) ∧ τ.2 = ρ.2 ∧ ∀ i, i < 8 → τ.1 40 i = 0 := by
  intro m
  induction m with
  | zero => intro t s h1 h2; omega
  | succ m ih =>
    intro t s h1 h2 e1 e2 e3
    rw [fX10_layWorlds_22]
    by_cases c : t < 8
    · rw [if_pos (show nI t < 8 from nI_lt c (by decide))]
      refine ih (t + 1) (up s 40 t 0) (by omega) (by omega) (fun q hq => by rw [up_ne hq]; exact e1 q hq) e2 (fun i hi => ?_)
      by_cases e : i = t
      · subst e
        rw [up_e]
      · rw [up_n e]
        exact e3 i (by omega)
    · rw [if_neg (show ¬ nI t < 8 from nI_nlt (a := t) (b := 8) (by omega) (by omega))]
      exact ⟨s, rfl, e1, e2, fun i hi => e3 i (by omega)⟩
theorem lrn_go {σ : Mm} {n w B Hd C Gd L : Nat} {d : Nat → Nat → Nat} {sg : Nat → Nat × Nat × Bool} (P : HP (σ.1 49) (σ.1 50) (σ.1 34) n w B Hd C Gd d) (G : SG σ L sg) : ∀ m k (s : Mm), 6 < k + m → k ≤ 6 → (∀ q, q ≠ 30 → s.1 q = σ.1 q) → s.2 = σ.2 → (∀ j, j < k → j < L → s.1 30 j = nI (lk n d w (sg j).1)) → ∀ τ, fX7_learn_2 49 m s k = τ → (∀ q, q ≠ 30 → q ≠ 31 → τ.1 q = σ.1 q) ∧ τ.2 = σ.2 ∧ (∀ j, j < L → τ.1 30 j = nI (lk n d w (sg j).1)) ∧ ∀ i, i < 8 → τ.1 31 i = 0 := by
  obtain ⟨a1, a2, a3, a4, a5, a6, b1, b2, b3, b4, b5, b6, b7, b8, b9, c1, c2, c3, c4⟩ := id P
  intro m
  induction m with
  | zero => intro k s h1 h2; omega
  | succ m ih =>
    intro k s h1 h2 e1 e2 e3 τ hτ
    rw [fX7_learn_2] at hτ
    by_cases c : k < 6
    · rw [if_pos (show nI k < 6 from nI_lt c (by decide))] at hτ
      have step : ∀ x : Int32, (k < L → x = nI (lk n d w (sg k).1)) → fX7_learn_2 49 m (up s 30 k x) (k + 1) = τ → (∀ q, q ≠ 30 → q ≠ 31 → τ.1 q = σ.1 q) ∧ τ.2 = σ.2 ∧ (∀ j, j < L → τ.1 30 j = nI (lk n d w (sg j).1)) ∧ ∀ i, i < 8 → τ.1 31 i = 0 := by
        intro x hx hτ
        refine ih (k + 1) (up s 30 k x) (by omega) (by omega) (fun q hq => by rw [up_ne hq]; exact e1 q hq) e2 (fun j hj hL => ?_) τ hτ
        by_cases e : j = k
        · subst e
          rw [up_e]
          exact hx hL
        · rw [up_n e]
          exact e3 j (by omega) hL
      have s49 : s.1 49 = σ.1 49 := e1 49 (by decide)
      have s50 : s.1 50 = σ.1 50 := e1 50 (by decide)
      have D : CH (s.1 49) (s.1 (49 + 1)) n d := by
        rw [s49, show s.1 (49 + 1) = σ.1 50 from s50]
        exact P.ch
      by_cases q : fX2_has s 49 (s.1 27 k) = true
      · rw [if_pos q] at hτ
        refine step _ (fun hk => ?_) hτ
        have s27 : s.1 27 k = nI (sg k).1 := by
          rw [e1 27 (by decide)]
          exact (G.2.2.2 k hk).2.2.1
        obtain ⟨i, hi, ei⟩ := (has_iff D.2.1 (by omega)).mp q
        have hs := (G.2.2.2 k hk).1
        rw [s27] at ei
        have ee := (nI_eq (by omega) (by omega)).mp ei
        have hlk : lk n d w (sg k).1 = ALb n d w (sg k).1 (2 ^ n - 1) ||| 2 ^ (sg k).1 := if_pos (by omega)
        unfold fX2_all
        rw [s27, s49, b1, b3, all_k n a1, al2 (by decide) D (by omega) (by omega) (p31 a1 (all_lt n)), bit_k _ hs, nI_or, hlk]
      · rw [if_neg q] at hτ
        refine step _ (fun hk => ?_) hτ
        have s27 : s.1 27 k = nI (sg k).1 := by
          rw [e1 27 (by decide)]
          exact (G.2.2.2 k hk).2.2.1
        have hlk : lk n d w (sg k).1 = 0 := if_neg (fun z => q ((has_iff D.2.1 (by omega)).mpr ⟨(sg k).1, z, s27⟩))
        rw [hlk]
        rfl
    · rw [if_neg (show ¬ nI k < 6 from nI_nlt (a := k) (b := 6) (by omega) (by omega))] at hτ
      obtain ⟨t1, t2, t3⟩ := lz_go (ρ := s) 9 0 s (by decide) (by decide) (fun _ _ => rfl) rfl (fun i hi => absurd hi (Nat.not_lt_zero i)) τ hτ
      have hL := G.1
      exact ⟨fun q q1 q2 => by rw [t1 q q2, e1 q q1], by rw [t2, e2], fun j hj => by rw [t1 30 (by decide)]; exact e3 j (by omega) hj, t3⟩
theorem ht10 {r : Mm} {n B Hd : Nat} (n8 : n ≤ 8) (e1 : r.1 34 13 = nI n) (e5 : r.1 34 8 = nI B) (e6 : r.1 34 9 = nI Hd) : fX10_hiddenThere r = nI (UNb n B Hd) := by
  unfold fX10_hiddenThere
  rw [e1, e5, e6, all_k n n8, nI_and, nI_dif]
  congr 1
  have hl : (2 ^ n - 1) &&& Hd < 2 ^ n := Nat.lt_of_le_of_lt Nat.and_le_left (all_lt n)
  refine set_ext (n := n) (dif_lt hl B) (UN_lt n B Hd) fun k hk => ?_
  unfold UNb
  rw [dif_tb (Nat.lt_trans (p31 n8 hl) (by decide)), Nat.testBit_and, all_tb, bs_tb, decide_eq_true hk, Bool.true_and, Bool.true_and, Bool.and_comm]
theorem dif_0 {U n : Nat} (n8 : n ≤ 8) (hU : U < 2 ^ n) : dif U 0 = U := by
  refine set_ext (n := n) (dif_lt hU 0) hU fun k hk => ?_
  rw [dif_tb (Nat.lt_trans (p31 n8 hU) (by decide)), Nat.zero_testBit]
  cases U.testBit k <;> rfl
/-- the worlds on both sides -/
theorem wd_all {σ : Mm} (h : Rv σ) : ∀ τ, fX7_survey σ 49 = τ → ∀ τ', fX10_layWorlds τ = τ' → ∃ n U v, n ≤ 8 ∧ U < 2 ^ n ∧ τ'.1 34 13 = nI n ∧ CW τ U v ∧ RW τ' v ∧ fX2_unseen τ 49 = nI U ∧ fX10_hiddenThere τ' = nI U ∧ (∀ t, v.2.2.2 t ≤ v.1) ∧ v.1 ≤ 256 ∧ Rv τ' ∧ vp_in (τ.1 34 13) 9 ∧ vp_in (τ.1 33 6) 7 := by
  intro τ hτ τ' hτ'
  obtain ⟨n, w, B, Hd, C, Gd, d, P⟩ := h.2.1.hp
  obtain ⟨a1, a2, a3, a4, a5, a6, b1, b2, b3, b4, b5, b6, b7, b8, b9, c1, c2, c3, c4⟩ := id P
  obtain ⟨L, sg, G⟩ := h.2.2.2.2.1.sg
  have hU := UN_lt n B Hd
  have eu : fX2_unseen σ 49 = nI (UNb n B Hd) := un2 a1 b1 b6 b8
  obtain ⟨l1, l2, l3, l4⟩ := lrn_go P G 7 0 σ (by decide) (by decide) (fun _ _ => rfl) rfl (fun j hj => absurd hj (Nat.not_lt_zero j)) (fX7_learn σ 49) rfl
  generalize hso : (fun k => al L (sok n d w sg (k ||| SHb n B Hd))) = so
  have hso' : ∀ k, dif k (UNb n B Hd) = 0 → so k = al L (sok n d w sg (k ||| SHb n B Hd)) := fun k _ => by rw [← hso]
  generalize hUU : UNb n B Hd = U at eu hU hso'
  generalize hρ : up (up (up (fX7_learn σ 49) 26 6 0) 26 7 (nI U)) 26 8 (nI U) = ρ
  have ρk : ∀ q, q ≠ 26 → q ≠ 30 → q ≠ 31 → ρ.1 q = σ.1 q := fun q q1 q2 q3 => by rw [← hρ, up_ne q1, up_ne q1, up_ne q1]; exact l1 q q2 q3
  have ρ5 : ρ.1 26 5 = σ.1 26 5 := by rw [← hρ, up_n (by decide), up_n (by decide), up_n (by decide), l1 26 (by decide) (by decide)]
  have ρ2 : ρ.2 = σ.2 := by rw [← hρ]; exact l2
  have hs : fX7_survey_27 49 257 ρ (nI U) 0 = τ := by
    rw [← hτ]
    unfold fX7_survey fX7_survey_15
    rw [eu, hρ]
  obtain ⟨t1, t2, t3, t4⟩ := sv_go (ρ := ρ) (so := so) P G (ρk 27 (by decide) (by decide) (by decide)) (ρk 28 (by decide) (by decide) (by decide)) (ρk 29 (by decide) (by decide) (by decide)) ρ5 (ρk 49 (by decide) (by decide) (by decide)) (fun j hj => by rw [← hρ, up_ne (by decide), up_ne (by decide), up_ne (by decide)]; exact l3 j hj) hU hso' 256 257 0 ρ (0, U, 0, fun _ => 0) (by decide) (by decide) ⟨by rw [← hρ, up_n (by decide), up_n (by decide), up_e]; rfl, by rw [← hρ, up_n (by decide), up_e], by rw [← hρ, up_e]; show nI U = nI (dif U 0); rw [dif_0 a1 hU], fun t ht => by rw [← hρ, up_ne (by decide), up_ne (by decide), up_ne (by decide)]; exact l4 t ht⟩ (fun _ _ _ => rfl) rfl rfl τ hs
  have τk : ∀ q, q ≠ 26 → q ≠ 30 → q ≠ 31 → τ.1 q = σ.1 q := fun q q1 q2 q3 => (t2 q q1 q3).trans (ρk q q1 q2 q3)
  have τ34 : τ.1 34 = σ.1 34 := τk 34 (by decide) (by decide) (by decide)
  have τ33 : τ.1 33 = σ.1 33 := τk 33 (by decide) (by decide) (by decide)
  have eu10 : fX10_hiddenThere τ = nI U := by rw [ht10 a1 (by rw [τ34]; exact b2) (by rw [τ34]; exact b7) (by rw [τ34]; exact b9), hUU]
  have hl0 : fX10_layWorlds_22 9 (up (up (up τ 33 10 0) 33 11 (nI U)) 33 12 0) (nI U) 0 = τ' := by
    rw [← hτ']
    unfold fX10_layWorlds fX10_layWorlds_15
    rw [eu10]
  obtain ⟨r, r0, r1, r2, r3⟩ := wz_go (ρ := up (up (up τ 33 10 0) 33 11 (nI U)) 33 12 0) (x1 := nI U) 9 0 _ (by decide) (by decide) (fun _ _ => rfl) rfl (fun i hi => absurd hi (Nat.not_lt_zero i))
  rw [r0] at hl0
  have rk : ∀ q, q ≠ 33 → q ≠ 40 → r.1 q = τ.1 q := fun q q1 q2 => by rw [r1 q q2, up_ne q1, up_ne q1, up_ne q1]
  have r33 : ∀ i, i < 10 → r.1 33 i = σ.1 33 i := fun i hi => by rw [r1 33 (by decide), up_n (by omega), up_n (by omega), up_n (by omega), τ33]
  have r34 : r.1 34 = σ.1 34 := (rk 34 (by decide) (by decide)).trans τ34
  have rr2 : r.2 = σ.2 := by
    rw [r2]
    exact t4.trans ρ2
  obtain ⟨s1, s2, s3, s4⟩ := lw_go (σ := σ) (ρ := r) (so := so) (n := n) (w := w) (B := B) (Hd := Hd) (d := d) (by rw [r34]; exact P.rg) (by rw [r34]; exact b4) (by omega) (by rw [r34]; exact b7) (by rw [r34]; exact b9) G ((rk 37 (by decide) (by decide)).trans (τk 37 (by decide) (by decide) (by decide))) ((rk 38 (by decide) (by decide)).trans (τk 38 (by decide) (by decide) (by decide))) ((rk 39 (by decide) (by decide)).trans (τk 39 (by decide) (by decide) (by decide))) (r33 6 (by decide)) hU hso' 256 257 0 r (0, U, 0, fun _ => 0) (by decide) (by decide) ⟨by rw [r1 33 (by decide), up_n (by decide), up_n (by decide), up_e]; rfl, by rw [r1 33 (by decide), up_n (by decide), up_e], by rw [r1 33 (by decide), up_e]; rfl, fun t ht => r3 t ht⟩ (fun _ _ _ => rfl) (fun _ _ => rfl) rfl τ' hl0
  have k34 : τ'.1 34 = σ.1 34 := (s2 34 (by decide) (by decide)).trans r34
  have wl := wrun_le (so := so) (U := U) 256 0 (0, U, 0, fun _ => 0) (Nat.le_refl _) (fun _ => Nat.le_refl _)
  refine ⟨n, U, wrun so U 256 0 (0, U, 0, fun _ => 0), a1, hU, by rw [k34]; exact b2, t1, s1, ?_, ?_, wl.2, wl.1, ?_, by rw [τ34]; exact h.hM, by rw [τ33]; exact h.hS⟩
  · have τ49 := τk 49 (by decide) (by decide) (by decide)
    rw [un2 (n := n) (B := B) (Hd := Hd) a1 (by rw [τ49]; exact b1) (by rw [τ49]; exact b6) (by rw [τ49]; exact b8), hUU]
  · rw [ht10 a1 (by rw [k34]; exact b2) (by rw [k34]; exact b7) (by rw [k34]; exact b9), hUU]
  · refine h.scr (fun k k1 k2 k3 => ?_) ?_ (fun j hj => (s3 j hj).trans (r33 j hj)) (fun j _ => by rw [k34]) ?_
    · rw [s2 k (by omega) (by omega), rk k (by omega) (by omega), τk k (by omega) (by omega) (by omega)]
    · rw [s2 26 (by decide) (by decide), rk 26 (by decide) (by decide), t3, ρ5]
    · rw [s4, rr2]
      exact h.2.2.2.2.2
theorem s_worlds : sc_worlds Rv := by
  intro σ a h
  have same : ∀ z : Int32, fX9_worlds σ a = (z, σ) → fX10_worlds σ a = (z, σ) → vp_in ((fX9_worlds σ a).2.1 34 13) 9 ∧ vp_in ((fX9_worlds σ a).2.1 33 6) 7 ∧ (fX9_worlds σ a).1 = (fX10_worlds (fX9_worlds σ a).2 a).1 ∧ Rv (fX10_worlds (fX9_worlds σ a).2 a).2 := by
    intro z e9 e10
    rw [e9]
    show vp_in (σ.1 34 13) 9 ∧ vp_in (σ.1 33 6) 7 ∧ z = (fX10_worlds σ a).1 ∧ Rv (fX10_worlds σ a).2
    rw [e10]
    exact ⟨h.hM, h.hS, rfl, h⟩
  by_cases c0 : 0 ≤ a
  · by_cases c2 : 2 < a
    · exact same (-2) (by unfold fX9_worlds; rw [if_pos c0, if_pos c2]) (by unfold fX10_worlds; rw [if_neg (in_neg2 (y := 2) rfl (Int32.not_le.mpr c2))])
    · have hin : fX10_in a.toInt64 0 2 = true := in_pos (x := 0) (y := 2) rfl rfl c0 (Int32.not_lt.mp c2)
      generalize hτ : fX7_survey σ 49 = τ
      generalize hτ' : fX10_layWorlds τ = τ'
      obtain ⟨n, U, v, n8, hU, e13, ⟨w1, w2, w3, w4⟩, ⟨x1, x2, x3, x4⟩, u1, u2, v1, v2, hR, m1, m2⟩ := wd_all h τ hτ τ' hτ'
      have e9 : fX9_worlds σ a = (if a = 0 then nI v.1 else if nI v.1 = 0 then -9 else if a = 1 then nI v.2.1 else nI (dif U v.2.2.1), τ) := by
        unfold fX9_worlds
        rw [if_pos c0, if_neg c2, hτ, w1, w2, w3]
        by_cases z : a = 0
        · rw [if_pos z, if_pos z]
        · rw [if_neg z, if_neg z]
          by_cases y : nI v.1 = 0
          · rw [if_pos y, if_pos y]
          · rw [if_neg y, if_neg y]
            by_cases x : a = 1
            · rw [if_pos x, if_pos x]
            · rw [if_neg x, if_neg x]
      have e10 : fX10_worlds τ a = (if a = 0 then nI v.1 else if nI v.1 = 0 then -9 else if a = 1 then nI v.2.1 else nI (dif U v.2.2.1), τ') := by
        unfold fX10_worlds
        rw [if_pos hin, hτ', x1, x2, x3, u2, nI_dif]
        by_cases z : a = 0
        · rw [if_pos z, if_pos z]
        · rw [if_neg z, if_neg z]
          by_cases y : nI v.1 = 0
          · rw [if_pos y, if_pos y]
          · rw [if_neg y, if_neg y]
            by_cases x : a = 1
            · rw [if_pos x, if_pos x]
            · rw [if_neg x, if_neg x]
      rw [e9]
      generalize (if a = 0 then nI v.1 else if nI v.1 = 0 then -9 else if a = 1 then nI v.2.1 else nI (dif U v.2.2.1)) = z at e10
      show vp_in (τ.1 34 13) 9 ∧ vp_in (τ.1 33 6) 7 ∧ z = (fX10_worlds τ a).1 ∧ Rv (fX10_worlds τ a).2
      rw [e10]
      exact ⟨m1, m2, rfl, hR⟩
  · exact same (-2) (by unfold fX9_worlds; rw [if_neg c0]) (by unfold fX10_worlds; rw [if_neg (in_neg1 (x := 0) rfl c0)])
theorem mt_tr {τ : Mm} {n U : Nat} (n8 : n ≤ 8) (hU : U < 2 ^ n) : ∀ m k (x y : Int32), 8 < k + m → k ≤ 8 → n ≤ k → fX7_mostTelling_25 τ 49 m (nI U) x y k = x := by
  intro m
  induction m with
  | zero => intro k x y h1 h2; omega
  | succ m ih =>
    intro k x y h1 h2 h3
    rw [fX7_mostTelling_25]
    by_cases c : k < 8
    · rw [if_pos (show nI k < 8 from nI_lt c (by decide)), holds_tb (p31 n8 hU) c, tb_big hU h3, if_neg (by decide)]
      exact ih (k + 1) x y (by omega) (by omega) (by omega)
    · rw [if_neg (show ¬ nI k < 8 from nI_nlt (a := k) (b := 8) (by omega) (by omega))]
def mn (a b : Nat) : Nat := if b - a < a then b - a else a
theorem mn_2 {a b : Nat} (h : a ≤ b) (hb : b ≤ 256) : (if nI b - nI a < nI a then nI b - nI a else nI a) = nI (mn a b) := by
  rw [pk_sub h]
  unfold mn
  by_cases c : b - a < a
  · rw [if_pos (nI_lt c (by omega)), if_pos c]
  · rw [if_neg (nI_nlt (by omega) (by omega)), if_neg c]
theorem mn_10 {a b : Nat} (h : a ≤ b) (hb : b ≤ 256) : (if nI a < nI b - nI a then nI a else nI b - nI a) = nI (mn a b) := by
  rw [pk_sub h]
  unfold mn
  by_cases c : b - a < a
  · rw [if_neg (nI_nlt (by omega) (by omega)), if_pos c]
  · rw [if_neg c]
    by_cases c2 : a < b - a
    · rw [if_pos (nI_lt c2 (by omega))]
    · rw [if_neg (nI_nlt (by omega) (by omega))]
      congr 1
      omega
theorem mn_le {a b : Nat} (h : a ≤ b) : mn a b ≤ b := by
  unfold mn
  split <;> omega
theorem neg_lt {x : Int32} (hx : x.toInt < 0) {a : Nat} (ha : a < 2 ^ 31) : x < nI a := by
  rw [Int32.lt_iff_toInt_lt, nI_toInt ha]
  omega
theorem ms_go {τ τ' : Mm} {n U : Nat} {v : Wv} (n8 : n ≤ 8) (hU : U < 2 ^ n) (e13 : τ'.1 34 13 = nI n) (hc : CW τ U v) (hr : RW τ' v) (hu : fX10_hiddenThere τ' = nI U) (v1 : ∀ t, v.2.2.2 t ≤ v.1) (v2 : v.1 ≤ 256) (hp : 0 < v.1) : ∀ j m m' k (x y y' : Int32), k + j = n → 8 < k + m → j < m' → ((y.toInt < 0 ∧ y'.toInt < 0) ∨ y = y') → fX7_mostTelling_25 τ 49 m (nI U) x y k = (fX10_toSeek_12 m' τ' x y' k).1 ∧ (fX10_toSeek_12 m' τ' x y' k).2 = τ' := by
  obtain ⟨w1, w2, w3, w4⟩ := hc
  obtain ⟨x1, x2, x3, x4⟩ := hr
  intro j
  induction j with
  | zero =>
    intro m m' k x y y' h1 h2 h3 h4
    obtain ⟨m', rfl⟩ : ∃ z, m' = z + 1 := ⟨m' - 1, by omega⟩
    rw [mt_tr n8 hU m k x y h2 (by omega) (by omega), fX10_toSeek_12, e13, if_neg (nI_nlt (by omega) (by omega))]
    exact ⟨rfl, rfl⟩
  | succ j ih =>
    intro m m' k x y y' h1 h2 h3 h4
    obtain ⟨m, rfl⟩ : ∃ z, m = z + 1 := ⟨m - 1, by omega⟩
    obtain ⟨m', rfl⟩ : ∃ z, m' = z + 1 := ⟨m' - 1, by omega⟩
    have hk : k < 8 := by omega
    have lt : (if y < nI (mn (v.2.2.2 k) v.1) then true else false) = (if y' < nI (mn (v.2.2.2 k) v.1) then true else false) := by
      have hm := mn_le (v1 k)
      rcases h4 with ⟨q1, q2⟩ | rfl
      · rw [if_pos (neg_lt q1 (by omega)), if_pos (neg_lt q2 (by omega))]
      · rfl
    have keep := ih m m' (k + 1) x y y' (by omega) (by omega) (by omega) h4
    have take := ih m m' (k + 1) (nI k) (nI (mn (v.2.2.2 k) v.1)) (nI (mn (v.2.2.2 k) v.1)) (by omega) (by omega) (by omega) (Or.inr rfl)
    rw [fX7_mostTelling_25, if_pos (show nI k < 8 from nI_lt hk (by decide)), holds_tb (p31 n8 hU) hk, w1, w4 k hk, mn_2 (v1 k) v2]
    have e67 : (if (τ'.1 40 k) < ((τ'.1 33 10) - (τ'.1 40 k)) then (fX10_toSeek_67 (fX10_toSeek_12 m') τ' x y' k (τ'.1 40 k)) else (fX10_toSeek_67 (fX10_toSeek_12 m') τ' x y' k ((τ'.1 33 10) - (τ'.1 40 k)))) = fX10_toSeek_67 (fX10_toSeek_12 m') τ' x y' k (nI (mn (v.2.2.2 k) v.1)) := by
      rw [x1, x4 k hk, ← mn_10 (v1 k) v2]
      by_cases z : nI (v.2.2.2 k) < nI v.1 - nI (v.2.2.2 k)
      · rw [if_pos z, if_pos z]
      · rw [if_neg z, if_neg z]
    rw [fX10_toSeek_12, e13, if_pos (nI_lt (by omega) (by omega)), if_pos (show 0 < τ'.1 33 10 by rw [x1]; exact nI_lt (a := 0) hp (by omega)), e67]
    unfold fX10_toSeek_67 fX10_toSeek_90 fX10_toSeek_91 fX10_toSeek_103
    rw [hu, has_tb (p31 n8 hU) hk, if_pos (show true = true from rfl), if_neg (show ¬ false = true by decide), if_pos (show true = true from rfl), if_neg (show ¬ false = true by decide)]
    by_cases q : U.testBit k = true
    · rw [if_pos q, if_pos q]
      by_cases q2 : y < nI (mn (v.2.2.2 k) v.1)
      · have q3 : y' < nI (mn (v.2.2.2 k) v.1) := by
          rw [if_pos q2] at lt
          by_cases z : y' < nI (mn (v.2.2.2 k) v.1)
          · exact z
          · rw [if_neg z] at lt
            exact absurd lt (by decide)
        rw [if_pos q2, if_pos q3]
        exact take
      · have q3 : ¬ y' < nI (mn (v.2.2.2 k) v.1) := by
          intro z
          rw [if_neg q2, if_pos z] at lt
          exact absurd lt (by decide)
        rw [if_neg q2, if_neg q3]
        exact keep
    · rw [if_neg q, if_neg q]
      exact keep
theorem s_toSeek : sc_toSeek Rv := by
  intro σ h
  generalize hτ : fX7_survey σ 49 = τ
  generalize hτ' : fX10_layWorlds τ = τ'
  obtain ⟨n, U, v, n8, hU, e13, hc, hr, u1, u2, v1, v2, hR, m1, m2⟩ := wd_all h τ hτ τ' hτ'
  have e9 : fX9_toSeek σ = (fX7_mostTelling τ 49, τ) := by
    unfold fX9_toSeek
    rw [hτ]
  have e10 : fX10_toSeek τ = fX10_toSeek_12 (n + 1) τ' (-9) (-9) 0 := by
    unfold fX10_toSeek mX10_toSeek_12
    rw [hτ', e13, nI_clamp (by omega)]
  have main : fX7_mostTelling τ 49 = (fX10_toSeek_12 (n + 1) τ' (-9) (-9) 0).1 ∧ (fX10_toSeek_12 (n + 1) τ' (-9) (-9) 0).2 = τ' := by
    unfold fX7_mostTelling fX7_mostTelling_15
    rw [u1, hc.1]
    by_cases hp : 0 < v.1
    · rw [if_pos (show 0 < nI v.1 from nI_lt (a := 0) hp (by omega))]
      exact ms_go n8 hU e13 hc hr u2 v1 v2 hp n 9 (n + 1) 0 (-9) (-1) (-9) (by omega) (by decide) (by omega) (Or.inl ⟨by decide, by decide⟩)
    · have h0 : v.1 = 0 := by omega
      rw [h0, if_neg (show ¬ 0 < nI 0 by decide)]
      have z := mt_tr (τ := τ) (n := 0) (U := 0) (by decide) (by decide) 9 0 (-9) (-1) (by decide) (by decide) (by decide)
      have z : fX7_mostTelling_25 τ 49 9 0 (-9) (-1) 0 = -9 := z
      rw [z, fX10_toSeek_12, hr.1, h0, if_neg (show ¬ 0 < nI 0 by decide), ite_self]
      exact ⟨rfl, rfl⟩
  rw [e9]
  show vp_in (τ.1 34 13) 9 ∧ vp_in (τ.1 33 6) 7 ∧ fX7_mostTelling τ 49 = (fX10_toSeek τ).1 ∧ Rv (fX10_toSeek τ).2
  rw [e10, main.2]
  exact ⟨m1, m2, main.1, hR⟩
