/-! the years -/
theorem upL_upL {σ : Mm} {k : Nat} {v v' : Int64} : upL (upL σ k v) k v' = upL σ k v' := by
  unfold upL
  congr 1
  funext a
  by_cases h : a = k
  · rw [if_pos h, if_pos h]
  · rw [if_neg h, if_neg h]
    exact if_neg h
theorem upL_id {σ : Mm} {k : Nat} : upL σ k (σ.2 k) = σ := by
  unfold upL
  refine Prod.ext rfl ?_
  funext a
  by_cases h : a = k
  · show (if a = k then σ.2 k else σ.2 a) = σ.2 a
    rw [if_pos h, h]
  · exact if_neg h
def nxt (v : Int64) : Int64 := v * 6364136223846793005 + 1442695040888963407
def drw (v : Int64) : Int64 := rmL ((((v).toUInt64 >>> (((33 : Int32)).toInt64.toUInt64 &&& Int64.toUInt64 63)).toInt64)) 10
def ystep (D : Nat) (T : Int64) (k : Nat) (v : Int64 × Nat) : Int64 × Nat := if (v.2 &&& D).testBit k = true then (if drw (nxt v.1) < T then (nxt v.1, dif v.2 (2 ^ k)) else (nxt v.1, v.2)) else v
def yin (D : Nat) (T : Int64) : Nat → Nat → Int64 × Nat → Int64 × Nat
  | 0, _, v => v
  | j + 1, k, v => yin D T j (k + 1) (ystep D T k v)
def yout (D : Nat) (T : Int64) (n : Nat) : Nat → Int64 × Nat → Int64 × Nat
  | 0, v => v
  | j + 1, v => yout D T n j (yin D T n 0 v)
/-- a set within another -/
def sub (a b : Nat) : Prop := ∀ k, a.testBit k = true → b.testBit k = true
theorem sub_lt {a b n : Nat} (h : sub a b) (hb : b < 2 ^ n) : a < 2 ^ n := by
  apply Nat.lt_pow_two_of_testBit
  intro k hk
  cases e : a.testBit k
  · rfl
  · have := h k e
    rw [tb_big hb hk] at this
    exact absurd this (by decide)
theorem sub_dif {a b c : Nat} (h : sub a b) : sub (dif a c) b := by
  intro k hk
  unfold dif at hk
  rw [Nat.testBit_and] at hk
  exact h k (Bool.and_eq_true_iff.mp hk).1
theorem ystep_sub {D : Nat} {T : Int64} {k S : Nat} {v : Int64 × Nat} (h : sub v.2 S) : sub (ystep D T k v).2 S := by
  unfold ystep
  split
  · split
    · exact sub_dif h
    · exact h
  · exact h
theorem yin_sub {D : Nat} {T : Int64} {S : Nat} : ∀ j k v, sub v.2 S → sub (yin D T j k v).2 S := by
  intro j
  induction j with
  | zero => intro k v h; exact h
  | succ j ih => intro k v h; exact ih (k + 1) _ (ystep_sub h)
theorem yin_more {D n : Nat} {T : Int64} (hD : D < 2 ^ n) : ∀ j k v, n ≤ k → yin D T j k v = v := by
  intro j
  induction j with
  | zero => intro k v _; rfl
  | succ j ih =>
    intro k v hk
    show yin D T j (k + 1) (ystep D T k v) = v
    unfold ystep
    rw [Nat.testBit_and, tb_big hD hk, Bool.and_false, if_neg (by decide)]
    exact ih (k + 1) v (by omega)
theorem yin_add {D : Nat} {T : Int64} : ∀ i j k v, yin D T (i + j) k v = yin D T j (k + i) (yin D T i k v) := by
  intro i
  induction i with
  | zero => intro j k v; rw [Nat.zero_add]; rfl
  | succ i ih =>
    intro j k v
    rw [show i + 1 + j = (i + j) + 1 by omega]
    show yin D T (i + j) (k + 1) (ystep D T k v) = _
    rw [ih, show k + 1 + i = k + (i + 1) by omega]
    rfl
theorem yin_8 {D n : Nat} {T : Int64} (hD : D < 2 ^ n) (n8 : n ≤ 8) (v : Int64 × Nat) : yin D T 8 0 v = yin D T n 0 v := by
  obtain ⟨j, hj⟩ : ∃ j, 8 = n + j := ⟨8 - n, by omega⟩
  rw [hj, yin_add, yin_more hD _ _ _ (by omega)]
theorem cut1 : ∀ (z : Nat) k, k < 8 → nI z &&& ((1 <<< ((nI k) &&& 31)) ^^^ (-1)) = nI (dif z (2 ^ k)) := fun z k hk => by rw [bit_k k hk, nI_dif]
theorem y2_in {σ : Mm} {D S n : Nat} {M T : Int32} {kb : Mm → Int32 → Int32 → Nat → Int32 × Mm} {kk : Nat} (n8 : n ≤ 8) (S1 : S < 2 ^ n) : ∀ j m k (v : Int64 × Nat), k + j = 8 → j < m → sub v.2 S → fX0_lastAfter_27 49 M T kb m (upL σ 32 v.1) (nI v.2) (nI D) kk k = kb (upL σ 32 (yin D T.toInt64 j k v).1) (nI (yin D T.toInt64 j k v).2) (nI D) (kk + 1) := by
  intro j
  induction j with
  | zero =>
    intro m k v h1 h2 hs
    obtain ⟨m, rfl⟩ : ∃ m', m = m' + 1 := ⟨m - 1, by omega⟩
    rw [fX0_lastAfter_27, if_neg (show ¬ nI k < 8 from nI_nlt (a := k) (b := 8) (by omega) (by omega))]
    rfl
  | succ j ih =>
    intro m k v h1 h2 hs
    obtain ⟨m, rfl⟩ : ∃ m', m = m' + 1 := ⟨m - 1, by omega⟩
    have hv := sub_lt hs S1
    have hl : v.2 &&& D < 2 ^ 31 := Nat.lt_of_le_of_lt Nat.and_le_left (p31 n8 hv)
    rw [fX0_lastAfter_27, if_pos (show nI k < 8 from nI_lt (a := k) (b := 8) (by omega) (by decide)), nI_and, holds_tb hl (by omega), upL_upL, upL_eq, upL_eq, cut1 _ k (by omega)]
    show (if (v.2 &&& D).testBit k = true then (if drw (nxt v.1) < T.toInt64 then fX0_lastAfter_27 49 M T kb m (upL σ 32 (nxt v.1)) (nI (dif v.2 (2 ^ k))) (nI D) kk (k + 1) else fX0_lastAfter_27 49 M T kb m (upL σ 32 (nxt v.1)) (nI v.2) (nI D) kk (k + 1)) else fX0_lastAfter_27 49 M T kb m (upL σ 32 v.1) (nI v.2) (nI D) kk (k + 1)) = kb (upL σ 32 (yin D T.toInt64 j (k + 1) (ystep D T.toInt64 k v)).1) (nI (yin D T.toInt64 j (k + 1) (ystep D T.toInt64 k v)).2) (nI D) (kk + 1)
    unfold ystep
    by_cases q : (v.2 &&& D).testBit k = true
    · rw [if_pos q, if_pos q]
      by_cases q2 : drw (nxt v.1) < T.toInt64
      · rw [if_pos q2, if_pos q2]
        exact ih m (k + 1) (nxt v.1, dif v.2 (2 ^ k)) (by omega) (by omega) (sub_dif hs)
      · rw [if_neg q2, if_neg q2]
        exact ih m (k + 1) (nxt v.1, v.2) (by omega) (by omega) hs
    · rw [if_neg q, if_neg q]
      exact ih m (k + 1) v (by omega) (by omega) hs
theorem frail_go {r : Mm} {n C z : Nat} {d : Nat → Nat → Nat} (D : RG (r.1 34) n d) (hC : r.1 34 10 = nI C) (C1 : C < 2 ^ n) (hz : z < 2 ^ 31) : ∀ m k, n < k + m → k ≤ n → fX10_frail_4 r (nI z) m (nI (bs k fun k => z.testBit k && (!C.testBit k && d k 7 == 0))) k = nI (bs n fun k => z.testBit k && (!C.testBit k && d k 7 == 0)) := by
  have n8 := D.1
  intro m
  induction m with
  | zero => intro k h1 h2; omega
  | succ m ih =>
    intro k h1 h2
    generalize hp : (fun k => z.testBit k && (!C.testBit k && d k 7 == 0)) = p at ih ⊢
    have pk : p k = (z.testBit k && (!C.testBit k && d k 7 == 0)) := by rw [← hp]
    rw [fX10_frail_4, D.2.1]
    by_cases c : k < n
    · have g := ih (k + 1) (by omega) (by omega)
      have d7 := (D.2.2 k c).2.2.1
      rw [if_pos (nI_lt c (by omega)), has_tb hz (by omega), hC, has_tb (p31 n8 C1) (by omega), (parts10 D c).2.2.2, Io0, bit_k k (by omega), nI_or]
      by_cases q : z.testBit k = true
      · rw [if_pos q]
        by_cases q2 : C.testBit k = true
        · rw [if_pos q2, ← bs_f (n := k) (p := p) (by rw [pk, q, q2]; rfl), g]
        · rw [if_neg q2]
          by_cases q3 : d k 7 = 0
          · rw [if_pos ((n0 (by omega)).mpr q3), ← bs_t (n := k) (p := p) (by rw [pk, q, Bool.eq_false_iff.mpr q2, q3]; rfl), g]
          · rw [if_neg (fun x => q3 ((n0 (by omega)).mp x)), ← bs_f (n := k) (p := p) (by rw [pk, q, Bool.eq_false_iff.mpr q2, beq_eq_false_iff_ne.mpr q3]; rfl), g]
      · rw [if_neg q, ← bs_f (n := k) (p := p) (by rw [pk, Bool.eq_false_iff.mpr q]; rfl), g]
    · rw [if_neg (nI_nlt (by omega) (by omega)), show k = n by omega]
theorem frail10 {r : Mm} {n C z : Nat} {d : Nat → Nat → Nat} (D : RG (r.1 34) n d) (hC : r.1 34 10 = nI C) (C1 : C < 2 ^ n) (hz : z < 2 ^ 31) : fX10_frail r (nI z) = nI (bs n fun k => z.testBit k && (!C.testBit k && d k 7 == 0)) := by
  have n8 := D.1
  unfold fX10_frail mX10_frail_4
  rw [D.2.1, nI_clamp (by omega)]
  exact frail_go D hC C1 hz (n + 1) 0 (by omega) (by omega)
theorem and_m1 (x : Int32) : x &&& (-1) = x := by
  apply Int32.toBitVec_inj.mp
  show x.toBitVec &&& (BitVec.allOnes 32) = x.toBitVec
  exact BitVec.and_allOnes
theorem y10_in {r : Mm} {Dn S n C : Nat} {d : Nat → Nat → Nat} {M T : Int32} {kb : Mm → Int32 → Nat → Int32 × Mm} {kk : Nat} (D : RG (r.1 34) n d) (hC : r.1 34 10 = nI C) (C1 : C < 2 ^ n) (S1 : S < 2 ^ n) (hD : ∀ k, k < n → S.testBit k = true → Dn.testBit k = (!C.testBit k && d k 7 == 0)) : ∀ j m k (v : Int64 × Nat), k + j = n → j < m → sub v.2 S → fX10_years_45 M T kb m (upL r 33 v.1) (nI v.2) kk k = kb (upL r 33 (yin Dn T.toInt64 j k v).1) (nI (yin Dn T.toInt64 j k v).2) (kk + 1) := by
  have n8 := D.1
  intro j
  induction j with
  | zero =>
    intro m k v h1 h2 hs
    obtain ⟨m, rfl⟩ : ∃ m', m = m' + 1 := ⟨m - 1, by omega⟩
    rw [fX10_years_45, show (upL r 33 v.1).1 34 13 = nI n from D.2.1, if_neg (nI_nlt (by omega) (by omega))]
    rfl
  | succ j ih =>
    intro m k v h1 h2 hs
    obtain ⟨m, rfl⟩ : ∃ m', m = m' + 1 := ⟨m - 1, by omega⟩
    have hv := sub_lt hs S1
    have hf : fX10_has (fX10_frail (upL r 33 v.1) (nI v.2)) (nI k) = (v.2 &&& Dn).testBit k := by
      rw [frail10 (r := upL r 33 v.1) D hC C1 (p31 n8 hv), has_tb (p31 n8 (bs_lt _ n)) (by omega), bs_tb, decide_eq_true (show k < n by omega), Bool.true_and, Nat.testBit_and]
      cases e : v.2.testBit k
      · rfl
      · rw [hD k (by omega) (hs k e)]
    rw [fX10_years_45, show (upL r 33 v.1).1 34 13 = nI n from D.2.1, if_pos (nI_lt (by omega) (by omega)), hf, upL_upL, upL_eq, upL_eq, cut1 _ k (by omega), and_m1]
    show (if (v.2 &&& Dn).testBit k = true then (if drw (nxt v.1) < T.toInt64 then fX10_years_45 M T kb m (upL r 33 (nxt v.1)) (nI (dif v.2 (2 ^ k))) kk (k + 1) else fX10_years_45 M T kb m (upL r 33 (nxt v.1)) (nI v.2) kk (k + 1)) else fX10_years_45 M T kb m (upL r 33 v.1) (nI v.2) kk (k + 1)) = kb (upL r 33 (yin Dn T.toInt64 j (k + 1) (ystep Dn T.toInt64 k v)).1) (nI (yin Dn T.toInt64 j (k + 1) (ystep Dn T.toInt64 k v)).2) (kk + 1)
    unfold ystep
    by_cases q : (v.2 &&& Dn).testBit k = true
    · rw [if_pos q, if_pos q]
      by_cases q2 : drw (nxt v.1) < T.toInt64
      · rw [if_pos q2, if_pos q2]
        exact ih m (k + 1) (nxt v.1, dif v.2 (2 ^ k)) (by omega) (by omega) (sub_dif hs)
      · rw [if_neg q2, if_neg q2]
        exact ih m (k + 1) (nxt v.1, v.2) (by omega) (by omega) hs
    · rw [if_neg q, if_neg q]
      exact ih m (k + 1) v (by omega) (by omega) hs
theorem y2_out {σ : Mm} {Dn S n w M : Nat} {d : Nat → Nat → Nat} {T : Int32} (D : CH (σ.1 49) (σ.1 50) n d) (hw : σ.1 49 2 = nI w) (w4 : w ≤ 4) (S1 : S < 2 ^ n) (D1 : Dn < 2 ^ n) (M1 : M < 2 ^ 31) : ∀ j m k (v : Int64 × Nat), k + j = M → j < m → sub v.2 S → fX0_lastAfter_18 49 (nI M) T m (upL σ 32 v.1) (nI v.2) (nI Dn) k = (nI (LAb n d w (yout Dn T.toInt64 n j v).2), upL σ 32 (yout Dn T.toInt64 n j v).1) := by
  have n8 := D.1
  intro j
  induction j with
  | zero =>
    intro m k v h1 h2 hs
    obtain ⟨m, rfl⟩ : ∃ m', m = m' + 1 := ⟨m - 1, by omega⟩
    rw [fX0_lastAfter_18, if_neg (nI_nlt (by omega) (by omega)), show (upL σ 32 v.1).1 49 2 = nI w from hw, la2 (s := upL σ 32 v.1) (by decide) D (by omega) (p31 n8 (sub_lt hs S1))]
    rfl
  | succ j ih =>
    intro m k v h1 h2 hs
    obtain ⟨m, rfl⟩ : ∃ m', m = m' + 1 := ⟨m - 1, by omega⟩
    rw [fX0_lastAfter_18, if_pos (nI_lt (by omega) M1), y2_in n8 S1 8 9 0 v (by decide) (by decide) hs, yin_8 D1 n8]
    exact ih m (k + 1) _ (by omega) (by omega) (yin_sub n 0 v hs)
theorem y10_out {r : Mm} {Dn S n w C M : Nat} {d : Nat → Nat → Nat} {T : Int32} (D : RG (r.1 34) n d) (hw : r.1 34 11 = nI w) (w4 : w ≤ 4) (hC : r.1 34 10 = nI C) (C1 : C < 2 ^ n) (S1 : S < 2 ^ n) (hD : ∀ k, k < n → S.testBit k = true → Dn.testBit k = (!C.testBit k && d k 7 == 0)) (M1 : M < 2 ^ 31) : ∀ j m k (v : Int64 × Nat), k + j = M → j < m → sub v.2 S → fX10_years_36 (nI M) T m (upL r 33 v.1) (nI v.2) k = (nI (LAb n d w (yout Dn T.toInt64 n j v).2), upL r 33 (yout Dn T.toInt64 n j v).1) := by
  have n8 := D.1
  intro j
  induction j with
  | zero =>
    intro m k v h1 h2 hs
    obtain ⟨m, rfl⟩ : ∃ m', m = m' + 1 := ⟨m - 1, by omega⟩
    rw [fX10_years_36, if_neg (nI_nlt (by omega) (by omega))]
    unfold fX10_years_125
    rw [show (upL r 33 v.1).1 34 11 = nI w from hw, la10 (r := upL r 33 v.1) D (by omega) (p31 n8 (sub_lt hs S1))]
    rfl
  | succ j ih =>
    intro m k v h1 h2 hs
    obtain ⟨m, rfl⟩ : ∃ m', m = m' + 1 := ⟨m - 1, by omega⟩
    rw [fX10_years_36, if_pos (nI_lt (by omega) M1)]
    unfold mX10_years_45
    rw [show (upL r 33 v.1).1 34 13 = nI n from D.2.1, nI_clamp (by omega), y10_in (r := r) D hC C1 S1 hD n (n + 1) 0 v (by omega) (by omega) hs]
    exact ih m (k + 1) _ (by omega) (by omega) (yin_sub n 0 v hs)
theorem s_years : sc_years Rv := by
  intro σ a b h
  have same : ∀ z : Int32, fX9_years σ a b = (z, σ) → fX10_years σ a b = (z, σ) → vp_in ((fX9_years σ a b).2.1 34 13) 9 ∧ (fX9_years σ a b).1 = (fX10_years (fX9_years σ a b).2 a b).1 ∧ Rv (fX10_years (fX9_years σ a b).2 a b).2 := by
    intro z e9 e10
    rw [e9]
    show vp_in (σ.1 34 13) 9 ∧ z = (fX10_years σ a b).1 ∧ Rv (fX10_years σ a b).2
    rw [e10]
    exact ⟨h.hM, rfl, h⟩
  by_cases c1 : 1 ≤ a
  · by_cases c30 : a ≤ 30
    · have i1 : fX10_in a.toInt64 1 30 = true := in_pos (x := 1) (y := 30) rfl rfl c1 c30
      by_cases d0 : 0 ≤ b
      · by_cases d10 : 10 < b
        · exact same (-2) (by unfold fX9_years; rw [if_pos c1, if_pos c30, if_pos d0, if_pos d10]) (by unfold fX10_years; rw [if_pos i1, if_neg (in_neg2 (y := 10) rfl (Int32.not_le.mpr d10))])
        · have i2 : fX10_in b.toInt64 0 10 = true := in_pos (x := 0) (y := 10) rfl rfl d0 (Int32.not_lt.mp d10)
          obtain ⟨M, hM, rfl⟩ := nI_ex (show 0 ≤ a from Int32.le_trans (by decide) c1) (show a < nI 31 from Int32.lt_of_le_of_lt c30 (by decide)) (by decide)
          obtain ⟨n, w, B, Hd, C, Gd, d, P⟩ := h.2.1.hp
          obtain ⟨a1, a2, a3, a4, a5, a6, b1, b2, b3, b4, b5, b6, b7, b8, b9, k1, k2, k3, k4⟩ := id P
          have S1 := SH_lt n B Hd
          have eS2 := shn2 (h := 49) a1 b1 b6 b8
          have eS10 := shn10 (l := 0) a1 b2 b7 b9
          have eB2 := bk2 a1 b1 b6 k1 k3
          have eD : fX2_shown σ 49 &&& fX2_breakable σ 49 = nI (SHb n B Hd &&& BKb n B C Gd) := by rw [eS2, eB2, nI_and]
          have hD : ∀ k, k < n → (SHb n B Hd).testBit k = true → (SHb n B Hd &&& BKb n B C Gd).testBit k = (!C.testBit k && d k 7 == 0) := by
            intro k hk hs
            rw [Nat.testBit_and, hs, Bool.true_and]
            have hs' := hs
            unfold SHb at hs'
            rw [bs_tb, decide_eq_true hk, Bool.true_and] at hs'
            have hb := (Bool.and_eq_true_iff.mp hs').1
            unfold BKb
            rw [bs_tb, decide_eq_true hk, Bool.true_and, hb, Bool.true_and, Nat.testBit_eq_decide_div_mod_eq (x := Gd), (k4 k hk).2.2.2.1]
            congr 1
            have d7 := (k4 k hk).2.2.1
            rcases (show d k 7 = 0 ∨ d k 7 = 1 by omega) with e | e <;> rw [e] <;> rfl
          have D1 : SHb n B Hd &&& BKb n B C Gd < 2 ^ n := Nat.lt_of_le_of_lt Nat.and_le_left S1
          generalize hDn : SHb n B Hd &&& BKb n B C Gd = Dn at eD hD D1
          generalize hS : SHb n B Hd = S at eS2 eS10 hD S1
          have g2 := y2_out (σ := σ) (T := b) P.ch b3 (by omega) S1 D1 (show M < 2 ^ 31 by omega) M (M + 1) 0 (σ.2 32, S) (by omega) (by omega) (fun k hk => hk)
          rw [upL_id] at g2
          generalize hv : yout Dn b.toInt64 n M (σ.2 32, S) = v at g2
          have e9 : fX9_years σ (nI M) b = (nI (LAb n d w v.2), upL σ 32 v.1) := by
            have el : fX0_lastAfter σ 49 (nI M) b = (nI (LAb n d w v.2), upL σ 32 v.1) := by
              unfold fX0_lastAfter mX0_lastAfter_18
              rw [nI_clamp (by omega), eD, eS2]
              exact g2
            unfold fX9_years
            rw [if_pos c1, if_pos c30, if_pos d0, if_neg d10, el]
          have g10 := y10_out (r := upL σ 32 v.1) (T := b) P.rg b4 (by omega) k2 a5 S1 hD (show M < 2 ^ 31 by omega) M (M + 1) 0 (σ.2 32, S) (by omega) (by omega) (fun k hk => hk)
          rw [hv, show σ.2 32 = (upL σ 32 v.1).2 33 by rw [upL_ne (by decide)]; exact h.2.2.2.2.2] at g10
          rw [upL_id] at g10
          have e10 : fX10_years (upL σ 32 v.1) (nI M) b = (nI (LAb n d w v.2), upL (upL σ 32 v.1) 33 v.1) := by
            unfold fX10_years mX10_years_36
            rw [if_pos i1, if_pos i2, nI_clamp (by omega), show fX10_shown (upL σ 32 v.1) 0 = nI S from eS10]
            exact g10
          rw [e9]
          show vp_in (σ.1 34 13) 9 ∧ nI (LAb n d w v.2) = (fX10_years (upL σ 32 v.1) (nI M) b).1 ∧ Rv (fX10_years (upL σ 32 v.1) (nI M) b).2
          rw [e10]
          refine ⟨h.hM, rfl, h.scr (fun k _ _ _ => rfl) rfl (fun j _ => rfl) (fun j _ => rfl) ?_⟩
          show (upL (upL σ 32 v.1) 33 v.1).2 32 = (upL (upL σ 32 v.1) 33 v.1).2 33
          rw [upL_eq, upL_ne (by decide), upL_eq]
      · exact same (-2) (by unfold fX9_years; rw [if_pos c1, if_pos c30, if_neg d0]) (by unfold fX10_years; rw [if_pos i1, if_neg (in_neg1 (x := 0) rfl d0)])
    · exact same (-2) (by unfold fX9_years; rw [if_pos c1, if_neg c30]) (by unfold fX10_years; rw [if_neg (in_neg2 (y := 30) rfl c30)])
  · exact same (-2) (by unfold fX9_years; rw [if_neg c1]) (by unfold fX10_years; rw [if_neg (in_neg1 (x := 1) rfl c1)])
