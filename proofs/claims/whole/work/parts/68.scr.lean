/-- only what is laid by the way changed -/
theorem Rv.scr {σ τ : Mm} (h : Rv σ) (e : ∀ k, (k < 6 ∨ (27 ≤ k ∧ k ≤ 29) ∨ (35 ≤ k ∧ k ≤ 39) ∨ 47 ≤ k) → k ≠ 51 → k ≠ 52 → τ.1 k = σ.1 k) (e26 : τ.1 26 5 = σ.1 26 5) (e33 : ∀ j, j < 10 → τ.1 33 j = σ.1 33 j) (e34 : ∀ j, j < 14 → τ.1 34 j = σ.1 34 j) (e2 : τ.2 32 = τ.2 33) : Rv τ := by
  obtain ⟨h1, h2, h3, h4, h5, h6⟩ := h
  refine ⟨h1.fr (e 2 (by omega) (by omega) (by omega)) (e 3 (by omega) (by omega) (by omega)) (e 35 (by omega) (by omega) (by omega)) (e33 2 (by decide)), h2.congr (fun j j1 j2 => ?_) (fun j hj => ?_) (fun j hj => e34 j hj), h3.fr (e 4 (by omega) (by omega) (by omega)) (e 36 (by omega) (by omega) (by omega)) (e33 3 (by decide)) (e33 4 (by decide)) (fun k hk => e k (by omega) (by omega) (by omega)), h4.fr (by rw [e 0 (by omega) (by omega) (by omega)]) (e 47 (by omega) (by omega) (by omega)) (e 48 (by omega) (by omega) (by omega)) (fun k hk _ => e k (by omega) (by omega) (by omega)), h5.fr e26 (e 27 (by omega) (by omega) (by omega)) (e 28 (by omega) (by omega) (by omega)) (e 29 (by omega) (by omega) (by omega)) (e33 6 (by decide)) (e 37 (by omega) (by omega) (by omega)) (e 38 (by omega) (by omega) (by omega)) (e 39 (by omega) (by omega) (by omega)), e2⟩
  · rw [e 49 (by omega) (by omega) (by omega)]
  · rw [e 50 (by omega) (by omega) (by omega)]
/-! the best word -/
theorem abs_apart : ∀ a, a < 5 → ∀ b, b < 5 → (if 0 ≤ nI a - nI b then nI a - nI b else 0 - (nI a - nI b)) = fX10_apart (nI a) (nI b) := by decide +kernel
theorem bw_go {σ : Mm} (hl : ∀ k, k < 5 → fX5_lastBy σ 49 (nI k) = fX10_ones (fX10_lastOf σ (fX10_shown σ 0) (nI k))) {w : Nat} (hw : w < 5) (e2 : σ.1 49 2 = nI w) (e11 : σ.1 34 11 = nI w) (a : Int32) : ∀ m k x, 5 < k + m → k ≤ 5 → x < 5 → ∃ y, y < 5 ∧ fX5_wordOfMostLast_4 σ 49 m (nI x) k = nI y ∧ fX10_bestWord_17 σ a m (nI x) k = fX10_bestWord_98 σ a (nI y) := by
  intro m
  induction m with
  | zero => intro k x h1 h2; omega
  | succ m ih =>
    intro k x h1 h2 hx
    show ∃ y, y < 5 ∧ (if nI k ≤ 4 then (if (if 0 ≤ ((nI k) - (σ.1 49 2)) then ((nI k) - (σ.1 49 2)) else 0 - ((nI k) - (σ.1 49 2))) < (if 0 ≤ (nI x - (σ.1 49 2)) then (nI x - (σ.1 49 2)) else 0 - (nI x - (σ.1 49 2))) then (fX5_wordOfMostLast_50 σ 49 (fX5_wordOfMostLast_4 σ 49 m) (nI x) k ((fX5_lastBy σ 49 (nI k)) - (fX5_lastBy σ 49 (nI x))) true) else (fX5_wordOfMostLast_50 σ 49 (fX5_wordOfMostLast_4 σ 49 m) (nI x) k ((fX5_lastBy σ 49 (nI k)) - (fX5_lastBy σ 49 (nI x))) false)) else nI x) = nI y ∧ (if (nI k) < 5 then (if ((fX10_ones (fX10_lastOf σ (fX10_shown σ 0) (nI k))) - (fX10_ones (fX10_lastOf σ (fX10_shown σ 0) (nI x)))) ≤ 0 then (if ((fX10_ones (fX10_lastOf σ (fX10_shown σ 0) (nI k))) - (fX10_ones (fX10_lastOf σ (fX10_shown σ 0) (nI x)))) = 0 then (if (fX10_apart (nI k) (σ.1 34 11)) < (fX10_apart (nI x) (σ.1 34 11)) then (fX10_bestWord_17 σ a m (nI k) (k + 1)) else (fX10_bestWord_17 σ a m (nI x) (k + 1))) else (fX10_bestWord_17 σ a m (nI x) (k + 1))) else (fX10_bestWord_17 σ a m (nI k) (k + 1))) else (fX10_bestWord_98 σ a (nI x))) = fX10_bestWord_98 σ a (nI y)
    by_cases c : k < 5
    · rw [if_pos (show nI k ≤ 4 from nI_le (a := k) (b := 4) (by omega) (by decide)), if_pos (show nI k < 5 from nI_lt c (by decide)), hl k c, hl x hx, e2, e11, abs_apart k c w hw, abs_apart x hx w hw]
      generalize (fX10_ones (fX10_lastOf σ (fX10_shown σ 0) (nI k))) - (fX10_ones (fX10_lastOf σ (fX10_shown σ 0) (nI x))) = M
      have gk := ih (k + 1) k (by omega) (by omega) c
      have gx := ih (k + 1) x (by omega) (by omega) hx
      unfold fX5_wordOfMostLast_50
      by_cases q1 : M ≤ 0
      · by_cases q2 : M = 0
        · by_cases q3 : fX10_apart (nI k) (nI w) < fX10_apart (nI x) (nI w)
          · rw [if_pos q3, if_pos q1, if_pos q2, if_pos rfl, if_pos q1, if_pos q2, if_pos q3]
            exact gk
          · rw [if_neg q3, if_pos q1, if_pos q2, if_neg (by decide), if_pos q1, if_pos q2, if_neg q3]
            exact gx
        · rw [if_pos q1, if_neg q2, if_pos q1, if_neg q2, if_pos q1, if_neg q2, ite_self]
          exact gx
      · rw [if_neg q1, if_neg q1, if_neg q1, ite_self]
        exact gk
    · rw [if_neg (show ¬ nI k ≤ 4 from nI_ge (a := 4) (b := k) (by omega) (by omega)), if_neg (show ¬ nI k < 5 from nI_nlt (a := k) (b := 5) (by omega) (by omega))]
      exact ⟨x, hx, rfl, rfl⟩
theorem s_bestWord : sc_bestWord Rv := by
  intro σ a h
  refine ⟨h.hM, ?_, h⟩
  obtain ⟨n, w, B, Hd, C, Gd, d, P⟩ := h.2.1.hp
  obtain ⟨a1, a2, a3, a4, a5, a6, b1, b2, b3, b4, b5, b6, b7, b8, b9, c1, c2, c3, c4⟩ := id P
  have hl : ∀ k, k < 5 → fX5_lastBy σ 49 (nI k) = fX10_ones (fX10_lastOf σ (fX10_shown σ 0) (nI k)) := fun k hk => by
    unfold fX5_lastBy
    rw [shn2 a1 b1 b6 b8, shn10 (l := 0) a1 b2 b7 b9, la2 (by decide) P.ch (by omega) (p31 a1 (SH_lt _ _ _)), la10 P.rg (by omega) (p31 a1 (SH_lt _ _ _)), ones_eq _ (p8 a1 (LA_lt _ _ _ _))]
  obtain ⟨y, hy, e1, e2⟩ := bw_go hl (by omega) b3 b4 a 6 2 1 (by decide) (by decide) (by decide)
  have e1 : fX5_wordOfMostLast σ 49 = nI y := e1
  have e2 : fX10_bestWord_17 σ a 6 1 2 = fX10_bestWord_98 σ a (nI y) := e2
  unfold fX9_bestWord fX10_bestWord
  rw [e1, e2]
  by_cases c0 : 0 ≤ a
  · by_cases c1 : 1 < a
    · rw [if_pos c0, if_pos c1, if_neg (in_neg2 (y := 1) rfl (Int32.not_le.mpr c1))]
    · rw [if_pos c0, if_neg c1, if_pos (in_pos (x := 0) (y := 1) rfl rfl c0 (Int32.not_lt.mp c1)), hl y hy]
      rfl
  · rw [if_neg c0, if_neg (in_neg1 (x := 0) rfl c0)]
/-! the copy -/
theorem allQ {Q : Nat → Prop} {k N : Nat} (h : Q k) : (∀ o, k + 1 ≤ o → o < N → Q o) ↔ (∀ o, k ≤ o → o < N → Q o) := by
  constructor
  · intro q o h1 h2
    by_cases e : o = k
    · subst e
      exact h
    · exact q o (by omega) h2
  · intro q o h1 h2
    exact q o (by omega) h2
theorem fr_go {σ : Mm} {n w S t x : Nat} {d : Nat → Nat → Nat} (D : CH (σ.1 49) (σ.1 50) n d) (hS : fX2_shown σ 49 = nI S) (S1 : S < 2 ^ n) (hw : σ.1 49 2 = nI w) (w4 : w ≤ 4) (ht : t < n) (hx : x < 16) : ∀ m k, 8 < k + m → k ≤ 8 → (fX5_frees_15 σ 49 (nI t) (nI x) m k = true ↔ ∀ o, k ≤ o → o < 8 → (o = t ∨ S.testBit o = false ∨ pc (x &&& eqs d t o) < w)) := by
  have n8 := D.1
  intro m
  induction m with
  | zero => intro k h1 h2; omega
  | succ m ih =>
    intro k h1 h2
    show ((if nI k < 8 then (if nI k = nI t then (if false = true then (if (σ.1 49 2) ≤ (fJ6_bitCount (nI x &&& (fX2_sameMarks σ 49 (nI t) (nI k)))) then false else (fX5_frees_15 σ 49 (nI t) (nI x) m (k + 1))) else (fX5_frees_15 σ 49 (nI t) (nI x) m (k + 1))) else (if (fX9_holds (fX2_shown σ 49) (nI k)) = true then (if true = true then (if (σ.1 49 2) ≤ (fJ6_bitCount (nI x &&& (fX2_sameMarks σ 49 (nI t) (nI k)))) then false else (fX5_frees_15 σ 49 (nI t) (nI x) m (k + 1))) else (fX5_frees_15 σ 49 (nI t) (nI x) m (k + 1))) else (if false = true then (if (σ.1 49 2) ≤ (fJ6_bitCount (nI x &&& (fX2_sameMarks σ 49 (nI t) (nI k)))) then false else (fX5_frees_15 σ 49 (nI t) (nI x) m (k + 1))) else (fX5_frees_15 σ 49 (nI t) (nI x) m (k + 1))))) else true) = true) ↔ _
    by_cases c : k < 8
    · have g := ih (k + 1) (by omega) (by omega)
      rw [if_pos (show nI k < 8 from nI_lt c (by decide)), if_neg (show ¬ false = true by decide), if_pos (show true = true from rfl), hS, holds_tb (p31 n8 S1) c]
      by_cases e1 : k = t
      · rw [if_pos (congrArg nI e1), g]
        exact allQ (Or.inl e1)
      · rw [if_neg (fun q => e1 ((nI_eq (by omega) (by omega)).mp q))]
        by_cases e2 : S.testBit k = true
        · have hk : k < n := by
            by_cases q : k < n
            · exact q
            · rw [tb_big S1 (by omega)] at e2
              exact absurd e2 (by decide)
          have l16 : x &&& eqs d t k < 256 := Nat.lt_of_le_of_lt Nat.and_le_left (by omega)
          rw [if_pos e2, hw, same2 (by decide) D ht hk, nI_and, bits_pc l16]
          by_cases e3 : w ≤ pc (x &&& eqs d t k)
          · rw [if_pos ((nI_leI (by omega) (Nat.lt_of_le_of_lt (pc_le _) (by decide))).mpr e3)]
            refine ⟨fun q => absurd q (by decide), fun q => ?_⟩
            rcases q k (Nat.le_refl _) c with q | q | q
            · exact absurd q e1
            · rw [q] at e2
              exact absurd e2 (by decide)
            · omega
          · rw [if_neg (fun q => e3 ((nI_leI (by omega) (Nat.lt_of_le_of_lt (pc_le _) (by decide))).mp q)), g]
            exact allQ (Or.inr (Or.inr (by omega)))
        · rw [if_neg e2, g]
          exact allQ (Or.inr (Or.inl (Bool.eq_false_iff.mpr e2)))
    · rw [if_neg (show ¬ nI k < 8 from nI_nlt (a := k) (b := 8) (by omega) (by omega))]
      exact ⟨fun _ o h3 h4 => absurd h4 (by omega), fun _ => rfl⟩
theorem cp_go {σ : Mm} {n w S t x : Nat} {d : Nat → Nat → Nat} {kb : Int32 → Nat → Int32} {y : Int32} (D : RG (σ.1 34) n d) (hS : fX10_shown σ 0 = nI S) (S1 : S < 2 ^ n) (hw : σ.1 34 11 = nI w) (w4 : w ≤ 4) (ht : t < n) (hx : x < 16) : ∀ m k b, n < k + m → k ≤ n → ∃ b', fX10_copy_62 σ (nI t) kb m y x b k = fX10_copy_130 σ (nI t) kb y x b' ∧ (b' = true ↔ b = true ∧ ∀ o, k ≤ o → o < n → (o = t ∨ S.testBit o = false ∨ pc (x &&& eqs d t o) < w)) := by
  have n8 := D.1
  intro m
  induction m with
  | zero => intro k b h1 h2; omega
  | succ m ih =>
    intro k b h1 h2
    show ∃ b', (if nI k < (σ.1 34 13) then (if b = true then (if nI k = nI t then (fX10_copy_62 σ (nI t) kb m y x true (k + 1)) else (if (fX10_has (fX10_shown σ 0) (nI k)) = true then (if (fX10_ones ((nI x) &&& (fX10_same σ (nI t) (nI k)))) < (σ.1 34 11) then (fX10_copy_62 σ (nI t) kb m y x true (k + 1)) else (fX10_copy_62 σ (nI t) kb m y x false (k + 1))) else (fX10_copy_62 σ (nI t) kb m y x true (k + 1)))) else (fX10_copy_130 σ (nI t) kb y x b)) else (fX10_copy_130 σ (nI t) kb y x b)) = _ ∧ _
    rw [D.2.1]
    by_cases c : k < n
    · rw [if_pos (nI_lt c (by omega))]
      cases b
      · rw [if_neg (by decide)]
        exact ⟨false, rfl, fun q => absurd q (by decide), fun q => absurd q.1 (by decide)⟩
      · obtain ⟨bt, g1, g2⟩ := ih (k + 1) true (by omega) (by omega)
        rw [if_pos rfl, hS, has_tb (p31 n8 S1) (by omega)]
        by_cases e1 : k = t
        · rw [if_pos (congrArg nI e1)]
          exact ⟨bt, g1, g2.trans (and_congr_right fun _ => allQ (Or.inl e1))⟩
        · rw [if_neg (fun q => e1 ((nI_eq (by omega) (by omega)).mp q))]
          by_cases e2 : S.testBit k = true
          · have l16 : x &&& eqs d t k < 256 := Nat.lt_of_le_of_lt Nat.and_le_left (by omega)
            rw [if_pos e2, hw, same10 D ht c, nI_and, ones_pc _ l16]
            by_cases e3 : pc (x &&& eqs d t k) < w
            · rw [if_pos ((nI_ltI (Nat.lt_of_le_of_lt (pc_le _) (by decide)) (by omega)).mpr e3)]
              exact ⟨bt, g1, g2.trans (and_congr_right fun _ => allQ (Or.inr (Or.inr e3)))⟩
            · obtain ⟨bf, f1, f2⟩ := ih (k + 1) false (by omega) (by omega)
              rw [if_neg (fun q => e3 ((nI_ltI (Nat.lt_of_le_of_lt (pc_le _) (by decide)) (by omega)).mp q))]
              refine ⟨bf, f1, fun q => absurd (f2.mp q).1 (by decide), fun q => ?_⟩
              rcases q.2 k (Nat.le_refl _) c with q | q | q
              · exact absurd q e1
              · rw [q] at e2
                exact absurd e2 (by decide)
              · exact absurd q e3
          · rw [if_neg e2]
            exact ⟨bt, g1, g2.trans (and_congr_right fun _ => allQ (Or.inr (Or.inl (Bool.eq_false_iff.mpr e2))))⟩
    · rw [if_neg (nI_nlt (by omega) (by omega))]
      exact ⟨b, rfl, fun q => ⟨q, fun o h3 h4 => absurd h4 (by omega)⟩, fun q => q.1⟩
theorem cpy_go {σ : Mm} {n w B Hd C Gd t : Nat} {d : Nat → Nat → Nat} (P : HP (σ.1 49) (σ.1 50) (σ.1 34) n w B Hd C Gd d) (ht : t < n) : ∀ m k x, (x = (-9 : Int32) ∨ ∃ y, y < 16 ∧ x = nI y) → 16 < k + m → k ≤ 16 → fX5_leastCopy_6 σ 49 (nI t) m x k = fX10_copy_32 σ (nI t) m x k := by
  obtain ⟨a1, a2, a3, a4, a5, a6, b1, b2, b3, b4, b5, b6, b7, b8, b9, c1, c2, c3, c4⟩ := id P
  intro m
  induction m with
  | zero => intro k x h1 h2; omega
  | succ m ih =>
    intro k x hx h1 h2
    show (if (nI k) < 16 then (if x = (-9) then (fX5_leastCopy_36 σ 49 (nI t) (fX5_leastCopy_6 σ 49 (nI t) m) x k true) else (if (fJ6_bitCount (nI k)) < (fJ6_bitCount x) then (fX5_leastCopy_36 σ 49 (nI t) (fX5_leastCopy_6 σ 49 (nI t) m) x k true) else (fX5_leastCopy_36 σ 49 (nI t) (fX5_leastCopy_6 σ 49 (nI t) m) x k false))) else x) = (if (nI k) < 16 then (if (σ.1 34 11) ≤ (fX10_ones (nI k)) then (fX10_copy_57 σ (nI t) (fX10_copy_32 σ (nI t) m) x k true) else (fX10_copy_57 σ (nI t) (fX10_copy_32 σ (nI t) m) x k false)) else x)
    by_cases c : k < 16
    · rw [if_pos (show nI k < 16 from nI_lt c (by decide)), if_pos (show nI k < 16 from nI_lt c (by decide))]
      have gx := ih (k + 1) x hx (by omega) (by omega)
      have gk := ih (k + 1) (nI k) (Or.inr ⟨k, c, rfl⟩) (by omega) (by omega)
      generalize hS : SHb n B Hd = S
      have S1 : S < 2 ^ n := by rw [← hS]; exact SH_lt _ _ _
      have s2 : fX2_shown σ 49 = nI S := by rw [shn2 a1 b1 b6 b8, hS]
      have s10 : fX10_shown σ 0 = nI S := by rw [shn10 (l := 0) a1 b2 b7 b9, hS]
      obtain ⟨b', e62, hb'⟩ := cp_go (kb := fX10_copy_32 σ (nI t) m) (y := x) P.rg s10 S1 b4 (by omega) ht c (n + 1) 0 (decide (w ≤ pc k)) (by omega) (by omega)
      have e57 : (if (σ.1 34 11) ≤ (fX10_ones (nI k)) then (fX10_copy_57 σ (nI t) (fX10_copy_32 σ (nI t) m) x k true) else (fX10_copy_57 σ (nI t) (fX10_copy_32 σ (nI t) m) x k false)) = fX10_copy_130 σ (nI t) (fX10_copy_32 σ (nI t) m) x k b' := by
        rw [← e62, b4, ones_pc k (by omega)]
        unfold fX10_copy_57 mX10_copy_62
        rw [b2, nI_clamp (by omega)]
        by_cases q : w ≤ pc k
        · rw [if_pos ((nI_leI (by omega) (Nat.lt_of_le_of_lt (pc_le _) (by decide))).mpr q), decide_eq_true q]
        · rw [if_neg (fun z => q ((nI_leI (by omega) (Nat.lt_of_le_of_lt (pc_le _) (by decide))).mp z)), decide_eq_false q]
      have hfr : fX5_frees σ 49 (nI t) (nI k) = b' := by
        have g := fr_go P.ch s2 S1 b3 (by omega) ht c 9 0 (by decide) (by decide)
        unfold fX5_frees
        rw [bits_pc (by omega), b3]
        by_cases q : w ≤ pc k
        · rw [if_neg (fun z => absurd ((nI_ltI (Nat.lt_of_le_of_lt (pc_le _) (by decide)) (by omega)).mp z) (by omega))]
          apply Bool.eq_iff_iff.mpr
          refine g.trans (Iff.trans ?_ hb'.symm)
          rw [decide_eq_true q]
          refine ⟨fun z => ⟨rfl, fun o o1 o2 => z o o1 (by omega)⟩, fun z o o1 o2 => ?_⟩
          by_cases qn : o < n
          · exact z.2 o o1 qn
          · exact Or.inr (Or.inl (tb_big S1 (by omega)))
        · rw [if_pos ((nI_ltI (Nat.lt_of_le_of_lt (pc_le _) (by decide)) (by omega)).mpr (by omega))]
          cases b'
          · rfl
          · exact absurd (of_decide_eq_true (hb'.mp rfl).1) q
      rw [e57]
      unfold fX5_leastCopy_36 fX10_copy_130
      rw [hfr, gx, gk, if_neg (show ¬ false = true by decide), if_pos (show true = true from rfl)]
      rcases hx with rfl | ⟨y, hy, rfl⟩
      · rw [if_pos rfl, if_pos rfl]
      · have ne : ¬ nI y = -9 := fun q => by
          have z := congrArg Int32.toInt q
          rw [nI_toInt (by omega)] at z
          have z9 : (-9 : Int32).toInt = -9 := rfl
          omega
        rw [if_neg ne, if_neg ne, ones_eq k (by omega), ones_eq y (by omega)]
        by_cases q : fX10_ones (nI k) < fX10_ones (nI y)
        · rw [if_pos q, if_pos q]
        · rw [if_neg q, if_neg q, ite_self]
    · rw [if_neg (show ¬ nI k < 16 from nI_nlt (a := k) (b := 16) (by omega) (by omega)), if_neg (show ¬ nI k < 16 from nI_nlt (a := k) (b := 16) (by omega) (by omega))]
theorem s_copy : sc_copy Rv := by
  intro σ a h
  refine ⟨h.hM, ?_, h⟩
  obtain ⟨n, w, B, Hd, C, Gd, d, P⟩ := h.2.1.hp
  obtain ⟨a1, a2, a3, a4, a5, a6, b1, b2, b3, b4, b5, b6, b7, b8, b9, c1, c2, c3, c4⟩ := id P
  unfold fX9_copy fX10_copy
  rw [thing_has h]
  by_cases c : fX10_isThing σ a = true
  · obtain ⟨i, hi, rfl⟩ := (thing_iff b2 (by omega)).mp c
    rw [if_pos c, if_pos c, c1, c2, holds_has (by omega)]
    by_cases q : fX10_has (nI C) (nI i) = true
    · rw [if_pos q, if_pos q]
      exact cpy_go P hi 17 0 (-9) (Or.inl rfl) (by decide) (by decide)
    · rw [if_neg q, if_neg q]
  · rw [if_neg c, if_neg c]
