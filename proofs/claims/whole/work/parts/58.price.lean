theorem sh_k : ∀ k, k < 8 → ((((4 : Int32) * nI k) &&& 31).toBitVec.smod 32).toNat = 4 * k := by decide +kernel
theorem sh_i : ∀ k, k < 8 → ((nI k &&& 31).toBitVec.smod 32).toNat = k := by decide +kernel
theorem fig_eq {σ : Mm} {h n : Nat} {d : Nat → Nat → Nat} (H : TG (σ.1 h) (σ.1 (h + 1)) (σ.1 34) n d) {i k : Nat} (hi : i < n) (hk : k < 7) : fX2_figure σ h (nI i) (nI k) = nI (d i k) := by
  have hn := H.1
  obtain ⟨g1, g2, g3, g4, g5⟩ := H.2.2.2 i hi
  have hl := pkT_lt g1
  unfold fX2_figure
  rw [at_tag (by omega), g4, pk_shrN (by omega) _ (4 * k) (sh_k k (by omega)), pk_andN (Nat.lt_of_le_of_lt (Nat.div_le_self _ _) (by omega)) 4 (by decide +kernel), show (2 ^ 4 : Nat) = 16 from rfl, pkT_digit g1 k hk]
theorem pkC_parts {d : Nat → Nat} (h : ∀ k, k < 7 → d k ≤ 9) (h4 : d 4 ≤ 2) (h7 : d 7 ≤ 1) : pkC d / 20 % 10 = d 5 ∧ pkC d / 2 % 10 = d 6 ∧ pkC d / 200 % 3 = d 4 ∧ pkC d % 2 = d 7 := by
  have h5 := h 5 (by decide)
  have h6 := h 6 (by decide)
  unfold pkC
  omega
theorem parts_eq {σ : Mm} {f t : Nat → Int32} {n : Nat} {d : Nat → Nat → Nat} (H : TG f t (σ.1 34) n d) {i : Nat} (hi : i < n) : fX10_worthOf σ (nI i) = nI (d i 5) ∧ fX10_costOf σ (nI i) = nI (d i 6) ∧ fX10_ownerOf σ (nI i) = nI (d i 4) ∧ fX10_guardOf σ (nI i) = nI (d i 7) := by
  have hn := H.1
  obtain ⟨g1, g2, g3, g4, g5⟩ := H.2.2.2 i hi
  have hl := pkC_lt g1 g3
  obtain ⟨p1, p2, p3, p4⟩ := pkC_parts g1 g2 g3
  unfold fX10_worthOf fX10_costOf fX10_ownerOf fX10_guardOf
  rw [nI_clamp (by omega), g5, show (20 : Int32) = nI 20 from rfl, show (10 : Int32) = nI 10 from rfl, show (2 : Int32) = nI 2 from rfl, show (200 : Int32) = nI 200 from rfl, show (3 : Int32) = nI 3 from rfl, pk_div hl (by decide) (by decide), pk_div hl (by decide) (by decide), pk_div hl (by decide) (by decide), rm_nI (Nat.lt_of_le_of_lt (Nat.div_le_self _ _) hl) (by decide) (by decide), rm_nI (Nat.lt_of_le_of_lt (Nat.div_le_self _ _) hl) (by decide) (by decide), rm_nI (Nat.lt_of_le_of_lt (Nat.div_le_self _ _) hl) (by decide) (by decide), rm_nI hl (by decide) (by decide), p1, p2, p3, p4]
  exact ⟨rfl, rfl, rfl, rfl⟩
theorem alike_lt {σ : Mm} {n i : Nat} (hn : n ≤ 8) (e : σ.1 34 13 = nI n) (hi : i < n) (s w : Int32) : ∀ m k z, k ≤ n → z < 2 ^ k → z.testBit i = false → ∃ z', z' < 2 ^ 8 ∧ z'.testBit i = false ∧ fX10_alikeOf_6 σ (nI i) s w m (nI z) k = nI z' := by
  intro m
  induction m with
  | zero => intro k z _ _ _; exact ⟨0, by decide, Nat.zero_testBit i, rfl⟩
  | succ m ih =>
    intro k z hk hz hb
    show ∃ z', z' < 2 ^ 8 ∧ z'.testBit i = false ∧ (if nI k < σ.1 34 13 then (if nI k = nI i then fX10_alikeOf_6 σ (nI i) s w m (nI z ||| 0) (k + 1) else (if fX10_has s (nI k) = true then (if w ≤ fX10_ones (fX10_same σ (nI i) (nI k)) then fX10_alikeOf_6 σ (nI i) s w m (nI z ||| (1 <<< ((nI k) &&& 31))) (k + 1) else fX10_alikeOf_6 σ (nI i) s w m (nI z ||| 0) (k + 1)) else fX10_alikeOf_6 σ (nI i) s w m (nI z ||| 0) (k + 1))) else nI z) = nI z'
    rw [e, Io0]
    by_cases c : k < n
    · have hz1 : z < 2 ^ (k + 1) := Nat.lt_of_lt_of_le hz (Nat.pow_le_pow_right (by decide) (by omega))
      have base := ih (k + 1) z (by omega) hz1 hb
      rw [if_pos (nI_lt c (by omega)), bit_k k (by omega), nI_or]
      by_cases c1 : k = i
      · rw [if_pos (congrArg nI c1)]
        exact base
      · rw [if_neg (fun q => c1 ((nI_eq (by omega) (by omega)).mp q))]
        by_cases c2 : fX10_has s (nI k) = true
        · rw [if_pos c2]
          by_cases c3 : w ≤ fX10_ones (fX10_same σ (nI i) (nI k))
          · rw [if_pos c3]
            refine ih (k + 1) _ (by omega) (Nat.or_lt_two_pow hz1 (Nat.pow_lt_pow_right (by decide) (by omega))) ?_
            rw [Nat.testBit_or, hb, Nat.testBit_two_pow_of_ne c1]
            rfl
          · rw [if_neg c3]
            exact base
        · rw [if_neg c2]
          exact base
    · rw [if_neg (nI_nlt (by omega) (by omega))]
      exact ⟨z, Nat.lt_of_lt_of_le hz (Nat.pow_le_pow_right (by decide) (by omega)), hb, rfl⟩
theorem one_more : ∀ m, m < 256 → ∀ i, i < 8 → m.testBit i = false → fJ6_bitCount (nI (m ||| 2 ^ i)) = 1 + fX10_ones (nI m) ∧ 0 < fJ6_bitCount (nI (m ||| 2 ^ i)) := by decide +kernel
theorem s_price : sc_price Rv := by
  intro σ a h
  refine ⟨h.hM, ?_, h⟩
  unfold fX9_price fX10_price
  rw [thing_has h]
  by_cases c : fX10_isThing σ a = true
  · obtain ⟨n, d, H⟩ := h.2.1.tg
    have hn := H.1
    obtain ⟨i, hi, rfl⟩ := (thing_iff H.2.2.1 (by omega)).mp c
    rw [if_pos c, if_pos c]
    unfold fX2_priceOf fX10_priceBy
    rw [shown_eq h.2.1, holds_has (by omega)]
    by_cases c2 : fX10_has (fX10_shown σ 0) (nI i) = true
    · rw [if_pos c2, if_pos c2, alike_eq H hi, h.2.1.all.2.1, (parts_eq H hi).1, show fX2_figure σ 49 (nI i) 5 = nI (d i 5) from fig_eq H hi (k := 5) (by decide)]
      obtain ⟨z, z1, z2, z3⟩ := alike_lt hn H.2.2.1 hi (fX10_shown σ 0) (σ.1 34 11) (mX10_alikeOf_6 σ (nI i) (fX10_shown σ 0) (σ.1 34 11) + 1) 0 0 (Nat.zero_le _) (by decide) (Nat.zero_testBit i)
      have z3 : fX10_alikeOf σ (nI i) (fX10_shown σ 0) (σ.1 34 11) = nI z := z3
      obtain ⟨o1, o2⟩ := one_more z z1 i (by omega) z2
      unfold fX2_shareOf
      rw [z3, bit_k i (by omega), nI_or, if_pos o2, o1]
    · rw [if_neg c2, if_neg c2]
  · rw [if_neg c, if_neg c]
