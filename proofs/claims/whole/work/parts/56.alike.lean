/-- the marks and the size of a house, told by the class's house at h and by the reference's house now -/
def TG (f t g : Nat → Int32) (n : Nat) (d : Nat → Nat → Nat) : Prop := n ≤ 8 ∧ f 1 = nI n ∧ g 13 = nI n ∧ ∀ i, i < n → (∀ k, k < 7 → d i k ≤ 9) ∧ d i 4 ≤ 2 ∧ d i 7 ≤ 1 ∧ t i = nI (pkT (d i)) ∧ g i = nI (pkC (d i))
theorem HR.tg {f t g : Nat → Int32} (h : HR f t g) : ∃ n d, TG f t g n d := by
  obtain ⟨n, w, B, Hd, C, Gd, d, a1, a2, a3, a4, a5, a6, b1, b2, b3, b4, b5, b6, b7, b8, b9, c1, c2, c3, c4⟩ := h
  exact ⟨n, d, a1, b1, b2, fun i hi => ⟨(c4 i hi).1, (c4 i hi).2.1, (c4 i hi).2.2.1, (c4 i hi).2.2.2.2.1, (c4 i hi).2.2.2.2.2⟩⟩
theorem rm_nN {a d : Nat} (ha : a < 2 ^ 31) (h0 : 0 < d) (hd : d < 2 ^ 31) : rm (nI a) (nI d) = nI (a % d) := pk_rem ha h0 hd
theorem pkC_marks {d : Nat → Nat} (h4 : d 4 ≤ 2) (h5 : d 5 ≤ 9) (h6 : d 6 ≤ 9) (h7 : d 7 ≤ 1) : pkC d / 600 = d 0 * 1000 + d 1 * 100 + d 2 * 10 + d 3 := by
  unfold pkC
  omega
theorem pkC_lt {d : Nat → Nat} (h : ∀ k, k < 7 → d k ≤ 9) (h7 : d 7 ≤ 1) : pkC d < 2 ^ 31 := by
  have h0 := h 0 (by decide)
  have h1 := h 1 (by decide)
  have h2 := h 2 (by decide)
  have h3 := h 3 (by decide)
  have h4 := h 4 (by decide)
  have h5 := h 5 (by decide)
  have h6 := h 6 (by decide)
  unfold pkC
  omega
theorem pkT_lt {d : Nat → Nat} (h : ∀ k, k < 7 → d k ≤ 9) : pkT d < 2 ^ 28 := by
  have h0 := h 0 (by decide)
  have h1 := h 1 (by decide)
  have h2 := h 2 (by decide)
  have h3 := h 3 (by decide)
  have h4 := h 4 (by decide)
  have h5 := h 5 (by decide)
  have h6 := h 6 (by decide)
  unfold pkT
  omega
theorem pkT_digit {d : Nat → Nat} (h : ∀ k, k < 7 → d k ≤ 9) : ∀ k, k < 7 → pkT d / 2 ^ (4 * k) % 16 = d k := by
  have h0 := h 0 (by decide)
  have h1 := h 1 (by decide)
  have h2 := h 2 (by decide)
  have h3 := h 3 (by decide)
  have h4 := h 4 (by decide)
  have h5 := h 5 (by decide)
  have h6 := h 6 (by decide)
  intro k hk
  unfold pkT
  rcases (show k = 0 ∨ k = 1 ∨ k = 2 ∨ k = 3 ∨ k = 4 ∨ k = 5 ∨ k = 6 by omega) with rfl | rfl | rfl | rfl | rfl | rfl | rfl
  all_goals omega
theorem marks_eq {σ : Mm} {f t : Nat → Int32} {n : Nat} {d : Nat → Nat → Nat} (h : TG f t (σ.1 34) n d) {i k : Nat} (hi : i < n) (hk : k < 4) : fX10_markOf σ (nI i) (nI k) = nI (d i k) := by
  obtain ⟨h1, h2, h3, h4⟩ := h
  obtain ⟨g1, g2, g3, g4, g5⟩ := h4 i hi
  unfold fX10_markOf fX10_marksOf
  have hlt := pkC_lt g1 g3
  rw [nI_clamp (by omega), g5, show (600 : Int32) = nI 600 from rfl, pk_div hlt (by decide) (by decide), pkC_marks g2 (g1 5 (by decide)) (g1 6 (by decide)) g3]
  have k0 := g1 0 (by decide)
  have k1 := g1 1 (by decide)
  have k2 := g1 2 (by decide)
  have k3 := g1 3 (by decide)
  rcases (show k = 0 ∨ k = 1 ∨ k = 2 ∨ k = 3 by omega) with rfl | rfl | rfl | rfl
  · rw [show fX10_tenTo (3 - nI 0) = nI 1000 from by decide +kernel, pk_div (by omega) (by decide) (by decide), show (10 : Int32) = nI 10 from rfl, rm_nN (by omega) (by decide) (by decide)]
    congr 1
    omega
  · rw [show fX10_tenTo (3 - nI 1) = nI 100 from by decide +kernel, pk_div (by omega) (by decide) (by decide), show (10 : Int32) = nI 10 from rfl, rm_nN (by omega) (by decide) (by decide)]
    congr 1
    omega
  · rw [show fX10_tenTo (3 - nI 2) = nI 10 from by decide +kernel, pk_div (by omega) (by decide) (by decide), show (10 : Int32) = nI 10 from rfl, rm_nN (by omega) (by decide) (by decide)]
    congr 1
    omega
  · rw [show fX10_tenTo (3 - nI 3) = nI 1 from by decide +kernel, pk_div (by omega) (by decide) (by decide), show (10 : Int32) = nI 10 from rfl, rm_nN (by omega) (by decide) (by decide)]
    congr 1
    omega
theorem xor16 : ∀ x, x < 16 → ∀ y, y < 16 → ((x ^^^ y = 0) ↔ x = y) := by decide +kernel
theorem dig_eq {a b : Nat} (ha : a < 2 ^ 28) (hb : b < 2 ^ 28) {k : Nat} (hk : k < 4) : ((nI a ^^^ nI b) >>> ((4 * nI k) &&& 31)) &&& 15 = 0 ↔ a / 2 ^ (4 * k) % 16 = b / 2 ^ (4 * k) % 16 := by
  have hx : a ^^^ b < 2 ^ 28 := Nat.xor_lt_two_pow ha hb
  have hsh : (nI (a ^^^ b)) >>> ((4 * nI k) &&& 31) = nI ((a ^^^ b) / 2 ^ (4 * k)) := by
    rcases (show k = 0 ∨ k = 1 ∨ k = 2 ∨ k = 3 by omega) with rfl | rfl | rfl | rfl
    all_goals exact pk_shrN (by omega) _ _ (by decide +kernel)
  have hd : (a ^^^ b) / 2 ^ (4 * k) < 2 ^ 32 := Nat.lt_of_le_of_lt (Nat.div_le_self _ _) (by omega)
  rw [nI_xor, hsh, pk_andN hd 4 (by decide +kernel), show (0 : Int32) = nI 0 from rfl, nI_eq (by omega) (by decide), Nat.xor_div_two_pow, show (2 ^ 4 : Nat) = 2 ^ 4 from rfl, Nat.xor_mod_two_pow]
  exact xor16 _ (Nat.mod_lt _ (by decide)) _ (Nat.mod_lt _ (by decide))
theorem Io0 (x : Int32) : x ||| 0 = x := by
  apply Int32.toBitVec_inj.mp
  show x.toBitVec ||| 0#32 = x.toBitVec
  exact BitVec.or_zero
/-- a class's house with the size and the tags that the reference's house now has -/
theorem same_go {σ : Mm} {h n : Nat} {d : Nat → Nat → Nat} (H : TG (σ.1 h) (σ.1 (h + 1)) (σ.1 34) n d) {i j : Nat} (hi : i < n) (hj : j < n) : ∀ m k (x : Int32), k ≤ 4 → fX2_sameMarks_24 σ h (nI i) (nI j) m (nI (pkT (d i)) ^^^ nI (pkT (d j))) x k = fX10_same_5 σ (nI i) (nI j) m x k := by
  intro m
  induction m with
  | zero => intro k x hk; rfl
  | succ m ih =>
    intro k x hk
    show (if nI k < 4 then (if ((nI (pkT (d i)) ^^^ nI (pkT (d j))) >>> ((4 * (nI k)) &&& 31)) &&& 15 = 0 then fX2_sameMarks_24 σ h (nI i) (nI j) m (nI (pkT (d i)) ^^^ nI (pkT (d j))) (x ||| (1 <<< ((nI k) &&& 31))) (k + 1) else fX2_sameMarks_24 σ h (nI i) (nI j) m (nI (pkT (d i)) ^^^ nI (pkT (d j))) x (k + 1)) else x) = (if nI k < 4 then (if fX10_markOf σ (nI i) (nI k) = fX10_markOf σ (nI j) (nI k) then fX10_same_5 σ (nI i) (nI j) m (x ||| (1 <<< ((nI k) &&& 31))) (k + 1) else fX10_same_5 σ (nI i) (nI j) m (x ||| 0) (k + 1)) else x)
    by_cases c : k < 4
    · have g1 := (H.2.2.2 i hi).1
      have g2 := (H.2.2.2 j hj).1
      have q1 := g1 k (by omega)
      have q2 := g2 k (by omega)
      have e := dig_eq (pkT_lt g1) (pkT_lt g2) c
      rw [pkT_digit g1 k (by omega), pkT_digit g2 k (by omega)] at e
      rw [if_pos (show nI k < 4 from nI_lt c (by decide)), if_pos (show nI k < 4 from nI_lt c (by decide)), marks_eq H hi c, marks_eq H hj c, Io0]
      by_cases c2 : d i k = d j k
      · rw [if_pos (e.mpr c2), if_pos (congrArg nI c2), ih (k + 1) _ (by omega)]
      · rw [if_neg (fun q => c2 (e.mp q)), if_neg (fun q => c2 ((nI_eq (by omega) (by omega)).mp q)), ih (k + 1) _ (by omega)]
    · rw [if_neg (show ¬ nI k < 4 from nI_nlt (a := k) (b := 4) (by omega) (by omega)), if_neg (show ¬ nI k < 4 from nI_nlt (a := k) (b := 4) (by omega) (by omega))]
theorem same_eq {σ : Mm} {h n : Nat} {d : Nat → Nat → Nat} (H : TG (σ.1 h) (σ.1 (h + 1)) (σ.1 34) n d) {i j : Nat} (hi : i < n) (hj : j < n) : fX2_sameMarks σ h (nI i) (nI j) = fX10_same σ (nI i) (nI j) := by
  have hn := H.1
  unfold fX2_sameMarks fX10_same
  rw [at_tag (by omega), at_tag (by omega), (H.2.2.2 i hi).2.2.2.1, (H.2.2.2 j hj).2.2.2.1]
  exact same_go H hi hj 5 0 0 (by decide)
theorem bit_k : ∀ k, k < 8 → (1 : Int32) <<< (nI k &&& 31) = nI (2 ^ k) := by decide +kernel
theorem same_lt {σ : Mm} {i j : Int32} : ∀ m k z, k ≤ 4 → z < 2 ^ k → ∃ z', z' < 2 ^ 8 ∧ fX10_same_5 σ i j m (nI z) k = nI z' := by
  intro m
  induction m with
  | zero => intro k z _ _; exact ⟨0, by decide, rfl⟩
  | succ m ih =>
    intro k z hk hz
    show ∃ z', z' < 2 ^ 8 ∧ (if nI k < 4 then (if fX10_markOf σ i (nI k) = fX10_markOf σ j (nI k) then fX10_same_5 σ i j m (nI z ||| (1 <<< ((nI k) &&& 31))) (k + 1) else fX10_same_5 σ i j m (nI z ||| 0) (k + 1)) else nI z) = nI z'
    by_cases c : k < 4
    · rw [if_pos (show nI k < 4 from nI_lt c (by decide)), bit_k k (by omega), nI_or, Io0]
      by_cases c2 : fX10_markOf σ i (nI k) = fX10_markOf σ j (nI k)
      · rw [if_pos c2]
        exact ih (k + 1) _ (by omega) (Nat.or_lt_two_pow (Nat.lt_of_lt_of_le hz (Nat.pow_le_pow_right (by decide) (by omega))) (Nat.pow_lt_pow_right (by decide) (by omega)))
      · rw [if_neg c2]
        exact ih (k + 1) _ (by omega) (Nat.lt_of_lt_of_le hz (Nat.pow_le_pow_right (by decide) (by omega)))
    · rw [if_neg (show ¬ nI k < 4 from nI_nlt (a := k) (b := 4) (by omega) (by omega))]
      exact ⟨z, Nat.lt_of_lt_of_le hz (Nat.pow_le_pow_right (by decide) (by omega)), rfl⟩
/-- the count of bits, as both sides take it -/
theorem ones_eq : ∀ m, m < 256 → fJ6_bitCount (nI m) = fX10_ones (nI m) := by decide +kernel
theorem count_eq {σ : Mm} {h n : Nat} {d : Nat → Nat → Nat} (H : TG (σ.1 h) (σ.1 (h + 1)) (σ.1 34) n d) {i j : Nat} (hi : i < n) (hj : j < n) : fJ6_bitCount (fX2_sameMarks σ h (nI i) (nI j)) = fX10_ones (fX10_same σ (nI i) (nI j)) := by
  rw [same_eq H hi hj]
  obtain ⟨z, hz, e⟩ := same_lt (σ := σ) (i := nI i) (j := nI j) 5 0 0 (by decide) (by decide)
  have e : fX10_same σ (nI i) (nI j) = nI z := e
  rw [e]
  exact ones_eq z hz
theorem holds_has {x : Int32} {k : Nat} (hk : k < 8) : fX9_holds x (nI k) = fX10_has x (nI k) := by
  unfold fX9_holds fX10_has
  rw [if_pos (nI_pos' (by omega)), if_pos (show nI k < 8 from nI_lt hk (by decide))]
theorem alike_go {σ : Mm} {h n : Nat} {d : Nat → Nat → Nat} (H : TG (σ.1 h) (σ.1 (h + 1)) (σ.1 34) n d) {i : Nat} (hi : i < n) (w s : Int32) : ∀ m k (x : Int32), k ≤ n → fX2_alikeTo_6 σ h (nI i) w s m x k = fX10_alikeOf_6 σ (nI i) s w m x k := by
  have hn := H.1
  intro m
  induction m with
  | zero => intro k x hk; rfl
  | succ m ih =>
    intro k x hk
    show (if nI k < σ.1 h 1 then (if nI k = nI i then fX2_alikeTo_6 σ h (nI i) w s m x (k + 1) else (if fX9_holds s (nI k) = true then (if w ≤ fJ6_bitCount (fX2_sameMarks σ h (nI i) (nI k)) then fX2_alikeTo_6 σ h (nI i) w s m (x ||| (1 <<< ((nI k) &&& 31))) (k + 1) else fX2_alikeTo_6 σ h (nI i) w s m x (k + 1)) else fX2_alikeTo_6 σ h (nI i) w s m x (k + 1))) else x) = (if nI k < σ.1 34 13 then (if nI k = nI i then fX10_alikeOf_6 σ (nI i) s w m (x ||| 0) (k + 1) else (if fX10_has s (nI k) = true then (if w ≤ fX10_ones (fX10_same σ (nI i) (nI k)) then fX10_alikeOf_6 σ (nI i) s w m (x ||| (1 <<< ((nI k) &&& 31))) (k + 1) else fX10_alikeOf_6 σ (nI i) s w m (x ||| 0) (k + 1)) else fX10_alikeOf_6 σ (nI i) s w m (x ||| 0) (k + 1))) else x)
    rw [H.2.1, H.2.2.1]
    by_cases c : k < n
    · rw [if_pos (nI_lt c (by omega)), if_pos (nI_lt c (by omega)), holds_has (by omega), count_eq H hi c, Io0, ih (k + 1) _ (by omega), ih (k + 1) _ (by omega)]
    · rw [if_neg (nI_nlt (by omega) (by omega)), if_neg (nI_nlt (by omega) (by omega))]
/-- the things alike, as both sides tell them -/
theorem alike_eq {σ : Mm} {h n : Nat} {d : Nat → Nat → Nat} (H : TG (σ.1 h) (σ.1 (h + 1)) (σ.1 34) n d) {i : Nat} (hi : i < n) (w s : Int32) : fX2_alikeTo σ h (nI i) w s = fX10_alikeOf σ (nI i) s w := by
  unfold fX2_alikeTo fX10_alikeOf mX2_alikeTo_6 mX10_alikeOf_6
  rw [H.2.1, H.2.2.1]
  exact alike_go H hi w s _ 0 0 (Nat.zero_le _)
theorem last_go {σ : Mm} {h n : Nat} {d : Nat → Nat → Nat} (H : TG (σ.1 h) (σ.1 (h + 1)) (σ.1 34) n d) (w s : Int32) : ∀ m k (x : Int32), k ≤ n → fX2_lastOnesBy_5 σ h w s m x k = fX10_lastOf_5 σ s w m x k := by
  have hn := H.1
  intro m
  induction m with
  | zero => intro k x hk; rfl
  | succ m ih =>
    intro k x hk
    show (if nI k < σ.1 h 1 then (if fX9_holds s (nI k) = true then (if fX2_alikeTo σ h (nI k) w s = 0 then fX2_lastOnesBy_5 σ h w s m (x ||| (1 <<< ((nI k) &&& 31))) (k + 1) else fX2_lastOnesBy_5 σ h w s m x (k + 1)) else fX2_lastOnesBy_5 σ h w s m x (k + 1)) else x) = (if nI k < σ.1 34 13 then (if fX10_has s (nI k) = true then (if fX10_alikeOf σ (nI k) s w = 0 then fX10_lastOf_5 σ s w m (x ||| (1 <<< ((nI k) &&& 31))) (k + 1) else fX10_lastOf_5 σ s w m (x ||| 0) (k + 1)) else fX10_lastOf_5 σ s w m (x ||| 0) (k + 1)) else x)
    rw [H.2.1, H.2.2.1]
    by_cases c : k < n
    · rw [if_pos (nI_lt c (by omega)), if_pos (nI_lt c (by omega)), holds_has (by omega), alike_eq H c, Io0, ih (k + 1) _ (by omega), ih (k + 1) _ (by omega)]
    · rw [if_neg (nI_nlt (by omega) (by omega)), if_neg (nI_nlt (by omega) (by omega))]
/-- the last ones of a set, as both sides tell them -/
theorem last_eq {σ : Mm} {h n : Nat} {d : Nat → Nat → Nat} (H : TG (σ.1 h) (σ.1 (h + 1)) (σ.1 34) n d) (w s : Int32) : fX2_lastOnesBy σ h w s = fX10_lastOf σ s w := by
  unfold fX2_lastOnesBy fX10_lastOf mX2_lastOnesBy_5 mX10_lastOf_5
  rw [H.2.1, H.2.2.1]
  exact last_go H w s _ 0 0 (Nat.zero_le _)
