/-! the goods learnt -/
def nr (n : Nat) (d : Nat → Nat → Nat) (w t : Nat) : Nat := if t < n then ALb n d w t (2 ^ n - 1) else 0
def wo (n : Nat) (d : Nat → Nat → Nat) (t : Nat) : Nat := if t < n then d t 5 else 0
def co (n : Nat) (d : Nat → Nat → Nat) (t : Nat) : Nat := if t < n then d t 6 else 0
def GL (s : Mm) (g n : Nat) (d : Nat → Nat → Nat) (w k : Nat) : Prop := ∀ t, t < k → s.1 (g + 1) t = nI (nr n d w t) ∧ s.1 (g + 2) t = nI (wo n d t) ∧ s.1 (g + 3) t = nI (co n d t)
theorem gl_go {σ : Mm} {g n w : Nat} {d : Nat → Nat → Nat} (hg : g ≤ 22) (D : CH (σ.1 49) (σ.1 50) n d) (hw : σ.1 49 2 = nI w) (w4 : w ≤ 4) : ∀ m k (s : Mm), 8 < k + m → k ≤ 8 → (∀ q, q ≠ g + 1 → q ≠ g + 2 → q ≠ g + 3 → s.1 q = σ.1 q) → s.2 = σ.2 → GL s g n d w k → ∀ τ, fX1_learn_2 g 49 m s k = τ → GL τ g n d w 8 ∧ (∀ q, q ≠ g + 1 → q ≠ g + 2 → q ≠ g + 3 → τ.1 q = σ.1 q) ∧ τ.2 = σ.2 := by
  have n8 := D.1
  intro m
  induction m with
  | zero => intro k s h1 h2; omega
  | succ m ih =>
    intro k s h1 h2 e1 e2 hG τ hτ
    rw [fX1_learn_2] at hτ
    by_cases c : k < 8
    · have done : fX1_learn_2 g 49 m (up (up (up s (g + 1) k (nI (nr n d w k))) (g + 2) k (nI (wo n d k))) (g + 3) k (nI (co n d k))) (k + 1) = τ → GL τ g n d w 8 ∧ (∀ q, q ≠ g + 1 → q ≠ g + 2 → q ≠ g + 3 → τ.1 q = σ.1 q) ∧ τ.2 = σ.2 := by
        intro hτ
        refine ih (k + 1) (up (up (up s (g + 1) k (nI (nr n d w k))) (g + 2) k (nI (wo n d k))) (g + 3) k (nI (co n d k))) (by omega) (by omega) (fun q q1 q2 q3 => by rw [up_ne q3, up_ne q2, up_ne q1]; exact e1 q q1 q2 q3) e2 (fun t ht => ?_) τ hτ
        by_cases e : t = k
        · subst e
          refine ⟨?_, ?_, up_e⟩
          · rw [up_ne (by omega), up_ne (by omega), up_e]
          · rw [up_ne (by omega), up_e]
        · obtain ⟨g1, g2, g3⟩ := hG t (by omega)
          refine ⟨?_, ?_, ?_⟩
          · rw [up_n e, up_n e, up_n e]
            exact g1
          · rw [up_n e, up_n e, up_n e]
            exact g2
          · rw [up_n e, up_n e, up_n e]
            exact g3
      have s49 : s.1 49 = σ.1 49 := e1 49 (by omega) (by omega) (by omega)
      have s50 : s.1 50 = σ.1 50 := e1 50 (by omega) (by omega) (by omega)
      have Ds : CH (s.1 49) (s.1 50) n d := by
        rw [s49, s50]
        exact D
      rw [if_pos (show nI k < 8 from nI_lt c (by decide))] at hτ
      unfold fX1_learn_40 fX1_learn_60 at hτ
      by_cases q : k < n
      · have hh : fX2_has s 49 (nI k) = true := has2 Ds.2.1 n8 q
        have en : nr n d w k = ALb n d w k (2 ^ n - 1) := if_pos q
        have ew : wo n d k = d k 5 := if_pos q
        have ec : co n d k = d k 6 := if_pos q
        have ea : fX2_alikeTo s 49 (nI k) (s.1 49 2) (fX2_all s 49) = nI (nr n d w k) := by
          unfold fX2_all
          rw [s49, hw, D.2.1, all_k n n8, en]
          exact al2 (by decide) Ds q (by omega) (p31 n8 (all_lt n))
        have f5 : fX2_figure (up s (g + 1) k (nI (nr n d w k))) 49 (nI k) 5 = nI (wo n d k) := by
          rw [ew]
          have D1 : CH ((up s (g + 1) k (nI (nr n d w k))).1 49) ((up s (g + 1) k (nI (nr n d w k))).1 (49 + 1)) n d := by
            rw [up_ne (by omega), up_ne (by omega)]
            exact Ds
          exact fig2 (by decide) D1 q (k := 5) (by decide)
        have f6 : fX2_figure (up (up s (g + 1) k (nI (nr n d w k))) (g + 2) k (nI (wo n d k))) 49 (nI k) 6 = nI (co n d k) := by
          rw [ec]
          have D1 : CH ((up (up s (g + 1) k (nI (nr n d w k))) (g + 2) k (nI (wo n d k))).1 49) ((up (up s (g + 1) k (nI (nr n d w k))) (g + 2) k (nI (wo n d k))).1 (49 + 1)) n d := by
            rw [up_ne (by omega), up_ne (by omega), up_ne (by omega), up_ne (by omega)]
            exact Ds
          exact fig2 (by decide) D1 q (k := 6) (by decide)
        rw [hh, if_pos rfl, if_pos rfl, if_pos rfl, ea, f5, f6] at hτ
        exact done hτ
      · have hh : fX2_has s 49 (nI k) = false := Bool.eq_false_iff.mpr (fun z => by
          obtain ⟨i, hi, e⟩ := (has_iff Ds.2.1 (by omega)).mp z
          have := (nI_eq (by omega) (by omega)).mp e
          omega)
        have en : nr n d w k = 0 := if_neg q
        have ew : wo n d k = 0 := if_neg q
        have ec : co n d k = 0 := if_neg q
        rw [en, ew, ec] at done
        rw [hh, if_neg (by decide), if_neg (by decide), if_neg (by decide)] at hτ
        exact done hτ
    · rw [if_neg (show ¬ nI k < 8 from nI_nlt (a := k) (b := 8) (by omega) (by omega))] at hτ
      subst hτ
      have e : k = 8 := by omega
      subst e
      exact ⟨hG, e1, e2⟩
theorem gl_all {σ : Mm} {g n w : Nat} {d : Nat → Nat → Nat} (hg : g ≤ 22) (D : CH (σ.1 49) (σ.1 50) n d) (hw : σ.1 49 2 = nI w) (w4 : w ≤ 4) : ∀ τ, fX1_learn σ g 49 = τ → GL τ g n d w 8 ∧ (∀ q, q ≠ g + 1 → q ≠ g + 2 → q ≠ g + 3 → τ.1 q = σ.1 q) ∧ τ.2 = σ.2 := by
  intro τ hτ
  exact gl_go hg D hw w4 9 0 σ (by decide) (by decide) (fun _ _ _ _ => rfl) rfl (fun t ht => absurd ht (Nat.not_lt_zero t)) τ hτ
theorem bit0 {a k : Nat} (ha : a < 2 ^ 31) (hk : k < 8) : nI a &&& (1 <<< ((nI k) &&& 31)) = 0 ↔ a.testBit k = false := by
  rw [bit_k k hk, nI_and, n0 (Nat.lt_of_le_of_lt Nat.and_le_left ha)]
  constructor
  · intro h
    cases e : a.testBit k
    · rfl
    · have : (a &&& 2 ^ k).testBit k = true := by rw [Nat.testBit_and, e, Nat.testBit_two_pow_self]; rfl
      rw [h, Nat.zero_testBit] at this
      exact absurd this (by decide)
  · intro h
    apply Nat.eq_of_testBit_eq
    intro j
    rw [Nat.testBit_and, Nat.zero_testBit]
    by_cases e : j = k
    · subst e
      rw [h]
      rfl
    · rw [Nat.testBit_two_pow_of_ne (Ne.symm e), Bool.and_false]
theorem nr_and {n w t X : Nat} {d : Nat → Nat → Nat} (ht : t < n) (hX : X < 2 ^ n) : nr n d w t &&& X = ALb n d w t X := by
  have e : nr n d w t = ALb n d w t (2 ^ n - 1) := if_pos ht
  rw [e]
  refine set_ext (n := n) (Nat.lt_of_le_of_lt Nat.and_le_right hX) (AL_lt _ _ _ _ _) fun k hk => ?_
  unfold ALb
  rw [Nat.testBit_and, bs_tb, bs_tb, all_tb, decide_eq_true hk, Bool.true_and, Bool.true_and, Bool.true_and, Bool.and_assoc]
  congr 1
  exact Bool.and_comm _ _
theorem AL_self (n : Nat) (d : Nat → Nat → Nat) (w i s : Nat) : (ALb n d w i s).testBit i = false := by
  unfold ALb
  rw [bs_tb, bne_self_eq_false, Bool.false_and, Bool.and_false]
/-- prices among a set, of an owner's things -/
def prq (n : Nat) (d : Nat → Nat → Nat) (w o X : Nat) : Nat → Nat
  | 0 => 0
  | k + 1 => prq n d w o X k + (if d k 4 = o ∧ X.testBit k = true then 12 * d k 5 / (1 + pc (ALb n d w k X)) else 0)
def owb (n : Nat) (d : Nat → Nat → Nat) (o : Nat) : Nat := bs n fun t => d t 4 == o
theorem prq_n {n w o X : Nat} {d : Nat → Nat → Nat} (hX : X < 2 ^ n) : ∀ j, prq n d w o X (n + j) = prq n d w o X n := by
  intro j
  induction j with
  | zero => rfl
  | succ j ih =>
    show prq n d w o X (n + j) + (if d (n + j) 4 = o ∧ X.testBit (n + j) = true then _ else 0) = _
    rw [if_neg (fun q => by rw [tb_big hX (by omega)] at q; exact absurd q.2 (by decide)), ih, Nat.add_zero]
theorem prq_le {n w o X : Nat} {d : Nat → Nat → Nat} (hd : ∀ i, i < n → d i 5 ≤ 9) : ∀ k, k ≤ n → prq n d w o X k ≤ 108 * k := by
  intro k
  induction k with
  | zero => intro _; exact Nat.zero_le _
  | succ k ih =>
    intro hk
    have h1 := ih (by omega)
    have h2 := hd k (by omega)
    have h3 := Nat.div_le_self (12 * d k 5) (1 + pc (ALb n d w k X))
    show prq n d w o X k + (if d k 4 = o ∧ X.testBit k = true then 12 * d k 5 / (1 + pc (ALb n d w k X)) else 0) ≤ _
    split <;> omega
theorem pr_go {s : Mm} {g n w o X : Nat} {d : Nat → Nat → Nat} (n8 : n ≤ 8) (G : GL s g n d w 8) (hX : X < 2 ^ n) (hd : ∀ i, i < n → d i 5 ≤ 9) : ∀ m k, 8 < k + m → k ≤ 8 → fX1_pricesAmong_5 s g (nI (owb n d o)) (nI X) m (nI (prq n d w o X k)) k = nI (prq n d w o X 8) := by
  have hO : owb n d o < 2 ^ n := bs_lt _ n
  intro m
  induction m with
  | zero => intro k h1 h2; omega
  | succ m ih =>
    intro k h1 h2
    rw [fX1_pricesAmong_5]
    by_cases c : k < 8
    · have gi := ih (k + 1) (by omega) (by omega)
      obtain ⟨g1, g2, g3⟩ := G k c
      have hl : owb n d o &&& X < 2 ^ 31 := Nat.lt_of_le_of_lt Nat.and_le_right (p31 n8 hX)
      have ek : prq n d w o X (k + 1) = prq n d w o X k + (if d k 4 = o ∧ X.testBit k = true then 12 * d k 5 / (1 + pc (ALb n d w k X)) else 0) := rfl
      rw [if_pos (show nI k < 8 from nI_lt c (by decide)), nI_and]
      by_cases q : (owb n d o &&& X).testBit k = true
      · rw [if_neg (fun z => by rw [(bit0 hl c).mp z] at q; exact absurd q (by decide))]
        rw [Nat.testBit_and] at q
        obtain ⟨q1, q2⟩ := Bool.and_eq_true_iff.mp q
        have hk : k < n := by
          by_cases z : k < n
          · exact z
          · rw [tb_big hX (by omega)] at q2
            exact absurd q2 (by decide)
        have q3 : d k 4 = o := by
          unfold owb at q1
          rw [bs_tb, decide_eq_true hk, Bool.true_and] at q1
          exact beq_iff_eq.mp q1
        have ew : wo n d k = d k 5 := if_pos hk
        obtain ⟨o1, o2⟩ := one_more (ALb n d w k X) (p8 n8 (AL_lt _ _ _ _ _)) k c (AL_self _ _ _ _ _)
        have hb := hd k hk
        have hpc := pc_le (ALb n d w k X)
        have es : fX2_shareOf (nI (wo n d k)) (nI (nr n d w k) &&& nI X ||| (1 <<< ((nI k) &&& 31))) = nI (12 * d k 5 / (1 + pc (ALb n d w k X))) := by
          unfold fX2_shareOf
          rw [nI_and, nr_and hk hX, bit_k k c, nI_or, if_pos o2, o1, ones_pc _ (p8 n8 (AL_lt _ _ _ _ _)), ew, show (12 : Int32) = nI 12 from rfl, show (1 : Int32) = nI 1 from rfl, pk_mul, nI_add, pk_div (by omega) (by omega) (by omega)]
        rw [g1, g2, es, nI_add, ← gi, ek, if_pos ⟨q3, q2⟩]
      · have qf := Bool.eq_false_iff.mpr q
        have e0 : ¬ (d k 4 = o ∧ X.testBit k = true) := fun z => by
          have hk : k < n := by
            by_cases y : k < n
            · exact y
            · rw [tb_big hX (by omega)] at z
              exact absurd z.2 (by decide)
          apply q
          unfold owb
          rw [Nat.testBit_and, bs_tb, decide_eq_true hk, z.2, beq_iff_eq.mpr z.1]
          rfl
        rw [if_neg e0] at ek
        rw [if_pos ((bit0 hl c).mpr qf), ← gi, ek]
        rfl
    · rw [if_neg (show ¬ nI k < 8 from nI_nlt (a := k) (b := 8) (by omega) (by omega)), show k = 8 by omega]
theorem h3_go {r : Mm} {n w o X : Nat} {a2 a3 a4 v : Int32} {d : Nat → Nat → Nat} (D : RG (r.1 34) n d) (hw : r.1 34 11 = nI w) (w4 : w ≤ 4) (hX : X < 2 ^ n) (ho : o < 3) : ∀ m k, n < k + m → k ≤ n → fX10_has3_68 r (nI o) a2 a3 a4 m (nI X) (v + nI (prq n d w o X k)) k = v + nI (prq n d w o X n) := by
  have n8 := D.1
  intro m
  induction m with
  | zero => intro k h1 h2; omega
  | succ m ih =>
    intro k h1 h2
    rw [fX10_has3_68, D.2.1]
    by_cases c : k < n
    · have gi := ih (k + 1) (by omega) (by omega)
      obtain ⟨p1, p2, p3, p4⟩ := parts10 D c
      have ek : prq n d w o X (k + 1) = prq n d w o X k + (if d k 4 = o ∧ X.testBit k = true then 12 * d k 5 / (1 + pc (ALb n d w k X)) else 0) := rfl
      have d4 := (D.2.2 k c).2.1
      have d5 := (D.2.2 k c).1 5 (by decide)
      have hpc := pc_le (ALb n d w k X)
      rw [if_pos (nI_lt c (by omega)), p3]
      by_cases q : d k 4 = o
      · have ep : fX10_priceBy r (nI k) (nI X) = nI (if d k 4 = o ∧ X.testBit k = true then 12 * d k 5 / (1 + pc (ALb n d w k X)) else 0) := by
          unfold fX10_priceBy
          rw [has_tb (p31 n8 hX) (by omega), p1, hw, al10 D c (by omega) (p31 n8 hX), ones_pc _ (p8 n8 (AL_lt _ _ _ _ _)), show (12 : Int32) = nI 12 from rfl, show (1 : Int32) = nI 1 from rfl, pk_mul, nI_add, pk_div (by omega) (by omega) (by omega)]
          by_cases q2 : X.testBit k = true
          · rw [if_pos q2, if_pos ⟨q, q2⟩]
          · rw [if_neg q2, if_neg (fun z => q2 z.2)]
            rfl
        rw [if_pos (congrArg nI q), ep, Int32.add_assoc, nI_add, ← ek, gi]
      · rw [if_neg (fun z => q (((nI_eq (by omega) (by omega)).mp z)))]
        rw [if_neg (fun z => q z.1)] at ek
        rw [← gi, ek]
        congr 1
        exact Int32.add_zero _
    · rw [if_neg (nI_nlt (by omega) (by omega)), show k = n by omega]
