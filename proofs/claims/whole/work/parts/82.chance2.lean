/-! the chance on both sides -/
theorem frac {a b c d : Nat} (h : a * d = c * b) (hb : 0 < b) (hd : 0 < d) : a / Nat.gcd a b = c / Nat.gcd c d ∧ b / Nat.gcd a b = d / Nat.gcd c d := by
  have e : Nat.gcd a b * d = Nat.gcd c d * b := by
    rw [← Nat.gcd_mul_right, ← Nat.gcd_mul_right, h, Nat.mul_comm b d]
  constructor
  · rw [← Nat.mul_div_mul_right a (Nat.gcd a b) hd, ← Nat.mul_div_mul_right c (Nat.gcd c d) hb, h, e]
  · rw [← Nat.mul_div_mul_right b (Nat.gcd a b) hd, ← Nat.mul_div_mul_right d (Nat.gcd c d) hb, e, Nat.mul_comm b d]
def ctb (A : Nat) : Nat → Nat
  | 0 => 0
  | k + 1 => ctb A k + A / 2 ^ k % 2
theorem ctb_8 (A : Nat) : ctb A 8 = pc A := by
  show 0 + A / 1 % 2 + A / 2 % 2 + A / 4 % 2 + A / 8 % 2 + A / 16 % 2 + A / 32 % 2 + A / 64 % 2 + A / 128 % 2 = pc A
  unfold pc
  omega
theorem pd_ct (A c : Nat) : ∀ k, pd (fun j => if A.testBit j = true then c else 1) k = c ^ ctb A k := by
  intro k
  induction k with
  | zero => rfl
  | succ k ih =>
    show pd (fun j => if A.testBit j = true then c else 1) k * (if A.testBit k = true then c else 1) = c ^ (ctb A k + A / 2 ^ k % 2)
    have hm := Nat.mod_lt (A / 2 ^ k) (show 0 < 2 by decide)
    rw [ih, Nat.testBit_eq_decide_div_mod_eq]
    by_cases q : A / 2 ^ k % 2 = 1
    · rw [decide_eq_true q, if_pos rfl, q, Nat.pow_succ]
    · rw [decide_eq_false q, if_neg (by decide), show A / 2 ^ k % 2 = 0 by omega, Nat.mul_one]
      rfl
theorem pd_pc (A c : Nat) : pd (fun j => if A.testBit j = true then c else 1) 8 = c ^ pc A := by rw [pd_ct, ctb_8]
theorem pd_one {t c : Nat} : ∀ n, t < n → pd (fun j => if j = t then c else 1) n = c := by
  have none : ∀ n, n ≤ t → pd (fun j => if j = t then c else 1) n = 1 := by
    intro n
    induction n with
    | zero => intro _; rfl
    | succ n ih =>
      intro h
      show pd (fun j => if j = t then c else 1) n * (if n = t then c else 1) = 1
      rw [ih (by omega), if_neg (by omega)]
  intro n
  induction n with
  | zero => intro h; omega
  | succ n ih =>
    intro h
    show pd (fun j => if j = t then c else 1) n * (if n = t then c else 1) = c
    by_cases e : n = t
    · rw [none n (by omega), if_pos e, Nat.one_mul]
    · rw [ih (by omega), if_neg e, Nat.mul_one]
/-- the weights of the sets by which a thing is last -/
def smT (n : Nat) (d : Nat → Nat → Nat) (w S F x t k : Nat) : Nat := if dif k F = 0 ∧ (LAb n d w (dif S k)).testBit t = true then wt F x k else 0
theorem AL_dif {n w t S k j : Nat} {d : Nat → Nat → Nat} (n8 : n ≤ 8) (hS : S < 2 ^ n) : (ALb n d w t (dif S k)).testBit j = ((ALb n d w t S).testBit j && !k.testBit j) := by
  unfold ALb
  rw [bs_tb, bs_tb, dif_tb (Nat.lt_trans (p31 n8 hS) (by decide))]
  cases decide (j < n) <;> cases (j != t) <;> cases S.testBit j <;> cases k.testBit j <;> cases decide (w ≤ cn d t j) <;> rfl
theorem LA_tb {n w t X : Nat} {d : Nat → Nat → Nat} (ht : t < n) : (LAb n d w X).testBit t = true ↔ X.testBit t = true ∧ ALb n d w t X = 0 := by
  unfold LAb
  rw [bs_tb, decide_eq_true ht, Bool.true_and, Bool.and_eq_true_iff, beq_iff_eq]
theorem smT_0 {n w S F x t : Nat} {d : Nat → Nat → Nat} (n8 : n ≤ 8) (hS : S < 2 ^ n) (ht : t < n) (h : S.testBit t = false ∨ ¬ dif (ALb n d w t S) F = 0) : sm (smT n d w S F x t) 256 = 0 := by
  refine sm_0 256 fun k hk => ?_
  unfold smT
  refine if_neg fun q => ?_
  obtain ⟨q1, q2⟩ := q
  obtain ⟨q3, q4⟩ := (LA_tb ht).mp q2
  rcases h with h | h
  · rw [dif_tb (Nat.lt_trans (p31 n8 hS) (by decide)), h] at q3
    exact absurd q3 (by simp)
  · obtain ⟨j, j1, j2, j3⟩ := difn_tb (p8 n8 (AL_lt n d w t S)) h
    have z : (ALb n d w t (dif S k)).testBit j = true := by
      rw [AL_dif n8 hS, j2, Bool.true_and]
      cases e : k.testBit j
      · rfl
      · rw [dif0_tb hk q1 e] at j3
        exact absurd j3 (by decide)
    rw [q4, Nat.zero_testBit] at z
    exact absurd z (by decide)
theorem smT_eq {n w S F x t : Nat} {d : Nat → Nat → Nat} (n8 : n ≤ 8) (hS : S < 2 ^ n) (ht : t < n) (hx : x ≤ 10) (h1 : S.testBit t = true) (h2 : dif (ALb n d w t S) F = 0) : sm (smT n d w S F x t) 256 = pd (fun j => if F.testBit j = true then (if j = t then 10 - x else if (ALb n d w t S).testBit j = true then x else 10) else 1) 8 := by
  have hA := p8 n8 (AL_lt n d w t S)
  have hAt := AL_self n d w t S
  have hAL := fun k j => AL_dif (n := n) (w := w) (t := t) (S := S) (k := k) (j := j) (d := d) n8 hS
  generalize hAA : ALb n d w t S = A at h2 hA hAt hAL
  have e := prod_sum (fun j b => if F.testBit j = true then (if b = true then (if j = t then 0 else x) else (if A.testBit j = true then 0 else 10 - x)) else (if b = true then 0 else 1)) 8
  have e2 : pd (fun j => (if F.testBit j = true then (if false = true then (if j = t then 0 else x) else (if A.testBit j = true then 0 else 10 - x)) else (if false = true then 0 else 1)) + (if F.testBit j = true then (if true = true then (if j = t then 0 else x) else (if A.testBit j = true then 0 else 10 - x)) else (if true = true then 0 else 1))) 8 = pd (fun j => if F.testBit j = true then (if j = t then 10 - x else if A.testBit j = true then x else 10) else 1) 8 := by
    refine pd_congr _ fun j hj => ?_
    by_cases c : F.testBit j = true
    · rw [if_pos c, if_pos c, if_pos c, if_neg (by decide), if_pos rfl]
      by_cases c2 : j = t
      · subst c2
        rw [hAt, if_neg (by decide), if_pos rfl, if_pos rfl, Nat.add_zero]
      · rw [if_neg c2, if_neg c2]
        by_cases c3 : A.testBit j = true
        · rw [if_pos c3, if_pos c3, Nat.zero_add]
        · rw [if_neg c3, if_neg c3]
          omega
    · rw [if_neg c, if_neg c, if_neg c, if_neg (by decide), if_pos rfl]
  rw [← e2, ← e]
  show sm (smT n d w S F x t) (2 ^ 8) = _
  refine sm_congr _ fun k hk => ?_
  have hk : k < 256 := hk
  unfold smT
  by_cases q : dif k F = 0
  · by_cases qt : k.testBit t = true
    · rw [if_neg (fun z => by
        have := ((LA_tb ht).mp z.2).1
        rw [dif_tb (Nat.lt_trans (p31 n8 hS) (by decide)), qt] at this
        simp at this)]
      symm
      refine pd_zero (j := t) ?_ 8 (by omega)
      rw [if_pos (dif0_tb hk q qt), if_pos qt, if_pos rfl]
    · by_cases qa : ∃ j, j < 8 ∧ A.testBit j = true ∧ ¬ k.testBit j = true
      · obtain ⟨j, j1, j2, j3⟩ := qa
        have z : (ALb n d w t (dif S k)).testBit j = true := by rw [hAL, j2, Bool.eq_false_iff.mpr j3]; rfl
        rw [if_neg (fun y => by
          have := ((LA_tb ht).mp y.2).2
          rw [this, Nat.zero_testBit] at z
          exact absurd z (by decide))]
        symm
        refine pd_zero (j := j) ?_ 8 j1
        rw [if_pos (dif0_tb hA h2 j2), if_neg j3, if_pos j2]
      · have hl : (LAb n d w (dif S k)).testBit t = true := by
          refine (LA_tb ht).mpr ⟨?_, ?_⟩
          · rw [dif_tb (Nat.lt_trans (p31 n8 hS) (by decide)), h1, Bool.eq_false_iff.mpr qt]
            rfl
          · apply Nat.eq_of_testBit_eq
            intro j
            rw [hAL, Nat.zero_testBit]
            cases e1 : A.testBit j
            · rfl
            · cases e2 : k.testBit j
              · exfalso
                refine qa ⟨j, ?_, e1, by rw [e2]; decide⟩
                by_cases y : j < 8
                · exact y
                · rw [tb_big (n := 8) hA (by omega)] at e1
                  exact absurd e1 (by decide)
              · rfl
        rw [if_pos ⟨q, hl⟩]
        refine pd_congr _ fun j hj => ?_
        unfold wtf
        by_cases c : F.testBit j = true
        · rw [if_pos c, if_pos c]
          by_cases c2 : k.testBit j = true
          · rw [if_pos c2, if_pos c2, if_neg (fun y => by subst y; exact qt c2)]
          · rw [if_neg c2, if_neg c2, if_neg (fun y => qa ⟨j, hj, y, c2⟩)]
        · rw [if_neg c, if_neg c, if_neg (fun z => c (dif0_tb hk q z))]
  · rw [if_neg (fun z => q z.1)]
    obtain ⟨j, j1, j2, j3⟩ := difn_tb hk q
    symm
    refine pd_zero (j := j) ?_ 8 j1
    rw [if_neg (show ¬ F.testBit j = true by rw [j3]; decide), if_pos j2]
/-- the two fractions are the same -/
theorem same_fr {n w S F x t : Nat} {d : Nat → Nat → Nat} (n8 : n ≤ 8) (hS : S < 2 ^ n) (ht : t < n) (hx : x ≤ 10) (h1 : S.testBit t = true) (h2 : dif (ALb n d w t S) F = 0) : sm (smT n d w S F x t) 256 * (10 * 10 ^ pc (ALb n d w t S)) = ((if F.testBit t = true then 10 - x else 10) * x ^ pc (ALb n d w t S)) * sm (alT F x) 256 := by
  rw [smT_eq n8 hS ht hx h1 h2, al_eq hx]
  have hA := p8 n8 (AL_lt n d w t S)
  have hAt := AL_self n d w t S
  generalize ALb n d w t S = A at h2 hA hAt
  rw [← pd_pc A 10, ← pd_pc A x]
  have e10 : 10 * pd (fun j => if A.testBit j = true then 10 else 1) 8 = pd (fun j => if j = t then 10 else 1) 8 * pd (fun j => if A.testBit j = true then 10 else 1) 8 := by rw [pd_one 8 (by omega)]
  have e11 : (if F.testBit t = true then 10 - x else 10) * pd (fun j => if A.testBit j = true then x else 1) 8 = pd (fun j => if j = t then (if F.testBit t = true then 10 - x else 10) else 1) 8 * pd (fun j => if A.testBit j = true then x else 1) 8 := by rw [pd_one 8 (by omega)]
  rw [e10, e11, pd_mul, pd_mul, pd_mul, pd_mul]
  refine pd_congr _ fun j hj => ?_
  by_cases c : j = t
  · subst c
    rw [if_pos rfl, if_pos rfl, if_pos rfl, hAt, if_neg (show ¬ false = true by decide), if_neg (show ¬ false = true by decide)]
    by_cases c2 : F.testBit j = true
    · rw [if_pos c2, if_pos c2, if_pos c2]
      omega
    · rw [if_neg c2, if_neg c2, if_neg c2]
  · rw [if_neg c, if_neg c, if_neg c]
    by_cases c2 : F.testBit j = true
    · rw [if_pos c2, if_pos c2]
      by_cases c3 : A.testBit j = true
      · rw [if_pos c3, if_pos c3, if_pos c3]
        omega
      · rw [if_neg c3, if_neg c3, if_neg c3]
    · rw [if_neg c2, if_neg c2, if_neg (fun y => c2 (dif0_tb hA h2 y)), if_neg (fun y => c2 (dif0_tb hA h2 y))]
