/-! worlds: what class and reference count over them -/
def al : Nat → (Nat → Bool) → Bool
  | 0, _ => true
  | j + 1, p => al j p && p j
theorem al_iff {p : Nat → Bool} : ∀ L, al L p = true ↔ ∀ j, j < L → p j = true := by
  intro L
  induction L with
  | zero => exact ⟨fun _ j hj => absurd hj (Nat.not_lt_zero j), fun _ => rfl⟩
  | succ L ih =>
    show (al L p && p L) = true ↔ _
    rw [Bool.and_eq_true_iff, ih]
    constructor
    · rintro ⟨h1, h2⟩ j hj
      by_cases e : j = L
      · subst e
        exact h2
      · exact h1 j (by omega)
    · intro h
      exact ⟨fun j hj => h j (by omega), h L (by omega)⟩
def NB (n : Nat) (d : Nat → Nat → Nat) (w a X : Nat) : Nat := pc ((ALb n d w a (2 ^ n - 1) ||| 2 ^ a) &&& X)
theorem pc_one : ∀ m, m < 256 → ∀ i, i < 8 → m.testBit i = false → pc (m ||| 2 ^ i) = pc m + 1 := by decide +kernel
theorem NB_eq {n w a X : Nat} {d : Nat → Nat → Nat} (n8 : n ≤ 8) (ha : a < n) (hX : X < 2 ^ n) : pc (ALb n d w a X) + X / 2 ^ a % 2 = NB n d w a X := by
  unfold NB
  have e : (ALb n d w a (2 ^ n - 1) ||| 2 ^ a) &&& X = ALb n d w a X ||| (if X.testBit a = true then 2 ^ a else 0) := by
    have l2 : (if X.testBit a = true then 2 ^ a else 0) < 2 ^ n := by
      split
      · exact tlt ha
      · exact Nat.two_pow_pos n
    refine set_ext (n := n) (Nat.lt_of_le_of_lt Nat.and_le_right hX) (Nat.or_lt_two_pow (AL_lt _ _ _ _ _) l2) fun k hk => ?_
    unfold ALb
    rw [Nat.testBit_and, Nat.testBit_or, Nat.testBit_or, bs_tb, bs_tb, all_tb, decide_eq_true hk]
    by_cases ek : k = a
    · subst ek
      rw [Nat.testBit_two_pow_self, bne_self_eq_false]
      cases hx : X.testBit k
      · rw [if_neg (by decide), Nat.zero_testBit]
        rfl
      · rw [if_pos rfl, Nat.testBit_two_pow_self]
        rfl
    · rw [Nat.testBit_two_pow_of_ne (Ne.symm ek), bne_iff_ne.mpr ek]
      have z : (if X.testBit a = true then 2 ^ a else 0).testBit k = false := by
        split
        · exact Nat.testBit_two_pow_of_ne (Ne.symm ek)
        · exact Nat.zero_testBit k
      rw [z, Bool.true_and, Bool.true_and, Bool.true_and, Bool.true_and, Bool.true_and, Bool.or_false, Bool.or_false, Bool.and_comm]
  rw [e]
  have hf : (ALb n d w a X).testBit a = false := by
    unfold ALb
    rw [bs_tb, bne_self_eq_false, Bool.false_and, Bool.and_false]
  by_cases q : X.testBit a = true
  · rw [if_pos q, pc_one _ (p8 n8 (AL_lt _ _ _ _ _)) a (by omega) hf]
    rw [Nat.testBit_eq_decide_div_mod_eq] at q
    rw [of_decide_eq_true q]
  · rw [if_neg q, Nat.or_zero]
    rw [Nat.testBit_eq_decide_div_mod_eq] at q
    have := of_decide_eq_false (Bool.eq_false_iff.mpr q)
    omega
def sok (n : Nat) (d : Nat → Nat → Nat) (w : Nat) (sg : Nat → Nat × Nat × Bool) (X j : Nat) : Bool := if (sg j).1 < n then (decide ((sg j).2.1 ≤ NB n d w (sg j).1 X) == (sg j).2.2) else true
def lk (n : Nat) (d : Nat → Nat → Nat) (w a : Nat) : Nat := if a < n then ALb n d w a (2 ^ n - 1) ||| 2 ^ a else 0
theorem bi_inj {a b : Bool} : bi a = bi b ↔ a = b := by cases a <;> cases b <;> decide
/-- what is sighted, on both sides -/
def SG (σ : Mm) (L : Nat) (sg : Nat → Nat × Nat × Bool) : Prop := L ≤ 6 ∧ σ.1 26 5 = nI L ∧ σ.1 33 6 = nI L ∧ ∀ j, j < L → (sg j).1 < 8 ∧ (sg j).2.1 ≤ 8 ∧ σ.1 27 j = nI (sg j).1 ∧ σ.1 37 j = nI (sg j).1 ∧ σ.1 28 j = nI (sg j).2.1 ∧ σ.1 38 j = nI (sg j).2.1 ∧ σ.1 29 j = bi (sg j).2.2 ∧ σ.1 39 j = bi (sg j).2.2
theorem RS.sg {σ : Mm} (h : RS σ) : ∃ L sg, SG σ L sg := by
  obtain ⟨L, h1, h2, h3, h4⟩ := h
  have h5 : ∀ j, ∃ y : Nat × Nat × Bool, j < L → (y.1 < 8 ∧ y.2.1 ≤ 8 ∧ σ.1 27 j = nI y.1 ∧ σ.1 37 j = nI y.1 ∧ σ.1 28 j = nI y.2.1 ∧ σ.1 38 j = nI y.2.1 ∧ σ.1 29 j = bi y.2.2 ∧ σ.1 39 j = bi y.2.2) := by
    intro j
    by_cases q : j < L
    · obtain ⟨a, b, c, r⟩ := h4 j q
      exact ⟨(a, b, c), fun _ => r⟩
    · exact ⟨(0, 0, false), fun z => absurd z q⟩
  obtain ⟨sg, hs⟩ := Classical.axiomOfChoice h5
  exact ⟨L, sg, h1, h2, h3, hs⟩
theorem so2 {σ s : Mm} {n L w X : Nat} {d : Nat → Nat → Nat} {sg : Nat → Nat × Nat × Bool} (n8 : n ≤ 8) (G : SG σ L sg) (e27 : s.1 27 = σ.1 27) (e28 : s.1 28 = σ.1 28) (e29 : s.1 29 = σ.1 29) (e26 : s.1 26 5 = σ.1 26 5) (e30 : ∀ j, j < L → s.1 30 j = nI (lk n d w (sg j).1)) (hX : X < 2 ^ n) : ∀ m k, 6 < k + m → k ≤ L → (fX7_isSo_2 s (nI X) (nI n) m k = true ↔ ∀ j, k ≤ j → j < L → sok n d w sg X j = true) := by
  obtain ⟨g1, g2, g3, g4⟩ := G
  intro m
  induction m with
  | zero => intro k h1 h2; omega
  | succ m ih =>
    intro k h1 h2
    rw [fX7_isSo_2, e26, g2]
    by_cases c : k < L
    · obtain ⟨q1, q2, q3, q4, q5, q6, q7, q8⟩ := g4 k c
      have g := ih (k + 1) (by omega) (by omega)
      rw [if_pos (show nI k < 6 from nI_lt (a := k) (b := 6) (by omega) (by decide)), if_pos (nI_lt c (by omega)), e28, q5, e30 k c, nI_and, bits_pc (Nat.lt_of_le_of_lt Nat.and_le_right (p8 n8 hX))]
      unfold fX7_isSo_41
      rw [e27, q3, e29, q7]
      by_cases z : (sg k).1 < n
      · have hlk : lk n d w (sg k).1 = ALb n d w (sg k).1 (2 ^ n - 1) ||| 2 ^ (sg k).1 := if_pos z
        have hnb : pc (lk n d w (sg k).1 &&& X) = NB n d w (sg k).1 X := by rw [hlk]; rfl
        have hsok : sok n d w sg X k = (decide ((sg k).2.1 ≤ NB n d w (sg k).1 X) == (sg k).2.2) := if_pos z
        rw [hnb, if_pos (nI_lt z (by omega)), if_pos (nI_lt z (by omega))]
        have hnl : NB n d w (sg k).1 X < 2 ^ 31 := Nat.lt_of_le_of_lt (pc_le _) (by decide)
        by_cases y : (sg k).2.1 ≤ NB n d w (sg k).1 X
        · rw [if_pos ((nI_leI (by omega) hnl).mpr y)]
          rw [decide_eq_true y] at hsok
          by_cases x : true = (sg k).2.2
          · rw [if_pos (bi_inj.mpr x), g]
            exact allQ (by rw [hsok, ← x]; rfl)
          · rw [if_neg (fun v => x (bi_inj.mp v))]
            refine ⟨fun v => absurd v (by decide), fun v => ?_⟩
            have := v k (Nat.le_refl _) c
            rw [hsok, beq_iff_eq] at this
            exact absurd this x
        · rw [if_neg (fun v => y ((nI_leI (by omega) hnl).mp v))]
          rw [decide_eq_false y] at hsok
          by_cases x : false = (sg k).2.2
          · rw [if_pos (bi_inj.mpr x), g]
            exact allQ (by rw [hsok, ← x]; rfl)
          · rw [if_neg (fun v => x (bi_inj.mp v))]
            refine ⟨fun v => absurd v (by decide), fun v => ?_⟩
            have := v k (Nat.le_refl _) c
            rw [hsok, beq_iff_eq] at this
            exact absurd this x
      · rw [if_neg (nI_nlt (by omega) (by omega)), if_neg (nI_nlt (by omega) (by omega)), ite_self, g]
        exact allQ (if_neg z)
    · rw [if_neg (nI_nlt (by omega) (by omega)), ite_self]
      exact ⟨fun _ j j1 j2 => absurd j2 (by omega), fun _ => rfl⟩
theorem so10 {σ r : Mm} {n L w X : Nat} {d : Nat → Nat → Nat} {sg : Nat → Nat × Nat × Bool} (D : RG (r.1 34) n d) (hw : r.1 34 11 = nI w) (w4 : w ≤ 4) (G : SG σ L sg) (e37 : r.1 37 = σ.1 37) (e38 : r.1 38 = σ.1 38) (e39 : r.1 39 = σ.1 39) (e33 : r.1 33 6 = σ.1 33 6) (hX : X < 2 ^ n) : ∀ m k b, L < k + m → k ≤ L → (fX10_isSighted_4 r (nI X) m b k = true ↔ b = true ∧ ∀ j, k ≤ j → j < L → sok n d w sg X j = true) := by
  obtain ⟨g1, g2, g3, g4⟩ := G
  have n8 := D.1
  intro m
  induction m with
  | zero => intro k b h1 h2; omega
  | succ m ih =>
    intro k b h1 h2
    rw [fX10_isSighted_4, e33, g3]
    by_cases c : k < L
    · obtain ⟨q1, q2, q3, q4, q5, q6, q7, q8⟩ := g4 k c
      have gb := fun b => ih (k + 1) b (by omega) (by omega)
      rw [if_pos (nI_lt c (by omega)), e37, q4, e38, q6]
      unfold fX10_isSighted_75
      rw [e39, q8]
      by_cases z : (sg k).1 < n
      · have hsok : sok n d w sg X k = (decide ((sg k).2.1 ≤ NB n d w (sg k).1 X) == (sg k).2.2) := if_pos z
        have hnl : NB n d w (sg k).1 X < 2 ^ 31 := Nat.lt_of_le_of_lt (pc_le _) (by decide)
        have hn : fX10_ones (fX10_alikeOf r (nI (sg k).1) (nI X) (r.1 34 11)) + ((nI X >>> (nI (sg k).1 &&& 31)) &&& 1) = nI (NB n d w (sg k).1 X) := by
          rw [hw, al10 D z (by omega) (p31 n8 hX), ones_pc _ (p8 n8 (AL_lt _ _ _ _ _)), pk_shrN (by have := p31 n8 hX; omega) _ (sg k).1 (sh_i (sg k).1 (by omega)), pk_andN (Nat.lt_of_le_of_lt (Nat.div_le_self _ _) (by have := p31 n8 hX; omega)) 1 (by decide +kernel), nI_add, show (2 ^ 1 : Nat) = 2 from rfl, NB_eq n8 z hX]
        rw [if_pos ((thing_iff D.2.1 (by omega)).mpr ⟨_, z, rfl⟩), hn]
        cases b
        · rw [if_neg (by decide), gb false]
          exact ⟨fun v => absurd v.1 (by decide), fun v => absurd v.1 (by decide)⟩
        · rw [if_pos rfl]
          by_cases y : (sg k).2.1 ≤ NB n d w (sg k).1 X
          · rw [if_pos ((nI_leI (by omega) hnl).mpr y)]
            rw [decide_eq_true y] at hsok
            by_cases x : true = (sg k).2.2
            · rw [if_pos (bi_inj.mpr x), gb true]
              exact and_congr_right fun _ => allQ (by rw [hsok, ← x]; rfl)
            · rw [if_neg (fun v => x (bi_inj.mp v)), gb false]
              refine ⟨fun v => absurd v.1 (by decide), fun v => ?_⟩
              have := v.2 k (Nat.le_refl _) c
              rw [hsok, beq_iff_eq] at this
              exact absurd this x
          · rw [if_neg (fun v => y ((nI_leI (by omega) hnl).mp v))]
            rw [decide_eq_false y] at hsok
            by_cases x : false = (sg k).2.2
            · rw [if_pos (bi_inj.mpr x), gb true]
              exact and_congr_right fun _ => allQ (by rw [hsok, ← x]; rfl)
            · rw [if_neg (fun v => x (bi_inj.mp v)), gb false]
              refine ⟨fun v => absurd v.1 (by decide), fun v => ?_⟩
              have := v.2 k (Nat.le_refl _) c
              rw [hsok, beq_iff_eq] at this
              exact absurd this x
      · have hnt : ¬ fX10_isThing r (nI (sg k).1) = true := fun v => by
          obtain ⟨i, hi, e⟩ := (thing_iff D.2.1 (by omega)).mp v
          have := (nI_eq (by omega) (by omega)).mp e
          omega
        rw [if_neg hnt, gb b]
        exact and_congr_right fun _ => allQ (if_neg z)
    · rw [if_neg (nI_nlt (by omega) (by omega))]
      exact ⟨fun v => ⟨v, fun j j1 j2 => absurd j2 (by omega)⟩, fun v => v.1⟩
/-- the count over the worlds -/
abbrev Wv : Type := Nat × Nat × Nat × (Nat → Nat)
def wstep (so : Nat → Bool) (U k : Nat) (v : Wv) : Wv := if dif k U = 0 ∧ so k = true then (v.1 + 1, v.2.1 &&& k, v.2.2.1 ||| k, fun t => v.2.2.2 t + k / 2 ^ t % 2) else v
def wrun (so : Nat → Bool) (U : Nat) : Nat → Nat → Wv → Wv
  | 0, _, v => v
  | j + 1, k, v => wrun so U j (k + 1) (wstep so U k v)
theorem wrun_le {so : Nat → Bool} {U : Nat} : ∀ j k v, v.1 ≤ k → (∀ t, v.2.2.2 t ≤ v.1) → (wrun so U j k v).1 ≤ k + j ∧ ∀ t, (wrun so U j k v).2.2.2 t ≤ (wrun so U j k v).1 := by
  intro j
  induction j with
  | zero => intro k v h1 h2; exact ⟨h1, h2⟩
  | succ j ih =>
    intro k v h1 h2
    have e : wrun so U (j + 1) k v = wrun so U j (k + 1) (wstep so U k v) := rfl
    rw [e]
    have g := ih (k + 1) (wstep so U k v)
    have hs : (wstep so U k v).1 ≤ k + 1 ∧ ∀ t, (wstep so U k v).2.2.2 t ≤ (wstep so U k v).1 := by
      unfold wstep
      split
      · refine ⟨Nat.succ_le_succ h1, fun t => ?_⟩
        have := h2 t
        have := Nat.mod_lt (k / 2 ^ t) (show 0 < 2 by decide)
        show v.2.2.2 t + k / 2 ^ t % 2 ≤ v.1 + 1
        omega
      · exact ⟨Nat.le_succ_of_le h1, h2⟩
    have g := g hs.1 hs.2
    exact ⟨by omega, g.2⟩
def CW (s : Mm) (U : Nat) (v : Wv) : Prop := s.1 26 6 = nI v.1 ∧ s.1 26 7 = nI v.2.1 ∧ s.1 26 8 = nI (dif U v.2.2.1) ∧ ∀ t, t < 8 → s.1 31 t = nI (v.2.2.2 t)
def RW (r : Mm) (v : Wv) : Prop := r.1 33 10 = nI v.1 ∧ r.1 33 11 = nI v.2.1 ∧ r.1 33 12 = nI v.2.2.1 ∧ ∀ t, t < 8 → r.1 40 t = nI (v.2.2.2 t)
theorem dif_dif {U a b n : Nat} (n8 : n ≤ 8) (hU : U < 2 ^ n) : dif (dif U a) b = dif U (a ||| b) := by
  have h32 : ∀ x, x < 2 ^ n → x < 2 ^ 32 := fun x hx => Nat.lt_trans (p31 n8 hx) (by decide)
  refine set_ext (n := n) (dif_lt (dif_lt hU _) _) (dif_lt hU _) fun k hk => ?_
  rw [dif_tb (h32 _ (dif_lt hU _)), dif_tb (h32 _ hU), dif_tb (h32 _ hU), Nat.testBit_or, Bool.not_or, Bool.and_assoc]
theorem sh_bit {k t : Nat} (hk : k < 2 ^ 31) (ht : t < 8) : (nI k >>> (nI t &&& 31)) &&& 1 = nI (k / 2 ^ t % 2) := by
  rw [pk_shrN (by omega) _ t (sh_i t ht), pk_andN (Nat.lt_of_le_of_lt (Nat.div_le_self _ _) (by omega)) 1 (by decide +kernel)]
theorem ty_go {ρ : Mm} {k : Nat} (hk : k < 256) {W : Nat → Nat} (hW : ∀ t, t < 8 → ρ.1 31 t = nI (W t)) : ∀ m t (s : Mm), 8 < t + m → t ≤ 8 → (∀ q, q ≠ 31 → s.1 q = ρ.1 q) → s.2 = ρ.2 → (∀ i, i < t → s.1 31 i = nI (W i + k / 2 ^ i % 2)) → (∀ i, t ≤ i → s.1 31 i = ρ.1 31 i) → ∀ τ, fX7_tally_2 (nI k) m s t = τ → (∀ q, q ≠ 31 → τ.1 q = ρ.1 q) ∧ τ.2 = ρ.2 ∧ ∀ i, i < 8 → τ.1 31 i = nI (W i + k / 2 ^ i % 2) := by
  intro m
  induction m with
  | zero => intro t s h1 h2; omega
  | succ m ih =>
    intro t s h1 h2 e1 e2 e3 e4 τ hτ
    rw [fX7_tally_2] at hτ
    by_cases c : t < 8
    · rw [if_pos (show nI t < 8 from nI_lt c (by decide)), sh_bit (by omega) c, e4 t (Nat.le_refl _), hW t c, nI_add] at hτ
      refine ih (t + 1) (up s 31 t (nI (W t + k / 2 ^ t % 2))) (by omega) (by omega) (fun q hq => by rw [up_ne hq]; exact e1 q hq) e2 (fun i hi => ?_) (fun i hi => ?_) τ hτ
      · by_cases e : i = t
        · subst e
          rw [up_e]
        · rw [up_n e]
          exact e3 i (by omega)
      · rw [up_n (by omega)]
        exact e4 i (by omega)
    · rw [if_neg (show ¬ nI t < 8 from nI_nlt (a := t) (b := 8) (by omega) (by omega))] at hτ
      subst hτ
      exact ⟨e1, e2, fun i hi => e3 i (by omega)⟩
theorem sv_go {σ ρ : Mm} {n w B Hd C Gd L : Nat} {d : Nat → Nat → Nat} {sg : Nat → Nat × Nat × Bool} {U : Nat} {so : Nat → Bool} (P : HP (σ.1 49) (σ.1 50) (σ.1 34) n w B Hd C Gd d) (G : SG σ L sg) (e27 : ρ.1 27 = σ.1 27) (e28 : ρ.1 28 = σ.1 28) (e29 : ρ.1 29 = σ.1 29) (e26 : ρ.1 26 5 = σ.1 26 5) (e49 : ρ.1 49 = σ.1 49) (e30 : ∀ j, j < L → ρ.1 30 j = nI (lk n d w (sg j).1)) (hU : U < 2 ^ n) (hso : ∀ k, dif k U = 0 → so k = al L (sok n d w sg (k ||| SHb n B Hd))) : ∀ j m k (s : Mm) (v : Wv), k + j = 256 → j < m → CW s U v → (∀ q, q ≠ 26 → q ≠ 31 → s.1 q = ρ.1 q) → s.1 26 5 = ρ.1 26 5 → s.2 = ρ.2 → ∀ τ, fX7_survey_27 49 m s (nI U) k = τ → CW τ U (wrun so U j k v) ∧ (∀ q, q ≠ 26 → q ≠ 31 → τ.1 q = ρ.1 q) ∧ τ.1 26 5 = ρ.1 26 5 ∧ τ.2 = ρ.2 := by
  obtain ⟨a1, a2, a3, a4, a5, a6, b1, b2, b3, b4, b5, b6, b7, b8, b9, c1, c2, c3, c4⟩ := id P
  intro j
  induction j with
  | zero =>
    intro m k s v h1 h2 hc f1 f2 f3 τ hτ
    obtain ⟨m, rfl⟩ : ∃ m', m = m' + 1 := ⟨m - 1, by omega⟩
    rw [fX7_survey_27, if_neg (show ¬ nI k < 256 from nI_nlt (a := k) (b := 256) (by omega) (by omega))] at hτ
    subst hτ
    exact ⟨hc, f1, f2, f3⟩
  | succ j ih =>
    intro m k s v h1 h2 hc f1 f2 f3 τ hτ
    obtain ⟨m, rfl⟩ : ∃ m', m = m' + 1 := ⟨m - 1, by omega⟩
    have s49 : s.1 49 = σ.1 49 := (f1 49 (by decide) (by decide)).trans e49
    have hk32 : k < 2 ^ 32 := by omega
    rw [fX7_survey_27, if_pos (show nI k < 256 from nI_lt (a := k) (b := 256) (by omega) (by decide)), nI_dif, shn2 (h := 49) a1 (by rw [s49]; exact b1) (by rw [s49]; exact b6) (by rw [s49]; exact b8), nI_or, s49, b1] at hτ
    have e : wrun so U (j + 1) k v = wrun so U j (k + 1) (wstep so U k v) := rfl
    rw [e]
    have hd31 : dif k U < 2 ^ 31 := Nat.lt_of_le_of_lt (dif_le k U) (by omega)
    by_cases q : dif k U = 0
    · have kU : k < 2 ^ n := by
        refine sub_lt (b := U) (fun t ht => ?_) hU
        have z : (dif k U).testBit t = false := by rw [q, Nat.zero_testBit]
        rw [dif_tb hk32, ht, Bool.true_and] at z
        cases hu : U.testBit t
        · rw [hu] at z
          exact absurd z (by decide)
        · rfl
      have hX : k ||| SHb n B Hd < 2 ^ n := Nat.or_lt_two_pow kU (SH_lt _ _ _)
      have his : fX7_isSo s (nI (k ||| SHb n B Hd)) (nI n) = so k := by
        apply Bool.eq_iff_iff.mpr
        rw [hso k q, al_iff]
        have g := so2 (s := s) (d := d) (w := w) a1 G ((f1 27 (by decide) (by decide)).trans e27) ((f1 28 (by decide) (by decide)).trans e28) ((f1 29 (by decide) (by decide)).trans e29) (f2.trans e26) (fun j hj => by rw [f1 30 (by decide) (by decide)]; exact e30 j hj) hX 7 0 (by decide) (Nat.zero_le _)
        exact g.trans ⟨fun z j hj => z j (Nat.zero_le _) hj, fun z j _ hj => z j hj⟩
      rw [if_pos ((n0 hd31).mpr q), his] at hτ
      by_cases q2 : so k = true
      · rw [if_pos q2] at hτ
        obtain ⟨w1, w2, w3, w4⟩ := hc
        have ew : wstep so U k v = (v.1 + 1, v.2.1 &&& k, v.2.2.1 ||| k, fun t => v.2.2.2 t + k / 2 ^ t % 2) := if_pos ⟨q, q2⟩
        unfold fX7_survey_79 at hτ
        rw [w1, nI_1, up_n (by decide), w2, nI_and, up_n (by decide), up_n (by decide), w3, nI_dif, dif_dif a1 hU] at hτ
        generalize hρ2 : up (up (up s 26 6 (nI (v.1 + 1))) 26 7 (nI (v.2.1 &&& k))) 26 8 (nI (dif U (v.2.2.1 ||| k))) = ρ2 at hτ
        have r31 : ρ2.1 31 = s.1 31 := by rw [← hρ2, up_ne (by decide), up_ne (by decide), up_ne (by decide)]
        have r2 : ρ2.2 = s.2 := by rw [← hρ2]; rfl
        obtain ⟨t1, t2, t3⟩ := ty_go (ρ := ρ2) (k := k) (by omega) (W := v.2.2.2) (fun t ht => by rw [r31]; exact w4 t ht) 9 0 ρ2 (by decide) (by decide) (fun _ _ => rfl) rfl (fun i hi => absurd hi (Nat.not_lt_zero i)) (fun _ _ => rfl) (fX7_tally ρ2 (nI k)) rfl
        refine ih m (k + 1) _ _ (by omega) (by omega) ?_ (fun q q1 q3 => ?_) ?_ ?_ τ hτ
        · rw [ew]
          refine ⟨?_, ?_, ?_, t3⟩
          · rw [t1 26 (by decide), ← hρ2, up_n (by decide), up_n (by decide), up_e]
          · rw [t1 26 (by decide), ← hρ2, up_n (by decide), up_e]
          · rw [t1 26 (by decide), ← hρ2, up_e]
        · rw [t1 q q3, ← hρ2, up_ne q1, up_ne q1, up_ne q1]
          exact f1 q q1 q3
        · rw [t1 26 (by decide), ← hρ2, up_n (by decide), up_n (by decide), up_n (by decide)]
          exact f2
        · rw [t2, r2]
          exact f3
      · have ew : wstep so U k v = v := if_neg (fun z => q2 z.2)
        rw [if_neg q2] at hτ
        rw [ew]
        exact ih m (k + 1) s v (by omega) (by omega) hc f1 f2 f3 τ hτ
    · have ew : wstep so U k v = v := if_neg (fun z => q z.1)
      rw [if_neg (fun z => q ((n0 hd31).mp z))] at hτ
      rw [ew]
      exact ih m (k + 1) s v (by omega) (by omega) hc f1 f2 f3 τ hτ
