/-! the owners learnt -/
def Mo (n : Nat) (d : Nat → Nat → Nat) (D o : Nat) : Nat := 2 * dif D (owb n d o) + 1
theorem shl1 : ∀ x, x < 256 → (nI x <<< (1 &&& 31)) ||| 1 = nI (2 * x + 1) := by decide +kernel
theorem lo_go {s : Mm} {n o : Nat} {x3 x4 : Int32} {d : Nat → Nat → Nat} (D : CH (s.1 49) (s.1 50) n d) (ho : o < 3) : ∀ m k, n < k + m → k ≤ n → fX4_learn_19 49 (nI o) m s x3 x4 (nI (bs k fun t => d t 4 == o)) k = fX4_learn_58 49 (nI o) s x3 x4 (nI (owb n d o)) := by
  have n8 := D.1
  intro m
  induction m with
  | zero => intro k h1 h2; omega
  | succ m ih =>
    intro k h1 h2
    generalize hp : (fun t => d t 4 == o) = p at ih ⊢
    have pk : p k = (d k 4 == o) := by rw [← hp]
    rw [fX4_learn_19, D.2.1]
    by_cases c : k < n
    · have g := ih (k + 1) (by omega) (by omega)
      have d4 := (D.2.2 k c).2.1
      rw [if_pos (nI_lt c (by omega)), show fX2_figure s 49 (nI k) 4 = nI (d k 4) from fig2 (by decide) D c (k := 4) (by decide), Io0, bit_k k (by omega), nI_or]
      by_cases q : d k 4 = o
      · rw [if_pos (congrArg nI q), ← bs_t (n := k) (p := p) (by rw [pk]; exact beq_iff_eq.mpr q), g]
      · rw [if_neg (fun z => q ((nI_eq (by omega) (by omega)).mp z)), ← bs_f (n := k) (p := p) (by rw [pk]; exact beq_eq_false_iff_ne.mpr q), g]
    · rw [if_neg (nI_nlt (by omega) (by omega)), show k = n by omega, ← hp]
      rfl
theorem put_in {s : Mm} {q N x : Nat} {v : Int32} (hx : x < N) (hN : N < 2 ^ 31) : fX9_put s q N (nI x) v = up s q x v := by
  unfold fX9_put
  rw [if_pos (nI_pos' (by omega)), if_pos (nI_lt hx hN), nI_clamp (by omega)]
theorem lb_go {ρ : Mm} {o : Nat} (ho : o < 3) : ∀ m k (s : Mm), 81 < k + m → k ≤ 81 → (∀ q, q ≠ 14 + o → s.1 q = ρ.1 q) → s.2 = ρ.2 → (∀ x, x < k → s.1 (14 + o) x = -1000) → ∀ τ, fX4_learn_158 49 (nI o) m s k = τ → (∀ q, q ≠ 14 + o → τ.1 q = ρ.1 q) ∧ τ.2 = ρ.2 ∧ ∀ x, x < 81 → τ.1 (14 + o) x = -1000 := by
  intro m
  induction m with
  | zero => intro k s h1 h2; omega
  | succ m ih =>
    intro k s h1 h2 e1 e2 e3 τ hτ
    rw [fX4_learn_158, nI_clamp (by omega)] at hτ
    by_cases c : k < 81
    · rw [if_pos (show nI k < 81 from nI_lt (a := k) (b := 81) c (by decide)), put_in c (by decide)] at hτ
      refine ih (k + 1) (up s (14 + o) k (-1000)) (by omega) (by omega) (fun q hq => by rw [up_ne hq]; exact e1 q hq) e2 (fun x hx => ?_) τ hτ
      by_cases e : x = k
      · subst e
        rw [up_e]
      · rw [up_n e]
        exact e3 x (by omega)
    · rw [if_neg (show ¬ nI k < 81 from nI_nlt (a := k) (b := 81) (by omega) (by omega))] at hτ
      subst hτ
      exact ⟨e1, e2, fun x hx => e3 x (by omega)⟩
theorem lp_go {ρ : Mm} {n w o S D : Nat} {d : Nat → Nat → Nat} (n8 : n ≤ 8) (hS : S < 2 ^ n) (G : GL ρ 17 n d w 8) (hd : ∀ i, i < n → d i 5 ≤ 9) (ho : o < 3) : ∀ j m k (s : Mm), k + j = 256 → j < m → (∀ q, q ≠ 10 + o → s.1 q = ρ.1 q) → s.2 = ρ.2 → (∀ b, b < k → dif b D = 0 → pc b ≤ 3 → s.1 (10 + o) b = nI (prq n d w o (dif S b) 8)) → ∃ s' : Mm, fX4_learn_90 49 (nI o) m s (nI S) (nI D) (nI (owb n d o)) k = fX4_learn_145 49 (nI o) s' ∧ (∀ q, q ≠ 10 + o → s'.1 q = ρ.1 q) ∧ s'.2 = ρ.2 ∧ (∀ b, b < 256 → dif b D = 0 → pc b ≤ 3 → s'.1 (10 + o) b = nI (prq n d w o (dif S b) 8)) := by
  intro j
  induction j with
  | zero =>
    intro m k s h1 h2 e1 e2 e3
    obtain ⟨m, rfl⟩ : ∃ z, m = z + 1 := ⟨m - 1, by omega⟩
    rw [fX4_learn_90, if_neg (show ¬ nI k < 256 from nI_nlt (a := k) (b := 256) (by omega) (by omega))]
    exact ⟨s, rfl, e1, e2, fun b hb => e3 b (by omega)⟩
  | succ j ih =>
    intro m k s h1 h2 e1 e2 e3
    obtain ⟨m, rfl⟩ : ∃ z, m = z + 1 := ⟨m - 1, by omega⟩
    have hk : k < 256 := by omega
    have hd31 : dif k D < 2 ^ 31 := Nat.lt_of_le_of_lt (dif_le k D) (by omega)
    rw [fX4_learn_90, if_pos (show nI k < 256 from nI_lt (a := k) (b := 256) hk (by decide)), nI_dif, bits_pc hk, nI_clamp (by omega)]
    have skip : ¬ (dif k D = 0 ∧ pc k ≤ 3) → ∃ s' : Mm, fX4_learn_90 49 (nI o) m s (nI S) (nI D) (nI (owb n d o)) (k + 1) = fX4_learn_145 49 (nI o) s' ∧ (∀ q, q ≠ 10 + o → s'.1 q = ρ.1 q) ∧ s'.2 = ρ.2 ∧ (∀ b, b < 256 → dif b D = 0 → pc b ≤ 3 → s'.1 (10 + o) b = nI (prq n d w o (dif S b) 8)) := fun z => ih m (k + 1) s (by omega) (by omega) e1 e2 (fun b hb b1 b2 => by
      by_cases e : b = k
      · subst e
        exact absurd ⟨b1, b2⟩ z
      · exact e3 b (by omega) b1 b2)
    by_cases q : dif k D = 0
    · rw [if_pos ((n0 hd31).mpr q)]
      by_cases q2 : pc k ≤ 3
      · have Gs : GL s 17 n d w 8 := fun t ht => by
          rw [e1 18 (by omega), e1 19 (by omega), e1 20 (by omega)]
          exact G t ht
        have ep := pr_go (X := dif S k) (o := o) n8 Gs (dif_lt hS k) hd 9 0 (by decide) (by decide)
        have ep : fX1_pricesAmong s 17 (nI (owb n d o)) (nI (dif S k)) = nI (prq n d w o (dif S k) 8) := ep
        rw [if_pos (show nI (pc k) ≤ 3 from nI_le (a := pc k) (b := 3) q2 (by decide)), nI_dif, ep, put_in hk (by decide)]
        refine ih m (k + 1) (up s (10 + o) k (nI (prq n d w o (dif S k) 8))) (by omega) (by omega) (fun q hq => by rw [up_ne hq]; exact e1 q hq) e2 (fun b hb b1 b2 => ?_)
        by_cases e : b = k
        · subst e
          rw [up_e]
        · rw [up_n e]
          exact e3 b (by omega) b1 b2
      · rw [if_neg (show ¬ nI (pc k) ≤ 3 from nI_ge (a := 3) (b := pc k) (by omega) (Nat.lt_of_le_of_lt (pc_le _) (by decide)))]
        exact skip (fun z => q2 z.2)
    · rw [if_neg (fun z => q ((n0 hd31).mp z))]
      exact skip (fun z => q z.1)
/-- what is learnt of an owner -/
def OW (s : Mm) (n : Nat) (d : Nat → Nat → Nat) (w S D o : Nat) : Prop := s.1 8 o = nI (Mo n d D o) ∧ (∀ b, b < 256 → dif b D = 0 → pc b ≤ 3 → s.1 (10 + o) b = nI (prq n d w o (dif S b) 8)) ∧ ∀ x, x < 81 → s.1 (14 + o) x = -1000
theorem ln_all {σ s : Mm} {n w B Hd C Gd o : Nat} {d : Nat → Nat → Nat} (P : HP (σ.1 49) (σ.1 50) (σ.1 34) n w B Hd C Gd d) (e49 : s.1 49 = σ.1 49) (e50 : s.1 50 = σ.1 50) (G : GL s 17 n d w 8) (ho : o < 3) : ∀ τ, fX4_learn s 49 (nI o) = τ → OW τ n d w (SHb n B Hd) (SHb n B Hd &&& BKb n B C Gd) o ∧ (∀ q, q ≠ 8 → q ≠ 10 + o → q ≠ 14 + o → τ.1 q = s.1 q) ∧ (∀ i, i ≠ o → τ.1 8 i = s.1 8 i) ∧ τ.2 = s.2 := by
  obtain ⟨a1, a2, a3, a4, a5, a6, b1, b2, b3, b4, b5, b6, b7, b8, b9, c1, c2, c3, c4⟩ := id P
  intro τ hτ
  have Ds : CH (s.1 49) (s.1 50) n d := by
    rw [e49, e50]
    exact P.ch
  have hS := SH_lt n B Hd
  have hD : SHb n B Hd &&& BKb n B C Gd < 2 ^ n := Nat.lt_of_le_of_lt Nat.and_le_left hS
  have eS : fX2_shown s 49 = nI (SHb n B Hd) := shn2 a1 (by rw [e49]; exact b1) (by rw [e49]; exact b6) (by rw [e49]; exact b8)
  have eB : fX2_breakable s 49 = nI (BKb n B C Gd) := bk2 a1 (by rw [e49]; exact b1) (by rw [e49]; exact b6) (by rw [e49]; exact c1) (by rw [e49]; exact c3)
  have g1 := lo_go (x3 := nI (SHb n B Hd)) (x4 := nI (SHb n B Hd &&& BKb n B C Gd)) Ds ho (n + 1) 0 (by omega) (by omega)
  unfold fX4_learn mX4_learn_19 at hτ
  rw [eS, eB, nI_and, Ds.2.1, nI_clamp (by omega)] at hτ
  generalize SHb n B Hd &&& BKb n B C Gd = D at g1 hτ hD ⊢
  generalize SHb n B Hd = S at g1 hτ hS ⊢
  have g1 : fX4_learn_19 49 (nI o) (n + 1) s (nI S) (nI D) 0 0 = fX4_learn_58 49 (nI o) s (nI S) (nI D) (nI (owb n d o)) := g1
  rw [g1] at hτ
  unfold fX4_learn_58 at hτ
  rw [nI_dif, shl1 _ (p8 a1 (dif_lt hD _)), put_in ho (by decide)] at hτ
  generalize hρ : up s 8 o (nI (2 * dif D (owb n d o) + 1)) = ρ at hτ
  have ρk : ∀ q, q ≠ 8 → ρ.1 q = s.1 q := fun q hq => by rw [← hρ, up_ne hq]
  have Gρ : GL ρ 17 n d w 8 := fun t ht => by
    rw [ρk 18 (by omega), ρk 19 (by omega), ρk 20 (by omega)]
    exact G t ht
  obtain ⟨s', t0, t1, t2, t3⟩ := lp_go (D := D) a1 hS Gρ (fun i hi => (c4 i hi).1 5 (by decide)) ho 256 257 0 ρ (by decide) (by decide) (fun _ _ => rfl) rfl (fun b hb => absurd hb (Nat.not_lt_zero b))
  rw [t0] at hτ
  unfold fX4_learn_145 at hτ
  obtain ⟨u1, u2, u3⟩ := lb_go (ρ := s') ho 82 0 s' (by decide) (by decide) (fun _ _ => rfl) rfl (fun x hx => absurd hx (Nat.not_lt_zero x)) τ hτ
  refine ⟨⟨?_, fun b hb b1 b2 => ?_, u3⟩, fun q q1 q2 q3 => ?_, fun i hi => ?_, ?_⟩
  · rw [u1 8 (by omega), t1 8 (by omega), ← hρ, up_e]
    rfl
  · rw [u1 (10 + o) (by omega)]
    exact t3 b hb b1 b2
  · rw [u1 q q3, t1 q q2, ρk q q1]
  · rw [u1 8 (by omega), t1 8 (by omega), ← hρ, up_n hi]
  · rw [u2, t2, ← hρ]
    rfl
/-! all choices gone through -/
def gF (x : Bool) (s : Mm) (a b c : Nat) : Mm := if (((((s.1 8 0) >>> ((nI a) &&& 31)) &&& ((s.1 8 1) >>> ((nI b) &&& 31))) &&& ((s.1 8 2) >>> ((nI c) &&& 31))) &&& 1) = 0 then s else if x = true then (if fX4_isRest s (nI a) (nI b) (nI c) = true then fX4_tell s (((((nI a) * 9) + (nI b)) * 9) + (nI c)) else s) else fX4_raiseBest s (nI a) (nI b) (nI c)
theorem may_iff {s : Mm} {a b c : Int32} : fX4_mayChoose s a b c = true ↔ ¬ (((((s.1 8 0) >>> (a &&& 31)) &&& ((s.1 8 1) >>> (b &&& 31))) &&& ((s.1 8 2) >>> (c &&& 31))) &&& 1) = 0 := by
  have e0 : fX9_at s 8 3 0 = s.1 8 0 := by
    unfold fX9_at
    rw [if_pos (by decide), if_pos (by decide)]
    rfl
  have e1 : fX9_at s 8 3 1 = s.1 8 1 := by
    unfold fX9_at
    rw [if_pos (by decide), if_pos (by decide)]
    rfl
  have e2 : fX9_at s 8 3 2 = s.1 8 2 := by
    unfold fX9_at
    rw [if_pos (by decide), if_pos (by decide)]
    rfl
  unfold fX4_mayChoose
  rw [e0, e1, e2]
  by_cases q : (((((s.1 8 0) >>> (a &&& 31)) &&& ((s.1 8 1) >>> (b &&& 31))) &&& ((s.1 8 2) >>> (c &&& 31))) &&& 1) = 0
  · rw [if_pos q]
    exact ⟨fun h => absurd h (by decide), fun h => absurd q h⟩
  · rw [if_neg q]
    exact ⟨fun _ => q, fun _ => rfl⟩
def in1 (x : Bool) (a b : Nat) : Nat → Nat → Mm → Mm
  | 0, _, s => s
  | j + 1, c, s => in1 x a b j (c + 1) (gF x s a b c)
def in2 (x : Bool) (a : Nat) : Nat → Nat → Mm → Mm
  | 0, _, s => s
  | j + 1, b, s => in2 x a j (b + 1) (in1 x a b 9 0 s)
def in3 (x : Bool) : Nat → Nat → Mm → Mm
  | 0, _, s => s
  | j + 1, a, s => in3 x j (a + 1) (in2 x a 9 0 s)
theorem g19 {x : Bool} {a b : Nat} {kb2 : Mm → Nat → Mm} {kb10 : Mm → Nat → Nat → Mm} : ∀ j m c (s : Mm), c + j = 9 → j < m → fX4_goThrough_19 x kb2 kb10 m s a b c = kb10 (in1 x a b j c s) a (b + 1) := by
  intro j
  induction j with
  | zero =>
    intro m c s h1 h2
    obtain ⟨m, rfl⟩ : ∃ z, m = z + 1 := ⟨m - 1, by omega⟩
    rw [fX4_goThrough_19, if_neg (show ¬ nI c < 9 from nI_nlt (a := c) (b := 9) (by omega) (by omega))]
    rfl
  | succ j ih =>
    intro m c s h1 h2
    obtain ⟨m, rfl⟩ : ∃ z, m = z + 1 := ⟨m - 1, by omega⟩
    have g := fun s => ih m (c + 1) s (by omega) (by omega)
    rw [fX4_goThrough_19, if_pos (show nI c < 9 from nI_lt (a := c) (b := 9) (by omega) (by decide)), g, g, g]
    show _ = kb10 (in1 x a b j (c + 1) (gF x s a b c)) a (b + 1)
    unfold gF
    by_cases q : (((((s.1 8 0) >>> ((nI a) &&& 31)) &&& ((s.1 8 1) >>> ((nI b) &&& 31))) &&& ((s.1 8 2) >>> ((nI c) &&& 31))) &&& 1) = 0
    · rw [if_neg (fun z => may_iff.mp z q), if_pos q]
    · rw [if_pos (may_iff.mpr q), if_neg q]
      cases x
      · rw [if_neg (by decide), if_neg (by decide)]
      · rw [if_pos rfl, if_pos rfl]
        by_cases q2 : fX4_isRest s (nI a) (nI b) (nI c) = true
        · rw [if_pos q2, if_pos q2]
        · rw [if_neg q2, if_neg q2]
theorem g10 {x : Bool} {a : Nat} {kb2 : Mm → Nat → Mm} : ∀ j m b (s : Mm), b + j = 9 → j < m → fX4_goThrough_10 x kb2 m s a b = kb2 (in2 x a j b s) (a + 1) := by
  intro j
  induction j with
  | zero =>
    intro m b s h1 h2
    obtain ⟨m, rfl⟩ : ∃ z, m = z + 1 := ⟨m - 1, by omega⟩
    rw [fX4_goThrough_10, if_neg (show ¬ nI b < 9 from nI_nlt (a := b) (b := 9) (by omega) (by omega))]
    rfl
  | succ j ih =>
    intro m b s h1 h2
    obtain ⟨m, rfl⟩ : ∃ z, m = z + 1 := ⟨m - 1, by omega⟩
    rw [fX4_goThrough_10, if_pos (show nI b < 9 from nI_lt (a := b) (b := 9) (by omega) (by decide)), g19 9 10 0 s (by decide) (by decide)]
    exact ih m (b + 1) _ (by omega) (by omega)
theorem g2 {x : Bool} : ∀ j m a (s : Mm), a + j = 9 → j < m → fX4_goThrough_2 x m s a = in3 x j a s := by
  intro j
  induction j with
  | zero =>
    intro m a s h1 h2
    obtain ⟨m, rfl⟩ : ∃ z, m = z + 1 := ⟨m - 1, by omega⟩
    rw [fX4_goThrough_2, if_neg (show ¬ nI a < 9 from nI_nlt (a := a) (b := 9) (by omega) (by omega))]
    rfl
  | succ j ih =>
    intro m a s h1 h2
    obtain ⟨m, rfl⟩ : ∃ z, m = z + 1 := ⟨m - 1, by omega⟩
    rw [fX4_goThrough_2, if_pos (show nI a < 9 from nI_lt (a := a) (b := 9) (by omega) (by decide)), g10 9 10 0 s (by decide) (by decide)]
    exact ih m (a + 1) _ (by omega) (by omega)
theorem go_inv {x : Bool} (I : Nat → Mm → Prop) (hI : ∀ a b c s, a < 9 → b < 9 → c < 9 → I (81 * a + 9 * b + c) s → I (81 * a + 9 * b + c + 1) (gF x s a b c)) : ∀ s, I 0 s → I 729 (fX4_goThrough s x) := by
  have i1 : ∀ a b, a < 9 → b < 9 → ∀ j c s, c + j = 9 → I (81 * a + 9 * b + c) s → I (81 * a + 9 * (b + 1)) (in1 x a b j c s) := by
    intro a b ha hb j
    induction j with
    | zero =>
      intro c s h1 h2
      rw [show 81 * a + 9 * (b + 1) = 81 * a + 9 * b + c by omega]
      exact h2
    | succ j ih => intro c s h1 h2; exact ih (c + 1) _ (by omega) (hI a b c s ha hb (by omega) h2)
  have i2 : ∀ a, a < 9 → ∀ j b s, b + j = 9 → I (81 * a + 9 * b) s → I (81 * (a + 1)) (in2 x a j b s) := by
    intro a ha j
    induction j with
    | zero =>
      intro b s h1 h2
      rw [show 81 * (a + 1) = 81 * a + 9 * b by omega]
      exact h2
    | succ j ih => intro b s h1 h2; exact ih (b + 1) _ (by omega) (i1 a b ha (by omega) 9 0 s (by decide) h2)
  have i3 : ∀ j a s, a + j = 9 → I (81 * a) s → I 729 (in3 x j a s) := by
    intro j
    induction j with
    | zero =>
      intro a s h1 h2
      rw [show 729 = 81 * a by omega]
      exact h2
    | succ j ih => intro a s h1 h2; exact ih (a + 1) _ (by omega) (i2 a (by omega) 9 0 s (by decide) h2)
  intro s h0
  have e : fX4_goThrough s x = in3 x 9 0 s := g2 9 10 0 s (by decide) (by decide)
  rw [e]
  exact i3 9 0 s (by decide) h0
