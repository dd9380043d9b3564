/-! rests on the reference's side -/
theorem may_eq {r : Mm} {n w B Hd C Gd o x : Nat} {f t : Nat → Int32} {d : Nat → Nat → Nat} (P : HP f t (r.1 34) n w B Hd C Gd d) (ho : o < 3) (hx : x < 9) : fX10_may r (nI o) (nI x) = (Mo n d (SHb n B Hd &&& BKb n B C Gd) o).testBit x := by
  obtain ⟨a1, a2, a3, a4, a5, a6, b1, b2, b3, b4, b5, b6, b7, b8, b9, c1, c2, c3, c4⟩ := id P
  unfold fX10_may
  rcases Nat.eq_zero_or_pos x with e | e
  · subst e
    rw [if_pos (show nI 0 = 0 from rfl), Mo_0]
  · obtain ⟨i, rfl⟩ : ∃ i, x = i + 1 := ⟨x - 1, by omega⟩
    have hD : SHb n B Hd &&& BKb n B C Gd < 2 ^ 32 := Nat.lt_of_le_of_lt Nat.and_le_left (Nat.lt_trans (p31 a1 (SH_lt _ _ _)) (by decide))
    rw [if_neg (nI_ne0 (by omega) (by omega)), nI_pred, Mo_s, dif_tb hD, Nat.testBit_and]
    by_cases ci : i < n
    · have P0 : HP f t (fun j => r.1 34 (14 * 0 + j)) n w B Hd C Gd d := by
        rw [z_add]
        exact P
      have cb := can10_eq (l := 0) (a := 0) (by decide) P0 P.rg ci (by decide)
      have cb : fX10_canBreak r 0 (nI i) = (!B.testBit i && (!C.testBit i && !Gd.testBit i)) := cb
      have ow : (owb n d o).testBit i = (d i 4 == o) := by
        unfold owb
        rw [bs_tb, decide_eq_true ci, Bool.true_and]
      have bk : (BKb n B C Gd).testBit i = (!B.testBit i && (!C.testBit i && !Gd.testBit i)) := by
        unfold BKb
        rw [bs_tb, decide_eq_true ci, Bool.true_and]
      have d4 := (c4 i ci).2.1
      rw [if_pos ((thing_iff b2 (by omega)).mpr ⟨i, ci, rfl⟩), shn10 (l := 0) a1 b2 b7 b9, has_tb (p31 a1 (SH_lt _ _ _)) (by omega), cb, (parts10 P.rg ci).2.2.1, ow, bk]
      cases (SHb n B Hd).testBit i
      · rfl
      · cases (!B.testBit i && (!C.testBit i && !Gd.testBit i))
        · rfl
        · rw [if_pos rfl, if_pos rfl]
          by_cases q : d i 4 = o
          · rw [if_pos (congrArg nI q), beq_iff_eq.mpr q]
            rfl
          · rw [if_neg (fun z => q ((nI_eq (by omega) (by omega)).mp z)), beq_eq_false_iff_ne.mpr q]
            rfl
    · have hnt : ¬ fX10_isThing r (nI i) = true := fun v => by
        obtain ⟨j, hj, e⟩ := (thing_iff b2 (by omega)).mp v
        have := (nI_eq (by omega) (by omega)).mp e
        omega
      rw [if_neg hnt, tb_big (SH_lt n B Hd) (by omega)]
      rfl
theorem h43 {r : Mm} {n w o x X : Nat} {a2 a3 a4 : Int32} {d : Nat → Nat → Nat} (D : RG (r.1 34) n d) (hw : r.1 34 11 = nI w) (w4 : w ≤ 4) (hX : X < 2 ^ n) (ho : o < 3) (hx : x < 9) (h2 : x = 0 ∨ x - 1 < n) : fX10_has3_43 r (nI o) a2 a3 a4 (nI X) (nI x) = nI (prq n d w o X n) - nI (cst d x) := by
  have n8 := D.1
  have g := fun v => h3_go (a2 := a2) (a3 := a3) (a4 := a4) (v := v) D hw w4 hX ho (n + 1) 0 (by omega) (by omega)
  have e63 : ∀ v, fX10_has3_63 r (nI o) a2 a3 a4 (nI X) v = v + nI (prq n d w o X n) := fun v => by
    unfold fX10_has3_63 mX10_has3_68
    rw [D.2.1, nI_clamp (by omega), ← g v]
    congr 1
    exact (Int32.add_zero v).symm
  unfold fX10_has3_43
  rw [e63, e63]
  by_cases z : x = 0
  · subst z
    rw [if_pos (show nI 0 = 0 from rfl), Int32.zero_add]
    exact (Int32.sub_zero _).symm
  · have hx1 : x - 1 < n := by
      rcases h2 with y | y
      · exact absurd y z
      · exact y
    have es : cst d x = d (x - 1) 6 := if_neg z
    rw [if_neg (nI_ne0 (by omega) (by omega)), show (1 : Int32) = nI 1 from rfl, pk_sub (by omega), (parts10 D hx1).2.1, es, Int32.sub_eq_add_neg, Int32.add_comm]
theorem h3V {r : Mm} {n w S a b c : Nat} {d : Nat → Nat → Nat} (D : RG (r.1 34) n d) (hw : r.1 34 11 = nI w) (w4 : w ≤ 4) (hSh : fX10_shown r 0 = nI S) (hS : S < 2 ^ n) (ha : a < 9) (hb : b < 9) (hc : c < 9) : ((a = 0 ∨ a - 1 < n) → fX10_has3 r 0 (nI a) (nI b) (nI c) = vI n d w S 0 a a b c) ∧ ((b = 0 ∨ b - 1 < n) → fX10_has3 r 1 (nI a) (nI b) (nI c) = vI n d w S 1 b a b c) ∧ ((c = 0 ∨ c - 1 < n) → fX10_has3 r 2 (nI a) (nI b) (nI c) = vI n d w S 2 c a b c) := by
  have n8 := D.1
  unfold fX10_has3
  rw [(br_I a ha b hb c hc).1, hSh, nI_dif]
  refine ⟨fun h => ?_, fun h => ?_, fun h => ?_⟩
  · rw [if_pos rfl]
    exact h43 (o := 0) D hw w4 (dif_lt hS _) (by decide) ha h
  · rw [if_neg (by decide), if_pos rfl]
    exact h43 (o := 1) D hw w4 (dif_lt hS _) (by decide) hb h
  · rw [if_neg (by decide), if_neg (by decide)]
    exact h43 (o := 2) D hw w4 (dif_lt hS _) (by decide) hc h
theorem r37 {r : Mm} {a b c : Nat} {q0 q1 q2 : Nat → Prop} (h0 : ∀ x, x < 9 → (q0 x ↔ (fX10_may r 0 (nI x) = true → fX10_has3 r 0 (nI x) (nI b) (nI c) ≤ fX10_has3 r 0 (nI a) (nI b) (nI c)))) (h1 : ∀ x, x < 9 → (q1 x ↔ (fX10_may r 1 (nI x) = true → fX10_has3 r 1 (nI a) (nI x) (nI c) ≤ fX10_has3 r 1 (nI a) (nI b) (nI c)))) (h2 : ∀ x, x < 9 → (q2 x ↔ (fX10_may r 2 (nI x) = true → fX10_has3 r 2 (nI a) (nI b) (nI x) ≤ fX10_has3 r 2 (nI a) (nI b) (nI c)))) : ∀ m k bb, 9 < k + m → k ≤ 9 → (fX10_rest_37 r (nI a) (nI b) (nI c) m bb k = true ↔ bb = true ∧ ∀ x, k ≤ x → x < 9 → (q0 x ∧ q1 x ∧ q2 x)) := by
  intro m
  induction m with
  | zero => intro k bb g1 g2; omega
  | succ m ih =>
    intro k bb g1 g2
    rw [fX10_rest_37]
    by_cases cc : k < 9
    · rw [if_pos (show nI k < 9 from nI_lt cc (by decide))]
      cases bb
      · rw [if_neg (by decide)]
        exact ⟨fun z => absurd z (by decide), fun z => absurd z.1 (by decide)⟩
      · have gt := ih (k + 1) true (by omega) (by omega)
        have gf := ih (k + 1) false (by omega) (by omega)
        have fls : ¬ (q0 k ∧ q1 k ∧ q2 k) → (fX10_rest_37 r (nI a) (nI b) (nI c) m false (k + 1) = true ↔ true = true ∧ ∀ x, k ≤ x → x < 9 → (q0 x ∧ q1 x ∧ q2 x)) := fun z => by
          rw [gf]
          exact ⟨fun y => absurd y.1 (by decide), fun y => absurd (y.2 k (Nat.le_refl _) cc) z⟩
        have tru : (q0 k ∧ q1 k ∧ q2 k) → (fX10_rest_37 r (nI a) (nI b) (nI c) m true (k + 1) = true ↔ true = true ∧ ∀ x, k ≤ x → x < 9 → (q0 x ∧ q1 x ∧ q2 x)) := fun z => by
          rw [gt]
          exact and_congr_right fun _ => allQ z
        rw [if_pos rfl]
        unfold fX10_rest_79 fX10_rest_84 fX10_rest_121 fX10_rest_125 fX10_rest_126
        rw [if_pos (show true = true from rfl), if_neg (show ¬ false = true by decide), if_neg (show ¬ false = true by decide), if_pos (show true = true from rfl)]
        by_cases w0 : fX10_may r 0 (nI k) = true
        · rw [if_pos w0]
          by_cases v0 : fX10_has3 r 0 (nI k) (nI b) (nI c) ≤ fX10_has3 r 0 (nI a) (nI b) (nI c)
          · rw [if_pos v0]
            have y0 : q0 k := (h0 k cc).mpr fun _ => v0
            by_cases w1 : fX10_may r 1 (nI k) = true
            · rw [if_pos w1]
              by_cases v1 : fX10_has3 r 1 (nI a) (nI k) (nI c) ≤ fX10_has3 r 1 (nI a) (nI b) (nI c)
              · rw [if_pos v1]
                have y1 : q1 k := (h1 k cc).mpr fun _ => v1
                by_cases w2 : fX10_may r 2 (nI k) = true
                · rw [if_pos w2]
                  by_cases v2 : fX10_has3 r 2 (nI a) (nI b) (nI k) ≤ fX10_has3 r 2 (nI a) (nI b) (nI c)
                  · rw [if_pos v2]
                    exact tru ⟨y0, y1, (h2 k cc).mpr fun _ => v2⟩
                  · rw [if_neg v2]
                    exact fls fun z => v2 ((h2 k cc).mp z.2.2 w2)
                · rw [if_neg w2]
                  exact tru ⟨y0, y1, (h2 k cc).mpr fun z => absurd z w2⟩
              · rw [if_neg v1]
                exact fls fun z => v1 ((h1 k cc).mp z.2.1 w1)
            · rw [if_neg w1]
              have y1 : q1 k := (h1 k cc).mpr fun z => absurd z w1
              by_cases w2 : fX10_may r 2 (nI k) = true
              · rw [if_pos w2]
                by_cases v2 : fX10_has3 r 2 (nI a) (nI b) (nI k) ≤ fX10_has3 r 2 (nI a) (nI b) (nI c)
                · rw [if_pos v2]
                  exact tru ⟨y0, y1, (h2 k cc).mpr fun _ => v2⟩
                · rw [if_neg v2]
                  exact fls fun z => v2 ((h2 k cc).mp z.2.2 w2)
              · rw [if_neg w2]
                exact tru ⟨y0, y1, (h2 k cc).mpr fun z => absurd z w2⟩
          · rw [if_neg v0]
            exact fls fun z => v0 ((h0 k cc).mp z.1 w0)
        · rw [if_neg w0]
          have y0 : q0 k := (h0 k cc).mpr fun z => absurd z w0
          by_cases w1 : fX10_may r 1 (nI k) = true
          · rw [if_pos w1]
            by_cases v1 : fX10_has3 r 1 (nI a) (nI k) (nI c) ≤ fX10_has3 r 1 (nI a) (nI b) (nI c)
            · rw [if_pos v1]
              have y1 : q1 k := (h1 k cc).mpr fun _ => v1
              by_cases w2 : fX10_may r 2 (nI k) = true
              · rw [if_pos w2]
                by_cases v2 : fX10_has3 r 2 (nI a) (nI b) (nI k) ≤ fX10_has3 r 2 (nI a) (nI b) (nI c)
                · rw [if_pos v2]
                  exact tru ⟨y0, y1, (h2 k cc).mpr fun _ => v2⟩
                · rw [if_neg v2]
                  exact fls fun z => v2 ((h2 k cc).mp z.2.2 w2)
              · rw [if_neg w2]
                exact tru ⟨y0, y1, (h2 k cc).mpr fun z => absurd z w2⟩
            · rw [if_neg v1]
              exact fls fun z => v1 ((h1 k cc).mp z.2.1 w1)
          · rw [if_neg w1]
            have y1 : q1 k := (h1 k cc).mpr fun z => absurd z w1
            by_cases w2 : fX10_may r 2 (nI k) = true
            · rw [if_pos w2]
              by_cases v2 : fX10_has3 r 2 (nI a) (nI b) (nI k) ≤ fX10_has3 r 2 (nI a) (nI b) (nI c)
              · rw [if_pos v2]
                exact tru ⟨y0, y1, (h2 k cc).mpr fun _ => v2⟩
              · rw [if_neg v2]
                exact fls fun z => v2 ((h2 k cc).mp z.2.2 w2)
            · rw [if_neg w2]
              exact tru ⟨y0, y1, (h2 k cc).mpr fun z => absurd z w2⟩
    · rw [if_neg (show ¬ nI k < 9 from nI_nlt (a := k) (b := 9) (by omega) (by omega))]
      exact ⟨fun z => ⟨z, fun x x1 x2 => absurd x2 (by omega)⟩, fun z => z.1⟩
theorem rest10 {r : Mm} {n w B Hd C Gd a b c : Nat} {f t : Nat → Int32} {d : Nat → Nat → Nat} (P : HP f t (r.1 34) n w B Hd C Gd d) (ha : a < 9) (hb : b < 9) (hc : c < 9) : fX10_rest r (nI a) (nI b) (nI c) = true ↔ RST n d w (SHb n B Hd) (SHb n B Hd &&& BKb n B C Gd) a b c := by
  obtain ⟨a1, a2, a3, a4, a5, a6, b1, b2, b3, b4, b5, b6, b7, b8, b9, c1, c2, c3, c4⟩ := id P
  have m0 : ∀ x, x < 9 → fX10_may r 0 (nI x) = (Mo n d (SHb n B Hd &&& BKb n B C Gd) 0).testBit x := fun x hx => may_eq (o := 0) P (by decide) hx
  have m1 : ∀ x, x < 9 → fX10_may r 1 (nI x) = (Mo n d (SHb n B Hd &&& BKb n B C Gd) 1).testBit x := fun x hx => may_eq (o := 1) P (by decide) hx
  have m2 : ∀ x, x < 9 → fX10_may r 2 (nI x) = (Mo n d (SHb n B Hd &&& BKb n B C Gd) 2).testBit x := fun x hx => may_eq (o := 2) P (by decide) hx
  have hS := SH_lt n B Hd
  have hD : SHb n B Hd &&& BKb n B C Gd < 2 ^ n := Nat.lt_of_le_of_lt Nat.and_le_left hS
  have hSh : fX10_shown r 0 = nI (SHb n B Hd) := shn10 (l := 0) a1 b2 b7 b9
  have hv := fun a b c (ha : a < 9) (hb : b < 9) (hc : c < 9) => h3V P.rg b4 (by omega) hSh hS ha hb hc
  generalize SHb n B Hd &&& BKb n B C Gd = D at m0 m1 m2 hD ⊢
  generalize SHb n B Hd = S at hS hv ⊢
  have ok : ∀ o x, (Mo n d D o).testBit x = true → (x = 0 ∨ x - 1 < n) := fun o x h => (Mo_in a1 hD h).imp id (fun z => z.2)
  unfold fX10_rest fX10_rest_31 fX10_rest_32
  rw [m0 a ha, m1 b hb, m2 c hc]
  have nf : fX10_rest_37 r (nI a) (nI b) (nI c) 10 false 0 = false := by
    rw [fX10_rest_37, if_pos (show nI 0 < 9 by decide), if_neg (show ¬ false = true by decide)]
  rw [nf]
  unfold RST chs
  by_cases z0 : (Mo n d D 0).testBit a = true
  · rw [if_pos z0]
    by_cases z1 : (Mo n d D 1).testBit b = true
    · rw [if_pos z1]
      by_cases z2 : (Mo n d D 2).testBit c = true
      · rw [if_pos z2]
        have g := r37 (r := r) (a := a) (b := b) (c := c) (q0 := fun x => (Mo n d D 0).testBit x = true → vI n d w S 0 x x b c ≤ vI n d w S 0 a a b c) (q1 := fun x => (Mo n d D 1).testBit x = true → vI n d w S 1 x a x c ≤ vI n d w S 1 b a b c) (q2 := fun x => (Mo n d D 2).testBit x = true → vI n d w S 2 x a b x ≤ vI n d w S 2 c a b c) (fun x hx => by
          rw [m0 x hx, (hv a b c ha hb hc).1 (ok 0 a z0)]
          constructor
          · intro y1 y2
            rw [(hv x b c hx hb hc).1 (ok 0 x y2)]
            exact y1 y2
          · intro y1 y2
            have y3 := y1 y2
            rw [(hv x b c hx hb hc).1 (ok 0 x y2)] at y3
            exact y3) (fun x hx => by
          rw [m1 x hx, (hv a b c ha hb hc).2.1 (ok 1 b z1)]
          constructor
          · intro y1 y2
            rw [(hv a x c ha hx hc).2.1 (ok 1 x y2)]
            exact y1 y2
          · intro y1 y2
            have y3 := y1 y2
            rw [(hv a x c ha hx hc).2.1 (ok 1 x y2)] at y3
            exact y3) (fun x hx => by
          rw [m2 x hx, (hv a b c ha hb hc).2.2 (ok 2 c z2)]
          constructor
          · intro y1 y2
            rw [(hv a b x ha hb hx).2.2 (ok 2 x y2)]
            exact y1 y2
          · intro y1 y2
            have y3 := y1 y2
            rw [(hv a b x ha hb hx).2.2 (ok 2 x y2)] at y3
            exact y3) 10 0 true (by decide) (by decide)
        exact g.trans ⟨fun y => ⟨⟨z0, z1, z2⟩, fun x hx => y.2 x (Nat.zero_le _) hx⟩, fun y => ⟨rfl, fun x _ hx => y.2 x hx⟩⟩
      · rw [if_neg z2]
        exact ⟨fun y => absurd y (by decide), fun y => absurd y.1.2.2 z2⟩
    · rw [if_neg z1]
      exact ⟨fun y => absurd y (by decide), fun y => absurd y.1.2.1 z1⟩
  · rw [if_neg z0]
    exact ⟨fun y => absurd y (by decide), fun y => absurd y.1.1 z0⟩
/-! how many, and the first -/
def cnt (rb : Nat → Bool) : Nat → Nat
  | 0 => 0
  | k + 1 => cnt rb k + (if rb k = true then 1 else 0)
def fst (rb : Nat → Bool) : Nat → Int32
  | 0 => -9
  | k + 1 => if rb k = true ∧ cnt rb k = 0 then nI k else fst rb k
theorem cnt_le (rb : Nat → Bool) : ∀ k, cnt rb k ≤ k := by
  intro k
  induction k with
  | zero => exact Nat.le_refl _
  | succ k ih =>
    show cnt rb k + (if rb k = true then 1 else 0) ≤ k + 1
    split <;> omega
theorem fst_or (rb : Nat → Bool) : ∀ k, fst rb k = -9 ∨ ∃ j, j < k ∧ fst rb k = nI j := by
  intro k
  induction k with
  | zero => exact Or.inl rfl
  | succ k ih =>
    by_cases c : rb k = true ∧ cnt rb k = 0
    · exact Or.inr ⟨k, Nat.lt_succ_self k, if_pos c⟩
    · have e : fst rb (k + 1) = fst rb k := if_neg c
      rw [e]
      rcases ih with z | ⟨j, j1, j2⟩
      · exact Or.inl z
      · exact Or.inr ⟨j, by omega, j2⟩
theorem rr_go {r : Mm} {a : Int32} {rb : Nat → Bool} (h : ∀ k, k < 729 → fX10_rest r ((nI k) / 81) (rm ((nI k) / 9) 9) (rm (nI k) 9) = rb k) : ∀ j m k, k + j = 729 → j < m → fX10_rests_23 r a m (nI (cnt rb k)) (fst rb k) k = fX10_rests_90 r a (nI (cnt rb 729)) (fst rb 729) := by
  intro j
  induction j with
  | zero =>
    intro m k h1 h2
    obtain ⟨m, rfl⟩ : ∃ z, m = z + 1 := ⟨m - 1, by omega⟩
    rw [fX10_rests_23, if_neg (show ¬ nI k < 729 from nI_nlt (a := k) (b := 729) (by omega) (by omega)), show k = 729 by omega]
  | succ j ih =>
    intro m k h1 h2
    obtain ⟨m, rfl⟩ : ∃ z, m = z + 1 := ⟨m - 1, by omega⟩
    have g := ih m (k + 1) (by omega) (by omega)
    have hk := cnt_le rb k
    have ec : cnt rb (k + 1) = cnt rb k + (if rb k = true then 1 else 0) := rfl
    have ef : fst rb (k + 1) = if rb k = true ∧ cnt rb k = 0 then nI k else fst rb k := rfl
    rw [fX10_rests_23, if_pos (show nI k < 729 from nI_lt (a := k) (b := 729) (by omega) (by decide)), h k (by omega)]
    unfold fX10_rests_69 fX10_rests_70
    rw [← g, ec, ef]
    by_cases q : rb k = true
    · rw [if_pos q, if_pos q, if_pos q, if_pos q, nI_1]
      by_cases z : cnt rb k = 0
      · rw [if_pos ((n0 (by omega)).mpr z), if_pos ⟨q, z⟩]
      · rw [if_neg (fun y => z ((n0 (by omega)).mp y)), if_neg (fun y => z y.2)]
    · rw [if_neg q, if_neg q, if_neg q, if_neg (fun y => q y.1), show nI (cnt rb k) + 0 = nI (cnt rb k + 0) from nI_add _ 0]
theorem pass2 {ρ : Mm} {n w S D : Nat} {d : Nat → Nat → Nat} {rb : Nat → Bool} (n8 : n ≤ 8) (hS : S < 2 ^ n) (hD : D < 2 ^ n) (hd : ∀ i, i < n → d i 5 ≤ 9 ∧ d i 6 ≤ 9) (K : OK3 ρ n d w S D) (T : BST ρ n d w S D 729) (h5 : ρ.1 7 5 = 0) (h4 : ρ.1 7 4 = -9) (hrb : ∀ a b c, a < 9 → b < 9 → c < 9 → (rb (81 * a + 9 * b + c) = true ↔ RST n d w S D a b c)) : (∀ q, q ≠ 7 → (fX4_goThrough ρ true).1 q = ρ.1 q) ∧ (fX4_goThrough ρ true).2 = ρ.2 ∧ (fX4_goThrough ρ true).1 7 5 = nI (cnt rb 729) ∧ (fX4_goThrough ρ true).1 7 4 = fst rb 729 := by
  refine go_inv (x := true) (fun k s => (∀ q, q ≠ 7 → s.1 q = ρ.1 q) ∧ s.2 = ρ.2 ∧ s.1 7 5 = nI (cnt rb k) ∧ s.1 7 4 = fst rb k) ?_ ρ ?_
  · intro a b c s ha hb hc hI
    obtain ⟨i1, i2, i3, i4⟩ := hI
    have Ks : OK3 s n d w S D := K.fr (fun q q1 _ _ _ => i1 q q1)
    have Ts : BST s n d w S D 729 := by
      unfold BST
      rw [i1 14 (by decide), i1 15 (by decide), i1 16 (by decide)]
      exact T
    have hk := cnt_le rb (81 * a + 9 * b + c)
    have hh := hrb a b c ha hb hc
    have ek : ((((nI a) * 9) + (nI b)) * 9) + (nI c) = nI (81 * a + 9 * b + c) := by
      rw [show (9 : Int32) = nI 9 from rfl, pk_mul, nI_add, pk_mul, nI_add]
      congr 1
      omega
    have h7 : 81 * a + 9 * b + c < 729 := by omega
    generalize 81 * a + 9 * b + c = k at i3 i4 hk hh ek h7 ⊢
    have ec : cnt rb (k + 1) = cnt rb k + (if rb k = true then 1 else 0) := rfl
    have ef : fst rb (k + 1) = if rb k = true ∧ cnt rb k = 0 then nI k else fst rb k := rfl
    have same : ¬ rb k = true → (∀ q, q ≠ 7 → s.1 q = ρ.1 q) ∧ s.2 = ρ.2 ∧ s.1 7 5 = nI (cnt rb (k + 1)) ∧ s.1 7 4 = fst rb (k + 1) := fun z => by
      rw [ec, ef, if_neg z, if_neg (fun y => z y.1)]
      exact ⟨i1, i2, i3, i4⟩
    unfold gF
    by_cases q : chs n d D a b c
    · rw [if_neg (fun z => (cond_tb n8 hD Ks ha hb hc).mp z q), if_pos rfl]
      have hr := rest2 n8 hS hD hd Ks Ts ha hb hc q
      by_cases q2 : fX4_isRest s (nI a) (nI b) (nI c) = true
      · have hb := hh.mpr (hr.mp q2)
        rw [if_pos q2, ek, ec, ef, if_pos hb]
        unfold fX4_tell
        by_cases z : cnt rb k = 0
        · rw [i3, if_pos ((n0 (by omega)).mpr z), if_pos ⟨hb, z⟩]
          refine ⟨fun y hy => by rw [up_ne hy, up_ne hy]; exact i1 y hy, i2, ?_, ?_⟩
          · rw [up_e, up_n (by decide), i3, nI_1]
          · rw [up_n (by decide), up_e]
        · rw [i3, if_neg (fun y => z ((n0 (by omega)).mp y)), if_neg (fun y => z y.2)]
          refine ⟨fun y hy => by rw [up_ne hy, up_ne hy]; exact i1 y hy, i2, ?_, ?_⟩
          · rw [up_e, up_n (by decide), i3, nI_1]
          · rw [up_n (by decide), up_e]
            exact i4
      · rw [if_neg q2]
        exact same (fun z => q2 (hr.mpr (hh.mp z)))
    · rw [if_pos ((cond_tb n8 hD Ks ha hb hc).mpr q)]
      exact same (fun z => q (hh.mp z).1)
  · exact ⟨fun _ _ => rfl, rfl, h5, h4⟩
theorem code_I {k : Nat} (hk : k < 729) : (nI k) / 81 = nI (k / 81) ∧ rm ((nI k) / 9) 9 = nI (k / 9 % 9) ∧ rm (nI k) 9 = nI (k % 9) := by
  rw [show (81 : Int32) = nI 81 from rfl, show (9 : Int32) = nI 9 from rfl, pk_div (by omega) (by decide) (by decide), pk_div (by omega) (by decide) (by decide), rm_nI (by omega) (by decide) (by decide), rm_nI (by omega) (by decide) (by decide)]
  exact ⟨rfl, rfl, rfl⟩
/-- the owners weighed -/
theorem we_all {σ : Mm} (h : Rv σ) : ∀ τ, fX4_weigh σ 49 = τ → ∃ rb : Nat → Bool, τ.1 7 5 = nI (cnt rb 729) ∧ τ.1 7 4 = fst rb 729 ∧ τ.1 34 = σ.1 34 ∧ Rv τ ∧ ∀ k, k < 729 → fX10_rest τ ((nI k) / 81) (rm ((nI k) / 9) 9) (rm (nI k) 9) = rb k := by
  intro τ hτ
  obtain ⟨n, w, B, Hd, C, Gd, d, P⟩ := h.2.1.hp
  obtain ⟨a1, a2, a3, a4, a5, a6, b1, b2, b3, b4, b5, b6, b7, b8, b9, c1, c2, c3, c4⟩ := id P
  have hS := SH_lt n B Hd
  have hD : SHb n B Hd &&& BKb n B C Gd < 2 ^ n := Nat.lt_of_le_of_lt Nat.and_le_left hS
  have hd : ∀ i, i < n → d i 5 ≤ 9 ∧ d i 6 ≤ 9 := fun i hi => ⟨(c4 i hi).1 5 (by decide), (c4 i hi).1 6 (by decide)⟩
  obtain ⟨g1, g2, g3⟩ := gl_all (g := 17) (by decide) P.ch b3 (by omega) (fX1_learn σ 17 49) rfl
  unfold fX4_weigh at hτ
  generalize fX1_learn σ 17 49 = s0 at hτ g1 g2 g3
  have st : ∀ m k s, k < 3 → fX4_weigh_10 49 (m + 1) s k = fX4_weigh_10 49 m (fX4_learn s 49 (nI k)) (k + 1) := fun m k s hk => by rw [fX4_weigh_10, if_pos (show nI k < 3 from nI_lt (a := k) (b := 3) hk (by decide))]
  rw [st 3 0 s0 (by decide), st 2 1 _ (by decide), st 1 2 _ (by decide), fX4_weigh_10, if_neg (show ¬ nI 3 < 3 by decide)] at hτ
  obtain ⟨⟨l1, l2, l3⟩, k1, j1, i1⟩ := ln_all (o := 0) P (g2 49 (by decide) (by decide) (by decide)) (g2 50 (by decide) (by decide) (by decide)) g1 (by decide) _ rfl
  generalize fX4_learn s0 49 (nI 0) = s1 at hτ l1 l2 l3 k1 j1 i1
  have G1 : GL s1 17 n d w 8 := fun t ht => by
    rw [k1 18 (by decide) (by decide) (by decide), k1 19 (by decide) (by decide) (by decide), k1 20 (by decide) (by decide) (by decide)]
    exact g1 t ht
  obtain ⟨⟨m1, m2, m3⟩, k2, j2, i2⟩ := ln_all (o := 1) P ((k1 49 (by decide) (by decide) (by decide)).trans (g2 49 (by decide) (by decide) (by decide))) ((k1 50 (by decide) (by decide) (by decide)).trans (g2 50 (by decide) (by decide) (by decide))) G1 (by decide) _ rfl
  generalize fX4_learn s1 49 (nI 1) = s2 at hτ m1 m2 m3 k2 j2 i2
  have G2 : GL s2 17 n d w 8 := fun t ht => by
    rw [k2 18 (by decide) (by decide) (by decide), k2 19 (by decide) (by decide) (by decide), k2 20 (by decide) (by decide) (by decide)]
    exact G1 t ht
  obtain ⟨⟨o1, o2, o3⟩, k3, j3, i3⟩ := ln_all (o := 2) P ((k2 49 (by decide) (by decide) (by decide)).trans ((k1 49 (by decide) (by decide) (by decide)).trans (g2 49 (by decide) (by decide) (by decide)))) ((k2 50 (by decide) (by decide) (by decide)).trans ((k1 50 (by decide) (by decide) (by decide)).trans (g2 50 (by decide) (by decide) (by decide)))) G2 (by decide) _ rfl
  generalize fX4_learn s2 49 (nI 2) = s3 at hτ o1 o2 o3 k3 j3 i3
  have G3 : GL s3 17 n d w 8 := fun t ht => by
    rw [k3 18 (by decide) (by decide) (by decide), k3 19 (by decide) (by decide) (by decide), k3 20 (by decide) (by decide) (by decide)]
    exact G2 t ht
  unfold fX4_weigh_27 fX4_weigh_38 at hτ
  generalize hρ : up (up s3 7 5 0) 7 4 (-9) = ρ at hτ
  have ρk : ∀ q, q ≠ 7 → ρ.1 q = s3.1 q := fun q hq => by rw [← hρ, up_ne hq, up_ne hq]
  have K3 : OK3 s3 n d w (SHb n B Hd) (SHb n B Hd &&& BKb n B C Gd) := by
    refine ⟨G3, fun o ho => ?_⟩
    rcases (show o = 0 ∨ o = 1 ∨ o = 2 by omega) with rfl | rfl | rfl
    · rw [j3 0 (by decide), j2 0 (by decide), k3 (10 + 0) (by decide) (by decide) (by decide), k2 (10 + 0) (by decide) (by decide) (by decide)]
      exact ⟨l1, l2⟩
    · rw [j3 1 (by decide), k3 (10 + 1) (by decide) (by decide) (by decide)]
      exact ⟨m1, m2⟩
    · exact ⟨o1, o2⟩
  have B3 : ∀ o, o < 3 → ∀ x, x < 81 → s3.1 (14 + o) x = -1000 := fun o ho => by
    rcases (show o = 0 ∨ o = 1 ∨ o = 2 by omega) with rfl | rfl | rfl
    · rw [k3 (14 + 0) (by decide) (by decide) (by decide), k2 (14 + 0) (by decide) (by decide) (by decide)]
      exact l3
    · rw [k3 (14 + 1) (by decide) (by decide) (by decide)]
      exact m3
    · exact o3
  have Kρ := K3.fr (t := ρ) (fun q q1 _ _ _ => ρk q q1)
  obtain ⟨p1, p2, p3⟩ := pass1 a1 hS hD Kρ (fun o ho x hx => by rw [ρk (14 + o) (by omega)]; exact B3 o ho x hx)
  generalize fX4_goThrough ρ false = ρ1 at hτ p1 p2 p3
  have e34 : ρ1.1 34 = σ.1 34 := by rw [p1 34 (by decide) (by decide) (by decide), ρk 34 (by decide), k3 34 (by decide) (by decide) (by decide), k2 34 (by decide) (by decide) (by decide), k1 34 (by decide) (by decide) (by decide), g2 34 (by decide) (by decide) (by decide)]
  have Pρ : HP (σ.1 49) (σ.1 50) (ρ1.1 34) n w B Hd C Gd d := by
    rw [e34]
    exact P
  have hrb : ∀ a b c, a < 9 → b < 9 → c < 9 → ((fun k => fX10_rest ρ1 (nI (k / 81)) (nI (k / 9 % 9)) (nI (k % 9))) (81 * a + 9 * b + c) = true ↔ RST n d w (SHb n B Hd) (SHb n B Hd &&& BKb n B C Gd) a b c) := fun a b c ha hb hc => by
    show fX10_rest ρ1 (nI ((81 * a + 9 * b + c) / 81)) (nI ((81 * a + 9 * b + c) / 9 % 9)) (nI ((81 * a + 9 * b + c) % 9)) = true ↔ _
    rw [show (81 * a + 9 * b + c) / 81 = a by omega, show (81 * a + 9 * b + c) / 9 % 9 = b by omega, show (81 * a + 9 * b + c) % 9 = c by omega]
    exact rest10 Pρ ha hb hc
  obtain ⟨z1, z2, z3, z4⟩ := pass2 (rb := fun k => fX10_rest ρ1 (nI (k / 81)) (nI (k / 9 % 9)) (nI (k % 9))) a1 hS hD hd (Kρ.fr (fun q _ q1 q2 q3 => p1 q q1 q2 q3)) p3 (by rw [p1 7 (by decide) (by decide) (by decide), ← hρ, up_n (by decide), up_e]) (by rw [p1 7 (by decide) (by decide) (by decide), ← hρ, up_e]) hrb
  rw [hτ] at z1 z2 z3 z4
  have τ34 : τ.1 34 = σ.1 34 := (z1 34 (by decide)).trans e34
  refine ⟨_, z3, z4, τ34, ?_, fun k hk => ?_⟩
  · refine h.scr (fun q q1 q2 q3 => ?_) ?_ (fun j _ => ?_) (fun j _ => by rw [τ34]) ?_
    · rw [z1 q (by omega), p1 q (by omega) (by omega) (by omega), ρk q (by omega), k3 q (by omega) (by omega) (by omega), k2 q (by omega) (by omega) (by omega), k1 q (by omega) (by omega) (by omega), g2 q (by omega) (by omega) (by omega)]
    · rw [z1 26 (by decide), p1 26 (by decide) (by decide) (by decide), ρk 26 (by decide), k3 26 (by decide) (by decide) (by decide), k2 26 (by decide) (by decide) (by decide), k1 26 (by decide) (by decide) (by decide), g2 26 (by decide) (by decide) (by decide)]
    · rw [z1 33 (by decide), p1 33 (by decide) (by decide) (by decide), ρk 33 (by decide), k3 33 (by decide) (by decide) (by decide), k2 33 (by decide) (by decide) (by decide), k1 33 (by decide) (by decide) (by decide), g2 33 (by decide) (by decide) (by decide)]
    · have e : τ.2 = σ.2 := by
        rw [z2, p2, ← hρ]
        show s3.2 = σ.2
        rw [i3, i2, i1, g3]
      rw [e]
      exact h.2.2.2.2.2
  · obtain ⟨x1, x2, x3⟩ := code_I hk
    rw [x1, x2, x3]
    show _ = fX10_rest ρ1 (nI (k / 81)) (nI (k / 9 % 9)) (nI (k % 9))
    apply Bool.eq_iff_iff.mpr
    have Pτ : HP (σ.1 49) (σ.1 50) (τ.1 34) n w B Hd C Gd d := by
      rw [τ34]
      exact P
    exact (rest10 Pτ (by omega) (by omega) (by omega)).trans (rest10 Pρ (by omega) (by omega) (by omega)).symm
theorem s_rests : sc_rests Rv := by
  intro σ a h
  have same : ∀ z : Int32, fX9_rests σ a = (z, σ) → fX10_rests σ a = z → vp_in ((fX9_rests σ a).2.1 34 13) 9 ∧ (fX9_rests σ a).1 = fX10_rests (fX9_rests σ a).2 a ∧ Rv (fX9_rests σ a).2 := by
    intro z e9 e10
    rw [e9]
    exact ⟨h.hM, e10.symm, h⟩
  by_cases c0 : 0 ≤ a
  · by_cases c4 : 4 < a
    · exact same (-2) (by unfold fX9_rests; rw [if_pos c0, if_pos c4]) (by unfold fX10_rests; rw [if_neg (in_neg2 (y := 4) rfl (Int32.not_le.mpr c4))])
    · have i1 : fX10_in a.toInt64 0 4 = true := in_pos (x := 0) (y := 4) rfl rfl c0 (Int32.not_lt.mp c4)
      obtain ⟨q, hq, rfl⟩ := nI_ex c0 (show a < nI 5 from Int32.lt_of_le_of_lt (Int32.not_lt.mp c4) (by decide)) (by decide)
      generalize hτ : fX4_weigh σ 49 = τ
      obtain ⟨rb, t5, t4, t34, hR, hrb⟩ := we_all h τ hτ
      have hk := cnt_le rb 729
      have e10 : fX10_rests τ (nI q) = fX10_rests_90 τ (nI q) (nI (cnt rb 729)) (fst rb 729) := by
        unfold fX10_rests
        rw [if_pos i1]
        exact rr_go hrb 729 730 0 (by decide) (by decide)
      have e9 : fX9_rests σ (nI q) = (fX10_rests_90 τ (nI q) (nI (cnt rb 729)) (fst rb 729), τ) := by
        unfold fX9_rests fX10_rests_90 fX10_rests_99 fX10_rests_158 fX4_firstChoice fX4_firstChoice_49
        rw [if_pos c0, if_neg c4, hτ, t5, t4]
        rcases (show q = 0 ∨ q = 4 ∨ q = 1 ∨ q = 2 ∨ q = 3 by omega) with rfl | rfl | rfl | rfl | rfl
        · rw [if_pos (show nI 0 = 0 from rfl), if_pos (show nI 0 = 0 from rfl), if_pos (show nI 0 = 0 from rfl)]
        · rw [if_neg (show ¬ nI 4 = 0 by decide), if_pos (show nI 4 = 4 from rfl), if_neg (show ¬ nI 4 = 0 by decide), if_pos (show nI 4 = 4 from rfl), if_neg (show ¬ nI 4 = 0 by decide)]
          by_cases z : 0 < nI (cnt rb 729)
          · rw [if_pos z, if_pos z]
          · rw [if_neg z, if_neg z]
        · rw [if_neg (show ¬ nI 1 = 0 by decide), if_neg (show ¬ nI 1 = 4 by decide), if_neg (show ¬ nI 1 = 0 by decide), if_neg (show ¬ nI 1 = 4 by decide), if_pos (show nI 1 = 1 from rfl), if_pos (show nI 1 - 1 = 0 from rfl)]
          rcases fst_or rb 729 with z | ⟨j, j1, j2⟩
          · rw [z, if_pos (by decide), if_pos rfl, if_pos rfl]
          · rw [j2, if_neg (nI_pos (by omega)), if_neg (ne9 (by omega))]
        · rw [if_neg (show ¬ nI 2 = 0 by decide), if_neg (show ¬ nI 2 = 4 by decide), if_neg (show ¬ nI 2 = 0 by decide), if_neg (show ¬ nI 2 = 4 by decide), if_neg (show ¬ nI 2 = 1 by decide), if_pos (show nI 2 = 2 from rfl), if_neg (show ¬ nI 2 - 1 = 0 by decide), if_pos (show nI 2 - 1 = 1 from rfl)]
          rcases fst_or rb 729 with z | ⟨j, j1, j2⟩
          · rw [z, if_pos (by decide), if_pos rfl, if_pos rfl]
          · rw [j2, if_neg (nI_pos (by omega)), if_neg (ne9 (by omega))]
        · rw [if_neg (show ¬ nI 3 = 0 by decide), if_neg (show ¬ nI 3 = 4 by decide), if_neg (show ¬ nI 3 = 0 by decide), if_neg (show ¬ nI 3 = 4 by decide), if_neg (show ¬ nI 3 = 1 by decide), if_neg (show ¬ nI 3 = 2 by decide), if_neg (show ¬ nI 3 - 1 = 0 by decide), if_neg (show ¬ nI 3 - 1 = 1 by decide)]
          rcases fst_or rb 729 with z | ⟨j, j1, j2⟩
          · rw [z, if_pos (by decide), if_pos rfl, if_pos rfl]
          · rw [j2, if_neg (nI_pos (by omega)), if_neg (ne9 (by omega))]
      rw [e9]
      refine ⟨by show vp_in (τ.1 34 13) 9; rw [t34]; exact h.hM, ?_, hR⟩
      show _ = fX10_rests τ (nI q)
      rw [e10]
  · exact same (-2) (by unfold fX9_rests; rw [if_neg c0]) (by unfold fX10_rests; rw [if_neg (in_neg1 (x := 0) rfl c0)])
