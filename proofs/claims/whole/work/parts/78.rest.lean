/-! a choice that rests -/
def cst (d : Nat → Nat → Nat) (x : Nat) : Nat := if x = 0 then 0 else d (x - 1) 6
def br (a b c : Nat) : Nat := (2 ^ a ||| 2 ^ b ||| 2 ^ c) / 2
def vI (n : Nat) (d : Nat → Nat → Nat) (w S o x a b c : Nat) : Int32 := nI (prq n d w o (dif S (br a b c)) n) - nI (cst d x)
theorem br_I : ∀ a, a < 9 → ∀ b, b < 9 → ∀ c, c < 9 → ((((1 : Int32) <<< ((nI a) &&& 31)) ||| ((1 : Int32) <<< ((nI b) &&& 31))) ||| ((1 : Int32) <<< ((nI c) &&& 31))) >>> (1 &&& 31) = nI (br a b c) ∧ br a b c < 256 ∧ pc (br a b c) ≤ 3 := by decide +kernel
theorem sh_i9 : ∀ k, k < 9 → ((nI k &&& 31).toBitVec.smod 32).toNat = k := by decide +kernel
theorem Mo_s (n : Nat) (d : Nat → Nat → Nat) (D o t : Nat) : (Mo n d D o).testBit (t + 1) = (dif D (owb n d o)).testBit t := by
  unfold Mo
  rw [Nat.testBit_succ, show (2 * dif D (owb n d o) + 1) / 2 = dif D (owb n d o) by omega]
theorem Mo_0 (n : Nat) (d : Nat → Nat → Nat) (D o : Nat) : (Mo n d D o).testBit 0 = true := by
  unfold Mo
  rw [Nat.testBit_zero, show (2 * dif D (owb n d o) + 1) % 2 = 1 by omega]
  rfl
theorem Mo_in {n D o x : Nat} {d : Nat → Nat → Nat} (n8 : n ≤ 8) (hD : D < 2 ^ n) (h : (Mo n d D o).testBit x = true) : x = 0 ∨ (D.testBit (x - 1) = true ∧ x - 1 < n) := by
  rcases Nat.eq_zero_or_pos x with e | e
  · exact Or.inl e
  · obtain ⟨t, rfl⟩ : ∃ t, x = t + 1 := ⟨x - 1, by omega⟩
    rw [Mo_s, dif_tb (Nat.lt_trans (p31 n8 hD) (by decide))] at h
    have h1 := (Bool.and_eq_true_iff.mp h).1
    refine Or.inr ⟨h1, ?_⟩
    by_cases z : t < n
    · exact z
    · rw [tb_big hD (by omega)] at h1
      exact absurd h1 (by decide)
theorem Mo_lt {n D o : Nat} {d : Nat → Nat → Nat} (n8 : n ≤ 8) (hD : D < 2 ^ n) : Mo n d D o < 2 ^ 31 := by
  have := p8 n8 (dif_lt hD (owb n d o))
  unfold Mo
  omega
def chs (n : Nat) (d : Nat → Nat → Nat) (D a b c : Nat) : Prop := (Mo n d D 0).testBit a = true ∧ (Mo n d D 1).testBit b = true ∧ (Mo n d D 2).testBit c = true
theorem br_sub {n D a b c : Nat} {d : Nat → Nat → Nat} (n8 : n ≤ 8) (hD : D < 2 ^ n) (ha : a < 9) (hb : b < 9) (hc : c < 9) (h : chs n d D a b c) : dif (br a b c) D = 0 := by
  obtain ⟨h0, h1, h2⟩ := h
  have hb256 := (br_I a ha b hb c hc).2.1
  apply Nat.eq_of_testBit_eq
  intro t
  rw [dif_tb (by omega), Nat.zero_testBit]
  cases e : (br a b c).testBit t
  · rfl
  · unfold br at e
    rw [Nat.testBit_div_two, Nat.testBit_or, Nat.testBit_or, Nat.testBit_two_pow, Nat.testBit_two_pow, Nat.testBit_two_pow] at e
    have hDt : D.testBit t = true := by
      by_cases x1 : a = t + 1
      · subst x1
        rcases Mo_in n8 hD h0 with z | z
        · omega
        · exact z.1
      · by_cases x2 : b = t + 1
        · subst x2
          rcases Mo_in n8 hD h1 with z | z
          · omega
          · exact z.1
        · by_cases x3 : c = t + 1
          · subst x3
            rcases Mo_in n8 hD h2 with z | z
            · omega
            · exact z.1
          · rw [decide_eq_false x1, decide_eq_false x2, decide_eq_false x3] at e
            exact absurd e (by decide)
    rw [hDt]
    rfl
/-- what is known of the owners -/
def OK3 (s : Mm) (n : Nat) (d : Nat → Nat → Nat) (w S D : Nat) : Prop := GL s 17 n d w 8 ∧ ∀ o, o < 3 → s.1 8 o = nI (Mo n d D o) ∧ ∀ b, b < 256 → dif b D = 0 → pc b ≤ 3 → s.1 (10 + o) b = nI (prq n d w o (dif S b) 8)
theorem at256 {s : Mm} {q k : Nat} (hk : k < 256) : fX9_at s q 256 (nI k) = s.1 q k := by
  unfold fX9_at
  rw [if_pos (nI_pos' (by omega)), if_pos (nI_lt hk (by decide)), nI_clamp (by omega)]
theorem at81 {s : Mm} {q k : Nat} (hk : k < 81) : fX9_at s q 81 (nI k) = s.1 q k := by
  unfold fX9_at
  rw [if_pos (nI_pos' (by omega)), if_pos (nI_lt hk (by decide)), nI_clamp (by omega)]
theorem hasV {s : Mm} {n w S D o x a b c : Nat} {d : Nat → Nat → Nat} (n8 : n ≤ 8) (hS : S < 2 ^ n) (K : OK3 s n d w S D) (ho : o < 3) (ha : a < 9) (hb : b < 9) (hc : c < 9) (hx : x < 9) (h : dif (br a b c) D = 0) (h2 : x = 0 ∨ x - 1 < n) : fX4_has s (nI o) (nI x) (nI (br a b c)) = vI n d w S o x a b c := by
  obtain ⟨q1, q2, q3⟩ := br_I a ha b hb c hc
  have e8 : prq n d w o (dif S (br a b c)) 8 = prq n d w o (dif S (br a b c)) n := by
    obtain ⟨j, hj⟩ : ∃ j, 8 = n + j := ⟨8 - n, by omega⟩
    have := prq_n (w := w) (o := o) (d := d) (dif_lt hS (br a b c)) j
    rw [← hj] at this
    exact this
  unfold fX4_has vI
  rw [nI_clamp (by omega), at256 q2, (K.2 o ho).2 _ q2 h q3, e8]
  by_cases z : x = 0
  · subst z
    rw [if_pos (show nI 0 = 0 from rfl)]
    rfl
  · have hx1 : x - 1 < n := by
      rcases h2 with y | y
      · exact absurd y z
      · exact y
    have ec : co n d (x - 1) = d (x - 1) 6 := if_pos hx1
    have es : cst d x = d (x - 1) 6 := if_neg z
    unfold fX1_cost
    rw [if_neg (nI_ne0 (by omega) (by omega)), show (1 : Int32) = nI 1 from rfl, pk_sub (by omega), at_tag (by omega), show s.1 (17 + 3) (x - 1) = nI (co n d (x - 1)) from (K.1 (x - 1) (by omega)).2.2, ec, es]
theorem cond_tb {s : Mm} {n w S D a b c : Nat} {d : Nat → Nat → Nat} (n8 : n ≤ 8) (hD : D < 2 ^ n) (K : OK3 s n d w S D) (ha : a < 9) (hb : b < 9) (hc : c < 9) : (((((s.1 8 0) >>> ((nI a) &&& 31)) &&& ((s.1 8 1) >>> ((nI b) &&& 31))) &&& ((s.1 8 2) >>> ((nI c) &&& 31))) &&& 1) = 0 ↔ ¬ chs n d D a b c := by
  have l0 := Mo_lt (d := d) (o := 0) n8 hD
  have l1 := Mo_lt (d := d) (o := 1) n8 hD
  have l2 := Mo_lt (d := d) (o := 2) n8 hD
  rw [(K.2 0 (by decide)).1, (K.2 1 (by decide)).1, (K.2 2 (by decide)).1, pk_shrN (by omega) _ a (sh_i9 a ha), pk_shrN (by omega) _ b (sh_i9 b hb), pk_shrN (by omega) _ c (sh_i9 c hc), nI_and, nI_and]
  generalize hz : Mo n d D 0 / 2 ^ a &&& Mo n d D 1 / 2 ^ b &&& Mo n d D 2 / 2 ^ c = z
  have hz31 : z < 2 ^ 31 := by
    rw [← hz]
    exact Nat.lt_of_le_of_lt Nat.and_le_right (Nat.lt_of_le_of_lt (Nat.div_le_self _ _) l2)
  have tb : z.testBit 0 = ((Mo n d D 0).testBit a && (Mo n d D 1).testBit b && (Mo n d D 2).testBit c) := by
    rw [← hz, Nat.testBit_and, Nat.testBit_and, Nat.testBit_div_two_pow, Nat.testBit_div_two_pow, Nat.testBit_div_two_pow, Nat.zero_add, Nat.zero_add, Nat.zero_add]
  rw [pk_andN (by omega) 1 (by decide +kernel), show (2 ^ 1 : Nat) = 2 from rfl, n0 (by omega)]
  rw [Nat.testBit_zero] at tb
  unfold chs
  constructor
  · rintro h ⟨h0, h1, h2⟩
    rw [h0, h1, h2, h] at tb
    exact absurd tb (by decide)
  · intro h
    have hm := Nat.mod_lt z (show 0 < 2 by decide)
    by_cases e : z % 2 = 1
    · rw [decide_eq_true e] at tb
      obtain ⟨t1, t2⟩ := Bool.and_eq_true_iff.mp tb.symm
      obtain ⟨t3, t4⟩ := Bool.and_eq_true_iff.mp t1
      exact absurd ⟨t3, t4, t2⟩ h
    · omega
/-! the best of each owner -/
def mx (p v : Int32) : Int32 := if p < v then v else p
theorem mx_l (p v : Int32) : p ≤ mx p v := by
  unfold mx
  split
  · exact Int32.le_of_lt (by assumption)
  · exact Int32.le_refl _
theorem mx_r (p v : Int32) : v ≤ mx p v := by
  unfold mx
  split
  · exact Int32.le_refl _
  · exact Int32.not_lt.mp (by assumption)
theorem mx_or (p v : Int32) : mx p v = p ∨ mx p v = v := by
  unfold mx
  split
  · exact Or.inr rfl
  · exact Or.inl rfl
def ABI (ch : Nat → Nat → Nat → Prop) (V : Nat → Nat → Nat → Int32) (ix : Nat → Nat → Nat → Nat) (k : Nat) (B : Nat → Int32) : Prop := (∀ a b c, a < 9 → b < 9 → c < 9 → 81 * a + 9 * b + c < k → ch a b c → V a b c ≤ B (ix a b c)) ∧ ∀ x, x < 81 → B x = -1000 ∨ ∃ a b c, a < 9 ∧ b < 9 ∧ c < 9 ∧ ch a b c ∧ ix a b c = x ∧ B x = V a b c
theorem code_eq {a b c a' b' c' : Nat} (hb : b < 9) (hc : c < 9) (hb' : b' < 9) (hc' : c' < 9) (h : 81 * a + 9 * b + c = 81 * a' + 9 * b' + c') : a = a' ∧ b = b' ∧ c = c' := by omega
theorem ABI.skip {ch : Nat → Nat → Nat → Prop} {V : Nat → Nat → Nat → Int32} {ix : Nat → Nat → Nat → Nat} {B : Nat → Int32} {a b c : Nat} (hb : b < 9) (hc : c < 9) (h : ABI ch V ix (81 * a + 9 * b + c) B) (hn : ¬ ch a b c) : ABI ch V ix (81 * a + 9 * b + c + 1) B := by
  refine ⟨fun a' b' c' ha' hb' hc' hk hch => ?_, h.2⟩
  by_cases e : 81 * a' + 9 * b' + c' = 81 * a + 9 * b + c
  · obtain ⟨rfl, rfl, rfl⟩ := code_eq hb' hc' hb hc e
    exact absurd hch hn
  · exact h.1 a' b' c' ha' hb' hc' (by omega) hch
theorem ABI.step {ch : Nat → Nat → Nat → Prop} {V : Nat → Nat → Nat → Int32} {ix : Nat → Nat → Nat → Nat} {B B' : Nat → Int32} {a b c : Nat} (ha : a < 9) (hb : b < 9) (hc : c < 9) (h : ABI ch V ix (81 * a + 9 * b + c) B) (hch : ch a b c) (e1 : B' (ix a b c) = mx (B (ix a b c)) (V a b c)) (e2 : ∀ x, x ≠ ix a b c → B' x = B x) : ABI ch V ix (81 * a + 9 * b + c + 1) B' := by
  have le : ∀ x, B x ≤ B' x := fun x => by
    by_cases e : x = ix a b c
    · subst e
      rw [e1]
      exact mx_l _ _
    · rw [e2 x e]
      exact Int32.le_refl _
  refine ⟨fun a' b' c' ha' hb' hc' hk hch' => ?_, fun x hx => ?_⟩
  · by_cases e : 81 * a' + 9 * b' + c' = 81 * a + 9 * b + c
    · obtain ⟨rfl, rfl, rfl⟩ := code_eq hb' hc' hb hc e
      rw [e1]
      exact mx_r _ _
    · exact Int32.le_trans (h.1 a' b' c' ha' hb' hc' (by omega) hch') (le _)
  · by_cases e : x = ix a b c
    · rcases mx_or (B (ix a b c)) (V a b c) with z | z
      · rcases h.2 x hx with y | ⟨a', b', c', y1, y2, y3, y4, y5, y6⟩
        · left
          rw [e, e1, z, ← e]
          exact y
        · right
          exact ⟨a', b', c', y1, y2, y3, y4, y5, by rw [e, e1, z, ← e]; exact y6⟩
      · right
        exact ⟨a, b, c, ha, hb, hc, hch, e.symm, by rw [e, e1, z]⟩
    · rcases h.2 x hx with y | ⟨a', b', c', y1, y2, y3, y4, y5, y6⟩
      · exact Or.inl (by rw [e2 x e]; exact y)
      · exact Or.inr ⟨a', b', c', y1, y2, y3, y4, y5, by rw [e2 x e]; exact y6⟩
def x0 (_ b c : Nat) : Nat := b * 9 + c
def x1 (a _ c : Nat) : Nat := a * 9 + c
def x2 (a b _ : Nat) : Nat := a * 9 + b
theorem ix_I (a b : Nat) : (nI a * 9) + nI b = nI (a * 9 + b) := by rw [show (9 : Int32) = nI 9 from rfl, pk_mul, nI_add]
theorem raise_eq {s : Mm} {o x : Nat} {v : Int32} (ho : o < 3) (hx : x < 81) : fX4_raise s (nI o) (nI x) v = up s (14 + o) x (mx (s.1 (14 + o) x) v) := by
  unfold fX4_raise fX9_put
  rw [nI_clamp (by omega), at81 hx, if_pos (nI_pos' (by omega)), if_pos (nI_lt hx (by decide)), nI_clamp (by omega)]
  rfl
theorem OK3.fr {s t : Mm} {n w S D : Nat} {d : Nat → Nat → Nat} (K : OK3 s n d w S D) (e : ∀ q, q ≠ 7 → q ≠ 14 → q ≠ 15 → q ≠ 16 → t.1 q = s.1 q) : OK3 t n d w S D := by
  refine ⟨fun i hi => ?_, fun o ho => ?_⟩
  · rw [e 18 (by decide) (by decide) (by decide) (by decide), e 19 (by decide) (by decide) (by decide) (by decide), e 20 (by decide) (by decide) (by decide) (by decide)]
    exact K.1 i hi
  · rw [e 8 (by decide) (by decide) (by decide) (by decide), e (10 + o) (by omega) (by omega) (by omega) (by omega)]
    exact K.2 o ho
theorem rb_eq {s : Mm} {n w S D a b c : Nat} {d : Nat → Nat → Nat} (n8 : n ≤ 8) (hS : S < 2 ^ n) (hD : D < 2 ^ n) (K : OK3 s n d w S D) (ha : a < 9) (hb : b < 9) (hc : c < 9) (h : chs n d D a b c) : fX4_raiseBest s (nI a) (nI b) (nI c) = up (up (up s 14 (x0 a b c) (mx (s.1 14 (x0 a b c)) (vI n d w S 0 a a b c))) 15 (x1 a b c) (mx (s.1 15 (x1 a b c)) (vI n d w S 1 b a b c))) 16 (x2 a b c) (mx (s.1 16 (x2 a b c)) (vI n d w S 2 c a b c)) := by
  have hs := br_sub n8 hD ha hb hc h
  have ok0 : a = 0 ∨ a - 1 < n := (Mo_in n8 hD h.1).imp id (fun z => z.2)
  have ok1 : b = 0 ∨ b - 1 < n := (Mo_in n8 hD h.2.1).imp id (fun z => z.2)
  have ok2 : c = 0 ∨ c - 1 < n := (Mo_in n8 hD h.2.2).imp id (fun z => z.2)
  have hx0 : b * 9 + c < 81 := by omega
  have hx1 : a * 9 + c < 81 := by omega
  have hx2 : a * 9 + b < 81 := by omega
  unfold fX4_raiseBest fX4_raiseBest_53
  rw [(br_I a ha b hb c hc).1, ix_I, ix_I, ix_I]
  have v0 : fX4_has s 0 (nI a) (nI (br a b c)) = vI n d w S 0 a a b c := hasV (o := 0) n8 hS K (by decide) ha hb hc ha hs ok0
  have r0 : ∀ v, fX4_raise s 0 (nI (b * 9 + c)) v = up s 14 (b * 9 + c) (mx (s.1 14 (b * 9 + c)) v) := fun v => raise_eq (o := 0) (by decide) hx0
  rw [v0, r0]
  generalize hs1 : up s 14 (b * 9 + c) (mx (s.1 14 (b * 9 + c)) (vI n d w S 0 a a b c)) = s1
  have K1 : OK3 s1 n d w S D := K.fr (fun q _ q1 _ _ => by rw [← hs1, up_ne q1])
  have v1 : fX4_has s1 1 (nI b) (nI (br a b c)) = vI n d w S 1 b a b c := hasV (o := 1) n8 hS K1 (by decide) ha hb hc hb hs ok1
  have r1 : ∀ v, fX4_raise s1 1 (nI (a * 9 + c)) v = up s1 15 (a * 9 + c) (mx (s1.1 15 (a * 9 + c)) v) := fun v => raise_eq (o := 1) (by decide) hx1
  rw [v1, r1]
  have s15 : s1.1 15 = s.1 15 := by rw [← hs1, up_ne (by decide)]
  have s16 : s1.1 16 = s.1 16 := by rw [← hs1, up_ne (by decide)]
  rw [s15]
  generalize hs2 : up s1 15 (a * 9 + c) (mx (s.1 15 (a * 9 + c)) (vI n d w S 1 b a b c)) = s2
  have K2 : OK3 s2 n d w S D := K1.fr (fun q _ _ q1 _ => by rw [← hs2, up_ne q1])
  have v2 : fX4_has s2 2 (nI c) (nI (br a b c)) = vI n d w S 2 c a b c := hasV (o := 2) n8 hS K2 (by decide) ha hb hc hc hs ok2
  have r2 : ∀ v, fX4_raise s2 2 (nI (a * 9 + b)) v = up s2 16 (a * 9 + b) (mx (s2.1 16 (a * 9 + b)) v) := fun v => raise_eq (o := 2) (by decide) hx2
  have t16 : s2.1 16 = s.1 16 := by rw [← hs2, up_ne (by decide), s16]
  rw [v2, r2, t16, ← hs2, ← hs1]
  rfl
/-- after the first going through -/
def BST (s : Mm) (n : Nat) (d : Nat → Nat → Nat) (w S D k : Nat) : Prop := ABI (chs n d D) (fun a b c => vI n d w S 0 a a b c) x0 k (s.1 14) ∧ ABI (chs n d D) (fun a b c => vI n d w S 1 b a b c) x1 k (s.1 15) ∧ ABI (chs n d D) (fun a b c => vI n d w S 2 c a b c) x2 k (s.1 16)
theorem pass1 {ρ : Mm} {n w S D : Nat} {d : Nat → Nat → Nat} (n8 : n ≤ 8) (hS : S < 2 ^ n) (hD : D < 2 ^ n) (K : OK3 ρ n d w S D) (h0 : ∀ o, o < 3 → ∀ x, x < 81 → ρ.1 (14 + o) x = -1000) : (∀ q, q ≠ 14 → q ≠ 15 → q ≠ 16 → (fX4_goThrough ρ false).1 q = ρ.1 q) ∧ (fX4_goThrough ρ false).2 = ρ.2 ∧ BST (fX4_goThrough ρ false) n d w S D 729 := by
  refine go_inv (x := false) (fun k s => (∀ q, q ≠ 14 → q ≠ 15 → q ≠ 16 → s.1 q = ρ.1 q) ∧ s.2 = ρ.2 ∧ BST s n d w S D k) ?_ ρ ?_
  · intro a b c s ha hb hc hI
    obtain ⟨i1, i2, i3, i4, i5⟩ := hI
    have Ks : OK3 s n d w S D := K.fr (fun q _ q1 q2 q3 => i1 q q1 q2 q3)
    unfold gF
    by_cases q : chs n d D a b c
    · rw [if_neg (fun z => (cond_tb n8 hD Ks ha hb hc).mp z q), if_neg (by decide), rb_eq n8 hS hD Ks ha hb hc q]
      refine ⟨fun y y1 y2 y3 => by rw [up_ne y3, up_ne y2, up_ne y1]; exact i1 y y1 y2 y3, i2, ?_, ?_, ?_⟩
      · refine i3.step ha hb hc q ?_ (fun x hx => ?_)
        · rw [up_ne (by decide), up_ne (by decide), up_e]
        · rw [up_ne (by decide), up_ne (by decide), up_n hx]
      · refine i4.step ha hb hc q ?_ (fun x hx => ?_)
        · rw [up_ne (by decide), up_e]
        · rw [up_ne (by decide), up_n hx, up_ne (by decide)]
      · refine i5.step ha hb hc q ?_ (fun x hx => ?_)
        · rw [up_e]
        · rw [up_n hx, up_ne (by decide), up_ne (by decide)]
    · rw [if_pos ((cond_tb n8 hD Ks ha hb hc).mpr q)]
      exact ⟨i1, i2, i3.skip hb hc q, i4.skip hb hc q, i5.skip hb hc q⟩
  · refine ⟨fun _ _ _ _ => rfl, rfl, ⟨fun a b c _ _ _ hk => absurd hk (Nat.not_lt_zero _), fun x hx => Or.inl (h0 0 (by decide) x hx)⟩, ⟨fun a b c _ _ _ hk => absurd hk (Nat.not_lt_zero _), fun x hx => Or.inl (h0 1 (by decide) x hx)⟩, ⟨fun a b c _ _ _ hk => absurd hk (Nat.not_lt_zero _), fun x hx => Or.inl (h0 2 (by decide) x hx)⟩⟩
theorem vI_ge {n w S o x a b c : Nat} {d : Nat → Nat → Nat} (n8 : n ≤ 8) (hd : ∀ i, i < n → d i 5 ≤ 9 ∧ d i 6 ≤ 9) (h : x = 0 ∨ x - 1 < n) : (-1000 : Int32) ≤ vI n d w S o x a b c := by
  have h1 := prq_le (w := w) (o := o) (X := dif S (br a b c)) (fun i hi => (hd i hi).1) n (Nat.le_refl _)
  have h2 : cst d x ≤ 9 := by
    unfold cst
    split
    · exact Nat.zero_le _
    · rename_i z
      rcases h with y | y
      · exact absurd y z
      · exact (hd _ y).2
  unfold vI
  rw [Int32.le_iff_toInt_le, pk_sub_toInt (by omega) (by omega)]
  have e : (-1000 : Int32).toInt = -1000 := rfl
  omega
/-- a choice rests -/
def RST (n : Nat) (d : Nat → Nat → Nat) (w S D a b c : Nat) : Prop := chs n d D a b c ∧ ∀ x, x < 9 → ((Mo n d D 0).testBit x = true → vI n d w S 0 x x b c ≤ vI n d w S 0 a a b c) ∧ ((Mo n d D 1).testBit x = true → vI n d w S 1 x a x c ≤ vI n d w S 1 b a b c) ∧ ((Mo n d D 2).testBit x = true → vI n d w S 2 x a b x ≤ vI n d w S 2 c a b c)
theorem rest2 {s : Mm} {n w S D a b c : Nat} {d : Nat → Nat → Nat} (n8 : n ≤ 8) (hS : S < 2 ^ n) (hD : D < 2 ^ n) (hd : ∀ i, i < n → d i 5 ≤ 9 ∧ d i 6 ≤ 9) (K : OK3 s n d w S D) (T : BST s n d w S D 729) (ha : a < 9) (hb : b < 9) (hc : c < 9) (h : chs n d D a b c) : fX4_isRest s (nI a) (nI b) (nI c) = true ↔ RST n d w S D a b c := by
  have hs := br_sub n8 hD ha hb hc h
  have ok0 : a = 0 ∨ a - 1 < n := (Mo_in n8 hD h.1).imp id (fun z => z.2)
  have ok1 : b = 0 ∨ b - 1 < n := (Mo_in n8 hD h.2.1).imp id (fun z => z.2)
  have ok2 : c = 0 ∨ c - 1 < n := (Mo_in n8 hD h.2.2).imp id (fun z => z.2)
  have v0 : fX4_has s 0 (nI a) (nI (br a b c)) = vI n d w S 0 a a b c := hasV (o := 0) n8 hS K (by decide) ha hb hc ha hs ok0
  have v1 : fX4_has s 1 (nI b) (nI (br a b c)) = vI n d w S 1 b a b c := hasV (o := 1) n8 hS K (by decide) ha hb hc hb hs ok1
  have v2 : fX4_has s 2 (nI c) (nI (br a b c)) = vI n d w S 2 c a b c := hasV (o := 2) n8 hS K (by decide) ha hb hc hc hs ok2
  obtain ⟨⟨t1, t2⟩, ⟨t3, t4⟩, ⟨t5, t6⟩⟩ := T
  have b0 : s.1 14 (b * 9 + c) ≤ vI n d w S 0 a a b c ↔ ∀ x, x < 9 → ((Mo n d D 0).testBit x = true → vI n d w S 0 x x b c ≤ vI n d w S 0 a a b c) := by
    constructor
    · intro z x hx hm
      exact Int32.le_trans (t1 x b c hx hb hc (by omega) ⟨hm, h.2.1, h.2.2⟩) z
    · intro z
      rcases t2 (b * 9 + c) (by omega) with y | ⟨a', b', c', y1, y2, y3, y4, y5, y6⟩
      · rw [y]
        exact vI_ge n8 hd ok0
      · have y5 : b' * 9 + c' = b * 9 + c := y5
        have eb : b' = b := by omega
        have ec : c' = c := by omega
        subst eb ec
        rw [y6]
        exact z a' y1 y4.1
  have b1 : s.1 15 (a * 9 + c) ≤ vI n d w S 1 b a b c ↔ ∀ x, x < 9 → ((Mo n d D 1).testBit x = true → vI n d w S 1 x a x c ≤ vI n d w S 1 b a b c) := by
    constructor
    · intro z x hx hm
      exact Int32.le_trans (t3 a x c ha hx hc (by omega) ⟨h.1, hm, h.2.2⟩) z
    · intro z
      rcases t4 (a * 9 + c) (by omega) with y | ⟨a', b', c', y1, y2, y3, y4, y5, y6⟩
      · rw [y]
        exact vI_ge n8 hd ok1
      · have y5 : a' * 9 + c' = a * 9 + c := y5
        have eb : a' = a := by omega
        have ec : c' = c := by omega
        subst eb ec
        rw [y6]
        exact z b' y2 y4.2.1
  have b2 : s.1 16 (a * 9 + b) ≤ vI n d w S 2 c a b c ↔ ∀ x, x < 9 → ((Mo n d D 2).testBit x = true → vI n d w S 2 x a b x ≤ vI n d w S 2 c a b c) := by
    constructor
    · intro z x hx hm
      exact Int32.le_trans (t5 a b x ha hb hx (by omega) ⟨h.1, h.2.1, hm⟩) z
    · intro z
      rcases t6 (a * 9 + b) (by omega) with y | ⟨a', b', c', y1, y2, y3, y4, y5, y6⟩
      · rw [y]
        exact vI_ge n8 hd ok2
      · have y5 : a' * 9 + b' = a * 9 + b := y5
        have eb : a' = a := by omega
        have ec : b' = b := by omega
        subst eb ec
        rw [y6]
        exact z c' y3 y4.2.2
  unfold fX4_isRest
  rw [(br_I a ha b hb c hc).1, ix_I, ix_I, ix_I, at81 (by omega), at81 (by omega), at81 (by omega), v0, v1, v2]
  show (if s.1 14 (b * 9 + c) ≤ vI n d w S 0 a a b c then (if s.1 15 (a * 9 + c) ≤ vI n d w S 1 b a b c then (if s.1 16 (a * 9 + b) ≤ vI n d w S 2 c a b c then true else false) else false) else false) = true ↔ _
  unfold RST
  by_cases z0 : s.1 14 (b * 9 + c) ≤ vI n d w S 0 a a b c
  · rw [if_pos z0]
    by_cases z1 : s.1 15 (a * 9 + c) ≤ vI n d w S 1 b a b c
    · rw [if_pos z1]
      by_cases z2 : s.1 16 (a * 9 + b) ≤ vI n d w S 2 c a b c
      · rw [if_pos z2]
        exact ⟨fun _ => ⟨h, fun x hx => ⟨b0.mp z0 x hx, b1.mp z1 x hx, b2.mp z2 x hx⟩⟩, fun _ => rfl⟩
      · rw [if_neg z2]
        exact ⟨fun z => absurd z (by decide), fun z => absurd (b2.mpr (fun x hx => (z.2 x hx).2.2)) z2⟩
    · rw [if_neg z1]
      exact ⟨fun z => absurd z (by decide), fun z => absurd (b1.mpr (fun x hx => (z.2 x hx).2.1)) z1⟩
  · rw [if_neg z0]
    exact ⟨fun z => absurd z (by decide), fun z => absurd (b0.mpr (fun x hx => (z.2 x hx).1)) z0⟩
