/-! pictures: what both sides tell, as numbers; a set is a number, thing k is in it if bit k is 1 -/
def bs : Nat → (Nat → Bool) → Nat
  | 0, _ => 0
  | n + 1, p => bs n p ||| (if p n = true then 2 ^ n else 0)
theorem bs_t {n : Nat} {p : Nat → Bool} (h : p n = true) : bs (n + 1) p = bs n p ||| 2 ^ n := by
  show bs n p ||| (if p n = true then 2 ^ n else 0) = _
  rw [if_pos h]
theorem bs_f {n : Nat} {p : Nat → Bool} (h : p n = false) : bs (n + 1) p = bs n p := by
  show bs n p ||| (if p n = true then 2 ^ n else 0) = _
  rw [h, if_neg (by decide), Nat.or_zero]
theorem bs_lt (p : Nat → Bool) : ∀ n, bs n p < 2 ^ n := by
  intro n
  induction n with
  | zero => exact Nat.zero_lt_one
  | succ n ih =>
    have h1 : bs n p < 2 ^ (n + 1) := Nat.lt_of_lt_of_le ih (Nat.pow_le_pow_right (by decide) (by omega))
    cases h : p n
    · rw [bs_f h]
      exact h1
    · rw [bs_t h]
      exact Nat.or_lt_two_pow h1 (Nat.pow_lt_pow_right (by decide) (by omega))
theorem bs_tb (p : Nat → Bool) : ∀ n k, (bs n p).testBit k = (decide (k < n) && p k) := by
  intro n
  induction n with
  | zero =>
    intro k
    show Nat.testBit 0 k = _
    rw [Nat.zero_testBit, decide_eq_false (Nat.not_lt_zero k)]
    rfl
  | succ n ih =>
    intro k
    cases h : p n
    · rw [bs_f h, ih]
      by_cases hk : k = n
      · subst hk
        rw [h, Bool.and_false, Bool.and_false]
      · rw [show decide (k < n + 1) = decide (k < n) from decide_eq_decide.mpr (by omega)]
    · rw [bs_t h, Nat.testBit_or, ih]
      by_cases hk : k = n
      · subst hk
        rw [Nat.testBit_two_pow_self, h, decide_eq_true (Nat.lt_succ_self k)]
        cases decide (k < k) <;> rfl
      · rw [Nat.testBit_two_pow_of_ne (Ne.symm hk), Bool.or_false, show decide (k < n + 1) = decide (k < n) from decide_eq_decide.mpr (by omega)]
theorem bs_congr {p q : Nat → Bool} : ∀ n, (∀ k, k < n → p k = q k) → bs n p = bs n q := by
  intro n
  induction n with
  | zero => intro _; rfl
  | succ n ih =>
    intro h
    show bs n p ||| (if p n = true then 2 ^ n else 0) = bs n q ||| (if q n = true then 2 ^ n else 0)
    rw [ih (fun k hk => h k (by omega)), h n (by omega)]
theorem tb_big {m n k : Nat} (h : m < 2 ^ n) (hk : n ≤ k) : m.testBit k = false := Nat.testBit_lt_two_pow (Nat.lt_of_lt_of_le h (Nat.pow_le_pow_right (by decide) hk))
theorem set_ext {n a b : Nat} (ha : a < 2 ^ n) (hb : b < 2 ^ n) (h : ∀ k, k < n → a.testBit k = b.testBit k) : a = b := by
  apply Nat.eq_of_testBit_eq
  intro k
  by_cases hk : k < n
  · exact h k hk
  · rw [tb_big ha (by omega), tb_big hb (by omega)]
theorem p8 {n m : Nat} (hn : n ≤ 8) (h : m < 2 ^ n) : m < 256 := Nat.lt_of_lt_of_le h (Nat.pow_le_pow_right (n := 2) (by decide) hn)
theorem p31 {n m : Nat} (hn : n ≤ 8) (h : m < 2 ^ n) : m < 2 ^ 31 := Nat.lt_of_lt_of_le (p8 hn h) (by decide)
def dif (a b : Nat) : Nat := a &&& (b ^^^ 4294967295)
theorem nI_dif (a b : Nat) : nI a &&& (nI b ^^^ (-1)) = nI (dif a b) := by
  rw [show (-1 : Int32) = nI 4294967295 from rfl, nI_xor, nI_and]
  rfl
theorem dif_tb {a : Nat} (ha : a < 2 ^ 32) (b k : Nat) : (dif a b).testBit k = (a.testBit k && !b.testBit k) := by
  unfold dif
  rw [Nat.testBit_and, Nat.testBit_xor, show (4294967295 : Nat) = 2 ^ 32 - 1 from rfl, Nat.testBit_two_pow_sub_one]
  by_cases hk : k < 32
  · rw [decide_eq_true hk]
    cases b.testBit k <;> rfl
  · rw [tb_big ha (by omega), Bool.false_and, Bool.false_and]
theorem dif_le (a b : Nat) : dif a b ≤ a := Nat.and_le_left
theorem dif_lt {a n : Nat} (h : a < 2 ^ n) (b : Nat) : dif a b < 2 ^ n := Nat.lt_of_le_of_lt (dif_le a b) h
theorem all_k : ∀ n, n ≤ 8 → ((1 : Int32) <<< (nI n &&& 31)) - 1 = nI (2 ^ n - 1) := by decide +kernel
theorem all_tb (n k : Nat) : (2 ^ n - 1).testBit k = decide (k < n) := Nat.testBit_two_pow_sub_one n k
theorem all_lt (n : Nat) : 2 ^ n - 1 < 2 ^ n := Nat.sub_lt (Nat.two_pow_pos n) (by decide)
theorem has_tb {m k : Nat} (hm : m < 2 ^ 31) (hk : k < 8) : fX10_has (nI m) (nI k) = m.testBit k := by
  unfold fX10_has
  rw [pk_shrN (by omega) _ k (sh_i k hk), pk_andN (Nat.lt_of_le_of_lt (Nat.div_le_self _ _) (by omega)) 1 (by decide +kernel), Nat.testBit_eq_decide_div_mod_eq, show (2 ^ 1 : Nat) = 2 from rfl]
  have h2 : m / 2 ^ k % 2 < 2 := Nat.mod_lt _ (by decide)
  by_cases c : m / 2 ^ k % 2 = 1
  · rw [c, if_pos (show nI 1 = 1 from rfl), decide_eq_true rfl]
  · rw [if_neg (show ¬ nI (m / 2 ^ k % 2) = 1 from fun q => c ((nI_eq (by omega) (by decide)).mp q)), decide_eq_false c]
theorem holds_tb {m k : Nat} (hm : m < 2 ^ 31) (hk : k < 8) : fX9_holds (nI m) (nI k) = m.testBit k := by rw [holds_has hk, has_tb hm hk]
theorem n0 {m : Nat} (hm : m < 2 ^ 31) : nI m = 0 ↔ m = 0 := nI_eq hm (by decide)
def pc (m : Nat) : Nat := m % 2 + m / 2 % 2 + m / 4 % 2 + m / 8 % 2 + m / 16 % 2 + m / 32 % 2 + m / 64 % 2 + m / 128 % 2
theorem ones_pc : ∀ m, m < 256 → fX10_ones (nI m) = nI (pc m) := by decide +kernel
theorem bits_pc {m : Nat} (h : m < 256) : fJ6_bitCount (nI m) = nI (pc m) := (ones_eq m h).trans (ones_pc m h)
theorem pc_le (m : Nat) : pc m ≤ 8 := by
  unfold pc
  omega
/-- the marks that are the same, how many; who is alike among a set; who is last among a set -/
def eqs (d : Nat → Nat → Nat) (i j : Nat) : Nat := bs 4 fun k => d i k == d j k
def cn (d : Nat → Nat → Nat) (i j : Nat) : Nat := pc (eqs d i j)
def ALb (n : Nat) (d : Nat → Nat → Nat) (w i s : Nat) : Nat := bs n fun k => k != i && (s.testBit k && decide (w ≤ cn d i k))
def LAb (n : Nat) (d : Nat → Nat → Nat) (w s : Nat) : Nat := bs n fun i => s.testBit i && (ALb n d w i s == 0)
/-- size and figures: the class's house; the reference's -/
def CH (f t : Nat → Int32) (n : Nat) (d : Nat → Nat → Nat) : Prop := n ≤ 8 ∧ f 1 = nI n ∧ ∀ i, i < n → (∀ k, k < 7 → d i k ≤ 9) ∧ d i 4 ≤ 2 ∧ d i 7 ≤ 1 ∧ t i = nI (pkT (d i))
def RG (g : Nat → Int32) (n : Nat) (d : Nat → Nat → Nat) : Prop := n ≤ 8 ∧ g 13 = nI n ∧ ∀ i, i < n → (∀ k, k < 7 → d i k ≤ 9) ∧ d i 4 ≤ 2 ∧ d i 7 ≤ 1 ∧ g i = nI (pkC (d i))
theorem TG.ch {f t g : Nat → Int32} {n : Nat} {d : Nat → Nat → Nat} (H : TG f t g n d) : CH f t n d := ⟨H.1, H.2.1, fun i hi => ⟨(H.2.2.2 i hi).1, (H.2.2.2 i hi).2.1, (H.2.2.2 i hi).2.2.1, (H.2.2.2 i hi).2.2.2.1⟩⟩
theorem TG.rg {f t g : Nat → Int32} {n : Nat} {d : Nat → Nat → Nat} (H : TG f t g n d) : RG g n d := ⟨H.1, H.2.2.1, fun i hi => ⟨(H.2.2.2 i hi).1, (H.2.2.2 i hi).2.1, (H.2.2.2 i hi).2.2.1, (H.2.2.2 i hi).2.2.2.2⟩⟩
theorem RG.tg {g : Nat → Int32} {n : Nat} {d : Nat → Nat → Nat} (H : RG g n d) : TG (fun _ => nI n) (fun i => nI (pkT (d i))) g n d := ⟨H.1, rfl, H.2.1, fun i hi => ⟨(H.2.2 i hi).1, (H.2.2 i hi).2.1, (H.2.2 i hi).2.2.1, rfl, (H.2.2 i hi).2.2.2⟩⟩
theorem same10_go {r : Mm} {n : Nat} {d : Nat → Nat → Nat} (H : RG (r.1 34) n d) {i j : Nat} (hi : i < n) (hj : j < n) : ∀ m k, k ≤ 4 → 4 < k + m → fX10_same_5 r (nI i) (nI j) m (nI (bs k fun k => d i k == d j k)) k = nI (eqs d i j) := by
  intro m
  induction m with
  | zero => intro k _ _; omega
  | succ m ih =>
    intro k hk hm
    show (if nI k < 4 then (if fX10_markOf r (nI i) (nI k) = fX10_markOf r (nI j) (nI k) then fX10_same_5 r (nI i) (nI j) m (nI (bs k fun k => d i k == d j k) ||| (1 <<< ((nI k) &&& 31))) (k + 1) else fX10_same_5 r (nI i) (nI j) m (nI (bs k fun k => d i k == d j k) ||| 0) (k + 1)) else nI (bs k fun k => d i k == d j k)) = nI (eqs d i j)
    by_cases c : k < 4
    · have q1 := (H.2.2 i hi).1 k (by omega)
      have q2 := (H.2.2 j hj).1 k (by omega)
      rw [if_pos (show nI k < 4 from nI_lt c (by decide)), marks_eq H.tg hi c, marks_eq H.tg hj c, Io0, bit_k k (by omega), nI_or]
      by_cases c2 : d i k = d j k
      · rw [if_pos (congrArg nI c2), ← bs_t (p := fun k => d i k == d j k) (by exact beq_iff_eq.mpr c2), ih (k + 1) (by omega) (by omega)]
      · rw [if_neg (fun q => c2 ((nI_eq (by omega) (by omega)).mp q)), ← bs_f (n := k) (p := fun k => d i k == d j k) (by exact beq_eq_false_iff_ne.mpr c2), ih (k + 1) (by omega) (by omega)]
    · rw [if_neg (show ¬ nI k < 4 from nI_nlt (a := k) (b := 4) (by omega) (by omega)), show k = 4 by omega]
      rfl
theorem same10 {r : Mm} {n : Nat} {d : Nat → Nat → Nat} (H : RG (r.1 34) n d) {i j : Nat} (hi : i < n) (hj : j < n) : fX10_same r (nI i) (nI j) = nI (eqs d i j) := same10_go H hi hj 5 0 (by decide) (by decide)
theorem eqs_lt (d : Nat → Nat → Nat) (i j : Nat) : eqs d i j < 16 := bs_lt _ 4
theorem cn10 {r : Mm} {n : Nat} {d : Nat → Nat → Nat} (H : RG (r.1 34) n d) {i j : Nat} (hi : i < n) (hj : j < n) : fX10_ones (fX10_same r (nI i) (nI j)) = nI (cn d i j) := by
  rw [same10 H hi hj, ones_pc _ (Nat.lt_trans (eqs_lt d i j) (by decide))]
  rfl
theorem al10_go {r : Mm} {n : Nat} {d : Nat → Nat → Nat} (H : RG (r.1 34) n d) {i w s : Nat} (hi : i < n) (hw : w < 2 ^ 31) (hs : s < 2 ^ 31) : ∀ m k, k ≤ n → n < k + m → fX10_alikeOf_6 r (nI i) (nI s) (nI w) m (nI (bs k fun k => k != i && (s.testBit k && decide (w ≤ cn d i k)))) k = nI (ALb n d w i s) := by
  have hn := H.1
  intro m
  induction m with
  | zero => intro k _ _; omega
  | succ m ih =>
    intro k hk hm
    generalize hp : (fun k => k != i && (s.testBit k && decide (w ≤ cn d i k))) = p at ih ⊢
    have pk : p k = (k != i && (s.testBit k && decide (w ≤ cn d i k))) := by rw [← hp]
    show (if nI k < r.1 34 13 then (if nI k = nI i then fX10_alikeOf_6 r (nI i) (nI s) (nI w) m (nI (bs k p) ||| 0) (k + 1) else (if fX10_has (nI s) (nI k) = true then (if nI w ≤ fX10_ones (fX10_same r (nI i) (nI k)) then fX10_alikeOf_6 r (nI i) (nI s) (nI w) m (nI (bs k p) ||| (1 <<< ((nI k) &&& 31))) (k + 1) else fX10_alikeOf_6 r (nI i) (nI s) (nI w) m (nI (bs k p) ||| 0) (k + 1)) else fX10_alikeOf_6 r (nI i) (nI s) (nI w) m (nI (bs k p) ||| 0) (k + 1))) else nI (bs k p)) = nI (ALb n d w i s)
    rw [H.2.1]
    by_cases c : k < n
    · have hc : cn d i k < 2 ^ 31 := Nat.lt_of_le_of_lt (pc_le _) (by decide)
      have ihk := ih (k + 1) (by omega) (by omega)
      rw [if_pos (nI_lt c (by omega)), cn10 H hi c, Io0, has_tb hs (by omega), bit_k k (by omega), nI_or]
      by_cases c1 : k = i
      · rw [if_pos (congrArg nI c1), ← bs_f (n := k) (p := p) (by rw [pk, c1, bne_self_eq_false, Bool.false_and]), ihk]
      · rw [if_neg (fun q => c1 ((nI_eq (by omega) (by omega)).mp q))]
        have e1 : (k != i) = true := bne_iff_ne.mpr c1
        by_cases c2 : s.testBit k = true
        · rw [if_pos c2]
          by_cases c3 : w ≤ cn d i k
          · rw [if_pos ((nI_leI hw hc).mpr c3), ← bs_t (n := k) (p := p) (by rw [pk, e1, c2, decide_eq_true c3]; rfl), ihk]
          · rw [if_neg (fun q => c3 ((nI_leI hw hc).mp q)), ← bs_f (n := k) (p := p) (by rw [pk, e1, c2, decide_eq_false c3]; rfl), ihk]
        · rw [if_neg c2, ← bs_f (n := k) (p := p) (by rw [pk, e1, Bool.eq_false_iff.mpr c2]; rfl), ihk]
    · rw [if_neg (nI_nlt (by omega) (by omega)), show k = n by omega, ← hp]
      rfl
theorem al10 {r : Mm} {n : Nat} {d : Nat → Nat → Nat} (H : RG (r.1 34) n d) {i w s : Nat} (hi : i < n) (hw : w < 2 ^ 31) (hs : s < 2 ^ 31) : fX10_alikeOf r (nI i) (nI s) (nI w) = nI (ALb n d w i s) := by
  have hn := H.1
  unfold fX10_alikeOf mX10_alikeOf_6
  rw [H.2.1, nI_clamp (by omega)]
  exact al10_go H hi hw hs (n + 1) 0 (by omega) (by omega)
theorem AL_lt (n : Nat) (d : Nat → Nat → Nat) (w i s : Nat) : ALb n d w i s < 2 ^ n := bs_lt _ n
theorem LA_lt (n : Nat) (d : Nat → Nat → Nat) (w s : Nat) : LAb n d w s < 2 ^ n := bs_lt _ n
theorem la10_go {r : Mm} {n : Nat} {d : Nat → Nat → Nat} (H : RG (r.1 34) n d) {w s : Nat} (hw : w < 2 ^ 31) (hs : s < 2 ^ 31) : ∀ m k, k ≤ n → n < k + m → fX10_lastOf_5 r (nI s) (nI w) m (nI (bs k fun i => s.testBit i && (ALb n d w i s == 0))) k = nI (LAb n d w s) := by
  have hn := H.1
  intro m
  induction m with
  | zero => intro k _ _; omega
  | succ m ih =>
    intro k hk hm
    generalize hp : (fun i => s.testBit i && (ALb n d w i s == 0)) = p at ih ⊢
    have pk : p k = (s.testBit k && (ALb n d w k s == 0)) := by rw [← hp]
    show (if nI k < r.1 34 13 then (if fX10_has (nI s) (nI k) = true then (if fX10_alikeOf r (nI k) (nI s) (nI w) = 0 then fX10_lastOf_5 r (nI s) (nI w) m (nI (bs k p) ||| (1 <<< ((nI k) &&& 31))) (k + 1) else fX10_lastOf_5 r (nI s) (nI w) m (nI (bs k p) ||| 0) (k + 1)) else fX10_lastOf_5 r (nI s) (nI w) m (nI (bs k p) ||| 0) (k + 1)) else nI (bs k p)) = nI (LAb n d w s)
    rw [H.2.1]
    by_cases c : k < n
    · have ihk := ih (k + 1) (by omega) (by omega)
      have hz := n0 (p31 hn (AL_lt n d w k s))
      rw [if_pos (nI_lt c (by omega)), al10 H c hw hs, Io0, has_tb hs (by omega), bit_k k (by omega), nI_or]
      by_cases c2 : s.testBit k = true
      · rw [if_pos c2]
        by_cases c3 : ALb n d w k s = 0
        · rw [if_pos (hz.mpr c3), ← bs_t (n := k) (p := p) (by rw [pk, c2, c3]; rfl), ihk]
        · rw [if_neg (fun q => c3 (hz.mp q)), ← bs_f (n := k) (p := p) (by rw [pk, c2, beq_eq_false_iff_ne.mpr c3]; rfl), ihk]
      · rw [if_neg c2, ← bs_f (n := k) (p := p) (by rw [pk, Bool.eq_false_iff.mpr c2]; rfl), ihk]
    · rw [if_neg (nI_nlt (by omega) (by omega)), show k = n by omega, ← hp]
      rfl
theorem la10 {r : Mm} {n : Nat} {d : Nat → Nat → Nat} (H : RG (r.1 34) n d) {w s : Nat} (hw : w < 2 ^ 31) (hs : s < 2 ^ 31) : fX10_lastOf r (nI s) (nI w) = nI (LAb n d w s) := by
  have hn := H.1
  unfold fX10_lastOf mX10_lastOf_5
  rw [H.2.1, nI_clamp (by omega)]
  exact la10_go H hw hs (n + 1) 0 (by omega) (by omega)
/-- a memory with a reference's house as the class's -/
def mrg (s : Mm) (n : Nat) (d : Nat → Nat → Nat) : Mm := (fun k => if k = 34 then (fun i => if i = 13 then nI n else nI (pkC (d i))) else s.1 k, s.2)
theorem mrg_k {s : Mm} {n : Nat} {d : Nat → Nat → Nat} {k : Nat} (hk : k ≠ 34) : (mrg s n d).1 k = s.1 k := if_neg hk
theorem mrg_g {s : Mm} {n : Nat} {d : Nat → Nat → Nat} : (mrg s n d).1 34 = (fun i => if i = 13 then nI n else nI (pkC (d i))) := by
  show (if (34 : Nat) = 34 then (fun i => if i = 13 then nI n else nI (pkC (d i))) else s.1 34) = _
  rw [if_pos rfl]
theorem CH.mrg {s : Mm} {h n : Nat} {d : Nat → Nat → Nat} (hh : 49 ≤ h) (H : CH (s.1 h) (s.1 (h + 1)) n d) : TG ((mrg s n d).1 h) ((mrg s n d).1 (h + 1)) ((mrg s n d).1 34) n d := by
  have hn := H.1
  rw [mrg_k (by omega), mrg_k (by omega), mrg_g]
  exact ⟨H.1, H.2.1, if_pos rfl, fun i hi => ⟨(H.2.2 i hi).1, (H.2.2 i hi).2.1, (H.2.2 i hi).2.2.1, (H.2.2 i hi).2.2.2, if_neg (by omega)⟩⟩
theorem al2 {s : Mm} {h n : Nat} {d : Nat → Nat → Nat} (hh : 49 ≤ h) (H : CH (s.1 h) (s.1 (h + 1)) n d) {i w x : Nat} (hi : i < n) (hw : w < 2 ^ 31) (hx : x < 2 ^ 31) : fX2_alikeTo s h (nI i) (nI w) (nI x) = nI (ALb n d w i x) := by
  rw [alikeTo_fr (τ := mrg s n d) (by rw [mrg_k (by omega)]) (by rw [mrg_k (by omega)]), alike_eq (CH.mrg hh H) hi, al10 (CH.mrg hh H).rg hi hw hx]
theorem la2 {s : Mm} {h n : Nat} {d : Nat → Nat → Nat} (hh : 49 ≤ h) (H : CH (s.1 h) (s.1 (h + 1)) n d) {w x : Nat} (hw : w < 2 ^ 31) (hx : x < 2 ^ 31) : fX2_lastOnesBy s h (nI w) (nI x) = nI (LAb n d w x) := by
  rw [lastOnesBy_fr (τ := mrg s n d) (by rw [mrg_k (by omega)]) (by rw [mrg_k (by omega)]), last_eq (CH.mrg hh H), la10 (CH.mrg hh H).rg hw hx]
theorem same2 {s : Mm} {h n : Nat} {d : Nat → Nat → Nat} (hh : 49 ≤ h) (H : CH (s.1 h) (s.1 (h + 1)) n d) {i j : Nat} (hi : i < n) (hj : j < n) : fX2_sameMarks s h (nI i) (nI j) = nI (eqs d i j) := by
  rw [sameMarks_fr (τ := mrg s n d) (by rw [mrg_k (by omega)]), same_eq (CH.mrg hh H) hi hj, same10 (CH.mrg hh H).rg hi hj]
theorem fig2 {s : Mm} {h n : Nat} {d : Nat → Nat → Nat} (hh : 49 ≤ h) (H : CH (s.1 h) (s.1 (h + 1)) n d) {i k : Nat} (hi : i < n) (hk : k < 7) : fX2_figure s h (nI i) (nI k) = nI (d i k) := by
  have e := fig_eq (CH.mrg hh H) hi hk
  unfold fX2_figure at *
  rw [at_fr (τ := s) (by rw [mrg_k (by omega)])] at e
  exact e
theorem parts10 {r : Mm} {n : Nat} {d : Nat → Nat → Nat} (H : RG (r.1 34) n d) {i : Nat} (hi : i < n) : fX10_worthOf r (nI i) = nI (d i 5) ∧ fX10_costOf r (nI i) = nI (d i 6) ∧ fX10_ownerOf r (nI i) = nI (d i 4) ∧ fX10_guardOf r (nI i) = nI (d i 7) := parts_eq H.tg hi
/-- sets of a house -/
def SHb (n B Hd : Nat) : Nat := bs n fun k => !B.testBit k && !Hd.testBit k
def THb (n B : Nat) : Nat := bs n fun k => !B.testBit k
def BKb (n B C G : Nat) : Nat := bs n fun k => !B.testBit k && (!C.testBit k && !G.testBit k)
def UNb (n B Hd : Nat) : Nat := bs n fun k => !B.testBit k && Hd.testBit k
theorem SH_lt (n B Hd : Nat) : SHb n B Hd < 2 ^ n := bs_lt _ n
theorem TH_lt (n B : Nat) : THb n B < 2 ^ n := bs_lt _ n
theorem BK_lt (n B C G : Nat) : BKb n B C G < 2 ^ n := bs_lt _ n
theorem UN_lt (n B Hd : Nat) : UNb n B Hd < 2 ^ n := bs_lt _ n
theorem th_n {n : Nat} (hn : n ≤ 8) (B : Nat) : (((1 : Int32) <<< (nI n &&& 31)) - 1) &&& (nI B ^^^ (-1)) = nI (THb n B) := by
  rw [all_k n hn, nI_dif]
  congr 1
  refine set_ext (n := n) (dif_lt (all_lt n) B) (TH_lt n B) fun k hk => ?_
  unfold THb
  rw [dif_tb (Nat.lt_trans (p31 hn (all_lt n)) (by decide)), all_tb, bs_tb]
theorem th_dif {n : Nat} (hn : n ≤ 8) (B Hd : Nat) : nI (THb n B) &&& (nI Hd ^^^ (-1)) = nI (SHb n B Hd) := by
  rw [nI_dif]
  congr 1
  refine set_ext (n := n) (dif_lt (TH_lt n B) Hd) (SH_lt n B Hd) fun k hk => ?_
  unfold THb SHb
  rw [dif_tb (Nat.lt_trans (p31 hn (bs_lt _ n)) (by decide)), bs_tb, bs_tb, decide_eq_true hk]
  rfl
theorem shn2 {s : Mm} {h n B Hd : Nat} (hn : n ≤ 8) (e1 : s.1 h 1 = nI n) (e5 : s.1 h 5 = nI B) (e6 : s.1 h 6 = nI Hd) : fX2_shown s h = nI (SHb n B Hd) := by
  unfold fX2_shown fX2_there fX2_all
  rw [e1, e5, e6, th_n hn, th_dif hn]
theorem shn10 {r : Mm} {l n B Hd : Nat} (hn : n ≤ 8) (e1 : r.1 34 (14 * l + 13) = nI n) (e5 : r.1 34 (14 * l + 8) = nI B) (e6 : r.1 34 (14 * l + 9) = nI Hd) : fX10_shown r l = nI (SHb n B Hd) := by
  unfold fX10_shown
  rw [e1, e5, e6, th_n hn, th_dif hn]
theorem bk2 {s : Mm} {h n B C G : Nat} (hn : n ≤ 8) (e1 : s.1 h 1 = nI n) (e5 : s.1 h 5 = nI B) (e7 : s.1 h 7 = nI C) (e4 : s.1 h 4 = nI G) : fX2_breakable s h = nI (BKb n B C G) := by
  unfold fX2_breakable fX2_there fX2_all
  rw [e1, e5, e7, e4, th_n hn, th_dif hn, nI_dif]
  congr 1
  refine set_ext (n := n) (dif_lt (SH_lt n B C) G) (BK_lt n B C G) fun k hk => ?_
  unfold SHb BKb
  rw [dif_tb (Nat.lt_trans (p31 hn (bs_lt _ n)) (by decide)), bs_tb, bs_tb, Bool.and_assoc, Bool.and_assoc]
theorem un2 {s : Mm} {h n B Hd : Nat} (hn : n ≤ 8) (e1 : s.1 h 1 = nI n) (e5 : s.1 h 5 = nI B) (e6 : s.1 h 6 = nI Hd) : fX2_unseen s h = nI (UNb n B Hd) := by
  unfold fX2_unseen fX2_there fX2_all
  rw [e1, e5, e6, th_n hn, nI_and]
  congr 1
  refine set_ext (n := n) (Nat.lt_of_le_of_lt Nat.and_le_left (TH_lt n B)) (UN_lt n B Hd) fun k hk => ?_
  unfold THb UNb
  rw [Nat.testBit_and, bs_tb, bs_tb, Bool.and_assoc]
