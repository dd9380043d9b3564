/-! sums over sets, products over things -/
def pd (f : Nat → Nat) : Nat → Nat
  | 0 => 1
  | j + 1 => pd f j * f j
def sm (f : Nat → Nat) : Nat → Nat
  | 0 => 0
  | k + 1 => sm f k + f k
theorem pd_congr {f g : Nat → Nat} : ∀ n, (∀ j, j < n → f j = g j) → pd f n = pd g n := by
  intro n
  induction n with
  | zero => intro _; rfl
  | succ n ih =>
    intro h
    show pd f n * f n = pd g n * g n
    rw [ih (fun j hj => h j (by omega)), h n (by omega)]
theorem sm_congr {f g : Nat → Nat} : ∀ n, (∀ j, j < n → f j = g j) → sm f n = sm g n := by
  intro n
  induction n with
  | zero => intro _; rfl
  | succ n ih =>
    intro h
    show sm f n + f n = sm g n + g n
    rw [ih (fun j hj => h j (by omega)), h n (by omega)]
theorem sm_le {f g : Nat → Nat} : ∀ n, (∀ j, j < n → f j ≤ g j) → sm f n ≤ sm g n := by
  intro n
  induction n with
  | zero => intro _; exact Nat.le_refl _
  | succ n ih =>
    intro h
    exact Nat.add_le_add (ih (fun j hj => h j (by omega))) (h n (by omega))
theorem sm_0 {f : Nat → Nat} : ∀ n, (∀ j, j < n → f j = 0) → sm f n = 0 := by
  intro n
  induction n with
  | zero => intro _; rfl
  | succ n ih =>
    intro h
    show sm f n + f n = 0
    rw [ih (fun j hj => h j (by omega)), h n (by omega)]
theorem sm_add {f : Nat → Nat} (a : Nat) : ∀ b, sm f (a + b) = sm f a + sm (fun k => f (a + k)) b := by
  intro b
  induction b with
  | zero => rfl
  | succ b ih =>
    show sm f (a + b) + f (a + b) = sm f a + (sm (fun k => f (a + k)) b + f (a + b))
    rw [ih, Nat.add_assoc]
theorem sm_mul {f : Nat → Nat} (c : Nat) : ∀ n, sm (fun k => f k * c) n = sm f n * c := by
  intro n
  induction n with
  | zero => exact (Nat.zero_mul c).symm
  | succ n ih =>
    show sm (fun k => f k * c) n + f n * c = (sm f n + f n) * c
    rw [ih, Nat.add_mul]
theorem pd_mul {f g : Nat → Nat} : ∀ n, pd f n * pd g n = pd (fun j => f j * g j) n := by
  intro n
  induction n with
  | zero => rfl
  | succ n ih =>
    show (pd f n * f n) * (pd g n * g n) = pd (fun j => f j * g j) n * (f n * g n)
    rw [← ih, Nat.mul_mul_mul_comm]
theorem pd_zero {f : Nat → Nat} {j : Nat} (h : f j = 0) : ∀ n, j < n → pd f n = 0 := by
  intro n
  induction n with
  | zero => intro h; omega
  | succ n ih =>
    intro hj
    show pd f n * f n = 0
    by_cases e : j = n
    · rw [← e, h, Nat.mul_zero]
    · rw [ih (by omega), Nat.zero_mul]
theorem pd_pos {f : Nat → Nat} : ∀ n, (∀ j, j < n → 0 < f j) → 0 < pd f n := by
  intro n
  induction n with
  | zero => intro _; exact Nat.zero_lt_one
  | succ n ih =>
    intro h
    exact Nat.mul_pos (ih (fun j hj => h j (by omega))) (h n (by omega))
theorem pd_le {f : Nat → Nat} {c : Nat} : ∀ n, (∀ j, j < n → f j ≤ c) → pd f n ≤ c ^ n := by
  intro n
  induction n with
  | zero => intro _; exact Nat.le_refl _
  | succ n ih =>
    intro h
    rw [Nat.pow_succ]
    exact Nat.mul_le_mul (ih (fun j hj => h j (by omega))) (h n (by omega))
/-- the sum over all sets of a product over the things is the product of the sums -/
theorem prod_sum (g : Nat → Bool → Nat) : ∀ m, sm (fun k => pd (fun j => g j (k.testBit j)) m) (2 ^ m) = pd (fun j => g j false + g j true) m := by
  intro m
  induction m with
  | zero => rfl
  | succ m ih =>
    have h1 : sm (fun k => pd (fun j => g j (k.testBit j)) (m + 1)) (2 ^ m) = pd (fun j => g j false + g j true) m * g m false := by
      rw [← ih, ← sm_mul]
      refine sm_congr _ fun k hk => ?_
      show pd (fun j => g j (k.testBit j)) m * g m (k.testBit m) = _
      rw [Nat.testBit_lt_two_pow hk]
    have h2 : sm (fun k => pd (fun j => g j ((2 ^ m + k).testBit j)) (m + 1)) (2 ^ m) = pd (fun j => g j false + g j true) m * g m true := by
      rw [← ih, ← sm_mul]
      refine sm_congr _ fun k hk => ?_
      show pd (fun j => g j ((2 ^ m + k).testBit j)) m * g m ((2 ^ m + k).testBit m) = _
      rw [Nat.testBit_two_pow_add_eq, Nat.testBit_lt_two_pow hk]
      congr 1
      refine pd_congr _ fun j hj => ?_
      rw [Nat.testBit_two_pow_add_gt hj]
    rw [show 2 ^ (m + 1) = 2 ^ m + 2 ^ m by rw [Nat.pow_succ]; omega, sm_add, h1, h2, ← Nat.mul_add]
    rfl
/-- the weight of a set of broken ones -/
def wtf (F x k j : Nat) : Nat := if F.testBit j = true then (if k.testBit j = true then x else 10 - x) else 1
def wt (F x k : Nat) : Nat := pd (wtf F x k) 8
def alT (F x k : Nat) : Nat := if dif k F = 0 then wt F x k else 0
theorem dif0_tb {k F j : Nat} (hk : k < 256) (h : dif k F = 0) (hj : k.testBit j = true) : F.testBit j = true := by
  have z : (dif k F).testBit j = false := by rw [h, Nat.zero_testBit]
  rw [dif_tb (by omega), hj, Bool.true_and] at z
  cases e : F.testBit j
  · rw [e] at z
    exact absurd z (by decide)
  · rfl
theorem difn_tb {k F : Nat} (hk : k < 256) (h : ¬ dif k F = 0) : ∃ j, j < 8 ∧ k.testBit j = true ∧ F.testBit j = false := by
  obtain ⟨j, hj⟩ := Nat.exists_testBit_of_ne_zero h
  rw [dif_tb (by omega)] at hj
  obtain ⟨h1, h2⟩ := Bool.and_eq_true_iff.mp hj
  refine ⟨j, ?_, h1, ?_⟩
  · by_cases q : j < 8
    · exact q
    · rw [tb_big (n := 8) hk (by omega)] at h1
      exact absurd h1 (by decide)
  · cases e : F.testBit j
    · rfl
    · rw [e] at h2
      exact absurd h2 (by decide)
theorem al_eq {F x : Nat} (hx : x ≤ 10) : sm (alT F x) 256 = pd (fun j => if F.testBit j = true then 10 else 1) 8 := by
  have e := prod_sum (fun j b => if F.testBit j = true then (if b = true then x else 10 - x) else (if b = true then 0 else 1)) 8
  have e2 : pd (fun j => (if F.testBit j = true then (if false = true then x else 10 - x) else (if false = true then 0 else 1)) + (if F.testBit j = true then (if true = true then x else 10 - x) else (if true = true then 0 else 1))) 8 = pd (fun j => if F.testBit j = true then 10 else 1) 8 := by
    refine pd_congr _ fun j hj => ?_
    by_cases c : F.testBit j = true
    · rw [if_pos c, if_pos c, if_pos c, if_neg (by decide), if_pos rfl]
      omega
    · rw [if_neg c, if_neg c, if_neg c, if_neg (by decide), if_pos rfl]
  rw [← e2, ← e]
  show sm (alT F x) (2 ^ 8) = _
  refine sm_congr _ fun k hk => ?_
  unfold alT
  by_cases q : dif k F = 0
  · rw [if_pos q]
    refine pd_congr _ fun j hj => ?_
    unfold wtf
    by_cases c : F.testBit j = true
    · rw [if_pos c, if_pos c]
    · rw [if_neg c, if_neg c, if_neg (fun z => c (dif0_tb hk q z))]
  · rw [if_neg q]
    obtain ⟨j, j1, j2, j3⟩ := difn_tb hk q
    symm
    refine pd_zero (j := j) ?_ 8 j1
    rw [if_neg (show ¬ F.testBit j = true by rw [j3]; decide), if_pos j2]
theorem al_pos {F x : Nat} (hx : x ≤ 10) : 0 < sm (alT F x) 256 ∧ sm (alT F x) 256 < 2 ^ 31 := by
  rw [al_eq hx]
  refine ⟨pd_pos 8 fun j _ => ?_, Nat.lt_of_le_of_lt (pd_le (c := 10) 8 fun j _ => ?_) (by decide)⟩
  · show 0 < (if F.testBit j = true then 10 else 1)
    split <;> decide
  · show (if F.testBit j = true then 10 else 1) ≤ 10
    split <;> decide
/-- the common divisor -/
theorem com_go {u v : Int32} : ∀ m a b, b < m → a < 2 ^ 31 → b < 2 ^ 31 → fX10_common_4 u v m (nI a) (nI b) = nI (Nat.gcd a b) := by
  intro m
  induction m with
  | zero => intro a b h; omega
  | succ m ih =>
    intro a b h ha hb
    rw [fX10_common_4]
    by_cases c : b = 0
    · subst c
      rw [if_pos (show nI 0 = 0 from rfl), Nat.gcd_zero_right]
    · have hm := Nat.mod_lt a (show 0 < b by omega)
      rw [if_neg (nI_ne0 (by omega) hb), rm_nI ha (by omega) hb, ih b (a % b) (by omega) hb (by omega), Nat.gcd_comm a b, Nat.gcd_rec b a, Nat.gcd_comm]
theorem com_eq {a b : Nat} (ha : a < 2 ^ 31) (hb : b < 2 ^ 31) : fX10_common (nI a) (nI b) = nI (Nat.gcd a b) := by
  unfold fX10_common
  rw [nI_clamp hb]
  exact com_go (b + 1) a b (by omega) ha hb
theorem com_ne {a b : Nat} (ha : a < 2 ^ 31) (hb : b < 2 ^ 31) (h : 0 < b) : ¬ fX10_common (nI a) (nI b) = 0 := by
  rw [com_eq ha hb]
  exact nI_ne0 (Nat.gcd_pos_of_pos_right a h) (Nat.lt_of_le_of_lt (Nat.le_of_dvd h (Nat.gcd_dvd_right a b)) hb)
theorem fr_lt {σ : Mm} {a : Int32} {n : Nat} (n8 : n ≤ 8) (e : σ.1 34 13 = nI n) : ∀ m k z, k ≤ n → z < 2 ^ k → ∃ z', z' < 256 ∧ fX10_frail_4 σ a m (nI z) k = nI z' := by
  intro m
  induction m with
  | zero => intro k z _ _; exact ⟨0, by decide, rfl⟩
  | succ m ih =>
    intro k z hk hz
    rw [fX10_frail_4, e, Io0]
    by_cases c : k < n
    · have hz1 : z < 2 ^ (k + 1) := Nat.lt_of_lt_of_le hz (Nat.pow_le_pow_right (by decide) (by omega))
      have base := ih (k + 1) z (by omega) hz1
      have more := ih (k + 1) (z ||| 2 ^ k) (by omega) (Nat.or_lt_two_pow hz1 (Nat.pow_lt_pow_right (by decide) (by omega)))
      rw [if_pos (nI_lt c (by omega)), bit_k k (by omega), nI_or]
      split
      · split
        · exact base
        · split
          · exact more
          · exact base
      · exact base
    · rw [if_neg (nI_nlt (by omega) (by omega))]
      exact ⟨z, Nat.lt_of_lt_of_le hz (Nat.pow_le_pow_right (n := 2) (by decide) (show k ≤ 8 by omega)), rfl⟩
theorem frail_lt {σ : Mm} (a : Int32) (hM : vp_in (σ.1 34 13) 9) : ∃ z, z < 256 ∧ fX10_frail σ a = nI z := by
  obtain ⟨n, hn, e⟩ := vp_in_of hM (by decide)
  unfold fX10_frail
  exact fr_lt (by omega) e _ 0 0 (Nat.zero_le _) (by decide)
theorem in10 {a : Int32} (h : fX10_in a.toInt64 0 10 = true) : ∃ x, x ≤ 10 ∧ a = nI x := by
  obtain ⟨h1, h2⟩ := in_ti.mp h
  have z0 : (0 : Int64).toInt = 0 := rfl
  have z1 : (10 : Int64).toInt = 10 := rfl
  rw [z0] at h1
  rw [z1] at h2
  refine ⟨a.toInt.toNat, by omega, Int32.toInt_inj.mp ?_⟩
  rw [nI_toInt (by omega)]
  omega
/-- what the loop of chance keeps -/
def CJ (F x k : Nat) (x5 x6 : Int32) : Prop := ∃ p q, x5 = nI p ∧ x6 = nI q ∧ p ≤ q ∧ q = sm (alT F x) k
theorem CJ_0 (F x : Nat) : CJ F x 0 0 0 := ⟨0, 0, rfl, rfl, Nat.le_refl _, rfl⟩
theorem CJ_skip {F x k : Nat} {x5 x6 : Int32} (hk : k < 256) (h : CJ F x k x5 x6) (c : ¬ (nI k &&& (nI F ^^^ (-1))) = 0) : CJ F x (k + 1) x5 x6 := by
  obtain ⟨p, q, e1, e2, h1, h2⟩ := h
  refine ⟨p, q, e1, e2, h1, ?_⟩
  have hd : dif k F < 2 ^ 31 := Nat.lt_of_le_of_lt (dif_le k F) (by omega)
  rw [nI_dif, n0 hd] at c
  show q = sm (alT F x) k + alT F x k
  unfold alT
  rw [if_neg c, Nat.add_zero]
  exact h2
theorem CJ_a {F x k : Nat} {x5 x6 : Int32} (hk : k < 256) (h : CJ F x k x5 x6) (c : (nI k &&& (nI F ^^^ (-1))) = 0) : CJ F x (k + 1) (x5 + nI (wt F x k)) (x6 + nI (wt F x k)) ∧ CJ F x (k + 1) (x5 + 0) (x6 + nI (wt F x k)) := by
  obtain ⟨p, q, e1, e2, h1, h2⟩ := h
  have hd : dif k F < 2 ^ 31 := Nat.lt_of_le_of_lt (dif_le k F) (by omega)
  rw [nI_dif, n0 hd] at c
  have e : sm (alT F x) (k + 1) = q + wt F x k := by
    show sm (alT F x) k + alT F x k = _
    unfold alT
    rw [if_pos c, h2]
    rfl
  refine ⟨⟨p + wt F x k, q + wt F x k, by rw [e1, nI_add], by rw [e2, nI_add], by omega, e.symm⟩, ⟨p, q + wt F x k, ?_, by rw [e2, nI_add], by omega, e.symm⟩⟩
  rw [e1]
  exact Int32.add_zero _
theorem CJ_end {F x : Nat} {x5 x6 : Int32} (hx : x ≤ 10) (h : CJ F x 256 x5 x6) : 0 ≤ x5.toInt ∧ 0 ≤ x6.toInt ∧ ¬ fX10_common x5 x6 = 0 := by
  obtain ⟨p, q, e1, e2, h1, h2⟩ := h
  obtain ⟨h3, h4⟩ := al_pos (F := F) hx
  rw [← h2] at h3 h4
  rw [e1, e2, nI_toInt (by omega), nI_toInt h4]
  exact ⟨by omega, by omega, com_ne (by omega) h4 h3⟩
theorem wt_s (F x k o : Nat) : pd (wtf F x k) (o + 1) = pd (wtf F x k) o * wtf F x k o := rfl
theorem wt_1 {F x k o : Nat} {y : Int32} (hF : F < 256) (ho : o < 8) (e : y = nI (pd (wtf F x k) o)) (c : ¬ fX10_has (nI F) (nI o) = true) : y * 1 = nI (pd (wtf F x k) (o + 1)) := by
  rw [has_tb (by omega) ho] at c
  have ew : wtf F x k o = 1 := if_neg c
  rw [wt_s, ew, e, show (1 : Int32) = nI 1 from rfl, pk_mul]
theorem wt_x {F x k o : Nat} {y : Int32} (hF : F < 256) (hk : k < 256) (ho : o < 8) (e : y = nI (pd (wtf F x k) o)) (c : fX10_has (nI F) (nI o) = true) (c2 : fX10_has (nI k) (nI o) = true) : y * nI x = nI (pd (wtf F x k) (o + 1)) := by
  rw [has_tb (by omega) ho] at c
  rw [has_tb (by omega) ho] at c2
  have ew : wtf F x k o = x := (if_pos c).trans (if_pos c2)
  rw [wt_s, ew, e, pk_mul]
theorem wt_y {F x k o : Nat} {y : Int32} (hF : F < 256) (hk : k < 256) (ho : o < 8) (hx : x ≤ 10) (e : y = nI (pd (wtf F x k) o)) (c : fX10_has (nI F) (nI o) = true) (c2 : ¬ fX10_has (nI k) (nI o) = true) : y * (10 - nI x) = nI (pd (wtf F x k) (o + 1)) := by
  rw [has_tb (by omega) ho] at c
  rw [has_tb (by omega) ho] at c2
  have ew : wtf F x k o = 10 - x := (if_pos c).trans (if_neg c2)
  rw [wt_s, ew, e, show (10 : Int32) = nI 10 from rfl, pk_sub hx, pk_mul]
theorem k8_of {k : Nat} (h : k ≤ 8) (c : ¬ nI k < 8) : k = 8 := by
  by_cases q : k < 8
  · exact absurd (show nI k < 8 from nI_lt (a := k) (b := 8) q (by decide)) c
  · omega
theorem k256_of {k : Nat} (h : k ≤ 256) (c : ¬ nI k < 256) : k = 256 := by
  by_cases q : k < 256
  · exact absurd (show nI k < 256 from nI_lt (a := k) (b := 256) q (by decide)) c
  · omega
