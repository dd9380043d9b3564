/-! two museums: the game in numbers -/
def iI (a : Int) : Int32 := Int32.ofInt a
theorem iI_n (m : Nat) : iI (m : Int) = nI m := Int32.ofInt_eq_ofNat
theorem iI_sub (a b : Int) : iI a - iI b = iI (a - b) := (Int32.ofInt_sub a b).symm
theorem iI_neg (a : Int) : -iI a = iI (-a) := (Int32.ofInt_neg a).symm
theorem iI_t {a : Int} (h1 : -200000 ≤ a) (h2 : a ≤ 200000) : (iI a).toInt = a := Int32.toInt_ofInt_of_le (by omega) (by omega)
theorem iI_lt {a b : Int} (h1 : -200000 ≤ a) (h2 : a ≤ 200000) (h3 : -200000 ≤ b) (h4 : b ≤ 200000) : iI a < iI b ↔ a < b := by rw [Int32.lt_iff_toInt_lt, iI_t h1 h2, iI_t h3 h4]
theorem iI_le {a b : Int} (h1 : -200000 ≤ a) (h2 : a ≤ 200000) (h3 : -200000 ≤ b) (h4 : b ≤ 200000) : iI a ≤ iI b ↔ a ≤ b := by rw [Int32.le_iff_toInt_le, iI_t h1 h2, iI_t h3 h4]
def bu (lg : Nat → Bool) (val : Nat → Int) : Nat → Int × Nat
  | 0 => (-100000, 0)
  | k + 1 => if lg k = true ∧ (bu lg val k).1 < val k then (val k, k) else bu lg val k
theorem bu_y {lg : Nat → Bool} {val : Nat → Int} {k : Nat} (h1 : lg k = true) (h2 : (bu lg val k).1 < val k) : bu lg val (k + 1) = (val k, k) := if_pos ⟨h1, h2⟩
theorem bu_n {lg : Nat → Bool} {val : Nat → Int} {k : Nat} (h : ¬ (lg k = true ∧ (bu lg val k).1 < val k)) : bu lg val (k + 1) = bu lg val k := if_neg h
theorem bu_s {lg : Nat → Bool} {val : Nat → Int} (k : Nat) : (bu lg val k).1 ≤ (bu lg val (k + 1)).1 := by
  by_cases c : lg k = true ∧ (bu lg val k).1 < val k
  · rw [bu_y c.1 c.2]
    exact Int.le_of_lt c.2
  · rw [bu_n c]
    exact Int.le_refl _
theorem bu_mono {lg : Nat → Bool} {val : Nat → Int} (k : Nat) : ∀ j, (bu lg val k).1 ≤ (bu lg val (k + j)).1 := by
  intro j
  induction j with
  | zero => exact Int.le_refl _
  | succ j ih => exact Int.le_trans ih (bu_s (k + j))
theorem bu_ge {lg : Nat → Bool} {val : Nat → Int} {m : Nat} (h : lg m = true) : val m ≤ (bu lg val (m + 1)).1 := by
  by_cases c : (bu lg val m).1 < val m
  · rw [bu_y h c]
    exact Int.le_refl _
  · rw [bu_n (fun q => c q.2)]
    omega
theorem bu_le {lg : Nat → Bool} {val : Nat → Int} {M : Int} (hM : -100000 ≤ M) : ∀ k, (∀ m, m < k → lg m = true → val m ≤ M) → (bu lg val k).1 ≤ M := by
  intro k
  induction k with
  | zero => intro _; exact hM
  | succ k ih =>
    intro h
    by_cases c : lg k = true ∧ (bu lg val k).1 < val k
    · rw [bu_y c.1 c.2]
      exact h k (by omega) c.1
    · rw [bu_n c]
      exact ih (fun m hm => h m (by omega))
theorem bu_lo {lg : Nat → Bool} {val : Nat → Int} : ∀ k, -100000 ≤ (bu lg val k).1 := by
  intro k
  have := bu_mono (lg := lg) (val := val) 0 k
  rw [Nat.zero_add] at this
  exact this
theorem bu_m {lg : Nat → Bool} {val : Nat → Int} : ∀ k, (bu lg val k).2 ≤ k := by
  intro k
  induction k with
  | zero => exact Nat.le_refl _
  | succ k ih =>
    by_cases c : lg k = true ∧ (bu lg val k).1 < val k
    · rw [bu_y c.1 c.2]
      exact Nat.le_succ k
    · rw [bu_n c]
      omega
/-- size, figures, word, hidden ones, guards -/
abbrev Gm : Type := Nat × (Nat → Nat → Nat) × Nat × Nat × Nat
def frX (P : Gm) (b : Nat) : Nat := dif (dif (2 ^ P.1 - 1) b) P.2.2.2.1
def lgc (P : Gm) (b c t : Nat) : Bool := (LAb P.1 P.2.1 P.2.2.1 (frX P b)).testBit t && !c.testBit t
def lgb (P : Gm) (b c t : Nat) : Bool := decide (t < P.1) && (!b.testBit t && (!c.testBit t && !P.2.2.2.2.testBit t))
def lg (P : Gm) (b c m : Nat) : Bool := if m = 0 then true else if m < 11 then lgc P b c (m - 1) else lgb P b c (m - 11)
def gn (P : Gm) (m : Nat) : Int := if m = 0 then 0 else if m < 11 then (P.2.1 (m - 1) 5 : Int) else -(P.2.1 (m - 11) 6 : Int)
def nb (b m : Nat) : Nat := if m < 11 then b else b ||| 2 ^ (m - 11)
def nc (c m : Nat) : Nat := if m = 0 then c else if m < 11 then c ||| 2 ^ (m - 1) else c
def Vg (P : Gm) : Nat → Nat → Nat → Int
  | 0, _, _ => 0
  | r + 1, b, c => (bu (lg P b c) (fun m => gn P m - Vg P r (nb b m) (nc c m)) 19).1
def vl (P : Gm) (r b c m : Nat) : Int := gn P m - Vg P r (nb b m) (nc c m)
theorem Vg_s (P : Gm) (r b c : Nat) : Vg P (r + 1) b c = (bu (lg P b c) (vl P r b c) 19).1 := rfl
/-- the figures are within their bounds -/
def GB (P : Gm) : Prop := P.1 ≤ 8 ∧ ∀ i, i < P.1 → P.2.1 i 5 ≤ 9 ∧ P.2.1 i 6 ≤ 9
theorem frX_lt (P : Gm) (b : Nat) : frX P b < 2 ^ P.1 := dif_lt (dif_lt (all_lt P.1) b) _
theorem lgc_in {P : Gm} {b c t : Nat} (h : lgc P b c t = true) : t < P.1 := by
  have h1 := (Bool.and_eq_true_iff.mp h).1
  by_cases q : t < P.1
  · exact q
  · rw [tb_big (LA_lt P.1 P.2.1 P.2.2.1 (frX P b)) (by omega)] at h1
    exact absurd h1 (by decide)
theorem lgb_in {P : Gm} {b c t : Nat} (h : lgb P b c t = true) : t < P.1 := of_decide_eq_true (Bool.and_eq_true_iff.mp h).1
theorem lg_0 (P : Gm) (b c : Nat) : lg P b c 0 = true := rfl
theorem lg_c {P : Gm} {b c m : Nat} (h0 : m ≠ 0) (h : m < 11) : lg P b c m = lgc P b c (m - 1) := (if_neg h0).trans (if_pos h)
theorem lg_b {P : Gm} {b c m : Nat} (h : ¬ m < 11) : lg P b c m = lgb P b c (m - 11) := (if_neg (by omega)).trans (if_neg h)
theorem gn_b {P : Gm} {b c m : Nat} (B : GB P) (h : lg P b c m = true) : -9 ≤ gn P m ∧ gn P m ≤ 9 := by
  unfold gn
  by_cases h0 : m = 0
  · rw [if_pos h0]
    decide
  · rw [if_neg h0]
    by_cases h1 : m < 11
    · rw [if_pos h1]
      rw [lg_c h0 h1] at h
      have := (B.2 _ (lgc_in h)).1
      omega
    · rw [if_neg h1]
      rw [lg_b h1] at h
      have := (B.2 _ (lgb_in h)).2
      omega
theorem Vg_b {P : Gm} (B : GB P) : ∀ (r b c : Nat), -9 * (r : Int) ≤ Vg P r b c ∧ Vg P r b c ≤ 9 * (r : Int) := by
  intro r
  induction r with
  | zero => intro b c; show -9 * ((0 : Nat) : Int) ≤ 0 ∧ (0 : Int) ≤ 9 * ((0 : Nat) : Int); omega
  | succ r ih =>
    intro b c
    rw [Vg_s]
    constructor
    · have h1 := bu_ge (lg := lg P b c) (val := vl P r b c) (lg_0 P b c)
      have h2 := bu_mono (lg := lg P b c) (val := vl P r b c) 1 18
      have h3 : vl P r b c 0 = 0 - Vg P r b c := rfl
      have h4 := (ih b c).2
      rw [h3] at h1
      have h1 : 0 - Vg P r b c ≤ (bu (lg P b c) (vl P r b c) 1).1 := h1
      have h2 : (bu (lg P b c) (vl P r b c) 1).1 ≤ (bu (lg P b c) (vl P r b c) 19).1 := h2
      omega
    · refine bu_le (by omega) 19 fun m _ hm => ?_
      have h1 := (gn_b B hm).2
      have h2 := (ih (nb b m) (nc c m)).1
      unfold vl
      omega
theorem vl_b {P : Gm} (B : GB P) {r b c m : Nat} (hr : r ≤ 4) (h : lg P b c m = true) : -50 ≤ vl P r b c m ∧ vl P r b c m ≤ 50 := by
  have h1 := gn_b B h
  have h2 := Vg_b B r (nb b m) (nc c m)
  unfold vl
  omega
theorem bu_b {P : Gm} (B : GB P) {r b c : Nat} (hr : r ≤ 4) (k : Nat) : -100000 ≤ (bu (lg P b c) (vl P r b c) k).1 ∧ (bu (lg P b c) (vl P r b c) k).1 ≤ 50 := ⟨bu_lo k, bu_le (by decide) k fun _ _ hm => (vl_b B hr hm).2⟩
theorem nx_lt {P : Gm} {b c m : Nat} (hb : b < 2 ^ P.1) (hc : c < 2 ^ P.1) (h : lg P b c m = true) : nb b m < 2 ^ P.1 ∧ nc c m < 2 ^ P.1 := by
  unfold nb nc
  by_cases h0 : m = 0
  · rw [if_pos h0, if_pos (by omega)]
    exact ⟨hb, hc⟩
  · rw [if_neg h0]
    by_cases h1 : m < 11
    · rw [if_pos h1, if_pos h1]
      rw [lg_c h0 h1] at h
      exact ⟨hb, Nat.or_lt_two_pow hc (tlt (lgc_in h))⟩
    · rw [if_neg h1, if_neg h1]
      rw [lg_b h1] at h
      exact ⟨Nat.or_lt_two_pow hb (tlt (lgb_in h)), hc⟩
/-- the reference's house, as the game looks at it -/
def RP (g : Nat → Int32) (P : Gm) : Prop := RG g P.1 P.2.1 ∧ g 11 = nI P.2.2.1 ∧ P.2.2.1 ≤ 4 ∧ g 9 = nI P.2.2.2.1 ∧ ∀ i, i < P.1 → P.2.2.2.2.testBit i = decide (P.2.1 i 7 = 1)
theorem cmv_eq {s : Mm} {P : Gm} {i b c m : Nat} (R : RP (s.1 34) P) (hi : i < 6) (e41 : s.1 41 i = nI b) (e42 : s.1 42 i = nI c) (hb : b < 2 ^ P.1) (hc : c < 2 ^ P.1) (hm : m ≤ 18) : fX10_canMove s (nI i) (nI m) = lg P b c m := by
  obtain ⟨D, hw, w4, hH, hG⟩ := R
  have n8 := D.1
  have ei : (nI i).toNatClampNeg = i := nI_clamp (by omega)
  have hset : (((1 <<< ((s.1 34 13) &&& 31)) - 1) &&& ((s.1 41 i) ^^^ (-1))) &&& ((s.1 34 9) ^^^ (-1)) = nI (frX P b) := by
    rw [D.2.1, all_k _ n8, e41, nI_dif, hH, nI_dif]
    rfl
  unfold fX10_canMove
  by_cases h0 : m = 0
  · subst h0
    rw [if_pos (show nI 0 = 0 from rfl)]
    rfl
  · rw [if_neg (nI_ne0 (by omega) (by omega))]
    by_cases h1 : m < 11
    · have c10 : ¬ (10 : Int32) < nI m := nI_nlt (a := 10) (b := m) (by omega) (by decide)
      rw [if_neg c10, show (1 : Int32) = nI 1 from rfl, pk_sub (by omega), lg_c h0 h1]
      unfold fX10_canMove_22
      by_cases ct : m - 1 < P.1
      · rw [if_pos ((thing_iff D.2.1 (by omega)).mpr ⟨m - 1, ct, rfl⟩), if_neg (show ¬ (8 : Int32) < nI m from nI_nlt (a := 8) (b := m) (by omega) (by decide))]
        unfold fX10_canMove_43
        rw [ei, e42, has_tb (p31 n8 hc) (by omega), if_neg c10, hset, hw, la10 D (by omega) (p31 n8 (frX_lt P b)), has_tb (p31 n8 (LA_lt _ _ _ _)) (by omega)]
        unfold lgc
        cases c.testBit (m - 1) <;> cases (LAb P.1 P.2.1 P.2.2.1 (frX P b)).testBit (m - 1) <;> rfl
      · rw [if_neg (fun v => ?_)]
        · symm
          apply Bool.eq_false_iff.mpr
          intro v
          exact ct (lgc_in v)
        · obtain ⟨j, hj, e⟩ := (thing_iff D.2.1 (by omega)).mp v
          have := (nI_eq (by omega) (by omega)).mp e
          omega
    · have c10 : (10 : Int32) < nI m := nI_lt (a := 10) (b := m) (by omega) (by omega)
      rw [if_pos c10, show (11 : Int32) = nI 11 from rfl, pk_sub (by omega), lg_b h1]
      unfold fX10_canMove_22
      by_cases ct : m - 11 < P.1
      · have gd := (parts10 D ct).2.2.2
        have d7 := (D.2.2 _ ct).2.2.1
        rw [if_pos ((thing_iff D.2.1 (by omega)).mpr ⟨m - 11, ct, rfl⟩), if_pos (show (8 : Int32) < nI m from nI_lt (a := 8) (b := m) (by omega) (by omega)), if_pos (show (11 : Int32) ≤ nI m from nI_le (a := 11) (b := m) (by omega) (by omega))]
        unfold fX10_canMove_43 lgb
        rw [ei, e42, e41, has_tb (p31 n8 hc) (by omega), has_tb (p31 n8 hb) (by omega), if_pos c10, gd, decide_eq_true ct, Bool.true_and, hG _ ct]
        cases c.testBit (m - 11)
        · cases b.testBit (m - 11)
          · rcases (show P.2.1 (m - 11) 7 = 0 ∨ P.2.1 (m - 11) 7 = 1 by omega) with e | e <;> rw [e] <;> rfl
          · rfl
        · cases b.testBit (m - 11) <;> rfl
      · rw [if_neg (fun v => ?_)]
        · symm
          apply Bool.eq_false_iff.mpr
          intro v
          exact ct (lgb_in v)
        · obtain ⟨j, hj, e⟩ := (thing_iff D.2.1 (by omega)).mp v
          have := (nI_eq (by omega) (by omega)).mp e
          omega
theorem gov_eq {s : Mm} {P : Gm} {i b c m : Nat} (R : RP (s.1 34) P) (hi : i < 5) (e41 : s.1 41 i = nI b) (e42 : s.1 42 i = nI c) (hm : m ≤ 18) (h : lg P b c m = true) : fX10_go s (nI i) (nI m) = fX10_begin (up s 46 i (iI (gn P m))) (nI (i + 1)) (nI (nb b m)) (nI (nc c m)) := by
  obtain ⟨D, -⟩ := R
  have n8 := D.1
  have ei : (nI i).toNatClampNeg = i := nI_clamp (by omega)
  unfold fX10_go fX10_go_16 fX10_go_42 fX10_go_67 fX10_go_73 fX10_go_108 nb nc gn
  rw [ei, nI_1, e41, e42]
  by_cases h0 : m = 0
  · subst h0
    rw [if_neg (show ¬ (10 : Int32) < nI 0 by decide), if_neg (show ¬ (10 : Int32) < nI 0 by decide), if_neg (show ¬ (0 : Int32) < nI 0 by decide), if_pos (show nI 0 = 0 from rfl), if_pos (show 0 < 11 by decide), if_pos rfl, if_pos rfl]
    rfl
  · rw [if_neg h0, if_neg h0]
    by_cases h1 : m < 11
    · rw [lg_c h0 h1] at h
      have ct := lgc_in h
      have c10 : ¬ (10 : Int32) < nI m := nI_nlt (a := 10) (b := m) (by omega) (by decide)
      rw [if_neg c10, if_neg c10, if_neg c10, if_neg c10, if_pos (show (0 : Int32) < nI m from nI_lt (a := 0) (b := m) (by omega) (by omega)), if_pos (show nI m < 9 from nI_lt (a := m) (b := 9) (by omega) (by decide)), if_neg (nI_ne0 (by omega) (by omega)), show (1 : Int32) = nI 1 from rfl, pk_sub (by omega), show nI 1 = (1 : Int32) from rfl, bit_k (m - 1) (by omega), nI_or, (parts10 D ct).1, if_pos h1, if_pos h1, if_pos h1, iI_n]
    · rw [lg_b h1] at h
      have ct := lgb_in h
      have c10 : (10 : Int32) < nI m := nI_lt (a := 10) (b := m) (by omega) (by omega)
      rw [if_pos c10, if_pos c10, if_pos (show (0 : Int32) < nI m from nI_lt (a := 0) (b := m) (by omega) (by omega)), if_neg (show ¬ nI m < 9 from nI_nlt (a := m) (b := 9) (by omega) (by omega)), if_neg (nI_ne0 (by omega) (by omega)), if_pos c10, show (11 : Int32) = nI 11 from rfl, pk_sub (by omega), bit_k (m - 11) (by omega), nI_or, (parts10 D ct).2.1, if_neg h1, if_neg h1, if_neg h1, ← iI_n, iI_neg]
