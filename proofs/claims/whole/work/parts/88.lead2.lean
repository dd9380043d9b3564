/-! the class goes through the game -/
def KK (s ρ : Mm) : Prop := (∀ q, q ≠ 21 → s.1 q = ρ.1 q) ∧ (∀ j, j ≠ 5 → s.1 21 j = ρ.1 21 j) ∧ s.2 = ρ.2
theorem KK.up5 {s ρ : Mm} {v : Int32} (h : KK s ρ) : KK (up s 21 5 v) ρ := ⟨fun q hq => by rw [up_ne hq]; exact h.1 q hq, fun j hj => by rw [up_n hj]; exact h.2.1 j hj, h.2.2⟩
/-- what the class has learnt for the game -/
def GP (ρ : Mm) (P : Gm) : Prop := GL ρ 22 P.1 P.2.1 P.2.2.1 8 ∧ ρ.1 21 1 = nI (2 ^ P.1 - 1) ∧ ρ.1 21 2 = nI P.2.2.2.1 ∧ ρ.1 21 3 = nI P.2.2.2.2 ∧ P.2.2.2.2 < 2 ^ P.1
theorem bs_more {n : Nat} {p : Nat → Bool} (h : ∀ k, n ≤ k → p k = false) : ∀ j, bs (n + j) p = bs n p := by
  intro j
  induction j with
  | zero => rfl
  | succ j ih =>
    show bs ((n + j) + 1) p = _
    rw [bs_f (h (n + j) (by omega)), ih]
theorem la_am {s : Mm} {n w X : Nat} {d : Nat → Nat → Nat} (n8 : n ≤ 8) (G : GL s 22 n d w 8) (hX : X < 2 ^ n) : fX1_lastAmong s 22 (nI X) = nI (LAb n d w X) := by
  have go : ∀ m k, 8 < k + m → k ≤ 8 → fX1_lastAmong_4 s 22 (nI X) m (nI (bs k fun i => X.testBit i && (ALb n d w i X == 0))) k = nI (bs 8 fun i => X.testBit i && (ALb n d w i X == 0)) := by
    intro m
    induction m with
    | zero => intro k h1 h2; omega
    | succ m ih =>
      intro k h1 h2
      generalize hp : (fun i => X.testBit i && (ALb n d w i X == 0)) = p at ih ⊢
      have pk : p k = (X.testBit k && (ALb n d w k X == 0)) := by rw [← hp]
      rw [fX1_lastAmong_4]
      by_cases c : k < 8
      · have g := ih (k + 1) (by omega) (by omega)
        rw [if_pos (show nI k < 8 from nI_lt c (by decide))]
        by_cases q : X.testBit k = true
        · have hk : k < n := by
            by_cases z : k < n
            · exact z
            · rw [tb_big hX (by omega)] at q
              exact absurd q (by decide)
          have hz := n0 (p31 n8 (AL_lt n d w k X))
          rw [if_neg (fun z => by rw [(bit0 (p31 n8 hX) c).mp z] at q; exact absurd q (by decide)), (G k c).1, nI_and, nr_and hk hX, bit_k k c, nI_or]
          by_cases q2 : ALb n d w k X = 0
          · rw [if_pos (hz.mpr q2), ← bs_t (n := k) (p := p) (by rw [pk, q, q2]; rfl), g]
          · rw [if_neg (fun z => q2 (hz.mp z)), ← bs_f (n := k) (p := p) (by rw [pk, q, beq_eq_false_iff_ne.mpr q2]; rfl), g]
        · have qf := Bool.eq_false_iff.mpr q
          rw [if_pos ((bit0 (p31 n8 hX) c).mpr qf), ← bs_f (n := k) (p := p) (by rw [pk, qf]; rfl), g]
      · rw [if_neg (show ¬ nI k < 8 from nI_nlt (a := k) (b := 8) (by omega) (by omega)), show k = 8 by omega]
  have g := go 9 0 (by decide) (by decide)
  have e : bs 8 (fun i => X.testBit i && (ALb n d w i X == 0)) = LAb n d w X := by
    obtain ⟨j, hj⟩ : ∃ j, 8 = n + j := ⟨8 - n, by omega⟩
    rw [hj]
    exact bs_more (fun k hk => by show (X.testBit k && (ALb n d w k X == 0)) = false; rw [tb_big hX hk]; rfl) j
  rw [e] at g
  exact g
def CLm (P : Gm) (b c : Nat) : Nat := dif (LAb P.1 P.2.1 P.2.2.1 (frX P b)) c
def BRm (P : Gm) (b c : Nat) : Nat := dif (dif (dif (2 ^ P.1 - 1) b) c) P.2.2.2.2
theorem CL_tb {P : Gm} {b c t : Nat} (n8 : P.1 ≤ 8) : (CLm P b c).testBit t = lgc P b c t := by
  unfold CLm lgc
  rw [dif_tb (Nat.lt_trans (p31 n8 (LA_lt _ _ _ _)) (by decide))]
theorem BR_tb {P : Gm} {b c t : Nat} (n8 : P.1 ≤ 8) : (BRm P b c).testBit t = lgb P b c t := by
  have h32 : ∀ x, x < 2 ^ P.1 → x < 2 ^ 32 := fun x hx => Nat.lt_trans (p31 n8 hx) (by decide)
  unfold BRm lgb
  rw [dif_tb (h32 _ (dif_lt (dif_lt (all_lt _) _) _)), dif_tb (h32 _ (dif_lt (all_lt _) _)), dif_tb (h32 _ (all_lt _)), all_tb, Bool.and_assoc, Bool.and_assoc]
theorem CL_lt (P : Gm) (b c : Nat) : CLm P b c < 2 ^ P.1 := dif_lt (LA_lt _ _ _ _) _
theorem BR_lt (P : Gm) (b c : Nat) : BRm P b c < 2 ^ P.1 := dif_lt (dif_lt (dif_lt (all_lt _) _) _) _
theorem GP.fr {s ρ : Mm} {P : Gm} (G : GP ρ P) (K : KK s ρ) : GP s P := by
  obtain ⟨g1, g2, g3, g4, g5⟩ := G
  refine ⟨fun t ht => ?_, by rw [K.2.1 1 (by decide)]; exact g2, by rw [K.2.1 2 (by decide)]; exact g3, by rw [K.2.1 3 (by decide)]; exact g4, g5⟩
  rw [K.1 23 (by decide), K.1 24 (by decide), K.1 25 (by decide)]
  exact g1 t ht
theorem cl_eq {s : Mm} {P : Gm} {b c : Nat} (n8 : P.1 ≤ 8) (G : GP s P) : (fX1_lastAmong s 22 (((s.1 21 1) &&& (nI b ^^^ (-1))) &&& ((s.1 21 2) ^^^ (-1)))) &&& (nI c ^^^ (-1)) = nI (CLm P b c) := by
  obtain ⟨g1, g2, g3, g4, g5⟩ := G
  rw [g2, nI_dif, g3, nI_dif]
  have e := la_am n8 g1 (frX_lt P b)
  unfold frX at e
  rw [e, nI_dif]
  rfl
theorem br_eq {s : Mm} {P : Gm} {b c : Nat} (G : GP s P) : (((s.1 21 1) &&& (nI b ^^^ (-1))) &&& (nI c ^^^ (-1))) &&& ((s.1 21 3) ^^^ (-1)) = nI (BRm P b c) := by
  obtain ⟨g1, g2, g3, g4, g5⟩ := G
  rw [g2, nI_dif, nI_dif, g4, nI_dif]
  rfl
theorem pow_and (x t : Nat) : 2 ^ t &&& x = if x.testBit t = true then 2 ^ t else 0 := by
  apply Nat.eq_of_testBit_eq
  intro j
  rw [Nat.testBit_and]
  by_cases e : j = t
  · subst e
    rw [Nat.testBit_two_pow_self, Bool.true_and]
    cases h : x.testBit j
    · rw [if_neg (by decide), Nat.zero_testBit]
    · rw [if_pos rfl, Nat.testBit_two_pow_self]
  · rw [Nat.testBit_two_pow_of_ne (Ne.symm e), Bool.false_and]
    split
    · exact (Nat.testBit_two_pow_of_ne (Ne.symm e)).symm
    · exact (Nat.zero_testBit j).symm
theorem pw1 : ∀ k, k < 11 → ((1 : Int32) <<< ((nI k) &&& 31)) >>> (1 &&& 31) = nI (2 ^ k / 2) := by decide +kernel
theorem gain_eq {s : Mm} {P : Gm} {b c m : Nat} (n8 : P.1 ≤ 8) (G : GP s P) (hm : m ≤ 18) (h : lg P b c m = true) : fX3_gainOf s (nI m) = iI (gn P m) := by
  unfold fX3_gainOf gn
  by_cases h0 : m = 0
  · subst h0
    rw [if_neg (show ¬ (11 : Int32) ≤ nI 0 by decide), if_neg (show ¬ (1 : Int32) ≤ nI 0 by decide), if_pos rfl]
    rfl
  · rw [if_neg h0]
    by_cases h1 : m < 11
    · rw [lg_c h0 h1] at h
      have ct := lgc_in h
      have e : wo P.1 P.2.1 (m - 1) = P.2.1 (m - 1) 5 := if_pos ct
      unfold fX1_worth
      rw [if_neg (show ¬ (11 : Int32) ≤ nI m from nI_ge (a := m) (b := 11) (by omega) (by decide)), if_pos (show (1 : Int32) ≤ nI m from nI_le (a := 1) (b := m) (by omega) (by omega)), show (1 : Int32) = nI 1 from rfl, pk_sub (by omega), at_tag (by omega), show s.1 (22 + 2) (m - 1) = nI (wo P.1 P.2.1 (m - 1)) from (G.1 (m - 1) (by omega)).2.1, e, if_pos h1, iI_n]
    · rw [lg_b h1] at h
      have ct := lgb_in h
      have e : co P.1 P.2.1 (m - 11) = P.2.1 (m - 11) 6 := if_pos ct
      unfold fX1_cost
      rw [if_pos (show (11 : Int32) ≤ nI m from nI_le (a := 11) (b := m) (by omega) (by omega)), show (11 : Int32) = nI 11 from rfl, pk_sub (by omega), at_tag (by omega), show s.1 (22 + 3) (m - 11) = nI (co P.1 P.2.1 (m - 11)) from (G.1 (m - 11) (by omega)).2.2, e, if_neg h1, ← iI_n, iI_neg]
/-- the last turn -/
theorem ll_go {ρ : Mm} {P : Gm} {b c : Nat} (B : GB P) (G : GP ρ P) : ∀ m k (s : Mm), 8 < k + m → k ≤ 8 → KK s ρ → s.1 21 5 = nI (bu (lg P b c) (vl P 0 b c) (k + 1)).2 → ∃ s', fX3_leadByLastTurn_9 (nI (CLm P b c)) m s (iI (bu (lg P b c) (vl P 0 b c) (k + 1)).1) k = (iI (bu (lg P b c) (vl P 0 b c) 9).1, s') ∧ KK s' ρ ∧ s'.1 21 5 = nI (bu (lg P b c) (vl P 0 b c) 9).2 := by
  have n8 := B.1
  intro m
  induction m with
  | zero => intro k s h1 h2; omega
  | succ m ih =>
    intro k s h1 h2 K e5
    rw [fX3_leadByLastTurn_9]
    by_cases ck : k < 8
    · have hbb := bu_b (b := b) (c := c) B (show 0 ≤ 4 by decide) (k + 1)
      have el : lg P b c (k + 1) = lgc P b c k := lg_c (by omega) (by omega)
      rw [if_pos (show nI k < 8 from nI_lt ck (by decide))]
      by_cases q : lgc P b c k = true
      · have hk := lgc_in q
        have e : wo P.1 P.2.1 k = P.2.1 k 5 := if_pos hk
        have hw9 := (B.2 k hk).1
        have Gs := G.fr K
        have ew : fX1_worth s 22 (nI k) = iI (vl P 0 b c (k + 1)) := by
          unfold fX1_worth
          rw [at_tag ck, show s.1 (22 + 2) k = nI (wo P.1 P.2.1 k) from (Gs.1 k ck).2.1, e, ← iI_n]
          congr 1
          show _ = gn P (k + 1) - 0
          unfold gn
          rw [if_neg (by omega), if_pos (by omega), show k + 1 - 1 = k by omega]
          omega
        have hv := vl_b (r := 0) B (by decide) (el.trans q)
        rw [if_neg (fun z => by
          have z1 := (bit0 (p31 n8 (CL_lt P b c)) ck).mp z
          rw [CL_tb n8, q] at z1
          exact absurd z1 (by decide)), ew]
        by_cases z : (bu (lg P b c) (vl P 0 b c) (k + 1)).1 < vl P 0 b c (k + 1)
        · have eb := bu_y (el.trans q) z
          rw [if_pos ((iI_lt (by omega) (by omega) (by omega) (by omega)).mpr z), show (1 : Int32) + nI k = nI (k + 1) by rw [show (1 : Int32) = nI 1 from rfl, nI_add, Nat.add_comm]]
          have g := ih (k + 1) (up s 21 5 (nI (k + 1))) (by omega) (by omega) K.up5 (by rw [up_e, eb])
          rw [eb] at g
          exact g
        · have eb := bu_n (lg := lg P b c) (val := vl P 0 b c) (k := k + 1) (fun y => z y.2)
          rw [if_neg (fun y => z ((iI_lt (by omega) (by omega) (by omega) (by omega)).mp y))]
          have g := ih (k + 1) s (by omega) (by omega) K (by rw [eb]; exact e5)
          rw [eb] at g
          exact g
      · have eb := bu_n (lg := lg P b c) (val := vl P 0 b c) (k := k + 1) (fun y => q (el.symm.trans y.1))
        rw [if_pos ((bit0 (p31 n8 (CL_lt P b c)) ck).mpr (by rw [CL_tb n8]; exact Bool.eq_false_iff.mpr q))]
        have g := ih (k + 1) s (by omega) (by omega) K (by rw [eb]; exact e5)
        rw [eb] at g
        exact g
    · have e8 : k = 8 := by omega
      subst e8
      rw [if_neg (show ¬ nI 8 < 8 by decide)]
      exact ⟨s, rfl, K, e5⟩
theorem bu_9 {P : Gm} {b c : Nat} (B : GB P) : bu (lg P b c) (vl P 0 b c) 19 = bu (lg P b c) (vl P 0 b c) 9 := by
  have n8 := B.1
  have h1 : bu (lg P b c) (vl P 0 b c) 1 = (0, 0) := bu_y (lg_0 P b c) (show (-100000 : Int) < 0 - 0 from by decide)
  have no : ∀ k, 9 ≤ k → k < 19 → bu (lg P b c) (vl P 0 b c) (k + 1) = bu (lg P b c) (vl P 0 b c) k := by
    intro k hk hk2
    refine bu_n fun y => ?_
    obtain ⟨y1, y2⟩ := y
    have hm := bu_mono (lg := lg P b c) (val := vl P 0 b c) 1 (k - 1)
    rw [show 1 + (k - 1) = k by omega, h1] at hm
    have hm : (0 : Int) ≤ (bu (lg P b c) (vl P 0 b c) k).1 := hm
    by_cases c11 : k < 11
    · rw [lg_c (by omega) c11] at y1
      have := lgc_in y1
      omega
    · have e : vl P 0 b c k = -(P.2.1 (k - 11) 6 : Int) - 0 := by
        show gn P k - 0 = _
        unfold gn
        rw [if_neg (by omega), if_neg c11]
      omega
  rw [no 18 (by decide) (by decide), no 17 (by decide) (by decide), no 16 (by decide) (by decide), no 15 (by decide) (by decide), no 14 (by decide) (by decide), no 13 (by decide) (by decide), no 12 (by decide) (by decide), no 11 (by decide) (by decide), no 10 (by decide) (by decide), no 9 (by decide) (by decide)]
def MV (P : Gm) (r b c : Nat) : Nat := match r with
  | 0 => 0
  | r + 1 => (bu (lg P b c) (vl P r b c) 19).2
/-- what a look ahead tells -/
def TELL (P : Gm) (ρ : Mm) (r b c : Nat) (low high : Int) (x : Int32 × Mm) : Prop := ∃ (v : Int) (mv : Nat), x.1 = iI v ∧ KK x.2 ρ ∧ x.2.1 21 5 = nI mv ∧ -1000 ≤ v ∧ v ≤ 1009 ∧ (v ≤ low → Vg P r b c ≤ v) ∧ (high ≤ v → v ≤ Vg P r b c) ∧ (low < v → v < high → v = Vg P r b c ∧ mv = MV P r b c)
def LEADS (P : Gm) (ρ : Mm) (r : Nat) : Prop := ∀ (f b c : Nat) (low high : Int) (s : Mm), r < f → b < 2 ^ P.1 → c < 2 ^ P.1 → KK s ρ → -1018 ≤ low → low < high → high ≤ 1009 → low + 20 * (r : Int) ≤ 140 → 20 * (r : Int) - 140 ≤ high → TELL P ρ r b c low high (fX3_leadF f s (nI r) (nI b) (nI c) (iI low) (iI high))
theorem leads_0 {P : Gm} {ρ : Mm} : LEADS P ρ 0 := by
  intro f b c low high s hf hb hc K l1 l2 l3 l4 l5
  obtain ⟨f, rfl⟩ : ∃ z, f = z + 1 := ⟨f - 1, by omega⟩
  show TELL P ρ 0 b c low high (fX3_lead (fX3_leadF f) s (nI 0) (nI b) (nI c) (iI low) (iI high))
  unfold fX3_lead
  rw [if_pos (show nI 0 ≤ 0 by decide)]
  exact ⟨0, 0, rfl, K.up5, up_e, by decide, by decide, fun h => by show (0 : Int) ≤ 0; decide, fun h => by show (0 : Int) ≤ 0; decide, fun _ _ => ⟨rfl, rfl⟩⟩
theorem leads_1 {P : Gm} {ρ : Mm} (B : GB P) (G : GP ρ P) : LEADS P ρ 1 := by
  intro f b c low high s hf hb hc K l1 l2 l3 l4 l5
  obtain ⟨f, rfl⟩ : ∃ z, f = z + 1 := ⟨f - 1, by omega⟩
  show TELL P ρ 1 b c low high (fX3_lead (fX3_leadF f) s (nI 1) (nI b) (nI c) (iI low) (iI high))
  unfold fX3_lead
  rw [if_neg (show ¬ nI 1 ≤ 0 by decide), if_pos (show nI 1 = 1 from rfl), cl_eq B.1 (G.fr K)]
  have h1 : bu (lg P b c) (vl P 0 b c) 1 = (0, 0) := bu_y (lg_0 P b c) (show (-100000 : Int) < 0 - 0 from by decide)
  obtain ⟨s', s1, s2, s3⟩ := ll_go (b := b) (c := c) B G 9 0 (up s 21 5 0) (by decide) (by decide) K.up5 (by rw [up_e, h1]; rfl)
  rw [h1] at s1
  have s1 : fX3_leadByLastTurn s (nI (CLm P b c)) = (iI (bu (lg P b c) (vl P 0 b c) 9).1, s') := s1
  have e9 := bu_9 (b := b) (c := c) B
  have eV : Vg P 1 b c = (bu (lg P b c) (vl P 0 b c) 9).1 := by rw [Vg_s, e9]
  have eM : MV P 1 b c = (bu (lg P b c) (vl P 0 b c) 9).2 := by
    show (bu (lg P b c) (vl P 0 b c) 19).2 = _
    rw [e9]
  have hV := Vg_b B 1 b c
  rw [s1]
  refine ⟨Vg P 1 b c, MV P 1 b c, by rw [eV], s2, by rw [eM]; exact s3, by omega, by omega, fun _ => Int.le_refl _, fun _ => Int.le_refl _, fun _ _ => ⟨rfl, rfl⟩⟩
