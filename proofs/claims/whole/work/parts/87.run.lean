/-! the reference goes through the game -/
def LV (s : Mm) (i b c k : Nat) (best : Int) (mv : Nat) : Prop := s.1 41 i = nI b ∧ s.1 42 i = nI c ∧ s.1 43 i = nI k ∧ s.1 44 i = iI best ∧ s.1 45 i = nI mv
def FR (i : Nat) (s s' : Mm) : Prop := (∀ q, (q < 41 ∨ 46 < q) → s'.1 q = s.1 q) ∧ (∀ q j, j < i → s'.1 q j = s.1 q j) ∧ s'.2 = s.2
theorem FR.rf (i : Nat) (s : Mm) : FR i s s := ⟨fun _ _ => rfl, fun _ _ _ => rfl, rfl⟩
theorem FR.tr {i i' : Nat} {s s' s'' : Mm} (h1 : FR i s s') (h2 : FR i' s' s'') (h : i ≤ i') : FR i s s'' := ⟨fun q hq => (h2.1 q hq).trans (h1.1 q hq), fun q j hj => (h2.2.1 q j (by omega)).trans (h1.2.1 q j hj), h2.2.2.trans h1.2.2⟩
theorem LV.fr {s s' : Mm} {i i' b c k mv : Nat} {best : Int} (L : LV s i b c k best mv) (h : FR i' s s') (hi : i < i') : LV s' i b c k best mv := by
  obtain ⟨l1, l2, l3, l4, l5⟩ := L
  exact ⟨(h.2.1 41 i hi).trans l1, (h.2.1 42 i hi).trans l2, (h.2.1 43 i hi).trans l3, (h.2.1 44 i hi).trans l4, (h.2.1 45 i hi).trans l5⟩
theorem RP.fr {s s' : Mm} {i : Nat} {P : Gm} (R : RP (s.1 34) P) (h : FR i s s') : RP (s'.1 34) P := by rw [h.1 34 (Or.inl (by decide))]; exact R
theorem beg_all {s : Mm} {j x y : Nat} (hj : j < 6) : ∀ s', fX10_begin s (nI j) (nI x) (nI y) = s' → LV s' j x y 0 (-100000) 0 ∧ (∀ q, (q < 41 ∨ 45 < q) → s'.1 q = s.1 q) ∧ (∀ q i, i ≠ j → s'.1 q i = s.1 q i) ∧ s'.2 = s.2 := by
  intro s' h
  have ej : (nI j).toNatClampNeg = j := nI_clamp (by omega)
  unfold fX10_begin fX10_begin_14 fX10_begin_29 at h
  rw [ej] at h
  subst h
  refine ⟨⟨?_, ?_, ?_, ?_, ?_⟩, fun q hq => ?_, fun q i hi => ?_, rfl⟩
  · rw [up_ne (by decide), up_ne (by decide), up_ne (by decide), up_ne (by decide), up_e]
  · rw [up_ne (by decide), up_ne (by decide), up_ne (by decide), up_e]
  · rw [up_ne (by decide), up_ne (by decide), up_e]
    rfl
  · rw [up_ne (by decide), up_e]
    rfl
  · rw [up_e]
    rfl
  · rw [up_ne (by omega), up_ne (by omega), up_ne (by omega), up_ne (by omega), up_ne (by omega)]
  · rw [up_n hi, up_n hi, up_n hi, up_n hi, up_n hi]
def upd2 (best0 : Int) (mv0 : Nat) (v : Int) (k : Nat) : Int × Nat := if best0 < v then (v, k) else (best0, mv0)
theorem pop_st {a1 a2 : Int32} {kb : Mm → Int32 → Bool → Int32 × Mm} {s : Mm} {i b0 c0 k0 mv0 : Nat} {best0 h u : Int} (hi : i < 5) (L : LV s i b0 c0 k0 best0 mv0) (hk : 1 ≤ k0) (e46 : s.1 46 i = iI h) (g1 : -100000 ≤ best0) (g2 : best0 ≤ 50) (g3 : -9 ≤ h) (g4 : h ≤ 9) (g5 : -50 ≤ u) (g6 : u ≤ 50) : ∃ s', fX10_byTurns_114 a1 a2 kb s (nI (i + 1)) (iI u) = kb s' (nI i) false ∧ LV s' i b0 c0 k0 (upd2 best0 mv0 (h - u) (k0 - 1)).1 (upd2 best0 mv0 (h - u) (k0 - 1)).2 ∧ FR i s s' := by
  obtain ⟨l1, l2, l3, l4, l5⟩ := L
  have ei : (nI i).toNatClampNeg = i := nI_clamp (by omega)
  have last : ∀ (mv : Nat) (best : Int), ∃ s', (up (up s 45 i (nI mv)) 44 i (iI best)) = s' ∧ LV s' i b0 c0 k0 best mv ∧ FR i s s' := fun mv best => by
    refine ⟨_, rfl, ⟨?_, ?_, ?_, up_e, ?_⟩, fun q hq => ?_, fun q j hj => ?_, rfl⟩
    · rw [up_ne (by decide), up_ne (by decide)]; exact l1
    · rw [up_ne (by decide), up_ne (by decide)]; exact l2
    · rw [up_ne (by decide), up_ne (by decide)]; exact l3
    · rw [up_ne (by decide), up_e]
    · rw [up_ne (by omega), up_ne (by omega)]
    · rw [up_n (by omega), up_n (by omega)]
  unfold fX10_byTurns_114 fX10_byTurns_167 fX10_byTurns_195 fX10_byTurns_196
  rw [pk_m1, if_pos (nI_pos' (by omega)), ei, l4, e46, iI_sub, if_neg (nI_pos (by omega)), if_neg (nI_pos (by omega)), if_neg (nI_pos (by omega)), if_neg (nI_pos (by omega)), up_ne (by decide), up_ne (by decide), l4]
  unfold upd2
  by_cases c : best0 < h - u
  · obtain ⟨s', s1, s2, s3⟩ := last (k0 - 1) (h - u)
    have ci : iI best0 < iI (h - u) := (iI_lt (by omega) (by omega) (by omega) (by omega)).mpr c
    rw [if_pos ci, if_pos ci, if_pos c, l3, show (1 : Int32) = nI 1 from rfl, pk_sub hk, s1]
    exact ⟨s', rfl, s2, s3⟩
  · obtain ⟨s', s1, s2, s3⟩ := last mv0 best0
    have ci : ¬ iI best0 < iI (h - u) := fun z => c ((iI_lt (by omega) (by omega) (by omega) (by omega)).mp z)
    rw [if_neg ci, if_neg ci, if_neg c, l5, s1]
    exact ⟨s', rfl, s2, s3⟩
def POPS (P : Gm) (N : Nat) (a2 : Int32) (r : Nat) : Prop := ∀ (i m b c b0 c0 k0 mv0 : Nat) (best0 h : Int) (s : Mm), (i + 1) + r = N → b < 2 ^ P.1 → c < 2 ^ P.1 → RP (s.1 34) P → LV s (i + 1) b c 0 (-100000) 0 → LV s i b0 c0 k0 best0 mv0 → 1 ≤ k0 → -100000 ≤ best0 → best0 ≤ 50 → -9 ≤ h → h ≤ 9 → s.1 46 i = iI h → TT r ≤ m → ∃ m' s', fX10_byTurns_78 (nI N) a2 m s (nI (i + 1)) false = fX10_byTurns_78 (nI N) a2 m' s' (nI i) false ∧ m ≤ m' + TT r ∧ LV s' i b0 c0 k0 (upd2 best0 mv0 (h - Vg P r b c) (k0 - 1)).1 (upd2 best0 mv0 (h - Vg P r b c) (k0 - 1)).2 ∧ FR i s s'
def RUNS (P : Gm) (N : Nat) (a2 : Int32) (r : Nat) : Prop := ∀ (j i m b c k : Nat) (s : Mm), i + (r + 1) = N → k + j = 19 → b < 2 ^ P.1 → c < 2 ^ P.1 → RP (s.1 34) P → LV s i b c k (bu (lg P b c) (vl P r b c) k).1 (bu (lg P b c) (vl P r b c) k).2 → j * (1 + TT r) ≤ m → ∃ m' s', fX10_byTurns_78 (nI N) a2 m s (nI i) false = fX10_byTurns_78 (nI N) a2 m' s' (nI i) false ∧ m ≤ m' + j * (1 + TT r) ∧ LV s' i b c 19 (bu (lg P b c) (vl P r b c) 19).1 (bu (lg P b c) (vl P r b c) 19).2 ∧ FR i s s'
theorem pops_0 {P : Gm} {N : Nat} {a2 : Int32} (hN : N ≤ 4) : POPS P N a2 0 := by
  intro i m b c b0 c0 k0 mv0 best0 h s e hb hc R L L0 hk g1 g2 g3 g4 e46 hm
  obtain ⟨m, rfl⟩ : ∃ z, m = z + 1 := ⟨m - 1, by have : TT 0 = 1 := rfl; omega⟩
  obtain ⟨s', p1, p2, p3⟩ := pop_st (a1 := nI N) (a2 := a2) (kb := fX10_byTurns_78 (nI N) a2 m) (u := 0) (by omega) L0 hk e46 g1 g2 g3 g4 (by decide) (by decide)
  refine ⟨m, s', ?_, Nat.le_refl _, p2, p3⟩
  rw [← p1, fX10_byTurns_78, if_neg (show ¬ false = true by decide), if_pos (show nI (i + 1) = nI N by rw [show i + 1 = N by omega])]
  unfold fX10_byTurns_99
  rw [if_pos (show nI (i + 1) = nI N by rw [show i + 1 = N by omega])]
  rfl
theorem runs_of {P : Gm} {N r : Nat} {a2 : Int32} (B : GB P) (hN : N ≤ 4) (hp : POPS P N a2 r) : RUNS P N a2 r := by
  intro j
  induction j with
  | zero =>
    intro i m b c k s e ek hb hc R L hm
    have e19 : k = 19 := by omega
    subst e19
    exact ⟨m, s, rfl, by omega, L, FR.rf i s⟩
  | succ j ih =>
    intro i m b c k s e ek hb hc R L hm
    have em : (j + 1) * (1 + TT r) = j * (1 + TT r) + (1 + TT r) := by rw [Nat.add_mul, Nat.one_mul]
    obtain ⟨m, rfl⟩ : ∃ z, m = z + 1 := ⟨m - 1, by omega⟩
    obtain ⟨l1, l2, l3, l4, l5⟩ := id L
    have ei : (nI i).toNatClampNeg = i := nI_clamp (by omega)
    have hk18 : k ≤ 18 := by omega
    generalize hs1 : up s 43 i (nI (k + 1)) = s1
    have F1 : FR i s s1 := by
      rw [← hs1]
      exact ⟨fun q hq => up_ne (by omega), fun q z hz => up_n (by omega), rfl⟩
    have q43 : s1.1 43 i = nI (k + 1) := by rw [← hs1, up_e]
    have qk : ∀ q, q ≠ 43 → s1.1 q = s.1 q := fun q hq => by rw [← hs1, up_ne hq]
    have R1 := R.fr F1
    have step : fX10_byTurns_78 (nI N) a2 (m + 1) s (nI i) false = (if lg P b c k = true then fX10_byTurns_78 (nI N) a2 m (fX10_go s1 (nI i) (nI k)) (nI (i + 1)) false else fX10_byTurns_78 (nI N) a2 m s1 (nI i) false) := by
      rw [fX10_byTurns_78, if_neg (show ¬ false = true by decide), if_neg (fun z => by have := (nI_eq (by omega) (by omega)).mp z; omega), ei, l3, if_neg (show ¬ (18 : Int32) < nI k from nI_nlt (a := 18) (b := k) (by omega) (by decide)), nI_1, nI_1, hs1, cmv_eq R1 (by omega) (by rw [qk 41 (by decide)]; exact l1) (by rw [qk 42 (by decide)]; exact l2) hb hc hk18]
    by_cases cl : lg P b c k = true
    · have hgn := gn_b B cl
      have hnx := nx_lt hb hc cl
      have hbb := bu_b (b := b) (c := c) B (show r ≤ 4 by omega) k
      rw [step, if_pos cl, gov_eq R1 (by omega) (by rw [qk 41 (by decide)]; exact l1) (by rw [qk 42 (by decide)]; exact l2) hk18 cl]
      obtain ⟨b1, b2, b3, b4⟩ := beg_all (s := up s1 46 i (iI (gn P k))) (j := i + 1) (x := nb b k) (y := nc c k) (by omega) _ rfl
      generalize fX10_begin (up s1 46 i (iI (gn P k))) (nI (i + 1)) (nI (nb b k)) (nI (nc c k)) = s2 at b1 b2 b3 b4 ⊢
      have F2 : FR i s s2 := by
        refine ⟨fun q hq => ?_, fun q z hz => ?_, ?_⟩
        · rw [b2 q (by omega), up_ne (by omega)]
          exact F1.1 q hq
        · rw [b3 q z (by omega), up_n (by omega)]
          exact F1.2.1 q z hz
        · rw [b4]
          exact F1.2.2
      have at_i : ∀ q, q ≠ 46 → s2.1 q i = s1.1 q i := fun q hq => by rw [b3 q i (by omega), up_ne hq]
      have L2 : LV s2 i b c (k + 1) (bu (lg P b c) (vl P r b c) k).1 (bu (lg P b c) (vl P r b c) k).2 := by
        refine ⟨?_, ?_, ?_, ?_, ?_⟩
        · rw [at_i 41 (by decide), qk 41 (by decide)]; exact l1
        · rw [at_i 42 (by decide), qk 42 (by decide)]; exact l2
        · rw [at_i 43 (by decide)]; exact q43
        · rw [at_i 44 (by decide), qk 44 (by decide)]; exact l4
        · rw [at_i 45 (by decide), qk 45 (by decide)]; exact l5
      have e46 : s2.1 46 i = iI (gn P k) := by rw [b3 46 i (by omega), up_e]
      obtain ⟨m1, s3, p1, p2, p3, p4⟩ := hp i m (nb b k) (nc c k) b c (k + 1) _ _ (gn P k) s2 (by omega) hnx.1 hnx.2 (R.fr F2) b1 L2 (by omega) hbb.1 hbb.2 hgn.1 hgn.2 e46 (by omega)
      have eb : upd2 (bu (lg P b c) (vl P r b c) k).1 (bu (lg P b c) (vl P r b c) k).2 (gn P k - Vg P r (nb b k) (nc c k)) (k + 1 - 1) = bu (lg P b c) (vl P r b c) (k + 1) := by
        show (if (bu (lg P b c) (vl P r b c) k).1 < vl P r b c k then (vl P r b c k, k) else ((bu (lg P b c) (vl P r b c) k).1, (bu (lg P b c) (vl P r b c) k).2)) = _
        by_cases z : (bu (lg P b c) (vl P r b c) k).1 < vl P r b c k
        · rw [if_pos z, bu_y cl z]
        · rw [if_neg z, bu_n (fun y => z y.2)]
      rw [eb] at p3
      obtain ⟨m2, s4, t1, t2, t3, t4⟩ := ih i m1 b c (k + 1) s3 e (by omega) hb hc (R.fr (F2.tr p4 (Nat.le_refl _))) p3 (by omega)
      exact ⟨m2, s4, p1.trans t1, by omega, t3, (F2.tr p4 (Nat.le_refl _)).tr t4 (Nat.le_refl _)⟩
    · rw [step, if_neg cl]
      have eb : bu (lg P b c) (vl P r b c) (k + 1) = bu (lg P b c) (vl P r b c) k := bu_n (fun y => cl y.1)
      have L1 : LV s1 i b c (k + 1) (bu (lg P b c) (vl P r b c) (k + 1)).1 (bu (lg P b c) (vl P r b c) (k + 1)).2 := by
        rw [eb]
        refine ⟨?_, ?_, q43, ?_, ?_⟩
        · rw [qk 41 (by decide)]; exact l1
        · rw [qk 42 (by decide)]; exact l2
        · rw [qk 44 (by decide)]; exact l4
        · rw [qk 45 (by decide)]; exact l5
      obtain ⟨m2, s4, t1, t2, t3, t4⟩ := ih i m b c (k + 1) s1 e (by omega) hb hc R1 L1 (by omega)
      exact ⟨m2, s4, t1, by omega, t3, F1.tr t4 (Nat.le_refl _)⟩
theorem pops_s {P : Gm} {N r : Nat} {a2 : Int32} (B : GB P) (hN : N ≤ 4) (hr : RUNS P N a2 r) : POPS P N a2 (r + 1) := by
  intro i m b c b0 c0 k0 mv0 best0 h s e hb hc R L L0 hk g1 g2 g3 g4 e46 hm
  have eT : TT (r + 1) = 19 * (1 + TT r) + 1 := rfl
  obtain ⟨m1, s1, p1, p2, p3, p4⟩ := hr 19 (i + 1) m b c 0 s (by omega) (by omega) hb hc R L (by omega)
  obtain ⟨m1, rfl⟩ : ∃ z, m1 = z + 1 := ⟨m1 - 1, by omega⟩
  obtain ⟨l1, l2, l3, l4, l5⟩ := id p3
  have hV := Vg_b B (r + 1) b c
  obtain ⟨s', z1, z2, z3⟩ := pop_st (a1 := nI N) (a2 := a2) (kb := fX10_byTurns_78 (nI N) a2 m1) (s := s1) (i := i) (u := Vg P (r + 1) b c) (by omega) (L0.fr p4 (by omega)) hk (by rw [p4.2.1 46 i (by omega)]; exact e46) g1 g2 g3 g4 (by omega) (by omega)
  have ne : ¬ nI (i + 1) = nI N := fun z => by
    have := (nI_eq (by omega) (by omega)).mp z
    omega
  have ei : (nI (i + 1)).toNatClampNeg = i + 1 := nI_clamp (by omega)
  refine ⟨m1, s', ?_, by omega, z2, ⟨fun q hq => (z3.1 q hq).trans (p4.1 q hq), fun q j hj => (z3.2.1 q j hj).trans (p4.2.1 q j (by omega)), z3.2.2.trans p4.2.2⟩⟩
  rw [p1, ← z1, fX10_byTurns_78, if_neg (show ¬ false = true by decide), if_neg ne, ei, l3, if_pos (show (18 : Int32) < nI 19 by decide)]
  unfold fX10_byTurns_99
  rw [if_neg ne, ei, l4]
  rfl
theorem pops_all {P : Gm} {N : Nat} {a2 : Int32} (B : GB P) (hN : N ≤ 4) : ∀ r, POPS P N a2 r := by
  intro r
  induction r with
  | zero => exact pops_0 hN
  | succ r ih => exact pops_s B hN (runs_of B hN ih)
/-- the whole answer of the reference -/
theorem bt10 {τ : Mm} {P : Gm} {N b c : Nat} {a2 : Int32} (B : GB P) (hN : N ≤ 4) (R : RP (τ.1 34) P) (e8 : τ.1 34 8 = nI b) (e10 : τ.1 34 10 = nI c) (hb : b < 2 ^ P.1) (hc : c < 2 ^ P.1) (i2 : fX10_in a2.toInt64 0 1 = true) : ∃ τ', fX10_byTurns τ (nI N) a2 = (if a2 = 0 then 1000 + iI (Vg P N b c) else nI (match N with | 0 => 0 | r + 1 => (bu (lg P b c) (vl P r b c) 19).2), τ') ∧ (∀ q, (q < 41 ∨ 46 < q) → τ'.1 q = τ.1 q) ∧ τ'.2 = τ.2 := by
  have i1 : fX10_in (nI N).toInt64 0 4 = true := in_pos (x := 0) (y := 4) rfl rfl (nI_pos' (by omega)) (show nI N ≤ nI 4 from nI_le hN (by decide))
  obtain ⟨b1, b2, b3, b4⟩ := beg_all (s := τ) (j := 0) (x := b) (y := c) (by decide) _ rfl
  have eb0 : fX10_begin τ 0 (nI b) (nI c) = fX10_begin τ (nI 0) (nI b) (nI c) := rfl
  unfold fX10_byTurns fX10_byTurns_55 fX10_byTurns_77
  rw [if_pos i1, if_pos i2, e8, e10, eb0, if_pos (show true = true from rfl), if_neg (show ¬ false = true by decide)]
  generalize fX10_begin τ (nI 0) (nI b) (nI c) = s at b1 b2 b3 b4 ⊢
  cases N with
  | zero =>
    rw [if_pos (show nI 0 = 0 from rfl), show (300000 : Nat) = 299999 + 1 from rfl, fX10_byTurns_78, if_pos rfl]
    unfold fX10_byTurns_251
    refine ⟨up s 44 0 0, ?_, fun q hq => ?_, b4⟩
    · rw [up_e, up_ne (by decide), b1.2.2.2.2]
      by_cases z : a2 = 0
      · rw [if_pos z, if_pos z]
        rfl
      · rw [if_neg z, if_neg z]
    · rw [up_ne (by omega)]
      exact b2 q (by omega)
  | succ r =>
    rw [if_neg (nI_ne0 (by omega) (by omega))]
    have es : up s 44 0 (s.1 44 0) = s := by
      unfold up
      refine Prod.ext ?_ rfl
      funext q j
      by_cases z : q = 44 ∧ j = 0
      · show (if q = 44 ∧ j = 0 then s.1 44 0 else s.1 q j) = s.1 q j
        rw [if_pos z, z.1, z.2]
      · exact if_neg z
    rw [es]
    have hT := TT_4 (r + 1) hN
    have eT : TT (r + 1) = 19 * (1 + TT r) + 1 := rfl
    have F0 : ∀ q, (q < 41 ∨ 46 < q) → s.1 q = τ.1 q := fun q hq => b2 q (by omega)
    obtain ⟨m1, s1, p1, p2, p3, p4⟩ := runs_of (a2 := a2) B hN (pops_all B hN r) 19 0 300000 b c 0 s (by omega) (by omega) hb hc (by rw [F0 34 (Or.inl (by decide))]; exact R) b1 (by omega)
    obtain ⟨m1, rfl⟩ : ∃ z, m1 = z + 2 := ⟨m1 - 2, by omega⟩
    obtain ⟨l1, l2, l3, l4, l5⟩ := id p3
    have p1 : fX10_byTurns_78 (nI (r + 1)) a2 300000 s 0 false = fX10_byTurns_78 (nI (r + 1)) a2 (m1 + 1 + 1) s1 0 false := p1
    have z0 : (0 : Int32).toNatClampNeg = 0 := rfl
    have ne : ¬ (0 : Int32) = nI (r + 1) := fun z => by
      have := (nI_eq (a := 0) (b := r + 1) (by decide) (by omega)).mp z
      omega
    rw [p1, fX10_byTurns_78, if_neg (show ¬ false = true by decide), if_neg ne, z0, l3, if_pos (show (18 : Int32) < nI 19 by decide)]
    unfold fX10_byTurns_99
    rw [if_neg ne]
    unfold fX10_byTurns_114
    rw [if_neg (show ¬ (0 : Int32) ≤ 0 + (-1) by decide)]
    unfold fX10_byTurns_196
    rw [if_pos (show (0 : Int32) + (-1) < 0 by decide), fX10_byTurns_78, if_pos rfl]
    unfold fX10_byTurns_251
    rw [l4, l5]
    refine ⟨s1, ?_, fun q hq => (p4.1 q hq).trans (F0 q hq), p4.2.2.trans b4⟩
    by_cases z : a2 = 0
    · rw [if_pos z, if_pos z, Vg_s]
    · rw [if_neg z, if_neg z]
