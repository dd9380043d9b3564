def mxI (a b : Int) : Int := if a < b then b else a
/-- what the loop over the moves keeps -/
def INV (P : Gm) (r b c : Nat) (low high B : Int) (bm k : Nat) : Prop := -1000 ≤ B ∧ B ≤ 1009 ∧ ((B < high ∧ (bu (lg P b c) (vl P r b c) k).1 ≤ B ∧ (low < B → -1000 < B → B = (bu (lg P b c) (vl P r b c) k).1 ∧ bm = (bu (lg P b c) (vl P r b c) k).2)) ∨ (high ≤ B ∧ B ≤ (bu (lg P b c) (vl P r b c) k).1))
theorem INV.no {P : Gm} {r b c : Nat} {low high B : Int} {bm k : Nat} (h : INV P r b c low high B bm k) (q : ¬ lg P b c k = true) : INV P r b c low high B bm (k + 1) := by
  have e : bu (lg P b c) (vl P r b c) (k + 1) = bu (lg P b c) (vl P r b c) k := bu_n (fun y => q y.1)
  unfold INV
  rw [e]
  exact h
theorem INV.yes {P : Gm} {r b c : Nat} {low high B v : Int} {bm k : Nat} (GBp : GB P) (hr : r ≤ 4) (hlh : low < high) (h3 : high ≤ 1009) (h : INV P r b c low high B bm k) (hB : B < high) (q : lg P b c k = true) (v1 : -1000 ≤ v) (v2 : v ≤ 1009) (c1 : v ≤ gn P k - high → Vg P r (nb b k) (nc c k) ≤ v) (c2 : gn P k - mxI low B ≤ v → v ≤ Vg P r (nb b k) (nc c k)) (c3 : gn P k - high < v → v < gn P k - mxI low B → v = Vg P r (nb b k) (nc c k)) : INV P r b c low high (if B < gn P k - v then gn P k - v else B) (if B < gn P k - v then k else bm) (k + 1) := by
  obtain ⟨i1, i2, i3⟩ := h
  have hg := gn_b GBp q
  have ev : vl P r b c k = gn P k - Vg P r (nb b k) (nc c k) := rfl
  rcases i3 with ⟨j1, j2, j3⟩ | ⟨j1, j2⟩
  · have hM : mxI low B = low ∧ B ≤ low ∨ mxI low B = B ∧ low < B := by
      unfold mxI
      by_cases z : low < B
      · rw [if_pos z]
        exact Or.inr ⟨rfl, z⟩
      · rw [if_neg z]
        exact Or.inl ⟨rfl, by omega⟩
    have hge := bu_ge (lg := lg P b c) (val := vl P r b c) q
    have hs := bu_s (lg := lg P b c) (val := vl P r b c) k
    by_cases z : B < gn P k - v
    · rw [if_pos z, if_pos z]
      refine ⟨by omega, by omega, ?_⟩
      by_cases y : high ≤ gn P k - v
      · right
        have := c1 (by omega)
        exact ⟨y, by omega⟩
      · left
        refine ⟨by omega, ?_, ?_⟩
        · by_cases x : gn P k - mxI low B ≤ v
          · have hc := c2 x
            by_cases u : (bu (lg P b c) (vl P r b c) k).1 < vl P r b c k
            · rw [bu_y q u]
              show vl P r b c k ≤ _
              omega
            · rw [bu_n (fun y => u y.2)]
              omega
          · have hc := c3 (by omega) (by omega)
            by_cases u : (bu (lg P b c) (vl P r b c) k).1 < vl P r b c k
            · rw [bu_y q u]
              show vl P r b c k ≤ _
              omega
            · rw [bu_n (fun y => u y.2)]
              omega
        · intro hl hl2
          have x : ¬ gn P k - mxI low B ≤ v := by
            intro x
            rcases hM with ⟨m1, m2⟩ | ⟨m1, m2⟩ <;> rw [m1] at x <;> omega
          have hc := c3 (by omega) (by omega)
          have u : (bu (lg P b c) (vl P r b c) k).1 < vl P r b c k := by omega
          rw [bu_y q u]
          refine ⟨?_, rfl⟩
          show gn P k - v = vl P r b c k
          omega
    · rw [if_neg z, if_neg z]
      have x : gn P k - mxI low B ≤ v := by
        rcases hM with ⟨m1, m2⟩ | ⟨m1, m2⟩ <;> rw [m1] <;> omega
      have hc := c2 x
      refine ⟨i1, i2, Or.inl ⟨j1, ?_, fun hl hl2 => ?_⟩⟩
      · by_cases u : (bu (lg P b c) (vl P r b c) k).1 < vl P r b c k
        · rw [bu_y q u]
          show vl P r b c k ≤ _
          omega
        · rw [bu_n (fun y => u y.2)]
          omega
      · obtain ⟨t1, t2⟩ := j3 hl hl2
        have u : ¬ (bu (lg P b c) (vl P r b c) k).1 < vl P r b c k := by omega
        rw [bu_n (fun y => u y.2)]
        exact ⟨t1, t2⟩
  · omega
theorem INV.tell {P : Gm} {ρ s : Mm} {r b c : Nat} {low high B : Int} {bm k : Nat} (GBp : GB P) (hr : r ≤ 3) (hlh : low < high) (h : INV P r b c low high B bm k) (hk : k ≤ 19) (he : k = 19 ∨ ¬ B < high) (K : KK s ρ) : TELL P ρ (r + 1) b c low high (iI B, up s 21 5 (nI bm)) := by
  obtain ⟨i1, i2, i3⟩ := h
  obtain ⟨j, hj⟩ : ∃ j, 19 = k + j := ⟨19 - k, by omega⟩
  have hm := bu_mono (lg := lg P b c) (val := vl P r b c) k j
  rw [← hj] at hm
  have eV : Vg P (r + 1) b c = (bu (lg P b c) (vl P r b c) 19).1 := rfl
  have hV := Vg_b GBp (r + 1) b c
  refine ⟨B, bm, rfl, K.up5, up_e, i1, i2, ?_, ?_, ?_⟩
  · intro hl
    rcases i3 with ⟨j1, j2, j3⟩ | ⟨j1, j2⟩
    · rcases he with e | e
      · subst e
        rw [eV]
        exact j2
      · exact absurd j1 e
    · omega
  · intro hl
    rcases i3 with ⟨j1, j2, j3⟩ | ⟨j1, j2⟩
    · omega
    · rw [eV]
      omega
  · intro h1 h2
    rcases i3 with ⟨j1, j2, j3⟩ | ⟨j1, j2⟩
    · rcases he with e | e
      · subst e
        obtain ⟨t1, t2⟩ := j3 h1 (by omega)
        rw [eV]
        exact ⟨t1, t2⟩
      · exact absurd j1 e
    · omega
theorem ld_go {ρ : Mm} {P : Gm} {r f b c : Nat} {low high : Int} (GBp : GB P) (G : GP ρ P) (hr : r ≤ 3) (hL : LEADS P ρ r) (hf : r < f) (hb : b < 2 ^ P.1) (hc : c < 2 ^ P.1) (l1 : -1018 ≤ low) (l2 : low < high) (l3 : high ≤ 1009) (l4 : low + 20 * ((r + 1 : Nat) : Int) ≤ 140) (l5 : 20 * ((r + 1 : Nat) : Int) - 140 ≤ high) : ∀ j m k (s : Mm) (B : Int) (bm : Nat), k + j = 19 → j < m → KK s ρ → INV P r b c low high B bm k → TELL P ρ (r + 1) b c low high (fX3_lead_83 (fX3_leadF f) (nI (r + 1)) (nI b) (nI c) (iI low) (iI high) m s (nI (CLm P b c)) (nI (BRm P b c)) (iI B) (nI bm) k) := by
  have n8 := GBp.1
  intro j
  induction j with
  | zero =>
    intro m k s B bm h1 h2 K I
    obtain ⟨m, rfl⟩ : ∃ z, m = z + 1 := ⟨m - 1, by omega⟩
    rw [fX3_lead_83, if_neg (show ¬ nI k ≤ 18 from nI_ge (a := 18) (b := k) (by omega) (by omega))]
    exact I.tell GBp hr l2 (by omega) (Or.inl (by omega)) K
  | succ j ih =>
    intro m k s B bm h1 h2 K I
    obtain ⟨m, rfl⟩ : ∃ z, m = z + 1 := ⟨m - 1, by omega⟩
    have hb1 := I.1
    have hb2 := I.2.1
    rw [fX3_lead_83, if_pos (show nI k ≤ 18 from nI_le (a := k) (b := 18) (by omega) (by decide))]
    by_cases hB : B < high
    · rw [if_pos ((iI_lt (by omega) (by omega) (by omega) (by omega)).mpr hB)]
      have st : ∀ (x11 x12 : Nat), lg P b c k = true → b ||| x12 = nb b k → c ||| x11 = nc c k → TELL P ρ (r + 1) b c low high (fX3_lead_155 (fX3_leadF f) (nI (r + 1)) (nI b) (nI c) (iI low) (iI high) (fX3_lead_83 (fX3_leadF f) (nI (r + 1)) (nI b) (nI c) (iI low) (iI high) m) s (nI (CLm P b c)) (nI (BRm P b c)) (iI B) (nI bm) k (nI x11) (nI x12)) := by
        intro x11 x12 q e12 e11
        have hg := gn_b GBp q
        have hnx := nx_lt hb hc q
        have hmx : mxI low B = low ∧ B ≤ low ∨ mxI low B = B ∧ low < B := by
          unfold mxI
          by_cases z : low < B
          · rw [if_pos z]
            exact Or.inr ⟨rfl, z⟩
          · rw [if_neg z]
            exact Or.inl ⟨rfl, by omega⟩
        have emx : (if iI low < iI B then iI B else iI low) = iI (mxI low B) := by
          unfold mxI
          by_cases z : low < B
          · rw [if_pos z, if_pos ((iI_lt (by omega) (by omega) (by omega) (by omega)).mpr z)]
          · rw [if_neg z, if_neg (fun y => z ((iI_lt (by omega) (by omega) (by omega) (by omega)).mp y))]
        have hmb : mxI low B ≤ 131 - 20 * (r : Int) := by
          rcases hmx with ⟨m1, m2⟩ | ⟨m1, m2⟩
          · rw [m1]
            omega
          · rw [m1]
            rcases I.2.2 with ⟨j1, j2, j3⟩ | ⟨j1, j2⟩
            · by_cases u : (-1000 : Int) < B
              · have e := (j3 m2 u).1
                have hbb := (bu_b (b := b) (c := c) GBp (show r ≤ 4 by omega) k).2
                omega
              · omega
            · omega
        obtain ⟨v, mv, t1, t2, t3, t4, t5, t6, t7, t8⟩ := hL f (nb b k) (nc c k) (gn P k - high) (gn P k - mxI low B) s hf hnx.1 hnx.2 K (by omega) (by rcases hmx with ⟨m1, m2⟩ | ⟨m1, m2⟩ <;> rw [m1] <;> omega) (by rcases hmx with ⟨m1, m2⟩ | ⟨m1, m2⟩ <;> rw [m1] <;> omega) (by omega) (by omega)
        unfold fX3_lead_155
        rw [nI_or, nI_or, e12, e11, nI_pred, gain_eq n8 (G.fr K) (by omega) q, iI_sub, emx, iI_sub]
        generalize fX3_leadF f s (nI r) (nI (nb b k)) (nI (nc c k)) (iI (gn P k - high)) (iI (gn P k - mxI low B)) = x at t1 t2 t3
        rw [t1, iI_sub]
        have I2 := I.yes (v := v) GBp (by omega) l2 l3 hB q t4 t5 t6 t7 (fun y1 y2 => (t8 y1 y2).1)
        by_cases z : B < gn P k - v
        · rw [if_pos ((iI_lt (by omega) (by omega) (by omega) (by omega)).mpr z)]
          rw [if_pos z, if_pos z] at I2
          exact ih m (k + 1) x.2 (gn P k - v) k (by omega) (by omega) t2 I2
        · rw [if_neg (fun y => z ((iI_lt (by omega) (by omega) (by omega) (by omega)).mp y))]
          rw [if_neg z, if_neg z] at I2
          exact ih m (k + 1) x.2 B bm (by omega) (by omega) t2 I2
      have skip : ¬ lg P b c k = true → TELL P ρ (r + 1) b c low high (fX3_lead_83 (fX3_leadF f) (nI (r + 1)) (nI b) (nI c) (iI low) (iI high) m s (nI (CLm P b c)) (nI (BRm P b c)) (iI B) (nI bm) (k + 1)) := fun q => ih m (k + 1) s B bm (by omega) (by omega) K (I.no q)
      unfold fX3_lead_117 fX3_lead_140
      by_cases k11 : k < 11
      · have c11 : nI k < 11 := nI_lt (a := k) (b := 11) k11 (by decide)
        rw [if_pos c11, if_pos c11, pw1 k k11, nI_and]
        by_cases k0 : k = 0
        · subst k0
          rw [if_pos (show nI 0 = 0 from rfl), show 2 ^ 0 / 2 &&& CLm P b c = 0 by rw [show (2 ^ 0 / 2 : Nat) = 0 from rfl, Nat.zero_and]]
          exact st 0 0 rfl (Nat.or_zero b) (Nat.or_zero c)
        · have ep : 2 ^ k / 2 = 2 ^ (k - 1) := by
            obtain ⟨z, rfl⟩ : ∃ z, k = z + 1 := ⟨k - 1, by omega⟩
            rw [Nat.pow_succ, Nat.mul_div_cancel _ (by decide)]
            rfl
          rw [if_neg (nI_ne0 (by omega) (by omega)), ep, pow_and, CL_tb n8, show (0 : Int32) = nI 0 from rfl, nI_or, Nat.or_zero]
          by_cases q : lgc P b c (k - 1) = true
          · have ql : lg P b c k = true := (lg_c k0 k11).trans q
            rw [if_pos q, if_neg (show ¬ nI (2 ^ (k - 1)) = nI 0 from nI_ne0 (Nat.two_pow_pos _) (Nat.lt_of_le_of_lt (Nat.pow_le_pow_right (n := 2) (by decide) (show k - 1 ≤ 10 by omega)) (by decide)))]
            refine st (2 ^ (k - 1)) 0 ql ?_ ?_
            · unfold nb
              rw [if_pos k11, Nat.or_zero]
            · unfold nc
              rw [if_neg k0, if_pos k11]
          · rw [if_neg q, if_pos rfl]
            exact skip (fun z => q ((lg_c k0 k11).symm.trans z))
      · have c11 : ¬ nI k < 11 := nI_nlt (a := k) (b := 11) (by omega) (by omega)
        rw [if_neg c11, if_neg c11, if_neg (nI_ne0 (by omega) (by omega)), show (11 : Int32) = nI 11 from rfl, pk_sub (by omega), bit_k (k - 11) (by omega), nI_and, pow_and, BR_tb n8, show (0 : Int32) = nI 0 from rfl, nI_or, Nat.zero_or]
        by_cases q : lgb P b c (k - 11) = true
        · have ql : lg P b c k = true := (lg_b k11).trans q
          rw [if_pos q, if_neg (show ¬ nI (2 ^ (k - 11)) = nI 0 from nI_ne0 (Nat.two_pow_pos _) (Nat.lt_of_le_of_lt (Nat.pow_le_pow_right (n := 2) (by decide) (show k - 11 ≤ 10 by omega)) (by decide)))]
          refine st 0 (2 ^ (k - 11)) ql ?_ ?_
          · unfold nb
            rw [if_neg k11]
          · unfold nc
            rw [if_neg (by omega), if_neg k11, Nat.or_zero]
        · rw [if_neg q, if_pos rfl]
          exact skip (fun z => q ((lg_b k11).symm.trans z))
    · rw [if_neg (fun y => hB ((iI_lt (by omega) (by omega) (by omega) (by omega)).mp y))]
      exact I.tell GBp hr l2 (by omega) (Or.inr hB) K
theorem leads_s {P : Gm} {ρ : Mm} {r : Nat} (B : GB P) (G : GP ρ P) (hr : 1 ≤ r) (hr3 : r ≤ 3) (hL : LEADS P ρ r) : LEADS P ρ (r + 1) := by
  intro f b c low high s hf hb hc K l1 l2 l3 l4 l5
  obtain ⟨f, rfl⟩ : ∃ z, f = z + 1 := ⟨f - 1, by omega⟩
  show TELL P ρ (r + 1) b c low high (fX3_lead (fX3_leadF f) s (nI (r + 1)) (nI b) (nI c) (iI low) (iI high))
  unfold fX3_lead
  rw [if_neg (show ¬ nI (r + 1) ≤ 0 from nI_ge (a := 0) (b := r + 1) (by omega) (by omega)), if_neg (show ¬ nI (r + 1) = 1 from fun z => by have := (nI_eq (a := r + 1) (b := 1) (by omega) (by decide)).mp z; omega), cl_eq B.1 (G.fr K), br_eq (G.fr K)]
  have e1 : (-1000 : Int32) = iI (-1000) := by decide +kernel
  rw [e1, show (0 : Int32) = nI 0 from rfl]
  refine ld_go B G hr3 hL (by omega) hb hc l1 l2 l3 l4 l5 19 20 0 s (-1000) 0 (by decide) (by decide) K ⟨by decide, by decide, ?_⟩
  exact Or.inl ⟨by omega, by show (-100000 : Int) ≤ -1000; decide, fun _ hl => absurd hl (by decide)⟩
theorem leads_all {P : Gm} {ρ : Mm} (B : GB P) (G : GP ρ P) : ∀ r, r ≤ 4 → LEADS P ρ r := by
  intro r
  induction r with
  | zero => intro _; exact leads_0
  | succ r ih =>
    intro h
    by_cases c : r = 0
    · subst c
      exact leads_1 B G
    · exact leads_s B G (by omega) (by omega) (ih (by omega))
/-- two museums on both sides -/
theorem s_byTurns : sc_byTurns Rv := by
  intro σ a1 a2 h
  have same : ∀ z : Int32, fX9_byTurns σ a1 a2 = (z, σ) → fX10_byTurns σ a1 a2 = (z, σ) → vp_in ((fX9_byTurns σ a1 a2).2.1 34 13) 9 ∧ (fX9_byTurns σ a1 a2).1 = (fX10_byTurns (fX9_byTurns σ a1 a2).2 a1 a2).1 ∧ Rv (fX10_byTurns (fX9_byTurns σ a1 a2).2 a1 a2).2 := by
    intro z e9 e10
    rw [e9]
    show vp_in (σ.1 34 13) 9 ∧ z = (fX10_byTurns σ a1 a2).1 ∧ Rv (fX10_byTurns σ a1 a2).2
    rw [e10]
    exact ⟨h.hM, rfl, h⟩
  by_cases c0 : 0 ≤ a1
  · by_cases c4 : a1 ≤ 4
    · have i1 : fX10_in a1.toInt64 0 4 = true := in_pos (x := 0) (y := 4) rfl rfl c0 c4
      by_cases d0 : 0 ≤ a2
      · by_cases d1 : 1 < a2
        · exact same (-2) (by unfold fX9_byTurns; rw [if_pos c0, if_pos c4, if_pos d0, if_pos d1]) (by unfold fX10_byTurns; rw [if_pos i1, if_neg (in_neg2 (y := 1) rfl (Int32.not_le.mpr d1))])
        · have i2 : fX10_in a2.toInt64 0 1 = true := in_pos (x := 0) (y := 1) rfl rfl d0 (Int32.not_lt.mp d1)
          obtain ⟨N, hN, rfl⟩ := in4 i1
          obtain ⟨n, w, B, Hd, C, Gd, d, HPP⟩ := h.2.1.hp
          obtain ⟨q1, q2, q3, q4, q5, q6, b1, b2, b3, b4, b5, b6, b7, b8, b9, k1, k2, k3, k4⟩ := id HPP
          obtain ⟨P, hP⟩ : ∃ P : Gm, P = (n, d, w, Hd, Gd) := ⟨_, rfl⟩
          have p1 : P.1 = n := by rw [hP]
          have p2 : P.2.1 = d := by rw [hP]
          have p3 : P.2.2.1 = w := by rw [hP]
          have p4 : P.2.2.2.1 = Hd := by rw [hP]
          have p5 : P.2.2.2.2 = Gd := by rw [hP]
          have GBp : GB P := ⟨by rw [p1]; exact q1, fun i hi => by
            rw [p2]
            rw [p1] at hi
            exact ⟨(k4 i hi).1 5 (by decide), (k4 i hi).1 6 (by decide)⟩⟩
          have RPp : RP (σ.1 34) P := ⟨by rw [p1, p2]; exact HPP.rg, by rw [p3]; exact b4, by rw [p3]; omega, by rw [p4]; exact b9, fun i hi => by
            rw [p5, p2]
            rw [p1] at hi
            rw [Nat.testBit_eq_decide_div_mod_eq, (k4 i hi).2.2.2.1]⟩
          have hB : B < 2 ^ P.1 := by rw [p1]; exact q3
          have hC : C < 2 ^ P.1 := by rw [p1]; exact q5
          obtain ⟨g1, g2, g3⟩ := gl_all (g := 22) (by decide) HPP.ch b3 (by omega) (fX1_learn σ 22 49) rfl
          generalize hτ : fX3_play σ 49 (nI N) = τ
          have hτ' := hτ
          unfold fX3_play fX3_play_16 fX3_play_32 at hτ'
          generalize fX1_learn σ 22 49 = s0 at hτ' g1 g2 g3
          have e49 : s0.1 49 = σ.1 49 := g2 49 (by decide) (by decide) (by decide)
          have eall : fX2_all s0 49 = nI (2 ^ n - 1) := by
            unfold fX2_all
            rw [e49, b1, all_k n q1]
          have u1 : (up s0 21 1 (nI (2 ^ n - 1))).1 49 6 = nI Hd := by rw [up_ne (by decide), e49]; exact b8
          have u2 : (up (up s0 21 1 (nI (2 ^ n - 1))) 21 2 (nI Hd)).1 49 4 = nI Gd := by rw [up_ne (by decide), up_ne (by decide), e49]; exact k3
          rw [eall, u1, u2] at hτ'
          generalize hρ : up (up (up s0 21 1 (nI (2 ^ n - 1))) 21 2 (nI Hd)) 21 3 (nI Gd) = ρ at hτ'
          have r49 : ρ.1 49 = σ.1 49 := by rw [← hρ, up_ne (by decide), up_ne (by decide), up_ne (by decide), e49]
          have ρk : ∀ q, q ≠ 21 → ρ.1 q = s0.1 q := fun q hq => by rw [← hρ, up_ne hq, up_ne hq, up_ne hq]
          have G : GP ρ P := by
            refine ⟨fun t ht => ?_, ?_, ?_, ?_, by rw [p5, p1]; exact q6⟩
            · rw [p1, p2, p3, ρk 23 (by decide), ρk 24 (by decide), ρk 25 (by decide)]
              exact g1 t ht
            · rw [p1, ← hρ, up_n (by decide), up_n (by decide), up_e]
            · rw [p4, ← hρ, up_n (by decide), up_e]
            · rw [p5, ← hρ, up_e]
          have r5 : ρ.1 49 5 = nI B := by rw [r49]; exact b6
          have r7 : ρ.1 49 7 = nI C := by rw [r49]; exact k1
          have e1 : (-1000 : Int32) = iI (-1000) := by decide +kernel
          have e2 : (1000 : Int32) = iI 1000 := by decide +kernel
          obtain ⟨v, mv, t1, t2, t3, t4, t5, t6, t7, t8⟩ := leads_all GBp G N hN 5 B C (-1000) 1000 ρ (by omega) hB hC ⟨fun _ _ => rfl, fun _ _ => rfl, rfl⟩ (by decide) (by decide) (by decide) (by omega) (by omega)
          rw [r5, r7, e1, e2] at hτ'
          generalize fX3_leadF 5 ρ (nI N) (nI B) (nI C) (iI (-1000)) (iI 1000) = x at hτ' t1 t2 t3
          have hV := Vg_b GBp N B C
          have ev := t8 (by
            by_cases z : v ≤ -1000
            · have := t6 z
              omega
            · omega) (by
            by_cases z : 1000 ≤ v
            · have := t7 z
              omega
            · omega)
          have τ4 : τ.1 21 4 = iI (Vg P N B C) := by rw [← hτ', up_e, t1, ev.1]
          have τ5 : τ.1 21 5 = nI (MV P N B C) := by rw [← hτ', up_n (by decide), t3, ev.2]
          have τk : ∀ q, q ≠ 21 → q ≠ 23 → q ≠ 24 → q ≠ 25 → τ.1 q = σ.1 q := fun q z1 z2 z3 z4 => by rw [← hτ', up_ne z1, t2.1 q z1, ρk q z1, g2 q z2 z3 z4]
          have τ2 : τ.2 = σ.2 := by
            rw [← hτ']
            show x.2.2 = σ.2
            rw [t2.2.2, ← hρ]
            exact g3
          have e34 : τ.1 34 = σ.1 34 := τk 34 (by decide) (by decide) (by decide) (by decide)
          have e9 : fX9_byTurns σ (nI N) a2 = (if a2 = 0 then iI (Vg P N B C) + 1000 else nI (MV P N B C), τ) := by
            unfold fX9_byTurns
            rw [if_pos c0, if_pos c4, if_pos d0, if_neg d1, hτ, τ4, τ5]
            by_cases z : a2 = 0
            · rw [if_pos z, if_pos z]
            · rw [if_neg z, if_neg z]
          obtain ⟨τ', f1, f2, f3⟩ := bt10 (τ := τ) (a2 := a2) GBp hN (by rw [e34]; exact RPp) (by rw [e34]; exact b7) (by rw [e34]; exact k2) hB hC i2
          rw [e9]
          refine ⟨by show vp_in (τ.1 34 13) 9; rw [e34]; exact h.hM, ?_, ?_⟩
          · show (if a2 = 0 then iI (Vg P N B C) + 1000 else nI (MV P N B C)) = (fX10_byTurns τ (nI N) a2).1
            rw [f1]
            by_cases z : a2 = 0
            · rw [if_pos z, if_pos z]
              exact Int32.add_comm _ _
            · rw [if_neg z, if_neg z]
              cases N <;> rfl
          · show Rv (fX10_byTurns τ (nI N) a2).2
            rw [f1]
            refine h.scr (fun q z1 z2 z3 => ?_) ?_ (fun j _ => ?_) (fun j _ => ?_) ?_
            · rw [f2 q (by omega), τk q (by omega) (by omega) (by omega) (by omega)]
            · rw [f2 26 (Or.inl (by decide)), τk 26 (by decide) (by decide) (by decide) (by decide)]
            · rw [f2 33 (Or.inl (by decide)), τk 33 (by decide) (by decide) (by decide) (by decide)]
            · rw [f2 34 (Or.inl (by decide)), e34]
            · rw [f3, τ2]
              exact h.2.2.2.2.2
      · exact same (-2) (by unfold fX9_byTurns; rw [if_pos c0, if_pos c4, if_neg d0]) (by unfold fX10_byTurns; rw [if_pos i1, if_neg (in_neg1 (x := 0) rfl d0)])
    · exact same (-2) (by unfold fX9_byTurns; rw [if_pos c0, if_neg c4]) (by unfold fX10_byTurns; rw [if_neg (in_neg2 (y := 4) rfl c4)])
  · exact same (-2) (by unfold fX9_byTurns; rw [if_neg c0]) (by unfold fX10_byTurns; rw [if_neg (in_neg1 (x := 0) rfl c0)])
