theorem eu_go {s : Mm} : ∀ j m c r k, 2 * j + k ≤ 63 → 2 * j < m → c < 2 ^ 31 → r < 2 ^ 31 → r < 2 ^ j → fX0_reduce_12 m s (nI c) (nI r) k = fX0_reduce_38 s (nI (Nat.gcd c r)) := by
  intro j
  induction j with
  | zero =>
    intro m c r k h1 h2 hc hr hj
    obtain ⟨m, rfl⟩ : ∃ z, m = z + 1 := ⟨m - 1, by omega⟩
    have hj : r < 1 := hj
    have e : r = 0 := by omega
    subst e
    rw [fX0_reduce_12, if_pos (show nI k < 64 from nI_lt (a := k) (b := 64) (by omega) (by decide)), if_pos (show nI 0 = 0 from rfl), Nat.gcd_zero_right]
  | succ j ih =>
    intro m c r k h1 h2 hc hr hj
    obtain ⟨m, rfl⟩ : ∃ z, m = z + 2 := ⟨m - 2, by omega⟩
    rw [fX0_reduce_12, if_pos (show nI k < 64 from nI_lt (a := k) (b := 64) (by omega) (by decide))]
    by_cases r0 : r = 0
    · subst r0
      rw [if_pos (show nI 0 = 0 from rfl), Nat.gcd_zero_right]
    · have hm := Nat.mod_lt c (show 0 < r by omega)
      have g1 : Nat.gcd c r = Nat.gcd r (c % r) := by rw [Nat.gcd_comm c r, Nat.gcd_rec r c, Nat.gcd_comm]
      rw [if_neg (nI_ne0 (by omega) hr), rm_nI hc (by omega) hr, g1]
      generalize c % r = r1 at hm
      rw [fX0_reduce_12, if_pos (show nI (k + 1) < 64 from nI_lt (a := k + 1) (b := 64) (by omega) (by decide))]
      by_cases r10 : r1 = 0
      · subst r10
        rw [if_pos (show nI 0 = 0 from rfl), Nat.gcd_zero_right]
      · have hm2 := Nat.mod_lt r (show 0 < r1 by omega)
        have g2 : Nat.gcd r r1 = Nat.gcd r1 (r % r1) := by rw [Nat.gcd_comm r r1, Nat.gcd_rec r1 r, Nat.gcd_comm]
        have half : r % r1 < 2 ^ j := by
          have e := Nat.div_add_mod r r1
          have p2 : 2 ^ (j + 1) = 2 * 2 ^ j := by rw [Nat.pow_succ, Nat.mul_comm]
          have hd : 1 ≤ r / r1 := Nat.div_pos (by omega) (by omega)
          have hmul : r1 ≤ r1 * (r / r1) := Nat.le_mul_of_pos_right _ hd
          omega
        rw [if_neg (nI_ne0 (by omega) (by omega)), rm_nI hr (by omega) (by omega), g2]
        exact ih m r1 (r % r1) (k + 1 + 1) (by omega) (by omega) (by omega) (by omega) half
theorem red_eq {s : Mm} {u l : Nat} (e1 : s.1 32 1 = nI u) (e2 : s.1 32 2 = nI l) (hu : u < 2 ^ 30) (hl : l < 2 ^ 30) (h0 : 0 < l) : (fX0_reduce s).1 32 1 = nI (u / Nat.gcd u l) ∧ (fX0_reduce s).1 32 2 = nI (l / Nat.gcd u l) ∧ (∀ q, q ≠ 32 → (fX0_reduce s).1 q = s.1 q) ∧ (fX0_reduce s).2 = s.2 := by
  have g := eu_go (s := s) 30 65 l u 0 (by decide) (by decide) (by omega) (by omega) hu
  have hg := Nat.gcd_pos_of_pos_left u h0
  have hgl := Nat.le_of_dvd h0 (Nat.gcd_dvd_left l u)
  have e : fX0_reduce s = fX0_reduce_38 s (nI (Nat.gcd l u)) := by
    unfold fX0_reduce
    rw [e1, e2]
    exact g
  rw [e, Nat.gcd_comm u l]
  have e3 : (up s 32 1 (nI u / nI (Nat.gcd l u))).1 32 2 = nI l := by rw [up_n (by decide), e2]
  unfold fX0_reduce_38
  rw [if_neg (nI_ne0 hg (by omega)), e1, e3, pk_div (by omega) hg (by omega), pk_div (by omega) hg (by omega)]
  refine ⟨?_, up_e, fun q hq => by rw [up_ne hq, up_ne hq], rfl⟩
  rw [up_n (by decide), up_e]
theorem wl2_go {ρ : Mm} {h1 : Nat} {a2 : Int32} {A x u l : Nat} (hA : A < 256) : ∀ j m k (s : Mm), k + j = pc A → j < m → s.1 32 1 = nI (u * x ^ k) → s.1 32 2 = nI (l * 10 ^ k) → (∀ q, q ≠ 32 → s.1 q = ρ.1 q) → s.2 = ρ.2 → ∃ s' : Mm, fX0_weigh_89 h1 a2 (nI x) m s (nI A) k = fX0_reduce s' ∧ s'.1 32 1 = nI (u * x ^ pc A) ∧ s'.1 32 2 = nI (l * 10 ^ pc A) ∧ (∀ q, q ≠ 32 → s'.1 q = ρ.1 q) ∧ s'.2 = ρ.2 := by
  intro j
  induction j with
  | zero =>
    intro m k s g1 g2 e1 e2 e3 e4
    obtain ⟨m, rfl⟩ : ∃ z, m = z + 1 := ⟨m - 1, by omega⟩
    have hp := pc_le A
    rw [fX0_weigh_89, bits_pc hA, if_neg (nI_nlt (by omega) (by omega))]
    have ek : k = pc A := by omega
    rw [ek] at e1 e2
    exact ⟨s, rfl, e1, e2, e3, e4⟩
  | succ j ih =>
    intro m k s g1 g2 e1 e2 e3 e4
    obtain ⟨m, rfl⟩ : ∃ z, m = z + 1 := ⟨m - 1, by omega⟩
    have hp := pc_le A
    rw [fX0_weigh_89, bits_pc hA, if_pos (nI_lt (by omega) (by omega)), e1, pk_mul, up_n (by decide), e2, show (10 : Int32) = nI 10 from rfl, pk_mul]
    refine ih m (k + 1) (up (up s 32 1 (nI (u * x ^ k * x))) 32 2 (nI (l * 10 ^ k * 10))) (by omega) (by omega) ?_ ?_ (fun q hq => by rw [up_ne hq, up_ne hq]; exact e3 q hq) e4
    · rw [up_n (by decide), up_e, Nat.pow_succ, Nat.mul_assoc]
    · rw [up_e, Nat.pow_succ, Nat.mul_assoc]
theorem ch69 {σ : Mm} {a1 : Int32} {a3 : Bool} {F x k : Nat} {kb : Int32 → Int32 → Int32 → Nat → Int32} {x5 x6 : Int32} (hF : F < 256) (hk : k < 256) (hx : x ≤ 10) : ∀ j m o, o + j = 8 → j < m → fX10_chance_69 σ a1 (nI x) a3 kb m (nI F) x5 x6 k (nI (pd (wtf F x k) o)) o = fX10_chance_119 σ a1 (nI x) a3 kb (nI F) x5 x6 k (nI (wt F x k)) := by
  intro j
  induction j with
  | zero =>
    intro m o g1 g2
    obtain ⟨m, rfl⟩ : ∃ z, m = z + 1 := ⟨m - 1, by omega⟩
    rw [fX10_chance_69, if_neg (show ¬ nI o < 8 from nI_nlt (a := o) (b := 8) (by omega) (by omega)), show o = 8 by omega]
    rfl
  | succ j ih =>
    intro m o g1 g2
    obtain ⟨m, rfl⟩ : ∃ z, m = z + 1 := ⟨m - 1, by omega⟩
    have g := ih m (o + 1) (by omega) (by omega)
    rw [fX10_chance_69, if_pos (show nI o < 8 from nI_lt (a := o) (b := 8) (by omega) (by decide))]
    by_cases c : fX10_has (nI F) (nI o) = true
    · rw [if_pos c]
      by_cases c2 : fX10_has (nI k) (nI o) = true
      · rw [if_pos c2, wt_x hF hk (by omega) rfl c c2, g]
      · rw [if_neg c2, wt_y hF hk (by omega) hx rfl c c2, g]
    · rw [if_neg c, wt_1 hF (by omega) rfl c, g]
theorem ch45 {σ : Mm} {n w S t F x : Nat} {d : Nat → Nat → Nat} {a3 : Bool} (D : RG (σ.1 34) n d) (hw : σ.1 34 11 = nI w) (w4 : w ≤ 4) (hSh : fX10_shown σ 0 = nI S) (hS : S < 2 ^ n) (ht : t < n) (hF : F < 256) (hx : x ≤ 10) : ∀ j m k, k + j = 256 → j < m → fX10_chance_45 σ (nI t) (nI x) a3 m (nI F) (nI (sm (smT n d w S F x t) k)) (nI (sm (alT F x) k)) k = fX10_chance_171 σ (nI t) (nI x) a3 (nI (sm (smT n d w S F x t) 256)) (nI (sm (alT F x) 256)) := by
  have n8 := D.1
  intro j
  induction j with
  | zero =>
    intro m k g1 g2
    obtain ⟨m, rfl⟩ : ∃ z, m = z + 1 := ⟨m - 1, by omega⟩
    rw [fX10_chance_45, if_neg (show ¬ nI k < 256 from nI_nlt (a := k) (b := 256) (by omega) (by omega)), show k = 256 by omega]
  | succ j ih =>
    intro m k g1 g2
    obtain ⟨m, rfl⟩ : ∃ z, m = z + 1 := ⟨m - 1, by omega⟩
    have g := ih m (k + 1) (by omega) (by omega)
    have hk : k < 256 := by omega
    have hd : dif k F < 2 ^ 31 := Nat.lt_of_le_of_lt (dif_le k F) (by omega)
    have e1 : sm (smT n d w S F x t) (k + 1) = sm (smT n d w S F x t) k + smT n d w S F x t k := rfl
    have e2 : sm (alT F x) (k + 1) = sm (alT F x) k + alT F x k := rfl
    rw [fX10_chance_45, if_pos (show nI k < 256 from nI_lt (a := k) (b := 256) hk (by decide)), nI_dif]
    by_cases q : dif k F = 0
    · have q69 := ch69 (σ := σ) (a1 := nI t) (a3 := a3) (kb := fX10_chance_45 σ (nI t) (nI x) a3 m) (x5 := nI (sm (smT n d w S F x t) k)) (x6 := nI (sm (alT F x) k)) hF hk hx 8 9 0 (by decide) (by decide)
      have q69 : fX10_chance_69 σ (nI t) (nI x) a3 (fX10_chance_45 σ (nI t) (nI x) a3 m) 9 (nI F) (nI (sm (smT n d w S F x t) k)) (nI (sm (alT F x) k)) k 1 0 = _ := q69
      rw [if_pos ((n0 hd).mpr q), q69]
      unfold fX10_chance_119
      have ea : alT F x k = wt F x k := if_pos q
      rw [hSh, nI_dif, hw, la10 D (by omega) (p31 n8 (dif_lt hS k)), has_tb (p31 n8 (LA_lt _ _ _ _)) (by omega), nI_add, nI_add, ← ea, ← e2]
      by_cases q2 : (LAb n d w (dif S k)).testBit t = true
      · have eb : smT n d w S F x t k = alT F x k := by
          rw [ea]
          exact if_pos ⟨q, q2⟩
        rw [if_pos q2, ← eb, ← e1, g]
      · have eb : smT n d w S F x t k = 0 := if_neg (fun z => q2 z.2)
        have e1' := e1.trans ((congrArg (fun z => sm (smT n d w S F x t) k + z) eb).trans (Nat.add_zero _))
        rw [if_neg q2, show nI (sm (smT n d w S F x t) k) + 0 = nI (sm (smT n d w S F x t) k) from nI_add _ 0, ← e1', g]
    · have ea : alT F x k = 0 := if_neg q
      have eb : smT n d w S F x t k = 0 := if_neg (fun z => q z.1)
      have e2' := e2.trans ((congrArg (fun z => sm (alT F x) k + z) ea).trans (Nat.add_zero _))
      have e1' := e1.trans ((congrArg (fun z => sm (smT n d w S F x t) k + z) eb).trans (Nat.add_zero _))
      rw [if_neg (fun z => q ((n0 hd).mp z)), ← e1', ← e2', g]
theorem sm_sa (n : Nat) (d : Nat → Nat → Nat) (w S F x t : Nat) : sm (smT n d w S F x t) 256 ≤ sm (alT F x) 256 := by
  refine sm_le 256 fun k _ => ?_
  unfold smT alT
  by_cases q : dif k F = 0
  · rw [if_pos q]
    split
    · exact Nat.le_refl _
    · exact Nat.zero_le _
  · rw [if_neg q, if_neg (fun z => q z.1)]
    exact Nat.le_refl _
theorem s_chance : sc_chance Rv := by
  intro σ a b bb h
  have same : ∀ z : Int32, fX9_chance σ a b bb = (z, σ) → fX10_chance σ a b bb = z → vp_in ((fX9_chance σ a b bb).2.1 34 13) 9 ∧ (fX9_chance σ a b bb).1 = fX10_chance (fX9_chance σ a b bb).2 a b bb ∧ Rv (fX9_chance σ a b bb).2 := by
    intro z e9 e10
    rw [e9]
    exact ⟨h.hM, e10.symm, h⟩
  obtain ⟨n, w, B, Hd, C, Gd, d, P⟩ := h.2.1.hp
  obtain ⟨a1, a2, a3, a4, a5, a6, b1, b2, b3, b4, b5, b6, b7, b8, b9, c1, c2, c3, c4⟩ := id P
  by_cases c : fX10_isThing σ a = true
  · obtain ⟨t, ht, rfl⟩ := (thing_iff b2 (by omega)).mp c
    have c9 : fX2_has σ 49 (nI t) = true := by rw [thing_has h]; exact c
    by_cases d0 : 0 ≤ b
    · by_cases d10 : 10 < b
      · exact same (-2) (by unfold fX9_chance; rw [if_pos c9, if_pos d0, if_pos d10]) (by unfold fX10_chance; rw [if_pos c, if_neg (in_neg2 (y := 10) rfl (Int32.not_le.mpr d10))])
      · have hin : fX10_in b.toInt64 0 10 = true := in_pos (x := 0) (y := 10) rfl rfl d0 (Int32.not_lt.mp d10)
        obtain ⟨x, hx, rfl⟩ := in10 hin
        have S1 := SH_lt n B Hd
        have eS2 := shn2 (h := 49) a1 b1 b6 b8
        have eB2 := bk2 a1 b1 b6 c1 c3
        have D1 : SHb n B Hd &&& BKb n B C Gd < 2 ^ n := Nat.lt_of_le_of_lt Nat.and_le_left S1
        have eA : fX2_alikeTo σ 49 (nI t) (σ.1 49 2) (nI (SHb n B Hd)) = nI (ALb n d w t (SHb n B Hd)) := by
          rw [b3]
          exact al2 (by decide) P.ch ht (by omega) (p31 a1 S1)
        have hA := AL_lt n d w t (SHb n B Hd)
        have hFr : ∀ r : Mm, r.1 34 = σ.1 34 → fX10_frail r (nI (SHb n B Hd)) = nI (SHb n B Hd &&& BKb n B C Gd) := by
          intro r er
          rw [frail10 (r := r) (by rw [er]; exact P.rg) (by rw [er]; exact c2) a5 (p31 a1 S1)]
          congr 1
          refine set_ext (n := n) (bs_lt _ n) D1 fun k hk => ?_
          rw [bs_tb, decide_eq_true hk, Bool.true_and, Nat.testBit_and]
          unfold SHb BKb
          rw [bs_tb, bs_tb, decide_eq_true hk, Bool.true_and, Bool.true_and, Nat.testBit_eq_decide_div_mod_eq (x := Gd), (c4 k hk).2.2.2.1]
          have d7 := (c4 k hk).2.2.1
          cases B.testBit k <;> cases Hd.testBit k <;> cases C.testBit k <;> rcases (show d k 7 = 0 ∨ d k 7 = 1 by omega) with e | e <;> rw [e] <;> rfl
        have eD : nI (SHb n B Hd) &&& nI (BKb n B C Gd) = nI (SHb n B Hd &&& BKb n B C Gd) := nI_and _ _
        generalize SHb n B Hd &&& BKb n B C Gd = F at D1 hFr eD
        have eS10 : ∀ r : Mm, r.1 34 = σ.1 34 → fX10_shown r 0 = nI (SHb n B Hd) := fun r er => shn10 (l := 0) a1 (by rw [er]; exact b2) (by rw [er]; exact b7) (by rw [er]; exact b9)
        generalize SHb n B Hd = S at S1 eS2 eA hA hFr eD eS10
        generalize hτ : fX0_weigh σ 49 (nI t) (nI x) = τ
        obtain ⟨ap, al⟩ := al_pos (F := F) hx
        have sa := sm_sa n d w S F x t
        have pw := pc_le (ALb n d w t S)
        have key : τ.1 32 1 = nI (sm (smT n d w S F x t) 256 / Nat.gcd (sm (smT n d w S F x t) 256) (sm (alT F x) 256)) ∧ τ.1 32 2 = nI (sm (alT F x) 256 / Nat.gcd (sm (smT n d w S F x t) 256) (sm (alT F x) 256)) ∧ (∀ q, q ≠ 32 → τ.1 q = σ.1 q) ∧ τ.2 = σ.2 := by
          rw [← hτ]
          unfold fX0_weigh fX0_weigh_38
          rw [eS2, eB2, eD, eA, holds_tb (p31 a1 S1) (by omega), nI_dif, holds_tb (p31 a1 D1) (by omega)]
          have zero : (S.testBit t = false ∨ ¬ dif (ALb n d w t S) F = 0) → (up (up σ 32 1 0) 32 2 1).1 32 1 = nI (sm (smT n d w S F x t) 256 / Nat.gcd (sm (smT n d w S F x t) 256) (sm (alT F x) 256)) ∧ (up (up σ 32 1 0) 32 2 1).1 32 2 = nI (sm (alT F x) 256 / Nat.gcd (sm (smT n d w S F x t) 256) (sm (alT F x) 256)) ∧ (∀ q, q ≠ 32 → (up (up σ 32 1 0) 32 2 1).1 q = σ.1 q) ∧ (up (up σ 32 1 0) 32 2 1).2 = σ.2 := by
            intro z
            rw [smT_0 a1 S1 ht z, Nat.gcd_zero_left, Nat.zero_div, Nat.div_self ap]
            refine ⟨?_, up_e, fun q hq => by rw [up_ne hq, up_ne hq], rfl⟩
            rw [up_n (by decide), up_e]
            rfl
          by_cases q1 : S.testBit t = true
          · rw [if_pos q1]
            have hd31 : dif (ALb n d w t S) F < 2 ^ 31 := p31 a1 (dif_lt hA F)
            by_cases q2 : dif (ALb n d w t S) F = 0
            · rw [if_pos ((n0 hd31).mpr q2)]
              have fr := same_fr a1 S1 ht hx q1 q2
              have main : ∀ v : Nat, v ≤ 10 → sm (smT n d w S F x t) 256 * (10 * 10 ^ pc (ALb n d w t S)) = (v * x ^ pc (ALb n d w t S)) * sm (alT F x) 256 → (fX0_weigh_77 49 (nI t) (nI x) (up (up σ 32 1 0) 32 2 1) (nI (ALb n d w t S)) (nI v)).1 32 1 = nI (sm (smT n d w S F x t) 256 / Nat.gcd (sm (smT n d w S F x t) 256) (sm (alT F x) 256)) ∧ (fX0_weigh_77 49 (nI t) (nI x) (up (up σ 32 1 0) 32 2 1) (nI (ALb n d w t S)) (nI v)).1 32 2 = nI (sm (alT F x) 256 / Nat.gcd (sm (smT n d w S F x t) 256) (sm (alT F x) 256)) ∧ (∀ q, q ≠ 32 → (fX0_weigh_77 49 (nI t) (nI x) (up (up σ 32 1 0) 32 2 1) (nI (ALb n d w t S)) (nI v)).1 q = σ.1 q) ∧ (fX0_weigh_77 49 (nI t) (nI x) (up (up σ 32 1 0) 32 2 1) (nI (ALb n d w t S)) (nI v)).2 = σ.2 := by
                intro v hv fr
                have p10 : 0 < 10 ^ pc (ALb n d w t S) := Nat.pow_pos (by decide)
                have l10 : 10 ^ pc (ALb n d w t S) ≤ 10 ^ 8 := Nat.pow_le_pow_right (by decide) pw
                have lx : x ^ pc (ALb n d w t S) ≤ 10 ^ 8 := Nat.le_trans (Nat.pow_le_pow_left hx _) l10
                have lv : v * x ^ pc (ALb n d w t S) ≤ 10 * 10 ^ 8 := Nat.mul_le_mul hv lx
                obtain ⟨s', s0, s1, s2, s3, s4⟩ := wl2_go (ρ := σ) (h1 := 49) (a2 := nI t) (A := ALb n d w t S) (x := x) (u := v) (l := 10) (p8 a1 hA) (pc (ALb n d w t S)) (pc (ALb n d w t S) + 1) 0 (up (up (up (up σ 32 1 0) 32 2 1) 32 1 (nI v)) 32 2 10) (by omega) (by omega) (by rw [up_n (by decide), up_e, Nat.pow_zero, Nat.mul_one]) (by rw [up_e]; rfl) (fun q hq => by rw [up_ne hq, up_ne hq, up_ne hq, up_ne hq]) rfl
                have e77 : fX0_weigh_77 49 (nI t) (nI x) (up (up σ 32 1 0) 32 2 1) (nI (ALb n d w t S)) (nI v) = fX0_reduce s' := by
                  unfold fX0_weigh_77 mX0_weigh_89
                  rw [bits_pc (p8 a1 hA), nI_clamp (by omega)]
                  exact s0
                obtain ⟨r1, r2, r3, r4⟩ := red_eq s1 s2 (by omega) (by omega) (by omega)
                obtain ⟨f1, f2⟩ := frac fr ap (by omega)
                rw [e77, r1, r2, f1, f2]
                exact ⟨rfl, rfl, fun q hq => (r3 q hq).trans (s3 q hq), r4.trans s4⟩
              by_cases q3 : F.testBit t = true
              · rw [if_pos q3] at fr
                rw [if_pos q3, show (10 : Int32) = nI 10 from rfl, pk_sub hx]
                exact main (10 - x) (by omega) fr
              · rw [if_neg q3] at fr
                rw [if_neg q3]
                exact main 10 (by decide) fr
            · rw [if_neg (fun z => q2 ((n0 hd31).mp z))]
              exact zero (Or.inr q2)
          · rw [if_neg q1]
            exact zero (Or.inl (Bool.eq_false_iff.mpr q1))
        obtain ⟨k1, k2, k3, k4⟩ := key
        have e34 : τ.1 34 = σ.1 34 := k3 34 (by decide)
        have e9 : fX9_chance σ (nI t) (nI x) bb = (if bb = true then τ.1 32 1 else τ.1 32 2, τ) := by
          unfold fX9_chance
          rw [if_pos c9, if_pos d0, if_neg d10, hτ]
          cases bb
          · rw [if_neg (by decide), if_neg (by decide)]
          · rw [if_pos rfl, if_pos rfl]
        have e10 : fX10_chance τ (nI t) (nI x) bb = if bb = true then τ.1 32 1 else τ.1 32 2 := by
          have g := ch45 (σ := τ) (a3 := bb) (F := F) (x := x) (by rw [e34]; exact P.rg) (by rw [e34]; exact b4) (by omega) (eS10 τ e34) S1 ht (p8 a1 D1) hx 256 257 0 (by decide) (by decide)
          have g : fX10_chance_45 τ (nI t) (nI x) bb 257 (nI F) 0 0 0 = _ := g
          have hgl := Nat.le_of_dvd ap (Nat.gcd_dvd_right (sm (smT n d w S F x t) 256) (sm (alT F x) 256))
          have hgp := Nat.gcd_pos_of_pos_right (sm (smT n d w S F x t) 256) ap
          unfold fX10_chance
          rw [if_pos (by rw [thing_h e34]; exact c), if_pos hin, eS10 τ e34, hFr τ e34, g]
          unfold fX10_chance_171
          rw [com_eq (by omega) al, pk_div (by omega) hgp (by omega), pk_div al hgp (by omega), k1, k2]
        rw [e9]
        refine ⟨by show vp_in (τ.1 34 13) 9; rw [e34]; exact h.hM, ?_, h.scr (fun q q1 _ _ => k3 q (by omega)) (by rw [k3 26 (by decide)]) (fun j _ => by rw [k3 33 (by decide)]) (fun j _ => by rw [e34]) (by rw [k4]; exact h.2.2.2.2.2)⟩
        show _ = fX10_chance τ (nI t) (nI x) bb
        rw [e10]
    · exact same (-2) (by unfold fX9_chance; rw [if_pos c9, if_neg d0]) (by unfold fX10_chance; rw [if_pos c, if_neg (in_neg1 (x := 0) rfl d0)])
  · exact same (-1) (by unfold fX9_chance; rw [thing_has h, if_neg c]) (by unfold fX10_chance; rw [if_neg c])
