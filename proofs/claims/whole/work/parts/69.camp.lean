/-! the campaign -/
def csm (d : Nat → Nat → Nat) (A : Nat) : Nat → Nat
  | 0 => 0
  | k + 1 => csm d A k + (if A.testBit k = true then d k 6 + 5 * d k 7 else 0)
theorem csm_n {d : Nat → Nat → Nat} {A n : Nat} (hA : A < 2 ^ n) : ∀ j, csm d A (n + j) = csm d A n := by
  intro j
  induction j with
  | zero => rfl
  | succ j ih =>
    show csm d A (n + j) + (if A.testBit (n + j) = true then d (n + j) 6 + 5 * d (n + j) 7 else 0) = _
    rw [tb_big hA (by omega), if_neg (by decide), ih, Nat.add_zero]
theorem csm_le {d : Nat → Nat → Nat} {A n : Nat} (hd : ∀ i, i < n → d i 6 ≤ 9 ∧ d i 7 ≤ 1) : ∀ j, j ≤ n → csm d A j ≤ 14 * j := by
  intro j
  induction j with
  | zero => intro _; exact Nat.zero_le _
  | succ j ih =>
    intro hj
    have := ih (by omega)
    obtain ⟨h1, h2⟩ := hd j (by omega)
    show csm d A j + (if A.testBit j = true then d j 6 + 5 * d j 7 else 0) ≤ _
    split <;> omega
theorem ctb_go {s : Mm} {n A G : Nat} {d : Nat → Nat → Nat} (D : CH (s.1 49) (s.1 50) n d) (hA : A < 2 ^ n) (hG : G < 2 ^ n) (e4 : s.1 49 4 = nI G) (hg : ∀ i, i < n → G.testBit i = decide (d i 7 = 1)) : ∀ m k, 8 < k + m → k ≤ 8 → fX5_costToBreak_4 s 49 (nI A) m (nI (csm d A k)) k = nI (csm d A 8) := by
  have n8 := D.1
  intro m
  induction m with
  | zero => intro k h1 h2; omega
  | succ m ih =>
    intro k h1 h2
    show (if (nI k) < 8 then (if (fX9_holds (nI A) (nI k)) = true then (if (fX9_holds (s.1 49 4) (nI k)) = true then (fX5_costToBreak_4 s 49 (nI A) m (nI (csm d A k) + ((fX2_figure s 49 (nI k) 6) + 5)) (k + 1)) else (fX5_costToBreak_4 s 49 (nI A) m (nI (csm d A k) + ((fX2_figure s 49 (nI k) 6) + 0)) (k + 1))) else (fX5_costToBreak_4 s 49 (nI A) m (nI (csm d A k)) (k + 1))) else nI (csm d A k)) = _
    by_cases c : k < 8
    · have g := ih (k + 1) (by omega) (by omega)
      have e1 : csm d A (k + 1) = csm d A k + (if A.testBit k = true then d k 6 + 5 * d k 7 else 0) := rfl
      rw [if_pos (show nI k < 8 from nI_lt c (by decide)), holds_tb (p31 n8 hA) c]
      by_cases q : A.testBit k = true
      · have hk : k < n := by
          by_cases z : k < n
          · exact z
          · rw [tb_big hA (by omega)] at q
            exact absurd q (by decide)
        obtain ⟨f1, f2, f3, f4⟩ := D.2.2 k hk
        rw [if_pos q, e4, holds_tb (p31 n8 hG) c, hg k hk, show fX2_figure s 49 (nI k) 6 = nI (d k 6) from fig2 (by decide) D hk (k := 6) (by decide)]
        rw [if_pos q] at e1
        by_cases q2 : d k 7 = 1
        · rw [decide_eq_true q2, if_pos rfl, show nI (d k 6) + 5 = nI (d k 6 + 5) from nI_add _ 5, nI_add, ← g, e1, q2]
        · have q0 : d k 7 = 0 := by omega
          rw [decide_eq_false q2, if_neg (by decide), show nI (d k 6) + 0 = nI (d k 6 + 0) from nI_add _ 0, nI_add, ← g, e1, q0]
      · rw [if_neg q] at e1
        rw [if_neg q, ← g, e1]
        rfl
    · rw [if_neg (show ¬ nI k < 8 from nI_nlt (a := k) (b := 8) (by omega) (by omega)), show k = 8 by omega]
theorem cb_go {r : Mm} {n A b : Nat} {a1 a2 : Int32} {d : Nat → Nat → Nat} (D : RG (r.1 34) n d) (hA : A < 2 ^ n) : ∀ m k, n < k + m → k ≤ n → fX10_costBy_45 r a1 a2 m (nI A) (nI (b + csm d A k)) k = nI (b + csm d A n) := by
  have n8 := D.1
  intro m
  induction m with
  | zero => intro k h1 h2; omega
  | succ m ih =>
    intro k h1 h2
    show (if (nI k) < (r.1 34 13) then (if (fX10_has (nI A) (nI k)) = true then (fX10_costBy_45 r a1 a2 m (nI A) (nI (b + csm d A k) + ((fX10_costOf r (nI k)) + (5 * (fX10_guardOf r (nI k))))) (k + 1)) else (fX10_costBy_45 r a1 a2 m (nI A) (nI (b + csm d A k) + 0) (k + 1))) else nI (b + csm d A k)) = _
    rw [D.2.1]
    by_cases c : k < n
    · have g := ih (k + 1) (by omega) (by omega)
      have e1 : csm d A (k + 1) = csm d A k + (if A.testBit k = true then d k 6 + 5 * d k 7 else 0) := rfl
      obtain ⟨p1, p2, p3, p4⟩ := parts10 D c
      rw [if_pos (nI_lt c (by omega)), has_tb (p31 n8 hA) (by omega), p2, p4]
      by_cases q : A.testBit k = true
      · rw [if_pos q] at e1
        rw [if_pos q, show (5 : Int32) = nI 5 from rfl, pk_mul, nI_add, nI_add, ← g, e1, Nat.add_assoc]
      · rw [if_neg q] at e1
        rw [if_neg q, show nI (b + csm d A k) + 0 = nI (b + csm d A k + 0) from nI_add _ 0, ← g, e1]
        rfl
    · rw [if_neg (nI_nlt (by omega) (by omega)), show k = n by omega]
def ap (a b : Nat) : Nat := if a < b then b - a else a - b
theorem apart_ap : ∀ a, a < 5 → ∀ b, b < 5 → fX10_apart (nI a) (nI b) = nI (ap a b) ∧ ap a b ≤ 4 := by decide +kernel
def smc (n : Nat) (d : Nat → Nat → Nat) (w t S k : Nat) : Nat := 3 * ap k w + csm d (ALb n d k t S) n
theorem cost10 {r : Mm} {n w t S C k : Nat} {d : Nat → Nat → Nat} (D : RG (r.1 34) n d) (hS : fX10_shown r 0 = nI S) (S1 : S < 2 ^ n) (hw : r.1 34 11 = nI w) (w4 : w < 5) (hC : r.1 34 10 = nI C) (ht : t < n) (k5 : k < 5) : fX10_costBy r (nI t) (nI k) = if ALb n d k t S &&& C = 0 then nI (smc n d w t S k) else -9 := by
  have n8 := D.1
  have hl : ALb n d k t S &&& C < 2 ^ 31 := Nat.lt_of_le_of_lt Nat.and_le_left (p31 n8 (AL_lt _ _ _ _ _))
  unfold fX10_costBy mX10_costBy_45
  rw [hS, al10 D ht (by omega) (p31 n8 S1), hC, nI_and, hw, (apart_ap k k5 w w4).1, show (3 : Int32) = nI 3 from rfl, pk_mul, D.2.1, nI_clamp (by omega)]
  by_cases q : ALb n d k t S &&& C = 0
  · rw [if_pos ((n0 hl).mpr q), if_pos q]
    exact cb_go D (AL_lt _ _ _ _ _) (n + 1) 0 (by omega) (by omega)
  · rw [if_neg (fun z => q ((n0 hl).mp z)), if_neg q]
def cinv (n : Nat) (d : Nat → Nat → Nat) (w t S C : Nat) (s : Mm) (x : Int32) : Prop := (x = -9 ∧ s.1 6 0 = -9 ∧ s.1 6 1 = -9 ∧ s.1 6 2 = -9) ∨ ∃ y, 1 ≤ y ∧ y < 5 ∧ x = nI y ∧ ALb n d y t S &&& C = 0 ∧ s.1 6 0 = nI (smc n d w t S y) ∧ s.1 6 1 = nI y ∧ s.1 6 2 = nI (ALb n d y t S)
theorem ne9 {x : Nat} (h : x < 2 ^ 31) : ¬ nI x = -9 := fun q => by
  have z := congrArg Int32.toInt q
  rw [nI_toInt h] at z
  have z9 : (-9 : Int32).toInt = -9 := rfl
  omega
theorem smc_lt {n w t S k : Nat} {d : Nat → Nat → Nat} (n8 : n ≤ 8) (hd : ∀ i, i < n → d i 6 ≤ 9 ∧ d i 7 ≤ 1) (k5 : k < 5) (w5 : w < 5) : smc n d w t S k < 2 ^ 31 := by
  have h1 := csm_le (A := ALb n d k t S) hd n (Nat.le_refl _)
  have h2 := (apart_ap k k5 w w5).2
  unfold smc
  omega
theorem sk_go {σ : Mm} {n w B Hd C Gd t S : Nat} {d : Nat → Nat → Nat} (P : HP (σ.1 49) (σ.1 50) (σ.1 34) n w B Hd C Gd d) (ht : t < n) (eS : SHb n B Hd = S) : ∀ m k s x, 5 < k + m → 1 ≤ k → k ≤ 5 → (∀ q, q ≠ 6 → s.1 q = σ.1 q) → s.2 = σ.2 → cinv n d w t S C s x → ∃ x', cinv n d w t S C (fX5_seekCampaign_20 49 (nI t) m s k) x' ∧ (∀ q, q ≠ 6 → (fX5_seekCampaign_20 49 (nI t) m s k).1 q = σ.1 q) ∧ (fX5_seekCampaign_20 49 (nI t) m s k).2 = σ.2 ∧ ∀ r, (∀ k, k < 5 → fX10_costBy r (nI t) (nI k) = if ALb n d k t S &&& C = 0 then nI (smc n d w t S k) else -9) → fX10_campaignWord_5 r (nI t) m x k = x' := by
  obtain ⟨a1, a2, a3, a4, a5, a6, b1, b2, b3, b4, b5, b6, b7, b8, b9, c1, c2, c3, c4⟩ := id P
  have S1 : S < 2 ^ n := by rw [← eS]; exact SH_lt _ _ _
  have hd : ∀ i, i < n → d i 6 ≤ 9 ∧ d i 7 ≤ 1 := fun i hi => ⟨(c4 i hi).1 6 (by decide), (c4 i hi).2.2.1⟩
  intro m
  induction m with
  | zero => intro k s x h1 h2 h3; omega
  | succ m ih =>
    intro k s x h1 h2 h3 e1 e2 hi
    rw [fX5_seekCampaign_20]
    have cw : ∀ r, fX10_campaignWord_5 r (nI t) (m + 1) x k = (if (nI k) < 5 then (if (fX10_costBy r (nI t) (nI k)) = (-9) then (fX10_campaignWord_5 r (nI t) m x (k + 1)) else (if x = (-9) then (fX10_campaignWord_5 r (nI t) m (nI k) (k + 1)) else (if (fX10_costBy r (nI t) (nI k)) < (fX10_costBy r (nI t) x) then (fX10_campaignWord_5 r (nI t) m (nI k) (k + 1)) else (fX10_campaignWord_5 r (nI t) m x (k + 1))))) else x) := fun r => rfl
    by_cases c : k < 5
    · have s49 : s.1 49 = σ.1 49 := e1 49 (by decide)
      have D : CH (s.1 49) (s.1 (49 + 1)) n d := by
        rw [s49, show s.1 (49 + 1) = σ.1 50 from e1 50 (by decide)]
        exact P.ch
      have hA := AL_lt n d k t S
      have hl : ALb n d k t S &&& C < 2 ^ 31 := Nat.lt_of_le_of_lt Nat.and_le_left (p31 a1 hA)
      have eA : fX2_alikeTo s 49 (nI t) (nI k) (fX2_shown s 49) = nI (ALb n d k t S) := by
        rw [shn2 a1 (by rw [s49]; exact b1) (by rw [s49]; exact b6) (by rw [s49]; exact b8), eS, al2 (by decide) D ht (by omega) (p31 a1 S1)]
      have eC : fX5_costToBreak s 49 (nI (ALb n d k t S)) = nI (csm d (ALb n d k t S) n) := by
        have g := ctb_go (G := Gd) D hA a6 (by rw [s49]; exact c3) (fun i hi => by rw [Nat.testBit_eq_decide_div_mod_eq, (c4 i hi).2.2.2.1]) 9 0 (by decide) (by decide)
        obtain ⟨j, hj⟩ : ∃ j, 8 = n + j := ⟨8 - n, by omega⟩
        have e8 := csm_n (d := d) hA j
        rw [← hj] at e8
        rw [e8] at g
        exact g
      have e7 : s.1 49 7 = nI C := by rw [s49]; exact c1
      have ew : s.1 49 2 = nI w := by rw [s49]; exact b3
      have ksm : (3 : Int32) * nI (ap k w) + nI (csm d (ALb n d k t S) n) = nI (smc n d w t S k) := by
        rw [show (3 : Int32) = nI 3 from rfl, pk_mul, nI_add]
        rfl
      rw [if_pos (show nI k ≤ 4 from nI_le (a := k) (b := 4) (by omega) (by decide)), eA, e7, nI_and, ew, abs_apart k c w (by omega), (apart_ap k c w (by omega)).1, eC, ksm]
      have keep := ih (k + 1) s x (by omega) (by omega) (by omega) e1 e2 hi
      have take := ih (k + 1) (up (up (up s 6 0 (nI (smc n d w t S k))) 6 1 (nI k)) 6 2 (nI (ALb n d k t S))) (nI k) (by omega) (by omega) (by omega) (fun q hq => by rw [up_ne hq, up_ne hq, up_ne hq]; exact e1 q hq) e2
      have smk := smc_lt (t := t) (S := S) a1 hd c (show w < 5 by omega)
      by_cases q : ALb n d k t S &&& C = 0
      · have take := take (Or.inr ⟨k, h2, c, rfl, q, by rw [up_n (by decide), up_n (by decide), up_e], by rw [up_n (by decide), up_e], up_e⟩)
        rw [if_pos ((n0 hl).mpr q)]
        have ck : ∀ r, (∀ k, k < 5 → fX10_costBy r (nI t) (nI k) = if ALb n d k t S &&& C = 0 then nI (smc n d w t S k) else -9) → fX10_costBy r (nI t) (nI k) = nI (smc n d w t S k) := fun r hr => by rw [hr k c, if_pos q]
        rcases hi with ⟨x1, x2, x3, x4⟩ | ⟨y, y1, y2, y3, y4, y5, y6, y7⟩
        · rw [if_pos x2]
          obtain ⟨x', t1, t2, t3, t4⟩ := take
          refine ⟨x', t1, t2, t3, fun r hr => ?_⟩
          rw [cw r, if_pos (show nI k < 5 from nI_lt c (by decide)), ck r hr, if_neg (ne9 smk), if_pos x1]
          exact t4 r hr
        · have smy := smc_lt (t := t) (S := S) a1 hd y2 (show w < 5 by omega)
          rw [y5, if_neg (ne9 smy)]
          have cy : ∀ r, (∀ k, k < 5 → fX10_costBy r (nI t) (nI k) = if ALb n d k t S &&& C = 0 then nI (smc n d w t S k) else -9) → fX10_costBy r (nI t) x = nI (smc n d w t S y) := fun r hr => by rw [y3, hr y y2, if_pos y4]
          by_cases q2 : nI (smc n d w t S k) < nI (smc n d w t S y)
          · rw [if_pos q2]
            obtain ⟨x', t1, t2, t3, t4⟩ := take
            refine ⟨x', t1, t2, t3, fun r hr => ?_⟩
            rw [cw r, if_pos (show nI k < 5 from nI_lt c (by decide)), ck r hr, if_neg (ne9 smk), if_neg (by rw [y3]; exact ne9 (by omega)), cy r hr, if_pos q2]
            exact t4 r hr
          · rw [if_neg q2]
            obtain ⟨x', t1, t2, t3, t4⟩ := keep
            refine ⟨x', t1, t2, t3, fun r hr => ?_⟩
            rw [cw r, if_pos (show nI k < 5 from nI_lt c (by decide)), ck r hr, if_neg (ne9 smk), if_neg (by rw [y3]; exact ne9 (by omega)), cy r hr, if_neg q2]
            exact t4 r hr
      · rw [if_neg (fun z => q ((n0 hl).mp z))]
        obtain ⟨x', t1, t2, t3, t4⟩ := keep
        refine ⟨x', t1, t2, t3, fun r hr => ?_⟩
        rw [cw r, if_pos (show nI k < 5 from nI_lt c (by decide)), hr k c, if_neg q, if_pos rfl]
        exact t4 r hr
    · rw [if_neg (show ¬ nI k ≤ 4 from nI_ge (a := 4) (b := k) (by omega) (by omega))]
      refine ⟨x, hi, e1, e2, fun r hr => ?_⟩
      rw [cw r, if_neg (show ¬ nI k < 5 from nI_nlt (a := k) (b := 5) (by omega) (by omega))]
/-- the campaign on both sides -/
theorem camp_all {σ : Mm} (h : Rv σ) {n w B Hd C Gd t : Nat} {d : Nat → Nat → Nat} (P : HP (σ.1 49) (σ.1 50) (σ.1 34) n w B Hd C Gd d) (ht : t < n) : ∀ τ, fX5_seekCampaign σ 49 (nI t) = τ → Rv τ ∧ τ.1 34 = σ.1 34 ∧ ∃ x, cinv n d w t (SHb n B Hd) C τ x ∧ fX10_campaignWord τ (nI t) = x ∧ fX10_shown τ 0 = nI (SHb n B Hd) ∧ RG (τ.1 34) n d ∧ ∀ k, k < 5 → fX10_costBy τ (nI t) (nI k) = if ALb n d k t (SHb n B Hd) &&& C = 0 then nI (smc n d w t (SHb n B Hd) k) else -9 := by
  intro τ hτ
  obtain ⟨a1, a2, a3, a4, a5, a6, b1, b2, b3, b4, b5, b6, b7, b8, b9, c1, c2, c3, c4⟩ := id P
  obtain ⟨x, t1, t2, t3, t4⟩ := sk_go P ht rfl 6 1 (up (up (up σ 6 0 (-9)) 6 1 (-9)) 6 2 (-9)) (-9) (by decide) (by decide) (by decide) (fun q hq => by rw [up_ne hq, up_ne hq, up_ne hq]) rfl (Or.inl ⟨rfl, by rw [up_n (by decide), up_n (by decide), up_e], by rw [up_n (by decide), up_e], up_e⟩)
  have hτ' : fX5_seekCampaign_20 49 (nI t) 6 (up (up (up σ 6 0 (-9)) 6 1 (-9)) 6 2 (-9)) 1 = τ := hτ
  rw [hτ'] at t1 t2 t3
  have e34 := t2 34 (by decide)
  have D10 : RG (τ.1 34) n d := by rw [e34]; exact P.rg
  have hS : fX10_shown τ 0 = nI (SHb n B Hd) := shn10 (l := 0) a1 (by rw [e34]; exact b2) (by rw [e34]; exact b7) (by rw [e34]; exact b9)
  have hcost : ∀ k, k < 5 → fX10_costBy τ (nI t) (nI k) = if ALb n d k t (SHb n B Hd) &&& C = 0 then nI (smc n d w t (SHb n B Hd) k) else -9 := fun k hk => cost10 D10 hS (SH_lt _ _ _) (by rw [e34]; exact b4) (by omega) (by rw [e34]; exact c2) ht hk
  refine ⟨h.scr (fun k k1 k2 k3 => t2 k (by omega)) (by rw [t2 26 (by decide)]) (fun j hj => by rw [t2 33 (by decide)]) (fun j hj => by rw [e34]) (by rw [t3]; exact h.2.2.2.2.2), e34, x, t1, t4 τ hcost, hS, D10, hcost⟩
theorem s_campaign : sc_campaign Rv := by
  intro σ a h
  have same : ∀ z : Int32, fX9_campaign σ a = (z, σ) → fX10_campaign σ a = z → vp_in ((fX9_campaign σ a).2.1 34 13) 9 ∧ (fX9_campaign σ a).1 = fX10_campaign (fX9_campaign σ a).2 a ∧ Rv (fX9_campaign σ a).2 := by
    intro z e9 e10
    rw [e9]
    exact ⟨h.hM, e10.symm, h⟩
  obtain ⟨n, w, B, Hd, C, Gd, d, P⟩ := h.2.1.hp
  obtain ⟨a1, a2, a3, a4, a5, a6, b1, b2, b3, b4, b5, b6, b7, b8, b9, c1, c2, c3, c4⟩ := id P
  by_cases c : fX10_isThing σ a = true
  · obtain ⟨t, ht, rfl⟩ := (thing_iff b2 (by omega)).mp c
    have c9 : fX2_has σ 49 (nI t) = true := by rw [thing_has h]; exact c
    have s2 := shn2 (h := 49) a1 b1 b6 b8
    have s10 := shn10 (l := 0) a1 b2 b7 b9
    by_cases q : (SHb n B Hd).testBit t = true
    · have q9 : fX9_holds (fX2_shown σ 49) (nI t) = true := by rw [s2, holds_tb (p31 a1 (SH_lt _ _ _)) (by omega)]; exact q
      generalize hτ : fX5_seekCampaign σ 49 (nI t) = τ
      obtain ⟨r1, r2, x, r3, r4, r5, r6, r7⟩ := camp_all h P ht τ hτ
      have e9 : fX9_campaign σ (nI t) = (τ.1 6 0, τ) := by
        unfold fX9_campaign
        rw [if_pos c9, if_pos q9, hτ]
      have cτ : fX10_isThing τ (nI t) = true := by rw [thing_h r2]; exact c
      have qτ : fX10_has (fX10_shown τ 0) (nI t) = true := by rw [r5, has_tb (p31 a1 (SH_lt _ _ _)) (by omega)]; exact q
      rw [e9]
      refine ⟨by show vp_in (τ.1 34 13) 9; rw [r2]; exact h.hM, ?_, r1⟩
      show τ.1 6 0 = fX10_campaign τ (nI t)
      unfold fX10_campaign
      rw [if_pos cτ, if_pos qτ, r4]
      rcases r3 with ⟨x1, x2, x3, x4⟩ | ⟨y, y1, y2, y3, y4, y5, y6, y7⟩
      · rw [if_pos x1, x2]
      · rw [y3, if_neg (ne9 (by omega)), r7 y y2, if_pos y4, y5]
    · have q9 : ¬ fX9_holds (fX2_shown σ 49) (nI t) = true := by rw [s2, holds_tb (p31 a1 (SH_lt _ _ _)) (by omega)]; exact q
      have q10 : ¬ fX10_has (fX10_shown σ 0) (nI t) = true := by rw [s10, has_tb (p31 a1 (SH_lt _ _ _)) (by omega)]; exact q
      exact same (-3) (by unfold fX9_campaign; rw [if_pos c9, if_neg q9]) (by unfold fX10_campaign; rw [if_pos c, if_neg q10])
  · exact same (-1) (by unfold fX9_campaign; rw [thing_has h, if_neg c]) (by unfold fX10_campaign; rw [if_neg c])
theorem s_campaignBy : sc_campaignBy Rv := by
  intro σ a b h
  have same : ∀ z : Int32, fX9_campaignBy σ a b = (z, σ) → fX10_campaignBy σ a b = z → vp_in ((fX9_campaignBy σ a b).2.1 34 13) 9 ∧ (fX9_campaignBy σ a b).1 = fX10_campaignBy (fX9_campaignBy σ a b).2 a b ∧ Rv (fX9_campaignBy σ a b).2 := by
    intro z e9 e10
    rw [e9]
    exact ⟨h.hM, e10.symm, h⟩
  obtain ⟨n, w, B, Hd, C, Gd, d, P⟩ := h.2.1.hp
  obtain ⟨a1, a2, a3, a4, a5, a6, b1, b2, b3, b4, b5, b6, b7, b8, b9, c1, c2, c3, c4⟩ := id P
  by_cases c : fX10_isThing σ a = true
  · obtain ⟨t, ht, rfl⟩ := (thing_iff b2 (by omega)).mp c
    have c9 : fX2_has σ 49 (nI t) = true := by rw [thing_has h]; exact c
    by_cases d0 : 0 ≤ b
    · by_cases d1 : 1 < b
      · exact same (-2) (by unfold fX9_campaignBy; rw [if_pos c9, if_pos d0, if_pos d1]) (by unfold fX10_campaignBy; rw [if_pos c, if_neg (in_neg2 (y := 1) rfl (Int32.not_le.mpr d1))])
      · have hin : fX10_in b.toInt64 0 1 = true := in_pos (x := 0) (y := 1) rfl rfl d0 (Int32.not_lt.mp d1)
        have s2 := shn2 (h := 49) a1 b1 b6 b8
        have s10 := shn10 (l := 0) a1 b2 b7 b9
        by_cases q : (SHb n B Hd).testBit t = true
        · have q9 : fX9_holds (fX2_shown σ 49) (nI t) = true := by rw [s2, holds_tb (p31 a1 (SH_lt _ _ _)) (by omega)]; exact q
          generalize hτ : fX5_seekCampaign σ 49 (nI t) = τ
          obtain ⟨r1, r2, x, r3, r4, r5, r6, r7⟩ := camp_all h P ht τ hτ
          have e9 : fX9_campaignBy σ (nI t) b = (if b = 0 then τ.1 6 1 else τ.1 6 2, τ) := by
            unfold fX9_campaignBy
            rw [if_pos c9, if_pos d0, if_neg d1, if_pos q9, hτ]
            by_cases z : b = 0
            · rw [if_pos z, if_pos z]
            · rw [if_neg z, if_neg z]
          have cτ : fX10_isThing τ (nI t) = true := by rw [thing_h r2]; exact c
          have qτ : fX10_has (fX10_shown τ 0) (nI t) = true := by rw [r5, has_tb (p31 a1 (SH_lt _ _ _)) (by omega)]; exact q
          rw [e9]
          refine ⟨by show vp_in (τ.1 34 13) 9; rw [r2]; exact h.hM, ?_, r1⟩
          show (if b = 0 then τ.1 6 1 else τ.1 6 2) = fX10_campaignBy τ (nI t) b
          unfold fX10_campaignBy
          rw [if_pos cτ, if_pos hin, if_pos qτ, r4]
          rcases r3 with ⟨x1, x2, x3, x4⟩ | ⟨y, y1, y2, y3, y4, y5, y6, y7⟩
          · rw [if_pos x1, x3, x4, ite_self]
          · rw [y3, if_neg (ne9 (by omega)), r5, al10 r6 ht (by omega) (p31 a1 (SH_lt _ _ _)), y6, y7]
        · have q9 : ¬ fX9_holds (fX2_shown σ 49) (nI t) = true := by rw [s2, holds_tb (p31 a1 (SH_lt _ _ _)) (by omega)]; exact q
          have q10 : ¬ fX10_has (fX10_shown σ 0) (nI t) = true := by rw [s10, has_tb (p31 a1 (SH_lt _ _ _)) (by omega)]; exact q
          exact same (-3) (by unfold fX9_campaignBy; rw [if_pos c9, if_pos d0, if_neg d1, if_neg q9]) (by unfold fX10_campaignBy; rw [if_pos c, if_pos hin, if_neg q10])
    · exact same (-2) (by unfold fX9_campaignBy; rw [if_pos c9, if_neg d0]) (by unfold fX10_campaignBy; rw [if_pos c, if_neg (in_neg1 (x := 0) rfl d0)])
  · exact same (-1) (by unfold fX9_campaignBy; rw [thing_has h, if_neg c]) (by unfold fX10_campaignBy; rw [if_neg c])
