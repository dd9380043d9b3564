/-! the acts, at the house now and at the trial -/
/-- a house on both sides, its numbers told -/
def HP (f t g : Nat → Int32) (n w B Hd C Gd : Nat) (d : Nat → Nat → Nat) : Prop := n ≤ 8 ∧ (1 ≤ w ∧ w ≤ 4) ∧ B < 2 ^ n ∧ Hd < 2 ^ n ∧ C < 2 ^ n ∧ Gd < 2 ^ n ∧ f 1 = nI n ∧ g 13 = nI n ∧ f 2 = nI w ∧ g 11 = nI w ∧ f 3 = g 12 ∧ f 5 = nI B ∧ g 8 = nI B ∧ f 6 = nI Hd ∧ g 9 = nI Hd ∧ f 7 = nI C ∧ g 10 = nI C ∧ f 4 = nI Gd ∧ ∀ i, i < n → (∀ k, k < 7 → d i k ≤ 9) ∧ d i 4 ≤ 2 ∧ d i 7 ≤ 1 ∧ Gd / 2 ^ i % 2 = d i 7 ∧ t i = nI (pkT (d i)) ∧ g i = nI (pkC (d i))
theorem HR.hp {f t g : Nat → Int32} (h : HR f t g) : ∃ n w B Hd C Gd d, HP f t g n w B Hd C Gd d := h
theorem HP.hr {f t g : Nat → Int32} {n w B Hd C Gd : Nat} {d : Nat → Nat → Nat} (h : HP f t g n w B Hd C Gd d) : HR f t g := ⟨n, w, B, Hd, C, Gd, d, h⟩
theorem HP.ch {f t g : Nat → Int32} {n w B Hd C Gd : Nat} {d : Nat → Nat → Nat} (h : HP f t g n w B Hd C Gd d) : CH f t n d := by
  obtain ⟨a1, a2, a3, a4, a5, a6, b1, b2, b3, b4, b5, b6, b7, b8, b9, c1, c2, c3, c4⟩ := h
  exact ⟨a1, b1, fun i hi => ⟨(c4 i hi).1, (c4 i hi).2.1, (c4 i hi).2.2.1, (c4 i hi).2.2.2.2.1⟩⟩
theorem HP.rg {f t g : Nat → Int32} {n w B Hd C Gd : Nat} {d : Nat → Nat → Nat} (h : HP f t g n w B Hd C Gd d) : RG g n d := by
  obtain ⟨a1, a2, a3, a4, a5, a6, b1, b2, b3, b4, b5, b6, b7, b8, b9, c1, c2, c3, c4⟩ := h
  exact ⟨a1, b2, fun i hi => ⟨(c4 i hi).1, (c4 i hi).2.1, (c4 i hi).2.2.1, (c4 i hi).2.2.2.2.2⟩⟩
theorem HP.set {f t g f' t' g' : Nat → Int32} {n w B Hd C Gd : Nat} {d : Nat → Nat → Nat} (h : HP f t g n w B Hd C Gd d) {B' Hd' C' : Nat} (l1 : B' < 2 ^ n) (l2 : Hd' < 2 ^ n) (l3 : C' < 2 ^ n) (x1 : f' 5 = nI B') (x2 : g' 8 = nI B') (x3 : f' 6 = nI Hd') (x4 : g' 9 = nI Hd') (x5 : f' 7 = nI C') (x6 : g' 10 = nI C') (hf : ∀ j, 1 ≤ j → j ≤ 4 → f' j = f j) (ht : ∀ j, j < 8 → t' j = t j) (hg : ∀ j, j < 14 → j ≠ 8 → j ≠ 9 → j ≠ 10 → g' j = g j) : HP f' t' g' n w B' Hd' C' Gd d := by
  obtain ⟨a1, a2, a3, a4, a5, a6, b1, b2, b3, b4, b5, b6, b7, b8, b9, c1, c2, c3, c4⟩ := h
  refine ⟨a1, a2, l1, l2, l3, a6, ?_, ?_, ?_, ?_, ?_, x1, x2, x3, x4, x5, x6, ?_, fun i hi => ?_⟩
  · rw [hf 1 (by decide) (by decide)]; exact b1
  · rw [hg 13 (by decide) (by decide) (by decide) (by decide)]; exact b2
  · rw [hf 2 (by decide) (by decide)]; exact b3
  · rw [hg 11 (by decide) (by decide) (by decide) (by decide)]; exact b4
  · rw [hf 3 (by decide) (by decide), hg 12 (by decide) (by decide) (by decide) (by decide)]; exact b5
  · rw [hf 4 (by decide) (by decide)]; exact c3
  · rw [ht i (by omega), hg i (by omega) (by omega) (by omega) (by omega)]
    exact c4 i hi
/-- a guard set or taken -/
theorem flipbit : ∀ G, G < 256 → ∀ i, i < 8 → (G ^^^ 2 ^ i) / 2 ^ i % 2 = 1 - G / 2 ^ i % 2 ∧ ∀ j, j < 8 → j ≠ i → (G ^^^ 2 ^ i) / 2 ^ j % 2 = G / 2 ^ j % 2 := by decide +kernel
def sd (d : Nat → Nat → Nat) (i : Nat) : Nat → Nat → Nat := fun j k => if j = i ∧ k = 7 then 1 - d i 7 else d j k
theorem sd_k {d : Nat → Nat → Nat} {i j k : Nat} (h : k ≠ 7) : sd d i j k = d j k := if_neg (fun q => h q.2)
theorem sd_7 {d : Nat → Nat → Nat} {i : Nat} : sd d i i 7 = 1 - d i 7 := if_pos ⟨rfl, rfl⟩
theorem sd_j {d : Nat → Nat → Nat} {i j : Nat} (h : j ≠ i) : sd d i j = d j := by
  funext k
  exact if_neg (fun q => h q.1)
theorem sd_T (d : Nat → Nat → Nat) (i j : Nat) : pkT (sd d i j) = pkT (d j) := by
  unfold pkT
  rw [sd_k (by decide), sd_k (by decide), sd_k (by decide), sd_k (by decide), sd_k (by decide), sd_k (by decide), sd_k (by decide)]
theorem sd_C (d : Nat → Nat → Nat) (i : Nat) (h : d i 7 ≤ 1) : pkC (sd d i i) = if d i 7 = 0 then pkC (d i) + 1 else pkC (d i) - 1 := by
  unfold pkC
  rw [sd_k (by decide), sd_k (by decide), sd_k (by decide), sd_k (by decide), sd_k (by decide), sd_k (by decide), sd_k (by decide), sd_7]
  by_cases c : d i 7 = 0
  · rw [if_pos c, c]
  · rw [if_neg c]
    have e : d i 7 = 1 := by omega
    rw [e]
    omega
theorem HP.grd {f t g f' t' g' : Nat → Int32} {n w B Hd C Gd : Nat} {d : Nat → Nat → Nat} (h : HP f t g n w B Hd C Gd d) {i : Nat} (hi : i < n) (x1 : f' 4 = nI (Gd ^^^ 2 ^ i)) (x2 : g' i = nI (pkC (sd d i i))) (hf : ∀ j, 1 ≤ j → j ≤ 7 → j ≠ 4 → f' j = f j) (ht : ∀ j, j < 8 → t' j = t j) (hg : ∀ j, j < 14 → j ≠ i → g' j = g j) : HP f' t' g' n w B Hd C (Gd ^^^ 2 ^ i) (sd d i) := by
  obtain ⟨a1, a2, a3, a4, a5, a6, b1, b2, b3, b4, b5, b6, b7, b8, b9, c1, c2, c3, c4⟩ := h
  obtain ⟨o1, o2⟩ := flipbit Gd (p8 a1 a6) i (by omega)
  refine ⟨a1, a2, a3, a4, a5, Nat.xor_lt_two_pow a6 (Nat.pow_lt_pow_right (by decide) hi), ?_, ?_, ?_, ?_, ?_, ?_, ?_, ?_, ?_, ?_, ?_, x1, fun j hj => ?_⟩
  · rw [hf 1 (by decide) (by decide) (by decide)]; exact b1
  · rw [hg 13 (by decide) (by omega)]; exact b2
  · rw [hf 2 (by decide) (by decide) (by decide)]; exact b3
  · rw [hg 11 (by decide) (by omega)]; exact b4
  · rw [hf 3 (by decide) (by decide) (by decide), hg 12 (by decide) (by omega)]; exact b5
  · rw [hf 5 (by decide) (by decide) (by decide)]; exact b6
  · rw [hg 8 (by decide) (by omega)]; exact b7
  · rw [hf 6 (by decide) (by decide) (by decide)]; exact b8
  · rw [hg 9 (by decide) (by omega)]; exact b9
  · rw [hf 7 (by decide) (by decide) (by decide)]; exact c1
  · rw [hg 10 (by decide) (by omega)]; exact c2
  · obtain ⟨q1, q2, q3, q4, q5, q6⟩ := c4 j hj
    rw [ht j (by omega)]
    by_cases e : j = i
    · subst e
      refine ⟨fun k hk => ?_, ?_, ?_, ?_, ?_, x2⟩
      · rw [sd_k (by omega)]
        exact q1 k hk
      · rw [sd_k (by decide)]
        exact q2
      · rw [sd_7]
        omega
      · rw [sd_7, o1, q4]
      · rw [sd_T]
        exact q5
    · rw [sd_j e, hg j (by omega) e, o2 j (by omega) e]
      exact ⟨q1, q2, q3, q4, q5, q6⟩
/-- whether an act can be: the number, the class's and the reference's telling -/
def cab (n : Nat) (d : Nat → Nat → Nat) (w B Hd C Gd : Nat) : Nat → Nat → Bool
  | 0, i => !B.testBit i && (!C.testBit i && !Gd.testBit i)
  | 1, i => (LAb n d w (SHb n B Hd)).testBit i && !C.testBit i
  | 2, i => !B.testBit i && !C.testBit i
  | _ + 3, i => !B.testBit i
def can10 (r : Mm) (l : Nat) : Nat → Nat → Bool
  | 0, i => fX10_canBreak r l (nI i)
  | 1, i => fX10_canClaim r l (nI i)
  | 2, i => fX10_canHide r l (nI i)
  | _ + 3, i => !fX10_has (r.1 34 (14 * l + 8)) (nI i)
def mk10 (r : Mm) (l : Nat) : Nat → Nat → Mm
  | 0, i => up r 34 (14 * l + 8) (r.1 34 (14 * l + 8) ||| (1 <<< ((nI i) &&& 31)))
  | 1, i => up r 34 (14 * l + 10) (r.1 34 (14 * l + 10) ||| (1 <<< ((nI i) &&& 31)))
  | 2, i => fX10_doHide r l (nI i)
  | _ + 3, i => fX10_doGuard r l (nI i)
theorem mk10_a {r : Mm} {l i : Nat} : mk10 r l 0 i = up r 34 (14 * l + 8) (r.1 34 (14 * l + 8) ||| (1 <<< ((nI i) &&& 31))) := rfl
theorem mk10_b {r : Mm} {l i : Nat} : mk10 r l 1 i = up r 34 (14 * l + 10) (r.1 34 (14 * l + 10) ||| (1 <<< ((nI i) &&& 31))) := rfl
theorem mk10_c {r : Mm} {l i : Nat} : mk10 r l 2 i = fX10_doHide r l (nI i) := rfl
theorem mk10_d {r : Mm} {l i : Nat} : mk10 r l 3 i = fX10_doGuard r l (nI i) := rfl
theorem has2 {s : Mm} {h n i : Nat} (e : s.1 h 1 = nI n) (hn : n ≤ 8) (hi : i < n) : fX2_has s h (nI i) = true := (has_iff e (by omega)).mpr ⟨i, hi, rfl⟩
theorem can2 {s : Mm} {h n w B Hd C Gd : Nat} {d' d : Nat → Nat → Nat} {g : Nat → Int32} (hh : 49 ≤ h) (P : HP (s.1 h) (s.1 (h + 1)) g n w B Hd C Gd d') (D : CH (s.1 h) (s.1 (h + 1)) n d) {i a : Nat} (hi : i < n) (ha : a < 4) : fX2_canBe s h (nI a) (nI i) = cab n d w B Hd C Gd a i := by
  obtain ⟨a1, a2, a3, a4, a5, a6, b1, b2, b3, b4, b5, b6, b7, b8, b9, c1, c2, c3, c4⟩ := P
  unfold fX2_canBe
  rw [if_pos (has2 b1 a1 hi)]
  have ti : (decide (i < n)) = true := decide_eq_true hi
  rcases (show a = 0 ∨ a = 1 ∨ a = 2 ∨ a = 3 by omega) with rfl | rfl | rfl | rfl
  · rw [if_pos (show nI 0 = 0 from rfl), bk2 a1 b1 b6 c1 c3, holds_tb (p31 a1 (BK_lt _ _ _ _)) (by omega)]
    unfold BKb
    rw [bs_tb, ti, Bool.true_and]
    rfl
  · rw [if_neg (show ¬ nI 1 = 0 from by decide), if_pos (show nI 1 = 1 from rfl), shn2 a1 b1 b6 b8, b3, la2 hh D (by omega) (p31 a1 (SH_lt _ _ _)), c1, nI_dif, holds_tb (p31 a1 (dif_lt (LA_lt _ _ _ _) _)) (by omega), dif_tb (Nat.lt_trans (p31 a1 (LA_lt _ _ _ _)) (by decide))]
    rfl
  · unfold fX2_there fX2_all
    rw [if_neg (show ¬ nI 2 = 0 from by decide), if_neg (show ¬ nI 2 = 1 from by decide), if_pos (show nI 2 = 2 from rfl), b1, b6, c1, th_n a1, th_dif a1, holds_tb (p31 a1 (SH_lt _ _ _)) (by omega)]
    unfold SHb
    rw [bs_tb, ti, Bool.true_and]
    rfl
  · unfold fX2_there fX2_all
    rw [if_neg (show ¬ nI 3 = 0 from by decide), if_neg (show ¬ nI 3 = 1 from by decide), if_neg (show ¬ nI 3 = 2 from by decide), if_pos (show nI 3 = 3 from rfl), b1, b6, th_n a1, holds_tb (p31 a1 (TH_lt _ _)) (by omega)]
    unfold THb
    rw [bs_tb, ti, Bool.true_and]
    rfl
theorem ix10 {l i : Nat} (hl : l ≤ 1) (hi : i < 8) : ((14 : Int32) * (nI l) + nI i).toNatClampNeg = 14 * l + i := by
  rw [show (14 : Int32) * nI l = nI (14 * l) from ne_mul (a := 14) rfl rfl, nI_add, nI_clamp (by omega)]
theorem gd10 {f t : Nat → Int32} {r : Mm} {l n w B Hd C Gd : Nat} {d' : Nat → Nat → Nat} (hl : l ≤ 1) (P : HP f t (fun j => r.1 34 (14 * l + j)) n w B Hd C Gd d') {i : Nat} (hi : i < n) : fX10_guardAt r l (nI i) = nI (d' i 7) ∧ r.1 34 (14 * l + i) = nI (pkC (d' i)) ∧ d' i 7 ≤ 1 ∧ Gd.testBit i = decide (d' i 7 = 1) ∧ pkC (d' i) < 2 ^ 31 ∧ pkC (d' i) % 2 = d' i 7 := by
  obtain ⟨a1, a2, a3, a4, a5, a6, b1, b2, b3, b4, b5, b6, b7, b8, b9, c1, c2, c3, c4⟩ := P
  obtain ⟨q1, q2, q3, q4, q5, q6⟩ := c4 i hi
  have hlt := pkC_lt q1 q3
  have hp := (pkC_parts q1 q2 q3).2.2.2
  have q6' : r.1 34 (14 * l + i) = nI (pkC (d' i)) := q6
  refine ⟨?_, q6', q3, ?_, hlt, hp⟩
  · unfold fX10_guardAt
    rw [ix10 hl (by omega), q6', show (2 : Int32) = nI 2 from rfl, rm_nI hlt (by decide) (by decide), hp]
  · rw [Nat.testBit_eq_decide_div_mod_eq, q4]
theorem can10_eq {f t : Nat → Int32} {r : Mm} {l n w B Hd C Gd : Nat} {d' d : Nat → Nat → Nat} (hl : l ≤ 1) (P : HP f t (fun j => r.1 34 (14 * l + j)) n w B Hd C Gd d') (D : RG (r.1 34) n d) {i a : Nat} (hi : i < n) (ha : a < 4) : can10 r l a i = cab n d w B Hd C Gd a i := by
  obtain ⟨g1, g2, g3, g4, g5, g6⟩ := gd10 hl P hi
  obtain ⟨a1, a2, a3, a4, a5, a6, b1, b2, b3, b4, b5, b6, b7, b8, b9, c1, c2, c3, c4⟩ := P
  have hB : fX10_has (r.1 34 (14 * l + 8)) (nI i) = B.testBit i := by
    rw [show r.1 34 (14 * l + 8) = nI B from b7, has_tb (p31 a1 a3) (by omega)]
  have hC : fX10_has (r.1 34 (14 * l + 10)) (nI i) = C.testBit i := by
    rw [show r.1 34 (14 * l + 10) = nI C from c2, has_tb (p31 a1 a5) (by omega)]
  rcases (show a = 0 ∨ a = 1 ∨ a = 2 ∨ a = 3 by omega) with rfl | rfl | rfl | rfl
  · show fX10_canBreak r l (nI i) = (!B.testBit i && (!C.testBit i && !Gd.testBit i))
    unfold fX10_canBreak
    rw [hB, hC, g1, g4]
    cases B.testBit i
    · cases C.testBit i
      · rcases (show d' i 7 = 0 ∨ d' i 7 = 1 by omega) with e | e <;> rw [e] <;> rfl
      · rfl
    · rfl
  · show fX10_canClaim r l (nI i) = ((LAb n d w (SHb n B Hd)).testBit i && !C.testBit i)
    unfold fX10_canClaim
    rw [hC, shn10 a1 b2 b7 b9, show r.1 34 (14 * l + 11) = nI w from b4, la10 D (by omega) (p31 a1 (SH_lt _ _ _)), has_tb (p31 a1 (LA_lt _ _ _ _)) (by omega)]
    cases (LAb n d w (SHb n B Hd)).testBit i <;> cases C.testBit i <;> rfl
  · show fX10_canHide r l (nI i) = (!B.testBit i && !C.testBit i)
    unfold fX10_canHide
    rw [hB, hC]
    cases B.testBit i <;> cases C.testBit i <;> rfl
  · show (!fX10_has (r.1 34 (14 * l + 8)) (nI i)) = !B.testBit i
    rw [hB]
theorem tlt {n i : Nat} (hi : i < n) : 2 ^ i < 2 ^ n := Nat.pow_lt_pow_right (by decide) hi
theorem xor_tb (a i : Nat) : (a ^^^ 2 ^ i).testBit i = !a.testBit i := by
  rw [Nat.testBit_xor, Nat.testBit_two_pow_self]
  cases a.testBit i <;> rfl
set_option maxHeartbeats 1000000 in
/-- the act done on both sides leaves the same house -/
theorem perf_hp {s r : Mm} {h l n w B Hd C Gd i a : Nat} {d d' : Nat → Nat → Nat} (hh : 49 ≤ h) (hl : l ≤ 1) (P : HP (s.1 h) (s.1 (h + 1)) (fun j => r.1 34 (14 * l + j)) n w B Hd C Gd d') (D : CH (s.1 h) (s.1 (h + 1)) n d) (D10 : RG (r.1 34) n d) (hi : i < n) (ha : a < 4) (hc : cab n d w B Hd C Gd a i = true) : HR ((fX2_perform s h (nI a) (nI i)).1 h) ((fX2_perform s h (nI a) (nI i)).1 (h + 1)) (fun j => (mk10 r l a i).1 34 (14 * l + j)) := by
  obtain ⟨g1, g2, g3, g4, g5, g6⟩ := gd10 hl P hi
  obtain ⟨a1, a2, a3, a4, a5, a6, b1, b2, b3, b4, b5, b6, b7, b8, b9, c1, c2, c3, c4⟩ := id P
  have b7' : r.1 34 (14 * l + 8) = nI B := b7
  have b9' : r.1 34 (14 * l + 9) = nI Hd := b9
  have c2' : r.1 34 (14 * l + 10) = nI C := c2
  have b4' : r.1 34 (14 * l + 11) = nI w := b4
  have hne : h + 1 ≠ h := by omega
  have ti := tlt hi
  rcases (show a = 0 ∨ a = 1 ∨ a = 2 ∨ a = 3 by omega) with rfl | rfl | rfl | rfl
  · unfold fX2_perform
    rw [mk10_a, if_pos (show nI 0 = 0 from rfl), b6, b7', bit_k i (by omega), nI_or]
    refine (P.set (B' := B ||| 2 ^ i) (Nat.or_lt_two_pow a3 ti) a4 a5 up_e ?_ ?_ ?_ ?_ ?_ (fun j j1 j2 => ?_) (fun j hj => ?_) (fun j hj j1 j2 j3 => ?_)).hr
    · exact up_e
    · rw [up_n (by decide)]; exact b8
    · show (up r 34 (14 * l + 8) _).1 34 (14 * l + 9) = _
      rw [up_n (by omega)]; exact b9
    · rw [up_n (by decide)]; exact c1
    · show (up r 34 (14 * l + 8) _).1 34 (14 * l + 10) = _
      rw [up_n (by omega)]; exact c2
    · rw [up_n (by omega)]
    · rw [up_ne hne]
    · show (up r 34 (14 * l + 8) _).1 34 (14 * l + j) = _
      rw [up_n (by omega)]
  · unfold fX2_perform
    rw [mk10_b, if_neg (show ¬ nI 1 = 0 from by decide), if_pos (show nI 1 = 1 from rfl), c1, c2', bit_k i (by omega), nI_or]
    refine (P.set (C' := C ||| 2 ^ i) a3 a4 (Nat.or_lt_two_pow a5 ti) ?_ ?_ ?_ ?_ up_e ?_ (fun j j1 j2 => ?_) (fun j hj => ?_) (fun j hj j1 j2 j3 => ?_)).hr
    · rw [up_n (by decide)]; exact b6
    · show (up r 34 (14 * l + 10) _).1 34 (14 * l + 8) = _
      rw [up_n (by omega)]; exact b7
    · rw [up_n (by decide)]; exact b8
    · show (up r 34 (14 * l + 10) _).1 34 (14 * l + 9) = _
      rw [up_n (by omega)]; exact b9
    · exact up_e
    · rw [up_n (by omega)]
    · rw [up_ne hne]
    · show (up r 34 (14 * l + 10) _).1 34 (14 * l + j) = _
      rw [up_n (by omega)]
  · have hB : B.testBit i = false := by
      have hc : (!B.testBit i && !C.testBit i) = true := hc
      cases e : B.testBit i
      · rfl
      · rw [e] at hc
        simp at hc
    have l2 : Hd ^^^ 2 ^ i < 2 ^ n := Nat.xor_lt_two_pow a4 ti
    rw [mk10_c]
    unfold fX2_perform fX10_doHide fX10_free
    rw [if_neg (show ¬ nI 2 = 0 from by decide), if_neg (show ¬ nI 2 = 1 from by decide), if_pos (show nI 2 = 2 from rfl), b8, b9', bit_k i (by omega), nI_xor]
    generalize hs : up s h 6 (nI (Hd ^^^ 2 ^ i)) = s'
    generalize hr : up r 34 (14 * l + 9) (nI (Hd ^^^ 2 ^ i)) = r'
    have s6 : s'.1 h 6 = nI (Hd ^^^ 2 ^ i) := by rw [← hs, up_e]
    have sk : ∀ j, j ≠ 6 → s'.1 h j = s.1 h j := fun j hj => by rw [← hs, up_n hj]
    have st : s'.1 (h + 1) = s.1 (h + 1) := by rw [← hs, up_ne hne]
    have r9 : r'.1 34 (14 * l + 9) = nI (Hd ^^^ 2 ^ i) := by rw [← hr, up_e]
    have rk : ∀ j, j ≠ 14 * l + 9 → r'.1 34 j = r.1 34 j := fun j hj => by rw [← hr, up_n hj]
    have D' : CH (s'.1 h) (s'.1 (h + 1)) n d := by
      rw [st]
      exact ⟨D.1, by rw [sk 1 (by decide)]; exact D.2.1, D.2.2⟩
    have D10' : RG (r'.1 34) n d := ⟨D10.1, by rw [rk 13 (by omega)]; exact D10.2.1, fun j hj => by rw [rk j (by omega)]; exact D10.2.2 j hj⟩
    have hsh : fX9_holds (fX2_shown s' h) (nI i) = !(Hd ^^^ 2 ^ i).testBit i := by
      rw [shn2 a1 ((sk 1 (by decide)).trans b1) ((sk 5 (by decide)).trans b6) s6, holds_tb (p31 a1 (SH_lt _ _ _)) (by omega)]
      unfold SHb
      rw [bs_tb, decide_eq_true hi, hB]
      rfl
    have hha : fX10_has (r'.1 34 (14 * l + 9)) (nI i) = (Hd ^^^ 2 ^ i).testBit i := by rw [r9, has_tb (p31 a1 l2) (by omega)]
    rw [hsh, hha]
    cases hb : (Hd ^^^ 2 ^ i).testBit i
    · rw [if_pos (show (!false) = true from rfl), if_neg (show ¬ false = true from by decide), sk 7 (by decide), sk 2 (by decide), c1, b3, rk _ (by omega), rk _ (by omega), c2', b4', al2 hh D' hi (by omega) (p31 a1 a5), al10 D10' hi (by omega) (p31 a1 a5), nI_dif]
      refine (P.set (Hd' := Hd ^^^ 2 ^ i) (C' := dif C (ALb n d w i C)) a3 l2 (dif_lt a5 _) ?_ ?_ ?_ ?_ up_e ?_ (fun j j1 j2 => ?_) (fun j hj => ?_) (fun j hj j1 j2 j3 => ?_)).hr
      · rw [up_n (by decide), sk 5 (by decide)]; exact b6
      · show (up r' 34 (14 * l + 10) _).1 34 (14 * l + 8) = _
        rw [up_n (by omega), rk _ (by omega)]; exact b7
      · rw [up_n (by decide)]; exact s6
      · show (up r' 34 (14 * l + 10) _).1 34 (14 * l + 9) = _
        rw [up_n (by omega)]; exact r9
      · exact up_e
      · rw [up_n (by omega), sk j (by omega)]
      · rw [up_ne hne, st]
      · show (up r' 34 (14 * l + 10) _).1 34 (14 * l + j) = _
        rw [up_n (by omega), rk _ (by omega)]
    · rw [if_neg (show ¬ (!true) = true from by decide), if_pos (show true = true from rfl)]
      refine (P.set (Hd' := Hd ^^^ 2 ^ i) a3 l2 a5 ?_ ?_ s6 r9 ?_ ?_ (fun j j1 j2 => ?_) (fun j hj => ?_) (fun j hj j1 j2 j3 => ?_)).hr
      · rw [sk 5 (by decide)]; exact b6
      · show r'.1 34 (14 * l + 8) = _
        rw [rk _ (by omega)]; exact b7
      · rw [sk 7 (by decide)]; exact c1
      · show r'.1 34 (14 * l + 10) = _
        rw [rk _ (by omega)]; exact c2
      · rw [sk j (by omega)]
      · rw [st]
      · show r'.1 34 (14 * l + j) = _
        rw [rk _ (by omega)]
  · rw [mk10_d]
    unfold fX2_perform fX10_doGuard
    rw [if_neg (show ¬ nI 3 = 0 from by decide), if_neg (show ¬ nI 3 = 1 from by decide), if_neg (show ¬ nI 3 = 2 from by decide), if_pos (show nI 3 = 3 from rfl), c3, bit_k i (by omega), nI_xor, g1, ix10 hl (by omega), g2]
    have e : (if nI (d' i 7) = 0 then up r 34 (14 * l + i) (nI (pkC (d' i)) + 1) else up r 34 (14 * l + i) (nI (pkC (d' i)) + (-1))) = up r 34 (14 * l + i) (nI (pkC (sd d' i i))) := by
      rw [sd_C d' i g3]
      by_cases c : d' i 7 = 0
      · rw [c, if_pos (show nI 0 = 0 from rfl), if_pos rfl, nI_1]
      · obtain ⟨x, hx⟩ : ∃ x, pkC (d' i) = x + 1 := ⟨pkC (d' i) - 1, by omega⟩
        rw [if_neg (nI_ne0 (by omega) (by omega)), if_neg c, hx, pk_m1]
        rfl
    rw [e]
    refine (P.grd hi up_e ?_ (fun j j1 j2 j3 => ?_) (fun j hj => ?_) (fun j hj j1 => ?_)).hr
    · exact up_e
    · rw [up_n j3]
    · rw [up_ne hne]
    · show (up r 34 (14 * l + i) _).1 34 (14 * l + j) = _
      rw [up_n (by omega)]
theorem perf_k {s : Mm} {h : Nat} {a b : Int32} : ∀ k, k ≠ h → (fX2_perform s h a b).1 k = s.1 k := by
  intro k hk
  unfold fX2_perform
  repeat' split
  all_goals first | rfl | (repeat rw [up_ne hk])
theorem perf_2 {s : Mm} {h : Nat} {a b : Int32} : (fX2_perform s h a b).2 = s.2 := by
  unfold fX2_perform
  repeat' split
  all_goals rfl
theorem mk10_k {r : Mm} {l a i : Nat} : ∀ k, k ≠ 34 → (mk10 r l a i).1 k = r.1 k := by
  intro k hk
  unfold mk10 fX10_doHide fX10_doGuard fX10_free
  repeat' split
  all_goals first | rfl | (repeat rw [up_ne hk])
theorem mk10_2 {r : Mm} {l a i : Nat} : (mk10 r l a i).2 = r.2 := by
  unfold mk10 fX10_doHide fX10_doGuard fX10_free
  repeat' split
  all_goals rfl
theorem z_add (g : Nat → Int32) : (fun j => g (14 * 0 + j)) = g := by
  funext j
  show g (0 + j) = g j
  rw [Nat.zero_add]
theorem HR.lv0 {f t g : Nat → Int32} (h : HR f t g) : HR f t (fun j => g (14 * 0 + j)) := by rw [z_add]; exact h
/-- an act of now, told whole -/
theorem act_all {σ : Mm} (h : Rv σ) {n i a : Nat} (hn : σ.1 49 1 = nI n) (n8 : n ≤ 8) (hi : i < n) (ha : a < 4) (hc : fX2_canBe σ 49 (nI a) (nI i) = true) : ∀ σ2 σ4, fX2_perform (fX6_remember σ 49) 49 (nI a) (nI i) = σ2 → mk10 (fX10_keepAct σ2) 0 a i = σ4 → σ2.1 34 = σ.1 34 ∧ σ2.1 33 = σ.1 33 ∧ σ4.1 49 = σ2.1 49 ∧ σ4.1 50 = σ2.1 50 ∧ can10 σ2 0 a i = true ∧ Rv σ4 := by
  intro σ2 σ4 h2 h4
  generalize e1 : fX6_remember σ 49 = σ1 at h2
  generalize e3 : fX10_keepAct σ2 = σ3 at h4
  obtain ⟨p1, p2⟩ := h.rem e1
  have k2 : ∀ k, k ≠ 49 → σ2.1 k = σ1.1 k := fun k hk => by rw [← h2]; exact perf_k k hk
  have q2 : σ2.2 = σ1.2 := by rw [← h2]; exact perf_2
  have k3 : ∀ k, k ≠ 36 → k ≠ 33 → σ3.1 k = σ2.1 k := fun k x1 x2 => by rw [← e3]; exact keepAct_k x1 x2
  have k4 : ∀ k, k ≠ 34 → σ4.1 k = σ3.1 k := fun k hk => by rw [← h4]; exact mk10_k k hk
  have q4 : σ4.2 = σ3.2 := by rw [← h4]; exact mk10_2
  have s34 : σ2.1 34 = σ.1 34 := by rw [k2 34 (by decide), p2 34 (by decide) (by decide)]
  have s33 : σ2.1 33 = σ.1 33 := by rw [k2 33 (by decide), p2 33 (by decide) (by decide)]
  have t34 : σ3.1 34 = σ.1 34 := by rw [k3 34 (by decide) (by decide), s34]
  have s49 : σ4.1 49 = σ2.1 49 := by rw [k4 49 (by decide), k3 49 (by decide) (by decide)]
  have s50 : σ4.1 50 = σ2.1 50 := by rw [k4 50 (by decide), k3 50 (by decide) (by decide)]
  obtain ⟨n', w, B, Hd, C, Gd, d, P⟩ := h.2.1.hp
  have en : n' = n := (nI_eq (by have := P.1; omega) (by omega)).mp (P.ch.2.1.symm.trans hn)
  subst en
  have hcab : cab n' d w B Hd C Gd a i = true := by rw [← can2 (by decide) P P.ch hi ha]; exact hc
  have P2 : HP (σ.1 49) (σ.1 50) (fun j => σ2.1 34 (14 * 0 + j)) n' w B Hd C Gd d := by
    rw [s34, z_add]
    exact P
  have P3 : HP (σ1.1 49) (σ1.1 (49 + 1)) (fun j => σ3.1 34 (14 * 0 + j)) n' w B Hd C Gd d := by
    rw [t34, z_add, p2 49 (by decide) (by decide), show σ1.1 (49 + 1) = σ.1 50 from p2 50 (by decide) (by decide)]
    exact P
  have HN := perf_hp (s := σ1) (r := σ3) (h := 49) (l := 0) (by decide) (by decide) P3 P3.ch (by rw [t34]; exact P.rg) hi ha hcab
  rw [h2, h4, z_add] at HN
  refine ⟨s34, s33, s49, s50, ?_, h.act e1 (fun k x1 x2 => k2 k x1) q2 e3 k4 q4 ?_⟩
  · rw [can10_eq (by decide) P2 (by rw [s34]; exact P.rg) hi ha]
    exact hcab
  · rw [s49, s50]
    exact HN
