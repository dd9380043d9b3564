/-! a thing forged -/
def fd (m o : Nat) : Nat → Nat
  | 0 => m / 1000
  | 1 => m / 100 % 10
  | 2 => m / 10 % 10
  | 3 => m % 10
  | 4 => o
  | 5 => 1
  | 6 => 1
  | _ + 7 => 0
theorem nib : ∀ a, a < 10 → ∀ k, k < 4 → nI a <<< ((4 * nI k) &&& 31) = nI (a * 2 ^ (4 * k)) := by decide +kernel
theorem own0 : ∀ o, o < 3 → ((nI o <<< (16 &&& 31)) ||| 1048576) ||| 16777216 = nI (o * 65536 + 17825792) := by decide +kernel
theorem or_add (q b k : Nat) (h : b < 2 ^ k) : nI (2 ^ k * q) ||| nI b = nI (2 ^ k * q + b) := by
  rw [nI_or, Nat.two_pow_add_eq_or_of_lt h]
theorem or_at {X a : Nat} (ha : a < 10) {k : Nat} (hk : k < 4) (hX : X % 2 ^ (4 * k + 4) = 0) : nI X ||| (nI a <<< ((4 * nI k) &&& 31)) = nI (X + a * 2 ^ (4 * k)) := by
  rw [nib a ha k hk]
  have e : X = 2 ^ (4 * k + 4) * (X / 2 ^ (4 * k + 4)) := (Nat.mul_div_cancel' (Nat.dvd_of_mod_eq_zero hX)).symm
  have hb : a * 2 ^ (4 * k) < 2 ^ (4 * k + 4) := by
    rw [Nat.pow_add, Nat.mul_comm]
    exact Nat.mul_lt_mul_of_pos_left (by omega) (Nat.two_pow_pos _)
  rw [e, or_add _ _ _ hb]
theorem forge_tag {h : Nat} {a b : Int32} {s : Mm} {x3 : Int32} {m o : Nat} (hm : m ≤ 9999) (ho : o ≤ 2) : fX2_addForged_23 h a b 5 s x3 (((nI o <<< (16 &&& 31)) ||| 1048576) ||| 16777216) (nI m) 3 = fX2_addForged_56 h a b s x3 (nI (pkT (fd m o))) := by
  rw [own0 o (by omega)]
  have st : ∀ n X y k, k < 4 → y < 2 ^ 31 → X % 2 ^ (4 * k + 4) = 0 → fX2_addForged_23 h a b (n + 1) s x3 (nI X) (nI y) (nI k) = fX2_addForged_23 h a b n s x3 (nI (X + y % 10 * 2 ^ (4 * k))) (nI (y / 10)) (nI k + (-1)) := by
    intro n X y k hk hy hX
    show (if 0 ≤ nI k then fX2_addForged_23 h a b n s x3 (nI X ||| ((rm (nI y) 10) <<< ((4 * nI k) &&& 31))) (nI y / 10) (nI k + (-1)) else fX2_addForged_56 h a b s x3 (nI X)) = _
    rw [if_pos (nI_pos' (by omega)), show (10 : Int32) = nI 10 from rfl, rm_nI hy (by decide) (by decide), pk_div hy (by decide) (by decide), or_at (Nat.mod_lt _ (by decide)) hk hX]
  rw [show (3 : Int32) = nI 3 from rfl, st 4 _ m 3 (by decide) (by omega) (by omega), show nI 3 + (-1) = nI 2 from rfl, st 3 _ (m / 10) 2 (by decide) (by omega) (by omega), show nI 2 + (-1) = nI 1 from rfl, st 2 _ (m / 10 / 10) 1 (by decide) (by omega) (by omega), show nI 1 + (-1) = nI 0 from rfl, st 1 _ (m / 10 / 10 / 10) 0 (by decide) (by omega) (by omega), show nI 0 + (-1) = -1 from rfl]
  show (if (0 : Int32) ≤ -1 then _ else fX2_addForged_56 h a b s x3 _) = _
  rw [if_neg (show ¬ (0 : Int32) ≤ -1 from by decide)]
  congr 2
  show o * 65536 + 17825792 + m % 10 * 2 ^ (4 * 3) + m / 10 % 10 * 2 ^ (4 * 2) + m / 10 / 10 % 10 * 2 ^ (4 * 1) + m / 10 / 10 / 10 % 10 * 2 ^ (4 * 0) = m / 1000 + 16 * (m / 100 % 10) + 256 * (m / 10 % 10) + 4096 * (m % 10) + 65536 * o + 1048576 * 1 + 16777216 * 1
  omega
theorem forge_code {m o : Nat} (hm : m ≤ 9999) : fX10_code (nI m) (nI o) 1 1 0 = nI (pkC (fd m o)) := by
  unfold fX10_code
  rw [show (3 : Int32) = nI 3 from rfl, show (10 : Int32) = nI 10 from rfl, show (1 : Int32) = nI 1 from rfl, show (2 : Int32) = nI 2 from rfl, show (0 : Int32) = nI 0 from rfl, pk_mul, nI_add, pk_mul, nI_add, pk_mul, nI_add, pk_mul, nI_add]
  congr 1
  show (((m * 3 + o) * 10 + 1) * 10 + 1) * 2 + 0 = ((((m / 1000 * 1000 + m / 100 % 10 * 100 + m / 10 % 10 * 10 + m % 10) * 3 + o) * 10 + 1) * 10 + 1) * 2 + 0
  omega
def xd (n m o : Nat) (d : Nat → Nat → Nat) : Nat → Nat → Nat := fun j => if j = n then fd m o else d j
theorem xd_n {n m o : Nat} {d : Nat → Nat → Nat} : xd n m o d n = fd m o := if_pos rfl
theorem xd_k {n m o j : Nat} {d : Nat → Nat → Nat} (h : j ≠ n) : xd n m o d j = d j := if_neg h
theorem HP.frg {f t g f' t' g' : Nat → Int32} {n w B Hd C Gd : Nat} {d : Nat → Nat → Nat} (h : HP f t g n w B Hd C Gd d) {m o C' : Nat} (hm : m ≤ 9999) (ho : o ≤ 2) (n7 : n < 8) (l3 : C' < 2 ^ n) (x1 : f' 1 = nI (n + 1)) (x2 : g' 13 = nI (n + 1)) (x3 : f' 7 = nI C') (x4 : g' 10 = nI C') (x5 : t' n = nI (pkT (fd m o))) (x6 : g' n = nI (pkC (fd m o))) (hf : ∀ j, 2 ≤ j → j ≤ 6 → f' j = f j) (ht : ∀ j, j < n → t' j = t j) (hg : ∀ j, j < 13 → j ≠ n → j ≠ 10 → g' j = g j) : HP f' t' g' (n + 1) w B Hd C' Gd (xd n m o d) := by
  obtain ⟨a1, a2, a3, a4, a5, a6, b1, b2, b3, b4, b5, b6, b7, b8, b9, c1, c2, c3, c4⟩ := h
  have up1 : ∀ x, x < 2 ^ n → x < 2 ^ (n + 1) := fun x hx => Nat.lt_of_lt_of_le hx (Nat.pow_le_pow_right (by decide) (by omega))
  refine ⟨by omega, a2, up1 _ a3, up1 _ a4, up1 _ l3, up1 _ a6, x1, x2, ?_, ?_, ?_, ?_, ?_, ?_, ?_, x3, x4, ?_, fun i hi => ?_⟩
  · rw [hf 2 (by decide) (by decide)]; exact b3
  · rw [hg 11 (by decide) (by omega) (by decide)]; exact b4
  · rw [hf 3 (by decide) (by decide), hg 12 (by decide) (by omega) (by decide)]; exact b5
  · rw [hf 5 (by decide) (by decide)]; exact b6
  · rw [hg 8 (by decide) (by omega) (by decide)]; exact b7
  · rw [hf 6 (by decide) (by decide)]; exact b8
  · rw [hg 9 (by decide) (by omega) (by decide)]; exact b9
  · rw [hf 4 (by decide) (by decide)]; exact c3
  · by_cases e : i = n
    · subst e
      rw [xd_n]
      refine ⟨fun k hk => ?_, ho, Nat.zero_le _, ?_, x5, x6⟩
      · rcases (show k = 0 ∨ k = 1 ∨ k = 2 ∨ k = 3 ∨ k = 4 ∨ k = 5 ∨ k = 6 by omega) with rfl | rfl | rfl | rfl | rfl | rfl | rfl
        · show m / 1000 ≤ 9
          omega
        · show m / 100 % 10 ≤ 9
          omega
        · show m / 10 % 10 ≤ 9
          omega
        · show m % 10 ≤ 9
          omega
        · show o ≤ 9
          omega
        · show 1 ≤ 9
          decide
        · show 1 ≤ 9
          decide
      · rw [Nat.div_eq_of_lt a6]
        rfl
    · rw [xd_k e, ht i (by omega), hg i (by omega) e (by omega)]
      exact c4 i (by omega)
theorem s_forge : sc_forge Rv := by
  intro σ a b h
  have same : ∀ z : Int32, fX9_forge σ a b = (z, σ) → fX10_forge σ a b = (z, σ) → vp_in (σ.1 4 1) 16 ∧ vp_in ((fX9_forge σ a b).2.1 34 13) 9 ∧ vp_in ((fX9_forge σ a b).2.1 33 4) 16 ∧ (fX9_forge σ a b).1 = (fX10_forge (fX9_forge σ a b).2 a b).1 ∧ Rv (fX10_forge (fX9_forge σ a b).2 a b).2 := by
    intro z e9 e10
    rw [e9]
    show vp_in (σ.1 4 1) 16 ∧ vp_in (σ.1 34 13) 9 ∧ vp_in (σ.1 33 4) 16 ∧ z = (fX10_forge σ a b).1 ∧ Rv (fX10_forge σ a b).2
    rw [e10]
    exact ⟨h.hx, h.hM, h.hX, rfl, h⟩
  by_cases c0 : 0 ≤ a
  · by_cases c1 : a ≤ 9999
    · have i1 : fX10_in a.toInt64 0 9999 = true := in_pos (x := 0) (y := 9999) rfl rfl c0 c1
      by_cases c2 : 0 ≤ b
      · by_cases c3 : 3 ≤ b
        · have i2 : ¬ fX10_in b.toInt64 0 2 = true := in_neg2 (y := 2) rfl (fun q => absurd (Int32.le_trans c3 q) (by decide))
          exact same (-2) (by unfold fX9_forge; rw [if_pos c0, if_pos c1, if_pos c2, if_pos c3]) (by unfold fX10_forge; rw [if_pos i1, if_neg i2])
        · obtain ⟨o, ho, rfl⟩ := nI_ex c2 (show b < nI 3 from Int32.not_le.mp c3) (by decide)
          obtain ⟨m, hm, rfl⟩ := nI_ex c0 (show a < nI 10000 from Int32.lt_of_le_of_lt c1 (by decide)) (by decide)
          have i2 : fX10_in (nI o).toInt64 0 2 = true := in_pos (x := 0) (y := 2) rfl rfl c2 (show nI o ≤ nI 2 from nI_le (by omega) (by decide))
          obtain ⟨n, w, B, Hd, C, Gd, d, P⟩ := h.2.1.hp
          obtain ⟨a1, a2, a3, a4, a5, a6, b1, b2, b3, b4, b5, b6, b7, b8, b9, k1, k2, k3, k4⟩ := id P
          by_cases c8 : n = 8
          · subst c8
            exact same (-4) (by unfold fX9_forge; rw [if_pos c0, if_pos c1, if_pos c2, if_neg c3, b1, if_pos (show (8 : Int32) ≤ nI 8 from by decide)]) (by unfold fX10_forge; rw [if_pos i1, if_pos i2, b2, if_pos (show nI 8 = 8 from rfl)])
          · generalize e1 : fX6_remember σ 49 = σ1
            obtain ⟨p1, p2⟩ := h.rem e1
            have s49 : σ1.1 49 = σ.1 49 := p2 49 (by decide) (by decide)
            have s50 : σ1.1 50 = σ.1 50 := p2 50 (by decide) (by decide)
            generalize hρ : up (up σ1 50 n (nI (pkT (fd m o)))) 49 1 (nI (n + 1)) = ρ
            have r49 : ∀ j, j ≠ 1 → ρ.1 49 j = σ.1 49 j := fun j hj => by rw [← hρ, up_n hj, up_ne (by decide), s49]
            have r1 : ρ.1 49 1 = nI (n + 1) := by rw [← hρ, up_e]
            have r50 : ∀ j, j ≠ n → ρ.1 50 j = σ.1 50 j := fun j hj => by rw [← hρ, up_ne (by decide), up_n hj, s50]
            have r50n : ρ.1 50 n = nI (pkT (fd m o)) := by rw [← hρ, up_ne (by decide), up_e]
            have rk : ∀ k, k ≠ 49 → k ≠ 50 → ρ.1 k = σ1.1 k := fun k x1 x2 => by rw [← hρ, up_ne x1, up_ne x2]
            have f9 : ∀ j, j < 7 → fd m o j ≤ 9 ∧ fd m o 4 ≤ 2 ∧ fd m o 7 ≤ 1 := fun k hk => by
              refine ⟨?_, by show o ≤ 2; omega, Nat.zero_le _⟩
              rcases (show k = 0 ∨ k = 1 ∨ k = 2 ∨ k = 3 ∨ k = 4 ∨ k = 5 ∨ k = 6 by omega) with rfl | rfl | rfl | rfl | rfl | rfl | rfl
              · show m / 1000 ≤ 9
                omega
              · show m / 100 % 10 ≤ 9
                omega
              · show m / 10 % 10 ≤ 9
                omega
              · show m % 10 ≤ 9
                omega
              · show o ≤ 9
                omega
              · show 1 ≤ 9
                decide
              · show 1 ≤ 9
                decide
            generalize hd' : xd n m o d = d'
            have dn : d' n = fd m o := by rw [← hd', xd_n]
            have dk : ∀ j, j ≠ n → d' j = d j := fun j hj => by rw [← hd', xd_k hj]
            have D : CH (ρ.1 49) (ρ.1 (49 + 1)) (n + 1) d' := ⟨by omega, r1, fun i hi => by
              by_cases e : i = n
              · subst e
                rw [dn]
                exact ⟨fun k hk => (f9 k hk).1, (f9 0 (by decide)).2.1, (f9 0 (by decide)).2.2, r50n⟩
              · rw [dk i e]
                refine ⟨(k4 i (by omega)).1, (k4 i (by omega)).2.1, (k4 i (by omega)).2.2.1, ?_⟩
                show ρ.1 50 i = _
                rw [r50 i e]
                exact (k4 i (by omega)).2.2.2.2.1⟩
            have al : fX2_alikeTo ρ 49 (nI n) (ρ.1 49 2) (ρ.1 49 7) = nI (ALb (n + 1) d' w n C) := by
              rw [r49 2 (by decide), r49 7 (by decide), b3, k1]
              exact al2 (by decide) D (by omega) (by omega) (p31 a1 a5)
            generalize hC : dif C (ALb (n + 1) d' w n C) = C'
            have C'lt : C' < 2 ^ n := by rw [← hC]; exact dif_lt a5 _
            have e9 : fX9_forge σ (nI m) (nI o) = (nI n, up ρ 49 7 (nI C')) := by
              have ea : fX2_addForged σ1 49 (nI m) (nI o) = (nI n, up ρ 49 7 (nI C')) := by
                unfold fX2_addForged
                rw [s49, b1, forge_tag (by omega) (by omega)]
                unfold fX2_addForged_56 fX2_addForged_76 fX9_put
                rw [if_pos (nI_pos' (by omega)), if_pos (nI_lt (by omega) (by decide)), nI_clamp (by omega), up_ne (by decide), s49, b1, nI_1, show (49 + 1 : Nat) = 50 from rfl, hρ, al, r49 7 (by decide), k1, nI_dif, hC]
              unfold fX9_forge
              rw [if_pos c0, if_pos c1, if_pos c2, if_neg c3, b1, if_neg (show ¬ (8 : Int32) ≤ nI n from nI_ge (a := n) (b := 8) (by omega) (by decide)), e1, ea]
            generalize h2 : up ρ 49 7 (nI C') = σ2 at e9
            have t2 : ∀ k, k ≠ 49 → k ≠ 50 → σ2.1 k = σ1.1 k := fun k x1 x2 => by rw [← h2, up_ne x1, rk k x1 x2]
            have q34 : σ2.1 34 = σ.1 34 := by rw [t2 34 (by decide) (by decide), p2 34 (by decide) (by decide)]
            have q33 : σ2.1 33 = σ.1 33 := by rw [t2 33 (by decide) (by decide), p2 33 (by decide) (by decide)]
            generalize e3 : fX10_keepAct σ2 = σ3
            have t3 : ∀ k, k ≠ 36 → k ≠ 33 → σ3.1 k = σ2.1 k := fun k x1 x2 => by rw [← e3]; exact keepAct_k x1 x2
            have q3 : σ3.1 34 = σ.1 34 := by rw [t3 34 (by decide) (by decide), q34]
            generalize hτ : up (up σ3 34 n (nI (pkC (fd m o)))) 34 13 (nI (n + 1)) = τ
            have τ13 : τ.1 34 13 = nI (n + 1) := by rw [← hτ, up_e]
            have τn : τ.1 34 n = nI (pkC (fd m o)) := by rw [← hτ, up_n (by omega), up_e]
            have τj : ∀ j, j ≠ 13 → j ≠ n → τ.1 34 j = σ.1 34 j := fun j x1 x2 => by rw [← hτ, up_n x1, up_n x2, q3]
            have τk : ∀ k, k ≠ 34 → τ.1 k = σ3.1 k := fun k x1 => by rw [← hτ, up_ne x1, up_ne x1]
            have D10 : RG (τ.1 34) (n + 1) d' := ⟨by omega, τ13, fun i hi => by
              by_cases e : i = n
              · subst e
                rw [dn]
                exact ⟨fun k hk => (f9 k hk).1, (f9 0 (by decide)).2.1, (f9 0 (by decide)).2.2, τn⟩
              · rw [dk i e]
                refine ⟨(k4 i (by omega)).1, (k4 i (by omega)).2.1, (k4 i (by omega)).2.2.1, ?_⟩
                rw [τj i (by omega) e]
                exact (k4 i (by omega)).2.2.2.2.2⟩
            have e10 : fX10_forge σ2 (nI m) (nI o) = (nI n, up τ 34 10 (nI C')) := by
              unfold fX10_forge fX10_forge_62 fX10_free
              rw [if_pos i1, if_pos i2, q34, b2, if_neg (show ¬ nI n = 8 from fun q => c8 ((nI_eq (by omega) (by decide)).mp q)), e3, q3, b2, nI_clamp (by omega), forge_code (by omega), up_n (by omega), q3, b2, nI_1, hτ, show τ.1 34 (14 * 0 + 10) = nI C from (τj 10 (by decide) (by omega)).trans k2, show τ.1 34 (14 * 0 + 11) = nI w from (τj 11 (by decide) (by omega)).trans b4, al10 D10 (by omega) (by omega) (p31 a1 a5), nI_dif, hC]
            rw [e9]
            show vp_in (σ.1 4 1) 16 ∧ vp_in (σ2.1 34 13) 9 ∧ vp_in (σ2.1 33 4) 16 ∧ nI n = (fX10_forge σ2 (nI m) (nI o)).1 ∧ Rv (fX10_forge σ2 (nI m) (nI o)).2
            rw [e10, q34, q33]
            have HN : HP ((up τ 34 10 (nI C')).1 49) ((up τ 34 10 (nI C')).1 50) ((up τ 34 10 (nI C')).1 34) (n + 1) w B Hd C' Gd d' := by
              have u49 : (up τ 34 10 (nI C')).1 49 = σ2.1 49 := by rw [up_ne (by decide), τk 49 (by decide), t3 49 (by decide) (by decide)]
              have u50 : (up τ 34 10 (nI C')).1 50 = ρ.1 50 := by rw [up_ne (by decide), τk 50 (by decide), t3 50 (by decide) (by decide), ← h2, up_ne (by decide)]
              rw [u49, u50, ← hd']
              refine P.frg (by omega) (by omega) (by omega) C'lt ?_ ?_ ?_ up_e r50n ?_ (fun j j1 j2 => ?_) (fun j hj => ?_) (fun j hj j1 j2 => ?_)
              · rw [← h2, up_n (by decide)]; exact r1
              · rw [up_n (by decide)]; exact τ13
              · rw [← h2]; exact up_e
              · rw [up_n (by omega)]; exact τn
              · rw [← h2, up_n (by omega), r49 j (by omega)]
              · exact r50 j (by omega)
              · rw [up_n j2]
                exact τj j (by omega) j1
            exact ⟨h.hx, h.hM, h.hX, rfl, h.act e1 t2 (by rw [← h2, ← hρ]; rfl) e3 (fun k hk => by rw [up_ne hk, τk k hk]) (by rw [← hτ]; rfl) HN.hr⟩
      · exact same (-2) (by unfold fX9_forge; rw [if_pos c0, if_pos c1, if_neg c2]) (by unfold fX10_forge; rw [if_pos i1, if_neg (in_neg1 (x := 0) rfl c2)])
    · exact same (-2) (by unfold fX9_forge; rw [if_pos c0, if_neg c1]) (by unfold fX10_forge; rw [if_neg (in_neg2 (y := 9999) rfl c1)])
  · exact same (-2) (by unfold fX9_forge; rw [if_neg c0]) (by unfold fX10_forge; rw [if_neg (in_neg1 (x := 0) rfl c0)])
