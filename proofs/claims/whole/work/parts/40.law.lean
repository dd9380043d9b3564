def fX9_keepT (σ : Mm) (a1 : Int32) : Int32 × Mm := if 0 ≤ a1 then (if a1 < 2 then fX9_keep σ a1 else (-1, σ)) else (-1, σ)
def fX9_againT (σ : Mm) (a1 : Int32) : Int32 × Mm := if 0 ≤ a1 then (if a1 < 2 then fX9_again σ a1 else (-1, σ)) else (-1, σ)
theorem kX9_keepT (l : Launch) (D : Dm) (a1 : Int32) (σ : Mm) : Ct l yX9_keep cX9_keep 3 (some .int) 3 D [.ref (D.2.1 0), .int a1] σ (some (.int (fX9_keepT σ a1).1), (fX9_keepT σ a1).2) := by
  unfold fX9_keepT
  by_cases h : 0 ≤ a1
  · rw [if_pos h]
    by_cases h2 : a1 < 2
    · rw [if_pos h2]
      exact kX9_keep l D a1 σ (vin_k h h2 (by decide))
    · rw [if_neg h2]
      exact kX9_keep_o l D a1 σ (fun q => h2 (vinN q (by decide)))
  · rw [if_neg h]
    exact kX9_keep_o l D a1 σ (fun q => h (vin0 q))
theorem kX9_againT (l : Launch) (D : Dm) (a1 : Int32) (σ : Mm) : Ct l yX9_again cX9_again 3 (some .int) 3 D [.ref (D.2.1 0), .int a1] σ (some (.int (fX9_againT σ a1).1), (fX9_againT σ a1).2) := by
  unfold fX9_againT
  by_cases h : 0 ≤ a1
  · rw [if_pos h]
    by_cases h2 : a1 < 2
    · rw [if_pos h2]
      exact kX9_again l D a1 σ (vin_k h h2 (by decide))
    · rw [if_neg h2]
      exact kX9_again_o l D a1 σ (fun q => h2 (vinN q (by decide)))
  · rw [if_neg h]
    exact kX9_again_o l D a1 σ (fun q => h (vin0 q))
/-- write: class and reference answer alike, the invariant stays -/
def sc_write (Rv : Mm → Prop) : Prop := ∀ (σ : Mm) (a1 : Int32), Rv σ → (vp_in (((fX9_write σ a1).2).1 33 2) 57) ∧ (fX9_write σ a1).1 = (fX10_write ((fX9_write σ a1).2) a1).1 ∧ Rv ((fX10_write ((fX9_write σ a1).2) a1).2)
/-- wipe: class and reference answer alike, the invariant stays -/
def sc_wipe (Rv : Mm → Prop) : Prop := ∀ (σ : Mm), Rv σ → (fX9_wipe σ).1 = (fX10_wipe ((fX9_wipe σ).2)).1 ∧ Rv ((fX10_wipe ((fX9_wipe σ).2)).2)
/-- fault: class and reference answer alike, the invariant stays -/
def sc_fault (Rv : Mm → Prop) : Prop := ∀ (σ : Mm), Rv σ → (vp_in (σ.1 33 2) 57) ∧ (fX9_fault σ) = (fX10_fault σ) ∧ Rv σ
/-- house: class and reference answer alike, the invariant stays -/
def sc_house (Rv : Mm → Prop) : Prop := ∀ (σ : Mm), Rv σ → (vp_in (((fX9_house σ).2).1 33 2) 57) ∧ (fX9_house σ).1 = (fX10_house ((fX9_house σ).2)).1 ∧ Rv ((fX10_house ((fX9_house σ).2)).2)
/-- thing: class and reference answer alike, the invariant stays -/
def sc_thing (Rv : Mm → Prop) : Prop := ∀ (σ : Mm) (a1 : Int32) (a2 : Int32), Rv σ → (vp_in (σ.1 34 13) 9) ∧ (fX9_thing σ a1 a2) = (fX10_thing σ a1 a2) ∧ Rv σ
/-- alike: class and reference answer alike, the invariant stays -/
def sc_alike (Rv : Mm → Prop) : Prop := ∀ (σ : Mm) (a1 : Int32), Rv σ → (vp_in (σ.1 34 13) 9) ∧ (fX9_alike σ a1) = (fX10_alike σ a1) ∧ Rv σ
/-- price: class and reference answer alike, the invariant stays -/
def sc_price (Rv : Mm → Prop) : Prop := ∀ (σ : Mm) (a1 : Int32), Rv σ → (vp_in (σ.1 34 13) 9) ∧ (fX9_price σ a1) = (fX10_price σ a1) ∧ Rv σ
/-- broken: class and reference answer alike, the invariant stays -/
def sc_broken (Rv : Mm → Prop) : Prop := ∀ (σ : Mm) (a1 : Int32), Rv σ → (vp_in (σ.1 4 1) 16) ∧ (vp_in (((fX9_broken σ a1).2).1 34 13) 9) ∧ (vp_in (((fX9_broken σ a1).2).1 33 4) 16) ∧ (fX9_broken σ a1).1 = (fX10_broken ((fX9_broken σ a1).2) a1).1 ∧ Rv ((fX10_broken ((fX9_broken σ a1).2) a1).2)
/-- forge: class and reference answer alike, the invariant stays -/
def sc_forge (Rv : Mm → Prop) : Prop := ∀ (σ : Mm) (a1 : Int32) (a2 : Int32), Rv σ → (vp_in (σ.1 4 1) 16) ∧ (vp_in (((fX9_forge σ a1 a2).2).1 34 13) 9) ∧ (vp_in (((fX9_forge σ a1 a2).2).1 33 4) 16) ∧ (fX9_forge σ a1 a2).1 = (fX10_forge ((fX9_forge σ a1 a2).2) a1 a2).1 ∧ Rv ((fX10_forge ((fX9_forge σ a1 a2).2) a1 a2).2)
/-- hide: class and reference answer alike, the invariant stays -/
def sc_hide (Rv : Mm → Prop) : Prop := ∀ (σ : Mm) (a1 : Int32), Rv σ → (vp_in (σ.1 4 1) 16) ∧ (vp_in (((fX9_hide σ a1).2).1 34 13) 9) ∧ (vp_in (((fX9_hide σ a1).2).1 33 4) 16) ∧ (fX9_hide σ a1).1 = (fX10_hide ((fX9_hide σ a1).2) a1).1 ∧ Rv ((fX10_hide ((fX9_hide σ a1).2) a1).2)
/-- claim: class and reference answer alike, the invariant stays -/
def sc_claim (Rv : Mm → Prop) : Prop := ∀ (σ : Mm) (a1 : Int32), Rv σ → (vp_in (σ.1 4 1) 16) ∧ (vp_in (((fX9_claim σ a1).2).1 34 13) 9) ∧ (vp_in (((fX9_claim σ a1).2).1 33 4) 16) ∧ (fX9_claim σ a1).1 = (fX10_claim ((fX9_claim σ a1).2) a1).1 ∧ Rv ((fX10_claim ((fX9_claim σ a1).2) a1).2)
/-- guard: class and reference answer alike, the invariant stays -/
def sc_guard (Rv : Mm → Prop) : Prop := ∀ (σ : Mm) (a1 : Int32), Rv σ → (vp_in (σ.1 4 1) 16) ∧ (vp_in (((fX9_guard σ a1).2).1 34 13) 9) ∧ (vp_in (((fX9_guard σ a1).2).1 33 4) 16) ∧ (fX9_guard σ a1).1 = (fX10_guard ((fX9_guard σ a1).2) a1).1 ∧ Rv ((fX10_guard ((fX9_guard σ a1).2) a1).2)
/-- word: class and reference answer alike, the invariant stays -/
def sc_word (Rv : Mm → Prop) : Prop := ∀ (σ : Mm) (a1 : Int32), Rv σ → (vp_in (σ.1 4 1) 16) ∧ (vp_in (((fX9_word σ a1).2).1 34 13) 9) ∧ (vp_in (((fX9_word σ a1).2).1 33 4) 16) ∧ (fX9_word σ a1).1 = (fX10_word ((fX9_word σ a1).2) a1).1 ∧ Rv ((fX10_word ((fX9_word σ a1).2) a1).2)
/-- year: class and reference answer alike, the invariant stays -/
def sc_year (Rv : Mm → Prop) : Prop := ∀ (σ : Mm), Rv σ → (vp_in (σ.1 4 1) 16) ∧ (vp_in (((fX9_year σ).2).1 33 4) 16) ∧ (fX9_year σ).1 = (fX10_year ((fX9_year σ).2)).1 ∧ Rv ((fX10_year ((fX9_year σ).2)).2)
/-- undo: class and reference answer alike, the invariant stays -/
def sc_undo (Rv : Mm → Prop) : Prop := ∀ (σ : Mm), Rv σ → (vp_in (σ.1 4 1) 16) ∧ (vp_in (((fX9_undo σ).2).1 33 4) 16) ∧ (fX9_undo σ).1 = (fX10_undo ((fX9_undo σ).2)).1 ∧ Rv ((fX10_undo ((fX9_undo σ).2)).2)
/-- judge: class and reference answer alike, the invariant stays -/
def sc_judge (Rv : Mm → Prop) : Prop := ∀ (σ : Mm) (a1 : Int32) (a2 : Int32), Rv σ → (vp_in (((fX9_judge σ a1 a2).2).1 34 13) 9) ∧ (fX9_judge σ a1 a2).1 = (fX10_judge ((fX9_judge σ a1 a2).2) a1 a2).1 ∧ Rv ((fX10_judge ((fX9_judge σ a1 a2).2) a1 a2).2)
/-- campaign: class and reference answer alike, the invariant stays -/
def sc_campaign (Rv : Mm → Prop) : Prop := ∀ (σ : Mm) (a1 : Int32), Rv σ → (vp_in (((fX9_campaign σ a1).2).1 34 13) 9) ∧ (fX9_campaign σ a1).1 = (fX10_campaign ((fX9_campaign σ a1).2) a1) ∧ Rv ((fX9_campaign σ a1).2)
/-- campaignBy: class and reference answer alike, the invariant stays -/
def sc_campaignBy (Rv : Mm → Prop) : Prop := ∀ (σ : Mm) (a1 : Int32) (a2 : Int32), Rv σ → (vp_in (((fX9_campaignBy σ a1 a2).2).1 34 13) 9) ∧ (fX9_campaignBy σ a1 a2).1 = (fX10_campaignBy ((fX9_campaignBy σ a1 a2).2) a1 a2) ∧ Rv ((fX9_campaignBy σ a1 a2).2)
/-- copy: class and reference answer alike, the invariant stays -/
def sc_copy (Rv : Mm → Prop) : Prop := ∀ (σ : Mm) (a1 : Int32), Rv σ → (vp_in (σ.1 34 13) 9) ∧ (fX9_copy σ a1) = (fX10_copy σ a1) ∧ Rv σ
/-- bestWord: class and reference answer alike, the invariant stays -/
def sc_bestWord (Rv : Mm → Prop) : Prop := ∀ (σ : Mm) (a1 : Int32), Rv σ → (vp_in (σ.1 34 13) 9) ∧ (fX9_bestWord σ a1) = (fX10_bestWord σ a1) ∧ Rv σ
/-- rests: class and reference answer alike, the invariant stays -/
def sc_rests (Rv : Mm → Prop) : Prop := ∀ (σ : Mm) (a1 : Int32), Rv σ → (vp_in (((fX9_rests σ a1).2).1 34 13) 9) ∧ (fX9_rests σ a1).1 = (fX10_rests ((fX9_rests σ a1).2) a1) ∧ Rv ((fX9_rests σ a1).2)
/-- sight: class and reference answer alike, the invariant stays -/
def sc_sight (Rv : Mm → Prop) : Prop := ∀ (σ : Mm) (a1 : Int32) (a2 : Int32) (a3 : Bool), Rv σ → (vp_in (((fX9_sight σ a1 a2 a3).2).1 34 13) 9) ∧ (vp_in (((fX9_sight σ a1 a2 a3).2).1 33 6) 7) ∧ (fX9_sight σ a1 a2 a3).1 = (fX10_sight ((fX9_sight σ a1 a2 a3).2) a1 a2 a3).1 ∧ Rv ((fX10_sight ((fX9_sight σ a1 a2 a3).2) a1 a2 a3).2)
/-- unsight: class and reference answer alike, the invariant stays -/
def sc_unsight (Rv : Mm → Prop) : Prop := ∀ (σ : Mm), Rv σ → (fX9_unsight σ).1 = (fX10_unsight ((fX9_unsight σ).2)).1 ∧ Rv ((fX10_unsight ((fX9_unsight σ).2)).2)
/-- worlds: class and reference answer alike, the invariant stays -/
def sc_worlds (Rv : Mm → Prop) : Prop := ∀ (σ : Mm) (a1 : Int32), Rv σ → (vp_in (((fX9_worlds σ a1).2).1 34 13) 9) ∧ (vp_in (((fX9_worlds σ a1).2).1 33 6) 7) ∧ (fX9_worlds σ a1).1 = (fX10_worlds ((fX9_worlds σ a1).2) a1).1 ∧ Rv ((fX10_worlds ((fX9_worlds σ a1).2) a1).2)
/-- toSeek: class and reference answer alike, the invariant stays -/
def sc_toSeek (Rv : Mm → Prop) : Prop := ∀ (σ : Mm), Rv σ → (vp_in (((fX9_toSeek σ).2).1 34 13) 9) ∧ (vp_in (((fX9_toSeek σ).2).1 33 6) 7) ∧ (fX9_toSeek σ).1 = (fX10_toSeek ((fX9_toSeek σ).2)).1 ∧ Rv ((fX10_toSeek ((fX9_toSeek σ).2)).2)
/-- byTurns: class and reference answer alike, the invariant stays -/
def sc_byTurns (Rv : Mm → Prop) : Prop := ∀ (σ : Mm) (a1 : Int32) (a2 : Int32), Rv σ → (vp_in (((fX9_byTurns σ a1 a2).2).1 34 13) 9) ∧ (fX9_byTurns σ a1 a2).1 = (fX10_byTurns ((fX9_byTurns σ a1 a2).2) a1 a2).1 ∧ Rv ((fX10_byTurns ((fX9_byTurns σ a1 a2).2) a1 a2).2)
/-- chance: class and reference answer alike, the invariant stays -/
def sc_chance (Rv : Mm → Prop) : Prop := ∀ (σ : Mm) (a1 : Int32) (a2 : Int32) (a3 : Bool), Rv σ → (vp_in (((fX9_chance σ a1 a2 a3).2).1 34 13) 9) ∧ (fX9_chance σ a1 a2 a3).1 = (fX10_chance ((fX9_chance σ a1 a2 a3).2) a1 a2 a3) ∧ Rv ((fX9_chance σ a1 a2 a3).2)
/-- seed: class and reference answer alike, the invariant stays -/
def sc_seed (Rv : Mm → Prop) : Prop := ∀ (σ : Mm) (a1 : Int64), Rv σ → (fX9_seed σ a1).1 = (fX10_seed ((fX9_seed σ a1).2) a1).1 ∧ Rv ((fX10_seed ((fX9_seed σ a1).2) a1).2)
/-- years: class and reference answer alike, the invariant stays -/
def sc_years (Rv : Mm → Prop) : Prop := ∀ (σ : Mm) (a1 : Int32) (a2 : Int32), Rv σ → (vp_in (((fX9_years σ a1 a2).2).1 34 13) 9) ∧ (fX9_years σ a1 a2).1 = (fX10_years ((fX9_years σ a1 a2).2) a1 a2).1 ∧ Rv ((fX10_years ((fX9_years σ a1 a2).2) a1 a2).2)
/-- keep: class and reference answer alike, the invariant stays -/
def sc_keep (Rv : Mm → Prop) : Prop := ∀ (σ : Mm) (a1 : Int32), Rv σ → (fX9_keepT σ a1).1 = (fX10_keep ((fX9_keepT σ a1).2) a1).1 ∧ Rv ((fX10_keep ((fX9_keepT σ a1).2) a1).2)
/-- again: class and reference answer alike, the invariant stays -/
def sc_again (Rv : Mm → Prop) : Prop := ∀ (σ : Mm) (a1 : Int32), Rv σ → (fX9_againT σ a1).1 = (fX10_again ((fX9_againT σ a1).2) a1).1 ∧ Rv ((fX10_again ((fX9_againT σ a1).2) a1).2)
/-- count: class and reference answer alike, the invariant stays -/
def sc_count (Rv : Mm → Prop) : Prop := ∀ (σ : Mm) (a1 : Int32), Rv σ → (vp_in (σ.1 34 13) 9) ∧ (fX9_count σ a1) = (fX10_count σ a1) ∧ Rv σ
def sc_all (Rv : Mm → Prop) : Prop := sc_write Rv ∧ sc_wipe Rv ∧ sc_fault Rv ∧ sc_house Rv ∧ sc_thing Rv ∧ sc_alike Rv ∧ sc_price Rv ∧ sc_broken Rv ∧ sc_forge Rv ∧ sc_hide Rv ∧ sc_claim Rv ∧ sc_guard Rv ∧ sc_word Rv ∧ sc_year Rv ∧ sc_undo Rv ∧ sc_judge Rv ∧ sc_campaign Rv ∧ sc_campaignBy Rv ∧ sc_copy Rv ∧ sc_bestWord Rv ∧ sc_rests Rv ∧ sc_sight Rv ∧ sc_unsight Rv ∧ sc_worlds Rv ∧ sc_toSeek Rv ∧ sc_byTurns Rv ∧ sc_chance Rv ∧ sc_seed Rv ∧ sc_years Rv ∧ sc_keep Rv ∧ sc_again Rv ∧ sc_count Rv
/-- the script stands as it stood at the start -/
def Sx (X : Cx) (b L : Nat) (xs : Nat → Int32) : Prop := match X with
  | (p, l, e, R, s, m, args, below, meth, c, cells, slots, A) => va_X b L xs s s.heap ∧ b < s.heap.size ∧ ¬ A b
theorem j_sld {X : Cx} {l : Launch} {nL : Nat} {D : Dm} {cc : ByteArray} {own : String} {dep : Nat} {ret : Option FieldType} {σ : Mm} {pc : Nat} {ls : List (Nat × Value)} {st : List Value} {Q : State → Prop} (F : Fx X l nL D cc own dep ret) {b L : Nat} {xs : Nat → Int32} (hX : Sx X b L xs) (d : decode cc pc = .ok (.iaload, 1)) (n : Nat) (hn : pc + 1 = n) {i : Int32} (a : Nat) (hi : i = nI a) (ha : a < L) (hL : L ≤ 256) (kk : JJ X nL D σ n ls (.int (xs a) :: st) Q) : JJ X nL D σ pc ls (.int i :: .ref b :: st) Q := by
  subst hn
  subst hi
  obtain ⟨p, l9, e, R, s, m, args, below, meth, c, cells, slots, A⟩ := X
  obtain ⟨rfl, hx, hb, hml, hown, hts, hK, hi, hNs, hA, hlk, hret, hfr, hlo, hce, hsl⟩ := F
  intro H locs lsA hP hS hl
  have e := nI_clamp (n := a) (by omega)
  refine va_sld hx hb hX.1 hX.2.1 hX.2.2 hS (vp_in_nI ha (by omega)) d ?_
  rw [e]
  exact kk H locs lsA hP hS hl
theorem j_slen {X : Cx} {l : Launch} {nL : Nat} {D : Dm} {cc : ByteArray} {own : String} {dep : Nat} {ret : Option FieldType} {σ : Mm} {pc : Nat} {ls : List (Nat × Value)} {st : List Value} {Q : State → Prop} (F : Fx X l nL D cc own dep ret) {b L : Nat} {xs : Nat → Int32} (hX : Sx X b L xs) (d : decode cc pc = .ok (.arraylength, 1)) (n : Nat) (hn : pc + 1 = n) (kk : JJ X nL D σ n ls (.int (nI L) :: st) Q) : JJ X nL D σ pc ls (.ref b :: st) Q := by
  subst hn
  obtain ⟨p, l9, e, R, s, m, args, below, meth, c, cells, slots, A⟩ := X
  obtain ⟨rfl, hx, hb, hml, hown, hts, hK, hi, hNs, hA, hlk, hret, hfr, hlo, hce, hsl⟩ := F
  intro H locs lsA hP hS hl
  exact va_slen hx hb hX.1 hX.2.1 hX.2.2 hS d (kk H locs lsA hP hS hl)
theorem lg_cmp_0 {x y : Int64} : lg_cmp x y = 0 ↔ x = y := by
  unfold lg_cmp
  by_cases h : x > y
  · rw [if_pos h]
    exact ⟨fun q => absurd q (by decide), fun q => by rw [q] at h; exact absurd h Int64.lt_irrefl⟩
  · rw [if_neg h]
    by_cases h2 : x = y
    · rw [if_pos h2]
      exact ⟨fun _ => h2, fun _ => rfl⟩
    · rw [if_neg h2]
      exact ⟨fun q => absurd q (by decide), fun q => absurd q h2⟩
theorem j_ifl_eq {X : Cx} {l : Launch} {nL : Nat} {D : Dm} {cc : ByteArray} {own : String} {dep : Nat} {ret : Option FieldType} {σ : Mm} {pc : Nat} {ls : List (Nat × Value)} {st : List Value} {Q : State → Prop} (F : Fx X l nL D cc own dep ret) {x y : Int64} {off : Int} (d : decode cc pc = .ok (.ifCond .eq off, 3)) (tgt : Nat) (ht : (pc : Int) + off = (tgt : Int)) (n : Nat) (hn : pc + 3 = n) (kf : ¬ x = y → JJ X nL D σ n ls st Q) (kt : x = y → JJ X nL D σ tgt ls st Q) : JJ X nL D σ pc ls (.int (lg_cmp x y) :: st) Q := by
  subst hn
  obtain ⟨p, l9, e, R, s, m, args, below, meth, c, cells, slots, A⟩ := X
  obtain ⟨rfl, hx, hb, hml, hown, hts, hK, hi, hNs, hA, hlk, hret, hfr, hlo, hce, hsl⟩ := F
  intro H locs lsA hP hS hl
  exact lv_if_eq hx hb d ht (fun h => kt (lg_cmp_0.mp h) H locs lsA hP hS hl) (fun h => kf (fun q => h (lg_cmp_0.mpr q)) H locs lsA hP hS hl)
theorem law_c {k L : Nat} (hL : L ≤ 256) (hk : k ≤ 300) (h : nI k ≤ nI L - 4) : k + 4 ≤ L := by
  rw [Int32.le_iff_toInt_le, nI_toInt (by omega), show (4 : Int32) = nI 4 from rfl, pk_sub_toInt (by omega) (by decide)] at h
  omega
theorem nI_inc4 (k : Nat) : nI k + Int32.ofInt 4 = nI (k + 4) := ne_add (b := 4) rfl rfl
/-- the contract of chance, as the walk uses it -/
def ct_chance : Prop := ∀ (l : Launch) (D : Dm) (a1 : Int32) (a2 : Int32) (a3 : Bool) (σ : Mm) (h0 : vp_in (σ.1 34 13) 9), Ct l yX10_chance cX10_chance 10 (some .int) 6 D [.ref (D.2.1 33), .int a1, .int a2, .int (bi a3)] σ (some (.int (fX10_chance σ a1 a2 a3)), σ)
/-- the contract of byTurns, as the walk uses it -/
def ct_byTurns : Prop := ∀ (l : Launch) (D : Dm) (a1 : Int32) (a2 : Int32) (σ : Mm) (h0 : vp_in (σ.1 34 13) 9), Ct l yX10_byTurns cX10_byTurns 7 (some .int) 7 D [.ref (D.2.1 33), .int a1, .int a2] σ (some (.int (fX10_byTurns σ a1 a2).1), (fX10_byTurns σ a1 a2).2)
/-- the law's loop: with the invariant every round goes on, and at its end the answer is 1 -/
theorem law_go (hch : ct_chance) (hbt : ct_byTurns) {l : Launch} {D : Dm} {X : Cx} (F : Fx X l 4 D cL_law RL 100 (some .boolean)) {b L : Nat} {xs : Nat → Int32} (hL : L ≤ 256) (hX : Sx X b L xs) {Q : State → Prop} {Rv : Mm → Prop} (hsc : sc_all Rv) (hend : ∀ (σ : Mm) (ls : List (Nat × Value)), JJ X 4 D σ 1012 ls [.int 1] Q) : ∀ (n k : Nat) (σ : Mm), k ≤ 256 → 256 < k + 4 * n → Rv σ → JJ X 4 D σ 18 [(0, .ref b), (1, .ref (D.2.1 0)), (2, .ref (D.2.1 33)), (3, .int (nI k))] [] Q := by
  obtain ⟨h_write, h_wipe, h_fault, h_house, h_thing, h_alike, h_price, h_broken, h_forge, h_hide, h_claim, h_guard, h_word, h_year, h_undo, h_judge, h_campaign, h_campaignBy, h_copy, h_bestWord, h_rests, h_sight, h_unsight, h_worlds, h_toSeek, h_byTurns, h_chance, h_seed, h_years, h_keep, h_again, h_count⟩ := hsc
  intro n
  induction n with
  | zero => intro k σ hk hn; omega
  | succ n ih =>
    intro k σ hk hn hR
    refine j_iload_n F dL_law_18 19 rfl 3 rfl ?_
    refine j_aload_n F dL_law_19 20 rfl 0 rfl ?_
    refine j_slen F hX dL_law_20 21 rfl ?_
    refine j_iconst (v := 4) F dL_law_21 22 rfl (by decide) ?_
    refine j_isub F dL_law_22 23 rfl ?_
    refine j_icmp_gt F dL_law_23 1011 (by decide) 26 rfl (fun c1 => ?_) (fun _ => ?_)
    · have hk4 : k + 4 ≤ L := law_c hL (by omega) c1
      refine j_aload_n F dL_law_26 27 rfl 0 rfl ?_
      refine j_iload_n F dL_law_27 28 rfl 3 rfl ?_
      refine j_sld F hX dL_law_28 29 rfl k rfl (by omega) hL ?_
      refine j_bipush (v := 31) F dL_law_29 31 rfl (by decide) ?_
      refine j_iand F dL_law_31 32 rfl ?_
      refine j_by (((xs k) &&& 31) = 0) (fun c_0 => ?_) (fun c_0 => ?_)
      · refine j_tin (z := 0) F dL_law_32 c_0 (by decide) (by decide) (by decide) rfl 176 (by decide) ?_
        refine j_aload_n F dL_law_176 177 rfl 1 rfl ?_
        refine j_aload_n F dL_law_177 178 rfl 0 rfl ?_
        refine j_iload_n F dL_law_178 179 rfl 3 rfl ?_
        refine j_iconst (v := 1) F dL_law_179 180 rfl (by decide) ?_
        refine j_iadd F dL_law_180 181 rfl ?_
        refine j_sld F hX dL_law_181 182 rfl (k + 1) (ne_add rfl rfl) (by omega) hL ?_
        obtain ⟨q0, hans, hR2⟩ := h_write σ (xs (k + 1)) hR
        refine j_callVr (as := [.int (xs (k + 1))]) (st := []) (r := .int ((fX9_write σ (xs (k + 1))).1)) (σ9 := (fX9_write σ (xs (k + 1))).2) F zX9_write dL_law_182 185 rfl pX9_write rfl (by decide) (by decide) (Nat.le_of_ble_eq_true rfl) rfl qL_13 rfl rfl (by decide) sh0 (kX9_write l D (xs (k + 1)) σ) ?_
        refine j_aload_n F dL_law_185 186 rfl 2 rfl ?_
        refine j_aload_n F dL_law_186 187 rfl 0 rfl ?_
        refine j_iload_n F dL_law_187 188 rfl 3 rfl ?_
        refine j_iconst (v := 1) F dL_law_188 189 rfl (by decide) ?_
        refine j_iadd F dL_law_189 190 rfl ?_
        refine j_sld F hX dL_law_190 191 rfl (k + 1) (ne_add rfl rfl) (by omega) hL ?_
        refine j_callVr (as := [.int (xs (k + 1))]) (st := [.int ((fX9_write σ (xs (k + 1))).1)]) (r := .int ((fX10_write ((fX9_write σ (xs (k + 1))).2) (xs (k + 1))).1)) (σ9 := (fX10_write ((fX9_write σ (xs (k + 1))).2) (xs (k + 1))).2) F zX10_write dL_law_191 194 rfl pX10_write rfl (by decide) (by decide) (Nat.le_of_ble_eq_true rfl) rfl qL_17 rfl rfl (by decide) sh33 (kX10_write l D (xs (k + 1)) ((fX9_write σ (xs (k + 1))).2) q0) ?_
        refine j_icmp_eq F dL_law_194 1005 (by decide) 197 rfl (fun c9 => absurd hans c9) (fun _ => ?_)
        refine j_iinc F dL_law_1005 1008 rfl 3 rfl (nI (k + 4)) (nI_inc4 k) (by decide) [(3, .int (nI (k + 4))), (0, .ref b), (1, .ref (D.2.1 0)), (2, .ref (D.2.1 33))] rfl ?_
        refine j_goto F dL_law_1008 18 (by decide) ?_
        refine j_pick [1, 2, 3, 0] [(0, .ref b), (1, .ref (D.2.1 0)), (2, .ref (D.2.1 33)), (3, .int (nI (k + 4)))] rfl ?_
        exact ih (k + 4) ((fX10_write ((fX9_write σ (xs (k + 1))).2) (xs (k + 1))).2) (by omega) (by omega) hR2
      refine j_by (((xs k) &&& 31) = 1) (fun c_1 => ?_) (fun c_1 => ?_)
      · refine j_tin (z := 1) F dL_law_32 c_1 (by decide) (by decide) (by decide) rfl 199 (by decide) ?_
        refine j_aload_n F dL_law_199 200 rfl 1 rfl ?_
        obtain ⟨hans, hR2⟩ := h_wipe σ hR
        refine j_callVr (as := []) (st := []) (r := .int ((fX9_wipe σ).1)) (σ9 := (fX9_wipe σ).2) F zX9_wipe dL_law_200 203 rfl pX9_wipe rfl (by decide) (by decide) (Nat.le_of_ble_eq_true rfl) rfl qL_18 rfl rfl (by decide) sh0 (kX9_wipe l D σ) ?_
        refine j_aload_n F dL_law_203 204 rfl 2 rfl ?_
        refine j_callVr (as := []) (st := [.int ((fX9_wipe σ).1)]) (r := .int ((fX10_wipe ((fX9_wipe σ).2)).1)) (σ9 := (fX10_wipe ((fX9_wipe σ).2)).2) F zX10_wipe dL_law_204 207 rfl pX10_wipe rfl (by decide) (by decide) (Nat.le_of_ble_eq_true rfl) rfl qL_22 rfl rfl (by decide) sh33 (kX10_wipe l D ((fX9_wipe σ).2)) ?_
        refine j_icmp_eq F dL_law_207 1005 (by decide) 210 rfl (fun c9 => absurd hans c9) (fun _ => ?_)
        refine j_iinc F dL_law_1005 1008 rfl 3 rfl (nI (k + 4)) (nI_inc4 k) (by decide) [(3, .int (nI (k + 4))), (0, .ref b), (1, .ref (D.2.1 0)), (2, .ref (D.2.1 33))] rfl ?_
        refine j_goto F dL_law_1008 18 (by decide) ?_
        refine j_pick [1, 2, 3, 0] [(0, .ref b), (1, .ref (D.2.1 0)), (2, .ref (D.2.1 33)), (3, .int (nI (k + 4)))] rfl ?_
        exact ih (k + 4) ((fX10_wipe ((fX9_wipe σ).2)).2) (by omega) (by omega) hR2
      refine j_by (((xs k) &&& 31) = 2) (fun c_2 => ?_) (fun c_2 => ?_)
      · refine j_tin (z := 2) F dL_law_32 c_2 (by decide) (by decide) (by decide) rfl 212 (by decide) ?_
        refine j_aload_n F dL_law_212 213 rfl 1 rfl ?_
        obtain ⟨q0, hans, hR2⟩ := h_fault σ hR
        refine j_callVr (as := []) (st := []) (r := .int (fX9_fault σ)) (σ9 := σ) F zX9_fault dL_law_213 216 rfl pX9_fault rfl (by decide) (by decide) (Nat.le_of_ble_eq_true rfl) rfl qL_23 rfl rfl (by decide) sh0 (kX9_fault l D σ) ?_
        refine j_aload_n F dL_law_216 217 rfl 2 rfl ?_
        refine j_callVr (as := []) (st := [.int (fX9_fault σ)]) (r := .int (fX10_fault σ)) (σ9 := σ) F zX10_fault dL_law_217 220 rfl pX10_fault rfl (by decide) (by decide) (Nat.le_of_ble_eq_true rfl) rfl qL_26 rfl rfl (by decide) sh33 (kX10_fault l D σ q0) ?_
        refine j_icmp_eq F dL_law_220 1005 (by decide) 223 rfl (fun c9 => absurd hans c9) (fun _ => ?_)
        refine j_iinc F dL_law_1005 1008 rfl 3 rfl (nI (k + 4)) (nI_inc4 k) (by decide) [(3, .int (nI (k + 4))), (0, .ref b), (1, .ref (D.2.1 0)), (2, .ref (D.2.1 33))] rfl ?_
        refine j_goto F dL_law_1008 18 (by decide) ?_
        refine j_pick [1, 2, 3, 0] [(0, .ref b), (1, .ref (D.2.1 0)), (2, .ref (D.2.1 33)), (3, .int (nI (k + 4)))] rfl ?_
        exact ih (k + 4) σ (by omega) (by omega) hR2
      refine j_by (((xs k) &&& 31) = 3) (fun c_3 => ?_) (fun c_3 => ?_)
      · refine j_tin (z := 3) F dL_law_32 c_3 (by decide) (by decide) (by decide) rfl 225 (by decide) ?_
        refine j_aload_n F dL_law_225 226 rfl 1 rfl ?_
        obtain ⟨q0, hans, hR2⟩ := h_house σ hR
        refine j_callVr (as := []) (st := []) (r := .int ((fX9_house σ).1)) (σ9 := (fX9_house σ).2) F zX9_house dL_law_226 229 rfl pX9_house rfl (by decide) (by decide) (Nat.le_of_ble_eq_true rfl) rfl qL_27 rfl rfl (by decide) sh0 (kX9_house l D σ) ?_
        refine j_aload_n F dL_law_229 230 rfl 2 rfl ?_
        refine j_callVr (as := []) (st := [.int ((fX9_house σ).1)]) (r := .int ((fX10_house ((fX9_house σ).2)).1)) (σ9 := (fX10_house ((fX9_house σ).2)).2) F zX10_house dL_law_230 233 rfl pX10_house rfl (by decide) (by decide) (Nat.le_of_ble_eq_true rfl) rfl qL_30 rfl rfl (by decide) sh33 (kX10_house l D ((fX9_house σ).2) q0) ?_
        refine j_icmp_eq F dL_law_233 1005 (by decide) 236 rfl (fun c9 => absurd hans c9) (fun _ => ?_)
        refine j_iinc F dL_law_1005 1008 rfl 3 rfl (nI (k + 4)) (nI_inc4 k) (by decide) [(3, .int (nI (k + 4))), (0, .ref b), (1, .ref (D.2.1 0)), (2, .ref (D.2.1 33))] rfl ?_
        refine j_goto F dL_law_1008 18 (by decide) ?_
        refine j_pick [1, 2, 3, 0] [(0, .ref b), (1, .ref (D.2.1 0)), (2, .ref (D.2.1 33)), (3, .int (nI (k + 4)))] rfl ?_
        exact ih (k + 4) ((fX10_house ((fX9_house σ).2)).2) (by omega) (by omega) hR2
      refine j_by (((xs k) &&& 31) = 4) (fun c_4 => ?_) (fun c_4 => ?_)
      · refine j_tin (z := 4) F dL_law_32 c_4 (by decide) (by decide) (by decide) rfl 238 (by decide) ?_
        refine j_aload_n F dL_law_238 239 rfl 1 rfl ?_
        refine j_aload_n F dL_law_239 240 rfl 0 rfl ?_
        refine j_iload_n F dL_law_240 241 rfl 3 rfl ?_
        refine j_iconst (v := 1) F dL_law_241 242 rfl (by decide) ?_
        refine j_iadd F dL_law_242 243 rfl ?_
        refine j_sld F hX dL_law_243 244 rfl (k + 1) (ne_add rfl rfl) (by omega) hL ?_
        refine j_aload_n F dL_law_244 245 rfl 0 rfl ?_
        refine j_iload_n F dL_law_245 246 rfl 3 rfl ?_
        refine j_iconst (v := 2) F dL_law_246 247 rfl (by decide) ?_
        refine j_iadd F dL_law_247 248 rfl ?_
        refine j_sld F hX dL_law_248 249 rfl (k + 2) (ne_add rfl rfl) (by omega) hL ?_
        obtain ⟨q0, hans, hR2⟩ := h_thing σ (xs (k + 1)) (xs (k + 2)) hR
        refine j_callVr (as := [.int (xs (k + 1)), .int (xs (k + 2))]) (st := []) (r := .int (fX9_thing σ (xs (k + 1)) (xs (k + 2)))) (σ9 := σ) F zX9_thing dL_law_249 252 rfl pX9_thing rfl (by decide) (by decide) (Nat.le_of_ble_eq_true rfl) rfl qL_31 rfl rfl (by decide) sh0 (kX9_thing l D (xs (k + 1)) (xs (k + 2)) σ) ?_
        refine j_aload_n F dL_law_252 253 rfl 2 rfl ?_
        refine j_aload_n F dL_law_253 254 rfl 0 rfl ?_
        refine j_iload_n F dL_law_254 255 rfl 3 rfl ?_
        refine j_iconst (v := 1) F dL_law_255 256 rfl (by decide) ?_
        refine j_iadd F dL_law_256 257 rfl ?_
        refine j_sld F hX dL_law_257 258 rfl (k + 1) (ne_add rfl rfl) (by omega) hL ?_
        refine j_aload_n F dL_law_258 259 rfl 0 rfl ?_
        refine j_iload_n F dL_law_259 260 rfl 3 rfl ?_
        refine j_iconst (v := 2) F dL_law_260 261 rfl (by decide) ?_
        refine j_iadd F dL_law_261 262 rfl ?_
        refine j_sld F hX dL_law_262 263 rfl (k + 2) (ne_add rfl rfl) (by omega) hL ?_
        refine j_callVr (as := [.int (xs (k + 1)), .int (xs (k + 2))]) (st := [.int (fX9_thing σ (xs (k + 1)) (xs (k + 2)))]) (r := .int (fX10_thing σ (xs (k + 1)) (xs (k + 2)))) (σ9 := σ) F zX10_thing dL_law_263 266 rfl pX10_thing rfl (by decide) (by decide) (Nat.le_of_ble_eq_true rfl) rfl qL_35 rfl rfl (by decide) sh33 (kX10_thing l D (xs (k + 1)) (xs (k + 2)) σ q0) ?_
        refine j_icmp_eq F dL_law_266 1005 (by decide) 269 rfl (fun c9 => absurd hans c9) (fun _ => ?_)
        refine j_iinc F dL_law_1005 1008 rfl 3 rfl (nI (k + 4)) (nI_inc4 k) (by decide) [(3, .int (nI (k + 4))), (0, .ref b), (1, .ref (D.2.1 0)), (2, .ref (D.2.1 33))] rfl ?_
        refine j_goto F dL_law_1008 18 (by decide) ?_
        refine j_pick [1, 2, 3, 0] [(0, .ref b), (1, .ref (D.2.1 0)), (2, .ref (D.2.1 33)), (3, .int (nI (k + 4)))] rfl ?_
        exact ih (k + 4) σ (by omega) (by omega) hR2
      refine j_by (((xs k) &&& 31) = 5) (fun c_5 => ?_) (fun c_5 => ?_)
      · refine j_tin (z := 5) F dL_law_32 c_5 (by decide) (by decide) (by decide) rfl 271 (by decide) ?_
        refine j_aload_n F dL_law_271 272 rfl 1 rfl ?_
        refine j_aload_n F dL_law_272 273 rfl 0 rfl ?_
        refine j_iload_n F dL_law_273 274 rfl 3 rfl ?_
        refine j_iconst (v := 1) F dL_law_274 275 rfl (by decide) ?_
        refine j_iadd F dL_law_275 276 rfl ?_
        refine j_sld F hX dL_law_276 277 rfl (k + 1) (ne_add rfl rfl) (by omega) hL ?_
        obtain ⟨q0, hans, hR2⟩ := h_alike σ (xs (k + 1)) hR
        refine j_callVr (as := [.int (xs (k + 1))]) (st := []) (r := .int (fX9_alike σ (xs (k + 1)))) (σ9 := σ) F zX9_alike dL_law_277 280 rfl pX9_alike rfl (by decide) (by decide) (Nat.le_of_ble_eq_true rfl) rfl qL_36 rfl rfl (by decide) sh0 (kX9_alike l D (xs (k + 1)) σ) ?_
        refine j_aload_n F dL_law_280 281 rfl 2 rfl ?_
        refine j_aload_n F dL_law_281 282 rfl 0 rfl ?_
        refine j_iload_n F dL_law_282 283 rfl 3 rfl ?_
        refine j_iconst (v := 1) F dL_law_283 284 rfl (by decide) ?_
        refine j_iadd F dL_law_284 285 rfl ?_
        refine j_sld F hX dL_law_285 286 rfl (k + 1) (ne_add rfl rfl) (by omega) hL ?_
        refine j_callVr (as := [.int (xs (k + 1))]) (st := [.int (fX9_alike σ (xs (k + 1)))]) (r := .int (fX10_alike σ (xs (k + 1)))) (σ9 := σ) F zX10_alike dL_law_286 289 rfl pX10_alike rfl (by decide) (by decide) (Nat.le_of_ble_eq_true rfl) rfl qL_39 rfl rfl (by decide) sh33 (kX10_alike l D (xs (k + 1)) σ q0) ?_
        refine j_icmp_eq F dL_law_289 1005 (by decide) 292 rfl (fun c9 => absurd hans c9) (fun _ => ?_)
        refine j_iinc F dL_law_1005 1008 rfl 3 rfl (nI (k + 4)) (nI_inc4 k) (by decide) [(3, .int (nI (k + 4))), (0, .ref b), (1, .ref (D.2.1 0)), (2, .ref (D.2.1 33))] rfl ?_
        refine j_goto F dL_law_1008 18 (by decide) ?_
        refine j_pick [1, 2, 3, 0] [(0, .ref b), (1, .ref (D.2.1 0)), (2, .ref (D.2.1 33)), (3, .int (nI (k + 4)))] rfl ?_
        exact ih (k + 4) σ (by omega) (by omega) hR2
      refine j_by (((xs k) &&& 31) = 6) (fun c_6 => ?_) (fun c_6 => ?_)
      · refine j_tin (z := 6) F dL_law_32 c_6 (by decide) (by decide) (by decide) rfl 294 (by decide) ?_
        refine j_aload_n F dL_law_294 295 rfl 1 rfl ?_
        refine j_aload_n F dL_law_295 296 rfl 0 rfl ?_
        refine j_iload_n F dL_law_296 297 rfl 3 rfl ?_
        refine j_iconst (v := 1) F dL_law_297 298 rfl (by decide) ?_
        refine j_iadd F dL_law_298 299 rfl ?_
        refine j_sld F hX dL_law_299 300 rfl (k + 1) (ne_add rfl rfl) (by omega) hL ?_
        obtain ⟨q0, hans, hR2⟩ := h_price σ (xs (k + 1)) hR
        refine j_callVr (as := [.int (xs (k + 1))]) (st := []) (r := .int (fX9_price σ (xs (k + 1)))) (σ9 := σ) F zX9_price dL_law_300 303 rfl pX9_price rfl (by decide) (by decide) (Nat.le_of_ble_eq_true rfl) rfl qL_40 rfl rfl (by decide) sh0 (kX9_price l D (xs (k + 1)) σ) ?_
        refine j_aload_n F dL_law_303 304 rfl 2 rfl ?_
        refine j_aload_n F dL_law_304 305 rfl 0 rfl ?_
        refine j_iload_n F dL_law_305 306 rfl 3 rfl ?_
        refine j_iconst (v := 1) F dL_law_306 307 rfl (by decide) ?_
        refine j_iadd F dL_law_307 308 rfl ?_
        refine j_sld F hX dL_law_308 309 rfl (k + 1) (ne_add rfl rfl) (by omega) hL ?_
        refine j_callVr (as := [.int (xs (k + 1))]) (st := [.int (fX9_price σ (xs (k + 1)))]) (r := .int (fX10_price σ (xs (k + 1)))) (σ9 := σ) F zX10_price dL_law_309 312 rfl pX10_price rfl (by decide) (by decide) (Nat.le_of_ble_eq_true rfl) rfl qL_43 rfl rfl (by decide) sh33 (kX10_price l D (xs (k + 1)) σ q0) ?_
        refine j_icmp_eq F dL_law_312 1005 (by decide) 315 rfl (fun c9 => absurd hans c9) (fun _ => ?_)
        refine j_iinc F dL_law_1005 1008 rfl 3 rfl (nI (k + 4)) (nI_inc4 k) (by decide) [(3, .int (nI (k + 4))), (0, .ref b), (1, .ref (D.2.1 0)), (2, .ref (D.2.1 33))] rfl ?_
        refine j_goto F dL_law_1008 18 (by decide) ?_
        refine j_pick [1, 2, 3, 0] [(0, .ref b), (1, .ref (D.2.1 0)), (2, .ref (D.2.1 33)), (3, .int (nI (k + 4)))] rfl ?_
        exact ih (k + 4) σ (by omega) (by omega) hR2
      refine j_by (((xs k) &&& 31) = 7) (fun c_7 => ?_) (fun c_7 => ?_)
      · refine j_tin (z := 7) F dL_law_32 c_7 (by decide) (by decide) (by decide) rfl 317 (by decide) ?_
        refine j_aload_n F dL_law_317 318 rfl 1 rfl ?_
        refine j_aload_n F dL_law_318 319 rfl 0 rfl ?_
        refine j_iload_n F dL_law_319 320 rfl 3 rfl ?_
        refine j_iconst (v := 1) F dL_law_320 321 rfl (by decide) ?_
        refine j_iadd F dL_law_321 322 rfl ?_
        refine j_sld F hX dL_law_322 323 rfl (k + 1) (ne_add rfl rfl) (by omega) hL ?_
        obtain ⟨p0, q0, q1, hans, hR2⟩ := h_broken σ (xs (k + 1)) hR
        refine j_callVr (as := [.int (xs (k + 1))]) (st := []) (r := .int ((fX9_broken σ (xs (k + 1))).1)) (σ9 := (fX9_broken σ (xs (k + 1))).2) F zX9_broken dL_law_323 326 rfl pX9_broken rfl (by decide) (by decide) (Nat.le_of_ble_eq_true rfl) rfl qL_44 rfl rfl (by decide) sh0 (kX9_broken l D (xs (k + 1)) σ p0) ?_
        refine j_aload_n F dL_law_326 327 rfl 2 rfl ?_
        refine j_aload_n F dL_law_327 328 rfl 0 rfl ?_
        refine j_iload_n F dL_law_328 329 rfl 3 rfl ?_
        refine j_iconst (v := 1) F dL_law_329 330 rfl (by decide) ?_
        refine j_iadd F dL_law_330 331 rfl ?_
        refine j_sld F hX dL_law_331 332 rfl (k + 1) (ne_add rfl rfl) (by omega) hL ?_
        refine j_callVr (as := [.int (xs (k + 1))]) (st := [.int ((fX9_broken σ (xs (k + 1))).1)]) (r := .int ((fX10_broken ((fX9_broken σ (xs (k + 1))).2) (xs (k + 1))).1)) (σ9 := (fX10_broken ((fX9_broken σ (xs (k + 1))).2) (xs (k + 1))).2) F zX10_broken dL_law_332 335 rfl pX10_broken rfl (by decide) (by decide) (Nat.le_of_ble_eq_true rfl) rfl qL_47 rfl rfl (by decide) sh33 (kX10_broken l D (xs (k + 1)) ((fX9_broken σ (xs (k + 1))).2) q0 q1) ?_
        refine j_icmp_eq F dL_law_335 1005 (by decide) 338 rfl (fun c9 => absurd hans c9) (fun _ => ?_)
        refine j_iinc F dL_law_1005 1008 rfl 3 rfl (nI (k + 4)) (nI_inc4 k) (by decide) [(3, .int (nI (k + 4))), (0, .ref b), (1, .ref (D.2.1 0)), (2, .ref (D.2.1 33))] rfl ?_
        refine j_goto F dL_law_1008 18 (by decide) ?_
        refine j_pick [1, 2, 3, 0] [(0, .ref b), (1, .ref (D.2.1 0)), (2, .ref (D.2.1 33)), (3, .int (nI (k + 4)))] rfl ?_
        exact ih (k + 4) ((fX10_broken ((fX9_broken σ (xs (k + 1))).2) (xs (k + 1))).2) (by omega) (by omega) hR2
      refine j_by (((xs k) &&& 31) = 8) (fun c_8 => ?_) (fun c_8 => ?_)
      · refine j_tin (z := 8) F dL_law_32 c_8 (by decide) (by decide) (by decide) rfl 340 (by decide) ?_
        refine j_aload_n F dL_law_340 341 rfl 1 rfl ?_
        refine j_aload_n F dL_law_341 342 rfl 0 rfl ?_
        refine j_iload_n F dL_law_342 343 rfl 3 rfl ?_
        refine j_iconst (v := 1) F dL_law_343 344 rfl (by decide) ?_
        refine j_iadd F dL_law_344 345 rfl ?_
        refine j_sld F hX dL_law_345 346 rfl (k + 1) (ne_add rfl rfl) (by omega) hL ?_
        refine j_aload_n F dL_law_346 347 rfl 0 rfl ?_
        refine j_iload_n F dL_law_347 348 rfl 3 rfl ?_
        refine j_iconst (v := 2) F dL_law_348 349 rfl (by decide) ?_
        refine j_iadd F dL_law_349 350 rfl ?_
        refine j_sld F hX dL_law_350 351 rfl (k + 2) (ne_add rfl rfl) (by omega) hL ?_
        obtain ⟨p0, q0, q1, hans, hR2⟩ := h_forge σ (xs (k + 1)) (xs (k + 2)) hR
        refine j_callVr (as := [.int (xs (k + 1)), .int (xs (k + 2))]) (st := []) (r := .int ((fX9_forge σ (xs (k + 1)) (xs (k + 2))).1)) (σ9 := (fX9_forge σ (xs (k + 1)) (xs (k + 2))).2) F zX9_forge dL_law_351 354 rfl pX9_forge rfl (by decide) (by decide) (Nat.le_of_ble_eq_true rfl) rfl qL_48 rfl rfl (by decide) sh0 (kX9_forge l D (xs (k + 1)) (xs (k + 2)) σ p0) ?_
        refine j_aload_n F dL_law_354 355 rfl 2 rfl ?_
        refine j_aload_n F dL_law_355 356 rfl 0 rfl ?_
        refine j_iload_n F dL_law_356 357 rfl 3 rfl ?_
        refine j_iconst (v := 1) F dL_law_357 358 rfl (by decide) ?_
        refine j_iadd F dL_law_358 359 rfl ?_
        refine j_sld F hX dL_law_359 360 rfl (k + 1) (ne_add rfl rfl) (by omega) hL ?_
        refine j_aload_n F dL_law_360 361 rfl 0 rfl ?_
        refine j_iload_n F dL_law_361 362 rfl 3 rfl ?_
        refine j_iconst (v := 2) F dL_law_362 363 rfl (by decide) ?_
        refine j_iadd F dL_law_363 364 rfl ?_
        refine j_sld F hX dL_law_364 365 rfl (k + 2) (ne_add rfl rfl) (by omega) hL ?_
        refine j_callVr (as := [.int (xs (k + 1)), .int (xs (k + 2))]) (st := [.int ((fX9_forge σ (xs (k + 1)) (xs (k + 2))).1)]) (r := .int ((fX10_forge ((fX9_forge σ (xs (k + 1)) (xs (k + 2))).2) (xs (k + 1)) (xs (k + 2))).1)) (σ9 := (fX10_forge ((fX9_forge σ (xs (k + 1)) (xs (k + 2))).2) (xs (k + 1)) (xs (k + 2))).2) F zX10_forge dL_law_365 368 rfl pX10_forge rfl (by decide) (by decide) (Nat.le_of_ble_eq_true rfl) rfl qL_51 rfl rfl (by decide) sh33 (kX10_forge l D (xs (k + 1)) (xs (k + 2)) ((fX9_forge σ (xs (k + 1)) (xs (k + 2))).2) q0 q1) ?_
        refine j_icmp_eq F dL_law_368 1005 (by decide) 371 rfl (fun c9 => absurd hans c9) (fun _ => ?_)
        refine j_iinc F dL_law_1005 1008 rfl 3 rfl (nI (k + 4)) (nI_inc4 k) (by decide) [(3, .int (nI (k + 4))), (0, .ref b), (1, .ref (D.2.1 0)), (2, .ref (D.2.1 33))] rfl ?_
        refine j_goto F dL_law_1008 18 (by decide) ?_
        refine j_pick [1, 2, 3, 0] [(0, .ref b), (1, .ref (D.2.1 0)), (2, .ref (D.2.1 33)), (3, .int (nI (k + 4)))] rfl ?_
        exact ih (k + 4) ((fX10_forge ((fX9_forge σ (xs (k + 1)) (xs (k + 2))).2) (xs (k + 1)) (xs (k + 2))).2) (by omega) (by omega) hR2
      refine j_by (((xs k) &&& 31) = 9) (fun c_9 => ?_) (fun c_9 => ?_)
      · refine j_tin (z := 9) F dL_law_32 c_9 (by decide) (by decide) (by decide) rfl 373 (by decide) ?_
        refine j_aload_n F dL_law_373 374 rfl 1 rfl ?_
        refine j_aload_n F dL_law_374 375 rfl 0 rfl ?_
        refine j_iload_n F dL_law_375 376 rfl 3 rfl ?_
        refine j_iconst (v := 1) F dL_law_376 377 rfl (by decide) ?_
        refine j_iadd F dL_law_377 378 rfl ?_
        refine j_sld F hX dL_law_378 379 rfl (k + 1) (ne_add rfl rfl) (by omega) hL ?_
        obtain ⟨p0, q0, q1, hans, hR2⟩ := h_hide σ (xs (k + 1)) hR
        refine j_callVr (as := [.int (xs (k + 1))]) (st := []) (r := .int ((fX9_hide σ (xs (k + 1))).1)) (σ9 := (fX9_hide σ (xs (k + 1))).2) F zX9_hide dL_law_379 382 rfl pX9_hide rfl (by decide) (by decide) (Nat.le_of_ble_eq_true rfl) rfl qL_52 rfl rfl (by decide) sh0 (kX9_hide l D (xs (k + 1)) σ p0) ?_
        refine j_aload_n F dL_law_382 383 rfl 2 rfl ?_
        refine j_aload_n F dL_law_383 384 rfl 0 rfl ?_
        refine j_iload_n F dL_law_384 385 rfl 3 rfl ?_
        refine j_iconst (v := 1) F dL_law_385 386 rfl (by decide) ?_
        refine j_iadd F dL_law_386 387 rfl ?_
        refine j_sld F hX dL_law_387 388 rfl (k + 1) (ne_add rfl rfl) (by omega) hL ?_
        refine j_callVr (as := [.int (xs (k + 1))]) (st := [.int ((fX9_hide σ (xs (k + 1))).1)]) (r := .int ((fX10_hide ((fX9_hide σ (xs (k + 1))).2) (xs (k + 1))).1)) (σ9 := (fX10_hide ((fX9_hide σ (xs (k + 1))).2) (xs (k + 1))).2) F zX10_hide dL_law_388 391 rfl pX10_hide rfl (by decide) (by decide) (Nat.le_of_ble_eq_true rfl) rfl qL_55 rfl rfl (by decide) sh33 (kX10_hide l D (xs (k + 1)) ((fX9_hide σ (xs (k + 1))).2) q0 q1) ?_
        refine j_icmp_eq F dL_law_391 1005 (by decide) 394 rfl (fun c9 => absurd hans c9) (fun _ => ?_)
        refine j_iinc F dL_law_1005 1008 rfl 3 rfl (nI (k + 4)) (nI_inc4 k) (by decide) [(3, .int (nI (k + 4))), (0, .ref b), (1, .ref (D.2.1 0)), (2, .ref (D.2.1 33))] rfl ?_
        refine j_goto F dL_law_1008 18 (by decide) ?_
        refine j_pick [1, 2, 3, 0] [(0, .ref b), (1, .ref (D.2.1 0)), (2, .ref (D.2.1 33)), (3, .int (nI (k + 4)))] rfl ?_
        exact ih (k + 4) ((fX10_hide ((fX9_hide σ (xs (k + 1))).2) (xs (k + 1))).2) (by omega) (by omega) hR2
      refine j_by (((xs k) &&& 31) = 10) (fun c_10 => ?_) (fun c_10 => ?_)
      · refine j_tin (z := 10) F dL_law_32 c_10 (by decide) (by decide) (by decide) rfl 396 (by decide) ?_
        refine j_aload_n F dL_law_396 397 rfl 1 rfl ?_
        refine j_aload_n F dL_law_397 398 rfl 0 rfl ?_
        refine j_iload_n F dL_law_398 399 rfl 3 rfl ?_
        refine j_iconst (v := 1) F dL_law_399 400 rfl (by decide) ?_
        refine j_iadd F dL_law_400 401 rfl ?_
        refine j_sld F hX dL_law_401 402 rfl (k + 1) (ne_add rfl rfl) (by omega) hL ?_
        obtain ⟨p0, q0, q1, hans, hR2⟩ := h_claim σ (xs (k + 1)) hR
        refine j_callVr (as := [.int (xs (k + 1))]) (st := []) (r := .int ((fX9_claim σ (xs (k + 1))).1)) (σ9 := (fX9_claim σ (xs (k + 1))).2) F zX9_claim dL_law_402 405 rfl pX9_claim rfl (by decide) (by decide) (Nat.le_of_ble_eq_true rfl) rfl qL_56 rfl rfl (by decide) sh0 (kX9_claim l D (xs (k + 1)) σ p0) ?_
        refine j_aload_n F dL_law_405 406 rfl 2 rfl ?_
        refine j_aload_n F dL_law_406 407 rfl 0 rfl ?_
        refine j_iload_n F dL_law_407 408 rfl 3 rfl ?_
        refine j_iconst (v := 1) F dL_law_408 409 rfl (by decide) ?_
        refine j_iadd F dL_law_409 410 rfl ?_
        refine j_sld F hX dL_law_410 411 rfl (k + 1) (ne_add rfl rfl) (by omega) hL ?_
        refine j_callVr (as := [.int (xs (k + 1))]) (st := [.int ((fX9_claim σ (xs (k + 1))).1)]) (r := .int ((fX10_claim ((fX9_claim σ (xs (k + 1))).2) (xs (k + 1))).1)) (σ9 := (fX10_claim ((fX9_claim σ (xs (k + 1))).2) (xs (k + 1))).2) F zX10_claim dL_law_411 414 rfl pX10_claim rfl (by decide) (by decide) (Nat.le_of_ble_eq_true rfl) rfl qL_59 rfl rfl (by decide) sh33 (kX10_claim l D (xs (k + 1)) ((fX9_claim σ (xs (k + 1))).2) q0 q1) ?_
        refine j_icmp_eq F dL_law_414 1005 (by decide) 417 rfl (fun c9 => absurd hans c9) (fun _ => ?_)
        refine j_iinc F dL_law_1005 1008 rfl 3 rfl (nI (k + 4)) (nI_inc4 k) (by decide) [(3, .int (nI (k + 4))), (0, .ref b), (1, .ref (D.2.1 0)), (2, .ref (D.2.1 33))] rfl ?_
        refine j_goto F dL_law_1008 18 (by decide) ?_
        refine j_pick [1, 2, 3, 0] [(0, .ref b), (1, .ref (D.2.1 0)), (2, .ref (D.2.1 33)), (3, .int (nI (k + 4)))] rfl ?_
        exact ih (k + 4) ((fX10_claim ((fX9_claim σ (xs (k + 1))).2) (xs (k + 1))).2) (by omega) (by omega) hR2
      refine j_by (((xs k) &&& 31) = 11) (fun c_11 => ?_) (fun c_11 => ?_)
      · refine j_tin (z := 11) F dL_law_32 c_11 (by decide) (by decide) (by decide) rfl 419 (by decide) ?_
        refine j_aload_n F dL_law_419 420 rfl 1 rfl ?_
        refine j_aload_n F dL_law_420 421 rfl 0 rfl ?_
        refine j_iload_n F dL_law_421 422 rfl 3 rfl ?_
        refine j_iconst (v := 1) F dL_law_422 423 rfl (by decide) ?_
        refine j_iadd F dL_law_423 424 rfl ?_
        refine j_sld F hX dL_law_424 425 rfl (k + 1) (ne_add rfl rfl) (by omega) hL ?_
        obtain ⟨p0, q0, q1, hans, hR2⟩ := h_guard σ (xs (k + 1)) hR
        refine j_callVr (as := [.int (xs (k + 1))]) (st := []) (r := .int ((fX9_guard σ (xs (k + 1))).1)) (σ9 := (fX9_guard σ (xs (k + 1))).2) F zX9_guard dL_law_425 428 rfl pX9_guard rfl (by decide) (by decide) (Nat.le_of_ble_eq_true rfl) rfl qL_60 rfl rfl (by decide) sh0 (kX9_guard l D (xs (k + 1)) σ p0) ?_
        refine j_aload_n F dL_law_428 429 rfl 2 rfl ?_
        refine j_aload_n F dL_law_429 430 rfl 0 rfl ?_
        refine j_iload_n F dL_law_430 431 rfl 3 rfl ?_
        refine j_iconst (v := 1) F dL_law_431 432 rfl (by decide) ?_
        refine j_iadd F dL_law_432 433 rfl ?_
        refine j_sld F hX dL_law_433 434 rfl (k + 1) (ne_add rfl rfl) (by omega) hL ?_
        refine j_callVr (as := [.int (xs (k + 1))]) (st := [.int ((fX9_guard σ (xs (k + 1))).1)]) (r := .int ((fX10_guard ((fX9_guard σ (xs (k + 1))).2) (xs (k + 1))).1)) (σ9 := (fX10_guard ((fX9_guard σ (xs (k + 1))).2) (xs (k + 1))).2) F zX10_guard dL_law_434 437 rfl pX10_guard rfl (by decide) (by decide) (Nat.le_of_ble_eq_true rfl) rfl qL_63 rfl rfl (by decide) sh33 (kX10_guard l D (xs (k + 1)) ((fX9_guard σ (xs (k + 1))).2) q0 q1) ?_
        refine j_icmp_eq F dL_law_437 1005 (by decide) 440 rfl (fun c9 => absurd hans c9) (fun _ => ?_)
        refine j_iinc F dL_law_1005 1008 rfl 3 rfl (nI (k + 4)) (nI_inc4 k) (by decide) [(3, .int (nI (k + 4))), (0, .ref b), (1, .ref (D.2.1 0)), (2, .ref (D.2.1 33))] rfl ?_
        refine j_goto F dL_law_1008 18 (by decide) ?_
        refine j_pick [1, 2, 3, 0] [(0, .ref b), (1, .ref (D.2.1 0)), (2, .ref (D.2.1 33)), (3, .int (nI (k + 4)))] rfl ?_
        exact ih (k + 4) ((fX10_guard ((fX9_guard σ (xs (k + 1))).2) (xs (k + 1))).2) (by omega) (by omega) hR2
      refine j_by (((xs k) &&& 31) = 12) (fun c_12 => ?_) (fun c_12 => ?_)
      · refine j_tin (z := 12) F dL_law_32 c_12 (by decide) (by decide) (by decide) rfl 442 (by decide) ?_
        refine j_aload_n F dL_law_442 443 rfl 1 rfl ?_
        refine j_aload_n F dL_law_443 444 rfl 0 rfl ?_
        refine j_iload_n F dL_law_444 445 rfl 3 rfl ?_
        refine j_iconst (v := 1) F dL_law_445 446 rfl (by decide) ?_
        refine j_iadd F dL_law_446 447 rfl ?_
        refine j_sld F hX dL_law_447 448 rfl (k + 1) (ne_add rfl rfl) (by omega) hL ?_
        obtain ⟨p0, q0, q1, hans, hR2⟩ := h_word σ (xs (k + 1)) hR
        refine j_callVr (as := [.int (xs (k + 1))]) (st := []) (r := .int ((fX9_word σ (xs (k + 1))).1)) (σ9 := (fX9_word σ (xs (k + 1))).2) F zX9_word dL_law_448 451 rfl pX9_word rfl (by decide) (by decide) (Nat.le_of_ble_eq_true rfl) rfl qL_64 rfl rfl (by decide) sh0 (kX9_word l D (xs (k + 1)) σ p0) ?_
        refine j_aload_n F dL_law_451 452 rfl 2 rfl ?_
        refine j_aload_n F dL_law_452 453 rfl 0 rfl ?_
        refine j_iload_n F dL_law_453 454 rfl 3 rfl ?_
        refine j_iconst (v := 1) F dL_law_454 455 rfl (by decide) ?_
        refine j_iadd F dL_law_455 456 rfl ?_
        refine j_sld F hX dL_law_456 457 rfl (k + 1) (ne_add rfl rfl) (by omega) hL ?_
        refine j_callVr (as := [.int (xs (k + 1))]) (st := [.int ((fX9_word σ (xs (k + 1))).1)]) (r := .int ((fX10_word ((fX9_word σ (xs (k + 1))).2) (xs (k + 1))).1)) (σ9 := (fX10_word ((fX9_word σ (xs (k + 1))).2) (xs (k + 1))).2) F zX10_word dL_law_457 460 rfl pX10_word rfl (by decide) (by decide) (Nat.le_of_ble_eq_true rfl) rfl qL_67 rfl rfl (by decide) sh33 (kX10_word l D (xs (k + 1)) ((fX9_word σ (xs (k + 1))).2) q0 q1) ?_
        refine j_icmp_eq F dL_law_460 1005 (by decide) 463 rfl (fun c9 => absurd hans c9) (fun _ => ?_)
        refine j_iinc F dL_law_1005 1008 rfl 3 rfl (nI (k + 4)) (nI_inc4 k) (by decide) [(3, .int (nI (k + 4))), (0, .ref b), (1, .ref (D.2.1 0)), (2, .ref (D.2.1 33))] rfl ?_
        refine j_goto F dL_law_1008 18 (by decide) ?_
        refine j_pick [1, 2, 3, 0] [(0, .ref b), (1, .ref (D.2.1 0)), (2, .ref (D.2.1 33)), (3, .int (nI (k + 4)))] rfl ?_
        exact ih (k + 4) ((fX10_word ((fX9_word σ (xs (k + 1))).2) (xs (k + 1))).2) (by omega) (by omega) hR2
      refine j_by (((xs k) &&& 31) = 13) (fun c_13 => ?_) (fun c_13 => ?_)
      · refine j_tin (z := 13) F dL_law_32 c_13 (by decide) (by decide) (by decide) rfl 465 (by decide) ?_
        refine j_aload_n F dL_law_465 466 rfl 1 rfl ?_
        obtain ⟨p0, q0, hans, hR2⟩ := h_year σ hR
        refine j_callVr (as := []) (st := []) (r := .int ((fX9_year σ).1)) (σ9 := (fX9_year σ).2) F zX9_year dL_law_466 469 rfl pX9_year rfl (by decide) (by decide) (Nat.le_of_ble_eq_true rfl) rfl qL_68 rfl rfl (by decide) sh0 (kX9_year l D σ p0) ?_
        refine j_aload_n F dL_law_469 470 rfl 2 rfl ?_
        refine j_callVr (as := []) (st := [.int ((fX9_year σ).1)]) (r := .int ((fX10_year ((fX9_year σ).2)).1)) (σ9 := (fX10_year ((fX9_year σ).2)).2) F zX10_year dL_law_470 473 rfl pX10_year rfl (by decide) (by decide) (Nat.le_of_ble_eq_true rfl) rfl qL_71 rfl rfl (by decide) sh33 (kX10_year l D ((fX9_year σ).2) q0) ?_
        refine j_icmp_eq F dL_law_473 1005 (by decide) 476 rfl (fun c9 => absurd hans c9) (fun _ => ?_)
        refine j_iinc F dL_law_1005 1008 rfl 3 rfl (nI (k + 4)) (nI_inc4 k) (by decide) [(3, .int (nI (k + 4))), (0, .ref b), (1, .ref (D.2.1 0)), (2, .ref (D.2.1 33))] rfl ?_
        refine j_goto F dL_law_1008 18 (by decide) ?_
        refine j_pick [1, 2, 3, 0] [(0, .ref b), (1, .ref (D.2.1 0)), (2, .ref (D.2.1 33)), (3, .int (nI (k + 4)))] rfl ?_
        exact ih (k + 4) ((fX10_year ((fX9_year σ).2)).2) (by omega) (by omega) hR2
      refine j_by (((xs k) &&& 31) = 14) (fun c_14 => ?_) (fun c_14 => ?_)
      · refine j_tin (z := 14) F dL_law_32 c_14 (by decide) (by decide) (by decide) rfl 478 (by decide) ?_
        refine j_aload_n F dL_law_478 479 rfl 1 rfl ?_
        obtain ⟨p0, q0, hans, hR2⟩ := h_undo σ hR
        refine j_callVr (as := []) (st := []) (r := .int ((fX9_undo σ).1)) (σ9 := (fX9_undo σ).2) F zX9_undo dL_law_479 482 rfl pX9_undo rfl (by decide) (by decide) (Nat.le_of_ble_eq_true rfl) rfl qL_72 rfl rfl (by decide) sh0 (kX9_undo l D σ p0) ?_
        refine j_aload_n F dL_law_482 483 rfl 2 rfl ?_
        refine j_callVr (as := []) (st := [.int ((fX9_undo σ).1)]) (r := .int ((fX10_undo ((fX9_undo σ).2)).1)) (σ9 := (fX10_undo ((fX9_undo σ).2)).2) F zX10_undo dL_law_483 486 rfl pX10_undo rfl (by decide) (by decide) (Nat.le_of_ble_eq_true rfl) rfl qL_75 rfl rfl (by decide) sh33 (kX10_undo l D ((fX9_undo σ).2) q0) ?_
        refine j_icmp_eq F dL_law_486 1005 (by decide) 489 rfl (fun c9 => absurd hans c9) (fun _ => ?_)
        refine j_iinc F dL_law_1005 1008 rfl 3 rfl (nI (k + 4)) (nI_inc4 k) (by decide) [(3, .int (nI (k + 4))), (0, .ref b), (1, .ref (D.2.1 0)), (2, .ref (D.2.1 33))] rfl ?_
        refine j_goto F dL_law_1008 18 (by decide) ?_
        refine j_pick [1, 2, 3, 0] [(0, .ref b), (1, .ref (D.2.1 0)), (2, .ref (D.2.1 33)), (3, .int (nI (k + 4)))] rfl ?_
        exact ih (k + 4) ((fX10_undo ((fX9_undo σ).2)).2) (by omega) (by omega) hR2
      refine j_by (((xs k) &&& 31) = 15) (fun c_15 => ?_) (fun c_15 => ?_)
      · refine j_tin (z := 15) F dL_law_32 c_15 (by decide) (by decide) (by decide) rfl 491 (by decide) ?_
        refine j_aload_n F dL_law_491 492 rfl 1 rfl ?_
        refine j_aload_n F dL_law_492 493 rfl 0 rfl ?_
        refine j_iload_n F dL_law_493 494 rfl 3 rfl ?_
        refine j_iconst (v := 1) F dL_law_494 495 rfl (by decide) ?_
        refine j_iadd F dL_law_495 496 rfl ?_
        refine j_sld F hX dL_law_496 497 rfl (k + 1) (ne_add rfl rfl) (by omega) hL ?_
        refine j_aload_n F dL_law_497 498 rfl 0 rfl ?_
        refine j_iload_n F dL_law_498 499 rfl 3 rfl ?_
        refine j_iconst (v := 2) F dL_law_499 500 rfl (by decide) ?_
        refine j_iadd F dL_law_500 501 rfl ?_
        refine j_sld F hX dL_law_501 502 rfl (k + 2) (ne_add rfl rfl) (by omega) hL ?_
        obtain ⟨q0, hans, hR2⟩ := h_judge σ (xs (k + 1)) (xs (k + 2)) hR
        refine j_callVr (as := [.int (xs (k + 1)), .int (xs (k + 2))]) (st := []) (r := .int ((fX9_judge σ (xs (k + 1)) (xs (k + 2))).1)) (σ9 := (fX9_judge σ (xs (k + 1)) (xs (k + 2))).2) F zX9_judge dL_law_502 505 rfl pX9_judge rfl (by decide) (by decide) (Nat.le_of_ble_eq_true rfl) rfl qL_76 rfl rfl (by decide) sh0 (kX9_judge l D (xs (k + 1)) (xs (k + 2)) σ) ?_
        refine j_aload_n F dL_law_505 506 rfl 2 rfl ?_
        refine j_aload_n F dL_law_506 507 rfl 0 rfl ?_
        refine j_iload_n F dL_law_507 508 rfl 3 rfl ?_
        refine j_iconst (v := 1) F dL_law_508 509 rfl (by decide) ?_
        refine j_iadd F dL_law_509 510 rfl ?_
        refine j_sld F hX dL_law_510 511 rfl (k + 1) (ne_add rfl rfl) (by omega) hL ?_
        refine j_aload_n F dL_law_511 512 rfl 0 rfl ?_
        refine j_iload_n F dL_law_512 513 rfl 3 rfl ?_
        refine j_iconst (v := 2) F dL_law_513 514 rfl (by decide) ?_
        refine j_iadd F dL_law_514 515 rfl ?_
        refine j_sld F hX dL_law_515 516 rfl (k + 2) (ne_add rfl rfl) (by omega) hL ?_
        refine j_callVr (as := [.int (xs (k + 1)), .int (xs (k + 2))]) (st := [.int ((fX9_judge σ (xs (k + 1)) (xs (k + 2))).1)]) (r := .int ((fX10_judge ((fX9_judge σ (xs (k + 1)) (xs (k + 2))).2) (xs (k + 1)) (xs (k + 2))).1)) (σ9 := (fX10_judge ((fX9_judge σ (xs (k + 1)) (xs (k + 2))).2) (xs (k + 1)) (xs (k + 2))).2) F zX10_judge dL_law_516 519 rfl pX10_judge rfl (by decide) (by decide) (Nat.le_of_ble_eq_true rfl) rfl qL_79 rfl rfl (by decide) sh33 (kX10_judge l D (xs (k + 1)) (xs (k + 2)) ((fX9_judge σ (xs (k + 1)) (xs (k + 2))).2) q0) ?_
        refine j_icmp_eq F dL_law_519 1005 (by decide) 522 rfl (fun c9 => absurd hans c9) (fun _ => ?_)
        refine j_iinc F dL_law_1005 1008 rfl 3 rfl (nI (k + 4)) (nI_inc4 k) (by decide) [(3, .int (nI (k + 4))), (0, .ref b), (1, .ref (D.2.1 0)), (2, .ref (D.2.1 33))] rfl ?_
        refine j_goto F dL_law_1008 18 (by decide) ?_
        refine j_pick [1, 2, 3, 0] [(0, .ref b), (1, .ref (D.2.1 0)), (2, .ref (D.2.1 33)), (3, .int (nI (k + 4)))] rfl ?_
        exact ih (k + 4) ((fX10_judge ((fX9_judge σ (xs (k + 1)) (xs (k + 2))).2) (xs (k + 1)) (xs (k + 2))).2) (by omega) (by omega) hR2
      refine j_by (((xs k) &&& 31) = 16) (fun c_16 => ?_) (fun c_16 => ?_)
      · refine j_tin (z := 16) F dL_law_32 c_16 (by decide) (by decide) (by decide) rfl 524 (by decide) ?_
        refine j_aload_n F dL_law_524 525 rfl 1 rfl ?_
        refine j_aload_n F dL_law_525 526 rfl 0 rfl ?_
        refine j_iload_n F dL_law_526 527 rfl 3 rfl ?_
        refine j_iconst (v := 1) F dL_law_527 528 rfl (by decide) ?_
        refine j_iadd F dL_law_528 529 rfl ?_
        refine j_sld F hX dL_law_529 530 rfl (k + 1) (ne_add rfl rfl) (by omega) hL ?_
        obtain ⟨q0, hans, hR2⟩ := h_campaign σ (xs (k + 1)) hR
        refine j_callVr (as := [.int (xs (k + 1))]) (st := []) (r := .int ((fX9_campaign σ (xs (k + 1))).1)) (σ9 := (fX9_campaign σ (xs (k + 1))).2) F zX9_campaign dL_law_530 533 rfl pX9_campaign rfl (by decide) (by decide) (Nat.le_of_ble_eq_true rfl) rfl qL_80 rfl rfl (by decide) sh0 (kX9_campaign l D (xs (k + 1)) σ) ?_
        refine j_aload_n F dL_law_533 534 rfl 2 rfl ?_
        refine j_aload_n F dL_law_534 535 rfl 0 rfl ?_
        refine j_iload_n F dL_law_535 536 rfl 3 rfl ?_
        refine j_iconst (v := 1) F dL_law_536 537 rfl (by decide) ?_
        refine j_iadd F dL_law_537 538 rfl ?_
        refine j_sld F hX dL_law_538 539 rfl (k + 1) (ne_add rfl rfl) (by omega) hL ?_
        refine j_callVr (as := [.int (xs (k + 1))]) (st := [.int ((fX9_campaign σ (xs (k + 1))).1)]) (r := .int (fX10_campaign ((fX9_campaign σ (xs (k + 1))).2) (xs (k + 1)))) (σ9 := (fX9_campaign σ (xs (k + 1))).2) F zX10_campaign dL_law_539 542 rfl pX10_campaign rfl (by decide) (by decide) (Nat.le_of_ble_eq_true rfl) rfl qL_83 rfl rfl (by decide) sh33 (kX10_campaign l D (xs (k + 1)) ((fX9_campaign σ (xs (k + 1))).2) q0) ?_
        refine j_icmp_eq F dL_law_542 1005 (by decide) 545 rfl (fun c9 => absurd hans c9) (fun _ => ?_)
        refine j_iinc F dL_law_1005 1008 rfl 3 rfl (nI (k + 4)) (nI_inc4 k) (by decide) [(3, .int (nI (k + 4))), (0, .ref b), (1, .ref (D.2.1 0)), (2, .ref (D.2.1 33))] rfl ?_
        refine j_goto F dL_law_1008 18 (by decide) ?_
        refine j_pick [1, 2, 3, 0] [(0, .ref b), (1, .ref (D.2.1 0)), (2, .ref (D.2.1 33)), (3, .int (nI (k + 4)))] rfl ?_
        exact ih (k + 4) ((fX9_campaign σ (xs (k + 1))).2) (by omega) (by omega) hR2
      refine j_by (((xs k) &&& 31) = 17) (fun c_17 => ?_) (fun c_17 => ?_)
      · refine j_tin (z := 17) F dL_law_32 c_17 (by decide) (by decide) (by decide) rfl 547 (by decide) ?_
        refine j_aload_n F dL_law_547 548 rfl 1 rfl ?_
        refine j_aload_n F dL_law_548 549 rfl 0 rfl ?_
        refine j_iload_n F dL_law_549 550 rfl 3 rfl ?_
        refine j_iconst (v := 1) F dL_law_550 551 rfl (by decide) ?_
        refine j_iadd F dL_law_551 552 rfl ?_
        refine j_sld F hX dL_law_552 553 rfl (k + 1) (ne_add rfl rfl) (by omega) hL ?_
        refine j_aload_n F dL_law_553 554 rfl 0 rfl ?_
        refine j_iload_n F dL_law_554 555 rfl 3 rfl ?_
        refine j_iconst (v := 2) F dL_law_555 556 rfl (by decide) ?_
        refine j_iadd F dL_law_556 557 rfl ?_
        refine j_sld F hX dL_law_557 558 rfl (k + 2) (ne_add rfl rfl) (by omega) hL ?_
        obtain ⟨q0, hans, hR2⟩ := h_campaignBy σ (xs (k + 1)) (xs (k + 2)) hR
        refine j_callVr (as := [.int (xs (k + 1)), .int (xs (k + 2))]) (st := []) (r := .int ((fX9_campaignBy σ (xs (k + 1)) (xs (k + 2))).1)) (σ9 := (fX9_campaignBy σ (xs (k + 1)) (xs (k + 2))).2) F zX9_campaignBy dL_law_558 561 rfl pX9_campaignBy rfl (by decide) (by decide) (Nat.le_of_ble_eq_true rfl) rfl qL_84 rfl rfl (by decide) sh0 (kX9_campaignBy l D (xs (k + 1)) (xs (k + 2)) σ) ?_
        refine j_aload_n F dL_law_561 562 rfl 2 rfl ?_
        refine j_aload_n F dL_law_562 563 rfl 0 rfl ?_
        refine j_iload_n F dL_law_563 564 rfl 3 rfl ?_
        refine j_iconst (v := 1) F dL_law_564 565 rfl (by decide) ?_
        refine j_iadd F dL_law_565 566 rfl ?_
        refine j_sld F hX dL_law_566 567 rfl (k + 1) (ne_add rfl rfl) (by omega) hL ?_
        refine j_aload_n F dL_law_567 568 rfl 0 rfl ?_
        refine j_iload_n F dL_law_568 569 rfl 3 rfl ?_
        refine j_iconst (v := 2) F dL_law_569 570 rfl (by decide) ?_
        refine j_iadd F dL_law_570 571 rfl ?_
        refine j_sld F hX dL_law_571 572 rfl (k + 2) (ne_add rfl rfl) (by omega) hL ?_
        refine j_callVr (as := [.int (xs (k + 1)), .int (xs (k + 2))]) (st := [.int ((fX9_campaignBy σ (xs (k + 1)) (xs (k + 2))).1)]) (r := .int (fX10_campaignBy ((fX9_campaignBy σ (xs (k + 1)) (xs (k + 2))).2) (xs (k + 1)) (xs (k + 2)))) (σ9 := (fX9_campaignBy σ (xs (k + 1)) (xs (k + 2))).2) F zX10_campaignBy dL_law_572 575 rfl pX10_campaignBy rfl (by decide) (by decide) (Nat.le_of_ble_eq_true rfl) rfl qL_87 rfl rfl (by decide) sh33 (kX10_campaignBy l D (xs (k + 1)) (xs (k + 2)) ((fX9_campaignBy σ (xs (k + 1)) (xs (k + 2))).2) q0) ?_
        refine j_icmp_eq F dL_law_575 1005 (by decide) 578 rfl (fun c9 => absurd hans c9) (fun _ => ?_)
        refine j_iinc F dL_law_1005 1008 rfl 3 rfl (nI (k + 4)) (nI_inc4 k) (by decide) [(3, .int (nI (k + 4))), (0, .ref b), (1, .ref (D.2.1 0)), (2, .ref (D.2.1 33))] rfl ?_
        refine j_goto F dL_law_1008 18 (by decide) ?_
        refine j_pick [1, 2, 3, 0] [(0, .ref b), (1, .ref (D.2.1 0)), (2, .ref (D.2.1 33)), (3, .int (nI (k + 4)))] rfl ?_
        exact ih (k + 4) ((fX9_campaignBy σ (xs (k + 1)) (xs (k + 2))).2) (by omega) (by omega) hR2
      refine j_by (((xs k) &&& 31) = 18) (fun c_18 => ?_) (fun c_18 => ?_)
      · refine j_tin (z := 18) F dL_law_32 c_18 (by decide) (by decide) (by decide) rfl 580 (by decide) ?_
        refine j_aload_n F dL_law_580 581 rfl 1 rfl ?_
        refine j_aload_n F dL_law_581 582 rfl 0 rfl ?_
        refine j_iload_n F dL_law_582 583 rfl 3 rfl ?_
        refine j_iconst (v := 1) F dL_law_583 584 rfl (by decide) ?_
        refine j_iadd F dL_law_584 585 rfl ?_
        refine j_sld F hX dL_law_585 586 rfl (k + 1) (ne_add rfl rfl) (by omega) hL ?_
        obtain ⟨q0, hans, hR2⟩ := h_copy σ (xs (k + 1)) hR
        refine j_callVr (as := [.int (xs (k + 1))]) (st := []) (r := .int (fX9_copy σ (xs (k + 1)))) (σ9 := σ) F zX9_copy dL_law_586 589 rfl pX9_copy rfl (by decide) (by decide) (Nat.le_of_ble_eq_true rfl) rfl qL_88 rfl rfl (by decide) sh0 (kX9_copy l D (xs (k + 1)) σ) ?_
        refine j_aload_n F dL_law_589 590 rfl 2 rfl ?_
        refine j_aload_n F dL_law_590 591 rfl 0 rfl ?_
        refine j_iload_n F dL_law_591 592 rfl 3 rfl ?_
        refine j_iconst (v := 1) F dL_law_592 593 rfl (by decide) ?_
        refine j_iadd F dL_law_593 594 rfl ?_
        refine j_sld F hX dL_law_594 595 rfl (k + 1) (ne_add rfl rfl) (by omega) hL ?_
        refine j_callVr (as := [.int (xs (k + 1))]) (st := [.int (fX9_copy σ (xs (k + 1)))]) (r := .int (fX10_copy σ (xs (k + 1)))) (σ9 := σ) F zX10_copy dL_law_595 598 rfl pX10_copy rfl (by decide) (by decide) (Nat.le_of_ble_eq_true rfl) rfl qL_91 rfl rfl (by decide) sh33 (kX10_copy l D (xs (k + 1)) σ q0) ?_
        refine j_icmp_eq F dL_law_598 1005 (by decide) 601 rfl (fun c9 => absurd hans c9) (fun _ => ?_)
        refine j_iinc F dL_law_1005 1008 rfl 3 rfl (nI (k + 4)) (nI_inc4 k) (by decide) [(3, .int (nI (k + 4))), (0, .ref b), (1, .ref (D.2.1 0)), (2, .ref (D.2.1 33))] rfl ?_
        refine j_goto F dL_law_1008 18 (by decide) ?_
        refine j_pick [1, 2, 3, 0] [(0, .ref b), (1, .ref (D.2.1 0)), (2, .ref (D.2.1 33)), (3, .int (nI (k + 4)))] rfl ?_
        exact ih (k + 4) σ (by omega) (by omega) hR2
      refine j_by (((xs k) &&& 31) = 19) (fun c_19 => ?_) (fun c_19 => ?_)
      · refine j_tin (z := 19) F dL_law_32 c_19 (by decide) (by decide) (by decide) rfl 603 (by decide) ?_
        refine j_aload_n F dL_law_603 604 rfl 1 rfl ?_
        refine j_aload_n F dL_law_604 605 rfl 0 rfl ?_
        refine j_iload_n F dL_law_605 606 rfl 3 rfl ?_
        refine j_iconst (v := 1) F dL_law_606 607 rfl (by decide) ?_
        refine j_iadd F dL_law_607 608 rfl ?_
        refine j_sld F hX dL_law_608 609 rfl (k + 1) (ne_add rfl rfl) (by omega) hL ?_
        obtain ⟨q0, hans, hR2⟩ := h_bestWord σ (xs (k + 1)) hR
        refine j_callVr (as := [.int (xs (k + 1))]) (st := []) (r := .int (fX9_bestWord σ (xs (k + 1)))) (σ9 := σ) F zX9_bestWord dL_law_609 612 rfl pX9_bestWord rfl (by decide) (by decide) (Nat.le_of_ble_eq_true rfl) rfl qL_92 rfl rfl (by decide) sh0 (kX9_bestWord l D (xs (k + 1)) σ) ?_
        refine j_aload_n F dL_law_612 613 rfl 2 rfl ?_
        refine j_aload_n F dL_law_613 614 rfl 0 rfl ?_
        refine j_iload_n F dL_law_614 615 rfl 3 rfl ?_
        refine j_iconst (v := 1) F dL_law_615 616 rfl (by decide) ?_
        refine j_iadd F dL_law_616 617 rfl ?_
        refine j_sld F hX dL_law_617 618 rfl (k + 1) (ne_add rfl rfl) (by omega) hL ?_
        refine j_callVr (as := [.int (xs (k + 1))]) (st := [.int (fX9_bestWord σ (xs (k + 1)))]) (r := .int (fX10_bestWord σ (xs (k + 1)))) (σ9 := σ) F zX10_bestWord dL_law_618 621 rfl pX10_bestWord rfl (by decide) (by decide) (Nat.le_of_ble_eq_true rfl) rfl qL_95 rfl rfl (by decide) sh33 (kX10_bestWord l D (xs (k + 1)) σ q0) ?_
        refine j_icmp_eq F dL_law_621 1005 (by decide) 624 rfl (fun c9 => absurd hans c9) (fun _ => ?_)
        refine j_iinc F dL_law_1005 1008 rfl 3 rfl (nI (k + 4)) (nI_inc4 k) (by decide) [(3, .int (nI (k + 4))), (0, .ref b), (1, .ref (D.2.1 0)), (2, .ref (D.2.1 33))] rfl ?_
        refine j_goto F dL_law_1008 18 (by decide) ?_
        refine j_pick [1, 2, 3, 0] [(0, .ref b), (1, .ref (D.2.1 0)), (2, .ref (D.2.1 33)), (3, .int (nI (k + 4)))] rfl ?_
        exact ih (k + 4) σ (by omega) (by omega) hR2
      refine j_by (((xs k) &&& 31) = 20) (fun c_20 => ?_) (fun c_20 => ?_)
      · refine j_tin (z := 20) F dL_law_32 c_20 (by decide) (by decide) (by decide) rfl 626 (by decide) ?_
        refine j_aload_n F dL_law_626 627 rfl 1 rfl ?_
        refine j_aload_n F dL_law_627 628 rfl 0 rfl ?_
        refine j_iload_n F dL_law_628 629 rfl 3 rfl ?_
        refine j_iconst (v := 1) F dL_law_629 630 rfl (by decide) ?_
        refine j_iadd F dL_law_630 631 rfl ?_
        refine j_sld F hX dL_law_631 632 rfl (k + 1) (ne_add rfl rfl) (by omega) hL ?_
        obtain ⟨q0, hans, hR2⟩ := h_rests σ (xs (k + 1)) hR
        refine j_callVr (as := [.int (xs (k + 1))]) (st := []) (r := .int ((fX9_rests σ (xs (k + 1))).1)) (σ9 := (fX9_rests σ (xs (k + 1))).2) F zX9_rests dL_law_632 635 rfl pX9_rests rfl (by decide) (by decide) (Nat.le_of_ble_eq_true rfl) rfl qL_96 rfl rfl (by decide) sh0 (kX9_rests l D (xs (k + 1)) σ) ?_
        refine j_aload_n F dL_law_635 636 rfl 2 rfl ?_
        refine j_aload_n F dL_law_636 637 rfl 0 rfl ?_
        refine j_iload_n F dL_law_637 638 rfl 3 rfl ?_
        refine j_iconst (v := 1) F dL_law_638 639 rfl (by decide) ?_
        refine j_iadd F dL_law_639 640 rfl ?_
        refine j_sld F hX dL_law_640 641 rfl (k + 1) (ne_add rfl rfl) (by omega) hL ?_
        refine j_callVr (as := [.int (xs (k + 1))]) (st := [.int ((fX9_rests σ (xs (k + 1))).1)]) (r := .int (fX10_rests ((fX9_rests σ (xs (k + 1))).2) (xs (k + 1)))) (σ9 := (fX9_rests σ (xs (k + 1))).2) F zX10_rests dL_law_641 644 rfl pX10_rests rfl (by decide) (by decide) (Nat.le_of_ble_eq_true rfl) rfl qL_99 rfl rfl (by decide) sh33 (kX10_rests l D (xs (k + 1)) ((fX9_rests σ (xs (k + 1))).2) q0) ?_
        refine j_icmp_eq F dL_law_644 1005 (by decide) 647 rfl (fun c9 => absurd hans c9) (fun _ => ?_)
        refine j_iinc F dL_law_1005 1008 rfl 3 rfl (nI (k + 4)) (nI_inc4 k) (by decide) [(3, .int (nI (k + 4))), (0, .ref b), (1, .ref (D.2.1 0)), (2, .ref (D.2.1 33))] rfl ?_
        refine j_goto F dL_law_1008 18 (by decide) ?_
        refine j_pick [1, 2, 3, 0] [(0, .ref b), (1, .ref (D.2.1 0)), (2, .ref (D.2.1 33)), (3, .int (nI (k + 4)))] rfl ?_
        exact ih (k + 4) ((fX9_rests σ (xs (k + 1))).2) (by omega) (by omega) hR2
      refine j_by (((xs k) &&& 31) = 21) (fun c_21 => ?_) (fun c_21 => ?_)
      · refine j_tin (z := 21) F dL_law_32 c_21 (by decide) (by decide) (by decide) rfl 649 (by decide) ?_
        refine j_aload_n F dL_law_649 650 rfl 1 rfl ?_
        refine j_aload_n F dL_law_650 651 rfl 0 rfl ?_
        refine j_iload_n F dL_law_651 652 rfl 3 rfl ?_
        refine j_iconst (v := 1) F dL_law_652 653 rfl (by decide) ?_
        refine j_iadd F dL_law_653 654 rfl ?_
        refine j_sld F hX dL_law_654 655 rfl (k + 1) (ne_add rfl rfl) (by omega) hL ?_
        refine j_aload_n F dL_law_655 656 rfl 0 rfl ?_
        refine j_iload_n F dL_law_656 657 rfl 3 rfl ?_
        refine j_iconst (v := 2) F dL_law_657 658 rfl (by decide) ?_
        refine j_iadd F dL_law_658 659 rfl ?_
        refine j_sld F hX dL_law_659 660 rfl (k + 2) (ne_add rfl rfl) (by omega) hL ?_
        refine j_aload_n F dL_law_660 661 rfl 0 rfl ?_
        refine j_iload_n F dL_law_661 662 rfl 3 rfl ?_
        refine j_iconst (v := 3) F dL_law_662 663 rfl (by decide) ?_
        refine j_iadd F dL_law_663 664 rfl ?_
        refine j_sld F hX dL_law_664 665 rfl (k + 3) (ne_add rfl rfl) (by omega) hL ?_
        refine j_if_eq F dL_law_665 672 (by decide) 668 rfl (fun c9 => ?_) (fun c9 => ?_)
        · refine j_iconst (v := 1) F dL_law_668 669 rfl (by decide) ?_
          refine j_goto F dL_law_669 673 (by decide) ?_
          obtain ⟨q0, q1, hans, hR2⟩ := h_sight σ (xs (k + 1)) (xs (k + 2)) true hR
          refine j_callVr (as := [.int (xs (k + 1)), .int (xs (k + 2)), .int (bi true)]) (st := []) (r := .int ((fX9_sight σ (xs (k + 1)) (xs (k + 2)) true).1)) (σ9 := (fX9_sight σ (xs (k + 1)) (xs (k + 2)) true).2) F zX9_sight dL_law_673 676 rfl pX9_sight rfl (by decide) (by decide) (Nat.le_of_ble_eq_true rfl) rfl qL_100 rfl rfl (by decide) sh0 (kX9_sight l D (xs (k + 1)) (xs (k + 2)) true σ) ?_
          refine j_aload_n F dL_law_676 677 rfl 2 rfl ?_
          refine j_aload_n F dL_law_677 678 rfl 0 rfl ?_
          refine j_iload_n F dL_law_678 679 rfl 3 rfl ?_
          refine j_iconst (v := 1) F dL_law_679 680 rfl (by decide) ?_
          refine j_iadd F dL_law_680 681 rfl ?_
          refine j_sld F hX dL_law_681 682 rfl (k + 1) (ne_add rfl rfl) (by omega) hL ?_
          refine j_aload_n F dL_law_682 683 rfl 0 rfl ?_
          refine j_iload_n F dL_law_683 684 rfl 3 rfl ?_
          refine j_iconst (v := 2) F dL_law_684 685 rfl (by decide) ?_
          refine j_iadd F dL_law_685 686 rfl ?_
          refine j_sld F hX dL_law_686 687 rfl (k + 2) (ne_add rfl rfl) (by omega) hL ?_
          refine j_aload_n F dL_law_687 688 rfl 0 rfl ?_
          refine j_iload_n F dL_law_688 689 rfl 3 rfl ?_
          refine j_iconst (v := 3) F dL_law_689 690 rfl (by decide) ?_
          refine j_iadd F dL_law_690 691 rfl ?_
          refine j_sld F hX dL_law_691 692 rfl (k + 3) (ne_add rfl rfl) (by omega) hL ?_
          refine j_if_eq F dL_law_692 699 (by decide) 695 rfl (fun _ => ?_) (fun c8 => absurd c8 c9)
          refine j_iconst (v := 1) F dL_law_695 696 rfl (by decide) ?_
          refine j_goto F dL_law_696 700 (by decide) ?_
          refine j_callVr (as := [.int (xs (k + 1)), .int (xs (k + 2)), .int (bi true)]) (st := [.int ((fX9_sight σ (xs (k + 1)) (xs (k + 2)) true).1)]) (r := .int ((fX10_sight ((fX9_sight σ (xs (k + 1)) (xs (k + 2)) true).2) (xs (k + 1)) (xs (k + 2)) true).1)) (σ9 := (fX10_sight ((fX9_sight σ (xs (k + 1)) (xs (k + 2)) true).2) (xs (k + 1)) (xs (k + 2)) true).2) F zX10_sight dL_law_700 703 rfl pX10_sight rfl (by decide) (by decide) (Nat.le_of_ble_eq_true rfl) rfl qL_104 rfl rfl (by decide) sh33 (kX10_sight l D (xs (k + 1)) (xs (k + 2)) true ((fX9_sight σ (xs (k + 1)) (xs (k + 2)) true).2) q0 q1) ?_
          refine j_icmp_eq F dL_law_703 1005 (by decide) 706 rfl (fun c9 => absurd hans c9) (fun _ => ?_)
          refine j_iinc F dL_law_1005 1008 rfl 3 rfl (nI (k + 4)) (nI_inc4 k) (by decide) [(3, .int (nI (k + 4))), (0, .ref b), (1, .ref (D.2.1 0)), (2, .ref (D.2.1 33))] rfl ?_
          refine j_goto F dL_law_1008 18 (by decide) ?_
          refine j_pick [1, 2, 3, 0] [(0, .ref b), (1, .ref (D.2.1 0)), (2, .ref (D.2.1 33)), (3, .int (nI (k + 4)))] rfl ?_
          exact ih (k + 4) ((fX10_sight ((fX9_sight σ (xs (k + 1)) (xs (k + 2)) true).2) (xs (k + 1)) (xs (k + 2)) true).2) (by omega) (by omega) hR2
        · refine j_iconst (v := 0) F dL_law_672 673 rfl (by decide) ?_
          obtain ⟨q0, q1, hans, hR2⟩ := h_sight σ (xs (k + 1)) (xs (k + 2)) false hR
          refine j_callVr (as := [.int (xs (k + 1)), .int (xs (k + 2)), .int (bi false)]) (st := []) (r := .int ((fX9_sight σ (xs (k + 1)) (xs (k + 2)) false).1)) (σ9 := (fX9_sight σ (xs (k + 1)) (xs (k + 2)) false).2) F zX9_sight dL_law_673 676 rfl pX9_sight rfl (by decide) (by decide) (Nat.le_of_ble_eq_true rfl) rfl qL_100 rfl rfl (by decide) sh0 (kX9_sight l D (xs (k + 1)) (xs (k + 2)) false σ) ?_
          refine j_aload_n F dL_law_676 677 rfl 2 rfl ?_
          refine j_aload_n F dL_law_677 678 rfl 0 rfl ?_
          refine j_iload_n F dL_law_678 679 rfl 3 rfl ?_
          refine j_iconst (v := 1) F dL_law_679 680 rfl (by decide) ?_
          refine j_iadd F dL_law_680 681 rfl ?_
          refine j_sld F hX dL_law_681 682 rfl (k + 1) (ne_add rfl rfl) (by omega) hL ?_
          refine j_aload_n F dL_law_682 683 rfl 0 rfl ?_
          refine j_iload_n F dL_law_683 684 rfl 3 rfl ?_
          refine j_iconst (v := 2) F dL_law_684 685 rfl (by decide) ?_
          refine j_iadd F dL_law_685 686 rfl ?_
          refine j_sld F hX dL_law_686 687 rfl (k + 2) (ne_add rfl rfl) (by omega) hL ?_
          refine j_aload_n F dL_law_687 688 rfl 0 rfl ?_
          refine j_iload_n F dL_law_688 689 rfl 3 rfl ?_
          refine j_iconst (v := 3) F dL_law_689 690 rfl (by decide) ?_
          refine j_iadd F dL_law_690 691 rfl ?_
          refine j_sld F hX dL_law_691 692 rfl (k + 3) (ne_add rfl rfl) (by omega) hL ?_
          refine j_if_eq F dL_law_692 699 (by decide) 695 rfl (fun c8 => absurd c9 c8) (fun _ => ?_)
          refine j_iconst (v := 0) F dL_law_699 700 rfl (by decide) ?_
          refine j_callVr (as := [.int (xs (k + 1)), .int (xs (k + 2)), .int (bi false)]) (st := [.int ((fX9_sight σ (xs (k + 1)) (xs (k + 2)) false).1)]) (r := .int ((fX10_sight ((fX9_sight σ (xs (k + 1)) (xs (k + 2)) false).2) (xs (k + 1)) (xs (k + 2)) false).1)) (σ9 := (fX10_sight ((fX9_sight σ (xs (k + 1)) (xs (k + 2)) false).2) (xs (k + 1)) (xs (k + 2)) false).2) F zX10_sight dL_law_700 703 rfl pX10_sight rfl (by decide) (by decide) (Nat.le_of_ble_eq_true rfl) rfl qL_104 rfl rfl (by decide) sh33 (kX10_sight l D (xs (k + 1)) (xs (k + 2)) false ((fX9_sight σ (xs (k + 1)) (xs (k + 2)) false).2) q0 q1) ?_
          refine j_icmp_eq F dL_law_703 1005 (by decide) 706 rfl (fun c9 => absurd hans c9) (fun _ => ?_)
          refine j_iinc F dL_law_1005 1008 rfl 3 rfl (nI (k + 4)) (nI_inc4 k) (by decide) [(3, .int (nI (k + 4))), (0, .ref b), (1, .ref (D.2.1 0)), (2, .ref (D.2.1 33))] rfl ?_
          refine j_goto F dL_law_1008 18 (by decide) ?_
          refine j_pick [1, 2, 3, 0] [(0, .ref b), (1, .ref (D.2.1 0)), (2, .ref (D.2.1 33)), (3, .int (nI (k + 4)))] rfl ?_
          exact ih (k + 4) ((fX10_sight ((fX9_sight σ (xs (k + 1)) (xs (k + 2)) false).2) (xs (k + 1)) (xs (k + 2)) false).2) (by omega) (by omega) hR2
      refine j_by (((xs k) &&& 31) = 22) (fun c_22 => ?_) (fun c_22 => ?_)
      · refine j_tin (z := 22) F dL_law_32 c_22 (by decide) (by decide) (by decide) rfl 708 (by decide) ?_
        refine j_aload_n F dL_law_708 709 rfl 1 rfl ?_
        obtain ⟨hans, hR2⟩ := h_unsight σ hR
        refine j_callVr (as := []) (st := []) (r := .int ((fX9_unsight σ).1)) (σ9 := (fX9_unsight σ).2) F zX9_unsight dL_law_709 712 rfl pX9_unsight rfl (by decide) (by decide) (Nat.le_of_ble_eq_true rfl) rfl qL_105 rfl rfl (by decide) sh0 (kX9_unsight l D σ) ?_
        refine j_aload_n F dL_law_712 713 rfl 2 rfl ?_
        refine j_callVr (as := []) (st := [.int ((fX9_unsight σ).1)]) (r := .int ((fX10_unsight ((fX9_unsight σ).2)).1)) (σ9 := (fX10_unsight ((fX9_unsight σ).2)).2) F zX10_unsight dL_law_713 716 rfl pX10_unsight rfl (by decide) (by decide) (Nat.le_of_ble_eq_true rfl) rfl qL_108 rfl rfl (by decide) sh33 (kX10_unsight l D ((fX9_unsight σ).2)) ?_
        refine j_icmp_eq F dL_law_716 1005 (by decide) 719 rfl (fun c9 => absurd hans c9) (fun _ => ?_)
        refine j_iinc F dL_law_1005 1008 rfl 3 rfl (nI (k + 4)) (nI_inc4 k) (by decide) [(3, .int (nI (k + 4))), (0, .ref b), (1, .ref (D.2.1 0)), (2, .ref (D.2.1 33))] rfl ?_
        refine j_goto F dL_law_1008 18 (by decide) ?_
        refine j_pick [1, 2, 3, 0] [(0, .ref b), (1, .ref (D.2.1 0)), (2, .ref (D.2.1 33)), (3, .int (nI (k + 4)))] rfl ?_
        exact ih (k + 4) ((fX10_unsight ((fX9_unsight σ).2)).2) (by omega) (by omega) hR2
      refine j_by (((xs k) &&& 31) = 23) (fun c_23 => ?_) (fun c_23 => ?_)
      · refine j_tin (z := 23) F dL_law_32 c_23 (by decide) (by decide) (by decide) rfl 721 (by decide) ?_
        refine j_aload_n F dL_law_721 722 rfl 1 rfl ?_
        refine j_aload_n F dL_law_722 723 rfl 0 rfl ?_
        refine j_iload_n F dL_law_723 724 rfl 3 rfl ?_
        refine j_iconst (v := 1) F dL_law_724 725 rfl (by decide) ?_
        refine j_iadd F dL_law_725 726 rfl ?_
        refine j_sld F hX dL_law_726 727 rfl (k + 1) (ne_add rfl rfl) (by omega) hL ?_
        obtain ⟨q0, q1, hans, hR2⟩ := h_worlds σ (xs (k + 1)) hR
        refine j_callVr (as := [.int (xs (k + 1))]) (st := []) (r := .int ((fX9_worlds σ (xs (k + 1))).1)) (σ9 := (fX9_worlds σ (xs (k + 1))).2) F zX9_worlds dL_law_727 730 rfl pX9_worlds rfl (by decide) (by decide) (Nat.le_of_ble_eq_true rfl) rfl qL_109 rfl rfl (by decide) sh0 (kX9_worlds l D (xs (k + 1)) σ) ?_
        refine j_aload_n F dL_law_730 731 rfl 2 rfl ?_
        refine j_aload_n F dL_law_731 732 rfl 0 rfl ?_
        refine j_iload_n F dL_law_732 733 rfl 3 rfl ?_
        refine j_iconst (v := 1) F dL_law_733 734 rfl (by decide) ?_
        refine j_iadd F dL_law_734 735 rfl ?_
        refine j_sld F hX dL_law_735 736 rfl (k + 1) (ne_add rfl rfl) (by omega) hL ?_
        refine j_callVr (as := [.int (xs (k + 1))]) (st := [.int ((fX9_worlds σ (xs (k + 1))).1)]) (r := .int ((fX10_worlds ((fX9_worlds σ (xs (k + 1))).2) (xs (k + 1))).1)) (σ9 := (fX10_worlds ((fX9_worlds σ (xs (k + 1))).2) (xs (k + 1))).2) F zX10_worlds dL_law_736 739 rfl pX10_worlds rfl (by decide) (by decide) (Nat.le_of_ble_eq_true rfl) rfl qL_112 rfl rfl (by decide) sh33 (kX10_worlds l D (xs (k + 1)) ((fX9_worlds σ (xs (k + 1))).2) q0 q1) ?_
        refine j_icmp_eq F dL_law_739 1005 (by decide) 742 rfl (fun c9 => absurd hans c9) (fun _ => ?_)
        refine j_iinc F dL_law_1005 1008 rfl 3 rfl (nI (k + 4)) (nI_inc4 k) (by decide) [(3, .int (nI (k + 4))), (0, .ref b), (1, .ref (D.2.1 0)), (2, .ref (D.2.1 33))] rfl ?_
        refine j_goto F dL_law_1008 18 (by decide) ?_
        refine j_pick [1, 2, 3, 0] [(0, .ref b), (1, .ref (D.2.1 0)), (2, .ref (D.2.1 33)), (3, .int (nI (k + 4)))] rfl ?_
        exact ih (k + 4) ((fX10_worlds ((fX9_worlds σ (xs (k + 1))).2) (xs (k + 1))).2) (by omega) (by omega) hR2
      refine j_by (((xs k) &&& 31) = 24) (fun c_24 => ?_) (fun c_24 => ?_)
      · refine j_tin (z := 24) F dL_law_32 c_24 (by decide) (by decide) (by decide) rfl 744 (by decide) ?_
        refine j_aload_n F dL_law_744 745 rfl 1 rfl ?_
        obtain ⟨q0, q1, hans, hR2⟩ := h_toSeek σ hR
        refine j_callVr (as := []) (st := []) (r := .int ((fX9_toSeek σ).1)) (σ9 := (fX9_toSeek σ).2) F zX9_toSeek dL_law_745 748 rfl pX9_toSeek rfl (by decide) (by decide) (Nat.le_of_ble_eq_true rfl) rfl qL_113 rfl rfl (by decide) sh0 (kX9_toSeek l D σ) ?_
        refine j_aload_n F dL_law_748 749 rfl 2 rfl ?_
        refine j_callVr (as := []) (st := [.int ((fX9_toSeek σ).1)]) (r := .int ((fX10_toSeek ((fX9_toSeek σ).2)).1)) (σ9 := (fX10_toSeek ((fX9_toSeek σ).2)).2) F zX10_toSeek dL_law_749 752 rfl pX10_toSeek rfl (by decide) (by decide) (Nat.le_of_ble_eq_true rfl) rfl qL_116 rfl rfl (by decide) sh33 (kX10_toSeek l D ((fX9_toSeek σ).2) q0 q1) ?_
        refine j_icmp_eq F dL_law_752 1005 (by decide) 755 rfl (fun c9 => absurd hans c9) (fun _ => ?_)
        refine j_iinc F dL_law_1005 1008 rfl 3 rfl (nI (k + 4)) (nI_inc4 k) (by decide) [(3, .int (nI (k + 4))), (0, .ref b), (1, .ref (D.2.1 0)), (2, .ref (D.2.1 33))] rfl ?_
        refine j_goto F dL_law_1008 18 (by decide) ?_
        refine j_pick [1, 2, 3, 0] [(0, .ref b), (1, .ref (D.2.1 0)), (2, .ref (D.2.1 33)), (3, .int (nI (k + 4)))] rfl ?_
        exact ih (k + 4) ((fX10_toSeek ((fX9_toSeek σ).2)).2) (by omega) (by omega) hR2
      refine j_by (((xs k) &&& 31) = 25) (fun c_25 => ?_) (fun c_25 => ?_)
      · refine j_tin (z := 25) F dL_law_32 c_25 (by decide) (by decide) (by decide) rfl 757 (by decide) ?_
        refine j_aload_n F dL_law_757 758 rfl 1 rfl ?_
        refine j_aload_n F dL_law_758 759 rfl 0 rfl ?_
        refine j_iload_n F dL_law_759 760 rfl 3 rfl ?_
        refine j_iconst (v := 1) F dL_law_760 761 rfl (by decide) ?_
        refine j_iadd F dL_law_761 762 rfl ?_
        refine j_sld F hX dL_law_762 763 rfl (k + 1) (ne_add rfl rfl) (by omega) hL ?_
        refine j_aload_n F dL_law_763 764 rfl 0 rfl ?_
        refine j_iload_n F dL_law_764 765 rfl 3 rfl ?_
        refine j_iconst (v := 2) F dL_law_765 766 rfl (by decide) ?_
        refine j_iadd F dL_law_766 767 rfl ?_
        refine j_sld F hX dL_law_767 768 rfl (k + 2) (ne_add rfl rfl) (by omega) hL ?_
        obtain ⟨hq0, hans, hR2⟩ := h_byTurns σ (xs (k + 1)) (xs (k + 2)) hR
        refine j_callVr (as := [.int (xs (k + 1)), .int (xs (k + 2))]) (st := []) (r := .int ((fX9_byTurns σ (xs (k + 1)) (xs (k + 2))).1)) (σ9 := (fX9_byTurns σ (xs (k + 1)) (xs (k + 2))).2) F zX9_byTurns dL_law_768 771 rfl pX9_byTurns rfl (by decide) (by decide) (Nat.le_of_ble_eq_true rfl) rfl qL_117 rfl rfl (by decide) sh0 (kX9_byTurns l D (xs (k + 1)) (xs (k + 2)) σ) ?_
        refine j_aload_n F dL_law_771 772 rfl 2 rfl ?_
        refine j_aload_n F dL_law_772 773 rfl 0 rfl ?_
        refine j_iload_n F dL_law_773 774 rfl 3 rfl ?_
        refine j_iconst (v := 1) F dL_law_774 775 rfl (by decide) ?_
        refine j_iadd F dL_law_775 776 rfl ?_
        refine j_sld F hX dL_law_776 777 rfl (k + 1) (ne_add rfl rfl) (by omega) hL ?_
        refine j_aload_n F dL_law_777 778 rfl 0 rfl ?_
        refine j_iload_n F dL_law_778 779 rfl 3 rfl ?_
        refine j_iconst (v := 2) F dL_law_779 780 rfl (by decide) ?_
        refine j_iadd F dL_law_780 781 rfl ?_
        refine j_sld F hX dL_law_781 782 rfl (k + 2) (ne_add rfl rfl) (by omega) hL ?_
        refine j_callVr (as := [.int (xs (k + 1)), .int (xs (k + 2))]) (st := [.int ((fX9_byTurns σ (xs (k + 1)) (xs (k + 2))).1)]) (r := .int ((fX10_byTurns ((fX9_byTurns σ (xs (k + 1)) (xs (k + 2))).2) (xs (k + 1)) (xs (k + 2))).1)) (σ9 := (fX10_byTurns ((fX9_byTurns σ (xs (k + 1)) (xs (k + 2))).2) (xs (k + 1)) (xs (k + 2))).2) F zX10_byTurns dL_law_782 785 rfl pX10_byTurns rfl (by decide) (by decide) (Nat.le_of_ble_eq_true rfl) rfl qL_120 rfl rfl (by decide) sh33 (hbt l D (xs (k + 1)) (xs (k + 2)) ((fX9_byTurns σ (xs (k + 1)) (xs (k + 2))).2) hq0) ?_
        refine j_icmp_eq F dL_law_785 1005 (by decide) 788 rfl (fun c9 => absurd hans c9) (fun _ => ?_)
        refine j_iinc F dL_law_1005 1008 rfl 3 rfl (nI (k + 4)) (nI_inc4 k) (by decide) [(3, .int (nI (k + 4))), (0, .ref b), (1, .ref (D.2.1 0)), (2, .ref (D.2.1 33))] rfl ?_
        refine j_goto F dL_law_1008 18 (by decide) ?_
        refine j_pick [1, 2, 3, 0] [(0, .ref b), (1, .ref (D.2.1 0)), (2, .ref (D.2.1 33)), (3, .int (nI (k + 4)))] rfl ?_
        exact ih (k + 4) ((fX10_byTurns ((fX9_byTurns σ (xs (k + 1)) (xs (k + 2))).2) (xs (k + 1)) (xs (k + 2))).2) (by omega) (by omega) hR2
      refine j_by (((xs k) &&& 31) = 26) (fun c_26 => ?_) (fun c_26 => ?_)
      · refine j_tin (z := 26) F dL_law_32 c_26 (by decide) (by decide) (by decide) rfl 790 (by decide) ?_
        refine j_aload_n F dL_law_790 791 rfl 1 rfl ?_
        refine j_aload_n F dL_law_791 792 rfl 0 rfl ?_
        refine j_iload_n F dL_law_792 793 rfl 3 rfl ?_
        refine j_iconst (v := 1) F dL_law_793 794 rfl (by decide) ?_
        refine j_iadd F dL_law_794 795 rfl ?_
        refine j_sld F hX dL_law_795 796 rfl (k + 1) (ne_add rfl rfl) (by omega) hL ?_
        refine j_aload_n F dL_law_796 797 rfl 0 rfl ?_
        refine j_iload_n F dL_law_797 798 rfl 3 rfl ?_
        refine j_iconst (v := 2) F dL_law_798 799 rfl (by decide) ?_
        refine j_iadd F dL_law_799 800 rfl ?_
        refine j_sld F hX dL_law_800 801 rfl (k + 2) (ne_add rfl rfl) (by omega) hL ?_
        refine j_aload_n F dL_law_801 802 rfl 0 rfl ?_
        refine j_iload_n F dL_law_802 803 rfl 3 rfl ?_
        refine j_iconst (v := 3) F dL_law_803 804 rfl (by decide) ?_
        refine j_iadd F dL_law_804 805 rfl ?_
        refine j_sld F hX dL_law_805 806 rfl (k + 3) (ne_add rfl rfl) (by omega) hL ?_
        refine j_if_eq F dL_law_806 813 (by decide) 809 rfl (fun c9 => ?_) (fun c9 => ?_)
        · refine j_iconst (v := 1) F dL_law_809 810 rfl (by decide) ?_
          refine j_goto F dL_law_810 814 (by decide) ?_
          obtain ⟨q0, hans, hR2⟩ := h_chance σ (xs (k + 1)) (xs (k + 2)) true hR
          refine j_callVr (as := [.int (xs (k + 1)), .int (xs (k + 2)), .int (bi true)]) (st := []) (r := .int ((fX9_chance σ (xs (k + 1)) (xs (k + 2)) true).1)) (σ9 := (fX9_chance σ (xs (k + 1)) (xs (k + 2)) true).2) F zX9_chance dL_law_814 817 rfl pX9_chance rfl (by decide) (by decide) (Nat.le_of_ble_eq_true rfl) rfl qL_121 rfl rfl (by decide) sh0 (kX9_chance l D (xs (k + 1)) (xs (k + 2)) true σ) ?_
          refine j_aload_n F dL_law_817 818 rfl 2 rfl ?_
          refine j_aload_n F dL_law_818 819 rfl 0 rfl ?_
          refine j_iload_n F dL_law_819 820 rfl 3 rfl ?_
          refine j_iconst (v := 1) F dL_law_820 821 rfl (by decide) ?_
          refine j_iadd F dL_law_821 822 rfl ?_
          refine j_sld F hX dL_law_822 823 rfl (k + 1) (ne_add rfl rfl) (by omega) hL ?_
          refine j_aload_n F dL_law_823 824 rfl 0 rfl ?_
          refine j_iload_n F dL_law_824 825 rfl 3 rfl ?_
          refine j_iconst (v := 2) F dL_law_825 826 rfl (by decide) ?_
          refine j_iadd F dL_law_826 827 rfl ?_
          refine j_sld F hX dL_law_827 828 rfl (k + 2) (ne_add rfl rfl) (by omega) hL ?_
          refine j_aload_n F dL_law_828 829 rfl 0 rfl ?_
          refine j_iload_n F dL_law_829 830 rfl 3 rfl ?_
          refine j_iconst (v := 3) F dL_law_830 831 rfl (by decide) ?_
          refine j_iadd F dL_law_831 832 rfl ?_
          refine j_sld F hX dL_law_832 833 rfl (k + 3) (ne_add rfl rfl) (by omega) hL ?_
          refine j_if_eq F dL_law_833 840 (by decide) 836 rfl (fun _ => ?_) (fun c8 => absurd c8 c9)
          refine j_iconst (v := 1) F dL_law_836 837 rfl (by decide) ?_
          refine j_goto F dL_law_837 841 (by decide) ?_
          refine j_callVr (as := [.int (xs (k + 1)), .int (xs (k + 2)), .int (bi true)]) (st := [.int ((fX9_chance σ (xs (k + 1)) (xs (k + 2)) true).1)]) (r := .int (fX10_chance ((fX9_chance σ (xs (k + 1)) (xs (k + 2)) true).2) (xs (k + 1)) (xs (k + 2)) true)) (σ9 := (fX9_chance σ (xs (k + 1)) (xs (k + 2)) true).2) F zX10_chance dL_law_841 844 rfl pX10_chance rfl (by decide) (by decide) (Nat.le_of_ble_eq_true rfl) rfl qL_124 rfl rfl (by decide) sh33 (hch l D (xs (k + 1)) (xs (k + 2)) true ((fX9_chance σ (xs (k + 1)) (xs (k + 2)) true).2) q0) ?_
          refine j_icmp_eq F dL_law_844 1005 (by decide) 847 rfl (fun c9 => absurd hans c9) (fun _ => ?_)
          refine j_iinc F dL_law_1005 1008 rfl 3 rfl (nI (k + 4)) (nI_inc4 k) (by decide) [(3, .int (nI (k + 4))), (0, .ref b), (1, .ref (D.2.1 0)), (2, .ref (D.2.1 33))] rfl ?_
          refine j_goto F dL_law_1008 18 (by decide) ?_
          refine j_pick [1, 2, 3, 0] [(0, .ref b), (1, .ref (D.2.1 0)), (2, .ref (D.2.1 33)), (3, .int (nI (k + 4)))] rfl ?_
          exact ih (k + 4) ((fX9_chance σ (xs (k + 1)) (xs (k + 2)) true).2) (by omega) (by omega) hR2
        · refine j_iconst (v := 0) F dL_law_813 814 rfl (by decide) ?_
          obtain ⟨q0, hans, hR2⟩ := h_chance σ (xs (k + 1)) (xs (k + 2)) false hR
          refine j_callVr (as := [.int (xs (k + 1)), .int (xs (k + 2)), .int (bi false)]) (st := []) (r := .int ((fX9_chance σ (xs (k + 1)) (xs (k + 2)) false).1)) (σ9 := (fX9_chance σ (xs (k + 1)) (xs (k + 2)) false).2) F zX9_chance dL_law_814 817 rfl pX9_chance rfl (by decide) (by decide) (Nat.le_of_ble_eq_true rfl) rfl qL_121 rfl rfl (by decide) sh0 (kX9_chance l D (xs (k + 1)) (xs (k + 2)) false σ) ?_
          refine j_aload_n F dL_law_817 818 rfl 2 rfl ?_
          refine j_aload_n F dL_law_818 819 rfl 0 rfl ?_
          refine j_iload_n F dL_law_819 820 rfl 3 rfl ?_
          refine j_iconst (v := 1) F dL_law_820 821 rfl (by decide) ?_
          refine j_iadd F dL_law_821 822 rfl ?_
          refine j_sld F hX dL_law_822 823 rfl (k + 1) (ne_add rfl rfl) (by omega) hL ?_
          refine j_aload_n F dL_law_823 824 rfl 0 rfl ?_
          refine j_iload_n F dL_law_824 825 rfl 3 rfl ?_
          refine j_iconst (v := 2) F dL_law_825 826 rfl (by decide) ?_
          refine j_iadd F dL_law_826 827 rfl ?_
          refine j_sld F hX dL_law_827 828 rfl (k + 2) (ne_add rfl rfl) (by omega) hL ?_
          refine j_aload_n F dL_law_828 829 rfl 0 rfl ?_
          refine j_iload_n F dL_law_829 830 rfl 3 rfl ?_
          refine j_iconst (v := 3) F dL_law_830 831 rfl (by decide) ?_
          refine j_iadd F dL_law_831 832 rfl ?_
          refine j_sld F hX dL_law_832 833 rfl (k + 3) (ne_add rfl rfl) (by omega) hL ?_
          refine j_if_eq F dL_law_833 840 (by decide) 836 rfl (fun c8 => absurd c9 c8) (fun _ => ?_)
          refine j_iconst (v := 0) F dL_law_840 841 rfl (by decide) ?_
          refine j_callVr (as := [.int (xs (k + 1)), .int (xs (k + 2)), .int (bi false)]) (st := [.int ((fX9_chance σ (xs (k + 1)) (xs (k + 2)) false).1)]) (r := .int (fX10_chance ((fX9_chance σ (xs (k + 1)) (xs (k + 2)) false).2) (xs (k + 1)) (xs (k + 2)) false)) (σ9 := (fX9_chance σ (xs (k + 1)) (xs (k + 2)) false).2) F zX10_chance dL_law_841 844 rfl pX10_chance rfl (by decide) (by decide) (Nat.le_of_ble_eq_true rfl) rfl qL_124 rfl rfl (by decide) sh33 (hch l D (xs (k + 1)) (xs (k + 2)) false ((fX9_chance σ (xs (k + 1)) (xs (k + 2)) false).2) q0) ?_
          refine j_icmp_eq F dL_law_844 1005 (by decide) 847 rfl (fun c9 => absurd hans c9) (fun _ => ?_)
          refine j_iinc F dL_law_1005 1008 rfl 3 rfl (nI (k + 4)) (nI_inc4 k) (by decide) [(3, .int (nI (k + 4))), (0, .ref b), (1, .ref (D.2.1 0)), (2, .ref (D.2.1 33))] rfl ?_
          refine j_goto F dL_law_1008 18 (by decide) ?_
          refine j_pick [1, 2, 3, 0] [(0, .ref b), (1, .ref (D.2.1 0)), (2, .ref (D.2.1 33)), (3, .int (nI (k + 4)))] rfl ?_
          exact ih (k + 4) ((fX9_chance σ (xs (k + 1)) (xs (k + 2)) false).2) (by omega) (by omega) hR2
      refine j_by (((xs k) &&& 31) = 27) (fun c_27 => ?_) (fun c_27 => ?_)
      · refine j_tin (z := 27) F dL_law_32 c_27 (by decide) (by decide) (by decide) rfl 849 (by decide) ?_
        refine j_aload_n F dL_law_849 850 rfl 1 rfl ?_
        refine j_aload_n F dL_law_850 851 rfl 0 rfl ?_
        refine j_iload_n F dL_law_851 852 rfl 3 rfl ?_
        refine j_iconst (v := 1) F dL_law_852 853 rfl (by decide) ?_
        refine j_iadd F dL_law_853 854 rfl ?_
        refine j_sld F hX dL_law_854 855 rfl (k + 1) (ne_add rfl rfl) (by omega) hL ?_
        refine j_i2l F dL_law_855 856 rfl ?_
        refine j_bipush (v := 32) F dL_law_856 858 rfl (by decide) ?_
        refine j_lshl F dL_law_858 859 rfl ?_
        refine j_aload_n F dL_law_859 860 rfl 0 rfl ?_
        refine j_iload_n F dL_law_860 861 rfl 3 rfl ?_
        refine j_iconst (v := 2) F dL_law_861 862 rfl (by decide) ?_
        refine j_iadd F dL_law_862 863 rfl ?_
        refine j_sld F hX dL_law_863 864 rfl (k + 2) (ne_add rfl rfl) (by omega) hL ?_
        refine j_i2l F dL_law_864 865 rfl ?_
        refine j_ldc2 F dL_law_865 868 rfl qL_125 ?_
        refine j_land F dL_law_868 869 rfl ?_
        refine j_lor F dL_law_869 870 rfl ?_
        obtain ⟨hans, hR2⟩ := h_seed σ (((xs (k + 1)).toInt64 <<< ((32 : Int32).toInt64 &&& 63)) ||| ((xs (k + 2)).toInt64 &&& 4294967295)) hR
        refine j_callVr (as := [.long (((xs (k + 1)).toInt64 <<< ((32 : Int32).toInt64 &&& 63)) ||| ((xs (k + 2)).toInt64 &&& 4294967295))]) (st := []) (r := .long ((fX9_seed σ (((xs (k + 1)).toInt64 <<< ((32 : Int32).toInt64 &&& 63)) ||| ((xs (k + 2)).toInt64 &&& 4294967295))).1)) (σ9 := (fX9_seed σ (((xs (k + 1)).toInt64 <<< ((32 : Int32).toInt64 &&& 63)) ||| ((xs (k + 2)).toInt64 &&& 4294967295))).2) F zX9_seed dL_law_870 873 rfl pX9_seed rfl (by decide) (by decide) (Nat.le_of_ble_eq_true rfl) rfl qL_127 rfl rfl (by decide) sh0 (kX9_seed l D (((xs (k + 1)).toInt64 <<< ((32 : Int32).toInt64 &&& 63)) ||| ((xs (k + 2)).toInt64 &&& 4294967295)) σ) ?_
        refine j_aload_n F dL_law_873 874 rfl 2 rfl ?_
        refine j_aload_n F dL_law_874 875 rfl 0 rfl ?_
        refine j_iload_n F dL_law_875 876 rfl 3 rfl ?_
        refine j_iconst (v := 1) F dL_law_876 877 rfl (by decide) ?_
        refine j_iadd F dL_law_877 878 rfl ?_
        refine j_sld F hX dL_law_878 879 rfl (k + 1) (ne_add rfl rfl) (by omega) hL ?_
        refine j_i2l F dL_law_879 880 rfl ?_
        refine j_bipush (v := 32) F dL_law_880 882 rfl (by decide) ?_
        refine j_lshl F dL_law_882 883 rfl ?_
        refine j_aload_n F dL_law_883 884 rfl 0 rfl ?_
        refine j_iload_n F dL_law_884 885 rfl 3 rfl ?_
        refine j_iconst (v := 2) F dL_law_885 886 rfl (by decide) ?_
        refine j_iadd F dL_law_886 887 rfl ?_
        refine j_sld F hX dL_law_887 888 rfl (k + 2) (ne_add rfl rfl) (by omega) hL ?_
        refine j_i2l F dL_law_888 889 rfl ?_
        refine j_ldc2 F dL_law_889 892 rfl qL_125 ?_
        refine j_land F dL_law_892 893 rfl ?_
        refine j_lor F dL_law_893 894 rfl ?_
        refine j_callVr (as := [.long (((xs (k + 1)).toInt64 <<< ((32 : Int32).toInt64 &&& 63)) ||| ((xs (k + 2)).toInt64 &&& 4294967295))]) (st := [.long ((fX9_seed σ (((xs (k + 1)).toInt64 <<< ((32 : Int32).toInt64 &&& 63)) ||| ((xs (k + 2)).toInt64 &&& 4294967295))).1)]) (r := .long ((fX10_seed ((fX9_seed σ (((xs (k + 1)).toInt64 <<< ((32 : Int32).toInt64 &&& 63)) ||| ((xs (k + 2)).toInt64 &&& 4294967295))).2) (((xs (k + 1)).toInt64 <<< ((32 : Int32).toInt64 &&& 63)) ||| ((xs (k + 2)).toInt64 &&& 4294967295))).1)) (σ9 := (fX10_seed ((fX9_seed σ (((xs (k + 1)).toInt64 <<< ((32 : Int32).toInt64 &&& 63)) ||| ((xs (k + 2)).toInt64 &&& 4294967295))).2) (((xs (k + 1)).toInt64 <<< ((32 : Int32).toInt64 &&& 63)) ||| ((xs (k + 2)).toInt64 &&& 4294967295))).2) F zX10_seed dL_law_894 897 rfl pX10_seed rfl (by decide) (by decide) (Nat.le_of_ble_eq_true rfl) rfl qL_131 rfl rfl (by decide) sh33 (kX10_seed l D (((xs (k + 1)).toInt64 <<< ((32 : Int32).toInt64 &&& 63)) ||| ((xs (k + 2)).toInt64 &&& 4294967295)) ((fX9_seed σ (((xs (k + 1)).toInt64 <<< ((32 : Int32).toInt64 &&& 63)) ||| ((xs (k + 2)).toInt64 &&& 4294967295))).2)) ?_
        refine j_lcmp F dL_law_897 898 rfl ?_
        refine j_ifl_eq F dL_law_898 1005 (by decide) 901 rfl (fun c9 => absurd hans c9) (fun _ => ?_)
        refine j_iinc F dL_law_1005 1008 rfl 3 rfl (nI (k + 4)) (nI_inc4 k) (by decide) [(3, .int (nI (k + 4))), (0, .ref b), (1, .ref (D.2.1 0)), (2, .ref (D.2.1 33))] rfl ?_
        refine j_goto F dL_law_1008 18 (by decide) ?_
        refine j_pick [1, 2, 3, 0] [(0, .ref b), (1, .ref (D.2.1 0)), (2, .ref (D.2.1 33)), (3, .int (nI (k + 4)))] rfl ?_
        exact ih (k + 4) ((fX10_seed ((fX9_seed σ (((xs (k + 1)).toInt64 <<< ((32 : Int32).toInt64 &&& 63)) ||| ((xs (k + 2)).toInt64 &&& 4294967295))).2) (((xs (k + 1)).toInt64 <<< ((32 : Int32).toInt64 &&& 63)) ||| ((xs (k + 2)).toInt64 &&& 4294967295))).2) (by omega) (by omega) hR2
      refine j_by (((xs k) &&& 31) = 28) (fun c_28 => ?_) (fun c_28 => ?_)
      · refine j_tin (z := 28) F dL_law_32 c_28 (by decide) (by decide) (by decide) rfl 903 (by decide) ?_
        refine j_aload_n F dL_law_903 904 rfl 1 rfl ?_
        refine j_aload_n F dL_law_904 905 rfl 0 rfl ?_
        refine j_iload_n F dL_law_905 906 rfl 3 rfl ?_
        refine j_iconst (v := 1) F dL_law_906 907 rfl (by decide) ?_
        refine j_iadd F dL_law_907 908 rfl ?_
        refine j_sld F hX dL_law_908 909 rfl (k + 1) (ne_add rfl rfl) (by omega) hL ?_
        refine j_aload_n F dL_law_909 910 rfl 0 rfl ?_
        refine j_iload_n F dL_law_910 911 rfl 3 rfl ?_
        refine j_iconst (v := 2) F dL_law_911 912 rfl (by decide) ?_
        refine j_iadd F dL_law_912 913 rfl ?_
        refine j_sld F hX dL_law_913 914 rfl (k + 2) (ne_add rfl rfl) (by omega) hL ?_
        obtain ⟨q0, hans, hR2⟩ := h_years σ (xs (k + 1)) (xs (k + 2)) hR
        refine j_callVr (as := [.int (xs (k + 1)), .int (xs (k + 2))]) (st := []) (r := .int ((fX9_years σ (xs (k + 1)) (xs (k + 2))).1)) (σ9 := (fX9_years σ (xs (k + 1)) (xs (k + 2))).2) F zX9_years dL_law_914 917 rfl pX9_years rfl (by decide) (by decide) (Nat.le_of_ble_eq_true rfl) rfl qL_132 rfl rfl (by decide) sh0 (kX9_years l D (xs (k + 1)) (xs (k + 2)) σ) ?_
        refine j_aload_n F dL_law_917 918 rfl 2 rfl ?_
        refine j_aload_n F dL_law_918 919 rfl 0 rfl ?_
        refine j_iload_n F dL_law_919 920 rfl 3 rfl ?_
        refine j_iconst (v := 1) F dL_law_920 921 rfl (by decide) ?_
        refine j_iadd F dL_law_921 922 rfl ?_
        refine j_sld F hX dL_law_922 923 rfl (k + 1) (ne_add rfl rfl) (by omega) hL ?_
        refine j_aload_n F dL_law_923 924 rfl 0 rfl ?_
        refine j_iload_n F dL_law_924 925 rfl 3 rfl ?_
        refine j_iconst (v := 2) F dL_law_925 926 rfl (by decide) ?_
        refine j_iadd F dL_law_926 927 rfl ?_
        refine j_sld F hX dL_law_927 928 rfl (k + 2) (ne_add rfl rfl) (by omega) hL ?_
        refine j_callVr (as := [.int (xs (k + 1)), .int (xs (k + 2))]) (st := [.int ((fX9_years σ (xs (k + 1)) (xs (k + 2))).1)]) (r := .int ((fX10_years ((fX9_years σ (xs (k + 1)) (xs (k + 2))).2) (xs (k + 1)) (xs (k + 2))).1)) (σ9 := (fX10_years ((fX9_years σ (xs (k + 1)) (xs (k + 2))).2) (xs (k + 1)) (xs (k + 2))).2) F zX10_years dL_law_928 931 rfl pX10_years rfl (by decide) (by decide) (Nat.le_of_ble_eq_true rfl) rfl qL_135 rfl rfl (by decide) sh33 (kX10_years l D (xs (k + 1)) (xs (k + 2)) ((fX9_years σ (xs (k + 1)) (xs (k + 2))).2) q0) ?_
        refine j_icmp_eq F dL_law_931 1005 (by decide) 934 rfl (fun c9 => absurd hans c9) (fun _ => ?_)
        refine j_iinc F dL_law_1005 1008 rfl 3 rfl (nI (k + 4)) (nI_inc4 k) (by decide) [(3, .int (nI (k + 4))), (0, .ref b), (1, .ref (D.2.1 0)), (2, .ref (D.2.1 33))] rfl ?_
        refine j_goto F dL_law_1008 18 (by decide) ?_
        refine j_pick [1, 2, 3, 0] [(0, .ref b), (1, .ref (D.2.1 0)), (2, .ref (D.2.1 33)), (3, .int (nI (k + 4)))] rfl ?_
        exact ih (k + 4) ((fX10_years ((fX9_years σ (xs (k + 1)) (xs (k + 2))).2) (xs (k + 1)) (xs (k + 2))).2) (by omega) (by omega) hR2
      refine j_by (((xs k) &&& 31) = 29) (fun c_29 => ?_) (fun c_29 => ?_)
      · refine j_tin (z := 29) F dL_law_32 c_29 (by decide) (by decide) (by decide) rfl 936 (by decide) ?_
        refine j_aload_n F dL_law_936 937 rfl 1 rfl ?_
        refine j_aload_n F dL_law_937 938 rfl 0 rfl ?_
        refine j_iload_n F dL_law_938 939 rfl 3 rfl ?_
        refine j_iconst (v := 1) F dL_law_939 940 rfl (by decide) ?_
        refine j_iadd F dL_law_940 941 rfl ?_
        refine j_sld F hX dL_law_941 942 rfl (k + 1) (ne_add rfl rfl) (by omega) hL ?_
        obtain ⟨hans, hR2⟩ := h_keep σ (xs (k + 1)) hR
        refine j_callVr (as := [.int (xs (k + 1))]) (st := []) (r := .int ((fX9_keepT σ (xs (k + 1))).1)) (σ9 := (fX9_keepT σ (xs (k + 1))).2) F zX9_keep dL_law_942 945 rfl pX9_keep rfl (by decide) (by decide) (Nat.le_of_ble_eq_true rfl) rfl qL_136 rfl rfl (by decide) sh0 (kX9_keepT l D (xs (k + 1)) σ) ?_
        refine j_aload_n F dL_law_945 946 rfl 2 rfl ?_
        refine j_aload_n F dL_law_946 947 rfl 0 rfl ?_
        refine j_iload_n F dL_law_947 948 rfl 3 rfl ?_
        refine j_iconst (v := 1) F dL_law_948 949 rfl (by decide) ?_
        refine j_iadd F dL_law_949 950 rfl ?_
        refine j_sld F hX dL_law_950 951 rfl (k + 1) (ne_add rfl rfl) (by omega) hL ?_
        refine j_callVr (as := [.int (xs (k + 1))]) (st := [.int ((fX9_keepT σ (xs (k + 1))).1)]) (r := .int ((fX10_keep ((fX9_keepT σ (xs (k + 1))).2) (xs (k + 1))).1)) (σ9 := (fX10_keep ((fX9_keepT σ (xs (k + 1))).2) (xs (k + 1))).2) F zX10_keep dL_law_951 954 rfl pX10_keep rfl (by decide) (by decide) (Nat.le_of_ble_eq_true rfl) rfl qL_139 rfl rfl (by decide) sh33 (kX10_keep l D (xs (k + 1)) ((fX9_keepT σ (xs (k + 1))).2)) ?_
        refine j_icmp_eq F dL_law_954 1005 (by decide) 957 rfl (fun c9 => absurd hans c9) (fun _ => ?_)
        refine j_iinc F dL_law_1005 1008 rfl 3 rfl (nI (k + 4)) (nI_inc4 k) (by decide) [(3, .int (nI (k + 4))), (0, .ref b), (1, .ref (D.2.1 0)), (2, .ref (D.2.1 33))] rfl ?_
        refine j_goto F dL_law_1008 18 (by decide) ?_
        refine j_pick [1, 2, 3, 0] [(0, .ref b), (1, .ref (D.2.1 0)), (2, .ref (D.2.1 33)), (3, .int (nI (k + 4)))] rfl ?_
        exact ih (k + 4) ((fX10_keep ((fX9_keepT σ (xs (k + 1))).2) (xs (k + 1))).2) (by omega) (by omega) hR2
      refine j_by (((xs k) &&& 31) = 30) (fun c_30 => ?_) (fun c_30 => ?_)
      · refine j_tin (z := 30) F dL_law_32 c_30 (by decide) (by decide) (by decide) rfl 959 (by decide) ?_
        refine j_aload_n F dL_law_959 960 rfl 1 rfl ?_
        refine j_aload_n F dL_law_960 961 rfl 0 rfl ?_
        refine j_iload_n F dL_law_961 962 rfl 3 rfl ?_
        refine j_iconst (v := 1) F dL_law_962 963 rfl (by decide) ?_
        refine j_iadd F dL_law_963 964 rfl ?_
        refine j_sld F hX dL_law_964 965 rfl (k + 1) (ne_add rfl rfl) (by omega) hL ?_
        obtain ⟨hans, hR2⟩ := h_again σ (xs (k + 1)) hR
        refine j_callVr (as := [.int (xs (k + 1))]) (st := []) (r := .int ((fX9_againT σ (xs (k + 1))).1)) (σ9 := (fX9_againT σ (xs (k + 1))).2) F zX9_again dL_law_965 968 rfl pX9_again rfl (by decide) (by decide) (Nat.le_of_ble_eq_true rfl) rfl qL_140 rfl rfl (by decide) sh0 (kX9_againT l D (xs (k + 1)) σ) ?_
        refine j_aload_n F dL_law_968 969 rfl 2 rfl ?_
        refine j_aload_n F dL_law_969 970 rfl 0 rfl ?_
        refine j_iload_n F dL_law_970 971 rfl 3 rfl ?_
        refine j_iconst (v := 1) F dL_law_971 972 rfl (by decide) ?_
        refine j_iadd F dL_law_972 973 rfl ?_
        refine j_sld F hX dL_law_973 974 rfl (k + 1) (ne_add rfl rfl) (by omega) hL ?_
        refine j_callVr (as := [.int (xs (k + 1))]) (st := [.int ((fX9_againT σ (xs (k + 1))).1)]) (r := .int ((fX10_again ((fX9_againT σ (xs (k + 1))).2) (xs (k + 1))).1)) (σ9 := (fX10_again ((fX9_againT σ (xs (k + 1))).2) (xs (k + 1))).2) F zX10_again dL_law_974 977 rfl pX10_again rfl (by decide) (by decide) (Nat.le_of_ble_eq_true rfl) rfl qL_143 rfl rfl (by decide) sh33 (kX10_again l D (xs (k + 1)) ((fX9_againT σ (xs (k + 1))).2)) ?_
        refine j_icmp_eq F dL_law_977 1005 (by decide) 980 rfl (fun c9 => absurd hans c9) (fun _ => ?_)
        refine j_iinc F dL_law_1005 1008 rfl 3 rfl (nI (k + 4)) (nI_inc4 k) (by decide) [(3, .int (nI (k + 4))), (0, .ref b), (1, .ref (D.2.1 0)), (2, .ref (D.2.1 33))] rfl ?_
        refine j_goto F dL_law_1008 18 (by decide) ?_
        refine j_pick [1, 2, 3, 0] [(0, .ref b), (1, .ref (D.2.1 0)), (2, .ref (D.2.1 33)), (3, .int (nI (k + 4)))] rfl ?_
        exact ih (k + 4) ((fX10_again ((fX9_againT σ (xs (k + 1))).2) (xs (k + 1))).2) (by omega) (by omega) hR2
      refine j_by (((xs k) &&& 31) = 31) (fun c_31 => ?_) (fun c_31 => ?_)
      · refine j_tin (z := 31) F dL_law_32 c_31 (by decide) (by decide) (by decide) rfl 982 (by decide) ?_
        refine j_aload_n F dL_law_982 983 rfl 1 rfl ?_
        refine j_aload_n F dL_law_983 984 rfl 0 rfl ?_
        refine j_iload_n F dL_law_984 985 rfl 3 rfl ?_
        refine j_iconst (v := 1) F dL_law_985 986 rfl (by decide) ?_
        refine j_iadd F dL_law_986 987 rfl ?_
        refine j_sld F hX dL_law_987 988 rfl (k + 1) (ne_add rfl rfl) (by omega) hL ?_
        obtain ⟨q0, hans, hR2⟩ := h_count σ (xs (k + 1)) hR
        refine j_callVr (as := [.int (xs (k + 1))]) (st := []) (r := .int (fX9_count σ (xs (k + 1)))) (σ9 := σ) F zX9_count dL_law_988 991 rfl pX9_count rfl (by decide) (by decide) (Nat.le_of_ble_eq_true rfl) rfl qL_144 rfl rfl (by decide) sh0 (kX9_count l D (xs (k + 1)) σ) ?_
        refine j_aload_n F dL_law_991 992 rfl 2 rfl ?_
        refine j_aload_n F dL_law_992 993 rfl 0 rfl ?_
        refine j_iload_n F dL_law_993 994 rfl 3 rfl ?_
        refine j_iconst (v := 1) F dL_law_994 995 rfl (by decide) ?_
        refine j_iadd F dL_law_995 996 rfl ?_
        refine j_sld F hX dL_law_996 997 rfl (k + 1) (ne_add rfl rfl) (by omega) hL ?_
        refine j_callVr (as := [.int (xs (k + 1))]) (st := [.int (fX9_count σ (xs (k + 1)))]) (r := .int (fX10_count σ (xs (k + 1)))) (σ9 := σ) F zX10_count dL_law_997 1000 rfl pX10_count rfl (by decide) (by decide) (Nat.le_of_ble_eq_true rfl) rfl qL_147 rfl rfl (by decide) sh33 (kX10_count l D (xs (k + 1)) σ q0) ?_
        refine j_icmp_eq F dL_law_1000 1005 (by decide) 1003 rfl (fun c9 => absurd hans c9) (fun _ => ?_)
        refine j_iinc F dL_law_1005 1008 rfl 3 rfl (nI (k + 4)) (nI_inc4 k) (by decide) [(3, .int (nI (k + 4))), (0, .ref b), (1, .ref (D.2.1 0)), (2, .ref (D.2.1 33))] rfl ?_
        refine j_goto F dL_law_1008 18 (by decide) ?_
        refine j_pick [1, 2, 3, 0] [(0, .ref b), (1, .ref (D.2.1 0)), (2, .ref (D.2.1 33)), (3, .int (nI (k + 4)))] rfl ?_
        exact ih (k + 4) σ (by omega) (by omega) hR2
      refine j_tout F dL_law_32 (by have e0 := lv_neT c_0 (show (0 : Int32).toInt = 0 from by decide); have e1 := lv_neT c_1 (show (1 : Int32).toInt = 1 from by decide); have e2 := lv_neT c_2 (show (2 : Int32).toInt = 2 from by decide); have e3 := lv_neT c_3 (show (3 : Int32).toInt = 3 from by decide); have e4 := lv_neT c_4 (show (4 : Int32).toInt = 4 from by decide); have e5 := lv_neT c_5 (show (5 : Int32).toInt = 5 from by decide); have e6 := lv_neT c_6 (show (6 : Int32).toInt = 6 from by decide); have e7 := lv_neT c_7 (show (7 : Int32).toInt = 7 from by decide); have e8 := lv_neT c_8 (show (8 : Int32).toInt = 8 from by decide); have e9 := lv_neT c_9 (show (9 : Int32).toInt = 9 from by decide); have e10 := lv_neT c_10 (show (10 : Int32).toInt = 10 from by decide); have e11 := lv_neT c_11 (show (11 : Int32).toInt = 11 from by decide); have e12 := lv_neT c_12 (show (12 : Int32).toInt = 12 from by decide); have e13 := lv_neT c_13 (show (13 : Int32).toInt = 13 from by decide); have e14 := lv_neT c_14 (show (14 : Int32).toInt = 14 from by decide); have e15 := lv_neT c_15 (show (15 : Int32).toInt = 15 from by decide); have e16 := lv_neT c_16 (show (16 : Int32).toInt = 16 from by decide); have e17 := lv_neT c_17 (show (17 : Int32).toInt = 17 from by decide); have e18 := lv_neT c_18 (show (18 : Int32).toInt = 18 from by decide); have e19 := lv_neT c_19 (show (19 : Int32).toInt = 19 from by decide); have e20 := lv_neT c_20 (show (20 : Int32).toInt = 20 from by decide); have e21 := lv_neT c_21 (show (21 : Int32).toInt = 21 from by decide); have e22 := lv_neT c_22 (show (22 : Int32).toInt = 22 from by decide); have e23 := lv_neT c_23 (show (23 : Int32).toInt = 23 from by decide); have e24 := lv_neT c_24 (show (24 : Int32).toInt = 24 from by decide); have e25 := lv_neT c_25 (show (25 : Int32).toInt = 25 from by decide); have e26 := lv_neT c_26 (show (26 : Int32).toInt = 26 from by decide); have e27 := lv_neT c_27 (show (27 : Int32).toInt = 27 from by decide); have e28 := lv_neT c_28 (show (28 : Int32).toInt = 28 from by decide); have e29 := lv_neT c_29 (show (29 : Int32).toInt = 29 from by decide); have e30 := lv_neT c_30 (show (30 : Int32).toInt = 30 from by decide); have e31 := lv_neT c_31 (show (31 : Int32).toInt = 31 from by decide); omega) 1005 (by decide) ?_
      refine j_iinc F dL_law_1005 1008 rfl 3 rfl (nI (k + 4)) (nI_inc4 k) (by decide) [(3, .int (nI (k + 4))), (0, .ref b), (1, .ref (D.2.1 0)), (2, .ref (D.2.1 33))] rfl ?_
      refine j_goto F dL_law_1008 18 (by decide) ?_
      refine j_pick [1, 2, 3, 0] [(0, .ref b), (1, .ref (D.2.1 0)), (2, .ref (D.2.1 33)), (3, .int (nI (k + 4)))] rfl ?_
      exact ih (k + 4) σ (by omega) (by omega) hR
    · refine j_iconst (v := 1) F dL_law_1011 1012 rfl (by decide) ?_
      exact hend σ _
