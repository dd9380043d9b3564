theorem rm_nn {x y : Int32} (hx : 0 ≤ x.toInt) (hy : 0 ≤ y.toInt) (h : ¬ y = 0) : 0 ≤ (rm x y).toInt ∧ (rm x y).toNatClampNeg < y.toNatClampNeg := by
  obtain ⟨a, ha, rfl⟩ := nI_of (x := x) (fun q => by rw [Int32.lt_iff_toInt_lt] at q; have h0 : (0 : Int32).toInt = 0 := rfl; omega)
  obtain ⟨b, hb, rfl⟩ := nI_of (x := y) (fun q => by rw [Int32.lt_iff_toInt_lt] at q; have h0 : (0 : Int32).toInt = 0 := rfl; omega)
  have hb0 : 0 < b := by
    cases b with
    | zero => exact absurd rfl h
    | succ b => omega
  have hm := Nat.mod_lt a hb0
  rw [rm_nI ha hb0 hb, nI_toInt (by omega), nI_cl (by omega), nI_cl hb]
  exact ⟨by omega, hm⟩
theorem lay_104 (a : Nat) (h40 : a ≠ 40) (kb : Mm → Int32 → Nat → Mm) (hkb : ∀ s x k, (kb s x k).1 a = s.1 a) : ∀ (n : Nat) (s : Mm) (x : Int32) (k k3 : Nat), (fX10_layWorlds_104 kb n s x k k3).1 a = s.1 a := by
  intro n
  induction n with
  | zero => intro s x k k3; rfl
  | succ n ih =>
    intro s x k k3
    rw [fX10_layWorlds_104]
    split
    · rw [ih, up_ne h40]
    · exact hkb _ _ _
theorem lay_43 (a : Nat) (h40 : a ≠ 40) (h33 : a ≠ 33) : ∀ (n : Nat) (s : Mm) (x : Int32) (k : Nat), (fX10_layWorlds_43 n s x k).1 a = s.1 a := by
  intro n
  induction n with
  | zero => intro s x k; rfl
  | succ n ih =>
    intro s x k
    rw [fX10_layWorlds_43]
    split
    · split
      · split
        · unfold fX10_layWorlds_92
          rw [lay_104 a h40 _ ih, up_ne h33, up_ne h33, up_ne h33]
        · exact ih _ _ _
      · exact ih _ _ _
    · rfl
theorem lay_22 (a : Nat) (h40 : a ≠ 40) (h33 : a ≠ 33) : ∀ (n : Nat) (s : Mm) (x : Int32) (k : Nat), (fX10_layWorlds_22 n s x k).1 a = s.1 a := by
  intro n
  induction n with
  | zero => intro s x k; rfl
  | succ n ih =>
    intro s x k
    rw [fX10_layWorlds_22]
    split
    · rw [ih, up_ne h40]
    · exact lay_43 a h40 h33 _ _ _ _
theorem layWorlds_k {σ : Mm} {a : Nat} (h40 : a ≠ 40) (h33 : a ≠ 33) : (fX10_layWorlds σ).1 a = σ.1 a := by
  unfold fX10_layWorlds fX10_layWorlds_15
  rw [lay_22 a h40 h33, up_ne h33, up_ne h33, up_ne h33]
