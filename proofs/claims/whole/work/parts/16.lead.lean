def fX3_leadF : Nat → Mm → Int32 → Int32 → Int32 → Int32 → Int32 → Int32 × Mm
  | 0 => fun σ _ _ _ _ _ => (0, σ)
  | d + 1 => fX3_lead (fX3_leadF d)
theorem kX3_leadD (l : Launch) (D : Dm) : ∀ (d : Nat) (a2 a3 a4 a5 a6 : Int32) (σ : Mm), a2.toInt ≤ d + 1 → Ct l yX3_lead cX3_lead 16 (some .int) (9 + d) D [.ref (D.2.1 21), .int a2, .int a3, .int a4, .int a5, .int a6] σ (some (.int (fX3_leadF (d + 1) σ a2 a3 a4 a5 a6).1), (fX3_leadF (d + 1) σ a2 a3 a4 a5 a6).2) := by
  intro d
  induction d with
  | zero =>
    intro a2 a3 a4 a5 a6 σ h
    exact kX3_leadB l D 8 (by decide) (fX3_leadF 0) a2 a3 a4 a5 a6 σ (fun τ b2 b3 b4 b5 b6 h1 _ => by omega)
  | succ d ih =>
    intro a2 a3 a4 a5 a6 σ h
    have e : 9 + (d + 1) = (9 + d) + 1 := by omega
    rw [e]
    exact kX3_leadB l D (9 + d) (by omega) (fX3_leadF (d + 1)) a2 a3 a4 a5 a6 σ (fun τ b2 b3 b4 b5 b6 h1 hb => ih b2 b3 b4 b5 b6 τ (by rw [hb, sub1 h1]; omega))
theorem kX3_lead (l : Launch) (D : Dm) (a2 a3 a4 a5 a6 : Int32) (σ : Mm) (ht : a2.toInt ≤ 4) : Ct l yX3_lead cX3_lead 16 (some .int) 13 D [.ref (D.2.1 21), .int a2, .int a3, .int a4, .int a5, .int a6] σ (some (.int (fX3_leadF 5 σ a2 a3 a4 a5 a6).1), (fX3_leadF 5 σ a2 a3 a4 a5 a6).2) := kX3_leadD l D 4 a2 a3 a4 a5 a6 σ (by omega)
