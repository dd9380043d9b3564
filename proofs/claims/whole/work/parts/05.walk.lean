/-! the memory: 89 places; int contents by place and index, longs by place -/
abbrev Mm : Type := (Nat → Nat → Int32) × (Nat → Int64)
abbrev Dm : Type := va_G × (Nat → Nat) × (Nat → ClassId)
def up (σ : Mm) (k j : Nat) (v : Int32) : Mm := (fun a b => if a = k ∧ b = j then v else σ.1 a b, σ.2)
def upL (σ : Mm) (k : Nat) (v : Int64) : Mm := (σ.1, fun a => if a = k then v else σ.2 a)
def bi (b : Bool) : Int32 := if b then 1 else 0
def rm (x y : Int32) : Int32 := x - x / y * y
def rmL (x y : Int64) : Int64 := x - x / y * y
theorem up_at {σ : Mm} {k j a b : Nat} {v : Int32} : (up σ k j v).1 a b = if a = k ∧ b = j then v else σ.1 a b := rfl
theorem up_ne {σ : Mm} {k j a : Nat} {v : Int32} (h : a ≠ k) : (up σ k j v).1 a = σ.1 a := by
  funext b
  simp [up, h]
theorem up_2 {σ : Mm} {k j : Nat} {v : Int32} : (up σ k j v).2 = σ.2 := rfl
theorem up_upd {σ : Mm} {k j : Nat} {v : Int32} : (up σ k j v).1 k = upd (σ.1 k) j v := by
  funext b
  simp [up, upd]
theorem upL_1 {σ : Mm} {k : Nat} {v : Int64} : (upL σ k v).1 = σ.1 := rfl
theorem upL_eq {σ : Mm} {k : Nat} {v : Int64} : (upL σ k v).2 k = v := by simp [upL]
theorem upL_ne {σ : Mm} {k a : Nat} {v : Int64} (h : a ≠ k) : (upL σ k v).2 a = σ.2 a := by simp [upL, h]
abbrev qs (f : Nat → Option Nat) : (Nat → Int32) ⊕ (Nat → Int64) ⊕ (Nat → UInt32) ⊕ (Nat → UInt64) ⊕ (Nat → Option Nat) := .inr (.inr (.inr (.inr f)))
/-- what lies at a place -/
def shp (ad : Nat → Nat) (cA : Nat → ClassId) (k : Nat) (f : Nat → Int32) (g : Int64) : va_E :=
  if k < 49 then (match k with
  | 0 => .inr (9, [.ref (ad 2), .ref (ad 49), .ref (ad 51), .ref (ad 4), .ref (ad 1), .int (f 5), .ref (ad 6), .ref (ad 7), .ref (ad 26), .ref (ad 21), .ref (ad 32)])
  | 1 => .inl (cA 2, (2, qs (fun j => some (ad (53 + 2 * j)))))
  | 2 => .inr (8, [.ref (ad 3), .int (f 1)])
  | 3 => .inl (cA 0, (56, .inl f))
  | 4 => .inr (6, [.ref (ad 5), .int (f 1), .int (f 2)])
  | 5 => .inl (cA 2, (16, qs (fun j => some (ad (57 + 2 * j)))))
  | 6 => .inr (5, [.int (f 0), .int (f 1), .int (f 2)])
  | 7 => .inr (4, [.ref (ad 17), .ref (ad 8), .ref (ad 9), .ref (ad 13), .int (f 4), .int (f 5)])
  | 8 => .inl (cA 0, (3, .inl f))
  | 9 => .inl (cA 3, (3, qs (fun j => some (ad (10 + j)))))
  | 10 => .inl (cA 0, (256, .inl f))
  | 11 => .inl (cA 0, (256, .inl f))
  | 12 => .inl (cA 0, (256, .inl f))
  | 13 => .inl (cA 3, (3, qs (fun j => some (ad (14 + j)))))
  | 14 => .inl (cA 0, (81, .inl f))
  | 15 => .inl (cA 0, (81, .inl f))
  | 16 => .inl (cA 0, (81, .inl f))
  | 17 => .inr (1, [.ref (ad 18), .ref (ad 19), .ref (ad 20)])
  | 18 => .inl (cA 0, (8, .inl f))
  | 19 => .inl (cA 0, (8, .inl f))
  | 20 => .inl (cA 0, (8, .inl f))
  | 21 => .inr (3, [.ref (ad 22), .int (f 1), .int (f 2), .int (f 3), .int (f 4), .int (f 5)])
  | 22 => .inr (1, [.ref (ad 23), .ref (ad 24), .ref (ad 25)])
  | 23 => .inl (cA 0, (8, .inl f))
  | 24 => .inl (cA 0, (8, .inl f))
  | 25 => .inl (cA 0, (8, .inl f))
  | 26 => .inr (7, [.ref (ad 27), .ref (ad 28), .ref (ad 29), .ref (ad 30), .ref (ad 31), .int (f 5), .int (f 6), .int (f 7), .int (f 8)])
  | 27 => .inl (cA 0, (6, .inl f))
  | 28 => .inl (cA 0, (6, .inl f))
  | 29 => .inl (cA 1, (6, .inl f))
  | 30 => .inl (cA 0, (6, .inl f))
  | 31 => .inl (cA 0, (8, .inl f))
  | 32 => .inr (0, [.long g, .int (f 1), .int (f 2)])
  | 33 => .inr (10, [.ref (ad 34), .ref (ad 35), .int (f 2), .int (f 3), .int (f 4), .ref (ad 36), .int (f 6), .ref (ad 37), .ref (ad 38), .ref (ad 39), .int (f 10), .int (f 11), .int (f 12), .ref (ad 40), .ref (ad 41), .ref (ad 42), .ref (ad 43), .ref (ad 44), .ref (ad 45), .ref (ad 46), .long g, .ref (ad 47), .ref (ad 48)])
  | 34 => .inl (cA 0, (28, .inl f))
  | 35 => .inl (cA 0, (56, .inl f))
  | 36 => .inl (cA 0, (224, .inl f))
  | 37 => .inl (cA 0, (6, .inl f))
  | 38 => .inl (cA 0, (6, .inl f))
  | 39 => .inl (cA 1, (6, .inl f))
  | 40 => .inl (cA 0, (8, .inl f))
  | 41 => .inl (cA 0, (6, .inl f))
  | 42 => .inl (cA 0, (6, .inl f))
  | 43 => .inl (cA 0, (6, .inl f))
  | 44 => .inl (cA 0, (6, .inl f))
  | 45 => .inl (cA 0, (6, .inl f))
  | 46 => .inl (cA 0, (6, .inl f))
  | 47 => .inl (cA 1, (2, .inl f))
  | _ => .inl (cA 0, (28, .inl f))
  ) else if k % 2 = 1 then .inr (2, [.ref (ad (k + 1)), .int (f 1), .int (f 2), .int (f 3), .int (f 4), .int (f 5), .int (f 6), .int (f 7)]) else .inl (cA 0, (8, .inl f))
theorem sh0 {ad : Nat → Nat} {cA : Nat → ClassId} {f : Nat → Int32} {g : Int64} : shp ad cA 0 f g = .inr (9, [.ref (ad 2), .ref (ad 49), .ref (ad 51), .ref (ad 4), .ref (ad 1), .int (f 5), .ref (ad 6), .ref (ad 7), .ref (ad 26), .ref (ad 21), .ref (ad 32)]) := rfl
theorem sh1 {ad : Nat → Nat} {cA : Nat → ClassId} {f : Nat → Int32} {g : Int64} : shp ad cA 1 f g = .inl (cA 2, (2, qs (fun j => some (ad (53 + 2 * j))))) := rfl
theorem sh2 {ad : Nat → Nat} {cA : Nat → ClassId} {f : Nat → Int32} {g : Int64} : shp ad cA 2 f g = .inr (8, [.ref (ad 3), .int (f 1)]) := rfl
theorem sh3 {ad : Nat → Nat} {cA : Nat → ClassId} {f : Nat → Int32} {g : Int64} : shp ad cA 3 f g = .inl (cA 0, (56, .inl f)) := rfl
theorem sh4 {ad : Nat → Nat} {cA : Nat → ClassId} {f : Nat → Int32} {g : Int64} : shp ad cA 4 f g = .inr (6, [.ref (ad 5), .int (f 1), .int (f 2)]) := rfl
theorem sh5 {ad : Nat → Nat} {cA : Nat → ClassId} {f : Nat → Int32} {g : Int64} : shp ad cA 5 f g = .inl (cA 2, (16, qs (fun j => some (ad (57 + 2 * j))))) := rfl
theorem sh6 {ad : Nat → Nat} {cA : Nat → ClassId} {f : Nat → Int32} {g : Int64} : shp ad cA 6 f g = .inr (5, [.int (f 0), .int (f 1), .int (f 2)]) := rfl
theorem sh7 {ad : Nat → Nat} {cA : Nat → ClassId} {f : Nat → Int32} {g : Int64} : shp ad cA 7 f g = .inr (4, [.ref (ad 17), .ref (ad 8), .ref (ad 9), .ref (ad 13), .int (f 4), .int (f 5)]) := rfl
theorem sh8 {ad : Nat → Nat} {cA : Nat → ClassId} {f : Nat → Int32} {g : Int64} : shp ad cA 8 f g = .inl (cA 0, (3, .inl f)) := rfl
theorem sh9 {ad : Nat → Nat} {cA : Nat → ClassId} {f : Nat → Int32} {g : Int64} : shp ad cA 9 f g = .inl (cA 3, (3, qs (fun j => some (ad (10 + j))))) := rfl
theorem sh10 {ad : Nat → Nat} {cA : Nat → ClassId} {f : Nat → Int32} {g : Int64} : shp ad cA 10 f g = .inl (cA 0, (256, .inl f)) := rfl
theorem sh11 {ad : Nat → Nat} {cA : Nat → ClassId} {f : Nat → Int32} {g : Int64} : shp ad cA 11 f g = .inl (cA 0, (256, .inl f)) := rfl
theorem sh12 {ad : Nat → Nat} {cA : Nat → ClassId} {f : Nat → Int32} {g : Int64} : shp ad cA 12 f g = .inl (cA 0, (256, .inl f)) := rfl
theorem sh13 {ad : Nat → Nat} {cA : Nat → ClassId} {f : Nat → Int32} {g : Int64} : shp ad cA 13 f g = .inl (cA 3, (3, qs (fun j => some (ad (14 + j))))) := rfl
theorem sh14 {ad : Nat → Nat} {cA : Nat → ClassId} {f : Nat → Int32} {g : Int64} : shp ad cA 14 f g = .inl (cA 0, (81, .inl f)) := rfl
theorem sh15 {ad : Nat → Nat} {cA : Nat → ClassId} {f : Nat → Int32} {g : Int64} : shp ad cA 15 f g = .inl (cA 0, (81, .inl f)) := rfl
theorem sh16 {ad : Nat → Nat} {cA : Nat → ClassId} {f : Nat → Int32} {g : Int64} : shp ad cA 16 f g = .inl (cA 0, (81, .inl f)) := rfl
theorem sh17 {ad : Nat → Nat} {cA : Nat → ClassId} {f : Nat → Int32} {g : Int64} : shp ad cA 17 f g = .inr (1, [.ref (ad 18), .ref (ad 19), .ref (ad 20)]) := rfl
theorem sh18 {ad : Nat → Nat} {cA : Nat → ClassId} {f : Nat → Int32} {g : Int64} : shp ad cA 18 f g = .inl (cA 0, (8, .inl f)) := rfl
theorem sh19 {ad : Nat → Nat} {cA : Nat → ClassId} {f : Nat → Int32} {g : Int64} : shp ad cA 19 f g = .inl (cA 0, (8, .inl f)) := rfl
theorem sh20 {ad : Nat → Nat} {cA : Nat → ClassId} {f : Nat → Int32} {g : Int64} : shp ad cA 20 f g = .inl (cA 0, (8, .inl f)) := rfl
theorem sh21 {ad : Nat → Nat} {cA : Nat → ClassId} {f : Nat → Int32} {g : Int64} : shp ad cA 21 f g = .inr (3, [.ref (ad 22), .int (f 1), .int (f 2), .int (f 3), .int (f 4), .int (f 5)]) := rfl
theorem sh22 {ad : Nat → Nat} {cA : Nat → ClassId} {f : Nat → Int32} {g : Int64} : shp ad cA 22 f g = .inr (1, [.ref (ad 23), .ref (ad 24), .ref (ad 25)]) := rfl
theorem sh23 {ad : Nat → Nat} {cA : Nat → ClassId} {f : Nat → Int32} {g : Int64} : shp ad cA 23 f g = .inl (cA 0, (8, .inl f)) := rfl
theorem sh24 {ad : Nat → Nat} {cA : Nat → ClassId} {f : Nat → Int32} {g : Int64} : shp ad cA 24 f g = .inl (cA 0, (8, .inl f)) := rfl
theorem sh25 {ad : Nat → Nat} {cA : Nat → ClassId} {f : Nat → Int32} {g : Int64} : shp ad cA 25 f g = .inl (cA 0, (8, .inl f)) := rfl
theorem sh26 {ad : Nat → Nat} {cA : Nat → ClassId} {f : Nat → Int32} {g : Int64} : shp ad cA 26 f g = .inr (7, [.ref (ad 27), .ref (ad 28), .ref (ad 29), .ref (ad 30), .ref (ad 31), .int (f 5), .int (f 6), .int (f 7), .int (f 8)]) := rfl
theorem sh27 {ad : Nat → Nat} {cA : Nat → ClassId} {f : Nat → Int32} {g : Int64} : shp ad cA 27 f g = .inl (cA 0, (6, .inl f)) := rfl
theorem sh28 {ad : Nat → Nat} {cA : Nat → ClassId} {f : Nat → Int32} {g : Int64} : shp ad cA 28 f g = .inl (cA 0, (6, .inl f)) := rfl
theorem sh29 {ad : Nat → Nat} {cA : Nat → ClassId} {f : Nat → Int32} {g : Int64} : shp ad cA 29 f g = .inl (cA 1, (6, .inl f)) := rfl
theorem sh30 {ad : Nat → Nat} {cA : Nat → ClassId} {f : Nat → Int32} {g : Int64} : shp ad cA 30 f g = .inl (cA 0, (6, .inl f)) := rfl
theorem sh31 {ad : Nat → Nat} {cA : Nat → ClassId} {f : Nat → Int32} {g : Int64} : shp ad cA 31 f g = .inl (cA 0, (8, .inl f)) := rfl
theorem sh32 {ad : Nat → Nat} {cA : Nat → ClassId} {f : Nat → Int32} {g : Int64} : shp ad cA 32 f g = .inr (0, [.long g, .int (f 1), .int (f 2)]) := rfl
theorem sh33 {ad : Nat → Nat} {cA : Nat → ClassId} {f : Nat → Int32} {g : Int64} : shp ad cA 33 f g = .inr (10, [.ref (ad 34), .ref (ad 35), .int (f 2), .int (f 3), .int (f 4), .ref (ad 36), .int (f 6), .ref (ad 37), .ref (ad 38), .ref (ad 39), .int (f 10), .int (f 11), .int (f 12), .ref (ad 40), .ref (ad 41), .ref (ad 42), .ref (ad 43), .ref (ad 44), .ref (ad 45), .ref (ad 46), .long g, .ref (ad 47), .ref (ad 48)]) := rfl
theorem sh34 {ad : Nat → Nat} {cA : Nat → ClassId} {f : Nat → Int32} {g : Int64} : shp ad cA 34 f g = .inl (cA 0, (28, .inl f)) := rfl
theorem sh35 {ad : Nat → Nat} {cA : Nat → ClassId} {f : Nat → Int32} {g : Int64} : shp ad cA 35 f g = .inl (cA 0, (56, .inl f)) := rfl
theorem sh36 {ad : Nat → Nat} {cA : Nat → ClassId} {f : Nat → Int32} {g : Int64} : shp ad cA 36 f g = .inl (cA 0, (224, .inl f)) := rfl
theorem sh37 {ad : Nat → Nat} {cA : Nat → ClassId} {f : Nat → Int32} {g : Int64} : shp ad cA 37 f g = .inl (cA 0, (6, .inl f)) := rfl
theorem sh38 {ad : Nat → Nat} {cA : Nat → ClassId} {f : Nat → Int32} {g : Int64} : shp ad cA 38 f g = .inl (cA 0, (6, .inl f)) := rfl
theorem sh39 {ad : Nat → Nat} {cA : Nat → ClassId} {f : Nat → Int32} {g : Int64} : shp ad cA 39 f g = .inl (cA 1, (6, .inl f)) := rfl
theorem sh40 {ad : Nat → Nat} {cA : Nat → ClassId} {f : Nat → Int32} {g : Int64} : shp ad cA 40 f g = .inl (cA 0, (8, .inl f)) := rfl
theorem sh41 {ad : Nat → Nat} {cA : Nat → ClassId} {f : Nat → Int32} {g : Int64} : shp ad cA 41 f g = .inl (cA 0, (6, .inl f)) := rfl
theorem sh42 {ad : Nat → Nat} {cA : Nat → ClassId} {f : Nat → Int32} {g : Int64} : shp ad cA 42 f g = .inl (cA 0, (6, .inl f)) := rfl
theorem sh43 {ad : Nat → Nat} {cA : Nat → ClassId} {f : Nat → Int32} {g : Int64} : shp ad cA 43 f g = .inl (cA 0, (6, .inl f)) := rfl
theorem sh44 {ad : Nat → Nat} {cA : Nat → ClassId} {f : Nat → Int32} {g : Int64} : shp ad cA 44 f g = .inl (cA 0, (6, .inl f)) := rfl
theorem sh45 {ad : Nat → Nat} {cA : Nat → ClassId} {f : Nat → Int32} {g : Int64} : shp ad cA 45 f g = .inl (cA 0, (6, .inl f)) := rfl
theorem sh46 {ad : Nat → Nat} {cA : Nat → ClassId} {f : Nat → Int32} {g : Int64} : shp ad cA 46 f g = .inl (cA 0, (6, .inl f)) := rfl
theorem sh47 {ad : Nat → Nat} {cA : Nat → ClassId} {f : Nat → Int32} {g : Int64} : shp ad cA 47 f g = .inl (cA 1, (2, .inl f)) := rfl
theorem sh48 {ad : Nat → Nat} {cA : Nat → ClassId} {f : Nat → Int32} {g : Int64} : shp ad cA 48 f g = .inl (cA 0, (28, .inl f)) := rfl
/-- a house: its place -/
def hsP (h : Nat) : Prop := 49 ≤ h ∧ h < 88 ∧ h % 2 = 1
theorem shH {ad : Nat → Nat} {cA : Nat → ClassId} {f : Nat → Int32} {g : Int64} {k : Nat} (hk : hsP k) : shp ad cA k f g = .inr (2, [.ref (ad (k + 1)), .int (f 1), .int (f 2), .int (f 3), .int (f 4), .int (f 5), .int (f 6), .int (f 7)]) := by
  unfold shp
  rw [if_neg (by have := hk.1; omega), if_pos hk.2.2]
theorem shT {ad : Nat → Nat} {cA : Nat → ClassId} {f : Nat → Int32} {g : Int64} {k : Nat} (hk : hsP k) : shp ad cA (k + 1) f g = .inl (cA 0, (8, .inl f)) := by
  unfold shp
  rw [if_neg (by have := hk.1; omega), if_neg (by have := hk.2.2; omega)]
def gdP (g : Nat) : Prop := g = 17 ∨ g = 22
theorem shG {ad : Nat → Nat} {cA : Nat → ClassId} {f : Nat → Int32} {g : Int64} {k : Nat} (hk : gdP k) : shp ad cA k f g = .inr (1, [.ref (ad (k + 1)), .ref (ad (k + 2)), .ref (ad (k + 3))]) := by
  rcases hk with rfl | rfl <;> rfl
/-- an int array of n places -/
def iaP (k n : Nat) : Prop := k < 89 ∧ n < 1000 ∧ ∀ (ad : Nat → Nat) (cA : Nat → ClassId) (f : Nat → Int32) (g : Int64), shp ad cA k f g = .inl (cA 0, (n, .inl f))
theorem iaT {h : Nat} (hh : hsP h) : iaP (h + 1) 8 := ⟨by have := hh.2.1; omega, by decide, fun _ _ _ _ => shT hh⟩
theorem ia3 : iaP 3 56 := ⟨by decide, by decide, fun _ _ _ _ => rfl⟩
theorem ia8 : iaP 8 3 := ⟨by decide, by decide, fun _ _ _ _ => rfl⟩
theorem ia10 : iaP 10 256 := ⟨by decide, by decide, fun _ _ _ _ => rfl⟩
theorem ia11 : iaP 11 256 := ⟨by decide, by decide, fun _ _ _ _ => rfl⟩
theorem ia12 : iaP 12 256 := ⟨by decide, by decide, fun _ _ _ _ => rfl⟩
theorem ia14 : iaP 14 81 := ⟨by decide, by decide, fun _ _ _ _ => rfl⟩
theorem ia15 : iaP 15 81 := ⟨by decide, by decide, fun _ _ _ _ => rfl⟩
theorem ia16 : iaP 16 81 := ⟨by decide, by decide, fun _ _ _ _ => rfl⟩
theorem ia18 : iaP 18 8 := ⟨by decide, by decide, fun _ _ _ _ => rfl⟩
theorem ia19 : iaP 19 8 := ⟨by decide, by decide, fun _ _ _ _ => rfl⟩
theorem ia20 : iaP 20 8 := ⟨by decide, by decide, fun _ _ _ _ => rfl⟩
theorem ia23 : iaP 23 8 := ⟨by decide, by decide, fun _ _ _ _ => rfl⟩
theorem ia24 : iaP 24 8 := ⟨by decide, by decide, fun _ _ _ _ => rfl⟩
theorem ia25 : iaP 25 8 := ⟨by decide, by decide, fun _ _ _ _ => rfl⟩
theorem ia27 : iaP 27 6 := ⟨by decide, by decide, fun _ _ _ _ => rfl⟩
theorem ia28 : iaP 28 6 := ⟨by decide, by decide, fun _ _ _ _ => rfl⟩
theorem ia30 : iaP 30 6 := ⟨by decide, by decide, fun _ _ _ _ => rfl⟩
theorem ia31 : iaP 31 8 := ⟨by decide, by decide, fun _ _ _ _ => rfl⟩
theorem ia34 : iaP 34 28 := ⟨by decide, by decide, fun _ _ _ _ => rfl⟩
theorem ia35 : iaP 35 56 := ⟨by decide, by decide, fun _ _ _ _ => rfl⟩
theorem ia36 : iaP 36 224 := ⟨by decide, by decide, fun _ _ _ _ => rfl⟩
theorem ia37 : iaP 37 6 := ⟨by decide, by decide, fun _ _ _ _ => rfl⟩
theorem ia38 : iaP 38 6 := ⟨by decide, by decide, fun _ _ _ _ => rfl⟩
theorem ia40 : iaP 40 8 := ⟨by decide, by decide, fun _ _ _ _ => rfl⟩
theorem ia41 : iaP 41 6 := ⟨by decide, by decide, fun _ _ _ _ => rfl⟩
theorem ia42 : iaP 42 6 := ⟨by decide, by decide, fun _ _ _ _ => rfl⟩
theorem ia43 : iaP 43 6 := ⟨by decide, by decide, fun _ _ _ _ => rfl⟩
theorem ia44 : iaP 44 6 := ⟨by decide, by decide, fun _ _ _ _ => rfl⟩
theorem ia45 : iaP 45 6 := ⟨by decide, by decide, fun _ _ _ _ => rfl⟩
theorem ia46 : iaP 46 6 := ⟨by decide, by decide, fun _ _ _ _ => rfl⟩
theorem ia48 : iaP 48 28 := ⟨by decide, by decide, fun _ _ _ _ => rfl⟩
theorem iaG1 {g : Nat} (hg : gdP g) : iaP (g + 1) 8 := by rcases hg with rfl | rfl <;> exact ⟨by decide, by decide, fun _ _ _ _ => rfl⟩
theorem iaG2 {g : Nat} (hg : gdP g) : iaP (g + 2) 8 := by rcases hg with rfl | rfl <;> exact ⟨by decide, by decide, fun _ _ _ _ => rfl⟩
theorem iaG3 {g : Nat} (hg : gdP g) : iaP (g + 3) 8 := by rcases hg with rfl | rfl <;> exact ⟨by decide, by decide, fun _ _ _ _ => rfl⟩
theorem hsP.lt {h : Nat} (hh : hsP h) : h < 89 := by have := hh.2.1; omega
theorem gdP.lt {h : Nat} (hh : gdP h) : h < 89 := by rcases hh with rfl | rfl <;> decide
def cw (D : Dm) (σ : Mm) : va_W := (List.range 89).map fun k => (D.2.1 k, shp D.2.1 D.2.2 k (σ.1 k) (σ.2 k))
theorem cw_get {D : Dm} {σ : Mm} {k : Nat} (h : k < 89) : (cw D σ)[k]? = some (D.2.1 k, shp D.2.1 D.2.2 k (σ.1 k) (σ.2 k)) := by
  unfold cw
  rw [List.getElem?_map, List.getElem?_range h]
  rfl
theorem cw_none {D : Dm} {σ : Mm} {k : Nat} (h : ¬ k < 89) : (cw D σ)[k]? = none := by
  unfold cw
  rw [List.getElem?_eq_none]
  simp
  omega
theorem cw_inv {D : Dm} {σ : Mm} {k : Nat} {q : Nat × va_E} (h : (cw D σ)[k]? = some q) : k < 89 ∧ q = (D.2.1 k, shp D.2.1 D.2.2 k (σ.1 k) (σ.2 k)) := by
  by_cases hk : k < 89
  · rw [cw_get hk] at h
    exact ⟨hk, (Option.some.inj h).symm⟩
  · rw [cw_none hk] at h
    cases h
theorem cw_set {D : Dm} {σ σ' : Mm} {k : Nat} (h : k < 89) (h1 : ∀ j, j ≠ k → σ'.1 j = σ.1 j) (h2 : ∀ j, j ≠ k → σ'.2 j = σ.2 j) : (cw D σ).set k (D.2.1 k, shp D.2.1 D.2.2 k (σ'.1 k) (σ'.2 k)) = cw D σ' := by
  apply List.ext_getElem?
  intro j
  by_cases hj : k = j
  · subst hj
    rw [List.getElem?_set_self (by simp [cw]; exact h), cw_get h]
  · rw [List.getElem?_set_ne hj]
    by_cases hl : j < 89
    · rw [cw_get hl, cw_get hl, h1 j (Ne.symm hj), h2 j (Ne.symm hj)]
    · rw [cw_none hl, cw_none hl]
def inj (D : Dm) : Prop := ∀ i j, i < 89 → j < 89 → D.2.1 i = D.2.1 j → i = j
def AA (D : Dm) : Nat → Prop := fun q => ∃ k, k < 89 ∧ q = D.2.1 k
theorem cw_D {D : Dm} {σ : Mm} {A : Nat → Prop} (hi : inj D) (hA : ∀ k, k < 89 → A (D.2.1 k)) : va_D A (cw D σ) := by
  refine ⟨fun i j p q h1 h2 h => ?_, fun k q h => ?_⟩
  · obtain ⟨a1, rfl⟩ := cw_inv h1
    obtain ⟨a2, rfl⟩ := cw_inv h2
    exact hi i j a1 a2 h
  · obtain ⟨a1, rfl⟩ := cw_inv h
    exact hA k a1
def tyw (D : Dm) : List (ClassId × FieldType) := [(D.2.2 0, .int), (D.2.2 1, .boolean), (D.2.2 2, .object "LastOfKind$House"), (D.2.2 3, .array .int)]
/-- a method's world -/
def Nst (U : State) : Prop := ∀ q ∈ nestL, va_Nw (.methodLinkNest q.1 q.2.1 q.2.2.1 q.2.2.2) U
theorem Nst.warm {s U : State} (hW : s.WarmedH U.vm) (h : Nst s) : Nst U := fun q hq => va_Nw.warmM hW (h q hq)
def Wd (D : Dm) (σ : Mm) (U : State) : Prop := va_P D.1 vwCl (cw D σ) U.heap ∧ va_K D.1 vwCl (tyw D) U ∧ inj D ∧ Nst U
def Qm (D : Dm) (A : Nat → Prop) (t : Option Value × Mm) : Array Value → State → Outcome → State → Prop := fun _ st oc u => (oc = .returned t.1 ∧ va_P D.1 vwCl (cw D t.2) u.heap ∧ va_K D.1 vwCl (tyw D) u) ∧ va_F A st u
def rmd (d : Nat) : Room := { frames := d, cells := 0, slots := 0, locals := 64 * d }
abbrev wz (y : MethodName) (cc : ByteArray) (maxL : Nat) (ret : Option FieldType) : List Cond := Cond.code y cc maxL ret :: lw_ok
/-- a contract: with these arguments, over the memory σ, at depth d, y answers t.1 and leaves t.2 -/
def Ct (l : Launch) (y : MethodName) (cc : ByteArray) (maxL : Nat) (ret : Option FieldType) (d : Nat) (D : Dm) (as : List Value) (σ : Mm) (t : Option Value × Mm) : Prop :=
  Met l y (wz y cc maxL ret) (rmd d) (va_Pc as (Wd D σ)) (Qm D (AA D) t) 0 0 (AA D)
/-- a method's fixed things -/
abbrev Cx : Type := Program × Launch × Env × Room × State × MethodId × Array Value × List Frame × Method × Code × Nat × Nat × (Nat → Prop)
def Fx (X : Cx) (l : Launch) (nL : Nat) (D : Dm) (cc : ByteArray) (own : String) (dep : Nat) (ret : Option FieldType) : Prop := match X with
  | (p, l', e, R, s, m, args, below, meth, c, cells, slots, A) => l' = l ∧ p.tables.exec = Jvm.exec ∧ c.code = cc ∧ c.maxLocals = nL ∧ s.vm.findClass own = some m.cls ∧ (∀ w ∈ lw_ok, w.before args s = true) ∧ va_K D.1 vwCl (tyw D) s ∧ inj D ∧ Nst s ∧ (∀ k, k < 89 → A (D.2.1 k)) ∧ meth.locks = false ∧ meth.sig.returnType = ret ∧ dep ≤ R.frames ∧ 64 * dep ≤ R.locals ∧ cells ≤ R.cells ∧ slots ≤ R.slots
def JJ (X : Cx) (nL : Nat) (D : Dm) (σ : Mm) (pc : Nat) (ls : List (Nat × Value)) (st : List Value) (Q : State → Prop) : Prop := match X with
  | (p, l, e, R, s, m, args, below, meth, c, cells, slots, A) => ∀ (H : Heap) (locs : List Loc) (lsA : Array Slot), va_P D.1 vwCl (cw D σ) H → va_S A s.heap H locs → lv_has lsA nL ls → W p l e R s m args below meth c H locs cells slots Q (F0 m pc lsA st)
/-- how a method ends: with the answer t.1 and the memory t.2 -/
def QQ (X : Cx) (D : Dm) (t : Option Value × Mm) : State → Prop := match X with
  | (p, l, e, R, s, m, args, below, meth, c, cells, slots, A) => MQ below (Qm D A t) args s cells slots A

theorem j_iconst {X : Cx} {l : Launch} {nL : Nat} {D : Dm} {cc : ByteArray} {own : String} {dep : Nat} {ret : Option FieldType} {σ : Mm} {pc : Nat} {ls : List (Nat × Value)} {st : List Value} {Q : State → Prop} (F : Fx X l nL D cc own dep ret) {k : Int} {v : Int32} (d : decode cc pc = .ok (.iconst k, 1)) (n : Nat) (hn : pc + 1 = n) (hv : Int32.ofInt k = v) (kk : JJ X nL D σ n ls (.int v :: st) Q) : JJ X nL D σ pc ls st Q := by
  subst hn
  obtain ⟨p, l9, e, R, s, m, args, below, meth, c, cells, slots, A⟩ := X
  obtain ⟨rfl, hx, hb, hml, hown, hts, hK, hi, hNs, hA, hlk, hret, hfr, hlo, hce, hsl⟩ := F
  intro H locs lsA hP hS hl
  exact lv_iconst hx hb d hv (kk H locs lsA hP hS hl)
theorem j_bipush {X : Cx} {l : Launch} {nL : Nat} {D : Dm} {cc : ByteArray} {own : String} {dep : Nat} {ret : Option FieldType} {σ : Mm} {pc : Nat} {ls : List (Nat × Value)} {st : List Value} {Q : State → Prop} (F : Fx X l nL D cc own dep ret) {k : Int} {v : Int32} (d : decode cc pc = .ok (.bipush k, 2)) (n : Nat) (hn : pc + 2 = n) (hv : (Int8.ofInt k).toInt32 = v) (kk : JJ X nL D σ n ls (.int v :: st) Q) : JJ X nL D σ pc ls st Q := by
  subst hn
  obtain ⟨p, l9, e, R, s, m, args, below, meth, c, cells, slots, A⟩ := X
  obtain ⟨rfl, hx, hb, hml, hown, hts, hK, hi, hNs, hA, hlk, hret, hfr, hlo, hce, hsl⟩ := F
  intro H locs lsA hP hS hl
  exact lv_bipush hx hb d hv (kk H locs lsA hP hS hl)
theorem j_sipush {X : Cx} {l : Launch} {nL : Nat} {D : Dm} {cc : ByteArray} {own : String} {dep : Nat} {ret : Option FieldType} {σ : Mm} {pc : Nat} {ls : List (Nat × Value)} {st : List Value} {Q : State → Prop} (F : Fx X l nL D cc own dep ret) {k : Int} {v : Int32} (d : decode cc pc = .ok (.sipush k, 3)) (n : Nat) (hn : pc + 3 = n) (hv : (Int16.ofInt k).toInt32 = v) (kk : JJ X nL D σ n ls (.int v :: st) Q) : JJ X nL D σ pc ls st Q := by
  subst hn
  obtain ⟨p, l9, e, R, s, m, args, below, meth, c, cells, slots, A⟩ := X
  obtain ⟨rfl, hx, hb, hml, hown, hts, hK, hi, hNs, hA, hlk, hret, hfr, hlo, hce, hsl⟩ := F
  intro H locs lsA hP hS hl
  exact lv_sipush hx hb d hv (kk H locs lsA hP hS hl)
theorem j_lconst {X : Cx} {l : Launch} {nL : Nat} {D : Dm} {cc : ByteArray} {own : String} {dep : Nat} {ret : Option FieldType} {σ : Mm} {pc : Nat} {ls : List (Nat × Value)} {st : List Value} {Q : State → Prop} (F : Fx X l nL D cc own dep ret) {k : Fin 2} {v : Int64} (d : decode cc pc = .ok (.lconst k, 1)) (n : Nat) (hn : pc + 1 = n) (hv : Int64.ofNat (k : Nat) = v) (kk : JJ X nL D σ n ls (.long v :: st) Q) : JJ X nL D σ pc ls st Q := by
  subst hn
  obtain ⟨p, l9, e, R, s, m, args, below, meth, c, cells, slots, A⟩ := X
  obtain ⟨rfl, hx, hb, hml, hown, hts, hK, hi, hNs, hA, hlk, hret, hfr, hlo, hce, hsl⟩ := F
  intro H locs lsA hP hS hl
  exact lv_lconst hx hb d hv (kk H locs lsA hP hS hl)
theorem j_ldc2 {X : Cx} {l : Launch} {nL : Nat} {D : Dm} {cc : ByteArray} {own : String} {dep : Nat} {ret : Option FieldType} {σ : Mm} {pc : Nat} {ls : List (Nat × Value)} {st : List Value} {Q : State → Prop} (F : Fx X l nL D cc own dep ret) {k : Nat} {v : Int64} (d : decode cc pc = .ok (.ldc2_w k, 3)) (n : Nat) (hn : pc + 3 = n) (hq : Cond.constantLong own k v ∈ lw_ok) (kk : JJ X nL D σ n ls (.long v :: st) Q) : JJ X nL D σ pc ls st Q := by
  subst hn
  obtain ⟨p, l9, e, R, s, m, args, below, meth, c, cells, slots, A⟩ := X
  obtain ⟨rfl, hx, hb, hml, hown, hts, hK, hi, hNs, hA, hlk, hret, hfr, hlo, hce, hsl⟩ := F
  intro H locs lsA hP hS hl
  exact lv_ldc2 hx hb hown (hts _ hq) d (kk H locs lsA hP hS hl)
theorem j_ldc {X : Cx} {l : Launch} {nL : Nat} {D : Dm} {cc : ByteArray} {own : String} {dep : Nat} {ret : Option FieldType} {σ : Mm} {pc : Nat} {ls : List (Nat × Value)} {st : List Value} {Q : State → Prop} (F : Fx X l nL D cc own dep ret) {k : Nat} {v : Int32} (d : decode cc pc = .ok (.ldc k, 2)) (n : Nat) (hn : pc + 2 = n) (hq : Cond.constant own k v ∈ lw_ok) (kk : JJ X nL D σ n ls (.int v :: st) Q) : JJ X nL D σ pc ls st Q := by
  subst hn
  obtain ⟨p, l9, e, R, s, m, args, below, meth, c, cells, slots, A⟩ := X
  obtain ⟨rfl, hx, hb, hml, hown, hts, hK, hi, hNs, hA, hlk, hret, hfr, hlo, hce, hsl⟩ := F
  intro H locs lsA hP hS hl
  exact lv_ldc hx hb hown (hts _ hq) d (kk H locs lsA hP hS hl)
theorem j_ldcw {X : Cx} {l : Launch} {nL : Nat} {D : Dm} {cc : ByteArray} {own : String} {dep : Nat} {ret : Option FieldType} {σ : Mm} {pc : Nat} {ls : List (Nat × Value)} {st : List Value} {Q : State → Prop} (F : Fx X l nL D cc own dep ret) {k : Nat} {v : Int32} (d : decode cc pc = .ok (.ldc_w k, 3)) (n : Nat) (hn : pc + 3 = n) (hq : Cond.constant own k v ∈ lw_ok) (kk : JJ X nL D σ n ls (.int v :: st) Q) : JJ X nL D σ pc ls st Q := by
  subst hn
  obtain ⟨p, l9, e, R, s, m, args, below, meth, c, cells, slots, A⟩ := X
  obtain ⟨rfl, hx, hb, hml, hown, hts, hK, hi, hNs, hA, hlk, hret, hfr, hlo, hce, hsl⟩ := F
  intro H locs lsA hP hS hl
  exact lv_ldcw hx hb hown (hts _ hq) d (kk H locs lsA hP hS hl)
theorem j_iload_n {X : Cx} {l : Launch} {nL : Nat} {D : Dm} {cc : ByteArray} {own : String} {dep : Nat} {ret : Option FieldType} {σ : Mm} {pc : Nat} {ls : List (Nat × Value)} {st : List Value} {Q : State → Prop} (F : Fx X l nL D cc own dep ret) {k : Fin 4} {x : Int32} (d : decode cc pc = .ok (.iload_n k, 1)) (n : Nat) (hn : pc + 1 = n) (q : Nat) (h : ls[q]? = some ((k : Nat), .int x)) (kk : JJ X nL D σ n ls (.int x :: st) Q) : JJ X nL D σ pc ls st Q := by
  subst hn
  obtain ⟨p, l9, e, R, s, m, args, below, meth, c, cells, slots, A⟩ := X
  obtain ⟨rfl, hx, hb, hml, hown, hts, hK, hi, hNs, hA, hlk, hret, hfr, hlo, hce, hsl⟩ := F
  intro H locs lsA hP hS hl
  exact lv_iload_n hx hb d rfl (lv_at hl q h) (kk H locs lsA hP hS hl)
theorem j_iload {X : Cx} {l : Launch} {nL : Nat} {D : Dm} {cc : ByteArray} {own : String} {dep : Nat} {ret : Option FieldType} {σ : Mm} {pc : Nat} {ls : List (Nat × Value)} {st : List Value} {Q : State → Prop} (F : Fx X l nL D cc own dep ret) {k : Nat} {x : Int32} (d : decode cc pc = .ok (.iload k, 2)) (n : Nat) (hn : pc + 2 = n) (q : Nat) (h : ls[q]? = some (k, .int x)) (kk : JJ X nL D σ n ls (.int x :: st) Q) : JJ X nL D σ pc ls st Q := by
  subst hn
  obtain ⟨p, l9, e, R, s, m, args, below, meth, c, cells, slots, A⟩ := X
  obtain ⟨rfl, hx, hb, hml, hown, hts, hK, hi, hNs, hA, hlk, hret, hfr, hlo, hce, hsl⟩ := F
  intro H locs lsA hP hS hl
  exact lv_iload hx hb d (lv_at hl q h) (kk H locs lsA hP hS hl)
theorem j_lload_n {X : Cx} {l : Launch} {nL : Nat} {D : Dm} {cc : ByteArray} {own : String} {dep : Nat} {ret : Option FieldType} {σ : Mm} {pc : Nat} {ls : List (Nat × Value)} {st : List Value} {Q : State → Prop} (F : Fx X l nL D cc own dep ret) {k : Fin 4} {x : Int64} (d : decode cc pc = .ok (.lload_n k, 1)) (n : Nat) (hn : pc + 1 = n) (q : Nat) (h : ls[q]? = some ((k : Nat), .long x)) (kk : JJ X nL D σ n ls (.long x :: st) Q) : JJ X nL D σ pc ls st Q := by
  subst hn
  obtain ⟨p, l9, e, R, s, m, args, below, meth, c, cells, slots, A⟩ := X
  obtain ⟨rfl, hx, hb, hml, hown, hts, hK, hi, hNs, hA, hlk, hret, hfr, hlo, hce, hsl⟩ := F
  intro H locs lsA hP hS hl
  exact lv_lload_n hx hb d rfl (lv_at hl q h) (kk H locs lsA hP hS hl)
theorem j_lload {X : Cx} {l : Launch} {nL : Nat} {D : Dm} {cc : ByteArray} {own : String} {dep : Nat} {ret : Option FieldType} {σ : Mm} {pc : Nat} {ls : List (Nat × Value)} {st : List Value} {Q : State → Prop} (F : Fx X l nL D cc own dep ret) {k : Nat} {x : Int64} (d : decode cc pc = .ok (.lload k, 2)) (n : Nat) (hn : pc + 2 = n) (q : Nat) (h : ls[q]? = some (k, .long x)) (kk : JJ X nL D σ n ls (.long x :: st) Q) : JJ X nL D σ pc ls st Q := by
  subst hn
  obtain ⟨p, l9, e, R, s, m, args, below, meth, c, cells, slots, A⟩ := X
  obtain ⟨rfl, hx, hb, hml, hown, hts, hK, hi, hNs, hA, hlk, hret, hfr, hlo, hce, hsl⟩ := F
  intro H locs lsA hP hS hl
  exact lv_lload hx hb d (lv_at hl q h) (kk H locs lsA hP hS hl)
theorem j_aload_n {X : Cx} {l : Launch} {nL : Nat} {D : Dm} {cc : ByteArray} {own : String} {dep : Nat} {ret : Option FieldType} {σ : Mm} {pc : Nat} {ls : List (Nat × Value)} {st : List Value} {Q : State → Prop} (F : Fx X l nL D cc own dep ret) {k : Fin 4} {x : Nat} (d : decode cc pc = .ok (.aload_n k, 1)) (n : Nat) (hn : pc + 1 = n) (q : Nat) (h : ls[q]? = some ((k : Nat), .ref x)) (kk : JJ X nL D σ n ls (.ref x :: st) Q) : JJ X nL D σ pc ls st Q := by
  subst hn
  obtain ⟨p, l9, e, R, s, m, args, below, meth, c, cells, slots, A⟩ := X
  obtain ⟨rfl, hx, hb, hml, hown, hts, hK, hi, hNs, hA, hlk, hret, hfr, hlo, hce, hsl⟩ := F
  intro H locs lsA hP hS hl
  exact lv_aload_n hx hb d rfl (lv_at hl q h) (kk H locs lsA hP hS hl)
theorem j_aload {X : Cx} {l : Launch} {nL : Nat} {D : Dm} {cc : ByteArray} {own : String} {dep : Nat} {ret : Option FieldType} {σ : Mm} {pc : Nat} {ls : List (Nat × Value)} {st : List Value} {Q : State → Prop} (F : Fx X l nL D cc own dep ret) {k : Nat} {x : Nat} (d : decode cc pc = .ok (.aload k, 2)) (n : Nat) (hn : pc + 2 = n) (q : Nat) (h : ls[q]? = some (k, .ref x)) (kk : JJ X nL D σ n ls (.ref x :: st) Q) : JJ X nL D σ pc ls st Q := by
  subst hn
  obtain ⟨p, l9, e, R, s, m, args, below, meth, c, cells, slots, A⟩ := X
  obtain ⟨rfl, hx, hb, hml, hown, hts, hK, hi, hNs, hA, hlk, hret, hfr, hlo, hce, hsl⟩ := F
  intro H locs lsA hP hS hl
  exact lv_aload hx hb d (lv_at hl q h) (kk H locs lsA hP hS hl)
theorem j_istore_n {X : Cx} {l : Launch} {nL : Nat} {D : Dm} {cc : ByteArray} {own : String} {dep : Nat} {ret : Option FieldType} {σ : Mm} {pc : Nat} {ls : List (Nat × Value)} {st : List Value} {Q : State → Prop} (F : Fx X l nL D cc own dep ret) {k : Fin 4} {x : Int32} (d : decode cc pc = .ok (.istore_n k, 1)) (n : Nat) (hn : pc + 1 = n) (i : Nat) (hki : (k : Nat) = i) (hn2 : i < nL) (ls' : List (Nat × Value)) (hls : (i, Value.int x) :: ls.filter (fun q => !(q.1 == i) && !(q.1 + 1 == i && q.2.category == 2)) = ls') (kk : JJ X nL D σ n ls' st Q) : JJ X nL D σ pc ls (.int x :: st) Q := by
  subst hn
  obtain ⟨p, l9, e, R, s, m, args, below, meth, c, cells, slots, A⟩ := X
  obtain ⟨rfl, hx, hb, hml, hown, hts, hK, hi, hNs, hA, hlk, hret, hfr, hlo, hce, hsl⟩ := F
  intro H locs lsA hP hS hl
  exact lv_istore_n hx hb d hki hl hn2 hls (fun lsA hl => kk H locs lsA hP hS hl)
theorem j_istore {X : Cx} {l : Launch} {nL : Nat} {D : Dm} {cc : ByteArray} {own : String} {dep : Nat} {ret : Option FieldType} {σ : Mm} {pc : Nat} {ls : List (Nat × Value)} {st : List Value} {Q : State → Prop} (F : Fx X l nL D cc own dep ret) {i : Nat} {x : Int32} (d : decode cc pc = .ok (.istore i, 2)) (n : Nat) (hn : pc + 2 = n) (hn2 : i < nL) (ls' : List (Nat × Value)) (hls : (i, Value.int x) :: ls.filter (fun q => !(q.1 == i) && !(q.1 + 1 == i && q.2.category == 2)) = ls') (kk : JJ X nL D σ n ls' st Q) : JJ X nL D σ pc ls (.int x :: st) Q := by
  subst hn
  obtain ⟨p, l9, e, R, s, m, args, below, meth, c, cells, slots, A⟩ := X
  obtain ⟨rfl, hx, hb, hml, hown, hts, hK, hi, hNs, hA, hlk, hret, hfr, hlo, hce, hsl⟩ := F
  intro H locs lsA hP hS hl
  exact lv_istore hx hb d hl hn2 hls (fun lsA hl => kk H locs lsA hP hS hl)
theorem j_astore_n {X : Cx} {l : Launch} {nL : Nat} {D : Dm} {cc : ByteArray} {own : String} {dep : Nat} {ret : Option FieldType} {σ : Mm} {pc : Nat} {ls : List (Nat × Value)} {st : List Value} {Q : State → Prop} (F : Fx X l nL D cc own dep ret) {k : Fin 4} {x : Nat} (d : decode cc pc = .ok (.astore_n k, 1)) (n : Nat) (hn : pc + 1 = n) (i : Nat) (hki : (k : Nat) = i) (hn2 : i < nL) (ls' : List (Nat × Value)) (hls : (i, Value.ref x) :: ls.filter (fun q => !(q.1 == i) && !(q.1 + 1 == i && q.2.category == 2)) = ls') (kk : JJ X nL D σ n ls' st Q) : JJ X nL D σ pc ls (.ref x :: st) Q := by
  subst hn
  obtain ⟨p, l9, e, R, s, m, args, below, meth, c, cells, slots, A⟩ := X
  obtain ⟨rfl, hx, hb, hml, hown, hts, hK, hi, hNs, hA, hlk, hret, hfr, hlo, hce, hsl⟩ := F
  intro H locs lsA hP hS hl
  exact lv_astore_n hx hb d hki hl hn2 hls (fun lsA hl => kk H locs lsA hP hS hl)
theorem j_astore {X : Cx} {l : Launch} {nL : Nat} {D : Dm} {cc : ByteArray} {own : String} {dep : Nat} {ret : Option FieldType} {σ : Mm} {pc : Nat} {ls : List (Nat × Value)} {st : List Value} {Q : State → Prop} (F : Fx X l nL D cc own dep ret) {i : Nat} {x : Nat} (d : decode cc pc = .ok (.astore i, 2)) (n : Nat) (hn : pc + 2 = n) (hn2 : i < nL) (ls' : List (Nat × Value)) (hls : (i, Value.ref x) :: ls.filter (fun q => !(q.1 == i) && !(q.1 + 1 == i && q.2.category == 2)) = ls') (kk : JJ X nL D σ n ls' st Q) : JJ X nL D σ pc ls (.ref x :: st) Q := by
  subst hn
  obtain ⟨p, l9, e, R, s, m, args, below, meth, c, cells, slots, A⟩ := X
  obtain ⟨rfl, hx, hb, hml, hown, hts, hK, hi, hNs, hA, hlk, hret, hfr, hlo, hce, hsl⟩ := F
  intro H locs lsA hP hS hl
  exact lv_astore hx hb d hl hn2 hls (fun lsA hl => kk H locs lsA hP hS hl)
theorem j_lstore_n {X : Cx} {l : Launch} {nL : Nat} {D : Dm} {cc : ByteArray} {own : String} {dep : Nat} {ret : Option FieldType} {σ : Mm} {pc : Nat} {ls : List (Nat × Value)} {st : List Value} {Q : State → Prop} (F : Fx X l nL D cc own dep ret) {k : Fin 4} {x : Int64} (d : decode cc pc = .ok (.lstore_n k, 1)) (n : Nat) (hn : pc + 1 = n) (i : Nat) (hki : (k : Nat) = i) (hn2 : i + 1 < nL) (ls' : List (Nat × Value)) (hls : (i, Value.long x) :: ls.filter (fun q => !(q.1 == i) && (!(q.1 == i + 1) && !(q.1 + 1 == i && q.2.category == 2))) = ls') (kk : JJ X nL D σ n ls' st Q) : JJ X nL D σ pc ls (.long x :: st) Q := by
  subst hn
  obtain ⟨p, l9, e, R, s, m, args, below, meth, c, cells, slots, A⟩ := X
  obtain ⟨rfl, hx, hb, hml, hown, hts, hK, hi, hNs, hA, hlk, hret, hfr, hlo, hce, hsl⟩ := F
  intro H locs lsA hP hS hl
  exact lv_lstore_n hx hb d hki hl hn2 hls (fun lsA hl => kk H locs lsA hP hS hl)
theorem j_iinc {X : Cx} {l : Launch} {nL : Nat} {D : Dm} {cc : ByteArray} {own : String} {dep : Nat} {ret : Option FieldType} {σ : Mm} {pc : Nat} {ls : List (Nat × Value)} {st : List Value} {Q : State → Prop} (F : Fx X l nL D cc own dep ret) {i : Nat} {k : Int} {x : Int32} (d : decode cc pc = .ok (.iinc i k, 3)) (n : Nat) (hn : pc + 3 = n) (q : Nat) (hq : ls[q]? = some (i, .int x)) (v : Int32) (hv : x + Int32.ofInt k = v) (hn2 : i < nL) (ls' : List (Nat × Value)) (hls : (i, Value.int v) :: ls.filter (fun q => !(q.1 == i) && !(q.1 + 1 == i && q.2.category == 2)) = ls') (kk : JJ X nL D σ n ls' st Q) : JJ X nL D σ pc ls st Q := by
  subst hn
  obtain ⟨p, l9, e, R, s, m, args, below, meth, c, cells, slots, A⟩ := X
  obtain ⟨rfl, hx, hb, hml, hown, hts, hK, hi, hNs, hA, hlk, hret, hfr, hlo, hce, hsl⟩ := F
  intro H locs lsA hP hS hl
  exact lv_iinc (k := q) hx hb d hl hq hv hn2 hls (fun lsA hl => kk H locs lsA hP hS hl)
theorem j_pick {X : Cx} {nL : Nat} {D : Dm} {σ : Mm} {pc : Nat} {ls : List (Nat × Value)} {st : List Value} {Q : State → Prop} (ks : List Nat) (ls' : List (Nat × Value)) (h : lv_pick ls ks = ls') (kk : JJ X nL D σ pc ls' st Q) : JJ X nL D σ pc ls st Q := by
  obtain ⟨p, l9, e, R, s, m, args, below, meth, c, cells, slots, A⟩ := X
  intro H locs lsA hP hS hl
  exact kk H locs lsA hP hS (lv_sub hl ks h)
theorem j_iadd {X : Cx} {l : Launch} {nL : Nat} {D : Dm} {cc : ByteArray} {own : String} {dep : Nat} {ret : Option FieldType} {σ : Mm} {pc : Nat} {ls : List (Nat × Value)} {st : List Value} {Q : State → Prop} (F : Fx X l nL D cc own dep ret) {x y : Int32} (d : decode cc pc = .ok (.iadd, 1)) (n : Nat) (hn : pc + 1 = n) (kk : JJ X nL D σ n ls (.int (x + y) :: st) Q) : JJ X nL D σ pc ls (.int y :: .int x :: st) Q := by
  subst hn
  obtain ⟨p, l9, e, R, s, m, args, below, meth, c, cells, slots, A⟩ := X
  obtain ⟨rfl, hx, hb, hml, hown, hts, hK, hi, hNs, hA, hlk, hret, hfr, hlo, hce, hsl⟩ := F
  intro H locs lsA hP hS hl
  exact lv_iadd hx hb d (kk H locs lsA hP hS hl)
theorem j_isub {X : Cx} {l : Launch} {nL : Nat} {D : Dm} {cc : ByteArray} {own : String} {dep : Nat} {ret : Option FieldType} {σ : Mm} {pc : Nat} {ls : List (Nat × Value)} {st : List Value} {Q : State → Prop} (F : Fx X l nL D cc own dep ret) {x y : Int32} (d : decode cc pc = .ok (.isub, 1)) (n : Nat) (hn : pc + 1 = n) (kk : JJ X nL D σ n ls (.int (x - y) :: st) Q) : JJ X nL D σ pc ls (.int y :: .int x :: st) Q := by
  subst hn
  obtain ⟨p, l9, e, R, s, m, args, below, meth, c, cells, slots, A⟩ := X
  obtain ⟨rfl, hx, hb, hml, hown, hts, hK, hi, hNs, hA, hlk, hret, hfr, hlo, hce, hsl⟩ := F
  intro H locs lsA hP hS hl
  exact lv_isub hx hb d (kk H locs lsA hP hS hl)
theorem j_imul {X : Cx} {l : Launch} {nL : Nat} {D : Dm} {cc : ByteArray} {own : String} {dep : Nat} {ret : Option FieldType} {σ : Mm} {pc : Nat} {ls : List (Nat × Value)} {st : List Value} {Q : State → Prop} (F : Fx X l nL D cc own dep ret) {x y : Int32} (d : decode cc pc = .ok (.imul, 1)) (n : Nat) (hn : pc + 1 = n) (kk : JJ X nL D σ n ls (.int (x * y) :: st) Q) : JJ X nL D σ pc ls (.int y :: .int x :: st) Q := by
  subst hn
  obtain ⟨p, l9, e, R, s, m, args, below, meth, c, cells, slots, A⟩ := X
  obtain ⟨rfl, hx, hb, hml, hown, hts, hK, hi, hNs, hA, hlk, hret, hfr, hlo, hce, hsl⟩ := F
  intro H locs lsA hP hS hl
  exact lv_imul hx hb d (kk H locs lsA hP hS hl)
theorem j_iand {X : Cx} {l : Launch} {nL : Nat} {D : Dm} {cc : ByteArray} {own : String} {dep : Nat} {ret : Option FieldType} {σ : Mm} {pc : Nat} {ls : List (Nat × Value)} {st : List Value} {Q : State → Prop} (F : Fx X l nL D cc own dep ret) {x y : Int32} (d : decode cc pc = .ok (.iand, 1)) (n : Nat) (hn : pc + 1 = n) (kk : JJ X nL D σ n ls (.int (x &&& y) :: st) Q) : JJ X nL D σ pc ls (.int y :: .int x :: st) Q := by
  subst hn
  obtain ⟨p, l9, e, R, s, m, args, below, meth, c, cells, slots, A⟩ := X
  obtain ⟨rfl, hx, hb, hml, hown, hts, hK, hi, hNs, hA, hlk, hret, hfr, hlo, hce, hsl⟩ := F
  intro H locs lsA hP hS hl
  exact lv_iand hx hb d (kk H locs lsA hP hS hl)
theorem j_ior {X : Cx} {l : Launch} {nL : Nat} {D : Dm} {cc : ByteArray} {own : String} {dep : Nat} {ret : Option FieldType} {σ : Mm} {pc : Nat} {ls : List (Nat × Value)} {st : List Value} {Q : State → Prop} (F : Fx X l nL D cc own dep ret) {x y : Int32} (d : decode cc pc = .ok (.ior, 1)) (n : Nat) (hn : pc + 1 = n) (kk : JJ X nL D σ n ls (.int (x ||| y) :: st) Q) : JJ X nL D σ pc ls (.int y :: .int x :: st) Q := by
  subst hn
  obtain ⟨p, l9, e, R, s, m, args, below, meth, c, cells, slots, A⟩ := X
  obtain ⟨rfl, hx, hb, hml, hown, hts, hK, hi, hNs, hA, hlk, hret, hfr, hlo, hce, hsl⟩ := F
  intro H locs lsA hP hS hl
  exact lv_ior hx hb d (kk H locs lsA hP hS hl)
theorem j_ixor {X : Cx} {l : Launch} {nL : Nat} {D : Dm} {cc : ByteArray} {own : String} {dep : Nat} {ret : Option FieldType} {σ : Mm} {pc : Nat} {ls : List (Nat × Value)} {st : List Value} {Q : State → Prop} (F : Fx X l nL D cc own dep ret) {x y : Int32} (d : decode cc pc = .ok (.ixor, 1)) (n : Nat) (hn : pc + 1 = n) (kk : JJ X nL D σ n ls (.int (x ^^^ y) :: st) Q) : JJ X nL D σ pc ls (.int y :: .int x :: st) Q := by
  subst hn
  obtain ⟨p, l9, e, R, s, m, args, below, meth, c, cells, slots, A⟩ := X
  obtain ⟨rfl, hx, hb, hml, hown, hts, hK, hi, hNs, hA, hlk, hret, hfr, hlo, hce, hsl⟩ := F
  intro H locs lsA hP hS hl
  exact lv_ixor hx hb d (kk H locs lsA hP hS hl)
theorem j_ishl {X : Cx} {l : Launch} {nL : Nat} {D : Dm} {cc : ByteArray} {own : String} {dep : Nat} {ret : Option FieldType} {σ : Mm} {pc : Nat} {ls : List (Nat × Value)} {st : List Value} {Q : State → Prop} (F : Fx X l nL D cc own dep ret) {x y : Int32} (d : decode cc pc = .ok (.ishl, 1)) (n : Nat) (hn : pc + 1 = n) (kk : JJ X nL D σ n ls (.int (x <<< (y &&& 31)) :: st) Q) : JJ X nL D σ pc ls (.int y :: .int x :: st) Q := by
  subst hn
  obtain ⟨p, l9, e, R, s, m, args, below, meth, c, cells, slots, A⟩ := X
  obtain ⟨rfl, hx, hb, hml, hown, hts, hK, hi, hNs, hA, hlk, hret, hfr, hlo, hce, hsl⟩ := F
  intro H locs lsA hP hS hl
  exact lv_ishl hx hb d (kk H locs lsA hP hS hl)
theorem j_ishr {X : Cx} {l : Launch} {nL : Nat} {D : Dm} {cc : ByteArray} {own : String} {dep : Nat} {ret : Option FieldType} {σ : Mm} {pc : Nat} {ls : List (Nat × Value)} {st : List Value} {Q : State → Prop} (F : Fx X l nL D cc own dep ret) {x y : Int32} (d : decode cc pc = .ok (.ishr, 1)) (n : Nat) (hn : pc + 1 = n) (kk : JJ X nL D σ n ls (.int (x >>> (y &&& 31)) :: st) Q) : JJ X nL D σ pc ls (.int y :: .int x :: st) Q := by
  subst hn
  obtain ⟨p, l9, e, R, s, m, args, below, meth, c, cells, slots, A⟩ := X
  obtain ⟨rfl, hx, hb, hml, hown, hts, hK, hi, hNs, hA, hlk, hret, hfr, hlo, hce, hsl⟩ := F
  intro H locs lsA hP hS hl
  exact lv_ishr hx hb d (kk H locs lsA hP hS hl)
theorem j_iushr {X : Cx} {l : Launch} {nL : Nat} {D : Dm} {cc : ByteArray} {own : String} {dep : Nat} {ret : Option FieldType} {σ : Mm} {pc : Nat} {ls : List (Nat × Value)} {st : List Value} {Q : State → Prop} (F : Fx X l nL D cc own dep ret) {x y : Int32} (d : decode cc pc = .ok (.iushr, 1)) (n : Nat) (hn : pc + 1 = n) (kk : JJ X nL D σ n ls (.int ((x.toUInt32 >>> (y.toUInt32 &&& Int32.toUInt32 31)).toInt32) :: st) Q) : JJ X nL D σ pc ls (.int y :: .int x :: st) Q := by
  subst hn
  obtain ⟨p, l9, e, R, s, m, args, below, meth, c, cells, slots, A⟩ := X
  obtain ⟨rfl, hx, hb, hml, hown, hts, hK, hi, hNs, hA, hlk, hret, hfr, hlo, hce, hsl⟩ := F
  intro H locs lsA hP hS hl
  exact lv_iushr hx hb d rfl (kk H locs lsA hP hS hl)
theorem j_ineg {X : Cx} {l : Launch} {nL : Nat} {D : Dm} {cc : ByteArray} {own : String} {dep : Nat} {ret : Option FieldType} {σ : Mm} {pc : Nat} {ls : List (Nat × Value)} {st : List Value} {Q : State → Prop} (F : Fx X l nL D cc own dep ret) {x : Int32} (d : decode cc pc = .ok (.ineg, 1)) (n : Nat) (hn : pc + 1 = n) (kk : JJ X nL D σ n ls (.int (-x) :: st) Q) : JJ X nL D σ pc ls (.int x :: st) Q := by
  subst hn
  obtain ⟨p, l9, e, R, s, m, args, below, meth, c, cells, slots, A⟩ := X
  obtain ⟨rfl, hx, hb, hml, hown, hts, hK, hi, hNs, hA, hlk, hret, hfr, hlo, hce, hsl⟩ := F
  intro H locs lsA hP hS hl
  exact lv_ineg hx hb d (kk H locs lsA hP hS hl)
theorem j_idiv {X : Cx} {l : Launch} {nL : Nat} {D : Dm} {cc : ByteArray} {own : String} {dep : Nat} {ret : Option FieldType} {σ : Mm} {pc : Nat} {ls : List (Nat × Value)} {st : List Value} {Q : State → Prop} (F : Fx X l nL D cc own dep ret) {x y : Int32} (d : decode cc pc = .ok (.idiv, 1)) (n : Nat) (hn : pc + 1 = n) (hne : ¬ y = 0) (kk : JJ X nL D σ n ls (.int (x / y) :: st) Q) : JJ X nL D σ pc ls (.int y :: .int x :: st) Q := by
  subst hn
  obtain ⟨p, l9, e, R, s, m, args, below, meth, c, cells, slots, A⟩ := X
  obtain ⟨rfl, hx, hb, hml, hown, hts, hK, hi, hNs, hA, hlk, hret, hfr, hlo, hce, hsl⟩ := F
  intro H locs lsA hP hS hl
  exact lv_idiv hx hb d hne (kk H locs lsA hP hS hl)
theorem j_irem {X : Cx} {l : Launch} {nL : Nat} {D : Dm} {cc : ByteArray} {own : String} {dep : Nat} {ret : Option FieldType} {σ : Mm} {pc : Nat} {ls : List (Nat × Value)} {st : List Value} {Q : State → Prop} (F : Fx X l nL D cc own dep ret) {x y : Int32} (d : decode cc pc = .ok (.irem, 1)) (n : Nat) (hn : pc + 1 = n) (hne : ¬ y = 0) (kk : JJ X nL D σ n ls (.int (rm x y) :: st) Q) : JJ X nL D σ pc ls (.int y :: .int x :: st) Q := by
  subst hn
  obtain ⟨p, l9, e, R, s, m, args, below, meth, c, cells, slots, A⟩ := X
  obtain ⟨rfl, hx, hb, hml, hown, hts, hK, hi, hNs, hA, hlk, hret, hfr, hlo, hce, hsl⟩ := F
  intro H locs lsA hP hS hl
  exact lv_irem hx hb d hne (kk H locs lsA hP hS hl)
theorem j_ladd {X : Cx} {l : Launch} {nL : Nat} {D : Dm} {cc : ByteArray} {own : String} {dep : Nat} {ret : Option FieldType} {σ : Mm} {pc : Nat} {ls : List (Nat × Value)} {st : List Value} {Q : State → Prop} (F : Fx X l nL D cc own dep ret) {x y : Int64} (d : decode cc pc = .ok (.ladd, 1)) (n : Nat) (hn : pc + 1 = n) (kk : JJ X nL D σ n ls (.long (x + y) :: st) Q) : JJ X nL D σ pc ls (.long y :: .long x :: st) Q := by
  subst hn
  obtain ⟨p, l9, e, R, s, m, args, below, meth, c, cells, slots, A⟩ := X
  obtain ⟨rfl, hx, hb, hml, hown, hts, hK, hi, hNs, hA, hlk, hret, hfr, hlo, hce, hsl⟩ := F
  intro H locs lsA hP hS hl
  exact lv_ladd hx hb d (kk H locs lsA hP hS hl)
theorem j_lsub {X : Cx} {l : Launch} {nL : Nat} {D : Dm} {cc : ByteArray} {own : String} {dep : Nat} {ret : Option FieldType} {σ : Mm} {pc : Nat} {ls : List (Nat × Value)} {st : List Value} {Q : State → Prop} (F : Fx X l nL D cc own dep ret) {x y : Int64} (d : decode cc pc = .ok (.lsub, 1)) (n : Nat) (hn : pc + 1 = n) (kk : JJ X nL D σ n ls (.long (x - y) :: st) Q) : JJ X nL D σ pc ls (.long y :: .long x :: st) Q := by
  subst hn
  obtain ⟨p, l9, e, R, s, m, args, below, meth, c, cells, slots, A⟩ := X
  obtain ⟨rfl, hx, hb, hml, hown, hts, hK, hi, hNs, hA, hlk, hret, hfr, hlo, hce, hsl⟩ := F
  intro H locs lsA hP hS hl
  exact lv_lsub hx hb d (kk H locs lsA hP hS hl)
theorem j_lmul {X : Cx} {l : Launch} {nL : Nat} {D : Dm} {cc : ByteArray} {own : String} {dep : Nat} {ret : Option FieldType} {σ : Mm} {pc : Nat} {ls : List (Nat × Value)} {st : List Value} {Q : State → Prop} (F : Fx X l nL D cc own dep ret) {x y : Int64} (d : decode cc pc = .ok (.lmul, 1)) (n : Nat) (hn : pc + 1 = n) (kk : JJ X nL D σ n ls (.long (x * y) :: st) Q) : JJ X nL D σ pc ls (.long y :: .long x :: st) Q := by
  subst hn
  obtain ⟨p, l9, e, R, s, m, args, below, meth, c, cells, slots, A⟩ := X
  obtain ⟨rfl, hx, hb, hml, hown, hts, hK, hi, hNs, hA, hlk, hret, hfr, hlo, hce, hsl⟩ := F
  intro H locs lsA hP hS hl
  exact lv_lmul hx hb d (kk H locs lsA hP hS hl)
theorem j_land {X : Cx} {l : Launch} {nL : Nat} {D : Dm} {cc : ByteArray} {own : String} {dep : Nat} {ret : Option FieldType} {σ : Mm} {pc : Nat} {ls : List (Nat × Value)} {st : List Value} {Q : State → Prop} (F : Fx X l nL D cc own dep ret) {x y : Int64} (d : decode cc pc = .ok (.land, 1)) (n : Nat) (hn : pc + 1 = n) (kk : JJ X nL D σ n ls (.long (x &&& y) :: st) Q) : JJ X nL D σ pc ls (.long y :: .long x :: st) Q := by
  subst hn
  obtain ⟨p, l9, e, R, s, m, args, below, meth, c, cells, slots, A⟩ := X
  obtain ⟨rfl, hx, hb, hml, hown, hts, hK, hi, hNs, hA, hlk, hret, hfr, hlo, hce, hsl⟩ := F
  intro H locs lsA hP hS hl
  exact lv_land hx hb d (kk H locs lsA hP hS hl)
theorem j_lor {X : Cx} {l : Launch} {nL : Nat} {D : Dm} {cc : ByteArray} {own : String} {dep : Nat} {ret : Option FieldType} {σ : Mm} {pc : Nat} {ls : List (Nat × Value)} {st : List Value} {Q : State → Prop} (F : Fx X l nL D cc own dep ret) {x y : Int64} (d : decode cc pc = .ok (.lor, 1)) (n : Nat) (hn : pc + 1 = n) (kk : JJ X nL D σ n ls (.long (x ||| y) :: st) Q) : JJ X nL D σ pc ls (.long y :: .long x :: st) Q := by
  subst hn
  obtain ⟨p, l9, e, R, s, m, args, below, meth, c, cells, slots, A⟩ := X
  obtain ⟨rfl, hx, hb, hml, hown, hts, hK, hi, hNs, hA, hlk, hret, hfr, hlo, hce, hsl⟩ := F
  intro H locs lsA hP hS hl
  exact lv_lor hx hb d (kk H locs lsA hP hS hl)
theorem j_lrem {X : Cx} {l : Launch} {nL : Nat} {D : Dm} {cc : ByteArray} {own : String} {dep : Nat} {ret : Option FieldType} {σ : Mm} {pc : Nat} {ls : List (Nat × Value)} {st : List Value} {Q : State → Prop} (F : Fx X l nL D cc own dep ret) {x y : Int64} (d : decode cc pc = .ok (.lrem, 1)) (n : Nat) (hn : pc + 1 = n) (hne : ¬ y = 0) (kk : JJ X nL D σ n ls (.long (rmL x y) :: st) Q) : JJ X nL D σ pc ls (.long y :: .long x :: st) Q := by
  subst hn
  obtain ⟨p, l9, e, R, s, m, args, below, meth, c, cells, slots, A⟩ := X
  obtain ⟨rfl, hx, hb, hml, hown, hts, hK, hi, hNs, hA, hlk, hret, hfr, hlo, hce, hsl⟩ := F
  intro H locs lsA hP hS hl
  exact lv_lrem hx hb d hne (kk H locs lsA hP hS hl)
theorem j_lushr {X : Cx} {l : Launch} {nL : Nat} {D : Dm} {cc : ByteArray} {own : String} {dep : Nat} {ret : Option FieldType} {σ : Mm} {pc : Nat} {ls : List (Nat × Value)} {st : List Value} {Q : State → Prop} (F : Fx X l nL D cc own dep ret) {x : Int64} {y : Int32} (d : decode cc pc = .ok (.lushr, 1)) (n : Nat) (hn : pc + 1 = n) (kk : JJ X nL D σ n ls (.long ((x.toUInt64 >>> (y.toInt64.toUInt64 &&& Int64.toUInt64 63)).toInt64) :: st) Q) : JJ X nL D σ pc ls (.int y :: .long x :: st) Q := by
  subst hn
  obtain ⟨p, l9, e, R, s, m, args, below, meth, c, cells, slots, A⟩ := X
  obtain ⟨rfl, hx, hb, hml, hown, hts, hK, hi, hNs, hA, hlk, hret, hfr, hlo, hce, hsl⟩ := F
  intro H locs lsA hP hS hl
  exact lv_lushr hx hb d rfl (kk H locs lsA hP hS hl)
theorem j_lshl {X : Cx} {l : Launch} {nL : Nat} {D : Dm} {cc : ByteArray} {own : String} {dep : Nat} {ret : Option FieldType} {σ : Mm} {pc : Nat} {ls : List (Nat × Value)} {st : List Value} {Q : State → Prop} (F : Fx X l nL D cc own dep ret) {x : Int64} {y : Int32} (d : decode cc pc = .ok (.lshl, 1)) (n : Nat) (hn : pc + 1 = n) (kk : JJ X nL D σ n ls (.long (x <<< (y.toInt64 &&& 63)) :: st) Q) : JJ X nL D σ pc ls (.int y :: .long x :: st) Q := by
  subst hn
  obtain ⟨p, l9, e, R, s, m, args, below, meth, c, cells, slots, A⟩ := X
  obtain ⟨rfl, hx, hb, hml, hown, hts, hK, hi, hNs, hA, hlk, hret, hfr, hlo, hce, hsl⟩ := F
  intro H locs lsA hP hS hl
  exact lv_lshl hx hb d rfl (kk H locs lsA hP hS hl)
theorem j_lcmp {X : Cx} {l : Launch} {nL : Nat} {D : Dm} {cc : ByteArray} {own : String} {dep : Nat} {ret : Option FieldType} {σ : Mm} {pc : Nat} {ls : List (Nat × Value)} {st : List Value} {Q : State → Prop} (F : Fx X l nL D cc own dep ret) {x y : Int64} (d : decode cc pc = .ok (.lcmp, 1)) (n : Nat) (hn : pc + 1 = n) (kk : JJ X nL D σ n ls (.int (lg_cmp x y) :: st) Q) : JJ X nL D σ pc ls (.long y :: .long x :: st) Q := by
  subst hn
  obtain ⟨p, l9, e, R, s, m, args, below, meth, c, cells, slots, A⟩ := X
  obtain ⟨rfl, hx, hb, hml, hown, hts, hK, hi, hNs, hA, hlk, hret, hfr, hlo, hce, hsl⟩ := F
  intro H locs lsA hP hS hl
  exact W.lcmp hx hb d (kk H locs lsA hP hS hl)
theorem j_i2l {X : Cx} {l : Launch} {nL : Nat} {D : Dm} {cc : ByteArray} {own : String} {dep : Nat} {ret : Option FieldType} {σ : Mm} {pc : Nat} {ls : List (Nat × Value)} {st : List Value} {Q : State → Prop} (F : Fx X l nL D cc own dep ret) {x : Int32} (d : decode cc pc = .ok (.i2l, 1)) (n : Nat) (hn : pc + 1 = n) (kk : JJ X nL D σ n ls (.long x.toInt64 :: st) Q) : JJ X nL D σ pc ls (.int x :: st) Q := by
  subst hn
  obtain ⟨p, l9, e, R, s, m, args, below, meth, c, cells, slots, A⟩ := X
  obtain ⟨rfl, hx, hb, hml, hown, hts, hK, hi, hNs, hA, hlk, hret, hfr, hlo, hce, hsl⟩ := F
  intro H locs lsA hP hS hl
  exact lv_i2l hx hb d rfl (kk H locs lsA hP hS hl)
theorem j_dup {X : Cx} {l : Launch} {nL : Nat} {D : Dm} {cc : ByteArray} {own : String} {dep : Nat} {ret : Option FieldType} {σ : Mm} {pc : Nat} {ls : List (Nat × Value)} {st : List Value} {Q : State → Prop} (F : Fx X l nL D cc own dep ret) {v : Value} (d : decode cc pc = .ok (.dup, 1)) (n : Nat) (hn : pc + 1 = n) (hc : v.category = 1) (kk : JJ X nL D σ n ls (v :: v :: st) Q) : JJ X nL D σ pc ls (v :: st) Q := by
  subst hn
  obtain ⟨p, l9, e, R, s, m, args, below, meth, c, cells, slots, A⟩ := X
  obtain ⟨rfl, hx, hb, hml, hown, hts, hK, hi, hNs, hA, hlk, hret, hfr, hlo, hce, hsl⟩ := F
  intro H locs lsA hP hS hl
  exact lv_dup hx hb d hc (kk H locs lsA hP hS hl)
theorem j_dup2 {X : Cx} {l : Launch} {nL : Nat} {D : Dm} {cc : ByteArray} {own : String} {dep : Nat} {ret : Option FieldType} {σ : Mm} {pc : Nat} {ls : List (Nat × Value)} {st : List Value} {Q : State → Prop} (F : Fx X l nL D cc own dep ret) {v u : Value} (d : decode cc pc = .ok (.dup2, 1)) (n : Nat) (hn : pc + 1 = n) (hc : v.category = 1) (hc2 : u.category = 1) (kk : JJ X nL D σ n ls (v :: u :: v :: u :: st) Q) : JJ X nL D σ pc ls (v :: u :: st) Q := by
  subst hn
  obtain ⟨p, l9, e, R, s, m, args, below, meth, c, cells, slots, A⟩ := X
  obtain ⟨rfl, hx, hb, hml, hown, hts, hK, hi, hNs, hA, hlk, hret, hfr, hlo, hce, hsl⟩ := F
  intro H locs lsA hP hS hl
  exact lv_dup2_11 hx hb d hc hc2 (kk H locs lsA hP hS hl)
theorem j_pop {X : Cx} {l : Launch} {nL : Nat} {D : Dm} {cc : ByteArray} {own : String} {dep : Nat} {ret : Option FieldType} {σ : Mm} {pc : Nat} {ls : List (Nat × Value)} {st : List Value} {Q : State → Prop} (F : Fx X l nL D cc own dep ret) {v : Value} (d : decode cc pc = .ok (.pop, 1)) (n : Nat) (hn : pc + 1 = n) (hc : v.category = 1) (kk : JJ X nL D σ n ls st Q) : JJ X nL D σ pc ls (v :: st) Q := by
  subst hn
  obtain ⟨p, l9, e, R, s, m, args, below, meth, c, cells, slots, A⟩ := X
  obtain ⟨rfl, hx, hb, hml, hown, hts, hK, hi, hNs, hA, hlk, hret, hfr, hlo, hce, hsl⟩ := F
  intro H locs lsA hP hS hl
  exact lv_pop hx hb d hc (kk H locs lsA hP hS hl)
theorem j_goto {X : Cx} {l : Launch} {nL : Nat} {D : Dm} {cc : ByteArray} {own : String} {dep : Nat} {ret : Option FieldType} {σ : Mm} {pc : Nat} {ls : List (Nat × Value)} {st : List Value} {Q : State → Prop} (F : Fx X l nL D cc own dep ret) {off : Int} (d : decode cc pc = .ok (.goto off, 3)) (tgt : Nat) (ht : (pc : Int) + off = (tgt : Int)) (kk : JJ X nL D σ tgt ls st Q) : JJ X nL D σ pc ls st Q := by
  obtain ⟨p, l9, e, R, s, m, args, below, meth, c, cells, slots, A⟩ := X
  obtain ⟨rfl, hx, hb, hml, hown, hts, hK, hi, hNs, hA, hlk, hret, hfr, hlo, hce, hsl⟩ := F
  intro H locs lsA hP hS hl
  exact lv_goto hx hb d ht (kk H locs lsA hP hS hl)
theorem j_icmp_ge {X : Cx} {l : Launch} {nL : Nat} {D : Dm} {cc : ByteArray} {own : String} {dep : Nat} {ret : Option FieldType} {σ : Mm} {pc : Nat} {ls : List (Nat × Value)} {st : List Value} {Q : State → Prop} (F : Fx X l nL D cc own dep ret) {x y : Int32} {off : Int} (d : decode cc pc = .ok (.if_icmp .ge off, 3)) (tgt : Nat) (ht : (pc : Int) + off = (tgt : Int)) (n : Nat) (hn : pc + 3 = n) (kf : x < y → JJ X nL D σ n ls st Q) (kt : ¬ x < y → JJ X nL D σ tgt ls st Q) : JJ X nL D σ pc ls (.int y :: .int x :: st) Q := by
  subst hn
  obtain ⟨p, l9, e, R, s, m, args, below, meth, c, cells, slots, A⟩ := X
  obtain ⟨rfl, hx, hb, hml, hown, hts, hK, hi, hNs, hA, hlk, hret, hfr, hlo, hce, hsl⟩ := F
  intro H locs lsA hP hS hl
  exact lv_icmp_ge hx hb d ht (fun h => kt (Int32.not_lt.mpr h) H locs lsA hP hS hl) (fun h => kf (Int32.not_le.mp h) H locs lsA hP hS hl)
theorem j_icmp_lt {X : Cx} {l : Launch} {nL : Nat} {D : Dm} {cc : ByteArray} {own : String} {dep : Nat} {ret : Option FieldType} {σ : Mm} {pc : Nat} {ls : List (Nat × Value)} {st : List Value} {Q : State → Prop} (F : Fx X l nL D cc own dep ret) {x y : Int32} {off : Int} (d : decode cc pc = .ok (.if_icmp .lt off, 3)) (tgt : Nat) (ht : (pc : Int) + off = (tgt : Int)) (n : Nat) (hn : pc + 3 = n) (kf : y ≤ x → JJ X nL D σ n ls st Q) (kt : ¬ y ≤ x → JJ X nL D σ tgt ls st Q) : JJ X nL D σ pc ls (.int y :: .int x :: st) Q := by
  subst hn
  obtain ⟨p, l9, e, R, s, m, args, below, meth, c, cells, slots, A⟩ := X
  obtain ⟨rfl, hx, hb, hml, hown, hts, hK, hi, hNs, hA, hlk, hret, hfr, hlo, hce, hsl⟩ := F
  intro H locs lsA hP hS hl
  exact lv_icmp_lt hx hb d ht (fun h => kt (Int32.not_le.mpr h) H locs lsA hP hS hl) (fun h => kf (Int32.not_lt.mp h) H locs lsA hP hS hl)
theorem j_icmp_gt {X : Cx} {l : Launch} {nL : Nat} {D : Dm} {cc : ByteArray} {own : String} {dep : Nat} {ret : Option FieldType} {σ : Mm} {pc : Nat} {ls : List (Nat × Value)} {st : List Value} {Q : State → Prop} (F : Fx X l nL D cc own dep ret) {x y : Int32} {off : Int} (d : decode cc pc = .ok (.if_icmp .gt off, 3)) (tgt : Nat) (ht : (pc : Int) + off = (tgt : Int)) (n : Nat) (hn : pc + 3 = n) (kf : x ≤ y → JJ X nL D σ n ls st Q) (kt : ¬ x ≤ y → JJ X nL D σ tgt ls st Q) : JJ X nL D σ pc ls (.int y :: .int x :: st) Q := by
  subst hn
  obtain ⟨p, l9, e, R, s, m, args, below, meth, c, cells, slots, A⟩ := X
  obtain ⟨rfl, hx, hb, hml, hown, hts, hK, hi, hNs, hA, hlk, hret, hfr, hlo, hce, hsl⟩ := F
  intro H locs lsA hP hS hl
  exact lv_icmp_gt hx hb d ht (fun h => kt (Int32.not_le.mpr h) H locs lsA hP hS hl) (fun h => kf (Int32.not_lt.mp h) H locs lsA hP hS hl)
theorem j_icmp_le {X : Cx} {l : Launch} {nL : Nat} {D : Dm} {cc : ByteArray} {own : String} {dep : Nat} {ret : Option FieldType} {σ : Mm} {pc : Nat} {ls : List (Nat × Value)} {st : List Value} {Q : State → Prop} (F : Fx X l nL D cc own dep ret) {x y : Int32} {off : Int} (d : decode cc pc = .ok (.if_icmp .le off, 3)) (tgt : Nat) (ht : (pc : Int) + off = (tgt : Int)) (n : Nat) (hn : pc + 3 = n) (kf : y < x → JJ X nL D σ n ls st Q) (kt : ¬ y < x → JJ X nL D σ tgt ls st Q) : JJ X nL D σ pc ls (.int y :: .int x :: st) Q := by
  subst hn
  obtain ⟨p, l9, e, R, s, m, args, below, meth, c, cells, slots, A⟩ := X
  obtain ⟨rfl, hx, hb, hml, hown, hts, hK, hi, hNs, hA, hlk, hret, hfr, hlo, hce, hsl⟩ := F
  intro H locs lsA hP hS hl
  exact lv_icmp_le hx hb d ht (fun h => kt (Int32.not_lt.mpr h) H locs lsA hP hS hl) (fun h => kf (Int32.not_le.mp h) H locs lsA hP hS hl)
theorem j_icmp_eq {X : Cx} {l : Launch} {nL : Nat} {D : Dm} {cc : ByteArray} {own : String} {dep : Nat} {ret : Option FieldType} {σ : Mm} {pc : Nat} {ls : List (Nat × Value)} {st : List Value} {Q : State → Prop} (F : Fx X l nL D cc own dep ret) {x y : Int32} {off : Int} (d : decode cc pc = .ok (.if_icmp .eq off, 3)) (tgt : Nat) (ht : (pc : Int) + off = (tgt : Int)) (n : Nat) (hn : pc + 3 = n) (kf : ¬ x = y → JJ X nL D σ n ls st Q) (kt : x = y → JJ X nL D σ tgt ls st Q) : JJ X nL D σ pc ls (.int y :: .int x :: st) Q := by
  subst hn
  obtain ⟨p, l9, e, R, s, m, args, below, meth, c, cells, slots, A⟩ := X
  obtain ⟨rfl, hx, hb, hml, hown, hts, hK, hi, hNs, hA, hlk, hret, hfr, hlo, hce, hsl⟩ := F
  intro H locs lsA hP hS hl
  exact lv_icmp_eq hx hb d ht (fun h => kt h H locs lsA hP hS hl) (fun h => kf h H locs lsA hP hS hl)
theorem j_icmp_ne {X : Cx} {l : Launch} {nL : Nat} {D : Dm} {cc : ByteArray} {own : String} {dep : Nat} {ret : Option FieldType} {σ : Mm} {pc : Nat} {ls : List (Nat × Value)} {st : List Value} {Q : State → Prop} (F : Fx X l nL D cc own dep ret) {x y : Int32} {off : Int} (d : decode cc pc = .ok (.if_icmp .ne off, 3)) (tgt : Nat) (ht : (pc : Int) + off = (tgt : Int)) (n : Nat) (hn : pc + 3 = n) (kf : x = y → JJ X nL D σ n ls st Q) (kt : ¬ x = y → JJ X nL D σ tgt ls st Q) : JJ X nL D σ pc ls (.int y :: .int x :: st) Q := by
  subst hn
  obtain ⟨p, l9, e, R, s, m, args, below, meth, c, cells, slots, A⟩ := X
  obtain ⟨rfl, hx, hb, hml, hown, hts, hK, hi, hNs, hA, hlk, hret, hfr, hlo, hce, hsl⟩ := F
  intro H locs lsA hP hS hl
  exact lv_icmp_ne hx hb d ht (fun h => kt h H locs lsA hP hS hl) (fun h => kf h H locs lsA hP hS hl)
theorem j_if_eq {X : Cx} {l : Launch} {nL : Nat} {D : Dm} {cc : ByteArray} {own : String} {dep : Nat} {ret : Option FieldType} {σ : Mm} {pc : Nat} {ls : List (Nat × Value)} {st : List Value} {Q : State → Prop} (F : Fx X l nL D cc own dep ret) {x : Int32} {off : Int} (d : decode cc pc = .ok (.ifCond .eq off, 3)) (tgt : Nat) (ht : (pc : Int) + off = (tgt : Int)) (n : Nat) (hn : pc + 3 = n) (kf : ¬ x = 0 → JJ X nL D σ n ls st Q) (kt : x = 0 → JJ X nL D σ tgt ls st Q) : JJ X nL D σ pc ls (.int x :: st) Q := by
  subst hn
  obtain ⟨p, l9, e, R, s, m, args, below, meth, c, cells, slots, A⟩ := X
  obtain ⟨rfl, hx, hb, hml, hown, hts, hK, hi, hNs, hA, hlk, hret, hfr, hlo, hce, hsl⟩ := F
  intro H locs lsA hP hS hl
  exact lv_if_eq hx hb d ht (fun h => kt h H locs lsA hP hS hl) (fun h => kf h H locs lsA hP hS hl)
theorem j_if_ne {X : Cx} {l : Launch} {nL : Nat} {D : Dm} {cc : ByteArray} {own : String} {dep : Nat} {ret : Option FieldType} {σ : Mm} {pc : Nat} {ls : List (Nat × Value)} {st : List Value} {Q : State → Prop} (F : Fx X l nL D cc own dep ret) {x : Int32} {off : Int} (d : decode cc pc = .ok (.ifCond .ne off, 3)) (tgt : Nat) (ht : (pc : Int) + off = (tgt : Int)) (n : Nat) (hn : pc + 3 = n) (kf : x = 0 → JJ X nL D σ n ls st Q) (kt : ¬ x = 0 → JJ X nL D σ tgt ls st Q) : JJ X nL D σ pc ls (.int x :: st) Q := by
  subst hn
  obtain ⟨p, l9, e, R, s, m, args, below, meth, c, cells, slots, A⟩ := X
  obtain ⟨rfl, hx, hb, hml, hown, hts, hK, hi, hNs, hA, hlk, hret, hfr, hlo, hce, hsl⟩ := F
  intro H locs lsA hP hS hl
  exact lv_if_ne hx hb d ht (fun h => kt h H locs lsA hP hS hl) (fun h => kf h H locs lsA hP hS hl)
theorem j_if_lt {X : Cx} {l : Launch} {nL : Nat} {D : Dm} {cc : ByteArray} {own : String} {dep : Nat} {ret : Option FieldType} {σ : Mm} {pc : Nat} {ls : List (Nat × Value)} {st : List Value} {Q : State → Prop} (F : Fx X l nL D cc own dep ret) {x : Int32} {off : Int} (d : decode cc pc = .ok (.ifCond .lt off, 3)) (tgt : Nat) (ht : (pc : Int) + off = (tgt : Int)) (n : Nat) (hn : pc + 3 = n) (kf : 0 ≤ x → JJ X nL D σ n ls st Q) (kt : ¬ 0 ≤ x → JJ X nL D σ tgt ls st Q) : JJ X nL D σ pc ls (.int x :: st) Q := by
  subst hn
  obtain ⟨p, l9, e, R, s, m, args, below, meth, c, cells, slots, A⟩ := X
  obtain ⟨rfl, hx, hb, hml, hown, hts, hK, hi, hNs, hA, hlk, hret, hfr, hlo, hce, hsl⟩ := F
  intro H locs lsA hP hS hl
  exact lv_if_lt hx hb d ht (fun h => kt (Int32.not_le.mpr h) H locs lsA hP hS hl) (fun h => kf (Int32.not_lt.mp h) H locs lsA hP hS hl)
theorem j_if_ge {X : Cx} {l : Launch} {nL : Nat} {D : Dm} {cc : ByteArray} {own : String} {dep : Nat} {ret : Option FieldType} {σ : Mm} {pc : Nat} {ls : List (Nat × Value)} {st : List Value} {Q : State → Prop} (F : Fx X l nL D cc own dep ret) {x : Int32} {off : Int} (d : decode cc pc = .ok (.ifCond .ge off, 3)) (tgt : Nat) (ht : (pc : Int) + off = (tgt : Int)) (n : Nat) (hn : pc + 3 = n) (kf : x < 0 → JJ X nL D σ n ls st Q) (kt : ¬ x < 0 → JJ X nL D σ tgt ls st Q) : JJ X nL D σ pc ls (.int x :: st) Q := by
  subst hn
  obtain ⟨p, l9, e, R, s, m, args, below, meth, c, cells, slots, A⟩ := X
  obtain ⟨rfl, hx, hb, hml, hown, hts, hK, hi, hNs, hA, hlk, hret, hfr, hlo, hce, hsl⟩ := F
  intro H locs lsA hP hS hl
  exact lv_if_ge hx hb d ht (fun h => kt (Int32.not_lt.mpr h) H locs lsA hP hS hl) (fun h => kf (Int32.not_le.mp h) H locs lsA hP hS hl)
theorem j_if_gt {X : Cx} {l : Launch} {nL : Nat} {D : Dm} {cc : ByteArray} {own : String} {dep : Nat} {ret : Option FieldType} {σ : Mm} {pc : Nat} {ls : List (Nat × Value)} {st : List Value} {Q : State → Prop} (F : Fx X l nL D cc own dep ret) {x : Int32} {off : Int} (d : decode cc pc = .ok (.ifCond .gt off, 3)) (tgt : Nat) (ht : (pc : Int) + off = (tgt : Int)) (n : Nat) (hn : pc + 3 = n) (kf : x ≤ 0 → JJ X nL D σ n ls st Q) (kt : ¬ x ≤ 0 → JJ X nL D σ tgt ls st Q) : JJ X nL D σ pc ls (.int x :: st) Q := by
  subst hn
  obtain ⟨p, l9, e, R, s, m, args, below, meth, c, cells, slots, A⟩ := X
  obtain ⟨rfl, hx, hb, hml, hown, hts, hK, hi, hNs, hA, hlk, hret, hfr, hlo, hce, hsl⟩ := F
  intro H locs lsA hP hS hl
  exact lv_if_gt hx hb d ht (fun h => kt (Int32.not_le.mpr h) H locs lsA hP hS hl) (fun h => kf (Int32.not_lt.mp h) H locs lsA hP hS hl)
theorem j_if_le {X : Cx} {l : Launch} {nL : Nat} {D : Dm} {cc : ByteArray} {own : String} {dep : Nat} {ret : Option FieldType} {σ : Mm} {pc : Nat} {ls : List (Nat × Value)} {st : List Value} {Q : State → Prop} (F : Fx X l nL D cc own dep ret) {x : Int32} {off : Int} (d : decode cc pc = .ok (.ifCond .le off, 3)) (tgt : Nat) (ht : (pc : Int) + off = (tgt : Int)) (n : Nat) (hn : pc + 3 = n) (kf : 0 < x → JJ X nL D σ n ls st Q) (kt : ¬ 0 < x → JJ X nL D σ tgt ls st Q) : JJ X nL D σ pc ls (.int x :: st) Q := by
  subst hn
  obtain ⟨p, l9, e, R, s, m, args, below, meth, c, cells, slots, A⟩ := X
  obtain ⟨rfl, hx, hb, hml, hown, hts, hK, hi, hNs, hA, hlk, hret, hfr, hlo, hce, hsl⟩ := F
  intro H locs lsA hP hS hl
  exact lv_if_le hx hb d ht (fun h => kt (Int32.not_lt.mpr h) H locs lsA hP hS hl) (fun h => kf (Int32.not_le.mp h) H locs lsA hP hS hl)
theorem bi_0 {b : Bool} : bi b = 0 ↔ ¬ b = true := by cases b <;> decide
theorem bi_1 {b : Bool} : ¬ bi b = 0 ↔ b = true := by cases b <;> decide
theorem bi_t : bi true = 1 := rfl
theorem bi_f : bi false = 0 := rfl
theorem j_ifb_eq {X : Cx} {l : Launch} {nL : Nat} {D : Dm} {cc : ByteArray} {own : String} {dep : Nat} {ret : Option FieldType} {σ : Mm} {pc : Nat} {ls : List (Nat × Value)} {st : List Value} {Q : State → Prop} (F : Fx X l nL D cc own dep ret) {b : Bool} {off : Int} (d : decode cc pc = .ok (.ifCond .eq off, 3)) (tgt : Nat) (ht : (pc : Int) + off = (tgt : Int)) (n : Nat) (hn : pc + 3 = n) (kf : b = true → JJ X nL D σ n ls st Q) (kt : ¬ b = true → JJ X nL D σ tgt ls st Q) : JJ X nL D σ pc ls (.int (bi b) :: st) Q := by
  subst hn
  obtain ⟨p, l9, e, R, s, m, args, below, meth, c, cells, slots, A⟩ := X
  obtain ⟨rfl, hx, hb, hml, hown, hts, hK, hi, hNs, hA, hlk, hret, hfr, hlo, hce, hsl⟩ := F
  intro H locs lsA hP hS hl
  exact lv_if_eq hx hb d ht (fun h => kt (bi_0.mp h) H locs lsA hP hS hl) (fun h => kf (bi_1.mp h) H locs lsA hP hS hl)
theorem j_ifb_ne {X : Cx} {l : Launch} {nL : Nat} {D : Dm} {cc : ByteArray} {own : String} {dep : Nat} {ret : Option FieldType} {σ : Mm} {pc : Nat} {ls : List (Nat × Value)} {st : List Value} {Q : State → Prop} (F : Fx X l nL D cc own dep ret) {b : Bool} {off : Int} (d : decode cc pc = .ok (.ifCond .ne off, 3)) (tgt : Nat) (ht : (pc : Int) + off = (tgt : Int)) (n : Nat) (hn : pc + 3 = n) (kf : ¬ b = true → JJ X nL D σ n ls st Q) (kt : b = true → JJ X nL D σ tgt ls st Q) : JJ X nL D σ pc ls (.int (bi b) :: st) Q := by
  subst hn
  obtain ⟨p, l9, e, R, s, m, args, below, meth, c, cells, slots, A⟩ := X
  obtain ⟨rfl, hx, hb, hml, hown, hts, hK, hi, hNs, hA, hlk, hret, hfr, hlo, hce, hsl⟩ := F
  intro H locs lsA hP hS hl
  exact lv_if_ne hx hb d ht (fun h => kt (bi_1.mp h) H locs lsA hP hS hl) (fun h => kf (bi_0.mp h) H locs lsA hP hS hl)
theorem lc_lt {x y : Int64} : lg_cmp x y < 0 ↔ x < y := by
  unfold lg_cmp
  by_cases h : x > y
  · rw [if_pos h]
    constructor
    · intro h2; exact absurd h2 (by decide)
    · intro h2; exact absurd h2 (Int64.not_lt.mpr (Int64.le_of_lt h))
  · rw [if_neg h]
    by_cases h3 : x = y
    · rw [if_pos h3]
      constructor
      · intro h2; exact absurd h2 (by decide)
      · intro h2; rw [h3] at h2; exact absurd h2 (Int64.lt_irrefl)
    · rw [if_neg h3]
      constructor
      · intro _; exact Int64.lt_of_le_of_ne (Int64.not_lt.mp h) h3
      · intro _; decide
theorem lc_gt {x y : Int64} : 0 < lg_cmp x y ↔ y < x := by
  unfold lg_cmp
  by_cases h : x > y
  · rw [if_pos h]
    exact ⟨fun _ => h, fun _ => by decide⟩
  · rw [if_neg h]
    constructor
    · intro h2
      by_cases h3 : x = y
      · rw [if_pos h3] at h2; exact absurd h2 (by decide)
      · rw [if_neg h3] at h2; exact absurd h2 (by decide)
    · intro h2; exact absurd h2 h
theorem j_ifl_lt {X : Cx} {l : Launch} {nL : Nat} {D : Dm} {cc : ByteArray} {own : String} {dep : Nat} {ret : Option FieldType} {σ : Mm} {pc : Nat} {ls : List (Nat × Value)} {st : List Value} {Q : State → Prop} (F : Fx X l nL D cc own dep ret) {x y : Int64} {off : Int} (d : decode cc pc = .ok (.ifCond .lt off, 3)) (tgt : Nat) (ht : (pc : Int) + off = (tgt : Int)) (n : Nat) (hn : pc + 3 = n) (kf : y ≤ x → JJ X nL D σ n ls st Q) (kt : ¬ y ≤ x → JJ X nL D σ tgt ls st Q) : JJ X nL D σ pc ls (.int (lg_cmp x y) :: st) Q := by
  subst hn
  obtain ⟨p, l9, e, R, s, m, args, below, meth, c, cells, slots, A⟩ := X
  obtain ⟨rfl, hx, hb, hml, hown, hts, hK, hi, hNs, hA, hlk, hret, hfr, hlo, hce, hsl⟩ := F
  intro H locs lsA hP hS hl
  exact lv_if_lt hx hb d ht (fun h => kt (Int64.not_le.mpr (lc_lt.mp h)) H locs lsA hP hS hl) (fun h => kf (Int64.not_lt.mp (fun q => h (lc_lt.mpr q))) H locs lsA hP hS hl)
theorem j_ifl_gt {X : Cx} {l : Launch} {nL : Nat} {D : Dm} {cc : ByteArray} {own : String} {dep : Nat} {ret : Option FieldType} {σ : Mm} {pc : Nat} {ls : List (Nat × Value)} {st : List Value} {Q : State → Prop} (F : Fx X l nL D cc own dep ret) {x y : Int64} {off : Int} (d : decode cc pc = .ok (.ifCond .gt off, 3)) (tgt : Nat) (ht : (pc : Int) + off = (tgt : Int)) (n : Nat) (hn : pc + 3 = n) (kf : x ≤ y → JJ X nL D σ n ls st Q) (kt : ¬ x ≤ y → JJ X nL D σ tgt ls st Q) : JJ X nL D σ pc ls (.int (lg_cmp x y) :: st) Q := by
  subst hn
  obtain ⟨p, l9, e, R, s, m, args, below, meth, c, cells, slots, A⟩ := X
  obtain ⟨rfl, hx, hb, hml, hown, hts, hK, hi, hNs, hA, hlk, hret, hfr, hlo, hce, hsl⟩ := F
  intro H locs lsA hP hS hl
  exact lv_if_gt hx hb d ht (fun h => kt (Int64.not_le.mpr (lc_gt.mp h)) H locs lsA hP hS hl) (fun h => kf (Int64.not_lt.mp (fun q => h (lc_gt.mpr q))) H locs lsA hP hS hl)
theorem j_ifl_ge {X : Cx} {l : Launch} {nL : Nat} {D : Dm} {cc : ByteArray} {own : String} {dep : Nat} {ret : Option FieldType} {σ : Mm} {pc : Nat} {ls : List (Nat × Value)} {st : List Value} {Q : State → Prop} (F : Fx X l nL D cc own dep ret) {x y : Int64} {off : Int} (d : decode cc pc = .ok (.ifCond .ge off, 3)) (tgt : Nat) (ht : (pc : Int) + off = (tgt : Int)) (n : Nat) (hn : pc + 3 = n) (kf : x < y → JJ X nL D σ n ls st Q) (kt : ¬ x < y → JJ X nL D σ tgt ls st Q) : JJ X nL D σ pc ls (.int (lg_cmp x y) :: st) Q := by
  subst hn
  obtain ⟨p, l9, e, R, s, m, args, below, meth, c, cells, slots, A⟩ := X
  obtain ⟨rfl, hx, hb, hml, hown, hts, hK, hi, hNs, hA, hlk, hret, hfr, hlo, hce, hsl⟩ := F
  intro H locs lsA hP hS hl
  exact lv_if_ge hx hb d ht (fun h => kt (fun q => Int32.not_lt.mpr h (lc_lt.mpr q)) H locs lsA hP hS hl) (fun h => kf (lc_lt.mp (Int32.not_le.mp h)) H locs lsA hP hS hl)
theorem j_nonnull {X : Cx} {l : Launch} {nL : Nat} {D : Dm} {cc : ByteArray} {own : String} {dep : Nat} {ret : Option FieldType} {σ : Mm} {pc : Nat} {ls : List (Nat × Value)} {st : List Value} {Q : State → Prop} (F : Fx X l nL D cc own dep ret) {x : Nat} {off : Int} (d : decode cc pc = .ok (.ifnonnull off, 3)) (tgt : Nat) (ht : (pc : Int) + off = (tgt : Int)) (kk : JJ X nL D σ tgt ls st Q) : JJ X nL D σ pc ls (.ref x :: st) Q := by
  obtain ⟨p, l9, e, R, s, m, args, below, meth, c, cells, slots, A⟩ := X
  obtain ⟨rfl, hx, hb, hml, hown, hts, hK, hi, hNs, hA, hlk, hret, hfr, hlo, hce, hsl⟩ := F
  intro H locs lsA hP hS hl
  exact lv_ifnonnull hx hb d ht (kk H locs lsA hP hS hl)
theorem j_ifnull {X : Cx} {l : Launch} {nL : Nat} {D : Dm} {cc : ByteArray} {own : String} {dep : Nat} {ret : Option FieldType} {σ : Mm} {pc : Nat} {ls : List (Nat × Value)} {st : List Value} {Q : State → Prop} (F : Fx X l nL D cc own dep ret) {x : Nat} {off : Int} (d : decode cc pc = .ok (.ifnull off, 3)) (n : Nat) (hn : pc + 3 = n) (kk : JJ X nL D σ n ls st Q) : JJ X nL D σ pc ls (.ref x :: st) Q := by
  subst hn
  obtain ⟨p, l9, e, R, s, m, args, below, meth, c, cells, slots, A⟩ := X
  obtain ⟨rfl, hx, hb, hml, hown, hts, hK, hi, hNs, hA, hlk, hret, hfr, hlo, hce, hsl⟩ := F
  intro H locs lsA hP hS hl
  exact lv_ifnull hx hb d (kk H locs lsA hP hS hl)
theorem j_null {X : Cx} {l : Launch} {nL : Nat} {D : Dm} {cc : ByteArray} {own : String} {dep : Nat} {ret : Option FieldType} {σ : Mm} {pc : Nat} {ls : List (Nat × Value)} {st : List Value} {Q : State → Prop} (F : Fx X l nL D cc own dep ret)  (d : decode cc pc = .ok (.aconst_null, 1)) (n : Nat) (hn : pc + 1 = n) (kk : JJ X nL D σ n ls (.null :: st) Q) : JJ X nL D σ pc ls st Q := by
  subst hn
  obtain ⟨p, l9, e, R, s, m, args, below, meth, c, cells, slots, A⟩ := X
  obtain ⟨rfl, hx, hb, hml, hown, hts, hK, hi, hNs, hA, hlk, hret, hfr, hlo, hce, hsl⟩ := F
  intro H locs lsA hP hS hl
  exact lv_null hx hb d (kk H locs lsA hP hS hl)
theorem j_get {X : Cx} {l : Launch} {nL : Nat} {D : Dm} {cc : ByteArray} {own : String} {dep : Nat} {ret : Option FieldType} {σ : Mm} {pc : Nat} {ls : List (Nat × Value)} {st : List Value} {Q : State → Prop} (F : Fx X l nL D cc own dep ret) {C : String} {T : u_T} {N ci index j k : Nat} {fs : List Value} {v : Value} (d : decode cc pc = .ok (.getfield index, 3)) (n : Nat) (hn : pc + 3 = n) (hin : ∀ w ∈ u_ws C T N, w ∈ lw_ok) (hc : vwCl[ci]? = some (C, T, N)) (hk : k < 89) (hs : shp D.2.1 D.2.2 k (σ.1 k) (σ.2 k) = .inr (ci, fs)) (hj : j < N) (hl9 : Cond.fieldLink own index (T j).1 (T j).2.1 (T j).2.2.1 ∈ lw_ok) (hv : fs[j]? = some v) (kk : JJ X nL D σ n ls (v :: st) Q) : JJ X nL D σ pc ls (.ref (D.2.1 k) :: st) Q := by
  subst hn
  obtain ⟨p, l9, e, R, s, m, args, below, meth, c, cells, slots, A⟩ := X
  obtain ⟨rfl, hx, hb, hml, hown, hts, hK, hi, hNs, hA, hlk, hret, hfr, hlo, hce, hsl⟩ := F
  intro H locs lsA hP hS hl
  exact va_get hx hb hts hin hown hK hP k ((cw_get hk).trans (by rw [hs])) hc j hj (hts _ hl9) (fun _ h => h) hv d (kk H locs lsA hP hS hl)
theorem j_put {X : Cx} {l : Launch} {nL : Nat} {D : Dm} {cc : ByteArray} {own : String} {dep : Nat} {ret : Option FieldType} {σ : Mm} {pc : Nat} {ls : List (Nat × Value)} {st : List Value} {Q : State → Prop} (F : Fx X l nL D cc own dep ret) {C : String} {T : u_T} {N ci index j k : Nat} {fs : List Value} {v : Int32} (d : decode cc pc = .ok (.putfield index, 3)) (n : Nat) (hn : pc + 3 = n) (hin : ∀ w ∈ u_ws C T N, w ∈ lw_ok) (ty0 : Nat → FieldType) (hty : ∀ k, k < N → parseFieldDescriptor (T k).2.2.1 = some (ty0 k)) (hnm : ∀ a, a < N → ∀ b, b < N → a ≠ b → (T a).2.1 ≠ (T b).2.1) (hc : vwCl[ci]? = some (C, T, N)) (hk : k < 89) (hs : shp D.2.1 D.2.2 k (σ.1 k) (σ.2 k) = .inr (ci, fs)) (hs2 : shp D.2.1 D.2.2 k (upd (σ.1 k) j v) (σ.2 k) = .inr (ci, fs.set j (.int v))) (hj : j < N) (hl9 : Cond.fieldLink own index (T j).1 (T j).2.1 (T j).2.2.1 ∈ lw_ok) (hfin : (T j).2.2.2 = false) (hd : parseFieldDescriptor (T j).2.2.1 = some .int) (hlen : j < fs.length) (kk : JJ X nL D (up σ k j v) n ls st Q) : JJ X nL D σ pc ls (.int v :: .ref (D.2.1 k) :: st) Q := by
  subst hn
  obtain ⟨p, l9, e, R, s, m, args, below, meth, c, cells, slots, A⟩ := X
  obtain ⟨rfl, hx, hb, hml, hown, hts, hK, hi, hNs, hA, hlk, hret, hfr, hlo, hce, hsl⟩ := F
  intro H locs lsA hP hS hl
  refine va_put hx hb hts hin ty0 hty hnm hown hK hP (cw_D hi hA) hS k ((cw_get hk).trans (by rw [hs])) hc j hj (hts _ hl9) (fun _ h => h) hfin hd (vp_nar_int v) rfl hlen d (fun H1 locs1 hP1 _ hS1 => ?_)
  have e : ((D.2.1 k, (Sum.inr (ci, fs.set j (.int v)) : va_E))) = (D.2.1 k, shp D.2.1 D.2.2 k ((up σ k j v).1 k) ((up σ k j v).2 k)) := by rw [up_upd]; exact congrArg (fun x => (D.2.1 k, x)) hs2.symm
  rw [e, cw_set hk (fun j9 h9 => up_ne h9) (fun _ _ => rfl)] at hP1
  exact kk H1 locs1 lsA hP1 hS1 hl
theorem j_putL {X : Cx} {l : Launch} {nL : Nat} {D : Dm} {cc : ByteArray} {own : String} {dep : Nat} {ret : Option FieldType} {σ : Mm} {pc : Nat} {ls : List (Nat × Value)} {st : List Value} {Q : State → Prop} (F : Fx X l nL D cc own dep ret) {C : String} {T : u_T} {N ci index j k : Nat} {fs : List Value} {v : Int64} (d : decode cc pc = .ok (.putfield index, 3)) (n : Nat) (hn : pc + 3 = n) (hin : ∀ w ∈ u_ws C T N, w ∈ lw_ok) (ty0 : Nat → FieldType) (hty : ∀ k, k < N → parseFieldDescriptor (T k).2.2.1 = some (ty0 k)) (hnm : ∀ a, a < N → ∀ b, b < N → a ≠ b → (T a).2.1 ≠ (T b).2.1) (hc : vwCl[ci]? = some (C, T, N)) (hk : k < 89) (hs : shp D.2.1 D.2.2 k (σ.1 k) (σ.2 k) = .inr (ci, fs)) (hs2 : shp D.2.1 D.2.2 k (σ.1 k) v = .inr (ci, fs.set j (.long v))) (hj : j < N) (hl9 : Cond.fieldLink own index (T j).1 (T j).2.1 (T j).2.2.1 ∈ lw_ok) (hfin : (T j).2.2.2 = false) (hd : parseFieldDescriptor (T j).2.2.1 = some .long) (hlen : j < fs.length) (kk : JJ X nL D (upL σ k v) n ls st Q) : JJ X nL D σ pc ls (.long v :: .ref (D.2.1 k) :: st) Q := by
  subst hn
  obtain ⟨p, l9, e, R, s, m, args, below, meth, c, cells, slots, A⟩ := X
  obtain ⟨rfl, hx, hb, hml, hown, hts, hK, hi, hNs, hA, hlk, hret, hfr, hlo, hce, hsl⟩ := F
  intro H locs lsA hP hS hl
  refine va_put hx hb hts hin ty0 hty hnm hown hK hP (cw_D hi hA) hS k ((cw_get hk).trans (by rw [hs])) hc j hj (hts _ hl9) (fun _ h => h) hfin hd rfl rfl hlen d (fun H1 locs1 hP1 _ hS1 => ?_)
  have e : ((D.2.1 k, (Sum.inr (ci, fs.set j (.long v)) : va_E))) = (D.2.1 k, shp D.2.1 D.2.2 k ((upL σ k v).1 k) ((upL σ k v).2 k)) := by rw [upL_eq]; exact congrArg (fun x => (D.2.1 k, x)) hs2.symm
  rw [e, cw_set (σ := σ) (σ' := upL σ k v) hk (fun j9 h9 => rfl) (fun j9 h9 => upL_ne h9)] at hP1
  exact kk H1 locs1 lsA hP1 hS1 hl
theorem j_iald {X : Cx} {l : Launch} {nL : Nat} {D : Dm} {cc : ByteArray} {own : String} {dep : Nat} {ret : Option FieldType} {σ : Mm} {pc : Nat} {ls : List (Nat × Value)} {st : List Value} {Q : State → Prop} (F : Fx X l nL D cc own dep ret) {k N : Nat} {i : Int32} (d : decode cc pc = .ok (.iaload, 1)) (n : Nat) (hn : pc + 1 = n) (ha : iaP k N) (hin : vp_in i N) (kk : JJ X nL D σ n ls (.int (σ.1 k i.toNatClampNeg) :: st) Q) : JJ X nL D σ pc ls (.int i :: .ref (D.2.1 k) :: st) Q := by
  subst hn
  obtain ⟨p, l9, e, R, s, m, args, below, meth, c, cells, slots, A⟩ := X
  obtain ⟨rfl, hx, hb, hml, hown, hts, hK, hi, hNs, hA, hlk, hret, hfr, hlo, hce, hsl⟩ := F
  intro H locs lsA hP hS hl
  exact va_iald hx hb hK hP k 0 ((cw_get ha.1).trans (by rw [ha.2.2])) rfl hin d (kk H locs lsA hP hS hl)
theorem j_iast {X : Cx} {l : Launch} {nL : Nat} {D : Dm} {cc : ByteArray} {own : String} {dep : Nat} {ret : Option FieldType} {σ : Mm} {pc : Nat} {ls : List (Nat × Value)} {st : List Value} {Q : State → Prop} (F : Fx X l nL D cc own dep ret) {k N : Nat} {i v : Int32} (d : decode cc pc = .ok (.iastore, 1)) (n : Nat) (hn : pc + 1 = n) (ha : iaP k N) (hin : vp_in i N) (kk : JJ X nL D (up σ k i.toNatClampNeg v) n ls st Q) : JJ X nL D σ pc ls (.int v :: .int i :: .ref (D.2.1 k) :: st) Q := by
  subst hn
  obtain ⟨p, l9, e, R, s, m, args, below, meth, c, cells, slots, A⟩ := X
  obtain ⟨rfl, hx, hb, hml, hown, hts, hK, hi, hNs, hA, hlk, hret, hfr, hlo, hce, hsl⟩ := F
  intro H locs lsA hP hS hl
  refine va_iast hx hb hK hP (cw_D hi hA) hS k 0 ((cw_get ha.1).trans (by rw [ha.2.2])) rfl hin d (fun H1 locs1 hP1 _ hS1 => ?_)
  have e : ((D.2.1 k, (Sum.inl (D.2.2 0, N, Sum.inl (upd (σ.1 k) i.toNatClampNeg v)) : va_E))) = (D.2.1 k, shp D.2.1 D.2.2 k ((up σ k i.toNatClampNeg v).1 k) ((up σ k i.toNatClampNeg v).2 k)) := by rw [ha.2.2, up_upd]
  rw [e, cw_set ha.1 (fun j9 h9 => up_ne h9) (fun _ _ => rfl)] at hP1
  exact kk H1 locs1 lsA hP1 hS1 hl
theorem j_alen {X : Cx} {l : Launch} {nL : Nat} {D : Dm} {cc : ByteArray} {own : String} {dep : Nat} {ret : Option FieldType} {σ : Mm} {pc : Nat} {ls : List (Nat × Value)} {st : List Value} {Q : State → Prop} (F : Fx X l nL D cc own dep ret) {k N : Nat} (d : decode cc pc = .ok (.arraylength, 1)) (n : Nat) (hn : pc + 1 = n) (ha : iaP k N) (kk : JJ X nL D σ n ls (.int (nI N) :: st) Q) : JJ X nL D σ pc ls (.ref (D.2.1 k) :: st) Q := by
  subst hn
  obtain ⟨p, l9, e, R, s, m, args, below, meth, c, cells, slots, A⟩ := X
  obtain ⟨rfl, hx, hb, hml, hown, hts, hK, hi, hNs, hA, hlk, hret, hfr, hlo, hce, hsl⟩ := F
  intro H locs lsA hP hS hl
  exact va_alen (x := (N, .inl (σ.1 k))) hx hb hK hP k 0 ((cw_get ha.1).trans (by rw [ha.2.2])) rfl rfl d (kk H locs lsA hP hS hl)
theorem j_zald {X : Cx} {l : Launch} {nL : Nat} {D : Dm} {cc : ByteArray} {own : String} {dep : Nat} {ret : Option FieldType} {σ : Mm} {pc : Nat} {ls : List (Nat × Value)} {st : List Value} {Q : State → Prop} (F : Fx X l nL D cc own dep ret) {k N : Nat} {i : Int32} (d : decode cc pc = .ok (.baload, 1)) (n : Nat) (hn : pc + 1 = n) (hk : k < 89) (ha : ∀ f g, shp D.2.1 D.2.2 k f g = .inl (D.2.2 1, (N, .inl f))) (hin : vp_in i N) (kk : JJ X nL D σ n ls (.int (σ.1 k i.toNatClampNeg) :: st) Q) : JJ X nL D σ pc ls (.int i :: .ref (D.2.1 k) :: st) Q := by
  subst hn
  obtain ⟨p, l9, e, R, s, m, args, below, meth, c, cells, slots, A⟩ := X
  obtain ⟨rfl, hx, hb, hml, hown, hts, hK, hi, hNs, hA, hlk, hret, hfr, hlo, hce, hsl⟩ := F
  intro H locs lsA hP hS hl
  exact va_zald hx hb hK hP k 1 ((cw_get hk).trans (by rw [ha])) rfl hin d (kk H locs lsA hP hS hl)
theorem j_zast {X : Cx} {l : Launch} {nL : Nat} {D : Dm} {cc : ByteArray} {own : String} {dep : Nat} {ret : Option FieldType} {σ : Mm} {pc : Nat} {ls : List (Nat × Value)} {st : List Value} {Q : State → Prop} (F : Fx X l nL D cc own dep ret) {k N : Nat} {i v v' : Int32} (d : decode cc pc = .ok (.bastore, 1)) (n : Nat) (hn : pc + 1 = n) (hk : k < 89) (ha : ∀ f g, shp D.2.1 D.2.2 k f g = .inl (D.2.2 1, (N, .inl f))) (hin : vp_in i N) (hv : vp_nar .boolean v = v') (kk : JJ X nL D (up σ k i.toNatClampNeg v') n ls st Q) : JJ X nL D σ pc ls (.int v :: .int i :: .ref (D.2.1 k) :: st) Q := by
  subst hn
  subst hv
  obtain ⟨p, l9, e, R, s, m, args, below, meth, c, cells, slots, A⟩ := X
  obtain ⟨rfl, hx, hb, hml, hown, hts, hK, hi, hNs, hA, hlk, hret, hfr, hlo, hce, hsl⟩ := F
  intro H locs lsA hP hS hl
  refine va_zast hx hb hK hP (cw_D hi hA) hS k 1 ((cw_get hk).trans (by rw [ha])) rfl hin d (fun H1 locs1 hP1 _ hS1 => ?_)
  have e : ((D.2.1 k, (Sum.inl (D.2.2 1, N, Sum.inl (upd (σ.1 k) i.toNatClampNeg (vp_nar .boolean v))) : va_E))) = (D.2.1 k, shp D.2.1 D.2.2 k ((up σ k i.toNatClampNeg (vp_nar .boolean v)).1 k) ((up σ k i.toNatClampNeg (vp_nar .boolean v)).2 k)) := by rw [ha, up_upd]
  rw [e, cw_set hk (fun j9 h9 => up_ne h9) (fun _ _ => rfl)] at hP1
  exact kk H1 locs1 lsA hP1 hS1 hl
theorem j_qald {X : Cx} {l : Launch} {nL : Nat} {D : Dm} {cc : ByteArray} {own : String} {dep : Nat} {ret : Option FieldType} {σ : Mm} {pc : Nat} {ls : List (Nat × Value)} {st : List Value} {Q : State → Prop} (F : Fx X l nL D cc own dep ret) {k N : Nat} {i : Int32} {f : Nat → Option Nat} {a : Nat} (d : decode cc pc = .ok (.aaload, 1)) (n : Nat) (hn : pc + 1 = n) (hk : k < 89) (ha : shp D.2.1 D.2.2 k (σ.1 k) (σ.2 k) = .inl (D.2.2 2, (N, qs f))) (hin : vp_in i N) (hf : f i.toNatClampNeg = some a) (kk : JJ X nL D σ n ls (.ref a :: st) Q) : JJ X nL D σ pc ls (.int i :: .ref (D.2.1 k) :: st) Q := by
  subst hn
  obtain ⟨p, l9, e, R, s, m, args, below, meth, c, cells, slots, A⟩ := X
  obtain ⟨rfl, hx, hb, hml, hown, hts, hK, hi, hNs, hA, hlk, hret, hfr, hlo, hce, hsl⟩ := F
  intro H locs lsA hP hS hl
  refine va_aldq hx hb hK hP k 2 ((cw_get hk).trans (by rw [ha])) rfl hin d ?_
  rw [hf]
  exact kk H locs lsA hP hS hl
theorem j_qald2 {X : Cx} {l : Launch} {nL : Nat} {D : Dm} {cc : ByteArray} {own : String} {dep : Nat} {ret : Option FieldType} {σ : Mm} {pc : Nat} {ls : List (Nat × Value)} {st : List Value} {Q : State → Prop} (F : Fx X l nL D cc own dep ret) {k N : Nat} {i : Int32} {f : Nat → Option Nat} {a : Nat} (d : decode cc pc = .ok (.aaload, 1)) (n : Nat) (hn : pc + 1 = n) (hk : k < 89) (ha : shp D.2.1 D.2.2 k (σ.1 k) (σ.2 k) = .inl (D.2.2 3, (N, qs f))) (hin : vp_in i N) (hf : f i.toNatClampNeg = some a) (kk : JJ X nL D σ n ls (.ref a :: st) Q) : JJ X nL D σ pc ls (.int i :: .ref (D.2.1 k) :: st) Q := by
  subst hn
  obtain ⟨p, l9, e, R, s, m, args, below, meth, c, cells, slots, A⟩ := X
  obtain ⟨rfl, hx, hb, hml, hown, hts, hK, hi, hNs, hA, hlk, hret, hfr, hlo, hce, hsl⟩ := F
  intro H locs lsA hP hS hl
  have hlt : i.toNatClampNeg < N := Nat.not_le.mp fun q => hin (Or.inr q)
  have h9 := hP k _ ((cw_get hk).trans (by rw [ha]))
  refine W.aald (v := va_rf (f i.toNatClampNeg)) (ty := .array .int) hx hb h9 ((hK.2 3 _ rfl).1 N (fun j => va_rf (f j))) rfl (fun q => by cases q) (by show ¬ (i < 0 ∨ (arrV _ _ _).slots.size ≤ _); rw [arrV_size]; exact hin) (by show (arrV _ _ _).slots[_]? = _; rw [arrV_read _ _ hlt]) rfl rfl d ?_
  rw [hf]
  exact kk H locs lsA hP hS hl
theorem j_ret_i {X : Cx} {l : Launch} {nL : Nat} {D : Dm} {cc : ByteArray} {own : String} {dep : Nat} {ret : Option FieldType} {σ : Mm} {pc : Nat} {ls : List (Nat × Value)} (F : Fx X l nL D cc own dep ret) {x : Int32} {t : Option Value × Mm} (d : decode cc pc = .ok (.ireturn, 1)) (hr : ret = some .int) (h1 : t.1 = some (.int x)) (h2 : t.2 = σ) : JJ X nL D σ pc ls ([.int x]) (QQ X D t) := by
  obtain ⟨p, l9, e, R, s, m, args, below, meth, c, cells, slots, A⟩ := X
  obtain ⟨rfl, hx, hb, hml, hown, hts, hK, hi, hNs, hA, hlk, hret, hfr, hlo, hce, hsl⟩ := F
  intro H locs lsA hP hS hl
  subst hret
  exact W.iret hx hb hr (fun u hu hW => ⟨⟨by rw [h1], by rw [h2, hu]; exact hP, va_K.moved hW.alike hK⟩, hS.F hu⟩) hS.2.2 d hlk
theorem bi_nar (b : Bool) : narrow .boolean (.int (bi b)) = .int (bi b) := by cases b <;> rfl
theorem j_ret_b {X : Cx} {l : Launch} {nL : Nat} {D : Dm} {cc : ByteArray} {own : String} {dep : Nat} {ret : Option FieldType} {σ : Mm} {pc : Nat} {ls : List (Nat × Value)} (F : Fx X l nL D cc own dep ret) {b : Bool} {t : Option Value × Mm} (d : decode cc pc = .ok (.ireturn, 1)) (hr : ret = some .boolean) (h1 : t.1 = some (.int (bi b))) (h2 : t.2 = σ) : JJ X nL D σ pc ls ([.int (bi b)]) (QQ X D t) := by
  obtain ⟨p, l9, e, R, s, m, args, below, meth, c, cells, slots, A⟩ := X
  obtain ⟨rfl, hx, hb, hml, hown, hts, hK, hi, hNs, hA, hlk, hret, hfr, hlo, hce, hsl⟩ := F
  intro H locs lsA hP hS hl
  subst hret
  exact W.zret hx hb hr (bi_nar b) (fun u hu hW => ⟨⟨by rw [h1], by rw [h2, hu]; exact hP, va_K.moved hW.alike hK⟩, hS.F hu⟩) hS.2.2 d hlk
theorem j_ret_l {X : Cx} {l : Launch} {nL : Nat} {D : Dm} {cc : ByteArray} {own : String} {dep : Nat} {ret : Option FieldType} {σ : Mm} {pc : Nat} {ls : List (Nat × Value)} (F : Fx X l nL D cc own dep ret) {x : Int64} {t : Option Value × Mm} (d : decode cc pc = .ok (.lreturn, 1)) (hr : ret = some .long) (h1 : t.1 = some (.long x)) (h2 : t.2 = σ) : JJ X nL D σ pc ls ([.long x]) (QQ X D t) := by
  obtain ⟨p, l9, e, R, s, m, args, below, meth, c, cells, slots, A⟩ := X
  obtain ⟨rfl, hx, hb, hml, hown, hts, hK, hi, hNs, hA, hlk, hret, hfr, hlo, hce, hsl⟩ := F
  intro H locs lsA hP hS hl
  subst hret
  exact W.lret hx hb hr (fun u hu hW => ⟨⟨by rw [h1], by rw [h2, hu]; exact hP, va_K.moved hW.alike hK⟩, hS.F hu⟩) hS.2.2 d hlk
theorem j_ret_v {X : Cx} {l : Launch} {nL : Nat} {D : Dm} {cc : ByteArray} {own : String} {dep : Nat} {ret : Option FieldType} {σ : Mm} {pc : Nat} {ls : List (Nat × Value)} (F : Fx X l nL D cc own dep ret) {t : Option Value × Mm} (d : decode cc pc = .ok (.return_, 1)) (hr : ret = none) (h1 : t.1 = none) (h2 : t.2 = σ) : JJ X nL D σ pc ls [] (QQ X D t) := by
  obtain ⟨p, l9, e, R, s, m, args, below, meth, c, cells, slots, A⟩ := X
  obtain ⟨rfl, hx, hb, hml, hown, hts, hK, hi, hNs, hA, hlk, hret, hfr, hlo, hce, hsl⟩ := F
  intro H locs lsA hP hS hl
  subst hret
  exact W.vret hx hb hr (fun u hu hW => ⟨⟨by rw [h1], by rw [h2, hu]; exact hP, va_K.moved hW.alike hK⟩, hS.F hu⟩) hS.2.2 d hlk
theorem j_ret_a {X : Cx} {l : Launch} {nL : Nat} {D : Dm} {cc : ByteArray} {own : String} {dep : Nat} {ret : Option FieldType} {σ : Mm} {pc : Nat} {ls : List (Nat × Value)} (F : Fx X l nL D cc own dep ret) {x : Nat} {C : String} {t : Option Value × Mm} (d : decode cc pc = .ok (.areturn, 1)) (hr : ret = some (.object C)) (h1 : t.1 = some (.ref x)) (h2 : t.2 = σ) : JJ X nL D σ pc ls ([.ref x]) (QQ X D t) := by
  obtain ⟨p, l9, e, R, s, m, args, below, meth, c, cells, slots, A⟩ := X
  obtain ⟨rfl, hx, hb, hml, hown, hts, hK, hi, hNs, hA, hlk, hret, hfr, hlo, hce, hsl⟩ := F
  intro H locs lsA hP hS hl
  subst hret
  exact W.aret hx hb hr (Or.inl ⟨_, rfl⟩) (Or.inr ⟨_, rfl⟩) (fun u hu hW => ⟨⟨by rw [h1], by rw [h2, hu]; exact hP, va_K.moved hW.alike hK⟩, hS.F hu⟩) hS.2.2 d hlk
theorem j_ret_ar {X : Cx} {l : Launch} {nL : Nat} {D : Dm} {cc : ByteArray} {own : String} {dep : Nat} {ret : Option FieldType} {σ : Mm} {pc : Nat} {ls : List (Nat × Value)} (F : Fx X l nL D cc own dep ret) {x : Nat} {C : FieldType} {t : Option Value × Mm} (d : decode cc pc = .ok (.areturn, 1)) (hr : ret = some (.array C)) (h1 : t.1 = some (.ref x)) (h2 : t.2 = σ) : JJ X nL D σ pc ls ([.ref x]) (QQ X D t) := by
  obtain ⟨p, l9, e, R, s, m, args, below, meth, c, cells, slots, A⟩ := X
  obtain ⟨rfl, hx, hb, hml, hown, hts, hK, hi, hNs, hA, hlk, hret, hfr, hlo, hce, hsl⟩ := F
  intro H locs lsA hP hS hl
  subst hret
  exact W.aret hx hb hr (Or.inr ⟨_, rfl⟩) (Or.inr ⟨_, rfl⟩) (fun u hu hW => ⟨⟨by rw [h1], by rw [h2, hu]; exact hP, va_K.moved hW.alike hK⟩, hS.F hu⟩) hS.2.2 d hlk
theorem wz_good {y : MethodName} {cc : ByteArray} {maxL : Nat} {ret : Option FieldType} (h : Cond.code y cc maxL ret ∈ lw_ok) : GoodIn lw_ok (wz y cc maxL ret) := by
  intro w hw
  rcases List.mem_cons.mp hw with rfl | hw
  · exact ⟨h, good_of_word (List.mem_filter.mp h).2⟩
  · exact ⟨hw, good_of_word (List.mem_filter.mp hw).2⟩
theorem Wd_blind {D : Dm} {σ : Mm} {as : List Value} : FrameBlind (va_Pc as (Wd D σ)) := fun a U g mk q => ⟨q.1, q.2.1, va_K.moved (u := U) (U := U.calling g mk a) (Vm.Alike.refl U.vm) q.2.2.1, q.2.2.2.1, fun x hx => va_Nw.same (by rfl) (by rfl) (q.2.2.2.2 x hx)⟩
theorem AA_in {D : Dm} {A : Nat → Prop} (hA : ∀ k, k < 89 → A (D.2.1 k)) : ∀ q, AA D q → A q := fun q ⟨k, h, e⟩ => by rw [e]; exact hA k h
section JRUN
variable {p : Program} {l : Launch} {e : Env} {R : Room} {s : State} {m : MethodId} {args : Array Value} {below : List Frame} {meth : Method} {c : Code} {H : Heap} {locs : List Loc} {cells slots : Nat} {Q : State → Prop}
theorem j_run {D : Dm} {A : Nat → Prop} {t : Option Value × Mm} {a : Array Value} {pc : Nat} {lsA : Array Slot} {rest st0 : List Value} (hr : va_Run p l e R s m args below meth c H locs cells slots 0 0 (F0 m pc lsA st0) rest (Qm D (AA D) t a) (AA D)) (hS : va_S A s.heap H locs) (hA : ∀ k, k < 89 → A (D.2.1 k))
    (kk : ∀ (H1 : Heap) (locs1 : List Loc), va_P D.1 vwCl (cw D t.2) H1 → va_S A s.heap H1 locs1 → W p l e R s m args below meth c H1 locs1 cells slots Q (F0 m (pc + 3) lsA (t.1.toList ++ rest))) : W p l e R s m args below meth c H locs cells slots Q (F0 m pc lsA st0) := by
  intro T hT X
  obtain ⟨v, st₀, u, T', L, h0, X', hL, e1, e2, ⟨⟨hv, hp, -⟩, hz, hk⟩, st⟩ := hr T hT X
  have ev : v = t.1 := by
    injection hv
  subst ev
  rw [h0] at hz hk
  have hAA := AA_in hA
  obtain ⟨t2, a1, b1⟩ := kk T'.heap (locs ++ L) (by rw [e1]; exact hp)
    ⟨Nat.le_trans hS.1 (by rw [e1]; exact hz), fun q h1 h2 => by rw [e1, hk q (Nat.lt_of_lt_of_le h1 hS.1) (fun z => h2 (hAA q z))]; exact hS.2.1 q h1 h2, fun q hq => by
      rcases List.mem_append.mp hq with h | h
      · exact hS.2.2 q h
      · exact hAA _ (hL q h)⟩ T' rfl X'
  exact ⟨t2, st t2 a1, b1⟩
end JRUN
/-- the sum of what stands below a call -/
abbrev catS (st : List Value) : Nat := (st.map fun v => v.category).sum
theorem jcb_of {R : Room} {s : State} {args : Array Value} {own : String} {index mx n9 d9 dep : Nat} {y : MethodName} {c9 : ByteArray} {r9 : Option FieldType} (hts : ∀ w ∈ lw_ok, w.before args s = true) (hc : Cond.code y c9 mx r9 ∈ lw_ok) (hini : Cond.initialized y.cls ∈ lw_ok) (hne : y.cls ≠ "java/lang/invoke/MethodHandle" ∧ y.cls ≠ "java/lang/invoke/VarHandle") (hl : Cond.methodLink own index y ∈ lw_ok) (hp9 : (parseMethodDescriptor y.desc).map (fun d => d.parameters.length) = some n9) (hdep : d9 < dep) (hmx : mx ≤ 45) (hfr : dep ≤ R.frames) (hlo : 64 * dep ≤ R.locals) : CallB R s args own index y c9 mx r9 (wz y c9 mx r9) (rmd d9) 0 0 n9 :=
  callB_of n9 hts (wz_good hc) rfl rfl rfl (hts _ hini) (hts _ hl) ⟨hne.1, hne.2, hp9⟩ ⟨Nat.le_trans hdep hfr, by show 8 + (mx + 11) + 64 * d9 ≤ R.locals; omega⟩
theorem jcn_of {R : Room} {s : State} {args : Array Value} {own host : String} {index mx n9 d9 dep : Nat} {y : MethodName} {c9 : ByteArray} {r9 : Option FieldType} (hts : ∀ w ∈ lw_ok, w.before args s = true) (hc : Cond.code y c9 mx r9 ∈ lw_ok) (hini : Cond.initialized y.cls ∈ lw_ok) (hne : y.cls ≠ "java/lang/invoke/MethodHandle" ∧ y.cls ≠ "java/lang/invoke/VarHandle") (hl : va_Nw (.methodLinkNest own index y host) s) (hp9 : (parseMethodDescriptor y.desc).map (fun d => d.parameters.length) = some n9) (hdep : d9 < dep) (hmx : mx ≤ 45) (hfr : dep ≤ R.frames) (hlo : 64 * dep ≤ R.locals) : va_CN R s args own index y host c9 mx r9 (wz y c9 mx r9) (rmd d9) 0 0 n9 :=
  va_cnB n9 hts (wz_good hc) rfl rfl rfl hl (hts _ hini) ⟨hne.1, hne.2, hp9⟩ ⟨Nat.le_trans hdep hfr, by show 8 + (mx + 11) + 64 * d9 ≤ R.locals; omega⟩
theorem j_callV {X : Cx} {l : Launch} {nL : Nat} {D : Dm} {cc : ByteArray} {own : String} {dep : Nat} {ret : Option FieldType} {σ : Mm} {pc : Nat} {ls : List (Nat × Value)} {st : List Value} {Q : State → Prop} (F : Fx X l nL D cc own dep ret) {y : MethodName} {c9 : ByteArray} {mx index n9 d9 : Nat} {r9 : Option FieldType} {as : List Value} {t : Option Value × Mm} {st9 : List Value} {k ci : Nat} {q9 : vw_C} {fs : List Value} (cv : jCV y c9 mx r9) (d : decode cc pc = .ok (.invokevirtual index, 3)) (n : Nat) (hn : pc + 3 = n) (hp9 : (parseMethodDescriptor y.desc).map (fun d => d.parameters.length) = some n9) (hlen : as.length = n9) (hdep : d9 < dep) (hmx : mx ≤ 45) (hst : catS st ≤ 8) (hst9 : as.reverse ++ .ref (D.2.1 k) :: st = st9) (hl9 : Cond.methodLink own index y ∈ lw_ok) (hc9 : vwCl[ci]? = some q9) (hq9 : q9.1 = y.cls) (hk : k < 89) (hs : shp D.2.1 D.2.2 k (σ.1 k) (σ.2 k) = .inr (ci, fs)) (hM : Ct l y c9 mx r9 d9 D (.ref (D.2.1 k) :: as) σ t) (kk : JJ X nL D t.2 n ls (t.1.toList ++ st) Q) : JJ X nL D σ pc ls st9 Q := by
  subst hn
  subst hst9
  obtain ⟨p, l9, e, R, s, m, args, below, meth, c, cells, slots, A⟩ := X
  obtain ⟨rfl, hx, hb, hml, hown, hts, hK, hi, hNs, hA, hlk, hret, hfr, hlo, hce, hsl⟩ := F
  intro H locs lsA hP hS hl
  obtain ⟨c1, c2, c3, c4, c5⟩ := cv
  have hrec := va_recv hK hP hc9 ((cw_get hk).trans (by rw [hs]))
  rw [hq9] at hrec
  exact j_run (va_runV (As := as) (rest := st) ⟨hx, hb, hml, hown, hts⟩ hM ⟨jcb_of hts c1 c4 c5 hl9 hp9 hdep hmx hfr hlo, hts _ c2, hts _ c3⟩ ⟨Wd_blind, hrec, fun U hU hW => ⟨rfl, by rw [hU]; exact hP, va_K.moved hW.alike hK, hi, hNs.warm hW⟩⟩ rfl hlen hl.1 rfl (lv_room hst) d ⟨hce, hsl⟩) hS hA (fun H1 locs1 hP1 hS1 => kk H1 locs1 lsA hP1 hS1 hl)
theorem j_callS {X : Cx} {l : Launch} {nL : Nat} {D : Dm} {cc : ByteArray} {own : String} {dep : Nat} {ret : Option FieldType} {σ : Mm} {pc : Nat} {ls : List (Nat × Value)} {st : List Value} {Q : State → Prop} (F : Fx X l nL D cc own dep ret) {y : MethodName} {c9 : ByteArray} {mx index n9 d9 : Nat} {r9 : Option FieldType} {as : List Value} {t : Option Value × Mm} {st9 : List Value} (cv : jCS y c9 mx r9) (d : decode cc pc = .ok (.invokestatic index, 3)) (n : Nat) (hn : pc + 3 = n) (hp9 : (parseMethodDescriptor y.desc).map (fun d => d.parameters.length) = some n9) (hlen : as.length = n9) (hdep : d9 < dep) (hmx : mx ≤ 45) (hst : catS st ≤ 8) (hst9 : as.reverse ++ st = st9) (hl9 : Cond.methodLink own index y ∈ lw_ok) (hM : Ct l y c9 mx r9 d9 D as σ t) (kk : JJ X nL D t.2 n ls (t.1.toList ++ st) Q) : JJ X nL D σ pc ls st9 Q := by
  subst hn
  subst hst9
  obtain ⟨p, l9, e, R, s, m, args, below, meth, c, cells, slots, A⟩ := X
  obtain ⟨rfl, hx, hb, hml, hown, hts, hK, hi, hNs, hA, hlk, hret, hfr, hlo, hce, hsl⟩ := F
  intro H locs lsA hP hS hl
  obtain ⟨c1, c2, c4, c5⟩ := cv
  exact j_run (va_runS (As := as) (rest := st) ⟨hx, hb, hml, hown, hts⟩ hM ⟨jcb_of hts c1 c4 c5 hl9 hp9 hdep hmx hfr hlo, hts _ c2⟩ ⟨Wd_blind, fun U hU hW => ⟨rfl, by rw [hU]; exact hP, va_K.moved hW.alike hK, hi, hNs.warm hW⟩⟩ rfl hlen hl.1 rfl (lv_room hst) d ⟨hce, hsl⟩) hS hA (fun H1 locs1 hP1 hS1 => kk H1 locs1 lsA hP1 hS1 hl)
theorem j_callSN {X : Cx} {l : Launch} {nL : Nat} {D : Dm} {cc : ByteArray} {own : String} {dep : Nat} {ret : Option FieldType} {σ : Mm} {pc : Nat} {ls : List (Nat × Value)} {st : List Value} {Q : State → Prop} (F : Fx X l nL D cc own dep ret) {y : MethodName} {c9 : ByteArray} {mx index n9 d9 : Nat} {r9 : Option FieldType} {as : List Value} {t : Option Value × Mm} {st9 : List Value} {host : String} (cv : jCS y c9 mx r9) (d : decode cc pc = .ok (.invokestatic index, 3)) (n : Nat) (hn : pc + 3 = n) (hp9 : (parseMethodDescriptor y.desc).map (fun d => d.parameters.length) = some n9) (hlen : as.length = n9) (hdep : d9 < dep) (hmx : mx ≤ 45) (hst : catS st ≤ 8) (hst9 : as.reverse ++ st = st9) (hl9 : (own, index, y, host) ∈ nestL) (hM : Ct l y c9 mx r9 d9 D as σ t) (kk : JJ X nL D t.2 n ls (t.1.toList ++ st) Q) : JJ X nL D σ pc ls st9 Q := by
  subst hn
  subst hst9
  obtain ⟨p, l9, e, R, s, m, args, below, meth, c, cells, slots, A⟩ := X
  obtain ⟨rfl, hx, hb, hml, hown, hts, hK, hi, hNs, hA, hlk, hret, hfr, hlo, hce, hsl⟩ := F
  intro H locs lsA hP hS hl
  obtain ⟨c1, c2, c4, c5⟩ := cv
  exact j_run (va_runSN (As := as) (rest := st) ⟨hx, hb, hml, hown, hts⟩ hM ⟨jcn_of hts c1 c4 c5 (hNs _ hl9) hp9 hdep hmx hfr hlo, hts _ c2, trivial⟩ ⟨Wd_blind, fun U hU hW => ⟨rfl, by rw [hU]; exact hP, va_K.moved hW.alike hK, hi, hNs.warm hW⟩⟩ rfl hlen hl.1 rfl (lv_room hst) d ⟨hce, hsl⟩) hS hA (fun H1 locs1 hP1 hS1 => kk H1 locs1 lsA hP1 hS1 hl)
theorem j_mmax {X : Cx} {l : Launch} {nL : Nat} {D : Dm} {cc : ByteArray} {own : String} {dep : Nat} {ret : Option FieldType} {σ : Mm} {pc : Nat} {ls : List (Nat × Value)} {st : List Value} {Q : State → Prop} (F : Fx X l nL D cc own dep ret) {x y : Int32} {index : Nat} (d : decode cc pc = .ok (.invokestatic index, 3)) (n : Nat) (hn : pc + 3 = n) (hdep : 0 < dep) (hst : catS st ≤ 8) (hl9 : Cond.methodLink own index Lib.Math.max.name ∈ lw_ok) (h1 : Cond.static Lib.Math.max.name ∈ lw_ok) (h2 : Cond.initialized "java/lang/Math" ∈ lw_ok) (h3 : Cond.code Lib.Math.max.name Lib.Math.max.code 2 (some .int) ∈ lw_ok) (kk : JJ X nL D σ n ls (.int (if x < y then y else x) :: st) Q) : JJ X nL D σ pc ls (.int y :: .int x :: st) Q := by
  subst hn
  obtain ⟨p, l9, e, R, s, m, args, below, meth, c, cells, slots, A⟩ := X
  obtain ⟨rfl, hx, hb, hml, hown, hts, hK, hi, hNs, hA, hlk, hret, hfr, hlo, hce, hsl⟩ := F
  intro H locs lsA hP hS hl
  exact va_mmax hx hb (hml.trans hl.1.symm) hown (hts _ hl9) (hts _ h1) (hts _ h2) (hts _ h3) (by omega) (by have h7 : (st.map fun v => v.category).sum ≤ 8 := hst; omega) hce hsl d (kk H locs lsA hP hS hl)
theorem j_mmin {X : Cx} {l : Launch} {nL : Nat} {D : Dm} {cc : ByteArray} {own : String} {dep : Nat} {ret : Option FieldType} {σ : Mm} {pc : Nat} {ls : List (Nat × Value)} {st : List Value} {Q : State → Prop} (F : Fx X l nL D cc own dep ret) {x y : Int32} {index : Nat} (d : decode cc pc = .ok (.invokestatic index, 3)) (n : Nat) (hn : pc + 3 = n) (hdep : 0 < dep) (hst : catS st ≤ 8) (hl9 : Cond.methodLink own index Lib.Math.min.name ∈ lw_ok) (h1 : Cond.static Lib.Math.min.name ∈ lw_ok) (h2 : Cond.initialized "java/lang/Math" ∈ lw_ok) (h3 : Cond.code Lib.Math.min.name Lib.Math.min.code 2 (some .int) ∈ lw_ok) (kk : JJ X nL D σ n ls (.int (if y < x then y else x) :: st) Q) : JJ X nL D σ pc ls (.int y :: .int x :: st) Q := by
  subst hn
  obtain ⟨p, l9, e, R, s, m, args, below, meth, c, cells, slots, A⟩ := X
  obtain ⟨rfl, hx, hb, hml, hown, hts, hK, hi, hNs, hA, hlk, hret, hfr, hlo, hce, hsl⟩ := F
  intro H locs lsA hP hS hl
  exact va_mmin hx hb (hml.trans hl.1.symm) hown (hts _ hl9) (hts _ h1) (hts _ h2) (hts _ h3) (by omega) (by have h7 : (st.map fun v => v.category).sum ≤ 8 := hst; omega) hce hsl d (kk H locs lsA hP hS hl)
theorem j_mabs {X : Cx} {l : Launch} {nL : Nat} {D : Dm} {cc : ByteArray} {own : String} {dep : Nat} {ret : Option FieldType} {σ : Mm} {pc : Nat} {ls : List (Nat × Value)} {st : List Value} {Q : State → Prop} (F : Fx X l nL D cc own dep ret) {x : Int32} {index : Nat} (d : decode cc pc = .ok (.invokestatic index, 3)) (n : Nat) (hn : pc + 3 = n) (hdep : 0 < dep) (hst : catS st ≤ 8) (hl9 : Cond.methodLink own index Lib.Math.abs.name ∈ lw_ok) (h1 : Cond.static Lib.Math.abs.name ∈ lw_ok) (h2 : Cond.initialized "java/lang/Math" ∈ lw_ok) (h3 : Cond.code Lib.Math.abs.name Lib.Math.abs.code 1 (some .int) ∈ lw_ok) (kk : JJ X nL D σ n ls (.int (if 0 ≤ x then x else 0 - x) :: st) Q) : JJ X nL D σ pc ls (.int x :: st) Q := by
  subst hn
  obtain ⟨p, l9, e, R, s, m, args, below, meth, c, cells, slots, A⟩ := X
  obtain ⟨rfl, hx, hb, hml, hown, hts, hK, hi, hNs, hA, hlk, hret, hfr, hlo, hce, hsl⟩ := F
  intro H locs lsA hP hS hl
  exact va_mabs hx hb (hml.trans hl.1.symm) hown (hts _ hl9) (hts _ h1) (hts _ h2) (hts _ h3) (by omega) (by have h7 : (st.map fun v => v.category).sum ≤ 8 := hst; omega) hce hsl d (kk H locs lsA hP hS hl)
theorem ct_of {l : Launch} {y : MethodName} {cc : ByteArray} {nL : Nat} {ret : Option FieldType} {d : Nat} {D : Dm} {as : List Value} {σ : Mm} {t : Option Value × Mm} (hy : plainName y.cls = true) (hn : (lg_sl as).length ≤ nL)
    (body : ∀ X : Cx, Fx X l nL D cc y.cls d ret → JJ X nL D σ 0 (lv_args 0 as) [] (QQ X D t)) : Ct l y cc nL ret d D as σ t := by
  refine Met.ofW (cc := cc) (maxL := nL) (ret := ret) hy rfl ?_
  intro p e s m args below meth c s₁ B hml hv
  obtain ⟨rfl, hP, hK, hi, hNs⟩ := hv
  have hts := atoms_spec (ws := wz y cc nL ret) B.pre
  have hl := lv_entry as hn
  rw [lg_entry_eq]
  generalize (lg_sl as ++ List.replicate (nL - (lg_sl as).length) Slot.unset).toArray = lsA at hl ⊢
  exact body (p, l, e, (headSpec (wz y cc nL ret) (rmd d)).room, s, m, as.toArray, below, meth, c, 0, 0, AA D) ⟨rfl, B.exec, B.bytes, hml, findClass_of_methodNamed B.named, fun w hw => hts w (List.mem_cons_of_mem _ hw), hK, hi, hNs, fun k hk => ⟨k, hk, rfl⟩, B.notSynchronized, B.returns, Nat.le_refl _, Nat.le_refl _, Nat.zero_le _, Nat.zero_le _⟩ s.heap [] lsA hP va_S.rf hl
