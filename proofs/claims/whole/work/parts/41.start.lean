def hs0 : Nat → Int32 := fun j => match j with
  | 2 => 4
  | _ => 0
/-- the memory at the start -/
def σ0 : Mm := (fun k => if k = 34 then upd (fun _ => 0) 11 4 else if 49 ≤ k ∧ k % 2 = 1 then hs0 else fun _ => 0, fun _ => 0)
theorem lw_known {s : State} {args : Array Value} (hts : ∀ w ∈ lw_ok, w.before args s = true) : ∃ G : va_G, ∀ (c : Nat) (q : vw_C), vwCl[c]? = some q → u_Kn s q.1 q.2.1 q.2.2 (G.1 c) (G.2 c) := by
  obtain ⟨c0, i0, h0⟩ := u_known hts inX0 (hts _ inX0_i)
  obtain ⟨c1, i1, h1⟩ := u_known hts inX1 (hts _ inX1_i)
  obtain ⟨c2, i2, h2⟩ := u_known hts inX2 (hts _ inX2_i)
  obtain ⟨c3, i3, h3⟩ := u_known hts inX3 (hts _ inX3_i)
  obtain ⟨c4, i4, h4⟩ := u_known hts inX4 (hts _ inX4_i)
  obtain ⟨c5, i5, h5⟩ := u_known hts inX5 (hts _ inX5_i)
  obtain ⟨c6, i6, h6⟩ := u_known hts inX6 (hts _ inX6_i)
  obtain ⟨c7, i7, h7⟩ := u_known hts inX7 (hts _ inX7_i)
  obtain ⟨c8, i8, h8⟩ := u_known hts inX8 (hts _ inX8_i)
  obtain ⟨c9, i9, h9⟩ := u_known hts inX9 (hts _ inX9_i)
  obtain ⟨c10, i10, h10⟩ := u_known hts inX10 (hts _ inX10_i)
  refine ⟨(fun c => match c with
    | 0 => c0
    | 1 => c1
    | 2 => c2
    | 3 => c3
    | 4 => c4
    | 5 => c5
    | 6 => c6
    | 7 => c7
    | 8 => c8
    | 9 => c9
    | 10 => c10
    | _ => c0, fun c => match c with
    | 0 => i0
    | 1 => i1
    | 2 => i2
    | 3 => i3
    | 4 => i4
    | 5 => i5
    | 6 => i6
    | 7 => i7
    | 8 => i8
    | 9 => i9
    | 10 => i10
    | _ => i0), fun c q h => ?_⟩
  match c, h with
  | 0, h => cases h; exact h0
  | 1, h => cases h; exact h1
  | 2, h => cases h; exact h2
  | 3, h => cases h; exact h3
  | 4, h => cases h; exact h4
  | 5, h => cases h; exact h5
  | 6, h => cases h; exact h6
  | 7, h => cases h; exact h7
  | 8, h => cases h; exact h8
  | 9, h => cases h; exact h9
  | 10, h => cases h; exact h10
  | _ + 11, h => cases h
def adL (q1 q2 : Nat) (r1 r2 : List Nat) : List Nat := [q1, (r1.getD 40 0), (r1.getD 0 0), (r1.getD 1 0), (r1.getD 6 0), (r1.getD 7 0), (r1.getD 45 0), (r1.getD 46 0), (r1.getD 51 0), (r1.getD 52 0), (r1.getD 53 0), (r1.getD 54 0), (r1.getD 55 0), (r1.getD 56 0), (r1.getD 57 0), (r1.getD 58 0), (r1.getD 59 0), (r1.getD 47 0), (r1.getD 48 0), (r1.getD 49 0), (r1.getD 50 0), (r1.getD 66 0), (r1.getD 67 0), (r1.getD 68 0), (r1.getD 69 0), (r1.getD 70 0), (r1.getD 60 0), (r1.getD 61 0), (r1.getD 62 0), (r1.getD 63 0), (r1.getD 64 0), (r1.getD 65 0), (r1.getD 71 0), q2, (r2.getD 0 0), (r2.getD 1 0), (r2.getD 2 0), (r2.getD 3 0), (r2.getD 4 0), (r2.getD 5 0), (r2.getD 6 0), (r2.getD 7 0), (r2.getD 8 0), (r2.getD 9 0), (r2.getD 10 0), (r2.getD 11 0), (r2.getD 12 0), (r2.getD 13 0), (r2.getD 14 0), (r1.getD 2 0), (r1.getD 3 0), (r1.getD 4 0), (r1.getD 5 0), (r1.getD 41 0), (r1.getD 42 0), (r1.getD 43 0), (r1.getD 44 0), (r1.getD 8 0), (r1.getD 9 0), (r1.getD 10 0), (r1.getD 11 0), (r1.getD 12 0), (r1.getD 13 0), (r1.getD 14 0), (r1.getD 15 0), (r1.getD 16 0), (r1.getD 17 0), (r1.getD 18 0), (r1.getD 19 0), (r1.getD 20 0), (r1.getD 21 0), (r1.getD 22 0), (r1.getD 23 0), (r1.getD 24 0), (r1.getD 25 0), (r1.getD 26 0), (r1.getD 27 0), (r1.getD 28 0), (r1.getD 29 0), (r1.getD 30 0), (r1.getD 31 0), (r1.getD 32 0), (r1.getD 33 0), (r1.getD 34 0), (r1.getD 35 0), (r1.getD 36 0), (r1.getD 37 0), (r1.getD 38 0), (r1.getD 39 0)]
def adF (q1 q2 : Nat) (r1 r2 : List Nat) : Nat → Nat := fun k => (adL q1 q2 r1 r2).getD k 0
def prm : List Nat := [0, 41, 1, 2, 7, 8, 46, 47, 52, 53, 54, 55, 56, 57, 58, 59, 60, 48, 49, 50, 51, 67, 68, 69, 70, 71, 61, 62, 63, 64, 65, 66, 72, 73, 74, 75, 76, 77, 78, 79, 80, 81, 82, 83, 84, 85, 86, 87, 88, 3, 4, 5, 6, 42, 43, 44, 45, 9, 10, 11, 12, 13, 14, 15, 16, 17, 18, 19, 20, 21, 22, 23, 24, 25, 26, 27, 28, 29, 30, 31, 32, 33, 34, 35, 36, 37, 38, 39, 40]
theorem arrV_agree {c : ClassId} {n : Nat} {f g : Nat → Value} (h : ∀ j, j < n → f j = g j) : arrV c n f = arrV c n g := by
  have e : (fun j : Fin n => f j.val) = fun j => g j.val := funext fun j => h j.1 j.2
  unfold arrV
  rw [e]
theorem vp_cell_agree {c : ClassId} {n : Nat} {f g : Nat → Option Nat} (h : ∀ j, j < n → f j = g j) : vp_cell c (n, qs f) = vp_cell c (n, qs g) := by
  show arrV c n (fun j => va_rf (f j)) = arrV c n (fun j => va_rf (g j))
  exact arrV_agree (fun j hj => congrArg va_rf (h j hj))
theorem va_set_q {G : va_G} {A : Nat → Prop} {ws ws' : va_W} {H : Heap} {p a n : Nat} {c : ClassId} {f : Nat → Option Nat} (g : Nat → Option Nat) (hP : va_P G vwCl ws H) (hD : va_D A ws) (hp : ws[p]? = some (a, .inl (c, (n, qs f)))) (h : ∀ j, j < n → f j = g j) (hw : ws.set p (a, .inl (c, (n, qs g))) = ws') : va_P G vwCl ws' H ∧ va_D A ws' := by
  subst hw
  refine ⟨va_P.set hP hD hp ?_ (fun _ _ => rfl), va_D.set hD hp⟩
  have e := hP p _ hp
  show H[a]? = some (vp_cell c (n, qs g))
  rw [← vp_cell_agree h]
  exact e
set_option maxRecDepth 40000 in
set_option maxHeartbeats 4000000 in
/-- the world of the two new objects, in the order of the places -/
theorem world_0 {G : va_G} {A : Nat → Prop} {cA : Nat → ClassId} {q1 q2 : Nat} {r1 r2 : List Nat} {H : Heap} (hP : va_P G vwCl (wX9 cA q1 r1 ++ wX10 cA q2 r2) H) (hD : va_D A (wX9 cA q1 r1 ++ wX10 cA q2 r2)) : va_P G vwCl (cw (G, adF q1 q2 r1 r2, cA) σ0) H ∧ va_D A (cw (G, adF q1 q2 r1 r2, cA) σ0) := by
  have w0 := va_set_q (p := 41) (n := 2) (fun j => some (adF q1 q2 r1 r2 (53 + 2 * j))) hP hD rfl (fun j hj => by rcases (show j = 0 ∨ j = 1 by omega) with rfl | rfl <;> rfl) rfl
  have w1 := va_set_q (p := 8) (n := 16) (fun j => some (adF q1 q2 r1 r2 (57 + 2 * j))) w0.1 w0.2 rfl (fun j hj => by rcases (show j = 0 ∨ j = 1 ∨ j = 2 ∨ j = 3 ∨ j = 4 ∨ j = 5 ∨ j = 6 ∨ j = 7 ∨ j = 8 ∨ j = 9 ∨ j = 10 ∨ j = 11 ∨ j = 12 ∨ j = 13 ∨ j = 14 ∨ j = 15 by omega) with rfl | rfl | rfl | rfl | rfl | rfl | rfl | rfl | rfl | rfl | rfl | rfl | rfl | rfl | rfl | rfl <;> rfl) rfl
  have w2 := va_set_q (p := 53) (n := 3) (fun j => some (adF q1 q2 r1 r2 (10 + j))) w1.1 w1.2 rfl (fun j hj => by rcases (show j = 0 ∨ j = 1 ∨ j = 2 by omega) with rfl | rfl | rfl <;> rfl) rfl
  have w3 := va_set_q (p := 57) (n := 3) (fun j => some (adF q1 q2 r1 r2 (14 + j))) w2.1 w2.2 rfl (fun j hj => by rcases (show j = 0 ∨ j = 1 ∨ j = 2 by omega) with rfl | rfl | rfl <;> rfl) rfl
  exact ⟨w3.1.sub prm rfl, w3.2.sub prm (by decide +kernel) rfl⟩
theorem ao_h : Cond.arrayOver (.object "LastOfKind$House") ∈ lw_tbl := by decide +kernel
theorem ao_i : Cond.arrayOver (.array .int) ∈ lw_tbl := by decide +kernel
set_option maxHeartbeats 4000000 in
set_option maxRecDepth 20000 in
/-- from the entry to the end -/
theorem whole_go (hch : ct_chance) (hbt : ct_byTurns) {Rv : Mm → Prop} (hsc : sc_all Rv) (hR0 : Rv σ0) {p : Program} {e : Env} {s : State} {m : MethodId} {below : List Frame} {meth : Method} {c : Code} (l : Launch) {b L : Nat} {xs : Nat → Int32} (hL : L ≤ 256) (C0 : lw_At p s m meth c b L xs) : W p l e room_1 s m #[Value.ref b] below meth c s.heap [] 0 0 (lw_Z below #[Value.ref b] s) (entryFrame m ([Value.ref b] : List Value).toArray 4) := by
  obtain ⟨hx, hb, hret, hml, hown, hts0, hX, hbl, hlk, -⟩ := C0
  have hts : ∀ w ∈ lw_ok, w.before #[Value.ref b] s = true := fun w hw => hts0 w (List.mem_filter.mp hw).1
  obtain ⟨G, hG⟩ := lw_known hts
  obtain ⟨c0, h01, h02⟩ := ac_prim (fun C h => by cases h) (hts _ ac_int)
  obtain ⟨c1, h11, h12⟩ := ac_prim (fun C h => by cases h) (hts _ ac_bool)
  obtain ⟨c2, h21, h22⟩ := ac_obj (hts0 _ ao_h)
  obtain ⟨c3, h31, h32⟩ := ac_arr (hts0 _ ao_i)
  obtain ⟨cA, e0, e1, e2, e3⟩ : ∃ cA : Nat → ClassId, cA 0 = c0 ∧ cA 1 = c1 ∧ cA 2 = c2 ∧ cA 3 = c3 := ⟨fun k => [c0, c1, c2, c3].getD k c0, rfl, rfl, rfl, rfl⟩
  subst e0 e1 e2 e3
  have hK : va_K G vwCl (tyc cA) s := by
    refine ⟨hG, fun k q hk => ?_⟩
    match k, hk with
    | 0, hk => cases hk; exact ⟨h01, h02⟩
    | 1, hk => cases hk; exact ⟨h11, h12⟩
    | 2, hk => cases hk; exact ⟨h21, h22⟩
    | 3, hk => cases hk; exact ⟨h31, h32⟩
    | _ + 4, hk => cases hk
  have hO : AO2 s := ⟨va_AO.of (hts0 _ ao_h), hts0 _ ao_i⟩
  have hN : Nst s := fun q hq => va_Nw.of rfl (hts0 _ (nestL_in q hq))
  rw [lg_entry_eq]
  have hl := lv_entry [Value.ref b] (n := 4) (Nat.le_of_ble_eq_true rfl)
  generalize (lg_sl ([.ref b]) ++ List.replicate (4 - (lg_sl ([.ref b])).length) Slot.unset).toArray = lsA at hl ⊢
  have F : Fk (p, l, e, room_1, s, m, #[Value.ref b], below, meth, c, 0, 0, fun q => s.heap.size ≤ q) l 4 G cA cL_law RL 100 89 1966 := ⟨rfl, hx, hb, hml, hown, hts, hK, hO, fun q h => h, hlk, by decide, by decide, by decide, by decide⟩
  have J : JK (p, l, e, room_1, s, m, #[Value.ref b], below, meth, c, 0, 0, fun q => s.heap.size ≤ q) 4 G [] 0 [(0, .ref b)] [] 0 0 (lw_Z below #[Value.ref b] s) := by
    refine k_new (ci := 9) (fs := [.null, .null, .null, .null, .null, .int 0, .null, .null, .null, .null, .null]) F dL_law_0 3 rfl inX9 tyX9 tyX9_ok qL_7 inX9_i zX9_init.2.2.1 rfl (fun j hj => by rcases (show j = 0 ∨ j = 1 ∨ j = 2 ∨ j = 3 ∨ j = 4 ∨ j = 5 ∨ j = 6 ∨ j = 7 ∨ j = 8 ∨ j = 9 ∨ j = 10 by omega) with rfl | rfl | rfl | rfl | rfl | rfl | rfl | rfl | rfl | rfl | rfl <;> rfl) (by decide) (by decide) (fun q1 => ?_)
    refine k_dup F dL_law_3 4 rfl rfl ?_
    refine k_ctor (q := q1) F dL_law_4 7 rfl (kX9_init l G cA) qL_9 zX9_init.1 zX9_init.2.1 zX9_init.2.2.1 zX9_init.2.2.2.1 zX9_init.2.2.2.2 rfl (by decide) (by decide) (Nat.le_of_ble_eq_true rfl) (by decide) (by decide) (fun r1 => ?_)
    refine k_astore_n F dL_law_7 8 rfl 1 rfl (by decide) [(1, .ref q1), (0, .ref b)] rfl ?_
    refine k_new (ci := 10) (fs := [.null, .null, .int 0, .int 0, .int 0, .null, .int 0, .null, .null, .null, .int 0, .int 0, .int 0, .null, .null, .null, .null, .null, .null, .null, .long 0, .null, .null]) F dL_law_8 11 rfl inX10 tyX10 tyX10_ok qL_10 inX10_i zX10_init.2.2.1 rfl (fun j hj => by rcases (show j = 0 ∨ j = 1 ∨ j = 2 ∨ j = 3 ∨ j = 4 ∨ j = 5 ∨ j = 6 ∨ j = 7 ∨ j = 8 ∨ j = 9 ∨ j = 10 ∨ j = 11 ∨ j = 12 ∨ j = 13 ∨ j = 14 ∨ j = 15 ∨ j = 16 ∨ j = 17 ∨ j = 18 ∨ j = 19 ∨ j = 20 ∨ j = 21 ∨ j = 22 by omega) with rfl | rfl | rfl | rfl | rfl | rfl | rfl | rfl | rfl | rfl | rfl | rfl | rfl | rfl | rfl | rfl | rfl | rfl | rfl | rfl | rfl | rfl | rfl <;> rfl) (by decide) (by decide) (fun q2 => ?_)
    refine k_dup F dL_law_11 12 rfl rfl ?_
    refine k_ctor (q := q2) F dL_law_12 15 rfl (kX10_init l G cA) qL_12 zX10_init.1 zX10_init.2.1 zX10_init.2.2.1 zX10_init.2.2.2.1 zX10_init.2.2.2.2 rfl (by decide) (by decide) (Nat.le_of_ble_eq_true rfl) (by decide) (by decide) (fun r2 => ?_)
    refine k_astore_n F dL_law_15 16 rfl 2 rfl (by decide) [(2, .ref q2), (1, .ref q1), (0, .ref b)] rfl ?_
    refine k_iconst (v := 0) F dL_law_16 17 rfl (by decide) ?_
    refine k_istore_n F dL_law_17 18 rfl 3 rfl (by decide) [(3, .int 0), (2, .ref q2), (1, .ref q1), (0, .ref b)] rfl ?_
    intro H locs lsB hP hD hS hl
    obtain ⟨hP, hD⟩ := world_0 hP hD
    have FF : Fx (p, l, e, room_1, s, m, #[Value.ref b], below, meth, c, 89, 1966, fun q => s.heap.size ≤ q) l 4 (G, adF q1 q2 r1 r2, cA) cL_law RL 100 (some .boolean) := ⟨rfl, hx, hb, hml, hown, hts, hK, fun i j hi hj h => hD.1 i j _ _ (cw_get hi) (cw_get hj) h, hN, fun k hk => hD.2 k _ (cw_get hk), hlk, hret, by decide, by decide, by decide, by decide⟩
    have hend : ∀ (σ : Mm) (ls : List (Nat × Value)), JJ (p, l, e, room_1, s, m, #[Value.ref b], below, meth, c, 89, 1966, fun q => s.heap.size ≤ q) 4 (G, adF q1 q2 r1 r2, cA) σ 1012 ls [.int 1] (lw_Z below #[Value.ref b] s) := by
      intro σ ls H locs lsB hP hS hl
      exact va_forget hS.2.2 (W.widen (k := 600000) (n := 7302250) (by decide) (by decide) (lw_ret hx hb hret hlk dL_law_1012))
    have g := law_go hch hbt FF hL ⟨hX, hbl, Nat.not_le.mpr hbl⟩ hsc hend 65 0 σ0 (by decide) (by decide) hR0
    exact g H locs lsB hP hS (lv_sub hl [3, 2, 1, 0] rfl)
  exact J s.heap [] lsA (fun k q h => (by cases h)) ⟨fun i j p q h => (by cases h), fun k q h => (by cases h)⟩ va_S.rf hl
