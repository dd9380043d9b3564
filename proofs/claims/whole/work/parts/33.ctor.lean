def wX6 (cA : Nat → ClassId) (h : Nat) (r : List Nat) : va_W := [(h, .inr (6, [.ref (r.getD 0 0), .int 0, .int 0])), ((r.getD 0 0), .inl (cA 2, (16, qs (fun j => ([(r.getD 1 0), (r.getD 3 0), (r.getD 5 0), (r.getD 7 0), (r.getD 9 0), (r.getD 11 0), (r.getD 13 0), (r.getD 15 0), (r.getD 17 0), (r.getD 19 0), (r.getD 21 0), (r.getD 23 0), (r.getD 25 0), (r.getD 27 0), (r.getD 29 0), (r.getD 31 0)] : List Nat)[j]?)))), ((r.getD 1 0), .inr (2, [.ref (r.getD 2 0), .int 0, .int 4, .int 0, .int 0, .int 0, .int 0, .int 0])), ((r.getD 2 0), .inl (cA 0, (8, .inl (fun _ => 0)))), ((r.getD 3 0), .inr (2, [.ref (r.getD 4 0), .int 0, .int 4, .int 0, .int 0, .int 0, .int 0, .int 0])), ((r.getD 4 0), .inl (cA 0, (8, .inl (fun _ => 0)))), ((r.getD 5 0), .inr (2, [.ref (r.getD 6 0), .int 0, .int 4, .int 0, .int 0, .int 0, .int 0, .int 0])), ((r.getD 6 0), .inl (cA 0, (8, .inl (fun _ => 0)))), ((r.getD 7 0), .inr (2, [.ref (r.getD 8 0), .int 0, .int 4, .int 0, .int 0, .int 0, .int 0, .int 0])), ((r.getD 8 0), .inl (cA 0, (8, .inl (fun _ => 0)))), ((r.getD 9 0), .inr (2, [.ref (r.getD 10 0), .int 0, .int 4, .int 0, .int 0, .int 0, .int 0, .int 0])), ((r.getD 10 0), .inl (cA 0, (8, .inl (fun _ => 0)))), ((r.getD 11 0), .inr (2, [.ref (r.getD 12 0), .int 0, .int 4, .int 0, .int 0, .int 0, .int 0, .int 0])), ((r.getD 12 0), .inl (cA 0, (8, .inl (fun _ => 0)))), ((r.getD 13 0), .inr (2, [.ref (r.getD 14 0), .int 0, .int 4, .int 0, .int 0, .int 0, .int 0, .int 0])), ((r.getD 14 0), .inl (cA 0, (8, .inl (fun _ => 0)))), ((r.getD 15 0), .inr (2, [.ref (r.getD 16 0), .int 0, .int 4, .int 0, .int 0, .int 0, .int 0, .int 0])), ((r.getD 16 0), .inl (cA 0, (8, .inl (fun _ => 0)))), ((r.getD 17 0), .inr (2, [.ref (r.getD 18 0), .int 0, .int 4, .int 0, .int 0, .int 0, .int 0, .int 0])), ((r.getD 18 0), .inl (cA 0, (8, .inl (fun _ => 0)))), ((r.getD 19 0), .inr (2, [.ref (r.getD 20 0), .int 0, .int 4, .int 0, .int 0, .int 0, .int 0, .int 0])), ((r.getD 20 0), .inl (cA 0, (8, .inl (fun _ => 0)))), ((r.getD 21 0), .inr (2, [.ref (r.getD 22 0), .int 0, .int 4, .int 0, .int 0, .int 0, .int 0, .int 0])), ((r.getD 22 0), .inl (cA 0, (8, .inl (fun _ => 0)))), ((r.getD 23 0), .inr (2, [.ref (r.getD 24 0), .int 0, .int 4, .int 0, .int 0, .int 0, .int 0, .int 0])), ((r.getD 24 0), .inl (cA 0, (8, .inl (fun _ => 0)))), ((r.getD 25 0), .inr (2, [.ref (r.getD 26 0), .int 0, .int 4, .int 0, .int 0, .int 0, .int 0, .int 0])), ((r.getD 26 0), .inl (cA 0, (8, .inl (fun _ => 0)))), ((r.getD 27 0), .inr (2, [.ref (r.getD 28 0), .int 0, .int 4, .int 0, .int 0, .int 0, .int 0, .int 0])), ((r.getD 28 0), .inl (cA 0, (8, .inl (fun _ => 0)))), ((r.getD 29 0), .inr (2, [.ref (r.getD 30 0), .int 0, .int 4, .int 0, .int 0, .int 0, .int 0, .int 0])), ((r.getD 30 0), .inl (cA 0, (8, .inl (fun _ => 0)))), ((r.getD 31 0), .inr (2, [.ref (r.getD 32 0), .int 0, .int 4, .int 0, .int 0, .int 0, .int 0, .int 0])), ((r.getD 32 0), .inl (cA 0, (8, .inl (fun _ => 0))))]
def hsW (cA : Nat → ClassId) (r : List (Nat × Nat)) : va_W := r.flatMap fun p => [(p.1, .inr (2, [.ref p.2, .int 0, .int 4, .int 0, .int 0, .int 0, .int 0, .int 0])), (p.2, .inl (cA 0, (8, .inl (fun _ => 0))))]
theorem hsW_add (cA : Nat → ClassId) (r : List (Nat × Nat)) (p : Nat × Nat) : hsW cA (r ++ [p]) = hsW cA r ++ [(p.1, .inr (2, [.ref p.2, .int 0, .int 4, .int 0, .int 0, .int 0, .int 0, .int 0])), (p.2, .inl (cA 0, (8, .inl (fun _ => 0))))] := by
  simp [hsW]
theorem f_add (r : List (Nat × Nat)) (p : Nat × Nat) : va_up (fun j => (r.map Prod.fst)[j]?) r.length (some p.1) = fun j => ((r ++ [p]).map Prod.fst)[j]? := by
  funext j
  simp only [va_up, List.map_append, List.map_cons, List.map_nil]
  by_cases h : j = r.length
  · rw [if_pos h, h]
    simp
  · rw [if_neg h]
    by_cases h2 : j < r.length
    · rw [List.getElem?_append_left (by simp; exact h2)]
    · rw [List.getElem?_eq_none (by simp; omega), List.getElem?_eq_none (by simp; omega)]
theorem row_loop {X : Cx} {l : Launch} {G : va_G} {cA : Nat → ClassId} (F : Fk X l 2 G cA cX6_init RX6 2 33 272) {h0 qa : Nat} {Q : State → Prop} (K : ∀ r : List (Nat × Nat), r.length = 16 → ∀ ls, JK X 2 G ((h0, .inr (6, [.ref qa, .int 0, .int 0])) :: (qa, .inl (cA 2, (16, qs (fun j => (r.map Prod.fst)[j]?)))) :: hsW cA r) 43 ls [] 33 272 Q) : ∀ (m i : Nat) (r : List (Nat × Nat)), r.length = i → i + m = 16 → JK X 2 G ((h0, .inr (6, [.ref qa, .int 0, .int 0])) :: (qa, .inl (cA 2, (16, qs (fun j => (r.map Prod.fst)[j]?)))) :: hsW cA r) 15 [(1, .int (nI i)), (0, .ref h0)] [] (1 + 2 * i) (16 + 16 * i) Q := by
  intro m
  induction m with
  | zero =>
    intro i r hr hi
    have e : i = 16 := by omega
    subst e
    refine k_iload_n F dX6_init_15 16 rfl 0 rfl ?_
    refine k_aload_n F dX6_init_16 17 rfl 1 rfl ?_
    refine k_get (j := 0) F dX6_init_17 20 rfl inX6 rfl (by decide) qX6_11 rfl ?_
    refine k_alen (q0 := 1) F dX6_init_20 21 rfl rfl ?_
    refine k_icmp_ge F dX6_init_21 43 (by decide) 24 rfl (fun h9 => absurd h9 (by decide)) (fun _ => ?_)
    exact K r hr _
  | succ m ih =>
    intro i r hr hi
    refine k_iload_n F dX6_init_15 16 rfl 0 rfl ?_
    refine k_aload_n F dX6_init_16 17 rfl 1 rfl ?_
    refine k_get (j := 0) F dX6_init_17 20 rfl inX6 rfl (by decide) qX6_11 rfl ?_
    refine k_alen (q0 := 1) F dX6_init_20 21 rfl rfl ?_
    refine k_icmp_ge F dX6_init_21 43 (by decide) 24 rfl (fun _ => ?_) (fun h9 => absurd (show nI i < nI 16 from nI_lt (by omega) (by decide)) h9)
    refine k_aload_n F dX6_init_24 25 rfl 1 rfl ?_
    refine k_get (j := 0) F dX6_init_25 28 rfl inX6 rfl (by decide) qX6_11 rfl ?_
    refine k_iload_n F dX6_init_28 29 rfl 0 rfl ?_
    refine k_new (ci := 2) (fs := [.null, .int 0, .int 0, .int 0, .int 0, .int 0, .int 0, .int 0]) F dX6_init_29 32 rfl inX2 tyX2 tyX2_ok qX6_9 inX2_i zX2_init.2.2.1 rfl (fun j hj => by rcases (show j = 0 ∨ j = 1 ∨ j = 2 ∨ j = 3 ∨ j = 4 ∨ j = 5 ∨ j = 6 ∨ j = 7 by omega) with rfl | rfl | rfl | rfl | rfl | rfl | rfl | rfl <;> rfl) (by omega) (by omega) (fun q => ?_)
    refine k_dup F dX6_init_32 33 rfl rfl ?_
    refine k_ctor (q := q) F dX6_init_33 36 rfl (kX2_init l G cA) qX6_17 zX2_init.1 zX2_init.2.1 zX2_init.2.2.1 zX2_init.2.2.2.1 zX2_init.2.2.2.2 rfl (by decide) (by decide) (Nat.le_of_ble_eq_true rfl) (by omega) (by omega) (fun r1 => ?_)
    refine k_ast (q0 := 1) (wr := (h0, .inr (6, [.ref qa, .int 0, .int 0])) :: (qa, .inl (cA 2, (16, qs (fun j => (r.map Prod.fst)[j]?)))) :: hsW cA r) (ws' := (h0, .inr (6, [.ref qa, .int 0, .int 0])) :: (qa, .inl (cA 2, (16, qs (fun j => ((r ++ [(q, r1.getD 0 0)]).map Prod.fst)[j]?)))) :: hsW cA (r ++ [(q, r1.getD 0 0)])) F dX6_init_36 37 rfl rfl rfl (vp_in_nI (n := i) (by omega) (by decide)) ?_ ?_
    · rw [nI_cl (by omega), ← hr, ← f_add, hsW_add]
      rfl
    refine k_iinc F dX6_init_37 40 rfl 0 rfl (nI (i + 1)) (nI_inc i) (by decide) [(1, .int (nI (i + 1))), (0, .ref h0)] rfl ?_
    refine k_goto F dX6_init_40 15 (by decide) ?_
    have h := ih (i + 1) (r ++ [(q, r1.getD 0 0)]) (by simp; exact hr) (by omega)
    have e1 : 1 + 2 * (i + 1) = 1 + 2 * i + 1 + 1 := by omega
    have e2 : 16 + 16 * (i + 1) = 16 + 16 * i + 8 + 8 := by omega
    rw [e1, e2] at h
    exact h
set_option maxRecDepth 20000 in
theorem kX6_init (l : Launch) (G : va_G) (cA : Nat → ClassId) : CI l yX6_init cX6_init 2 2 33 272 G cA (.inr (6, [.null, .int 0, .int 0])) (wX6 cA) := by
  refine ci_of (by decide +kernel) rfl (by decide) (fun X h0 F hin Q hret => ?_)
  have F : Fk X l 2 G cA cX6_init RX6 2 33 272 := F
  refine k_aload_n F dX6_init_0 1 rfl 0 rfl ?_
  refine k_objInit F dX6_init_1 4 rfl qX6_3 (Nat.le_of_ble_eq_true rfl) (by decide) ?_
  refine k_aload_n F dX6_init_4 5 rfl 0 rfl ?_
  refine k_bipush (v := 16) F dX6_init_5 7 rfl (by decide) ?_
  refine k_newq (N := 16) F dX6_init_7 10 rfl qX6_9 (by decide) rfl (by decide) (by decide) (by decide) (fun qa => ?_)
  refine k_cast (ws' := (h0, .inr (6, [.null, .int 0, .int 0])) :: [(qa, .inl (cA 2, (16, qs (fun _ => none))))]) rfl ?_
  refine k_putF (j := 0) (fs' := [.ref qa, .int 0, .int 0]) F dX6_init_10 13 rfl inX6 tyX6 tyX6_ok nmX6 rfl (by decide) qX6_11 rfl hin rfl (tyX6_ok 0 (by decide)) rfl rfl (Nat.le_of_ble_eq_true rfl) rfl ?_
  refine k_iconst (v := 0) F dX6_init_13 14 rfl (by decide) ?_
  refine k_istore_n F dX6_init_14 15 rfl 1 rfl (by decide) [(1, .int 0), (0, .ref h0)] rfl ?_
  refine row_loop F (fun r hr ls => ?_) 16 0 [] rfl rfl
  match r, hr with
  | [p0, p1, p2, p3, p4, p5, p6, p7, p8, p9, pa, pb, pc, pd, pe, pf], _ =>
    exact hret [qa, p0.1, p0.2, p1.1, p1.2, p2.1, p2.2, p3.1, p3.2, p4.1, p4.2, p5.1, p5.2, p6.1, p6.2, p7.1, p7.2, p8.1, p8.2, p9.1, p9.2, pa.1, pa.2, pb.1, pb.2, pc.1, pc.2, pd.1, pd.2, pe.1, pe.2, pf.1, pf.2] _ _ _ _ dX6_init_43 (by decide) (by decide)
