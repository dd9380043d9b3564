theorem ra_inj {U : State} {c d : ClassId} {ty : FieldType} (h : va_RA U c ty) (h2 : va_RA U d ty) : c = d := by
  cases ty with
  | object C =>
    obtain ⟨_, _, _, _, _, h⟩ := h
    obtain ⟨_, _, _, _, _, h2⟩ := h2
    exact Option.some.inj (h.symm.trans h2)
  | _ => exact Option.some.inj (Eq.trans (Eq.symm h) h2)
theorem ac_prim {A : Array Value} {s : State} {ty : FieldType} (hty : ∀ C, ty ≠ .object C) (h : (Cond.arrayClass ty).before A s = true) : ∃ cA, ArrOfT s cA ty ∧ va_RA s cA ty := by
  obtain ⟨c, k, comp, h1, h2, h3⟩ := Cond.arrayClass_spec h
  refine ⟨c, ?_, ?_⟩
  · exact fun n z => ⟨(fun k h => (by cases h)), k, h2, comp, h3⟩
  · cases ty with
    | object C => exact absurd rfl (hty C)
    | _ => exact h1
theorem ac_obj {A : Array Value} {s : State} {C : String} (h : (Cond.arrayOver (.object C)).before A s = true) : ∃ cA, ArrOfT s cA (.object C) ∧ va_RA s cA (.object C) := by
  obtain ⟨comp, c, k, h1, h2, h3, h4, h5⟩ := Cond.arrayOver_spec h
  exact ⟨c, fun n z => ⟨(fun k h => (by cases h)), k, h3, comp, h4⟩, k, comp, h3, h4, h1, h5⟩
theorem ac_arr {A : Array Value} {s : State} {t : FieldType} (h : (Cond.arrayOver (.array t)).before A s = true) : ∃ cA, ArrOfT s cA (.array t) ∧ va_RA s cA (.array t) := by
  obtain ⟨comp, c, k, h1, h3, h4, h5⟩ := Cond.arrayOver_specA h
  exact ⟨c, fun n z => ⟨(fun k h => (by cases h)), k, h3, comp, h4⟩, h5⟩
/-- what the tables say of arrays of references: that such arrays can be made -/
def AO2 (U : State) : Prop := va_AO "LastOfKind$House" U ∧ (Cond.arrayOver (.array .int)).before #[] U = true
theorem AO2.moved {u U : State} (hvm : u.vm.Alike U.vm) (h : AO2 u) : AO2 U := ⟨h.1.moved hvm, Stand.arrayOver_alikeB hvm h.2⟩
def tyc (cA : Nat → ClassId) : List (ClassId × FieldType) := [(cA 0, .int), (cA 1, .boolean), (cA 2, .object "LastOfKind$House"), (cA 3, .array .int)]
def Fk (X : Cx) (l : Launch) (nL : Nat) (G : va_G) (cA : Nat → ClassId) (cc : ByteArray) (own : String) (dep mc ms : Nat) : Prop := match X with
  | (p, l', e, R, s, m, args, below, meth, c, _, _, A) => l' = l ∧ p.tables.exec = Jvm.exec ∧ c.code = cc ∧ c.maxLocals = nL ∧ s.vm.findClass own = some m.cls ∧ (∀ w ∈ lw_ok, w.before args s = true) ∧ va_K G vwCl (tyc cA) s ∧ AO2 s ∧ (∀ q : Nat, s.heap.size ≤ q → A q) ∧ meth.locks = false ∧ dep ≤ R.frames ∧ 64 * dep ≤ R.locals ∧ mc ≤ R.cells ∧ ms ≤ R.slots
/-- a constructor's walk: the world is a list of cells -/
def JK (X : Cx) (nL : Nat) (G : va_G) (ws : va_W) (pc : Nat) (ls : List (Nat × Value)) (st : List Value) (k n : Nat) (Q : State → Prop) : Prop := match X with
  | (p, l, e, R, s, m, args, below, meth, c, _, _, A) => ∀ (H : Heap) (locs : List Loc) (lsA : Array Slot), va_P G vwCl ws H → va_D A ws → va_S A s.heap H locs → lv_has lsA nL ls → W p l e R s m args below meth c H locs k n Q (F0 m pc lsA st)
/-- the words of objects' first constructor -/
theorem oi_inst : Cond.instanceMethod Lib.objectInit ∈ lw_ok := by decide +kernel
theorem oi_code : Cond.code Lib.objectInit ⟨#[0xb1]⟩ 1 none ∈ lw_ok := by decide +kernel
theorem ac_int : Cond.arrayClass .int ∈ lw_ok := by decide +kernel
theorem ac_bool : Cond.arrayClass .boolean ∈ lw_ok := by decide +kernel
theorem k_iconst {X : Cx} {l : Launch} {nL : Nat} {G : va_G} {cA : Nat → ClassId} {cc : ByteArray} {own : String} {dep mc ms : Nat} {ws : va_W} {pc : Nat} {ls : List (Nat × Value)} {st : List Value} {k n : Nat} {Q : State → Prop} (F : Fk X l nL G cA cc own dep mc ms) {k9 : Int} {v : Int32} (d : decode cc pc = .ok (.iconst k9, 1)) (z : Nat) (hz : pc + 1 = z) (hv : Int32.ofInt k9 = v) (kk : JK X nL G ws z ls (.int v :: st) k n Q) : JK X nL G ws pc ls st k n Q := by
  subst hz
  obtain ⟨p, l9, e, R, s, m, args, below, meth, c, cells, slots, A⟩ := X
  obtain ⟨rfl, hx, hb, hml, hown, hts, hK, hO, hA, hlk, hfr, hlo, hce, hsl⟩ := F
  intro H locs lsA hP hD hS hl
  exact lv_iconst hx hb d hv (kk H locs lsA hP hD hS hl)
theorem k_bipush {X : Cx} {l : Launch} {nL : Nat} {G : va_G} {cA : Nat → ClassId} {cc : ByteArray} {own : String} {dep mc ms : Nat} {ws : va_W} {pc : Nat} {ls : List (Nat × Value)} {st : List Value} {k n : Nat} {Q : State → Prop} (F : Fk X l nL G cA cc own dep mc ms) {k9 : Int} {v : Int32} (d : decode cc pc = .ok (.bipush k9, 2)) (z : Nat) (hz : pc + 2 = z) (hv : (Int8.ofInt k9).toInt32 = v) (kk : JK X nL G ws z ls (.int v :: st) k n Q) : JK X nL G ws pc ls st k n Q := by
  subst hz
  obtain ⟨p, l9, e, R, s, m, args, below, meth, c, cells, slots, A⟩ := X
  obtain ⟨rfl, hx, hb, hml, hown, hts, hK, hO, hA, hlk, hfr, hlo, hce, hsl⟩ := F
  intro H locs lsA hP hD hS hl
  exact lv_bipush hx hb d hv (kk H locs lsA hP hD hS hl)
theorem k_sipush {X : Cx} {l : Launch} {nL : Nat} {G : va_G} {cA : Nat → ClassId} {cc : ByteArray} {own : String} {dep mc ms : Nat} {ws : va_W} {pc : Nat} {ls : List (Nat × Value)} {st : List Value} {k n : Nat} {Q : State → Prop} (F : Fk X l nL G cA cc own dep mc ms) {k9 : Int} {v : Int32} (d : decode cc pc = .ok (.sipush k9, 3)) (z : Nat) (hz : pc + 3 = z) (hv : (Int16.ofInt k9).toInt32 = v) (kk : JK X nL G ws z ls (.int v :: st) k n Q) : JK X nL G ws pc ls st k n Q := by
  subst hz
  obtain ⟨p, l9, e, R, s, m, args, below, meth, c, cells, slots, A⟩ := X
  obtain ⟨rfl, hx, hb, hml, hown, hts, hK, hO, hA, hlk, hfr, hlo, hce, hsl⟩ := F
  intro H locs lsA hP hD hS hl
  exact lv_sipush hx hb d hv (kk H locs lsA hP hD hS hl)
theorem k_aload_n {X : Cx} {l : Launch} {nL : Nat} {G : va_G} {cA : Nat → ClassId} {cc : ByteArray} {own : String} {dep mc ms : Nat} {ws : va_W} {pc : Nat} {ls : List (Nat × Value)} {st : List Value} {k n : Nat} {Q : State → Prop} (F : Fk X l nL G cA cc own dep mc ms) {k9 : Fin 4} {x : Nat} (d : decode cc pc = .ok (.aload_n k9, 1)) (z : Nat) (hz : pc + 1 = z) (q : Nat) (h : ls[q]? = some ((k9 : Nat), .ref x)) (kk : JK X nL G ws z ls (.ref x :: st) k n Q) : JK X nL G ws pc ls st k n Q := by
  subst hz
  obtain ⟨p, l9, e, R, s, m, args, below, meth, c, cells, slots, A⟩ := X
  obtain ⟨rfl, hx, hb, hml, hown, hts, hK, hO, hA, hlk, hfr, hlo, hce, hsl⟩ := F
  intro H locs lsA hP hD hS hl
  exact lv_aload_n hx hb d rfl (lv_at hl q h) (kk H locs lsA hP hD hS hl)
theorem k_iload_n {X : Cx} {l : Launch} {nL : Nat} {G : va_G} {cA : Nat → ClassId} {cc : ByteArray} {own : String} {dep mc ms : Nat} {ws : va_W} {pc : Nat} {ls : List (Nat × Value)} {st : List Value} {k n : Nat} {Q : State → Prop} (F : Fk X l nL G cA cc own dep mc ms) {k9 : Fin 4} {x : Int32} (d : decode cc pc = .ok (.iload_n k9, 1)) (z : Nat) (hz : pc + 1 = z) (q : Nat) (h : ls[q]? = some ((k9 : Nat), .int x)) (kk : JK X nL G ws z ls (.int x :: st) k n Q) : JK X nL G ws pc ls st k n Q := by
  subst hz
  obtain ⟨p, l9, e, R, s, m, args, below, meth, c, cells, slots, A⟩ := X
  obtain ⟨rfl, hx, hb, hml, hown, hts, hK, hO, hA, hlk, hfr, hlo, hce, hsl⟩ := F
  intro H locs lsA hP hD hS hl
  exact lv_iload_n hx hb d rfl (lv_at hl q h) (kk H locs lsA hP hD hS hl)
theorem k_istore_n {X : Cx} {l : Launch} {nL : Nat} {G : va_G} {cA : Nat → ClassId} {cc : ByteArray} {own : String} {dep mc ms : Nat} {ws : va_W} {pc : Nat} {ls : List (Nat × Value)} {st : List Value} {k n : Nat} {Q : State → Prop} (F : Fk X l nL G cA cc own dep mc ms) {k9 : Fin 4} {x : Int32} (d : decode cc pc = .ok (.istore_n k9, 1)) (z : Nat) (hz : pc + 1 = z) (i : Nat) (hki : (k9 : Nat) = i) (hn2 : i < nL) (ls' : List (Nat × Value)) (hls : (i, Value.int x) :: ls.filter (fun q => !(q.1 == i) && !(q.1 + 1 == i && q.2.category == 2)) = ls') (kk : JK X nL G ws z ls' st k n Q) : JK X nL G ws pc ls (.int x :: st) k n Q := by
  subst hz
  obtain ⟨p, l9, e, R, s, m, args, below, meth, c, cells, slots, A⟩ := X
  obtain ⟨rfl, hx, hb, hml, hown, hts, hK, hO, hA, hlk, hfr, hlo, hce, hsl⟩ := F
  intro H locs lsA hP hD hS hl
  exact lv_istore_n hx hb d hki hl hn2 hls (fun lsA hl => kk H locs lsA hP hD hS hl)
theorem k_astore_n {X : Cx} {l : Launch} {nL : Nat} {G : va_G} {cA : Nat → ClassId} {cc : ByteArray} {own : String} {dep mc ms : Nat} {ws : va_W} {pc : Nat} {ls : List (Nat × Value)} {st : List Value} {k n : Nat} {Q : State → Prop} (F : Fk X l nL G cA cc own dep mc ms) {k9 : Fin 4} {x : Nat} (d : decode cc pc = .ok (.astore_n k9, 1)) (z : Nat) (hz : pc + 1 = z) (i : Nat) (hki : (k9 : Nat) = i) (hn2 : i < nL) (ls' : List (Nat × Value)) (hls : (i, Value.ref x) :: ls.filter (fun q => !(q.1 == i) && !(q.1 + 1 == i && q.2.category == 2)) = ls') (kk : JK X nL G ws z ls' st k n Q) : JK X nL G ws pc ls (.ref x :: st) k n Q := by
  subst hz
  obtain ⟨p, l9, e, R, s, m, args, below, meth, c, cells, slots, A⟩ := X
  obtain ⟨rfl, hx, hb, hml, hown, hts, hK, hO, hA, hlk, hfr, hlo, hce, hsl⟩ := F
  intro H locs lsA hP hD hS hl
  exact lv_astore_n hx hb d hki hl hn2 hls (fun lsA hl => kk H locs lsA hP hD hS hl)
theorem k_iinc {X : Cx} {l : Launch} {nL : Nat} {G : va_G} {cA : Nat → ClassId} {cc : ByteArray} {own : String} {dep mc ms : Nat} {ws : va_W} {pc : Nat} {ls : List (Nat × Value)} {st : List Value} {k n : Nat} {Q : State → Prop} (F : Fk X l nL G cA cc own dep mc ms) {i : Nat} {k9 : Int} {x : Int32} (d : decode cc pc = .ok (.iinc i k9, 3)) (z : Nat) (hz : pc + 3 = z) (q : Nat) (hq : ls[q]? = some (i, .int x)) (v : Int32) (hv : x + Int32.ofInt k9 = v) (hn2 : i < nL) (ls' : List (Nat × Value)) (hls : (i, Value.int v) :: ls.filter (fun q => !(q.1 == i) && !(q.1 + 1 == i && q.2.category == 2)) = ls') (kk : JK X nL G ws z ls' st k n Q) : JK X nL G ws pc ls st k n Q := by
  subst hz
  obtain ⟨p, l9, e, R, s, m, args, below, meth, c, cells, slots, A⟩ := X
  obtain ⟨rfl, hx, hb, hml, hown, hts, hK, hO, hA, hlk, hfr, hlo, hce, hsl⟩ := F
  intro H locs lsA hP hD hS hl
  exact lv_iinc (k := q) hx hb d hl hq hv hn2 hls (fun lsA hl => kk H locs lsA hP hD hS hl)
theorem k_dup {X : Cx} {l : Launch} {nL : Nat} {G : va_G} {cA : Nat → ClassId} {cc : ByteArray} {own : String} {dep mc ms : Nat} {ws : va_W} {pc : Nat} {ls : List (Nat × Value)} {st : List Value} {k n : Nat} {Q : State → Prop} (F : Fk X l nL G cA cc own dep mc ms) {v : Value} (d : decode cc pc = .ok (.dup, 1)) (z : Nat) (hz : pc + 1 = z) (hc : v.category = 1) (kk : JK X nL G ws z ls (v :: v :: st) k n Q) : JK X nL G ws pc ls (v :: st) k n Q := by
  subst hz
  obtain ⟨p, l9, e, R, s, m, args, below, meth, c, cells, slots, A⟩ := X
  obtain ⟨rfl, hx, hb, hml, hown, hts, hK, hO, hA, hlk, hfr, hlo, hce, hsl⟩ := F
  intro H locs lsA hP hD hS hl
  exact lv_dup hx hb d hc (kk H locs lsA hP hD hS hl)
theorem k_goto {X : Cx} {l : Launch} {nL : Nat} {G : va_G} {cA : Nat → ClassId} {cc : ByteArray} {own : String} {dep mc ms : Nat} {ws : va_W} {pc : Nat} {ls : List (Nat × Value)} {st : List Value} {k n : Nat} {Q : State → Prop} (F : Fk X l nL G cA cc own dep mc ms) {off : Int} (d : decode cc pc = .ok (.goto off, 3)) (tgt : Nat) (ht : (pc : Int) + off = (tgt : Int)) (kk : JK X nL G ws tgt ls st k n Q) : JK X nL G ws pc ls st k n Q := by
  obtain ⟨p, l9, e, R, s, m, args, below, meth, c, cells, slots, A⟩ := X
  obtain ⟨rfl, hx, hb, hml, hown, hts, hK, hO, hA, hlk, hfr, hlo, hce, hsl⟩ := F
  intro H locs lsA hP hD hS hl
  exact lv_goto hx hb d ht (kk H locs lsA hP hD hS hl)
theorem k_icmp_ge {X : Cx} {l : Launch} {nL : Nat} {G : va_G} {cA : Nat → ClassId} {cc : ByteArray} {own : String} {dep mc ms : Nat} {ws : va_W} {pc : Nat} {ls : List (Nat × Value)} {st : List Value} {k n : Nat} {Q : State → Prop} (F : Fk X l nL G cA cc own dep mc ms) {x y : Int32} {off : Int} (d : decode cc pc = .ok (.if_icmp .ge off, 3)) (tgt : Nat) (ht : (pc : Int) + off = (tgt : Int)) (z : Nat) (hz : pc + 3 = z) (kf : x < y → JK X nL G ws z ls st k n Q) (kt : ¬ x < y → JK X nL G ws tgt ls st k n Q) : JK X nL G ws pc ls (.int y :: .int x :: st) k n Q := by
  subst hz
  obtain ⟨p, l9, e, R, s, m, args, below, meth, c, cells, slots, A⟩ := X
  obtain ⟨rfl, hx, hb, hml, hown, hts, hK, hO, hA, hlk, hfr, hlo, hce, hsl⟩ := F
  intro H locs lsA hP hD hS hl
  exact lv_icmp_ge hx hb d ht (fun h => kt (Int32.not_lt.mpr h) H locs lsA hP hD hS hl) (fun h => kf (Int32.not_le.mp h) H locs lsA hP hD hS hl)
theorem k_objInit {X : Cx} {l : Launch} {nL : Nat} {G : va_G} {cA : Nat → ClassId} {cc : ByteArray} {own : String} {dep mc ms : Nat} {ws : va_W} {pc : Nat} {ls : List (Nat × Value)} {st : List Value} {k n : Nat} {Q : State → Prop} (F : Fk X l nL G cA cc own dep mc ms) {idx x : Nat} (d : decode cc pc = .ok (.invokespecial idx, 3)) (z : Nat) (hz : pc + 3 = z) (hq : Cond.methodLink own idx Lib.objectInit ∈ lw_ok) (hst : catS st ≤ 8) (hdep : 1 ≤ dep) (kk : JK X nL G ws z ls st k n Q) : JK X nL G ws pc ls (.ref x :: st) k n Q := by
  subst hz
  obtain ⟨p, l9, e, R, s, m, args, below, meth, c, cells, slots, A⟩ := X
  obtain ⟨rfl, hx, hb, hml, hown, hts, hK, hO, hA, hlk, hfr, hlo, hce, hsl⟩ := F
  intro H locs lsA hP hD hS hl
  refine W.objInit hx hb hown (hts _ hq) (hts _ oi_inst) (hts _ oi_code) rfl (by rw [hml]; exact hl.1) rfl d (Nat.le_trans hdep hfr) ?_ ?_
  · show 2 * 0 + (st.map fun v => v.category).sum + 12 ≤ R.locals
    have h7 : (st.map fun v => v.category).sum ≤ 8 := hst
    omega
  · exact W.eq (g2 := F0 m (pc + 3) lsA st) rfl (kk H locs lsA hP hD hS hl)
theorem k_new {X : Cx} {l : Launch} {nL : Nat} {G : va_G} {cA : Nat → ClassId} {cc : ByteArray} {own : String} {dep mc ms : Nat} {ws : va_W} {pc : Nat} {ls : List (Nat × Value)} {st : List Value} {k n : Nat} {Q : State → Prop} (F : Fk X l nL G cA cc own dep mc ms) {C : String} {T : u_T} {N ci index : Nat} {fs : List Value} (d : decode cc pc = .ok (.new index, 3)) (z : Nat) (hz : pc + 3 = z) (hin : ∀ w ∈ u_ws C T N, w ∈ lw_ok) (ty : Nat → FieldType) (hty : ∀ k, k < N → parseFieldDescriptor (T k).2.2.1 = some (ty k)) (hcl : Cond.classLink own index C ∈ lw_ok) (hinst : Cond.instantiable C N ∈ lw_ok) (hini : Cond.initialized C ∈ lw_ok) (hc : vwCl[ci]? = some (C, T, N)) (hfs : ∀ j, j < N → defaultValue (ty j) = vp_V fs j) (h1 : k + 1 ≤ mc) (h2 : n + N ≤ ms) (kk : ∀ q : Nat, JK X nL G (ws ++ [(q, .inr (ci, fs))]) z ls (.ref q :: st) (k + 1) (n + N) Q) : JK X nL G ws pc ls st k n Q := by
  subst hz
  obtain ⟨p, l9, e, R, s, m, args, below, meth, c, cells, slots, A⟩ := X
  obtain ⟨rfl, hx, hb, hml, hown, hts, hK, hO, hA, hlk, hfr, hlo, hce, hsl⟩ := F
  intro H locs lsA hP hD hS hl
  exact va_new (fs := fs) hx hb hts hin ty hty hown (hts _ hcl) (hts _ hinst) (hts _ hini) hK hP hD hS hA hc hfs (Nat.le_trans h1 hce) (Nat.le_trans h2 hsl) d (fun q H1 hP1 hD1 hS1 => kk q H1 locs lsA hP1 hD1 hS1 hl)
theorem k_newi {X : Cx} {l : Launch} {nL : Nat} {G : va_G} {cA : Nat → ClassId} {cc : ByteArray} {own : String} {dep mc ms : Nat} {ws : va_W} {pc : Nat} {ls : List (Nat × Value)} {st : List Value} {k n : Nat} {Q : State → Prop} (F : Fk X l nL G cA cc own dep mc ms) {x : Int32} {N : Nat} (d : decode cc pc = .ok (.newarray .int, 2)) (z : Nat) (hz : pc + 2 = z) (hn9 : ¬ x < 0) (hN : x.toNatClampNeg = N) (hbig : N < 1000) (h1 : k + 1 ≤ mc) (h2 : n + N ≤ ms) (kk : ∀ q : Nat, JK X nL G (ws ++ [(q, .inl (cA 0, (N, .inl (fun _ => 0))))]) z ls (.ref q :: st) (k + 1) (n + N) Q) : JK X nL G ws pc ls (.int x :: st) k n Q := by
  subst hz
  obtain ⟨p, l9, e, R, s, m, args, below, meth, c, cells, slots, A⟩ := X
  obtain ⟨rfl, hx, hb, hml, hown, hts, hK, hO, hA, hlk, hfr, hlo, hce, hsl⟩ := F
  intro H locs lsA hP hD hS hl
  refine va_newa (atype := .int) (ty := .int) (a0 := (N, .inl (fun _ => 0))) hx hb (hts _ ac_int) rfl hK hP hD hS hA (fun cA => rfl) hn9 hN (Nat.le_trans (Nat.mul_le_mul_right _ (Nat.le_of_lt hbig)) (by decide)) (Nat.le_trans h1 hce) (Nat.le_trans h2 hsl) d (fun q c9 H1 hK1 hP1 hD1 hS1 => ?_)
  have e : c9 = cA 0 := ra_inj (hK1.2 4 (c9, .int) rfl).2 (hK.2 0 (cA 0, .int) rfl).2
  subst e
  exact kk q H1 locs lsA hP1 hD1 hS1 hl
theorem k_newz {X : Cx} {l : Launch} {nL : Nat} {G : va_G} {cA : Nat → ClassId} {cc : ByteArray} {own : String} {dep mc ms : Nat} {ws : va_W} {pc : Nat} {ls : List (Nat × Value)} {st : List Value} {k n : Nat} {Q : State → Prop} (F : Fk X l nL G cA cc own dep mc ms) {x : Int32} {N : Nat} (d : decode cc pc = .ok (.newarray .boolean, 2)) (z : Nat) (hz : pc + 2 = z) (hn9 : ¬ x < 0) (hN : x.toNatClampNeg = N) (hbig : N < 1000) (h1 : k + 1 ≤ mc) (h2 : n + N ≤ ms) (kk : ∀ q : Nat, JK X nL G (ws ++ [(q, .inl (cA 1, (N, .inl (fun _ => 0))))]) z ls (.ref q :: st) (k + 1) (n + N) Q) : JK X nL G ws pc ls (.int x :: st) k n Q := by
  subst hz
  obtain ⟨p, l9, e, R, s, m, args, below, meth, c, cells, slots, A⟩ := X
  obtain ⟨rfl, hx, hb, hml, hown, hts, hK, hO, hA, hlk, hfr, hlo, hce, hsl⟩ := F
  intro H locs lsA hP hD hS hl
  refine va_newa (atype := .boolean) (ty := .boolean) (a0 := (N, .inl (fun _ => 0))) hx hb (hts _ ac_bool) rfl hK hP hD hS hA (fun cA => rfl) hn9 hN (Nat.le_trans (Nat.mul_le_mul_right _ (Nat.le_of_lt hbig)) (by decide)) (Nat.le_trans h1 hce) (Nat.le_trans h2 hsl) d (fun q c9 H1 hK1 hP1 hD1 hS1 => ?_)
  have e : c9 = cA 1 := ra_inj (hK1.2 4 (c9, .boolean) rfl).2 (hK.2 1 (cA 1, .boolean) rfl).2
  subst e
  exact kk q H1 locs lsA hP1 hD1 hS1 hl
theorem k_newq {X : Cx} {l : Launch} {nL : Nat} {G : va_G} {cA : Nat → ClassId} {cc : ByteArray} {own : String} {dep mc ms : Nat} {ws : va_W} {pc : Nat} {ls : List (Nat × Value)} {st : List Value} {k n : Nat} {Q : State → Prop} (F : Fk X l nL G cA cc own dep mc ms) {x : Int32} {N index : Nat} (d : decode cc pc = .ok (.anewarray index, 3)) (z : Nat) (hz : pc + 3 = z) (hcl : Cond.classLink own index "LastOfKind$House" ∈ lw_ok) (hn9 : ¬ x < 0) (hN : x.toNatClampNeg = N) (hbig : N < 1000) (h1 : k + 1 ≤ mc) (h2 : n + N ≤ ms) (kk : ∀ q : Nat, JK X nL G (ws ++ [(q, .inl (cA 2, (N, qs (fun _ => none))))]) z ls (.ref q :: st) (k + 1) (n + N) Q) : JK X nL G ws pc ls (.int x :: st) k n Q := by
  subst hz
  obtain ⟨p, l9, e, R, s, m, args, below, meth, c, cells, slots, A⟩ := X
  obtain ⟨rfl, hx, hb, hml, hown, hts, hK, hO, hA, hlk, hfr, hlo, hce, hsl⟩ := F
  intro H locs lsA hP hD hS hl
  refine va_newq hx hb hown (hts _ hcl) hO.1 hK hP hD hS hA hn9 hN (by omega) (Nat.le_trans h1 hce) (Nat.le_trans h2 hsl) d (fun q c9 H1 hK1 hP1 hD1 hS1 => ?_)
  have e : c9 = cA 2 := ra_inj (hK1.2 4 (c9, .object "LastOfKind$House") rfl).2 (hK.2 2 (cA 2, .object "LastOfKind$House") rfl).2
  subst e
  exact kk q H1 locs lsA hP1 hD1 hS1 hl
theorem k_putF {X : Cx} {l : Launch} {nL : Nat} {G : va_G} {cA : Nat → ClassId} {cc : ByteArray} {own : String} {dep mc ms : Nat} {pc : Nat} {ls : List (Nat × Value)} {st : List Value} {k n : Nat} {Q : State → Prop} (F : Fk X l nL G cA cc own dep mc ms) {C : String} {T : u_T} {N ci index j h0 : Nat} {fs fs' : List Value} {v : Value} {ty : FieldType} {wr : va_W} (d : decode cc pc = .ok (.putfield index, 3)) (z : Nat) (hz : pc + 3 = z) (hin : ∀ w ∈ u_ws C T N, w ∈ lw_ok) (ty0 : Nat → FieldType) (hty : ∀ k, k < N → parseFieldDescriptor (T k).2.2.1 = some (ty0 k)) (hnm : ∀ a, a < N → ∀ b, b < N → a ≠ b → (T a).2.1 ≠ (T b).2.1) (hc : vwCl[ci]? = some (C, T, N)) (hj : j < N) (hl9 : Cond.fieldLink own index (T j).1 (T j).2.1 (T j).2.2.1 ∈ lw_ok) (hfin : (T j).2.2.2 = true) (hin2 : X.2.2.2.2.2.2.2.2.1.name = "<init>") (hdecl : (T j).1 = own) (hd : parseFieldDescriptor (T j).2.2.1 = some ty) (hn9 : narrow ty v = v) (hfit : fits ty v = true) (hlen : j < fs.length) (hfs : fs.set j v = fs') (kk : JK X nL G ((h0, .inr (ci, fs')) :: wr) z ls st k n Q) : JK X nL G ((h0, .inr (ci, fs)) :: wr) pc ls (v :: .ref h0 :: st) k n Q := by
  subst hz
  subst hfs
  obtain ⟨p, l9, e, R, s, m, args, below, meth, c, cells, slots, A⟩ := X
  obtain ⟨rfl, hx, hb, hml, hown, hts, hK, hO, hA, hlk, hfr, hlo, hce, hsl⟩ := F
  intro H locs lsA hP hD hS hl
  exact va_putF hx hb hts hin ty0 hty hnm hown hK hP hD hS 0 rfl hc j hj (hts _ hl9) (fun _ h => h) hfin hin2 hdecl hd hn9 hfit hlen d (fun H1 locs1 hP1 hD1 hS1 => kk H1 locs1 lsA hP1 hD1 hS1 hl)
theorem k_putI {X : Cx} {l : Launch} {nL : Nat} {G : va_G} {cA : Nat → ClassId} {cc : ByteArray} {own : String} {dep mc ms : Nat} {pc : Nat} {ls : List (Nat × Value)} {st : List Value} {k n : Nat} {Q : State → Prop} (F : Fk X l nL G cA cc own dep mc ms) {C : String} {T : u_T} {N ci index j h0 : Nat} {fs fs' : List Value} {v : Value} {ty : FieldType} {wr : va_W} (d : decode cc pc = .ok (.putfield index, 3)) (z : Nat) (hz : pc + 3 = z) (hin : ∀ w ∈ u_ws C T N, w ∈ lw_ok) (ty0 : Nat → FieldType) (hty : ∀ k, k < N → parseFieldDescriptor (T k).2.2.1 = some (ty0 k)) (hnm : ∀ a, a < N → ∀ b, b < N → a ≠ b → (T a).2.1 ≠ (T b).2.1) (hc : vwCl[ci]? = some (C, T, N)) (hj : j < N) (hl9 : Cond.fieldLink own index (T j).1 (T j).2.1 (T j).2.2.1 ∈ lw_ok) (hfin : (T j).2.2.2 = false) (hd : parseFieldDescriptor (T j).2.2.1 = some ty) (hn9 : narrow ty v = v) (hfit : fits ty v = true) (hlen : j < fs.length) (hfs : fs.set j v = fs') (kk : JK X nL G ((h0, .inr (ci, fs')) :: wr) z ls st k n Q) : JK X nL G ((h0, .inr (ci, fs)) :: wr) pc ls (v :: .ref h0 :: st) k n Q := by
  subst hz
  subst hfs
  obtain ⟨p, l9, e, R, s, m, args, below, meth, c, cells, slots, A⟩ := X
  obtain ⟨rfl, hx, hb, hml, hown, hts, hK, hO, hA, hlk, hfr, hlo, hce, hsl⟩ := F
  intro H locs lsA hP hD hS hl
  exact va_put hx hb hts hin ty0 hty hnm hown hK hP hD hS 0 rfl hc j hj (hts _ hl9) (fun _ h => h) hfin hd hn9 hfit hlen d (fun H1 locs1 hP1 hD1 hS1 => kk H1 locs1 lsA hP1 hD1 hS1 hl)
theorem k_get {X : Cx} {l : Launch} {nL : Nat} {G : va_G} {cA : Nat → ClassId} {cc : ByteArray} {own : String} {dep mc ms : Nat} {pc : Nat} {ls : List (Nat × Value)} {st : List Value} {k n : Nat} {Q : State → Prop} (F : Fk X l nL G cA cc own dep mc ms) {C : String} {T : u_T} {N ci index j h0 : Nat} {fs : List Value} {v : Value} {wr : va_W} (d : decode cc pc = .ok (.getfield index, 3)) (z : Nat) (hz : pc + 3 = z) (hin : ∀ w ∈ u_ws C T N, w ∈ lw_ok) (hc : vwCl[ci]? = some (C, T, N)) (hj : j < N) (hl9 : Cond.fieldLink own index (T j).1 (T j).2.1 (T j).2.2.1 ∈ lw_ok) (hv : fs[j]? = some v) (kk : JK X nL G ((h0, .inr (ci, fs)) :: wr) z ls (v :: st) k n Q) : JK X nL G ((h0, .inr (ci, fs)) :: wr) pc ls (.ref h0 :: st) k n Q := by
  subst hz
  obtain ⟨p, l9, e, R, s, m, args, below, meth, c, cells, slots, A⟩ := X
  obtain ⟨rfl, hx, hb, hml, hown, hts, hK, hO, hA, hlk, hfr, hlo, hce, hsl⟩ := F
  intro H locs lsA hP hD hS hl
  exact va_get hx hb hts hin hown hK hP 0 rfl hc j hj (hts _ hl9) (fun _ h => h) hv d (kk H locs lsA hP hD hS hl)
theorem k_alen {X : Cx} {l : Launch} {nL : Nat} {G : va_G} {cA : Nat → ClassId} {cc : ByteArray} {own : String} {dep mc ms : Nat} {ws : va_W} {pc : Nat} {ls : List (Nat × Value)} {st : List Value} {k n : Nat} {Q : State → Prop} (F : Fk X l nL G cA cc own dep mc ms) {q0 a N : Nat} {f : Nat → Option Nat} (d : decode cc pc = .ok (.arraylength, 1)) (z : Nat) (hz : pc + 1 = z) (ha : ws[q0]? = some (a, .inl (cA 2, (N, qs f)))) (kk : JK X nL G ws z ls (.int (nI N) :: st) k n Q) : JK X nL G ws pc ls (.ref a :: st) k n Q := by
  subst hz
  obtain ⟨p, l9, e, R, s, m, args, below, meth, c, cells, slots, A⟩ := X
  obtain ⟨rfl, hx, hb, hml, hown, hts, hK, hO, hA, hlk, hfr, hlo, hce, hsl⟩ := F
  intro H locs lsA hP hD hS hl
  exact va_alen (x := (N, qs f)) hx hb hK hP q0 2 ha rfl rfl d (kk H locs lsA hP hD hS hl)
theorem k_ast {X : Cx} {l : Launch} {nL : Nat} {G : va_G} {cA : Nat → ClassId} {cc : ByteArray} {own : String} {dep mc ms : Nat} {ws : va_W} {pc : Nat} {ls : List (Nat × Value)} {st : List Value} {k n : Nat} {Q : State → Prop} (F : Fk X l nL G cA cc own dep mc ms) {q0 a N v t9 : Nat} {i : Int32} {f : Nat → Option Nat} {vs : List Value} {e9 : va_E} {wr ws' : va_W} (d : decode cc pc = .ok (.aastore, 1)) (z : Nat) (hz : pc + 1 = z) (hws : ws = wr ++ [(v, .inr (2, vs)), (t9, e9)]) (ha : ws[q0]? = some (a, .inl (cA 2, (N, qs f)))) (hin : vp_in i N) (hw' : ws.set q0 (a, .inl (cA 2, (N, qs (va_up f i.toNatClampNeg (some v))))) = ws') (kk : JK X nL G ws' z ls st k n Q) : JK X nL G ws pc ls (.ref v :: .int i :: .ref a :: st) k n Q := by
  subst hz
  subst hw'
  obtain ⟨p, l9, e, R, s, m, args, below, meth, c, cells, slots, A⟩ := X
  obtain ⟨rfl, hx, hb, hml, hown, hts, hK, hO, hA, hlk, hfr, hlo, hce, hsl⟩ := F
  intro H locs lsA hP hD hS hl
  have hv : ws[wr.length]? = some (v, .inr (2, vs)) := by
    rw [hws, List.getElem?_append_right (Nat.le_refl _), Nat.sub_self]
    rfl
  exact va_astq hx hb hK hP hD hS q0 2 wr.length 2 (r := (RX2, TX2, 8)) ha rfl hv rfl hin d (fun H1 locs1 hP1 hD1 hS1 => kk H1 locs1 lsA hP1 hD1 hS1 hl)
theorem k_iast {X : Cx} {l : Launch} {nL : Nat} {G : va_G} {cA : Nat → ClassId} {cc : ByteArray} {own : String} {dep mc ms : Nat} {ws : va_W} {pc : Nat} {ls : List (Nat × Value)} {st : List Value} {k n : Nat} {Q : State → Prop} (F : Fk X l nL G cA cc own dep mc ms) {q0 a N : Nat} {i v : Int32} {f : Nat → Int32} {ws' : va_W} (d : decode cc pc = .ok (.iastore, 1)) (z : Nat) (hz : pc + 1 = z) (ha : ws[q0]? = some (a, .inl (cA 0, (N, .inl f)))) (hin : vp_in i N) (hw' : ws.set q0 (a, .inl (cA 0, (N, .inl (upd f i.toNatClampNeg v)))) = ws') (kk : JK X nL G ws' z ls st k n Q) : JK X nL G ws pc ls (.int v :: .int i :: .ref a :: st) k n Q := by
  subst hz
  subst hw'
  obtain ⟨p, l9, e, R, s, m, args, below, meth, c, cells, slots, A⟩ := X
  obtain ⟨rfl, hx, hb, hml, hown, hts, hK, hO, hA, hlk, hfr, hlo, hce, hsl⟩ := F
  intro H locs lsA hP hD hS hl
  exact va_iast hx hb hK hP hD hS q0 0 ha rfl hin d (fun H1 locs1 hP1 hD1 hS1 => kk H1 locs1 lsA hP1 hD1 hS1 hl)
theorem nd_range : ∀ n : Nat, va_nd (List.range n) = true := by
  intro n
  have h : ∀ l : List Nat, l.Nodup → va_nd l = true := by
    intro l
    induction l with
    | nil => intro _; rfl
    | cons a l ih =>
      intro hn
      rw [List.nodup_cons] at hn
      simp only [va_nd, Bool.and_eq_true, decide_eq_true_eq]
      exact ⟨hn.1, ih hn.2⟩
  exact h _ List.nodup_range
theorem rng_app (wr : va_W) (x : va_W) : (List.range wr.length).map (fun i => (wr ++ x)[i]?) = wr.map some := by
  apply List.ext_getElem?
  intro j
  rw [List.getElem?_map, List.getElem?_map]
  by_cases h : j < wr.length
  · rw [List.getElem?_range h, Option.map_some, List.getElem?_append_left h, List.getElem?_eq_getElem h]
    rfl
  · rw [List.getElem?_eq_none (by simp; omega), List.getElem?_eq_none (by omega)]
    rfl
/-- a constructor's contract: out of a blank object at h0 the world w1, whose other cells are new -/
def CI (l : Launch) (y : MethodName) (cc : ByteArray) (maxL dep mc ms : Nat) (G : va_G) (cA : Nat → ClassId) (e0 : va_E) (w1 : Nat → List Nat → va_W) : Prop :=
  ∀ (h0 sz : Nat), Met l y (wz y cc maxL none) { frames := dep, cells := mc, slots := ms, locals := 64 * dep } (va_Pc [.ref h0] (fun U => U.heap.size = sz ∧ va_P G vwCl [(h0, e0)] U.heap ∧ va_K G vwCl (tyc cA) U ∧ va_D (fun _ => True) [(h0, e0)] ∧ AO2 U)) (va_Qv (fun _ : List Nat => True) (fun r t => va_P G vwCl (w1 h0 r) t.heap ∧ va_K G vwCl (tyc cA) t ∧ va_D (va_A [(h0, e0)] sz) (w1 h0 r)) (va_A [(h0, e0)] sz)) mc ms (va_A [(h0, e0)] sz)
theorem ci_of {l : Launch} {y : MethodName} {cc : ByteArray} {nL dep mc ms : Nat} {G : va_G} {cA : Nat → ClassId} {e0 : va_E} {w1 : Nat → List Nat → va_W} (hy : plainName y.cls = true) (hy1 : y.name = "<init>") (hn : 1 ≤ nL)
    (body : ∀ (X : Cx) (h0 : Nat), Fk X l nL G cA cc y.cls dep mc ms → X.2.2.2.2.2.2.2.2.1.name = "<init>" → ∀ Q : State → Prop, (∀ (r : List Nat) (pc k n : Nat) (ls : List (Nat × Value)), decode cc pc = .ok (.return_, 1) → k ≤ mc → n ≤ ms → JK X nL G (w1 h0 r) pc ls [] k n Q) → JK X nL G [(h0, e0)] 0 [(0, .ref h0)] [] 0 0 Q) : CI l y cc nL dep mc ms G cA e0 w1 := by
  intro h0 sz
  refine Met.ofW (cc := cc) (maxL := nL) (ret := none) hy rfl ?_
  intro p e s m args below meth c s₁ B hml hv
  obtain ⟨rfl, hsz, hP, hK, hD0, hO⟩ := hv
  have hts := atoms_spec (ws := wz y cc nL none) B.pre
  have hown : s.vm.findClass y.cls = some m.cls := findClass_of_methodNamed B.named
  have hin : meth.name = "<init>" := (name_of_methodNamed B.named B.method).1.trans hy1
  subst hsz
  have hD := hD0.self (sz := s.heap.size)
  generalize hAe : va_A [(h0, e0)] s.heap.size = A at hD ⊢
  have hA : ∀ q : Nat, s.heap.size ≤ q → A q := fun q h => by rw [← hAe]; exact Or.inr h
  have hl := lv_entry ([.ref h0]) (n := nL) hn
  rw [lg_entry_eq]
  generalize (lg_sl ([.ref h0]) ++ List.replicate (nL - (lg_sl ([.ref h0])).length) Slot.unset).toArray = lsA at hl ⊢
  have hx := B.exec
  have hb := B.bytes
  have hlk := B.notSynchronized
  have hr := B.returns
  refine body (p, l, e, _, s, m, [Value.ref h0].toArray, below, meth, c, 0, 0, A) h0 ⟨rfl, hx, hb, hml, hown, fun w hw => hts w (List.mem_cons_of_mem _ hw), hK, hO, hA, hlk, Nat.le_refl _, Nat.le_refl _, Nat.le_refl _, Nat.le_refl _⟩ hin _ ?_ s.heap [] lsA hP hD va_S.rf hl
  intro r pc k n ls9 hd9 hk9 hn9 H locs lsB hP1 hD1 hS1 hl1
  refine W.widen (k := mc) (n := ms) hk9 hn9 ?_
  exact W.vret hx hb hr (fun t ht hW => ⟨⟨r, rfl, trivial, by rw [ht]; exact hP1, va_K.moved hW.alike hK, hD1⟩, hS1.F ht⟩) hS1.2.2 hd9
theorem k_ctor {X : Cx} {l : Launch} {nL : Nat} {G : va_G} {cA : Nat → ClassId} {cc : ByteArray} {own : String} {dep mc ms : Nat} {ws : va_W} {pc : Nat} {ls : List (Nat × Value)} {st : List Value} {k n : Nat} {Q : State → Prop} (F : Fk X l nL G cA cc own dep mc ms) {y : MethodName} {c9 : ByteArray} {mx d9 mc9 ms9 index q : Nat} {e0 : va_E} {w1 : Nat → List Nat → va_W} (d : decode cc pc = .ok (.invokespecial index, 3)) (z : Nat) (hz : pc + 3 = z) (hC : CI l y c9 mx d9 mc9 ms9 G cA e0 w1) (hq : Cond.methodLink own index y ∈ lw_ok) (hcode : Cond.code y c9 mx none ∈ lw_ok) (hinst : Cond.instanceMethod y ∈ lw_ok) (hini : Cond.initialized y.cls ∈ lw_ok) (hne : y.cls ≠ "java/lang/invoke/MethodHandle" ∧ y.cls ≠ "java/lang/invoke/VarHandle") (hp9 : (parseMethodDescriptor y.desc).map (fun d => d.parameters.length) = some 0) (hy1 : y.name = "<init>") (hdep : d9 < dep) (hmx : mx ≤ 45) (hst : catS st ≤ 8) (h1 : k + mc9 ≤ mc) (h2 : n + ms9 ≤ ms) (kk : ∀ r : List Nat, JK X nL G (ws ++ w1 q r) z ls st (k + mc9) (n + ms9) Q) : JK X nL G (ws ++ [(q, e0)]) pc ls (.ref q :: st) k n Q := by
  subst hz
  obtain ⟨p, l9, e, R, s, m, args, below, meth, c, cells, slots, A⟩ := X
  obtain ⟨rfl, hx, hb, hml, hown, hts, hK, hO, hA, hlk, hfr, hlo, hce, hsl⟩ := F
  intro H locs lsA hP hD hS hl
  have hPc : va_P G vwCl [(q, e0)] H := hP.sub [ws.length] (by simp)
  have hC1 : [ws.length].map (fun i => (ws ++ [(q, e0)])[i]?) = [(q, e0)].map some := by simp
  have hDc : va_D A [(q, e0)] := hD.sub [ws.length] (by simp [va_nd]) hC1
  have hFc := va_free (wc := [(q, e0)]) hD hS hA [ws.length] hC1
  refine va_callv (va_runI (As := []) (rest := st) ⟨hx, hb, hml, hown, hts⟩ (hC q H.size) ⟨callB_of 0 hts (wz_good hcode) rfl rfl rfl (hts _ hini) (hts _ hq) ⟨hne.1, hne.2, hp9⟩ ⟨Nat.le_trans hdep hfr, by show 8 + (mx + 11) + 64 * d9 ≤ R.locals; omega⟩, hy1, hts _ hinst⟩ ⟨fun a U g mk q => ⟨q.1, q.2.1, q.2.2.1, va_K.moved (u := U) (U := U.calling g mk a) (Vm.Alike.refl U.vm) q.2.2.2.1, q.2.2.2.2.1, AO2.moved (u := U) (U := U.calling g mk a) (Vm.Alike.refl U.vm) q.2.2.2.2.2⟩, fun U hU hW => ⟨rfl, by rw [hU], by rw [hU]; exact hPc, va_K.moved hW.alike hK, hDc.weaken (fun _ _ _ _ => trivial), hO.moved hW.alike⟩⟩ rfl rfl hl.1 rfl (lv_room hst) d ⟨Nat.le_trans h1 hce, Nat.le_trans h2 hsl⟩) hS (fun q _ h => hFc q h) hFc (fun r t H1 locs1 ht hvm hw hB hz1 hk1 hS1 => ?_)
  obtain ⟨hP1, hK1, hD1⟩ := hB
  rw [ht] at hP1
  obtain ⟨hP2, hD2⟩ := va_join (wr := ws) (w1 := w1 q r) hP hD [ws.length] (List.range ws.length) hC1 (rng_app ws _) (nd_range _) (fun i hi h9 => by rw [List.mem_singleton.mp h9] at hi; exact absurd (List.mem_range.mp hi) (Nat.lt_irrefl _)) hk1 hFc hP1 hD1
  exact kk r H1 locs1 lsA hP2 hD2 hS1 hl
theorem k_cast {X : Cx} {nL : Nat} {G : va_G} {ws : va_W} {pc : Nat} {ls : List (Nat × Value)} {st : List Value} {k n : Nat} {Q : State → Prop} {ws' : va_W} (e : ws = ws') (kk : JK X nL G ws' pc ls st k n Q) : JK X nL G ws pc ls st k n Q := e ▸ kk
