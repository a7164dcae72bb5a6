/-! ===== worlds that grow: constructors: the rules (the plain ones turned out of 04 by g50.py) ===== -/
abbrev bS : Type := Nat → Nat → va_W → Nat → gLoc → List Value → Prop
/-- arrays of references can be made -/
def Ox (s : State) : Prop := va_AO RX0 s ∧ va_AO RX2 s ∧ va_AOA .int s
def BW (p : Program) (l : Launch) (e : Env) (R : Room) (s : State) (m : MethodId) (args : Array Value) (below : List Frame) (meth : Method) (c : Code) (Q : State → Prop) (D : va_G) (nL : Nat) (A : Nat → Prop) : bS :=
  fun n k ws pc L st => ∀ (H : Heap) (locs : List Loc) (ls : Array Slot), va_P D gcl ws H → va_D A ws → va_S A s.heap H locs → lv_has ls nL (lvs L) → W p l e R s m args below meth c H locs n k Q (F0 m pc ls st)
def PreB (D : va_G) (aC : Nat → ClassId) (ws : va_W) (sz : Nat) (U : State) : Prop := U.heap.size = sz ∧ va_P D gcl ws U.heap ∧ va_K D gcl (gty aC) U ∧ va_D (fun _ => True) ws ∧ Nx U ∧ Ox U
def QcB (D : va_G) (aC : Nat → ClassId) (ws : va_W) (sz : Nat) (PW : va_W → Prop) : Array Value → State → Outcome → State → Prop := fun _ st o t => (∃ ws', o = .returned none ∧ PW ws' ∧ va_P D gcl ws' t.heap ∧ va_K D gcl (gty aC) t ∧ va_D (va_A ws sz) ws') ∧ va_F (va_A ws sz) st t
def rmB (d u v : Nat) : Room := { frames := d, cells := u, slots := v, locals := 32 * d }
/-- a constructor's contract: the world ws becomes one of PW -/
def CB (l : Launch) (D : va_G) (aC : Nat → ClassId) (y : MethodName) (cc : ByteArray) (nL d u v : Nat) (av : List Value) (ws : va_W) (PW : va_W → Prop) : Prop :=
  ∀ sz : Nat, Met l y (gws y cc nL none) (rmB d u v) (va_Pc av (PreB D aC ws sz)) (QcB D aC ws sz PW) u v (va_A ws sz)
def Bx (l : Launch) (D : va_G) (aC : Nat → ClassId) (cc : ByteArray) (own : String) (nL d u v : Nat) (I : Prop) (w0 : va_W) (PW : va_W → Prop) (S : bS) : Prop :=
  ∃ (p : Program) (e : Env) (R : Room) (s : State) (m : MethodId) (args : Array Value) (below : List Frame) (meth : Method) (c : Code) (Q : State → Prop) (A : Nat → Prop),
    p.tables.exec = Jvm.exec ∧ c.code = cc ∧ c.maxLocals = nL ∧ s.vm.findClass own = some m.cls ∧ (∀ w ∈ wsG, w.before args s = true) ∧ va_K D gcl (gty aC) s ∧ Nx s ∧ Ox s ∧ (∀ q : Nat, s.heap.size ≤ q → A q) ∧ d ≤ R.frames ∧ 32 * d ≤ R.locals ∧ u ≤ R.cells ∧ v ≤ R.slots ∧
    (I → meth.name = "<init>" ∧ meth.sig.returnType = none ∧ meth.locks = false ∧ A = va_A w0 s.heap.size ∧ ∀ t, MQ below (QcB D aC w0 s.heap.size PW) args s u v A t → Q t) ∧
    S = BW p l e R s m args below meth c Q D nL A
theorem b_inner (c : ClassId) (K : Nat) : Jvm.Free.Multi.innerC c K (defaultValue .int) = vp_cell c (K, .inl (fun _ => 0)) := arrV_new c K (.int 0)
theorem aoa_moved {u U : State} (hvm : u.vm.Alike U.vm) (h : va_AOA .int u) : va_AOA .int U := by
  have hb : U.vm.bare.classes = u.vm.bare.classes := by first | rw [hvm.bare_eq] | rw [← hvm.bare_eq]
  have hidx : ∀ f : Class → Bool, (∀ k : Class, f k.bare = f k) → U.vm.classes.findIdx? f = u.vm.classes.findIdx? f := fun f hf9 => by
    have e1 : ∀ vm : Vm, vm.bare.classes.findIdx? f = vm.classes.findIdx? f := fun vm => by
      simp only [Vm.bare, Array.findIdx?_map]
      rw [show f ∘ Class.bare = f from funext hf9]
    rw [← e1, hb, e1]
  have hf : ∀ nm : String, U.vm.findClass nm = u.vm.findClass nm := fun nm => by rw [hvm.findClass]
  unfold va_AOA Cond.before Cond.holds at h ⊢
  simp only [Cond.value, beq_iff_eq] at h ⊢
  rw [hf]
  cases hc : u.vm.findClass (FieldType.array .int).toString with
  | none => rw [hc] at h; cases h
  | some comp =>
    rw [hc] at h
    simp only [Option.bind_some] at h ⊢
    rw [hidx _ (fun _ => rfl)]
    generalize (u.vm.classes.findIdx? _) = oi at h ⊢
    cases oi with
    | none => cases h
    | some ci =>
      simp only [Option.bind_some] at h ⊢
      cases hk : u.vm.classes[ci]? with
      | none => rw [hk] at h; cases h
      | some kk =>
        obtain ⟨k', hk', he⟩ := hvm.2.2 _ _ hk
        rw [hk] at h
        rw [hk']
        simp only [Option.map_some] at h ⊢
        have hkind : k'.kind = kk.kind := by rw [he]
        rw [hkind, hf]
        exact h
theorem Ox.alike {u U : State} (hvm : u.vm.Alike U.vm) (h : Ox u) : Ox U := ⟨va_AO.moved hvm h.1, va_AO.moved hvm h.2.1, aoa_moved hvm h.2.2⟩
theorem Ox.moved {u U : State} (hvm : u.vm = U.vm) (h : Ox u) : Ox U := h.alike (by rw [hvm]; exact Vm.Alike.refl _)
theorem Ox.warm {s U : State} (h : Ox s) (hW : s.WarmedH U.vm) : Ox U := h.alike hW.alike
section BRULES
variable {l : Launch} {D : va_G} {aC : Nat → ClassId} {cc : ByteArray} {own : String} {nL d du dv : Nat} {I : Prop} {w0 ws : va_W} {PW : va_W → Prop} {S : bS}
variable {n k : Nat} {pc : Nat} {L : gLoc} {st : List Value}
theorem b_iconst (C : Bx l D aC cc own nL d du dv I w0 PW S) {i : Int} {v : Int32} (hd : decode cc pc = .ok (.iconst i, 1)) (hv : Int32.ofInt i = v) (kk : S n k ws (pc + 1) L (.int v :: st)) : S n k ws pc L st := by
  obtain ⟨p, e, R, s, m, args, below, meth, c, Q, A, hx, hb, hml, hown, hts, hK, hNx, hO, hA, hRf, hRl, hRc, hRs, hI, rfl⟩ := C
  intro H locs ls hP hD hS hl
  exact lv_iconst hx hb hd hv (kk H locs ls hP hD hS hl)
theorem b_bipush (C : Bx l D aC cc own nL d du dv I w0 PW S) {i : Int} {v : Int32} (hd : decode cc pc = .ok (.bipush i, 2)) (hv : (Int8.ofInt i).toInt32 = v) (kk : S n k ws (pc + 2) L (.int v :: st)) : S n k ws pc L st := by
  obtain ⟨p, e, R, s, m, args, below, meth, c, Q, A, hx, hb, hml, hown, hts, hK, hNx, hO, hA, hRf, hRl, hRc, hRs, hI, rfl⟩ := C
  intro H locs ls hP hD hS hl
  exact lv_bipush hx hb hd hv (kk H locs ls hP hD hS hl)
theorem b_sipush (C : Bx l D aC cc own nL d du dv I w0 PW S) {i : Int} {v : Int32} (hd : decode cc pc = .ok (.sipush i, 3)) (hv : (Int16.ofInt i).toInt32 = v) (kk : S n k ws (pc + 3) L (.int v :: st)) : S n k ws pc L st := by
  obtain ⟨p, e, R, s, m, args, below, meth, c, Q, A, hx, hb, hml, hown, hts, hK, hNx, hO, hA, hRf, hRl, hRc, hRs, hI, rfl⟩ := C
  intro H locs ls hP hD hS hl
  exact lv_sipush hx hb hd hv (kk H locs ls hP hD hS hl)
theorem b_ldc (C : Bx l D aC cc own nL d du dv I w0 PW S) {index : Nat} {v : Int32} (hd : decode cc pc = .ok (.ldc index, 2)) (hw : Jvm.Cond.constant own index v ∈ wsG) (kk : S n k ws (pc + 2) L (.int v :: st)) : S n k ws pc L st := by
  obtain ⟨p, e, R, s, m, args, below, meth, c, Q, A, hx, hb, hml, hown, hts, hK, hNx, hO, hA, hRf, hRl, hRc, hRs, hI, rfl⟩ := C
  intro H locs ls hP hD hS hl
  exact lv_ldc hx hb hown (hts _ hw) hd (kk H locs ls hP hD hS hl)
theorem b_iload_n (C : Bx l D aC cc own nL d du dv I w0 PW S) {i : Fin 4} {j : Nat} {x : Int32} (hd : decode cc pc = .ok (.iload_n i, 1)) (hi : (i : Nat) = j) (hj : L[j]? = some (some (.int x))) (kk : S n k ws (pc + 1) L (.int x :: st)) : S n k ws pc L st := by
  obtain ⟨p, e, R, s, m, args, below, meth, c, Q, A, hx, hb, hml, hown, hts, hK, hNx, hO, hA, hRf, hRl, hRc, hRs, hI, rfl⟩ := C
  intro H locs ls hP hD hS hl
  exact lv_iload_n hx hb hd hi (lvs_at hl hj) (kk H locs ls hP hD hS hl)
theorem b_iload (C : Bx l D aC cc own nL d du dv I w0 PW S) {j : Nat} {x : Int32} (hd : decode cc pc = .ok (.iload j, 2)) (hj : L[j]? = some (some (.int x))) (kk : S n k ws (pc + 2) L (.int x :: st)) : S n k ws pc L st := by
  obtain ⟨p, e, R, s, m, args, below, meth, c, Q, A, hx, hb, hml, hown, hts, hK, hNx, hO, hA, hRf, hRl, hRc, hRs, hI, rfl⟩ := C
  intro H locs ls hP hD hS hl
  exact lv_iload hx hb hd (lvs_at hl hj) (kk H locs ls hP hD hS hl)
theorem b_aload_n (C : Bx l D aC cc own nL d du dv I w0 PW S) {i : Fin 4} {j : Nat} {x : Nat} (hd : decode cc pc = .ok (.aload_n i, 1)) (hi : (i : Nat) = j) (hj : L[j]? = some (some (.ref x))) (kk : S n k ws (pc + 1) L (.ref x :: st)) : S n k ws pc L st := by
  obtain ⟨p, e, R, s, m, args, below, meth, c, Q, A, hx, hb, hml, hown, hts, hK, hNx, hO, hA, hRf, hRl, hRc, hRs, hI, rfl⟩ := C
  intro H locs ls hP hD hS hl
  exact lv_aload_n hx hb hd hi (lvs_at hl hj) (kk H locs ls hP hD hS hl)
theorem b_aload (C : Bx l D aC cc own nL d du dv I w0 PW S) {j : Nat} {x : Nat} (hd : decode cc pc = .ok (.aload j, 2)) (hj : L[j]? = some (some (.ref x))) (kk : S n k ws (pc + 2) L (.ref x :: st)) : S n k ws pc L st := by
  obtain ⟨p, e, R, s, m, args, below, meth, c, Q, A, hx, hb, hml, hown, hts, hK, hNx, hO, hA, hRf, hRl, hRc, hRs, hI, rfl⟩ := C
  intro H locs ls hP hD hS hl
  exact lv_aload hx hb hd (lvs_at hl hj) (kk H locs ls hP hD hS hl)
theorem b_istore_n (C : Bx l D aC cc own nL d du dv I w0 PW S) {i : Fin 4} {j : Nat} {x : Int32} (hd : decode cc pc = .ok (.istore_n i, 1)) (hi : (i : Nat) = j) (hn : j < nL) (hok : okst L j = true) (kk : S n k ws (pc + 1) (L.set j (some (.int x))) st) : S n k ws pc L (.int x :: st) := by
  obtain ⟨p, e, R, s, m, args, below, meth, c, Q, A, hx, hb, hml, hown, hts, hK, hNx, hO, hA, hRf, hRl, hRc, hRs, hI, rfl⟩ := C
  intro H locs ls hP hD hS hl
  exact lv_istore_n hx hb hd hi hl hn rfl (fun ls' hl' => kk H locs ls' hP hD hS (lvs_put hl' hok))
theorem b_istore (C : Bx l D aC cc own nL d du dv I w0 PW S) {j : Nat} {x : Int32} (hd : decode cc pc = .ok (.istore j, 2)) (hn : j < nL) (hok : okst L j = true) (kk : S n k ws (pc + 2) (L.set j (some (.int x))) st) : S n k ws pc L (.int x :: st) := by
  obtain ⟨p, e, R, s, m, args, below, meth, c, Q, A, hx, hb, hml, hown, hts, hK, hNx, hO, hA, hRf, hRl, hRc, hRs, hI, rfl⟩ := C
  intro H locs ls hP hD hS hl
  exact lv_istore hx hb hd hl hn rfl (fun ls' hl' => kk H locs ls' hP hD hS (lvs_put hl' hok))
theorem b_astore_n (C : Bx l D aC cc own nL d du dv I w0 PW S) {i : Fin 4} {j : Nat} {x : Nat} (hd : decode cc pc = .ok (.astore_n i, 1)) (hi : (i : Nat) = j) (hn : j < nL) (hok : okst L j = true) (kk : S n k ws (pc + 1) (L.set j (some (.ref x))) st) : S n k ws pc L (.ref x :: st) := by
  obtain ⟨p, e, R, s, m, args, below, meth, c, Q, A, hx, hb, hml, hown, hts, hK, hNx, hO, hA, hRf, hRl, hRc, hRs, hI, rfl⟩ := C
  intro H locs ls hP hD hS hl
  exact lv_astore_n hx hb hd hi hl hn rfl (fun ls' hl' => kk H locs ls' hP hD hS (lvs_put hl' hok))
theorem b_astore (C : Bx l D aC cc own nL d du dv I w0 PW S) {j : Nat} {x : Nat} (hd : decode cc pc = .ok (.astore j, 2)) (hn : j < nL) (hok : okst L j = true) (kk : S n k ws (pc + 2) (L.set j (some (.ref x))) st) : S n k ws pc L (.ref x :: st) := by
  obtain ⟨p, e, R, s, m, args, below, meth, c, Q, A, hx, hb, hml, hown, hts, hK, hNx, hO, hA, hRf, hRl, hRc, hRs, hI, rfl⟩ := C
  intro H locs ls hP hD hS hl
  exact lv_astore hx hb hd hl hn rfl (fun ls' hl' => kk H locs ls' hP hD hS (lvs_put hl' hok))
theorem b_iinc (C : Bx l D aC cc own nL d du dv I w0 PW S) {j : Nat} {i : Int} {x v : Int32} (hd : decode cc pc = .ok (.iinc j i, 3)) (hj : L[j]? = some (some (.int x))) (hv : x + Int32.ofInt i = v) (hn : j < nL) (hok : okst L j = true) (kk : S n k ws (pc + 3) (L.set j (some (.int v))) st) : S n k ws pc L st := by
  obtain ⟨p, e, R, s, m, args, below, meth, c, Q, A, hx, hb, hml, hown, hts, hK, hNx, hO, hA, hRf, hRl, hRc, hRs, hI, rfl⟩ := C
  intro H locs ls hP hD hS hl
  obtain ⟨k9, hk9⟩ := List.getElem?_of_mem (lvs_mem.mpr hj)
  exact lv_iinc hx hb hd hl (k := k9) hk9 hv hn rfl (fun ls' hl' => kk H locs ls' hP hD hS (lvs_put hl' hok))
theorem b_dup (C : Bx l D aC cc own nL d du dv I w0 PW S) {v : Value} (hd : decode cc pc = .ok (.dup, 1)) (hc : v.category = 1) (kk : S n k ws (pc + 1) L (v :: v :: st)) : S n k ws pc L (v :: st) := by
  obtain ⟨p, e, R, s, m, args, below, meth, c, Q, A, hx, hb, hml, hown, hts, hK, hNx, hO, hA, hRf, hRl, hRc, hRs, hI, rfl⟩ := C
  intro H locs ls hP hD hS hl
  exact lv_dup hx hb hd hc (kk H locs ls hP hD hS hl)
theorem b_icmpge (C : Bx l D aC cc own nL d du dv I w0 PW S) {x y : Int32} {off : Int} {tgt : Nat} (hd : decode cc pc = .ok (.if_icmp .ge off, 3)) (ht : (pc : Int) + off = (tgt : Int)) (kt : y ≤ x → S n k ws tgt L st) (kf : ¬ y ≤ x → S n k ws (pc + 3) L st) : S n k ws pc L (.int y :: .int x :: st) := by
  obtain ⟨p, e, R, s, m, args, below, meth, c, Q, A, hx, hb, hml, hown, hts, hK, hNx, hO, hA, hRf, hRl, hRc, hRs, hI, rfl⟩ := C
  intro H locs ls hP hD hS hl
  exact lv_icmp_ge hx hb hd ht (fun q => kt q H locs ls hP hD hS hl) (fun q => kf q H locs ls hP hD hS hl)
theorem b_goto (C : Bx l D aC cc own nL d du dv I w0 PW S) {off : Int} {tgt : Nat} (hd : decode cc pc = .ok (.goto off, 3)) (ht : (pc : Int) + off = (tgt : Int)) (kk : S n k ws tgt L st) : S n k ws pc L st := by
  obtain ⟨p, e, R, s, m, args, below, meth, c, Q, A, hx, hb, hml, hown, hts, hK, hNx, hO, hA, hRf, hRl, hRc, hRs, hI, rfl⟩ := C
  intro H locs ls hP hD hS hl
  exact lv_goto hx hb hd ht (kk H locs ls hP hD hS hl)
theorem b_objInit (C : Bx l D aC cc own nL d du dv I w0 PW S) {idx a : Nat} (hd : decode cc pc = .ok (.invokespecial idx, 3)) (hw : Cond.methodLink own idx Lib.objectInit ∈ wsG) (hi : Cond.instanceMethod Lib.objectInit ∈ wsG) (hc : Cond.code Lib.objectInit ⟨#[0xb1]⟩ 1 none ∈ wsG) (hdd : 1 ≤ d) (hcat : (st.map fun v => v.category).sum ≤ 8) (kk : S n k ws (pc + 3) L st) : S n k ws pc L (.ref a :: st) := by
  obtain ⟨p, e, R, s, m, args, below, meth, c, Q, A, hx, hb, hml, hown, hts, hK, hNx, hO, hA, hRf, hRl, hRc, hRs, hI, rfl⟩ := C
  intro H locs ls hP hD hS hl
  refine W.objInit hx hb hown (hts _ hw) (hts _ hi) (hts _ hc) rfl (by rw [hml]; exact hl.1) rfl hd (by omega) (by show 2 * 0 + _ + 12 ≤ R.locals; omega) ?_
  exact kk H locs ls hP hD hS hl
theorem b_new (C : Bx l D aC cc own nL d du dv I w0 PW S) {index ci N : Nat} {C0 : String} {T : u_T} {fs : List Value} (hd : decode cc pc = .ok (.new index, 3)) (hin : ∀ w ∈ u_ws C0 T N, w ∈ wsG) (ty : Nat → FieldType) (hty : ∀ k, k < N → parseFieldDescriptor (T k).2.2.1 = some (ty k)) (hcl : Cond.classLink own index C0 ∈ wsG) (hinst : Cond.instantiable C0 N ∈ wsG) (hini : Cond.initialized C0 ∈ wsG) (hc : gcl[ci]? = some (C0, T, N)) (hfs : ∀ j, j < N → defaultValue (ty j) = vp_V fs j) (hn : n + 1 ≤ du) (hk : k + N ≤ dv)
    (kk : ∀ q : Nat, S (n + 1) (k + N) (ws ++ [(q, .inr (ci, fs))]) (pc + 3) L (.ref q :: st)) : S n k ws pc L st := by
  obtain ⟨p, e, R, s, m, args, below, meth, c, Q, A, hx, hb, hml, hown, hts, hK, hNx, hO, hA, hRf, hRl, hRc, hRs, hI, rfl⟩ := C
  intro H locs ls hP hD hS hl
  exact va_new hx hb hts hin ty hty hown (hts _ hcl) (hts _ hinst) (hts _ hini) hK hP hD hS hA hc hfs (Nat.le_trans hn hRc) (Nat.le_trans hk hRs) hd (fun q H1 hP1 hD1 hS1 => kk q H1 locs ls hP1 hD1 hS1 hl)
/-- an array of ints, longs or booleans: what is in it at first is 0 -/
theorem b_newa (C : Bx l D aC cc own nL d du dv I w0 PW S) {atype : ArrayType} {t0 : Nat} {ty : FieldType} {len : Int32} {N : Nat} {a0 : vp_A} (hd : decode cc pc = .ok (.newarray atype, 2)) (hty : newarray.typeOf atype = ty) (hto : ∀ C9, ty ≠ .object C9) (hw : Cond.arrayClass ty ∈ wsG) (ht : (gty aC)[t0]? = some (aC t0, ty)) (ha : ∀ cA : ClassId, vp_cell cA a0 = arrV cA N (fun _ => defaultValue ty)) (hlen : ¬ len < 0) (hN : len.toNatClampNeg = N) (hby : N * componentBytes ty ≤ 536870912) (hn : n + 1 ≤ du) (hk : k + N ≤ dv)
    (kk : ∀ q : Nat, S (n + 1) (k + N) (ws ++ [(q, .inl (aC t0, a0))]) (pc + 2) L (.ref q :: st)) : S n k ws pc L (.int len :: st) := by
  obtain ⟨p, e, R, s, m, args, below, meth, c, Q, A, hx, hb, hml, hown, hts, hK, hNx, hO, hA, hRf, hRl, hRc, hRs, hI, rfl⟩ := C
  intro H locs ls hP hD hS hl
  refine va_newa hx hb (by rw [hty]; exact hts _ hw) hty hK hP hD hS hA ha hlen hN hby (Nat.le_trans hn hRc) (Nat.le_trans hk hRs) hd (fun q cA H1 hK1 hP1 hD1 hS1 => ?_)
  have h1 := (hK1.2 (gty aC).length (cA, ty) (by rw [List.getElem?_append_right (Nat.le_refl _), Nat.sub_self]; rfl)).2
  have h2 := (hK.2 t0 _ ht).2
  have e9 : cA = aC t0 := by
    cases ty with
    | object C9 => exact absurd rfl (hto C9)
    | _ => exact Option.some.inj (h1.symm.trans h2)
  subst e9
  exact kk q H1 locs ls hP1 hD1 hS1 hl
/-- an array of references, all null -/
theorem b_newq (C : Bx l D aC cc own nL d du dv I w0 PW S) {index t0 : Nat} {C0 : String} {len : Int32} {N : Nat} (hd : decode cc pc = .ok (.anewarray index, 3)) (hcl : Cond.classLink own index C0 ∈ wsG) (ho : ∀ U, Ox U → va_AO C0 U) (ht : (gty aC)[t0]? = some (aC t0, .object C0)) (hlen : ¬ len < 0) (hN : len.toNatClampNeg = N) (hby : N * 4 ≤ 536870912) (hn : n + 1 ≤ du) (hk : k + N ≤ dv)
    (kk : ∀ q : Nat, S (n + 1) (k + N) (ws ++ [(q, .inl (aC t0, N, .inr (.inr (.inr (.inr (fun _ => none))))))]) (pc + 3) L (.ref q :: st)) : S n k ws pc L (.int len :: st) := by
  obtain ⟨p, e, R, s, m, args, below, meth, c, Q, A, hx, hb, hml, hown, hts, hK, hNx, hO, hA, hRf, hRl, hRc, hRs, hI, rfl⟩ := C
  intro H locs ls hP hD hS hl
  refine va_newq hx hb hown (hts _ hcl) (ho s hO) hK hP hD hS hA hlen hN hby (Nat.le_trans hn hRc) (Nat.le_trans hk hRs) hd (fun q cA H1 hK1 hP1 hD1 hS1 => ?_)
  obtain ⟨-, -, -, -, -, h1⟩ := (hK1.2 (gty aC).length (cA, .object C0) (by rw [List.getElem?_append_right (Nat.le_refl _), Nat.sub_self]; rfl)).2
  obtain ⟨-, -, -, -, -, h2⟩ := (hK.2 t0 _ ht).2
  have e9 : cA = aC t0 := Option.some.inj (h1.symm.trans h2)
  subst e9
  exact kk q H1 locs ls hP1 hD1 hS1 hl
/-- int[N][K] -/
theorem b_mna (C : Bx l D aC cc own nL d du dv I w0 PW S) {index t0 t1 : Nat} {len lek : Int32} {N K : Nat} (hd : decode cc pc = .ok (.multianewarray index 2, 4)) (hcl : Cond.classLink own index ("[" ++ (FieldType.array .int).toString) ∈ wsG) (hw : Cond.arrayClass .int ∈ wsG) (ht : (gty aC)[t0]? = some (aC t0, .array .int)) (ht1 : (gty aC)[t1]? = some (aC t1, .int)) (hlen : ¬ len < 0) (hlek : ¬ lek < 0) (hN : len.toNatClampNeg = N) (hM : lek.toNatClampNeg = K) (hby : N * 4 ≤ 536870912) (hbk : K * 4 ≤ 536870912) (hn : n + 1 + N ≤ du) (hk : k + N + N * K ≤ dv)
    (kk : ∀ (q : Nat) (r : Nat → Nat), S (n + 1 + N) (k + N + N * K) ((ws ++ [(q, .inl (aC t0, N, .inr (.inr (.inr (.inr (fun i => if i < N then some (r i) else none))))))]) ++ (List.range N).map (fun i => (r i, .inl (aC t1, K, .inl (fun _ => 0))))) (pc + 4) L (.ref q :: st)) : S n k ws pc L (.int lek :: .int len :: st) := by
  obtain ⟨p, e, R, s, m, args, below, meth, c, Q, A, hx, hb, hml, hown, hts, hK, hNx, hO, hA, hRf, hRl, hRc, hRs, hI, rfl⟩ := C
  intro H locs ls hP hD hS hl
  have hcy : s.vm.findClass (FieldType.array .int).toString = some (aC t1) := (hK.2 t1 _ ht1).2
  refine va_mna (X := ws) (L := []) (f := fun _ => .inr (0, [])) (z := (K, .inl (fun _ => 0))) hx hb hown (hts _ hcl) hO.2.2 (hts _ hw) hcy hK (by rw [show va_pl [] _ = ([] : va_W) from rfl, List.append_nil]; exact hP) (by rw [show va_pl [] _ = ([] : va_W) from rfl, List.append_nil]; exact hD) hS hA hlen hlek hN hM hby hbk (by omega) rfl rfl (by omega) (by omega) (fun cz => ?_) hd (fun q r cA H1 hr1 hr2 hK1 hP1 hD1 hS1 => ?_)
  · exact b_inner cz K
  · have h1 := (hK1.2 (gty aC).length (cA, .array .int) (by rw [List.getElem?_append_right (Nat.le_refl _), Nat.sub_self]; rfl)).2
    have h2 := (hK.2 t0 _ ht).2
    have e9 : cA = aC t0 := Option.some.inj (h1.symm.trans h2)
    subst e9
    have e8 : va_pl ([] ++ (List.range N).map r) (vr_up (fun _ => .inr (0, [])) ((List.range N).map r) (.inl (aC t1, (K, .inl (fun _ => 0))))) = (List.range N).map (fun i => (r i, .inl (aC t1, K, .inl (fun _ => 0)))) := by
      rw [List.nil_append]
      unfold va_pl
      rw [List.map_map]
      refine List.map_congr_left (fun i hi => ?_)
      show (r i, vr_up _ _ _ (r i)) = _
      rw [vr_up_in (List.mem_map.mpr ⟨i, hi, rfl⟩)]
    rw [e8] at hP1 hD1
    exact kk q r H1 locs ls hP1 hD1 hS1 hl
theorem b_putF (C : Bx l D aC cc own nL d du dv I w0 PW S) (hI0 : I) {ci N a f index : Nat} {C0 ref : String} {T : u_T} {fs : List Value} {x : Value} {ty : FieldType} (q0 : Nat) (hd : decode cc pc = .ok (.putfield index, 3)) (he : ws[q0]? = some (a, .inr (ci, fs))) (hc : gcl[ci]? = some (C0, T, N)) (hin : ∀ w ∈ u_ws C0 T N, w ∈ wsG) (ty0 : Nat → FieldType) (hty : ∀ k, k < N → parseFieldDescriptor (T k).2.2.1 = some (ty0 k)) (hnm : ∀ a, a < N → ∀ b, b < N → a ≠ b → (T a).2.1 ≠ (T b).2.1) (hf : f < N) (hw : Cond.fieldLink own index ref (T f).2.1 (T f).2.2.1 ∈ wsG) (hsame : (T f).1 = ref) (hfin : (T f).2.2.2 = true) (hdecl : (T f).1 = own) (hde : parseFieldDescriptor (T f).2.2.1 = some ty) (hnar : narrow ty x = x) (hfit : fits ty x = true) (hlen : f < fs.length)
    (kk : S n k (ws.set q0 (a, .inr (ci, fs.set f x))) (pc + 3) L st) : S n k ws pc L (x :: .ref a :: st) := by
  obtain ⟨p, e, R, s, m, args, below, meth, c, Q, A, hx, hb, hml, hown, hts, hK, hNx, hO, hA, hRf, hRl, hRc, hRs, hI, rfl⟩ := C
  intro H locs ls hP hD hS hl
  exact va_putF hx hb hts hin ty0 hty hnm hown hK hP hD hS q0 he hc f hf (hts _ hw) (fun x9 h9 => by rw [← hsame]; exact h9) hfin (hI hI0).1 hdecl hde hnar hfit hlen hd (fun H1 locs1 hP1 hD1 hS1 => kk H1 locs1 ls hP1 hD1 hS1 hl)
theorem b_put (C : Bx l D aC cc own nL d du dv I w0 PW S) {ci N a f index : Nat} {C0 ref : String} {T : u_T} {fs : List Value} {x : Value} {ty : FieldType} (q0 : Nat) (hd : decode cc pc = .ok (.putfield index, 3)) (he : ws[q0]? = some (a, .inr (ci, fs))) (hc : gcl[ci]? = some (C0, T, N)) (hin : ∀ w ∈ u_ws C0 T N, w ∈ wsG) (ty0 : Nat → FieldType) (hty : ∀ k, k < N → parseFieldDescriptor (T k).2.2.1 = some (ty0 k)) (hnm : ∀ a, a < N → ∀ b, b < N → a ≠ b → (T a).2.1 ≠ (T b).2.1) (hf : f < N) (hw : Cond.fieldLink own index ref (T f).2.1 (T f).2.2.1 ∈ wsG) (hsame : (T f).1 = ref) (hfin : (T f).2.2.2 = false) (hde : parseFieldDescriptor (T f).2.2.1 = some ty) (hnar : narrow ty x = x) (hfit : fits ty x = true) (hlen : f < fs.length)
    (kk : S n k (ws.set q0 (a, .inr (ci, fs.set f x))) (pc + 3) L st) : S n k ws pc L (x :: .ref a :: st) := by
  obtain ⟨p, e, R, s, m, args, below, meth, c, Q, A, hx, hb, hml, hown, hts, hK, hNx, hO, hA, hRf, hRl, hRc, hRs, hI, rfl⟩ := C
  intro H locs ls hP hD hS hl
  exact va_put hx hb hts hin ty0 hty hnm hown hK hP hD hS q0 he hc f hf (hts _ hw) (fun x9 h9 => by rw [← hsame]; exact h9) hfin hde hnar hfit hlen hd (fun H1 locs1 hP1 hD1 hS1 => kk H1 locs1 ls hP1 hD1 hS1 hl)
theorem b_get (C : Bx l D aC cc own nL d du dv I w0 PW S) {ci N a f index : Nat} {C0 ref : String} {T : u_T} {fs : List Value} {x : Value} (q0 : Nat) (hd : decode cc pc = .ok (.getfield index, 3)) (he : ws[q0]? = some (a, .inr (ci, fs))) (hc : gcl[ci]? = some (C0, T, N)) (hin : ∀ w ∈ u_ws C0 T N, w ∈ wsG) (hf : f < N) (hw : Cond.fieldLink own index ref (T f).2.1 (T f).2.2.1 ∈ wsG) (hsame : (T f).1 = ref) (hv : fs[f]? = some x)
    (kk : S n k ws (pc + 3) L (x :: st)) : S n k ws pc L (.ref a :: st) := by
  obtain ⟨p, e, R, s, m, args, below, meth, c, Q, A, hx, hb, hml, hown, hts, hK, hNx, hO, hA, hRf, hRl, hRc, hRs, hI, rfl⟩ := C
  intro H locs ls hP hD hS hl
  exact va_get hx hb hts hin hown hK hP q0 he hc f hf (hts _ hw) (fun x9 h9 => by rw [← hsame]; exact h9) hv hd (kk H locs ls hP hD hS hl)
theorem b_iast (C : Bx l D aC cc own nL d du dv I w0 PW S) {a N : Nat} {i x : Int32} {f : Nat → Int32} (q0 : Nat) (hd : decode cc pc = .ok (.iastore, 1)) (he : ws[q0]? = some (a, .inl (aC 0, N, .inl f))) (hin : vp_in i N)
    (kk : S n k (ws.set q0 (a, .inl (aC 0, N, .inl (upd f i.toNatClampNeg x)))) (pc + 1) L st) : S n k ws pc L (.int x :: .int i :: .ref a :: st) := by
  obtain ⟨p, e, R, s, m, args, below, meth, c, Q, A, hx, hb, hml, hown, hts, hK, hNx, hO, hA, hRf, hRl, hRc, hRs, hI, rfl⟩ := C
  intro H locs ls hP hD hS hl
  exact va_iast hx hb hK hP hD hS q0 0 he rfl hin hd (fun H1 locs1 hP1 hD1 hS1 => kk H1 locs1 ls hP1 hD1 hS1 hl)
theorem b_aast (C : Bx l D aC cc own nL d du dv I w0 PW S) {a N ci vv t0 : Nat} {i : Int32} {f : Nat → Option Nat} {r : vw_C} {vs : List Value} (q0 : Nat) (hd : decode cc pc = .ok (.aastore, 1)) (he : ws[q0]? = some (a, .inl (aC t0, N, .inr (.inr (.inr (.inr f)))))) (ht : (gty aC)[t0]? = some (aC t0, .object r.1)) (hv : (vv, Sum.inr (ci, vs)) ∈ ws) (hc : gcl[ci]? = some r) (hin : vp_in i N)
    (kk : S n k (ws.set q0 (a, .inl (aC t0, N, .inr (.inr (.inr (.inr (va_up f i.toNatClampNeg (some vv)))))))) (pc + 1) L st) : S n k ws pc L (.ref vv :: .int i :: .ref a :: st) := by
  obtain ⟨p, e, R, s, m, args, below, meth, c, Q, A, hx, hb, hml, hown, hts, hK, hNx, hO, hA, hRf, hRl, hRc, hRs, hI, rfl⟩ := C
  intro H locs ls hP hD hS hl
  obtain ⟨qk, hqk⟩ := List.getElem?_of_mem hv
  exact va_astq hx hb hK hP hD hS q0 t0 qk ci he ht hqk hc hin hd (fun H1 locs1 hP1 hD1 hS1 => kk H1 locs1 ls hP1 hD1 hS1 hl)
theorem b_ret (C : Bx l D aC cc own nL d du dv I w0 PW S) (hI0 : I) (hd : decode cc pc = .ok (.return_, 1)) (hn : n ≤ du) (hk : k ≤ dv) (hv : PW ws) : S n k ws pc L [] := by
  obtain ⟨p, e, R, s, m, args, below, meth, c, Q, A, hx, hb, hml, hown, hts, hK, hNx, hO, hA, hRf, hRl, hRc, hRs, hI, rfl⟩ := C
  intro H locs ls hP hD hS hl
  obtain ⟨-, hr, hlk, hAe, hQ⟩ := hI hI0
  subst hAe
  refine W.imp hQ (W.widen (k := du) (n := dv) hn hk ?_)
  exact W.vret hx hb hr (fun t ht hW => ⟨⟨ws, rfl, hv, by rw [ht]; exact hP, va_K.moved hW.alike hK, hD⟩, hS.F ht⟩) hS.2.2 hd hlk
theorem b_wk (C : Bx l D aC cc own nL d du dv I w0 PW S) {n' k' : Nat} (hn : n ≤ n') (hk : k ≤ k') (kk : S n' k' ws pc L st) : S n k ws pc L st := by
  obtain ⟨p, e, R, s, m, args, below, meth, c, Q, A, hx, hb, hml, hown, hts, hK, hNx, hO, hA, hRf, hRl, hRc, hRs, hI, rfl⟩ := C
  intro H locs ls hP hD hS hl
  exact W.widen hn hk (kk H locs ls hP hD hS hl)
/-- a constructor called on the cell made last -/
theorem b_ctor (C : Bx l D aC cc own nL d du dv I w0 PW S) {index q nL' d' u' v' : Nat} {y : MethodName} {bytes : ByteArray} {e0 : va_E} {wr : va_W} {PW' : va_W → Prop} (hd : decode cc pc = .ok (.invokespecial index, 3)) (hM : CB l D aC y bytes nL' d' u' v' [.ref q] [(q, e0)] PW') (hB : BOK y bytes nL' none 0) (hi : Cond.instanceMethod y ∈ wsG) (hl : (Cond.methodLink own index y ∈ wsG) ∨ ∃ host, Cond.methodLinkNest own index y host ∈ gNw) (hy : y.name = "<init>") (hdd : d' + 1 ≤ d) (hcat : (st.map fun v => v.category).sum ≤ 8) (hn : n + u' ≤ du) (hk : k + v' ≤ dv)
    (kk : ∀ ws' : va_W, PW' ws' → S (n + u') (k + v') (wr ++ ws') (pc + 3) L st) : S n k (wr ++ [(q, e0)]) pc L (.ref q :: st) := by
  obtain ⟨p, e, R, s, m, args, below, meth, c, Q, A, hx, hb, hml, hown, hts, hK, hNx, hO, hA, hRf, hRl, hRc, hRs, hI, rfl⟩ := C
  intro H locs ls hP hD hS hl2
  have hin : ((q, e0) : Nat × va_E) ∈ wr ++ [(q, e0)] := List.mem_append_right _ List.mem_cons_self
  have hat : (wr ++ [(q, e0)])[wr.length]? = some (q, e0) := by rw [List.getElem?_append_right (Nat.le_refl _), Nat.sub_self]; rfl
  have one : ∀ (j : Nat) (x : Nat × va_E), ([(q, e0)] : va_W)[j]? = some x → j = 0 ∧ x = (q, e0) := fun j x hj => by
    have hz : j < 1 := (List.getElem?_eq_some_iff.mp hj).1
    have : j = 0 := by omega
    subst this
    cases hj
    exact ⟨rfl, rfl⟩
  have hPc : va_P D gcl [(q, e0)] H := fun j x hj => by rw [(one j x hj).2]; exact hP _ _ hat
  have hDc : va_D (fun _ => True) [(q, e0)] := ⟨fun i j x z hi9 hj9 _ => by rw [(one i x hi9).1, (one j z hj9).1], fun _ _ _ => trivial⟩
  have hFc : ∀ x, va_A [(q, e0)] H.size x → A x := fun x hx9 => by
    rcases hx9 with ⟨j, e9, h9⟩ | h9
    · cases (one j _ h9).2
      exact hD.2 _ _ hat
    · exact hA x (Nat.le_trans hS.1 h9)
  have blind : FrameBlind (va_Pc [.ref q] (PreB D aC [(q, e0)] H.size)) := fun a U g mk h9 => by
    obtain ⟨b0, b1, b2, b3, b4, b5, b6⟩ := h9
    exact ⟨b0, b1, b2, va_K.moved (u := U) (U := U.calling g mk a) (Vm.Alike.refl U.vm) b3, b4, b5.same (u := U) (U := U.calling g mk a) rfl, b6.moved (u := U) (U := U.calling g mk a) rfl⟩
  have pre : PreS s H (va_Pc [.ref q] (PreB D aC [(q, e0)] H.size)) (.ref q :: []) := ⟨blind, fun U hU hW => ⟨rfl, by rw [hU], by rw [hU]; exact hPc, va_K.moved hW.alike hK, hDc, hNx.warm hW, hO.warm hW⟩⟩
  have hfr : (rmB d' u' v').frames + 1 ≤ R.frames ∧ 8 + (nL' + 11) + (rmB d' u' v').locals ≤ R.locals := by
    refine ⟨Nat.le_trans hdd hRf, ?_⟩
    have := hB.2.2.2.2
    show 8 + (nL' + 11) + 32 * d' ≤ R.locals
    omega
  have hr : va_Run p l e R s m args below meth c H locs n k u' v' (F0 m pc ls (.ref q :: st)) st (QcB D aC [(q, e0)] H.size PW' [Value.ref q].toArray) (va_A [(q, e0)] H.size) := by
    rcases hl with hl | ⟨host, hl⟩
    · exact va_runI (As := []) (rest := st) ⟨hx, hb, hml, hown, hts⟩ (hM H.size) ⟨⟨rfl, rfl, hfr.1, hfr.2, hB.pay hts, List.mem_cons_self, hts _ hB.1, hts _ hB.2.1, hB.2.2.1, hB.len, hts _ hl⟩, hy, hts _ hi⟩ pre rfl rfl hl2.1 rfl (lv_room hcat) hd ⟨Nat.le_trans hn hRc, Nat.le_trans hk hRs⟩
    · exact va_runIN (As := []) (rest := st) ⟨hx, hb, hml, hown, hts⟩ (hM H.size) ⟨⟨⟨rfl, rfl, hfr.1, hfr.2, hB.pay hts, List.mem_cons_self⟩, hts _ hB.1, hts _ hB.2.1, hB.2.2.1, hB.len, hNx.use hl⟩, hy, hts _ hi⟩ pre rfl rfl hl2.1 rfl (lv_room hcat) hd ⟨Nat.le_trans hn hRc, Nat.le_trans hk hRs⟩
  intro T hT X
  obtain ⟨v9, st₀, t, T', L9, h0, X', hL9, e1, e2, ⟨⟨ws', hv, hp, hP1, hK1, hD1⟩, hz, hk1⟩, stp⟩ := hr T hT X
  cases hv
  rw [h0] at hz hk1
  rw [← e1] at hz hk1 hP1
  have key : ∀ (j : Nat) (x : Nat × va_E), wr[j]? = some x → x.1 < H.size ∧ x.1 ≠ q ∧ ¬ va_A [(q, e0)] H.size x.1 := fun j x hj => by
    have hj2 : (wr ++ [(q, e0)])[j]? = some x := by rw [List.getElem?_append_left (List.getElem?_eq_some_iff.mp hj).1]; exact hj
    have h1 := (hP j x hj2).lt
    have h2 : x.1 ≠ q := fun e9 => by
      have := hD.1 _ _ _ _ hj2 hat e9
      have h3 := (List.getElem?_eq_some_iff.mp hj).1
      omega
    refine ⟨h1, h2, fun h9 => ?_⟩
    rcases h9 with ⟨j9, e9, h9⟩ | h9
    · have := congrArg Prod.fst (one j9 _ h9).2
      exact h2 this
    · omega
  have hPr : va_P D gcl wr T'.heap := va_P.kept (H := H) (fun j x hj => hP j x (by rw [List.getElem?_append_left (List.getElem?_eq_some_iff.mp hj).1]; exact hj)) (fun j x hj => hk1 x.1 (key j x hj).1 (key j x hj).2.2)
  have hDr : va_D A wr := ⟨fun i j x z hi9 hj9 e9 => hD.1 i j x z (by rw [List.getElem?_append_left (List.getElem?_eq_some_iff.mp hi9).1]; exact hi9) (by rw [List.getElem?_append_left (List.getElem?_eq_some_iff.mp hj9).1]; exact hj9) e9, fun j x hj => hD.2 j x (by rw [List.getElem?_append_left (List.getElem?_eq_some_iff.mp hj).1]; exact hj)⟩
  have hD2 : va_D A (wr ++ ws') := hDr.app (hD1.weaken (fun _ _ _ h9 => hFc _ h9)) (fun i j x z hi9 hj9 e9 => (key i x hi9).2.2 (by rw [e9]; exact hD1.2 j z hj9))
  obtain ⟨t2, a1, b1⟩ := kk ws' hp T'.heap (locs ++ L9) ls (hPr.app hP1) hD2 ⟨Nat.le_trans hS.1 hz, fun x h1 h2 => by
    rw [hk1 x (Nat.lt_of_lt_of_le h1 hS.1) (fun z => h2 (hFc x z))]
    exact hS.2.1 x h1 h2, fun x hx9 => by
    rcases List.mem_append.mp hx9 with h9 | h9
    · exact hS.2.2 x h9
    · exact hFc _ (hL9 x h9)⟩ hl2 T' rfl X'
  exact ⟨t2, stp t2 a1, b1⟩
end BRULES
/-- a contract out of a constructor's walk -/
theorem CB.of {l : Launch} {D : va_G} {aC : Nat → ClassId} {y : MethodName} {cc : ByteArray} {nL d u v : Nat} {av : List Value} {ws : va_W} {PW : va_W → Prop} {own : String} (hy : plainName y.cls = true) (hown : y.cls = own) (hy1 : y.name = "<init>") (hav : (lg_sl av).length ≤ nL)
    (body : ∀ S : bS, Bx l D aC cc own nL d u v True ws PW S → S 0 0 ws 0 (mkL nL av) []) : CB l D aC y cc nL d u v av ws PW := by
  intro sz
  refine Met.ofW (cc := cc) (maxL := nL) (ret := none) hy rfl ?_
  intro p e s m args below meth c s₁ B hml hv
  obtain ⟨rfl, hsz, hP, hK, hD, hN, hO⟩ := hv
  subst hown
  subst hsz
  have hts := atoms_spec (ws := gws y cc nL none) B.pre
  have hl := lv_entry av (n := nL) hav
  have hnm : meth.name = "<init>" := (name_of_methodNamed B.named B.method).1.trans hy1
  rw [lg_entry_eq]
  exact body _ ⟨p, e, rmB d u v, s, m, av.toArray, below, meth, c, _, va_A ws s.heap.size, B.exec, B.bytes, hml, findClass_of_methodNamed B.named, fun w hw => hts w (List.mem_cons_of_mem _ hw), hK, hN, hO, fun q hq => Or.inr hq, Nat.le_refl _, Nat.le_refl _, Nat.le_refl _, Nat.le_refl _, fun _ => ⟨hnm, B.returns, B.notSynchronized, rfl, fun t h => h⟩, rfl⟩ s.heap [] _ hP hD.self va_S.rf (mkL_has hl)
