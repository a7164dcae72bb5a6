/-! ===== a method's walk over the one world: Cx says what stands around it, S is the walk's goal at a place; a rule an instruction ===== -/
def rmz (d u : Nat) : Room := { frames := d, cells := u, slots := 6 * u, locals := 32 * d }
/-- the words of the tables that hold at every call -/
def wsG : List Cond := lw_tbl.filter goodWord
theorem wsG_tbl {w : Cond} (h : w ∈ wsG) : w ∈ lw_tbl := (List.mem_filter.mp h).1
theorem wsG_good {w : Cond} (h : w ∈ wsG) : (w.onTables && w.keeps) = true ∨ ∃ ty, w = .arrayClass ty := good_of_word (List.mem_filter.mp h).2
theorem wsG_goodIn : GoodIn wsG wsG := fun _ h => ⟨h, wsG_good h⟩
def gws (y : MethodName) (cc : ByteArray) (nL : Nat) (rt : Option FieldType) : List Cond := Cond.code y cc nL rt :: wsG
theorem gws_good {y : MethodName} {cc : ByteArray} {nL : Nat} {rt : Option FieldType} (h : Cond.code y cc nL rt ∈ wsG) : GoodIn wsG (gws y cc nL rt) := by
  intro w hw
  rcases List.mem_cons.mp hw with h1 | h1
  · rw [h1]; exact wsG_goodIn _ h
  · exact wsG_goodIn _ h1
/-- the picture of the world, and the method's end -/
def Pic (D : va_G) (ad : Nat → Nat → Nat) (aC : Nat → ClassId) (σ : gSig) (τ : gTau) (U : State) : Prop := va_P D gcl (Wd ad aC σ τ) U.heap ∧ va_K D gcl (gty aC) U
def QcZ (D : va_G) (ad : Nat → Nat → Nat) (aC : Nat → ClassId) (sz : Nat) (PV : Option Value → gSig → gTau → Prop) : Array Value → State → Outcome → State → Prop := fun _ st o t => (∃ (r : Option Value) (σ : gSig) (τ : gTau), o = .returned r ∧ PV r σ τ ∧ Pic D ad aC σ τ t) ∧ va_F (gA ad sz) st t
def XcZ (D : va_G) (ad : Nat → Nat → Nat) (aC : Nat → ClassId) (sz : Nat) (PX : String → gSig → gTau → Prop) : String → State → State → Prop := fun E st t => (∃ (σ : gSig) (τ : gTau), PX E σ τ ∧ Pic D ad aC σ τ t) ∧ va_F (gA ad sz) st t
/-- the texts of the exceptions, by their places -/
def gStr : List (String × Nat × String) := [("Gridprobe", 50, "the draft has 12 parts"), ("Gridprobe", 246, "no such cell"), ("Gridprobe", 65, "no such operation"), ("Gridprobe", 68, "the draft has fewer than two formulas, or 12 parts"), ("Gridprobe", 76, "the draft has not just one formula"), ("Gridprobe", 82, "a cell would rest on itself"), ("Gridprobe", 94, "low or high is out of range"), ("Gridprobe", 104, "the cell has a formula"), ("Gridprobe", 113, "value is not in the cell's range"), ("Gridprobe", 118, "no such kind"), ("Gridprobe", 123, "the cell has 4 properties"), ("Gridprobe", 131, "no such owner"), ("Gridprobe", 136, "seed or rows is out of range"), ("Gridprobe", 169, "owner is not the cell's owner, or days is out of range"), ("Gridprobe", 171, "the cell is not locked"), ("Gridprobe", 184, "days is out of range"), ("Gridprobe", 186, "today would be above 10000"), ("Gridprobe", 194, "the cell is locked"), ("Gridprobe", 204, "the value is a fault"), ("Gridprobe", 218, "no example, or no input then")]
theorem wsG_of {w : Cond} (h1 : w ∈ lw_tbl) (h2 : goodWord w = true) : w ∈ wsG := List.mem_filter.mpr ⟨h1, h2⟩
theorem wsG_i {w : Cond} (i : Nat) (h1 : lw_tbl[i]? = some w) (h2 : goodWord w = true) : w ∈ wsG := wsG_of (List.mem_of_getElem? h1) h2
theorem wsG_all {ws : List Cond} (h1 : ∀ w ∈ ws, w ∈ lw_tbl) (h2 : ws.all goodWord = true) : ∀ w ∈ ws, w ∈ wsG := fun w h => wsG_of (h1 w h) (List.all_eq_true.mp h2 w h)
/-- words of other kinds, handed on by themselves -/
def gNw : List Cond := [.methodLinkNest RX5 9 yX0_init "Gridprobe", .methodLinkNest RX5 29 yX2_init "Gridprobe", .methodLinkNest RX5 32 yX4_init "Gridprobe", .methodLinkNest RX1 34 yX5_has "Gridprobe", .methodLinkNest RX3 45 yX0_init "Gridprobe", .methodLinkNest RX3 46 yX5_has "Gridprobe",
  .declares (Bundle.initS "java/lang/RuntimeException"), .declares (Bundle.initS "java/lang/Exception"), .declares (Bundle.initS Bundle.tN),
  .castable "java/lang/IndexOutOfBoundsException" "java/lang/IndexOutOfBoundsException", .castable "java/lang/IllegalArgumentException" "java/lang/IllegalArgumentException", .castable "java/lang/IllegalStateException" "java/lang/IllegalStateException", .castable "java/lang/ArithmeticException" "java/lang/ArithmeticException", .castable "java/util/NoSuchElementException" "java/util/NoSuchElementException"]
def Nx (U : State) : Prop := ∀ w ∈ gNw, va_Nw w U
theorem gNw_kind : ∀ w ∈ gNw, (∃ a i x h, w = .methodLinkNest a i x h) ∨ (∃ x, w = .declares x) ∨ ∃ a b, w = .castable a b := by
  intro w hw
  simp only [gNw, List.mem_cons, List.not_mem_nil, or_false] at hw
  rcases hw with rfl | rfl | rfl | rfl | rfl | rfl | rfl | rfl | rfl | rfl | rfl | rfl | rfl | rfl <;> first | exact Or.inl ⟨_, _, _, _, rfl⟩ | exact Or.inr (Or.inl ⟨_, rfl⟩) | exact Or.inr (Or.inr ⟨_, _, rfl⟩)
theorem gNw_tab {w : Cond} (h : w ∈ gNw) : w.onTables = true := by
  rcases gNw_kind w h with ⟨a, i, x, h, rfl⟩ | ⟨x, rfl⟩ | ⟨a, b, rfl⟩ <;> rfl
theorem Nx.warm {s U : State} (h : Nx s) (hW : s.WarmedH U.vm) : Nx U := fun w hw => by
  have h1 := h w hw
  rcases gNw_kind w hw with ⟨a, i, x, h, rfl⟩ | ⟨x, rfl⟩ | ⟨a, b, rfl⟩
  · exact va_Nw.warmM hW h1
  · exact va_Nw.warmD hW h1
  · exact va_Nw.warmC hW h1
theorem Nx.same {u U : State} (h : Nx u) (hv : u.vm = U.vm) : Nx U := fun w hw => va_Nw.same (gNw_tab hw) hv (h w hw)
theorem Nx.use {s : State} {args : Array Value} {w : Cond} (h : Nx s) (hw : w ∈ gNw) : w.before args s = true := va_Nw.use (gNw_tab hw) (h w hw)
/-- what a throw needs of the world outside -/
def Sx (A : Nat → Prop) (U : State) : Prop := vx_Zq Bundle.tN "UNASSIGNED_STACK" Bundle.steD A U U.heap ∧ vx_Zq Bundle.tN "SUPPRESSED_SENTINEL" Bundle.listD A U U.heap ∧ ∀ q ∈ gStr, ∃ sa : Nat, vk_R q.1 q.2.1 q.2.2 sa U
theorem Sx.narrow {A B : Nat → Prop} {s U : State} (h : Sx A s) (hAB : ∀ q, B q → A q) (hk : ∀ q : Nat, q < s.heap.size → ¬ A q → U.heap[q]? = s.heap[q]?) (hW : s.WarmedH U.vm) : Sx B U :=
  ⟨((h.1.kept hk).moved hW.alike).narrow hAB, ((h.2.1.kept hk).moved hW.alike).narrow hAB, fun q hq => by
    obtain ⟨sa, hs⟩ := h.2.2 q hq
    exact ⟨sa, hs.warm hW⟩⟩
theorem gA_sub {ad : Nat → Nat → Nat} {a b : Nat} (h : a ≤ b) {q : Nat} (hq : gA ad b q) : gA ad a q := by
  rcases hq with h1 | h1
  · exact Or.inl h1
  · exact Or.inr (Nat.le_trans h h1)
def PreZ (D : va_G) (ad : Nat → Nat → Nat) (aC : Nat → ClassId) (σ : gSig) (τ : gTau) (sz : Nat) (U : State) : Prop := U.heap.size = sz ∧ Pic D ad aC σ τ U ∧ Nx U
/-- a method that returns: its contract -/
def CZ (l : Launch) (D : va_G) (ad : Nat → Nat → Nat) (aC : Nat → ClassId) (y : MethodName) (cc : ByteArray) (nL : Nat) (rt : Option FieldType) (d : Nat) (av : List Value) (σ : gSig) (τ : gTau) (PV : Option Value → gSig → gTau → Prop) : Prop :=
  gInj ad → ∀ sz : Nat, Met l y (gws y cc nL rt) (rmz d 0) (va_Pc av (PreZ D ad aC σ τ sz)) (QcZ D ad aC sz PV) 0 0 (gA ad sz)
/-- a method that returns or throws: its contract -/
def CT (l : Launch) (D : va_G) (ad : Nat → Nat → Nat) (aC : Nat → ClassId) (y : MethodName) (cc : ByteArray) (nL : Nat) (rt : Option FieldType) (d u : Nat) (av : List Value) (σ : gSig) (τ : gTau) (PV : Option Value → gSig → gTau → Prop) (PX : String → gSig → gTau → Prop) : Prop :=
  gInj ad → l.stackTraces = false → ∀ sz : Nat, vx_Met l y (gws y cc nL rt) (rmz d u) (va_Pc av (fun U => PreZ D ad aC σ τ sz U ∧ Sx (gA ad sz) U)) (QcZ D ad aC sz PV) (XcZ D ad aC sz PX) u (6 * u) (gA ad sz)
abbrev gS : Type := Nat → gSig → gTau → Nat → gLoc → List Value → Prop
def SW (p : Program) (l : Launch) (e : Env) (R : Room) (s : State) (m : MethodId) (args : Array Value) (below : List Frame) (meth : Method) (c : Code) (Q : State → Prop) (D : va_G) (ad : Nat → Nat → Nat) (aC : Nat → ClassId) (nL : Nat) : gS :=
  fun n σ τ pc L st => ∀ (H : Heap) (locs : List Loc) (ls : Array Slot), va_P D gcl (Wd ad aC σ τ) H → va_S (gA ad s.heap.size) s.heap H locs → lv_has ls nL (lvs L) → W p l e R s m args below meth c H locs n (6 * n) Q (F0 m pc ls st)
/-- what stands around a walk -/
def Cx (l : Launch) (D : va_G) (ad : Nat → Nat → Nat) (aC : Nat → ClassId) (cc : ByteArray) (own : String) (nL : Nat) (rt : Option FieldType) (d u : Nat) (X : Prop) (PV : Option Value → gSig → gTau → Prop) (PX : String → gSig → gTau → Prop) (S : gS) : Prop :=
  ∃ (p : Program) (e : Env) (s : State) (m : MethodId) (args : Array Value) (below : List Frame) (meth : Method) (c : Code) (Q : State → Prop),
    p.tables.exec = Jvm.exec ∧ c.code = cc ∧ c.maxLocals = nL ∧ s.vm.findClass own = some m.cls ∧ (∀ w ∈ wsG, w.before args s = true) ∧ meth.sig.returnType = rt ∧ meth.locks = false ∧ va_K D gcl (gty aC) s ∧ Nx s ∧ gInj ad ∧
    (∀ t, MQ below (QcZ D ad aC s.heap.size PV) args s u (6 * u) (gA ad s.heap.size) t → Q t) ∧
    (X → l.stackTraces = false ∧ (∀ x ∈ c.exceptionTable.toList, False) ∧ Sx (gA ad s.heap.size) s ∧ ∀ t, vx_MQ below (QcZ D ad aC s.heap.size PV) (XcZ D ad aC s.heap.size PX) args s u (6 * u) (gA ad s.heap.size) t → Q t) ∧
    S = SW p l e (rmz d u) s m args below meth c Q D ad aC nL
theorem W.imp {p : Program} {l : Launch} {e : Env} {R : Room} {s : State} {m : MethodId} {args : Array Value} {below : List Frame} {meth : Method} {c : Code} {H : Heap} {locs : List Loc} {cells slots : Nat} {Q Q' : State → Prop} {g : JFrame} (h : ∀ t, Q t → Q' t) (k : W p l e R s m args below meth c H locs cells slots Q g) : W p l e R s m args below meth c H locs cells slots Q' g := fun T hT X => by
  obtain ⟨t, a, b⟩ := k T hT X
  exact ⟨t, a, h t b⟩
section GRULES
variable {l : Launch} {D : va_G} {ad : Nat → Nat → Nat} {aC : Nat → ClassId} {cc : ByteArray} {own : String} {nL : Nat} {rt : Option FieldType} {d u : Nat} {X : Prop} {PV : Option Value → gSig → gTau → Prop} {PX : String → gSig → gTau → Prop} {S : gS}
variable {n : Nat} {σ : gSig} {τ : gTau} {pc : Nat} {L : gLoc} {st : List Value}
theorem r_iconst (C : Cx l D ad aC cc own nL rt d u X PV PX S) {i : Int} {v : Int32} (hd : decode cc pc = .ok (.iconst i, 1)) (hv : Int32.ofInt i = v) (k : S n σ τ (pc + 1) L (.int v :: st)) : S n σ τ pc L st := by
  obtain ⟨p, e, s, m, args, below, meth, c, Q, hx, hb, hml, hown, hts, hr, hlk, hK, hN, hI, hQ, hX, rfl⟩ := C
  intro H locs ls hP hS hl
  exact lv_iconst hx hb hd hv (k H locs ls hP hS hl)
theorem r_bipush (C : Cx l D ad aC cc own nL rt d u X PV PX S) {i : Int} {v : Int32} (hd : decode cc pc = .ok (.bipush i, 2)) (hv : (Int8.ofInt i).toInt32 = v) (k : S n σ τ (pc + 2) L (.int v :: st)) : S n σ τ pc L st := by
  obtain ⟨p, e, s, m, args, below, meth, c, Q, hx, hb, hml, hown, hts, hr, hlk, hK, hN, hI, hQ, hX, rfl⟩ := C
  intro H locs ls hP hS hl
  exact lv_bipush hx hb hd hv (k H locs ls hP hS hl)
theorem r_sipush (C : Cx l D ad aC cc own nL rt d u X PV PX S) {i : Int} {v : Int32} (hd : decode cc pc = .ok (.sipush i, 3)) (hv : (Int16.ofInt i).toInt32 = v) (k : S n σ τ (pc + 3) L (.int v :: st)) : S n σ τ pc L st := by
  obtain ⟨p, e, s, m, args, below, meth, c, Q, hx, hb, hml, hown, hts, hr, hlk, hK, hN, hI, hQ, hX, rfl⟩ := C
  intro H locs ls hP hS hl
  exact lv_sipush hx hb hd hv (k H locs ls hP hS hl)
theorem r_lconst (C : Cx l D ad aC cc own nL rt d u X PV PX S) {i : Fin 2} {v : Int64} (hd : decode cc pc = .ok (.lconst i, 1)) (hv : Int64.ofNat (i : Nat) = v) (k : S n σ τ (pc + 1) L (.long v :: st)) : S n σ τ pc L st := by
  obtain ⟨p, e, s, m, args, below, meth, c, Q, hx, hb, hml, hown, hts, hr, hlk, hK, hN, hI, hQ, hX, rfl⟩ := C
  intro H locs ls hP hS hl
  exact lv_lconst hx hb hd hv (k H locs ls hP hS hl)
theorem r_ldc (C : Cx l D ad aC cc own nL rt d u X PV PX S) {index : Nat} {v : Int32} (hd : decode cc pc = .ok (.ldc index, 2)) (hw : Jvm.Cond.constant own index v ∈ wsG) (k : S n σ τ (pc + 2) L (.int v :: st)) : S n σ τ pc L st := by
  obtain ⟨p, e, s, m, args, below, meth, c, Q, hx, hb, hml, hown, hts, hr, hlk, hK, hN, hI, hQ, hX, rfl⟩ := C
  intro H locs ls hP hS hl
  exact lv_ldc hx hb hown (hts _ hw) hd (k H locs ls hP hS hl)
theorem r_ldcw (C : Cx l D ad aC cc own nL rt d u X PV PX S) {index : Nat} {v : Int32} (hd : decode cc pc = .ok (.ldc_w index, 3)) (hw : Jvm.Cond.constant own index v ∈ wsG) (k : S n σ τ (pc + 3) L (.int v :: st)) : S n σ τ pc L st := by
  obtain ⟨p, e, s, m, args, below, meth, c, Q, hx, hb, hml, hown, hts, hr, hlk, hK, hN, hI, hQ, hX, rfl⟩ := C
  intro H locs ls hP hS hl
  exact lv_ldcw hx hb hown (hts _ hw) hd (k H locs ls hP hS hl)
theorem r_ldc2 (C : Cx l D ad aC cc own nL rt d u X PV PX S) {index : Nat} {v : Int64} (hd : decode cc pc = .ok (.ldc2_w index, 3)) (hw : Jvm.Cond.constantLong own index v ∈ wsG) (k : S n σ τ (pc + 3) L (.long v :: st)) : S n σ τ pc L st := by
  obtain ⟨p, e, s, m, args, below, meth, c, Q, hx, hb, hml, hown, hts, hr, hlk, hK, hN, hI, hQ, hX, rfl⟩ := C
  intro H locs ls hP hS hl
  exact lv_ldc2 hx hb hown (hts _ hw) hd (k H locs ls hP hS hl)
theorem r_iload_n (C : Cx l D ad aC cc own nL rt d u X PV PX S) {i : Fin 4} {j : Nat} {x : Int32} (hd : decode cc pc = .ok (.iload_n i, 1)) (hi : (i : Nat) = j) (hj : L[j]? = some (some (.int x))) (k : S n σ τ (pc + 1) L (.int x :: st)) : S n σ τ pc L st := by
  obtain ⟨p, e, s, m, args, below, meth, c, Q, hx, hb, hml, hown, hts, hr, hlk, hK, hN, hI, hQ, hX, rfl⟩ := C
  intro H locs ls hP hS hl
  exact lv_iload_n hx hb hd hi (lvs_at hl hj) (k H locs ls hP hS hl)
theorem r_iload (C : Cx l D ad aC cc own nL rt d u X PV PX S) {j : Nat} {x : Int32} (hd : decode cc pc = .ok (.iload j, 2)) (hj : L[j]? = some (some (.int x))) (k : S n σ τ (pc + 2) L (.int x :: st)) : S n σ τ pc L st := by
  obtain ⟨p, e, s, m, args, below, meth, c, Q, hx, hb, hml, hown, hts, hr, hlk, hK, hN, hI, hQ, hX, rfl⟩ := C
  intro H locs ls hP hS hl
  exact lv_iload hx hb hd (lvs_at hl hj) (k H locs ls hP hS hl)
theorem r_istore_n (C : Cx l D ad aC cc own nL rt d u X PV PX S) {i : Fin 4} {j : Nat} {x : Int32} (hd : decode cc pc = .ok (.istore_n i, 1)) (hi : (i : Nat) = j) (hn : j < nL) (hok : okst L j = true) (k : S n σ τ (pc + 1) (L.set j (some (.int x))) st) : S n σ τ pc L (.int x :: st) := by
  obtain ⟨p, e, s, m, args, below, meth, c, Q, hx, hb, hml, hown, hts, hr, hlk, hK, hN, hI, hQ, hX, rfl⟩ := C
  intro H locs ls hP hS hl
  exact lv_istore_n hx hb hd hi hl hn rfl (fun ls' hl' => k H locs ls' hP hS (lvs_put hl' hok))
theorem r_istore (C : Cx l D ad aC cc own nL rt d u X PV PX S) {j : Nat} {x : Int32} (hd : decode cc pc = .ok (.istore j, 2)) (hn : j < nL) (hok : okst L j = true) (k : S n σ τ (pc + 2) (L.set j (some (.int x))) st) : S n σ τ pc L (.int x :: st) := by
  obtain ⟨p, e, s, m, args, below, meth, c, Q, hx, hb, hml, hown, hts, hr, hlk, hK, hN, hI, hQ, hX, rfl⟩ := C
  intro H locs ls hP hS hl
  exact lv_istore hx hb hd hl hn rfl (fun ls' hl' => k H locs ls' hP hS (lvs_put hl' hok))
theorem r_lload_n (C : Cx l D ad aC cc own nL rt d u X PV PX S) {i : Fin 4} {j : Nat} {x : Int64} (hd : decode cc pc = .ok (.lload_n i, 1)) (hi : (i : Nat) = j) (hj : L[j]? = some (some (.long x))) (k : S n σ τ (pc + 1) L (.long x :: st)) : S n σ τ pc L st := by
  obtain ⟨p, e, s, m, args, below, meth, c, Q, hx, hb, hml, hown, hts, hr, hlk, hK, hN, hI, hQ, hX, rfl⟩ := C
  intro H locs ls hP hS hl
  exact lv_lload_n hx hb hd hi (lvs_at hl hj) (k H locs ls hP hS hl)
theorem r_lload (C : Cx l D ad aC cc own nL rt d u X PV PX S) {j : Nat} {x : Int64} (hd : decode cc pc = .ok (.lload j, 2)) (hj : L[j]? = some (some (.long x))) (k : S n σ τ (pc + 2) L (.long x :: st)) : S n σ τ pc L st := by
  obtain ⟨p, e, s, m, args, below, meth, c, Q, hx, hb, hml, hown, hts, hr, hlk, hK, hN, hI, hQ, hX, rfl⟩ := C
  intro H locs ls hP hS hl
  exact lv_lload hx hb hd (lvs_at hl hj) (k H locs ls hP hS hl)
theorem r_lstore_n (C : Cx l D ad aC cc own nL rt d u X PV PX S) {i : Fin 4} {j : Nat} {x : Int64} (hd : decode cc pc = .ok (.lstore_n i, 1)) (hi : (i : Nat) = j) (hn : j + 1 < nL) (hok : okst L j = true) (k : S n σ τ (pc + 1) ((L.set j (some (.long x))).set (j + 1) none) st) : S n σ τ pc L (.long x :: st) := by
  obtain ⟨p, e, s, m, args, below, meth, c, Q, hx, hb, hml, hown, hts, hr, hlk, hK, hN, hI, hQ, hX, rfl⟩ := C
  intro H locs ls hP hS hl
  exact lv_lstore_n hx hb hd hi hl hn rfl (fun ls' hl' => k H locs ls' hP hS (lvs_put2 hl' hok))
theorem r_lstore (C : Cx l D ad aC cc own nL rt d u X PV PX S) {j : Nat} {x : Int64} (hd : decode cc pc = .ok (.lstore j, 2)) (hn : j + 1 < nL) (hok : okst L j = true) (k : S n σ τ (pc + 2) ((L.set j (some (.long x))).set (j + 1) none) st) : S n σ τ pc L (.long x :: st) := by
  obtain ⟨p, e, s, m, args, below, meth, c, Q, hx, hb, hml, hown, hts, hr, hlk, hK, hN, hI, hQ, hX, rfl⟩ := C
  intro H locs ls hP hS hl
  exact lv_lstore hx hb hd hl hn rfl (fun ls' hl' => k H locs ls' hP hS (lvs_put2 hl' hok))
theorem r_aload_n (C : Cx l D ad aC cc own nL rt d u X PV PX S) {i : Fin 4} {j : Nat} {x : Nat} (hd : decode cc pc = .ok (.aload_n i, 1)) (hi : (i : Nat) = j) (hj : L[j]? = some (some (.ref x))) (k : S n σ τ (pc + 1) L (.ref x :: st)) : S n σ τ pc L st := by
  obtain ⟨p, e, s, m, args, below, meth, c, Q, hx, hb, hml, hown, hts, hr, hlk, hK, hN, hI, hQ, hX, rfl⟩ := C
  intro H locs ls hP hS hl
  exact lv_aload_n hx hb hd hi (lvs_at hl hj) (k H locs ls hP hS hl)
theorem r_aload (C : Cx l D ad aC cc own nL rt d u X PV PX S) {j : Nat} {x : Nat} (hd : decode cc pc = .ok (.aload j, 2)) (hj : L[j]? = some (some (.ref x))) (k : S n σ τ (pc + 2) L (.ref x :: st)) : S n σ τ pc L st := by
  obtain ⟨p, e, s, m, args, below, meth, c, Q, hx, hb, hml, hown, hts, hr, hlk, hK, hN, hI, hQ, hX, rfl⟩ := C
  intro H locs ls hP hS hl
  exact lv_aload hx hb hd (lvs_at hl hj) (k H locs ls hP hS hl)
theorem r_astore_n (C : Cx l D ad aC cc own nL rt d u X PV PX S) {i : Fin 4} {j : Nat} {x : Nat} (hd : decode cc pc = .ok (.astore_n i, 1)) (hi : (i : Nat) = j) (hn : j < nL) (hok : okst L j = true) (k : S n σ τ (pc + 1) (L.set j (some (.ref x))) st) : S n σ τ pc L (.ref x :: st) := by
  obtain ⟨p, e, s, m, args, below, meth, c, Q, hx, hb, hml, hown, hts, hr, hlk, hK, hN, hI, hQ, hX, rfl⟩ := C
  intro H locs ls hP hS hl
  exact lv_astore_n hx hb hd hi hl hn rfl (fun ls' hl' => k H locs ls' hP hS (lvs_put hl' hok))
theorem r_astore (C : Cx l D ad aC cc own nL rt d u X PV PX S) {j : Nat} {x : Nat} (hd : decode cc pc = .ok (.astore j, 2)) (hn : j < nL) (hok : okst L j = true) (k : S n σ τ (pc + 2) (L.set j (some (.ref x))) st) : S n σ τ pc L (.ref x :: st) := by
  obtain ⟨p, e, s, m, args, below, meth, c, Q, hx, hb, hml, hown, hts, hr, hlk, hK, hN, hI, hQ, hX, rfl⟩ := C
  intro H locs ls hP hS hl
  exact lv_astore hx hb hd hl hn rfl (fun ls' hl' => k H locs ls' hP hS (lvs_put hl' hok))
theorem r_iinc (C : Cx l D ad aC cc own nL rt d u X PV PX S) {j : Nat} {i : Int} {x v : Int32} (hd : decode cc pc = .ok (.iinc j i, 3)) (hj : L[j]? = some (some (.int x))) (hv : x + Int32.ofInt i = v) (hn : j < nL) (hok : okst L j = true) (k : S n σ τ (pc + 3) (L.set j (some (.int v))) st) : S n σ τ pc L st := by
  obtain ⟨p, e, s, m, args, below, meth, c, Q, hx, hb, hml, hown, hts, hr, hlk, hK, hN, hI, hQ, hX, rfl⟩ := C
  intro H locs ls hP hS hl
  obtain ⟨k9, hk9⟩ := List.getElem?_of_mem (lvs_mem.mpr hj)
  exact lv_iinc hx hb hd hl (k := k9) hk9 hv hn rfl (fun ls' hl' => k H locs ls' hP hS (lvs_put hl' hok))
theorem r_iadd (C : Cx l D ad aC cc own nL rt d u X PV PX S) {x y : Int32} (hd : decode cc pc = .ok (.iadd, 1)) (k : S n σ τ (pc + 1) L (.int (x + y) :: st)) : S n σ τ pc L (.int y :: .int x :: st) := by
  obtain ⟨p, e, s, m, args, below, meth, c, Q, hx, hb, hml, hown, hts, hr, hlk, hK, hN, hI, hQ, hX, rfl⟩ := C
  intro H locs ls hP hS hl
  exact lv_iadd hx hb hd (k H locs ls hP hS hl)
theorem r_isub (C : Cx l D ad aC cc own nL rt d u X PV PX S) {x y : Int32} (hd : decode cc pc = .ok (.isub, 1)) (k : S n σ τ (pc + 1) L (.int (x - y) :: st)) : S n σ τ pc L (.int y :: .int x :: st) := by
  obtain ⟨p, e, s, m, args, below, meth, c, Q, hx, hb, hml, hown, hts, hr, hlk, hK, hN, hI, hQ, hX, rfl⟩ := C
  intro H locs ls hP hS hl
  exact lv_isub hx hb hd (k H locs ls hP hS hl)
theorem r_imul (C : Cx l D ad aC cc own nL rt d u X PV PX S) {x y : Int32} (hd : decode cc pc = .ok (.imul, 1)) (k : S n σ τ (pc + 1) L (.int (x * y) :: st)) : S n σ τ pc L (.int y :: .int x :: st) := by
  obtain ⟨p, e, s, m, args, below, meth, c, Q, hx, hb, hml, hown, hts, hr, hlk, hK, hN, hI, hQ, hX, rfl⟩ := C
  intro H locs ls hP hS hl
  exact lv_imul hx hb hd (k H locs ls hP hS hl)
theorem r_iand (C : Cx l D ad aC cc own nL rt d u X PV PX S) {x y : Int32} (hd : decode cc pc = .ok (.iand, 1)) (k : S n σ τ (pc + 1) L (.int (x &&& y) :: st)) : S n σ τ pc L (.int y :: .int x :: st) := by
  obtain ⟨p, e, s, m, args, below, meth, c, Q, hx, hb, hml, hown, hts, hr, hlk, hK, hN, hI, hQ, hX, rfl⟩ := C
  intro H locs ls hP hS hl
  exact lv_iand hx hb hd (k H locs ls hP hS hl)
theorem r_ior (C : Cx l D ad aC cc own nL rt d u X PV PX S) {x y : Int32} (hd : decode cc pc = .ok (.ior, 1)) (k : S n σ τ (pc + 1) L (.int (x ||| y) :: st)) : S n σ τ pc L (.int y :: .int x :: st) := by
  obtain ⟨p, e, s, m, args, below, meth, c, Q, hx, hb, hml, hown, hts, hr, hlk, hK, hN, hI, hQ, hX, rfl⟩ := C
  intro H locs ls hP hS hl
  exact lv_ior hx hb hd (k H locs ls hP hS hl)
theorem r_ixor (C : Cx l D ad aC cc own nL rt d u X PV PX S) {x y : Int32} (hd : decode cc pc = .ok (.ixor, 1)) (k : S n σ τ (pc + 1) L (.int (x ^^^ y) :: st)) : S n σ τ pc L (.int y :: .int x :: st) := by
  obtain ⟨p, e, s, m, args, below, meth, c, Q, hx, hb, hml, hown, hts, hr, hlk, hK, hN, hI, hQ, hX, rfl⟩ := C
  intro H locs ls hP hS hl
  exact lv_ixor hx hb hd (k H locs ls hP hS hl)
theorem r_ishl (C : Cx l D ad aC cc own nL rt d u X PV PX S) {x y : Int32} (hd : decode cc pc = .ok (.ishl, 1)) (k : S n σ τ (pc + 1) L (.int (x <<< (y &&& 31)) :: st)) : S n σ τ pc L (.int y :: .int x :: st) := by
  obtain ⟨p, e, s, m, args, below, meth, c, Q, hx, hb, hml, hown, hts, hr, hlk, hK, hN, hI, hQ, hX, rfl⟩ := C
  intro H locs ls hP hS hl
  exact lv_ishl hx hb hd (k H locs ls hP hS hl)
theorem r_ishr (C : Cx l D ad aC cc own nL rt d u X PV PX S) {x y : Int32} (hd : decode cc pc = .ok (.ishr, 1)) (k : S n σ τ (pc + 1) L (.int (x >>> (y &&& 31)) :: st)) : S n σ τ pc L (.int y :: .int x :: st) := by
  obtain ⟨p, e, s, m, args, below, meth, c, Q, hx, hb, hml, hown, hts, hr, hlk, hK, hN, hI, hQ, hX, rfl⟩ := C
  intro H locs ls hP hS hl
  exact lv_ishr hx hb hd (k H locs ls hP hS hl)
theorem r_idiv (C : Cx l D ad aC cc own nL rt d u X PV PX S) {x y : Int32} (hd : decode cc pc = .ok (.idiv, 1)) (hne : ¬ y = 0) (k : S n σ τ (pc + 1) L (.int (x / y) :: st)) : S n σ τ pc L (.int y :: .int x :: st) := by
  obtain ⟨p, e, s, m, args, below, meth, c, Q, hx, hb, hml, hown, hts, hr, hlk, hK, hN, hI, hQ, hX, rfl⟩ := C
  intro H locs ls hP hS hl
  exact lv_idiv hx hb hd hne (k H locs ls hP hS hl)
theorem r_irem (C : Cx l D ad aC cc own nL rt d u X PV PX S) {x y : Int32} (hd : decode cc pc = .ok (.irem, 1)) (hne : ¬ y = 0) (k : S n σ τ (pc + 1) L (.int (x - x / y * y) :: st)) : S n σ τ pc L (.int y :: .int x :: st) := by
  obtain ⟨p, e, s, m, args, below, meth, c, Q, hx, hb, hml, hown, hts, hr, hlk, hK, hN, hI, hQ, hX, rfl⟩ := C
  intro H locs ls hP hS hl
  exact lv_irem hx hb hd hne (k H locs ls hP hS hl)
theorem r_iushr (C : Cx l D ad aC cc own nL rt d u X PV PX S) {x y v : Int32} (hd : decode cc pc = .ok (.iushr, 1)) (hv : (x.toUInt32 >>> (y.toUInt32 &&& Int32.toUInt32 31)).toInt32 = v) (k : S n σ τ (pc + 1) L (.int v :: st)) : S n σ τ pc L (.int y :: .int x :: st) := by
  obtain ⟨p, e, s, m, args, below, meth, c, Q, hx, hb, hml, hown, hts, hr, hlk, hK, hN, hI, hQ, hX, rfl⟩ := C
  intro H locs ls hP hS hl
  exact lv_iushr hx hb hd hv (k H locs ls hP hS hl)
theorem r_ineg (C : Cx l D ad aC cc own nL rt d u X PV PX S) {x : Int32} (hd : decode cc pc = .ok (.ineg, 1)) (k : S n σ τ (pc + 1) L (.int (-x) :: st)) : S n σ τ pc L (.int x :: st) := by
  obtain ⟨p, e, s, m, args, below, meth, c, Q, hx, hb, hml, hown, hts, hr, hlk, hK, hN, hI, hQ, hX, rfl⟩ := C
  intro H locs ls hP hS hl
  exact lv_ineg hx hb hd (k H locs ls hP hS hl)
theorem r_i2l (C : Cx l D ad aC cc own nL rt d u X PV PX S) {x : Int32} (hd : decode cc pc = .ok (.i2l, 1)) (k : S n σ τ (pc + 1) L (.long x.toInt64 :: st)) : S n σ τ pc L (.int x :: st) := by
  obtain ⟨p, e, s, m, args, below, meth, c, Q, hx, hb, hml, hown, hts, hr, hlk, hK, hN, hI, hQ, hX, rfl⟩ := C
  intro H locs ls hP hS hl
  exact lv_i2l hx hb hd rfl (k H locs ls hP hS hl)
theorem r_l2i (C : Cx l D ad aC cc own nL rt d u X PV PX S) {x : Int64} (hd : decode cc pc = .ok (.l2i, 1)) (k : S n σ τ (pc + 1) L (.int x.toInt32 :: st)) : S n σ τ pc L (.long x :: st) := by
  obtain ⟨p, e, s, m, args, below, meth, c, Q, hx, hb, hml, hown, hts, hr, hlk, hK, hN, hI, hQ, hX, rfl⟩ := C
  intro H locs ls hP hS hl
  exact lv_l2i hx hb hd rfl (k H locs ls hP hS hl)
theorem r_ladd (C : Cx l D ad aC cc own nL rt d u X PV PX S) {x y : Int64} (hd : decode cc pc = .ok (.ladd, 1)) (k : S n σ τ (pc + 1) L (.long (x + y) :: st)) : S n σ τ pc L (.long y :: .long x :: st) := by
  obtain ⟨p, e, s, m, args, below, meth, c, Q, hx, hb, hml, hown, hts, hr, hlk, hK, hN, hI, hQ, hX, rfl⟩ := C
  intro H locs ls hP hS hl
  exact lv_ladd hx hb hd (k H locs ls hP hS hl)
theorem r_lsub (C : Cx l D ad aC cc own nL rt d u X PV PX S) {x y : Int64} (hd : decode cc pc = .ok (.lsub, 1)) (k : S n σ τ (pc + 1) L (.long (x - y) :: st)) : S n σ τ pc L (.long y :: .long x :: st) := by
  obtain ⟨p, e, s, m, args, below, meth, c, Q, hx, hb, hml, hown, hts, hr, hlk, hK, hN, hI, hQ, hX, rfl⟩ := C
  intro H locs ls hP hS hl
  exact lv_lsub hx hb hd (k H locs ls hP hS hl)
theorem r_lmul (C : Cx l D ad aC cc own nL rt d u X PV PX S) {x y : Int64} (hd : decode cc pc = .ok (.lmul, 1)) (k : S n σ τ (pc + 1) L (.long (x * y) :: st)) : S n σ τ pc L (.long y :: .long x :: st) := by
  obtain ⟨p, e, s, m, args, below, meth, c, Q, hx, hb, hml, hown, hts, hr, hlk, hK, hN, hI, hQ, hX, rfl⟩ := C
  intro H locs ls hP hS hl
  exact lv_lmul hx hb hd (k H locs ls hP hS hl)
theorem r_lcmp (C : Cx l D ad aC cc own nL rt d u X PV PX S) {x y : Int64} (hd : decode cc pc = .ok (.lcmp, 1)) (k : S n σ τ (pc + 1) L (.int (lg_cmp x y) :: st)) : S n σ τ pc L (.long y :: .long x :: st) := by
  obtain ⟨p, e, s, m, args, below, meth, c, Q, hx, hb, hml, hown, hts, hr, hlk, hK, hN, hI, hQ, hX, rfl⟩ := C
  intro H locs ls hP hS hl
  exact W.lcmp hx hb hd (k H locs ls hP hS hl)
theorem r_dup (C : Cx l D ad aC cc own nL rt d u X PV PX S) {v : Value} (hd : decode cc pc = .ok (.dup, 1)) (hc : v.category = 1) (k : S n σ τ (pc + 1) L (v :: v :: st)) : S n σ τ pc L (v :: st) := by
  obtain ⟨p, e, s, m, args, below, meth, c, Q, hx, hb, hml, hown, hts, hr, hlk, hK, hN, hI, hQ, hX, rfl⟩ := C
  intro H locs ls hP hS hl
  exact lv_dup hx hb hd hc (k H locs ls hP hS hl)
theorem r_dup2 (C : Cx l D ad aC cc own nL rt d u X PV PX S) {v w : Value} (hd : decode cc pc = .ok (.dup2, 1)) (hc : v.category = 1) (hc2 : w.category = 1) (k : S n σ τ (pc + 1) L (v :: w :: v :: w :: st)) : S n σ τ pc L (v :: w :: st) := by
  obtain ⟨p, e, s, m, args, below, meth, c, Q, hx, hb, hml, hown, hts, hr, hlk, hK, hN, hI, hQ, hX, rfl⟩ := C
  intro H locs ls hP hS hl
  exact lv_dup2_11 hx hb hd hc hc2 (k H locs ls hP hS hl)
theorem r_dup_x1 (C : Cx l D ad aC cc own nL rt d u X PV PX S) {v w : Value} (hd : decode cc pc = .ok (.dup_x1, 1)) (hc : v.category = 1) (hc2 : w.category = 1) (k : S n σ τ (pc + 1) L (v :: w :: v :: st)) : S n σ τ pc L (v :: w :: st) := by
  obtain ⟨p, e, s, m, args, below, meth, c, Q, hx, hb, hml, hown, hts, hr, hlk, hK, hN, hI, hQ, hX, rfl⟩ := C
  intro H locs ls hP hS hl
  exact lv_dup_x1 hx hb hd hc hc2 (k H locs ls hP hS hl)
theorem r_pop (C : Cx l D ad aC cc own nL rt d u X PV PX S) {v : Value} (hd : decode cc pc = .ok (.pop, 1)) (hc : v.category = 1) (k : S n σ τ (pc + 1) L st) : S n σ τ pc L (v :: st) := by
  obtain ⟨p, e, s, m, args, below, meth, c, Q, hx, hb, hml, hown, hts, hr, hlk, hK, hN, hI, hQ, hX, rfl⟩ := C
  intro H locs ls hP hS hl
  exact lv_pop hx hb hd hc (k H locs ls hP hS hl)
theorem r_ifeq (C : Cx l D ad aC cc own nL rt d u X PV PX S) {x : Int32} {off : Int} {tgt : Nat} (hd : decode cc pc = .ok (.ifCond .eq off, 3)) (ht : (pc : Int) + off = (tgt : Int)) (kt : x = 0 → S n σ τ tgt L st) (kf : ¬ x = 0 → S n σ τ (pc + 3) L st) : S n σ τ pc L (.int x :: st) := by
  obtain ⟨p, e, s, m, args, below, meth, c, Q, hx, hb, hml, hown, hts, hr, hlk, hK, hN, hI, hQ, hX, rfl⟩ := C
  intro H locs ls hP hS hl
  exact lv_if_eq hx hb hd ht (fun q => kt q H locs ls hP hS hl) (fun q => kf q H locs ls hP hS hl)
theorem r_icmpeq (C : Cx l D ad aC cc own nL rt d u X PV PX S) {x y : Int32} {off : Int} {tgt : Nat} (hd : decode cc pc = .ok (.if_icmp .eq off, 3)) (ht : (pc : Int) + off = (tgt : Int)) (kt : x = y → S n σ τ tgt L st) (kf : ¬ x = y → S n σ τ (pc + 3) L st) : S n σ τ pc L (.int y :: .int x :: st) := by
  obtain ⟨p, e, s, m, args, below, meth, c, Q, hx, hb, hml, hown, hts, hr, hlk, hK, hN, hI, hQ, hX, rfl⟩ := C
  intro H locs ls hP hS hl
  exact lv_icmp_eq hx hb hd ht (fun q => kt q H locs ls hP hS hl) (fun q => kf q H locs ls hP hS hl)
theorem r_ifne (C : Cx l D ad aC cc own nL rt d u X PV PX S) {x : Int32} {off : Int} {tgt : Nat} (hd : decode cc pc = .ok (.ifCond .ne off, 3)) (ht : (pc : Int) + off = (tgt : Int)) (kt : ¬ x = 0 → S n σ τ tgt L st) (kf : x = 0 → S n σ τ (pc + 3) L st) : S n σ τ pc L (.int x :: st) := by
  obtain ⟨p, e, s, m, args, below, meth, c, Q, hx, hb, hml, hown, hts, hr, hlk, hK, hN, hI, hQ, hX, rfl⟩ := C
  intro H locs ls hP hS hl
  exact lv_if_ne hx hb hd ht (fun q => kt q H locs ls hP hS hl) (fun q => kf q H locs ls hP hS hl)
theorem r_icmpne (C : Cx l D ad aC cc own nL rt d u X PV PX S) {x y : Int32} {off : Int} {tgt : Nat} (hd : decode cc pc = .ok (.if_icmp .ne off, 3)) (ht : (pc : Int) + off = (tgt : Int)) (kt : ¬ x = y → S n σ τ tgt L st) (kf : x = y → S n σ τ (pc + 3) L st) : S n σ τ pc L (.int y :: .int x :: st) := by
  obtain ⟨p, e, s, m, args, below, meth, c, Q, hx, hb, hml, hown, hts, hr, hlk, hK, hN, hI, hQ, hX, rfl⟩ := C
  intro H locs ls hP hS hl
  exact lv_icmp_ne hx hb hd ht (fun q => kt q H locs ls hP hS hl) (fun q => kf q H locs ls hP hS hl)
theorem r_iflt (C : Cx l D ad aC cc own nL rt d u X PV PX S) {x : Int32} {off : Int} {tgt : Nat} (hd : decode cc pc = .ok (.ifCond .lt off, 3)) (ht : (pc : Int) + off = (tgt : Int)) (kt : x < 0 → S n σ τ tgt L st) (kf : ¬ x < 0 → S n σ τ (pc + 3) L st) : S n σ τ pc L (.int x :: st) := by
  obtain ⟨p, e, s, m, args, below, meth, c, Q, hx, hb, hml, hown, hts, hr, hlk, hK, hN, hI, hQ, hX, rfl⟩ := C
  intro H locs ls hP hS hl
  exact lv_if_lt hx hb hd ht (fun q => kt q H locs ls hP hS hl) (fun q => kf q H locs ls hP hS hl)
theorem r_icmplt (C : Cx l D ad aC cc own nL rt d u X PV PX S) {x y : Int32} {off : Int} {tgt : Nat} (hd : decode cc pc = .ok (.if_icmp .lt off, 3)) (ht : (pc : Int) + off = (tgt : Int)) (kt : x < y → S n σ τ tgt L st) (kf : ¬ x < y → S n σ τ (pc + 3) L st) : S n σ τ pc L (.int y :: .int x :: st) := by
  obtain ⟨p, e, s, m, args, below, meth, c, Q, hx, hb, hml, hown, hts, hr, hlk, hK, hN, hI, hQ, hX, rfl⟩ := C
  intro H locs ls hP hS hl
  exact lv_icmp_lt hx hb hd ht (fun q => kt q H locs ls hP hS hl) (fun q => kf q H locs ls hP hS hl)
theorem r_ifge (C : Cx l D ad aC cc own nL rt d u X PV PX S) {x : Int32} {off : Int} {tgt : Nat} (hd : decode cc pc = .ok (.ifCond .ge off, 3)) (ht : (pc : Int) + off = (tgt : Int)) (kt : 0 ≤ x → S n σ τ tgt L st) (kf : ¬ 0 ≤ x → S n σ τ (pc + 3) L st) : S n σ τ pc L (.int x :: st) := by
  obtain ⟨p, e, s, m, args, below, meth, c, Q, hx, hb, hml, hown, hts, hr, hlk, hK, hN, hI, hQ, hX, rfl⟩ := C
  intro H locs ls hP hS hl
  exact lv_if_ge hx hb hd ht (fun q => kt q H locs ls hP hS hl) (fun q => kf q H locs ls hP hS hl)
theorem r_icmpge (C : Cx l D ad aC cc own nL rt d u X PV PX S) {x y : Int32} {off : Int} {tgt : Nat} (hd : decode cc pc = .ok (.if_icmp .ge off, 3)) (ht : (pc : Int) + off = (tgt : Int)) (kt : y ≤ x → S n σ τ tgt L st) (kf : ¬ y ≤ x → S n σ τ (pc + 3) L st) : S n σ τ pc L (.int y :: .int x :: st) := by
  obtain ⟨p, e, s, m, args, below, meth, c, Q, hx, hb, hml, hown, hts, hr, hlk, hK, hN, hI, hQ, hX, rfl⟩ := C
  intro H locs ls hP hS hl
  exact lv_icmp_ge hx hb hd ht (fun q => kt q H locs ls hP hS hl) (fun q => kf q H locs ls hP hS hl)
theorem r_ifgt (C : Cx l D ad aC cc own nL rt d u X PV PX S) {x : Int32} {off : Int} {tgt : Nat} (hd : decode cc pc = .ok (.ifCond .gt off, 3)) (ht : (pc : Int) + off = (tgt : Int)) (kt : 0 < x → S n σ τ tgt L st) (kf : ¬ 0 < x → S n σ τ (pc + 3) L st) : S n σ τ pc L (.int x :: st) := by
  obtain ⟨p, e, s, m, args, below, meth, c, Q, hx, hb, hml, hown, hts, hr, hlk, hK, hN, hI, hQ, hX, rfl⟩ := C
  intro H locs ls hP hS hl
  exact lv_if_gt hx hb hd ht (fun q => kt q H locs ls hP hS hl) (fun q => kf q H locs ls hP hS hl)
theorem r_icmpgt (C : Cx l D ad aC cc own nL rt d u X PV PX S) {x y : Int32} {off : Int} {tgt : Nat} (hd : decode cc pc = .ok (.if_icmp .gt off, 3)) (ht : (pc : Int) + off = (tgt : Int)) (kt : y < x → S n σ τ tgt L st) (kf : ¬ y < x → S n σ τ (pc + 3) L st) : S n σ τ pc L (.int y :: .int x :: st) := by
  obtain ⟨p, e, s, m, args, below, meth, c, Q, hx, hb, hml, hown, hts, hr, hlk, hK, hN, hI, hQ, hX, rfl⟩ := C
  intro H locs ls hP hS hl
  exact lv_icmp_gt hx hb hd ht (fun q => kt q H locs ls hP hS hl) (fun q => kf q H locs ls hP hS hl)
theorem r_ifle (C : Cx l D ad aC cc own nL rt d u X PV PX S) {x : Int32} {off : Int} {tgt : Nat} (hd : decode cc pc = .ok (.ifCond .le off, 3)) (ht : (pc : Int) + off = (tgt : Int)) (kt : x ≤ 0 → S n σ τ tgt L st) (kf : ¬ x ≤ 0 → S n σ τ (pc + 3) L st) : S n σ τ pc L (.int x :: st) := by
  obtain ⟨p, e, s, m, args, below, meth, c, Q, hx, hb, hml, hown, hts, hr, hlk, hK, hN, hI, hQ, hX, rfl⟩ := C
  intro H locs ls hP hS hl
  exact lv_if_le hx hb hd ht (fun q => kt q H locs ls hP hS hl) (fun q => kf q H locs ls hP hS hl)
theorem r_icmple (C : Cx l D ad aC cc own nL rt d u X PV PX S) {x y : Int32} {off : Int} {tgt : Nat} (hd : decode cc pc = .ok (.if_icmp .le off, 3)) (ht : (pc : Int) + off = (tgt : Int)) (kt : x ≤ y → S n σ τ tgt L st) (kf : ¬ x ≤ y → S n σ τ (pc + 3) L st) : S n σ τ pc L (.int y :: .int x :: st) := by
  obtain ⟨p, e, s, m, args, below, meth, c, Q, hx, hb, hml, hown, hts, hr, hlk, hK, hN, hI, hQ, hX, rfl⟩ := C
  intro H locs ls hP hS hl
  exact lv_icmp_le hx hb hd ht (fun q => kt q H locs ls hP hS hl) (fun q => kf q H locs ls hP hS hl)
theorem r_goto (C : Cx l D ad aC cc own nL rt d u X PV PX S) {off : Int} {tgt : Nat} (hd : decode cc pc = .ok (.goto off, 3)) (ht : (pc : Int) + off = (tgt : Int)) (k : S n σ τ tgt L st) : S n σ τ pc L st := by
  obtain ⟨p, e, s, m, args, below, meth, c, Q, hx, hb, hml, hown, hts, hr, hlk, hK, hN, hI, hQ, hX, rfl⟩ := C
  intro H locs ls hP hS hl
  exact lv_goto hx hb hd ht (k H locs ls hP hS hl)
theorem r_swIn (C : Cx l D ad aC cc own nL rt d u X PV PX S) {dflt lo hi : Int} {offs : Array Int} {len : Nat} {x : Int32} {off : Int} {tgt : Nat} (hd : decode cc pc = .ok (.tableswitch dflt lo hi offs, len)) (h1 : ¬ x.toInt < lo) (h2 : ¬ hi < x.toInt) (ho : offs[(x.toInt - lo).toNat]? = some off) (ht : (pc : Int) + off = (tgt : Int)) (k : S n σ τ tgt L st) : S n σ τ pc L (.int x :: st) := by
  obtain ⟨p, e, s, m, args, below, meth, c, Q, hx, hb, hml, hown, hts, hr, hlk, hK, hN, hI, hQ, hX, rfl⟩ := C
  intro H locs ls hP hS hl
  exact lv_tableIn hx hb hd h1 h2 ho ht (k H locs ls hP hS hl)
theorem r_swOut (C : Cx l D ad aC cc own nL rt d u X PV PX S) {dflt lo hi : Int} {offs : Array Int} {len : Nat} {x : Int32} {tgt : Nat} (hd : decode cc pc = .ok (.tableswitch dflt lo hi offs, len)) (h1 : x.toInt < lo ∨ hi < x.toInt) (ht : (pc : Int) + dflt = (tgt : Int)) (k : S n σ τ tgt L st) : S n σ τ pc L (.int x :: st) := by
  obtain ⟨p, e, s, m, args, below, meth, c, Q, hx, hb, hml, hown, hts, hr, hlk, hK, hN, hI, hQ, hX, rfl⟩ := C
  intro H locs ls hP hS hl
  exact lv_tableOut hx hb hd h1 ht (k H locs ls hP hS hl)
theorem r_get (C : Cx l D ad aC cc own nL rt d u X PV PX S) {ci : Nat} {C0 : String} {T : u_T} {N : Nat} {ref : String} {fm c0 f index : Nat} {fs : List Value} {v : Value} (hd : decode cc pc = .ok (.getfield index, 3)) (hok : gok fm c0) (hcel : cel ad aC σ τ fm c0 = .inr (ci, fs)) (hc : gcl[ci]? = some (C0, T, N)) (hin : ∀ w ∈ u_ws C0 T N, w ∈ wsG) (hf : f < N) (hw : Jvm.Cond.fieldLink own index ref (T f).2.1 (T f).2.2.1 ∈ wsG) (hsame : (T f).1 = ref) (hv : fs[f]? = some v) (k : S n σ τ (pc + 3) L (v :: st)) : S n σ τ pc L (.ref (ad fm c0) :: st) := by
  obtain ⟨p, e, s, m, args, below, meth, c, Q, hx, hb, hml, hown, hts, hr, hlk, hK, hN, hI, hQ, hX, rfl⟩ := C
  intro H locs ls hP hS hl
  obtain ⟨q0, hg, hst⟩ := Wd_get (ad := ad) (aC := aC) hok
  have he := hg σ τ
  rw [hcel] at he
  exact va_get hx hb hts hin hown hK hP q0 he hc f hf (hts _ hw) (fun x h9 => by rw [← hsame]; exact h9) hv hd (k H locs ls hP hS hl)
theorem r_getN (C : Cx l D ad aC cc own nL rt d u X PV PX S) {host : String} {ci : Nat} {C0 : String} {T : u_T} {N : Nat} {ref : String} {fm c0 f index : Nat} {fs : List Value} {v : Value} (hd : decode cc pc = .ok (.getfield index, 3)) (hok : gok fm c0) (hcel : cel ad aC σ τ fm c0 = .inr (ci, fs)) (hc : gcl[ci]? = some (C0, T, N)) (hin : ∀ w ∈ u_ws C0 T N, w ∈ wsG) (hf : f < N) (hw : Jvm.Cond.fieldLinkNest own index ref (T f).2.1 (T f).2.2.1 host ∈ wsG) (hsame : (T f).1 = ref) (hv : fs[f]? = some v) (k : S n σ τ (pc + 3) L (v :: st)) : S n σ τ pc L (.ref (ad fm c0) :: st) := by
  obtain ⟨p, e, s, m, args, below, meth, c, Q, hx, hb, hml, hown, hts, hr, hlk, hK, hN, hI, hQ, hX, rfl⟩ := C
  intro H locs ls hP hS hl
  obtain ⟨q0, hg, hst⟩ := Wd_get (ad := ad) (aC := aC) hok
  have he := hg σ τ
  rw [hcel] at he
  exact va_getN hx hb hts hin hown hK hP q0 he hc f hf (hts _ hw) (fun x h9 => by rw [← hsame]; exact h9) hv hd (k H locs ls hP hS hl)
/-- an int field written: the cell's row for it is asked for -/
theorem r_put (C : Cx l D ad aC cc own nL rt d u X PV PX S) {ci : Nat} {C0 : String} {T : u_T} {N : Nat} {ref : String} {fm c0 f index : Nat} {fs : List Value} {v : Int32} (hd : decode cc pc = .ok (.putfield index, 3)) (hok : gok fm c0) (hcel : cel ad aC σ τ fm c0 = .inr (ci, fs)) (hc : gcl[ci]? = some (C0, T, N)) (hin : ∀ w ∈ u_ws C0 T N, w ∈ wsG) (ty0 : Nat → FieldType) (hty : ∀ k, k < N → parseFieldDescriptor (T k).2.2.1 = some (ty0 k)) (hnm : ∀ a, a < N → ∀ b, b < N → a ≠ b → (T a).2.1 ≠ (T b).2.1) (hf : f < N) (hw : Jvm.Cond.fieldLink own index ref (T f).2.1 (T f).2.2.1 ∈ wsG) (hsame : (T f).1 = ref) (hfin : (T f).2.2.2 = false) (hde : parseFieldDescriptor (T f).2.2.1 = some .int) (hlen : f < fs.length) (hset : cel ad aC (up3 σ fm c0 f v) τ fm c0 = .inr (ci, fs.set f (.int v))) (k : S n (up3 σ fm c0 f v) τ (pc + 3) L st) : S n σ τ pc L (.int v :: .ref (ad fm c0) :: st) := by
  obtain ⟨p, e, s, m, args, below, meth, c, Q, hx, hb, hml, hown, hts, hr, hlk, hK, hN, hI, hQ, hX, rfl⟩ := C
  intro H locs ls hP hS hl
  obtain ⟨q0, hg, hst⟩ := Wd_get (ad := ad) (aC := aC) hok
  have he := hg σ τ
  rw [hcel] at he
  refine va_put hx hb hts hin ty0 hty hnm hown hK hP (gD_of hI aC σ τ _) hS q0 he hc f hf (hts _ hw) (fun x h9 => by rw [← hsame]; exact h9) hfin hde rfl rfl hlen hd (fun H1 locs1 hP1 _ hS1 => ?_)
  rw [hst σ (up3 σ fm c0 f v) τ τ _ (fun f' c' hne => up3_ne σ fm c0 f v hne) (fun _ _ => rfl) (Or.inl rfl) hset] at hP1
  exact k H1 locs1 ls hP1 hS1 hl
theorem r_iald (C : Cx l D ad aC cc own nL rt d u X PV PX S) {fm c0 len : Nat} {i : Int32} (hd : decode cc pc = .ok (.iaload, 1)) (hok : gok fm c0) (hcel : cel ad aC σ τ fm c0 = .inl (aC 0, len, .inl (σ fm c0))) (hin : vp_in i len) (k : S n σ τ (pc + 1) L (.int (σ fm c0 i.toNatClampNeg) :: st)) : S n σ τ pc L (.int i :: .ref (ad fm c0) :: st) := by
  obtain ⟨p, e, s, m, args, below, meth, c, Q, hx, hb, hml, hown, hts, hr, hlk, hK, hN, hI, hQ, hX, rfl⟩ := C
  intro H locs ls hP hS hl
  obtain ⟨q0, hg, hst⟩ := Wd_get (ad := ad) (aC := aC) hok
  have he := hg σ τ
  rw [hcel] at he
  exact va_iald hx hb hK hP q0 0 he rfl hin hd (k H locs ls hP hS hl)
theorem r_lald (C : Cx l D ad aC cc own nL rt d u X PV PX S) {fm c0 len : Nat} {i : Int32} (hd : decode cc pc = .ok (.laload, 1)) (hok : gok fm c0) (hcel : cel ad aC σ τ fm c0 = .inl (aC 1, len, .inr (.inl (τ fm)))) (hin : vp_in i len) (k : S n σ τ (pc + 1) L (.long (τ fm i.toNatClampNeg) :: st)) : S n σ τ pc L (.int i :: .ref (ad fm c0) :: st) := by
  obtain ⟨p, e, s, m, args, below, meth, c, Q, hx, hb, hml, hown, hts, hr, hlk, hK, hN, hI, hQ, hX, rfl⟩ := C
  intro H locs ls hP hS hl
  obtain ⟨q0, hg, hst⟩ := Wd_get (ad := ad) (aC := aC) hok
  have he := hg σ τ
  rw [hcel] at he
  exact va_lald hx hb hK hP q0 1 he rfl hin hd (k H locs ls hP hS hl)
theorem r_alen (C : Cx l D ad aC cc own nL rt d u X PV PX S) {fm c0 t0 : Nat} {x : vp_A} {ct : ClassId} {ty : FieldType} {v : Int32} (hd : decode cc pc = .ok (.arraylength, 1)) (hok : gok fm c0) (hcel : cel ad aC σ τ fm c0 = .inl (ct, x)) (ht : (gty aC)[t0]? = some (ct, ty)) (hv : Int32.ofNat x.1 = v) (k : S n σ τ (pc + 1) L (.int v :: st)) : S n σ τ pc L (.ref (ad fm c0) :: st) := by
  obtain ⟨p, e, s, m, args, below, meth, c, Q, hx, hb, hml, hown, hts, hr, hlk, hK, hN, hI, hQ, hX, rfl⟩ := C
  intro H locs ls hP hS hl
  obtain ⟨q0, hg, hst⟩ := Wd_get (ad := ad) (aC := aC) hok
  have he := hg σ τ
  rw [hcel] at he
  exact va_alen hx hb hK hP q0 t0 he ht hv hd (k H locs ls hP hS hl)
/-- a reference out of a row of references of a class -/
theorem r_aald (C : Cx l D ad aC cc own nL rt d u X PV PX S) {fm c0 t0 len fa : Nat} {ct : ClassId} {E : String} {i : Int32} (hd : decode cc pc = .ok (.aaload, 1)) (hok : gok fm c0) (hcel : cel ad aC σ τ fm c0 = .inl (ct, len, .inr (.inr (.inr (.inr (fun j => some (ad fa j))))))) (ht : (gty aC)[t0]? = some (ct, .object E)) (hin : vp_in i len) (k : S n σ τ (pc + 1) L (.ref (ad fa i.toNatClampNeg) :: st)) : S n σ τ pc L (.int i :: .ref (ad fm c0) :: st) := by
  obtain ⟨p, e, s, m, args, below, meth, c, Q, hx, hb, hml, hown, hts, hr, hlk, hK, hN, hI, hQ, hX, rfl⟩ := C
  intro H locs ls hP hS hl
  obtain ⟨q0, hg, hst⟩ := Wd_get (ad := ad) (aC := aC) hok
  have he := hg σ τ
  rw [hcel] at he
  exact va_aldq hx hb hK hP q0 t0 he ht hin hd (k H locs ls hP hS hl)
theorem r_iast (C : Cx l D ad aC cc own nL rt d u X PV PX S) {fm c0 len : Nat} {i x : Int32} (hd : decode cc pc = .ok (.iastore, 1)) (hok : gok fm c0) (hcel : ∀ σ' : gSig, cel ad aC σ' τ fm c0 = .inl (aC 0, len, .inl (σ' fm c0))) (hin : vp_in i len) (k : S n (up3 σ fm c0 i.toNatClampNeg x) τ (pc + 1) L st) : S n σ τ pc L (.int x :: .int i :: .ref (ad fm c0) :: st) := by
  obtain ⟨p, e, s, m, args, below, meth, c, Q, hx, hb, hml, hown, hts, hr, hlk, hK, hN, hI, hQ, hX, rfl⟩ := C
  intro H locs ls hP hS hl
  obtain ⟨q0, hg, hst⟩ := Wd_get (ad := ad) (aC := aC) hok
  have he := hg σ τ
  rw [hcel σ] at he
  refine va_iast hx hb hK hP (gD_of hI aC σ τ _) hS q0 0 he rfl hin hd (fun H1 locs1 hP1 _ hS1 => ?_)
  rw [hst σ (up3 σ fm c0 i.toNatClampNeg x) τ τ _ (fun f' c' hne => up3_ne σ fm c0 _ x hne) (fun _ _ => rfl) (Or.inl rfl) (by rw [hcel, up3_self])] at hP1
  exact k H1 locs1 ls hP1 hS1 hl
theorem r_last (C : Cx l D ad aC cc own nL rt d u X PV PX S) {fm len : Nat} {i : Int32} {x : Int64} (hd : decode cc pc = .ok (.lastore, 1)) (hok : gok fm 0) (h1 : gN.getD fm 0 = 1) (hcel : ∀ τ' : gTau, cel ad aC σ τ' fm 0 = .inl (aC 1, len, .inr (.inl (τ' fm)))) (hin : vp_in i len) (k : S n σ (up2 τ fm i.toNatClampNeg x) (pc + 1) L st) : S n σ τ pc L (.long x :: .int i :: .ref (ad fm 0) :: st) := by
  obtain ⟨p, e, s, m, args, below, meth, c, Q, hx, hb, hml, hown, hts, hr, hlk, hK, hN, hI, hQ, hX, rfl⟩ := C
  intro H locs ls hP hS hl
  obtain ⟨q0, hg, hst⟩ := Wd_get (ad := ad) (aC := aC) hok
  have he := hg σ τ
  rw [hcel τ] at he
  refine va_last hx hb hK hP (gD_of hI aC σ τ _) hS q0 1 he rfl hin hd (fun H1 locs1 hP1 _ hS1 => ?_)
  rw [hst σ σ τ (up2 τ fm i.toNatClampNeg x) _ (fun _ _ _ => rfl) (fun f' hne => up2_ne τ fm _ x hne) (Or.inr ⟨rfl, h1⟩) (by rw [hcel, up2_self])] at hP1
  exact k H1 locs1 ls hP1 hS1 hl
theorem r_iret (C : Cx l D ad aC cc own nL rt d u X PV PX S) {v : Int32} (hd : decode cc pc = .ok (.ireturn, 1)) (hrt : rt = some .int) (hn : n ≤ u) (hv : PV (some (.int v)) σ τ) : S n σ τ pc L [.int v] := by
  obtain ⟨p, e, s, m, args, below, meth, c, Q, hx, hb, hml, hown, hts, hr, hlk, hK, hN, hI, hQ, hX, rfl⟩ := C
  intro H locs ls hP hS hl
  refine W.imp hQ (W.widen (k := u) (n := 6 * u) hn (Nat.mul_le_mul_left 6 hn) ?_)
  exact W.iret hx hb (by rw [hr, hrt]) (fun t ht hW => ⟨⟨_, σ, τ, rfl, hv, by rw [ht]; exact hP, va_K.moved hW.alike hK⟩, hS.F ht⟩) hS.2.2 hd hlk
theorem r_zret (C : Cx l D ad aC cc own nL rt d u X PV PX S) {v : Int32} (hd : decode cc pc = .ok (.ireturn, 1)) (hrt : rt = some .boolean) (hn : n ≤ u) (hb1 : v = 0 ∨ v = 1) (hv : PV (some (.int v)) σ τ) : S n σ τ pc L [.int v] := by
  obtain ⟨p, e, s, m, args, below, meth, c, Q, hx, hb, hml, hown, hts, hr, hlk, hK, hN, hI, hQ, hX, rfl⟩ := C
  intro H locs ls hP hS hl
  refine W.imp hQ (W.widen (k := u) (n := 6 * u) hn (Nat.mul_le_mul_left 6 hn) ?_)
  exact W.zret hx hb (by rw [hr, hrt]) (by rcases hb1 with rfl | rfl <;> rfl) (fun t ht hW => ⟨⟨_, σ, τ, rfl, hv, by rw [ht]; exact hP, va_K.moved hW.alike hK⟩, hS.F ht⟩) hS.2.2 hd hlk
theorem r_lret (C : Cx l D ad aC cc own nL rt d u X PV PX S) {v : Int64} (hd : decode cc pc = .ok (.lreturn, 1)) (hrt : rt = some .long) (hn : n ≤ u) (hv : PV (some (.long v)) σ τ) : S n σ τ pc L [.long v] := by
  obtain ⟨p, e, s, m, args, below, meth, c, Q, hx, hb, hml, hown, hts, hr, hlk, hK, hN, hI, hQ, hX, rfl⟩ := C
  intro H locs ls hP hS hl
  refine W.imp hQ (W.widen (k := u) (n := 6 * u) hn (Nat.mul_le_mul_left 6 hn) ?_)
  exact W.lret hx hb (by rw [hr, hrt]) (fun t ht hW => ⟨⟨_, σ, τ, rfl, hv, by rw [ht]; exact hP, va_K.moved hW.alike hK⟩, hS.F ht⟩) hS.2.2 hd hlk
theorem r_ret (C : Cx l D ad aC cc own nL rt d u X PV PX S) (hd : decode cc pc = .ok (.return_, 1)) (hrt : rt = none) (hn : n ≤ u) (hv : PV none σ τ) : S n σ τ pc L [] := by
  obtain ⟨p, e, s, m, args, below, meth, c, Q, hx, hb, hml, hown, hts, hr, hlk, hK, hN, hI, hQ, hX, rfl⟩ := C
  intro H locs ls hP hS hl
  refine W.imp hQ (W.widen (k := u) (n := 6 * u) hn (Nat.mul_le_mul_left 6 hn) ?_)
  exact W.vret hx hb (by rw [hr, hrt]) (fun t ht hW => ⟨⟨_, σ, τ, rfl, hv, by rw [ht]; exact hP, va_K.moved hW.alike hK⟩, hS.F ht⟩) hS.2.2 hd hlk
end GRULES
