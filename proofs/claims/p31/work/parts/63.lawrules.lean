/-! ===== the law: what stands around its walk, its own rules ===== -/
/-- what stands around a walk that calls what may throw, but doesn't -/
def Kx (l : Launch) (D : va_G) (ad : Nat → Nat → Nat) (aC : Nat → ClassId) (cc : ByteArray) (own : String) (nL d u : Nat) (S : gS) : Prop :=
  ∃ (p : Program) (e : Env) (s : State) (m : MethodId) (args : Array Value) (below : List Frame) (meth : Method) (c : Code) (Q : State → Prop),
    p.tables.exec = Jvm.exec ∧ c.code = cc ∧ c.maxLocals = nL ∧ s.vm.findClass own = some m.cls ∧ (∀ w ∈ wsG, w.before args s = true) ∧ va_K D gcl (gty aC) s ∧ Nx s ∧ gInj ad ∧
    l.stackTraces = false ∧ Sx (gA ad s.heap.size) s ∧ S = SW p l e (rmz d u) s m args below meth c Q D ad aC nL
/-- .. and that reads the script -/
def Yx (l : Launch) (D : va_G) (ad : Nat → Nat → Nat) (aC : Nat → ClassId) (cc : ByteArray) (own : String) (nL d u b Ls : Nat) (xs : Nat → Int32) (S : gS) : Prop :=
  ∃ (p : Program) (e : Env) (s : State) (m : MethodId) (args : Array Value) (below : List Frame) (meth : Method) (c : Code) (Q : State → Prop),
    p.tables.exec = Jvm.exec ∧ c.code = cc ∧ c.maxLocals = nL ∧ s.vm.findClass own = some m.cls ∧ (∀ w ∈ wsG, w.before args s = true) ∧ va_K D gcl (gty aC) s ∧ Nx s ∧ gInj ad ∧
    va_X b Ls xs s s.heap ∧ b < s.heap.size ∧ ¬ gA ad s.heap.size b ∧ S = SW p l e (rmz d u) s m args below meth c Q D ad aC nL
def Lx (l : Launch) (D : va_G) (ad : Nat → Nat → Nat) (aC : Nat → ClassId) (cc : ByteArray) (own : String) (nL : Nat) (rt : Option FieldType) (d u b Ls : Nat) (xs : Nat → Int32) (PV : Option Value → gSig → gTau → Prop) (S : gS) : Prop :=
  ∃ (p : Program) (e : Env) (s : State) (m : MethodId) (args : Array Value) (below : List Frame) (meth : Method) (c : Code) (Q : State → Prop),
    p.tables.exec = Jvm.exec ∧ c.code = cc ∧ c.maxLocals = nL ∧ s.vm.findClass own = some m.cls ∧ (∀ w ∈ wsG, w.before args s = true) ∧ meth.sig.returnType = rt ∧ meth.locks = false ∧ va_K D gcl (gty aC) s ∧ Nx s ∧ gInj ad ∧
    (∀ t, MQ below (QcZ D ad aC s.heap.size PV) args s u (6 * u) (gA ad s.heap.size) t → Q t) ∧
    l.stackTraces = false ∧ Sx (gA ad s.heap.size) s ∧ va_X b Ls xs s s.heap ∧ b < s.heap.size ∧ ¬ gA ad s.heap.size b ∧
    S = SW p l e (rmz d u) s m args below meth c Q D ad aC nL
/-- a contract of a method that could throw, where it can't -/
def VT (l : Launch) (D : va_G) (ad : Nat → Nat → Nat) (aC : Nat → ClassId) (y : MethodName) (cc : ByteArray) (nL : Nat) (rt : Option FieldType) (d u : Nat) (av : List Value) (σ : gSig) (τ : gTau) (PV : Option Value → gSig → gTau → Prop) : Prop :=
  ∃ (PV' : Option Value → gSig → gTau → Prop) (PX' : String → gSig → gTau → Prop), CT l D ad aC y cc nL rt d u av σ τ PV' PX' ∧ (∀ r σ' τ', PV' r σ' τ' → PV r σ' τ') ∧ ∀ E σ' τ', ¬ PX' E σ' τ'
/-- a contract of a method that reads the script -/
def CS (l : Launch) (D : va_G) (ad : Nat → Nat → Nat) (aC : Nat → ClassId) (b Ls : Nat) (xs : Nat → Int32) (y : MethodName) (cc : ByteArray) (nL : Nat) (rt : Option FieldType) (d : Nat) (av : List Value) (σ : gSig) (τ : gTau) (PV : Option Value → gSig → gTau → Prop) : Prop :=
  gInj ad → ∀ sz : Nat, Met l y (gws y cc nL rt) (rmz d 0) (va_Pc av (fun U => PreZ D ad aC σ τ sz U ∧ va_X b Ls xs U U.heap ∧ b < sz ∧ ¬ gA ad sz b)) (QcZ D ad aC sz PV) 0 0 (gA ad sz)
theorem blindS {av : List Value} {D : va_G} {ad : Nat → Nat → Nat} {aC : Nat → ClassId} {σ : gSig} {τ : gTau} {sz b Ls : Nat} {xs : Nat → Int32} : FrameBlind (va_Pc av (fun U => PreZ D ad aC σ τ sz U ∧ va_X b Ls xs U U.heap ∧ b < sz ∧ ¬ gA ad sz b)) := fun a U g mk q => by
  obtain ⟨q0, ⟨q1, ⟨qP, qK⟩, qN⟩, s1, s2, s3⟩ := q
  exact ⟨q0, ⟨q1, ⟨qP, va_K.moved (u := U) (U := U.calling g mk a) (Vm.Alike.refl U.vm) qK⟩, qN.same (u := U) (U := U.calling g mk a) rfl⟩, va_X.moved (u := U) (U := U.calling g mk a) (Vm.Alike.refl U.vm) s1, s2, s3⟩
theorem CS.of {l : Launch} {D : va_G} {ad : Nat → Nat → Nat} {aC : Nat → ClassId} {b Ls : Nat} {xs : Nat → Int32} {y : MethodName} {cc : ByteArray} {nL : Nat} {rt : Option FieldType} {d : Nat} {av : List Value} {σ : gSig} {τ : gTau} {PV : Option Value → gSig → gTau → Prop} {own : String} (hy : plainName y.cls = true) (hown : y.cls = own) (hav : (lg_sl av).length ≤ nL)
    (body : ∀ S : gS, Cx l D ad aC cc own nL rt d 0 False PV (fun _ _ _ => False) S → Yx l D ad aC cc own nL d 0 b Ls xs S → S 0 σ τ 0 (mkL nL av) []) : CS l D ad aC b Ls xs y cc nL rt d av σ τ PV := by
  intro hI sz
  refine Met.ofW (cc := cc) (maxL := nL) (ret := rt) hy rfl ?_
  intro p e s m args below meth c s₁ B hml hv
  obtain ⟨rfl, ⟨hsz, ⟨hP, hK⟩, hN⟩, hX, hbl, hbA⟩ := hv
  subst hown
  subst hsz
  have hts := atoms_spec (ws := gws y cc nL rt) B.pre
  have hl := lv_entry av (n := nL) hav
  rw [lg_entry_eq]
  have hG : ∀ w ∈ wsG, w.before av.toArray s = true := fun w hw => hts w (List.mem_cons_of_mem _ hw)
  exact body _ ⟨p, e, s, m, av.toArray, below, meth, c, _, B.exec, B.bytes, hml, findClass_of_methodNamed B.named, hG, B.returns, B.notSynchronized, hK, hN, hI, fun t h => h, fun h => h.elim, rfl⟩ ⟨p, e, s, m, av.toArray, below, meth, c, _, B.exec, B.bytes, hml, findClass_of_methodNamed B.named, hG, hK, hN, hI, hX, hbl, hbA, rfl⟩ s.heap [] _ hP va_S.rf (mkL_has hl)
section LRULES
variable {l : Launch} {D : va_G} {ad : Nat → Nat → Nat} {aC : Nat → ClassId} {cc : ByteArray} {own : String} {nL : Nat} {rt : Option FieldType} {d u b Ls : Nat} {xs : Nat → Int32} {PV : Option Value → gSig → gTau → Prop} {PX : String → gSig → gTau → Prop} {S : gS}
variable {n : Nat} {σ : gSig} {τ : gTau} {pc : Nat} {L : gLoc} {st st0 As rest : List Value}
variable {y : MethodName} {bytes : ByteArray} {nL' : Nat} {ret : Option FieldType} {d' u' index na : Nat} {PV' : Option Value → gSig → gTau → Prop}
variable {fm c0 ci N : Nat} {T : u_T} {fs : List Value} {C0 : String}
theorem Lx.cx (C : Lx l D ad aC cc own nL rt d u b Ls xs PV S) : Cx l D ad aC cc own nL rt d u False PV (fun _ _ _ => False) S := by
  obtain ⟨p, e, s, m, args, below, meth, c, Q, hx, hb, hml, hown, hts, hr, hlk, hK, hN, hI, hQ, hst, hsx, hX, hbl, hbA, rfl⟩ := C
  exact ⟨p, e, s, m, args, below, meth, c, Q, hx, hb, hml, hown, hts, hr, hlk, hK, hN, hI, hQ, fun h => h.elim, rfl⟩
theorem Lx.kx (C : Lx l D ad aC cc own nL rt d u b Ls xs PV S) : Kx l D ad aC cc own nL d u S := by
  obtain ⟨p, e, s, m, args, below, meth, c, Q, hx, hb, hml, hown, hts, hr, hlk, hK, hN, hI, hQ, hst, hsx, hX, hbl, hbA, rfl⟩ := C
  exact ⟨p, e, s, m, args, below, meth, c, Q, hx, hb, hml, hown, hts, hK, hN, hI, hst, hsx, rfl⟩
theorem Lx.yx (C : Lx l D ad aC cc own nL rt d u b Ls xs PV S) : Yx l D ad aC cc own nL d u b Ls xs S := by
  obtain ⟨p, e, s, m, args, below, meth, c, Q, hx, hb, hml, hown, hts, hr, hlk, hK, hN, hI, hQ, hst, hsx, hX, hbl, hbA, rfl⟩ := C
  exact ⟨p, e, s, m, args, below, meth, c, Q, hx, hb, hml, hown, hts, hK, hN, hI, hX, hbl, hbA, rfl⟩
theorem Cx.kx (C : Cx l D ad aC cc own nL rt d u True PV PX S) : Kx l D ad aC cc own nL d u S := by
  obtain ⟨p, e, s, m, args, below, meth, c, Q, hx, hb, hml, hown, hts, hr, hlk, hK, hN, hI, hQ, hX, rfl⟩ := C
  obtain ⟨htr, hnt, hsx, hQx⟩ := hX trivial
  exact ⟨p, e, s, m, args, below, meth, c, Q, hx, hb, hml, hown, hts, hK, hN, hI, htr, hsx, rfl⟩
theorem r_sld0 (C : Yx l D ad aC cc own nL d u b Ls xs S) {i : Nat} (hj : i < Ls) (hL : Ls < 2 ^ 31) (hd : decode cc pc = .ok (.iaload, 1)) (k : S n σ τ (pc + 1) L (.int (xs i) :: st)) : S n σ τ pc L (.int (nI i) :: .ref b :: st) := by
  obtain ⟨p, e, s, m, args, below, meth, c, Q, hx, hb, hml, hown, hts, hK, hN, hI, hX, hbl, hbA, rfl⟩ := C
  intro H locs ls hP hS hl
  refine va_sld hx hb hX hbl hbA hS (vp_in_nI hj hL) hd ?_
  rw [nI_clamp (by omega)]
  exact k H locs ls hP hS hl
theorem r_slen (C : Yx l D ad aC cc own nL d u b Ls xs S) (hd : decode cc pc = .ok (.arraylength, 1)) (k : S n σ τ (pc + 1) L (.int (nI Ls) :: st)) : S n σ τ pc L (.ref b :: st) := by
  obtain ⟨p, e, s, m, args, below, meth, c, Q, hx, hb, hml, hown, hts, hK, hN, hI, hX, hbl, hbA, rfl⟩ := C
  intro H locs ls hP hS hl
  exact va_slen hx hb hX hbl hbA hS hd (k H locs ls hP hS hl)
/-- the class's method called, where it can't throw -/
theorem r_callT (C : Kx l D ad aC cc own nL d u S) (hd : decode cc pc = .ok (.invokevirtual index, 3)) (hV : VT l D ad aC y bytes nL' ret d' u' (.ref (ad fm c0) :: As) σ τ PV') (hst0 : st0 = As.reverse ++ .ref (ad fm c0) :: rest) (hok : gok fm c0) (hcel : cel ad aC σ τ fm c0 = .inr (ci, fs)) (hc : gcl[ci]? = some (C0, T, N)) (hB : BOK y bytes nL' ret na) (hna : As.length = na) (hi : Cond.instanceMethod y ∈ wsG) (hs : Cond.selects C0 y y ∈ wsG) (hl : Cond.methodLink own index y ∈ wsG) (hdd : d' + 1 ≤ d) (hcat : (rest.map fun v => v.category).sum ≤ 8) (hn : n + u' ≤ u)
    (k : ∀ (r : Option Value) (σ' : gSig) (τ' : gTau), PV' r σ' τ' → S (n + u') σ' τ' (pc + 3) L (r.toList ++ rest)) : S n σ τ pc L st0 := by
  obtain ⟨p, e, s, m, args, below, meth, c, Q, hx, hb, hml, hown, hts, hK, hN, hI, htr, hsx, rfl⟩ := C
  obtain ⟨PV9, PX9, hM, hPV, hPX⟩ := hV
  intro H locs ls hP hS hl2
  have h6 : 6 * n + 6 * u' = 6 * (n + u') := (Nat.mul_add 6 n u').symm
  have h7 : 6 * n + 6 * u' ≤ 6 * u := by rw [h6]; exact Nat.mul_le_mul_left 6 hn
  obtain ⟨q0, hg, -⟩ := Wd_get (ad := ad) (aC := aC) hok
  have he := hg σ τ
  rw [hcel] at he
  refine g_callX (mc := u') (ms := 6 * u') (vx_runV (As := As) (rest := rest) (C := C0) ⟨hx, hb, hml, hown, hts⟩ (hM hI htr H.size) ⟨hB.callB hts hl hdd, hts _ hi, hts _ hs⟩ ⟨blindT, va_recv hK hP hc he, fun U hU hW => ⟨rfl, ⟨by rw [hU], ⟨by rw [hU]; exact hP, va_K.moved hW.alike hK⟩, hN.warm hW⟩, hsx.narrow (fun q hq => gA_sub hS.1 hq) (fun q h1 h2 => by rw [hU]; exact hS.2.1 q h1 h2) hW⟩⟩ rfl hna hl2.1 hst0 (lv_room hcat) hd ⟨hn, h7⟩) hS ?_ ?_
  · intro E ce q9 σ' τ' H1 locs1 hp
    exact absurd hp (hPX E σ' τ')
  · intro r σ' τ' H1 locs1 hp hP1 hS1
    have hk := k r σ' τ' (hPV r σ' τ' hp) H1 locs1 ls hP1 hS1 hl2
    rw [h6]
    exact hk
/-- .. a static one -/
theorem r_callTS (C : Kx l D ad aC cc own nL d u S) (hd : decode cc pc = .ok (.invokestatic index, 3)) (hV : VT l D ad aC y bytes nL' ret d' u' As σ τ PV') (hst0 : st0 = As.reverse ++ rest) (hB : BOK y bytes nL' ret na) (hna : As.length = na) (hs : Cond.static y ∈ wsG) (hl : Cond.methodLink own index y ∈ wsG) (hdd : d' + 1 ≤ d) (hcat : (rest.map fun v => v.category).sum ≤ 8) (hn : n + u' ≤ u)
    (k : ∀ (r : Option Value) (σ' : gSig) (τ' : gTau), PV' r σ' τ' → S (n + u') σ' τ' (pc + 3) L (r.toList ++ rest)) : S n σ τ pc L st0 := by
  obtain ⟨p, e, s, m, args, below, meth, c, Q, hx, hb, hml, hown, hts, hK, hN, hI, htr, hsx, rfl⟩ := C
  obtain ⟨PV9, PX9, hM, hPV, hPX⟩ := hV
  intro H locs ls hP hS hl2
  have h6 : 6 * n + 6 * u' = 6 * (n + u') := (Nat.mul_add 6 n u').symm
  have h7 : 6 * n + 6 * u' ≤ 6 * u := by rw [h6]; exact Nat.mul_le_mul_left 6 hn
  refine g_callX (mc := u') (ms := 6 * u') (vx_runS (As := As) (rest := rest) ⟨hx, hb, hml, hown, hts⟩ (hM hI htr H.size) ⟨hB.callB hts hl hdd, hts _ hs⟩ ⟨blindT, fun U hU hW => ⟨rfl, ⟨by rw [hU], ⟨by rw [hU]; exact hP, va_K.moved hW.alike hK⟩, hN.warm hW⟩, hsx.narrow (fun q hq => gA_sub hS.1 hq) (fun q h1 h2 => by rw [hU]; exact hS.2.1 q h1 h2) hW⟩⟩ rfl hna hl2.1 hst0 (lv_room hcat) hd ⟨hn, h7⟩) hS ?_ ?_
  · intro E ce q9 σ' τ' H1 locs1 hp
    exact absurd hp (hPX E σ' τ')
  · intro r σ' τ' H1 locs1 hp hP1 hS1
    have hk := k r σ' τ' (hPV r σ' τ' hp) H1 locs1 ls hP1 hS1 hl2
    rw [h6]
    exact hk
/-- .. one that reads the script -/
theorem r_callSS (C : Yx l D ad aC cc own nL d u b Ls xs S) (hd : decode cc pc = .ok (.invokestatic index, 3)) (hM : CS l D ad aC b Ls xs y bytes nL' ret d' As σ τ PV') (hst0 : st0 = As.reverse ++ rest) (hB : BOK y bytes nL' ret na) (hna : As.length = na) (hs : Cond.static y ∈ wsG) (hl : Cond.methodLink own index y ∈ wsG) (hdd : d' + 1 ≤ d) (hcat : (rest.map fun v => v.category).sum ≤ 8) (hn : n ≤ u)
    (k : ∀ (r : Option Value) (σ' : gSig) (τ' : gTau), PV' r σ' τ' → S n σ' τ' (pc + 3) L (r.toList ++ rest)) : S n σ τ pc L st0 := by
  obtain ⟨p, e, s, m, args, below, meth, c, Q, hx, hb, hml, hown, hts, hK, hN, hI, hX, hbl, hbA, rfl⟩ := C
  intro H locs ls hP hS hl2
  refine g_call (mc := 0) (ms := 0) (va_runS (As := As) (rest := rest) ⟨hx, hb, hml, hown, hts⟩ (hM hI H.size) ⟨hB.callB hts hl hdd, hts _ hs⟩ ⟨blindS, fun U hU hW => ⟨rfl, ⟨by rw [hU], ⟨by rw [hU]; exact hP, va_K.moved hW.alike hK⟩, hN.warm hW⟩, by rw [hU]; exact va_X.moved hW.alike (hX.kept (hS.2.1 b hbl hbA)), Nat.lt_of_lt_of_le hbl hS.1, fun h => hbA (gA_sub hS.1 h)⟩⟩ rfl hna hl2.1 hst0 (lv_room hcat) hd ⟨hn, Nat.mul_le_mul_left 6 hn⟩) hS ?_
  intro r σ' τ' H1 locs1 hp hP1 hS1
  exact k r σ' τ' hp H1 locs1 ls hP1 hS1 hl2
end LRULES
