/-! ===== the law's wrappers: methods with a table of handlers: printed by g54.py ===== -/
/-- what isn't a kind of what -/
def gNc : List (String × String) := [(xISE, xIOB), (xISE, xIAE), (xIAE, xIOB), (xIAE, xISE), (xARI, xIOB), (xARI, xISE), (xNSE, xIOB)]
def Ex (U : State) : Prop := ∀ q ∈ gNc, va_Nc q.1 q.2 U
theorem Ex.moved {u U : State} (hvm : u.vm.Alike U.vm) (h : Ex u) : Ex U := fun q hq => (h q hq).moved hvm
/-- a wrapper's contract: it returns -/
def CH (l : Launch) (D : va_G) (ad : Nat → Nat → Nat) (aC : Nat → ClassId) (y : MethodName) (cc : ByteArray) (nL : Nat) (rt : Option FieldType) (hh : List (Nat × Nat × Nat × Nat)) (d u : Nat) (av : List Value) (σ : gSig) (τ : gTau) (PV : Option Value → gSig → gTau → Prop) : Prop :=
  gInj ad → l.stackTraces = false → ∀ sz : Nat, vx_Met l y (Cond.codeWith y cc nL rt hh :: wsG) (rmz d u) (va_Pc av (fun U => PreZ D ad aC σ τ sz U ∧ Sx (gA ad sz) U ∧ Ex U)) (QcZ D ad aC sz PV) (XcZ D ad aC sz (fun _ _ _ => False)) u (6 * u) (gA ad sz)
def Hx (l : Launch) (D : va_G) (ad : Nat → Nat → Nat) (aC : Nat → ClassId) (cc : ByteArray) (own : String) (nL : Nat) (rt : Option FieldType) (hh : List (Nat × Nat × Nat × Nat)) (d u : Nat) (PV : Option Value → gSig → gTau → Prop) (S : gS) : Prop :=
  ∃ (p : Program) (e : Env) (s : State) (m : MethodId) (args : Array Value) (below : List Frame) (meth : Method) (c : Code) (Q : State → Prop),
    p.tables.exec = Jvm.exec ∧ c.code = cc ∧ c.maxLocals = nL ∧ s.vm.findClass own = some m.cls ∧ (∀ w ∈ wsG, w.before args s = true) ∧ meth.sig.returnType = rt ∧ meth.locks = false ∧ va_K D gcl (gty aC) s ∧ Nx s ∧ gInj ad ∧
    (∀ t, vx_MQ below (QcZ D ad aC s.heap.size PV) (XcZ D ad aC s.heap.size (fun _ _ _ => False)) args s u (6 * u) (gA ad s.heap.size) t → Q t) ∧
    l.stackTraces = false ∧ c.exceptionTable.toList = tableOf hh ∧ Sx (gA ad s.heap.size) s ∧ Ex s ∧
    S = SW p l e (rmz d u) s m args below meth c Q D ad aC nL
section HRULES
variable {l : Launch} {D : va_G} {ad : Nat → Nat → Nat} {aC : Nat → ClassId} {cc : ByteArray} {own : String} {nL : Nat} {rt : Option FieldType} {hh : List (Nat × Nat × Nat × Nat)} {d u : Nat} {PV : Option Value → gSig → gTau → Prop} {S : gS}
variable {n : Nat} {σ : gSig} {τ : gTau} {pc : Nat} {L : gLoc} {st0 As rest : List Value}
variable {y : MethodName} {bytes : ByteArray} {nL' : Nat} {ret : Option FieldType} {d' u' index na : Nat} {PV' : Option Value → gSig → gTau → Prop} {PX' : String → gSig → gTau → Prop}
variable {fm c0 ci N : Nat} {T : u_T} {fs : List Value} {C0 : String}
theorem Hx.cx (C : Hx l D ad aC cc own nL rt hh d u PV S) : Cx l D ad aC cc own nL rt d u False PV (fun _ _ _ => False) S := by
  obtain ⟨p, e, s, m, args, below, meth, c, Q, hx, hb, hml, hown, hts, hr, hlk, hK, hN, hI, hQ, hst, htb, hsx, hex, rfl⟩ := C
  exact ⟨p, e, s, m, args, below, meth, c, Q, hx, hb, hml, hown, hts, hr, hlk, hK, hN, hI, fun t h => hQ t (by
    obtain ⟨o, h1, h2, h3, h4⟩ := h
    exact ⟨o, h1, h2, Or.inl ⟨h3, h4⟩⟩), fun h => h.elim, rfl⟩
/-- the handlers hh stand for the classes cs, in this order -/
def hdl (own : String) (hh : List (Nat × Nat × Nat × Nat)) (pc : Nat) (cs : List String) : Prop := ∀ (i : Nat) (E : String), cs[i]? = some E → ∃ (pre : List ExceptionTableEntry) (x : ExceptionTableEntry) (suf : List ExceptionTableEntry) (h9 : Nat × Nat × Nat × Nat),
    tableOf hh = pre ++ x :: suf ∧ covers x pc = true ∧ x.catchType ≠ 0 ∧ Cond.classLink own x.catchType E ∈ wsG ∧ Cond.castable E E ∈ gNw ∧ hh[i]? = some h9 ∧ x.handlerPc = h9.2.2.1 ∧ ∀ z ∈ pre, z.catchType ≠ 0 ∧ ∃ nm, Cond.classLink own z.catchType nm ∈ wsG ∧ (E, nm) ∈ gNc
/-- a call that may throw what the handlers take -/
theorem r_callVX (C : Hx l D ad aC cc own nL rt hh d u PV S) {cs : List String} (hd : decode cc pc = .ok (.invokevirtual index, 3)) (hM : CT l D ad aC y bytes nL' ret d' u' (.ref (ad fm c0) :: As) σ τ PV' PX') (hst0 : st0 = As.reverse ++ .ref (ad fm c0) :: rest) (hok : gok fm c0) (hcel : cel ad aC σ τ fm c0 = .inr (ci, fs)) (hc : gcl[ci]? = some (C0, T, N)) (hB : BOK y bytes nL' ret na) (hna : As.length = na) (hi : Cond.instanceMethod y ∈ wsG) (hs : Cond.selects C0 y y ∈ wsG) (hl : Cond.methodLink own index y ∈ wsG) (hdd : d' + 1 ≤ d) (hcat : (rest.map fun v => v.category).sum ≤ 8) (hn : n + u' ≤ u)
    (hcs : hdl own hh pc cs) (hE : ∀ E σ' τ', PX' E σ' τ' → E ∈ cs)
    (kx : ∀ (i : Nat) (E : String) (h9 : Nat × Nat × Nat × Nat) (q9 : Nat) (σ' : gSig) (τ' : gTau), cs[i]? = some E → hh[i]? = some h9 → PX' E σ' τ' → S (n + u') σ' τ' h9.2.2.1 L [.ref q9])
    (k : ∀ (r : Option Value) (σ' : gSig) (τ' : gTau), PV' r σ' τ' → S (n + u') σ' τ' (pc + 3) L (r.toList ++ rest)) : S n σ τ pc L st0 := by
  obtain ⟨p, e, s, m, args, below, meth, c, Q, hx, hb, hml, hown, hts, hr, hlk, hK, hN, hI, hQ, hst, htb, hsx, hex, rfl⟩ := C
  intro H locs ls hP hS hl2
  obtain ⟨q0, hg, -⟩ := Wd_get (ad := ad) (aC := aC) hok
  have he := hg σ τ
  rw [hcel] at he
  have h6 : 6 * n + 6 * u' = 6 * (n + u') := (Nat.mul_add 6 n u').symm
  have h7 : 6 * n + 6 * u' ≤ 6 * u := by rw [h6]; exact Nat.mul_le_mul_left 6 hn
  refine g_callX (mc := u') (ms := 6 * u') (vx_runV (As := As) (rest := rest) (C := C0) ⟨hx, hb, hml, hown, hts⟩ (hM hI hst H.size) ⟨hB.callB hts hl hdd, hts _ hi, hts _ hs⟩ ⟨blindT, va_recv hK hP hc he, fun U hU hW => ⟨rfl, ⟨by rw [hU], ⟨by rw [hU]; exact hP, va_K.moved hW.alike hK⟩, hN.warm hW⟩, hsx.narrow (fun q hq => gA_sub hS.1 hq) (fun q h1 h2 => by rw [hU]; exact hS.2.1 q h1 h2) hW⟩⟩ rfl hna hl2.1 hst0 (lv_room hcat) hd ⟨hn, h7⟩) hS ?_ ?_
  · intro E ce q9 σ' τ' H1 locs1 hp hP1 hS1 h1 h2 h3
    obtain ⟨i, hi9⟩ := List.getElem?_of_mem (hE E σ' τ' hp)
    obtain ⟨pre, x, suf, h9, e1, e2, e3, e4, e5, e6, e7, e8⟩ := hcs i E hi9
    have hk := kx i E h9 q9 σ' τ' hi9 e6 hp H1 locs1 ls hP1 hS1 hl2
    rw [← e7] at hk
    rw [h6]
    exact vx_catch hown pre x suf (by rw [htb]; exact e1) (fun z hz => by
      obtain ⟨z1, nm, z2, z3⟩ := e8 z hz
      exact Or.inr ⟨z1, nm, hts _ z2, hex _ z3⟩) e2 e3 (hts _ e4) (hN.use e5) h1 h2 h3 hk
  · intro r σ' τ' H1 locs1 hp hP1 hS1
    have hk := k r σ' τ' hp H1 locs1 ls hP1 hS1 hl2
    rw [h6]
    exact hk
theorem blindH {av : List Value} {D : va_G} {ad : Nat → Nat → Nat} {aC : Nat → ClassId} {σ : gSig} {τ : gTau} {sz : Nat} {A : Nat → Prop} : FrameBlind (va_Pc av (fun U => PreZ D ad aC σ τ sz U ∧ Sx A U ∧ Ex U)) := fun a U g mk q => by
  obtain ⟨q0, ⟨q1, ⟨qP, qK⟩, qN⟩, ⟨s1, s2, s3⟩, s4⟩ := q
  exact ⟨q0, ⟨q1, ⟨qP, va_K.moved (u := U) (U := U.calling g mk a) (Vm.Alike.refl U.vm) qK⟩, qN.same (u := U) (U := U.calling g mk a) rfl⟩, ⟨vx_Zq.moved (u := U) (U := U.calling g mk a) (Vm.Alike.refl U.vm) s1, vx_Zq.moved (u := U) (U := U.calling g mk a) (Vm.Alike.refl U.vm) s2, fun x hx => by
    obtain ⟨sa, hs⟩ := s3 x hx
    exact ⟨sa, hs.same (u := U) (U := U.calling g mk a) rfl⟩⟩, s4.moved (u := U) (U := U.calling g mk a) (Vm.Alike.refl U.vm)⟩
end HRULES
theorem CH.of {l : Launch} {D : va_G} {ad : Nat → Nat → Nat} {aC : Nat → ClassId} {y : MethodName} {cc : ByteArray} {nL : Nat} {rt : Option FieldType} {hh : List (Nat × Nat × Nat × Nat)} {d u : Nat} {av : List Value} {σ : gSig} {τ : gTau} {PV : Option Value → gSig → gTau → Prop} {own : String} (hy : plainName y.cls = true) (hown : y.cls = own) (hav : (lg_sl av).length ≤ nL)
    (body : ∀ S : gS, Hx l D ad aC cc own nL rt hh d u PV S → S 0 σ τ 0 (mkL nL av) []) : CH l D ad aC y cc nL rt hh d u av σ τ PV := by
  intro hI htr sz
  refine vx_ofWH (cc := cc) (maxL := nL) (ret := rt) (hh := hh) hy rfl ?_
  intro p e s m args below meth c s₁ B hml hv
  obtain ⟨rfl, ⟨hsz, ⟨hP, hK⟩, hN⟩, hsx, hex⟩ := hv
  subst hown
  subst hsz
  have hts := atoms_spec (ws := Cond.codeWith y cc nL rt hh :: wsG) B.pre
  have htb := vx_table (x := y) B (hts _ List.mem_cons_self)
  have hl := lv_entry av (n := nL) hav
  rw [lg_entry_eq]
  exact body _ ⟨p, e, s, m, av.toArray, below, meth, c, _, B.exec, B.bytes, hml, findClass_of_methodNamed B.named, fun w hw => hts w (List.mem_cons_of_mem _ hw), B.returns, B.notSynchronized, hK, hN, hI, fun t h => h, htr, htb, hsx, hex, rfl⟩ s.heap [] _ hP va_S.rf (mkL_has hl)
/-- what a wrapper does: the answer into the row, 0; or the handler's number -/
def wrQ (cs : List String) (PVx : Option Value → gSig → gTau → Prop) (PXx : String → gSig → gTau → Prop) : Option Value → gSig → gTau → Prop := fun r σ' τ' =>
  (∃ (x : Int32) (τ1 : gTau), PVx (some (.int x)) σ' τ1 ∧ some (.int 0) = r ∧ up2 τ1 21 0 x.toInt64 = τ') ∨ ∃ (E : String) (i : Nat), cs[i]? = some E ∧ PXx E σ' τ' ∧ some (.int (nI (i + 1))) = r
/-- .. with a yes or no -/
def wrB (cs : List String) (PVx : Option Value → gSig → gTau → Prop) (PXx : String → gSig → gTau → Prop) : Option Value → gSig → gTau → Prop := fun r σ' τ' =>
  (∃ (x : Int32) (τ1 : gTau), PVx (some (.int x)) σ' τ1 ∧ some (.int 0) = r ∧ up2 τ1 21 0 (if x = 0 then 0 else 1) = τ') ∨ ∃ (E : String) (i : Nat), cs[i]? = some E ∧ PXx E σ' τ' ∧ some (.int (nI (i + 1))) = r
theorem kcl_xISE : Cond.classLink RL 13 xISE ∈ wsG := wsG_of (by decide +kernel) (by decide +kernel)
theorem kcl_xIOB : Cond.classLink RL 18 xIOB ∈ wsG := wsG_of (by decide +kernel) (by decide +kernel)
theorem kcl_xIAE : Cond.classLink RL 23 xIAE ∈ wsG := wsG_of (by decide +kernel) (by decide +kernel)
theorem kcl_xARI : Cond.classLink RL 63 xARI ∈ wsG := wsG_of (by decide +kernel) (by decide +kernel)
theorem kcl_xNSE : Cond.classLink RL 74 xNSE ∈ wsG := wsG_of (by decide +kernel) (by decide +kernel)
theorem kini_L : Cond.initialized RL ∈ wsG := wsG_of (by decide +kernel) (by decide +kernel)
abbrev hh_number : List (Nat × Nat × Nat × Nat) := [(0, 9, 12, 13)]
theorem kcw_number : Cond.codeWith yL_number cL_number 4 (some .int) hh_number ∈ wsG := wsG_of (by decide +kernel) (by decide +kernel)
theorem kst_number : Cond.static yL_number ∈ wsG := wsG_of (by decide +kernel) (by decide +kernel)
theorem hdl_number : hdl RL hh_number 4 [xISE] := fun i E h => match i, h with
  | 0, h => by
    cases h
    exact ⟨[], ⟨0, 9, 12, 13⟩, [], (0, 9, 12, 13), rfl, by decide, by decide, kcl_xISE, by decide +kernel, rfl, rfl, fun z hz => absurd hz List.not_mem_nil⟩
  | i + 1, h => by simp at h
set_option maxRecDepth 100000 in
set_option maxHeartbeats 4000000 in
theorem w_number {l : Launch} {D : va_G} {ad : Nat → Nat → Nat} {aC : Nat → ClassId} {σ : gSig} {τ : gTau} {dd uu : Nat} {v1 : Int32} {PVx : Option Value → gSig → gTau → Prop} {PXx : String → gSig → gTau → Prop} (hM : CT l D ad aC yX5_number cX5_number 2 (some .int) dd uu [.ref (ad 0 0), .int v1] σ τ PVx PXx) (hV : ∀ r σ' τ', PVx r σ' τ' → ∃ x : Int32, r = some (.int x)) (hE : ∀ E σ' τ', PXx E σ' τ' → E ∈ [xISE]) : CH l D ad aC yL_number cL_number 4 (some .int) hh_number (dd + 1) uu [.ref (ad 0 0), .int v1, .ref (ad 21 0)] σ τ (wrQ [xISE] PVx PXx) := by
  refine CH.of (own := RL) (by decide +kernel) rfl (Nat.le_of_ble_eq_true rfl) (fun S CH0 => ?_)
  have C := CH0.cx
  refine r_aload_n C dL_number_0 rfl rfl ?_
  refine r_iconst (v := 0) C dL_number_1 rfl ?_
  refine r_aload_n C dL_number_2 rfl rfl ?_
  refine r_iload_n C dL_number_3 rfl rfl ?_
  refine r_callVX CH0 dL_number_4 hM rfl ⟨by decide, by decide⟩ rfl rfl kB_X5_number rfl kI_X5_number kV_X5_number kl_L_7 (by omega) (Nat.le_of_ble_eq_true rfl) (by omega) hdl_number hE (fun i E h9 q9 σ' τ' hc hh9 hp => match i, hc, hh9 with
    | 0, hc, hh9 => by
      cases hh9
      refine r_astore_n C dL_number_12 rfl (by decide) rfl ?_
      refine r_iconst (v := 1) C dL_number_13 rfl ?_
      exact r_iret C dL_number_14 rfl (by omega) (Or.inr ⟨E, 0, hc, hp, rfl⟩)
    | i + 1, hc, _ => by simp at hc) ?_
  intro r9 σ' τ' hpv
  obtain ⟨x, rfl⟩ := hV r9 σ' τ' hpv
  refine r_i2l C dL_number_7 ?_
  refine r_lastv C dL_number_8 ⟨by decide, by decide⟩ rfl (fun _ => rfl) (vp_in_nI (n := 0) (by decide) (by decide)) rfl ?_
  refine r_goto (tgt := 15) C dL_number_9 (by decide) ?_
  refine r_iconst (v := 0) C dL_number_15 rfl ?_
  exact r_iret C dL_number_16 rfl (by omega) (Or.inl ⟨x, τ', hpv, rfl, rfl⟩)
abbrev hh_cell : List (Nat × Nat × Nat × Nat) := [(0, 9, 12, 18), (0, 9, 15, 13)]
theorem kcw_cell : Cond.codeWith yL_cell cL_cell 4 (some .int) hh_cell ∈ wsG := wsG_of (by decide +kernel) (by decide +kernel)
theorem kst_cell : Cond.static yL_cell ∈ wsG := wsG_of (by decide +kernel) (by decide +kernel)
theorem hdl_cell : hdl RL hh_cell 4 [xIOB, xISE] := fun i E h => match i, h with
  | 0, h => by
    cases h
    exact ⟨[], ⟨0, 9, 12, 18⟩, [⟨0, 9, 15, 13⟩], (0, 9, 12, 18), rfl, by decide, by decide, kcl_xIOB, by decide +kernel, rfl, rfl, fun z hz => absurd hz List.not_mem_nil⟩
  | 1, h => by
    cases h
    exact ⟨[⟨0, 9, 12, 18⟩], ⟨0, 9, 15, 13⟩, [], (0, 9, 15, 13), rfl, by decide, by decide, kcl_xISE, by decide +kernel, rfl, rfl, fun z hz => by
      simp only [List.mem_cons, List.not_mem_nil, or_false] at hz
      subst hz
      · exact ⟨by decide, xIOB, kcl_xIOB, by decide +kernel⟩⟩
  | i + 2, h => by simp at h
set_option maxRecDepth 100000 in
set_option maxHeartbeats 4000000 in
theorem w_cell {l : Launch} {D : va_G} {ad : Nat → Nat → Nat} {aC : Nat → ClassId} {σ : gSig} {τ : gTau} {dd uu : Nat} {v1 : Int32} {PVx : Option Value → gSig → gTau → Prop} {PXx : String → gSig → gTau → Prop} (hM : CT l D ad aC yX5_cell cX5_cell 2 (some .int) dd uu [.ref (ad 0 0), .int v1] σ τ PVx PXx) (hV : ∀ r σ' τ', PVx r σ' τ' → ∃ x : Int32, r = some (.int x)) (hE : ∀ E σ' τ', PXx E σ' τ' → E ∈ [xIOB, xISE]) : CH l D ad aC yL_cell cL_cell 4 (some .int) hh_cell (dd + 1) uu [.ref (ad 0 0), .int v1, .ref (ad 21 0)] σ τ (wrQ [xIOB, xISE] PVx PXx) := by
  refine CH.of (own := RL) (by decide +kernel) rfl (Nat.le_of_ble_eq_true rfl) (fun S CH0 => ?_)
  have C := CH0.cx
  refine r_aload_n C dL_cell_0 rfl rfl ?_
  refine r_iconst (v := 0) C dL_cell_1 rfl ?_
  refine r_aload_n C dL_cell_2 rfl rfl ?_
  refine r_iload_n C dL_cell_3 rfl rfl ?_
  refine r_callVX CH0 dL_cell_4 hM rfl ⟨by decide, by decide⟩ rfl rfl kB_X5_cell rfl kI_X5_cell kV_X5_cell kl_L_15 (by omega) (Nat.le_of_ble_eq_true rfl) (by omega) hdl_cell hE (fun i E h9 q9 σ' τ' hc hh9 hp => match i, hc, hh9 with
    | 0, hc, hh9 => by
      cases hh9
      refine r_astore_n C dL_cell_12 rfl (by decide) rfl ?_
      refine r_iconst (v := 1) C dL_cell_13 rfl ?_
      exact r_iret C dL_cell_14 rfl (by omega) (Or.inr ⟨E, 0, hc, hp, rfl⟩)
    | 1, hc, hh9 => by
      cases hh9
      refine r_astore_n C dL_cell_15 rfl (by decide) rfl ?_
      refine r_iconst (v := 2) C dL_cell_16 rfl ?_
      exact r_iret C dL_cell_17 rfl (by omega) (Or.inr ⟨E, 1, hc, hp, rfl⟩)
    | i + 2, hc, _ => by simp at hc) ?_
  intro r9 σ' τ' hpv
  obtain ⟨x, rfl⟩ := hV r9 σ' τ' hpv
  refine r_i2l C dL_cell_7 ?_
  refine r_lastv C dL_cell_8 ⟨by decide, by decide⟩ rfl (fun _ => rfl) (vp_in_nI (n := 0) (by decide) (by decide)) rfl ?_
  refine r_goto (tgt := 18) C dL_cell_9 (by decide) ?_
  refine r_iconst (v := 0) C dL_cell_18 rfl ?_
  exact r_iret C dL_cell_19 rfl (by omega) (Or.inl ⟨x, τ', hpv, rfl, rfl⟩)
abbrev hh_apply : List (Nat × Nat × Nat × Nat) := [(0, 9, 12, 23), (0, 9, 15, 13)]
theorem kcw_apply : Cond.codeWith yL_apply cL_apply 4 (some .int) hh_apply ∈ wsG := wsG_of (by decide +kernel) (by decide +kernel)
theorem kst_apply : Cond.static yL_apply ∈ wsG := wsG_of (by decide +kernel) (by decide +kernel)
theorem hdl_apply : hdl RL hh_apply 4 [xIAE, xISE] := fun i E h => match i, h with
  | 0, h => by
    cases h
    exact ⟨[], ⟨0, 9, 12, 23⟩, [⟨0, 9, 15, 13⟩], (0, 9, 12, 23), rfl, by decide, by decide, kcl_xIAE, by decide +kernel, rfl, rfl, fun z hz => absurd hz List.not_mem_nil⟩
  | 1, h => by
    cases h
    exact ⟨[⟨0, 9, 12, 23⟩], ⟨0, 9, 15, 13⟩, [], (0, 9, 15, 13), rfl, by decide, by decide, kcl_xISE, by decide +kernel, rfl, rfl, fun z hz => by
      simp only [List.mem_cons, List.not_mem_nil, or_false] at hz
      subst hz
      · exact ⟨by decide, xIAE, kcl_xIAE, by decide +kernel⟩⟩
  | i + 2, h => by simp at h
set_option maxRecDepth 100000 in
set_option maxHeartbeats 4000000 in
theorem w_apply {l : Launch} {D : va_G} {ad : Nat → Nat → Nat} {aC : Nat → ClassId} {σ : gSig} {τ : gTau} {dd uu : Nat} {v1 : Int32} {PVx : Option Value → gSig → gTau → Prop} {PXx : String → gSig → gTau → Prop} (hM : CT l D ad aC yX5_apply cX5_apply 2 (some .int) dd uu [.ref (ad 0 0), .int v1] σ τ PVx PXx) (hV : ∀ r σ' τ', PVx r σ' τ' → ∃ x : Int32, r = some (.int x)) (hE : ∀ E σ' τ', PXx E σ' τ' → E ∈ [xIAE, xISE]) : CH l D ad aC yL_apply cL_apply 4 (some .int) hh_apply (dd + 1) uu [.ref (ad 0 0), .int v1, .ref (ad 21 0)] σ τ (wrQ [xIAE, xISE] PVx PXx) := by
  refine CH.of (own := RL) (by decide +kernel) rfl (Nat.le_of_ble_eq_true rfl) (fun S CH0 => ?_)
  have C := CH0.cx
  refine r_aload_n C dL_apply_0 rfl rfl ?_
  refine r_iconst (v := 0) C dL_apply_1 rfl ?_
  refine r_aload_n C dL_apply_2 rfl rfl ?_
  refine r_iload_n C dL_apply_3 rfl rfl ?_
  refine r_callVX CH0 dL_apply_4 hM rfl ⟨by decide, by decide⟩ rfl rfl kB_X5_apply rfl kI_X5_apply kV_X5_apply kl_L_20 (by omega) (Nat.le_of_ble_eq_true rfl) (by omega) hdl_apply hE (fun i E h9 q9 σ' τ' hc hh9 hp => match i, hc, hh9 with
    | 0, hc, hh9 => by
      cases hh9
      refine r_astore_n C dL_apply_12 rfl (by decide) rfl ?_
      refine r_iconst (v := 1) C dL_apply_13 rfl ?_
      exact r_iret C dL_apply_14 rfl (by omega) (Or.inr ⟨E, 0, hc, hp, rfl⟩)
    | 1, hc, hh9 => by
      cases hh9
      refine r_astore_n C dL_apply_15 rfl (by decide) rfl ?_
      refine r_iconst (v := 2) C dL_apply_16 rfl ?_
      exact r_iret C dL_apply_17 rfl (by omega) (Or.inr ⟨E, 1, hc, hp, rfl⟩)
    | i + 2, hc, _ => by simp at hc) ?_
  intro r9 σ' τ' hpv
  obtain ⟨x, rfl⟩ := hV r9 σ' τ' hpv
  refine r_i2l C dL_apply_7 ?_
  refine r_lastv C dL_apply_8 ⟨by decide, by decide⟩ rfl (fun _ => rfl) (vp_in_nI (n := 0) (by decide) (by decide)) rfl ?_
  refine r_goto (tgt := 18) C dL_apply_9 (by decide) ?_
  refine r_iconst (v := 0) C dL_apply_18 rfl ?_
  exact r_iret C dL_apply_19 rfl (by omega) (Or.inl ⟨x, τ', hpv, rfl, rfl⟩)
abbrev hh_enter : List (Nat × Nat × Nat × Nat) := [(0, 9, 12, 18), (0, 9, 15, 13)]
theorem kcw_enter : Cond.codeWith yL_enter cL_enter 4 (some .int) hh_enter ∈ wsG := wsG_of (by decide +kernel) (by decide +kernel)
theorem kst_enter : Cond.static yL_enter ∈ wsG := wsG_of (by decide +kernel) (by decide +kernel)
theorem hdl_enter : hdl RL hh_enter 4 [xIOB, xISE] := fun i E h => match i, h with
  | 0, h => by
    cases h
    exact ⟨[], ⟨0, 9, 12, 18⟩, [⟨0, 9, 15, 13⟩], (0, 9, 12, 18), rfl, by decide, by decide, kcl_xIOB, by decide +kernel, rfl, rfl, fun z hz => absurd hz List.not_mem_nil⟩
  | 1, h => by
    cases h
    exact ⟨[⟨0, 9, 12, 18⟩], ⟨0, 9, 15, 13⟩, [], (0, 9, 15, 13), rfl, by decide, by decide, kcl_xISE, by decide +kernel, rfl, rfl, fun z hz => by
      simp only [List.mem_cons, List.not_mem_nil, or_false] at hz
      subst hz
      · exact ⟨by decide, xIOB, kcl_xIOB, by decide +kernel⟩⟩
  | i + 2, h => by simp at h
set_option maxRecDepth 100000 in
set_option maxHeartbeats 4000000 in
theorem w_enter {l : Launch} {D : va_G} {ad : Nat → Nat → Nat} {aC : Nat → ClassId} {σ : gSig} {τ : gTau} {dd uu : Nat} {v1 : Int32} {PVx : Option Value → gSig → gTau → Prop} {PXx : String → gSig → gTau → Prop} (hM : CT l D ad aC yX5_enter cX5_enter 2 (some .int) dd uu [.ref (ad 0 0), .int v1] σ τ PVx PXx) (hV : ∀ r σ' τ', PVx r σ' τ' → ∃ x : Int32, r = some (.int x)) (hE : ∀ E σ' τ', PXx E σ' τ' → E ∈ [xIOB, xISE]) : CH l D ad aC yL_enter cL_enter 4 (some .int) hh_enter (dd + 1) uu [.ref (ad 0 0), .int v1, .ref (ad 21 0)] σ τ (wrQ [xIOB, xISE] PVx PXx) := by
  refine CH.of (own := RL) (by decide +kernel) rfl (Nat.le_of_ble_eq_true rfl) (fun S CH0 => ?_)
  have C := CH0.cx
  refine r_aload_n C dL_enter_0 rfl rfl ?_
  refine r_iconst (v := 0) C dL_enter_1 rfl ?_
  refine r_aload_n C dL_enter_2 rfl rfl ?_
  refine r_iload_n C dL_enter_3 rfl rfl ?_
  refine r_callVX CH0 dL_enter_4 hM rfl ⟨by decide, by decide⟩ rfl rfl kB_X5_enter rfl kI_X5_enter kV_X5_enter kl_L_25 (by omega) (Nat.le_of_ble_eq_true rfl) (by omega) hdl_enter hE (fun i E h9 q9 σ' τ' hc hh9 hp => match i, hc, hh9 with
    | 0, hc, hh9 => by
      cases hh9
      refine r_astore_n C dL_enter_12 rfl (by decide) rfl ?_
      refine r_iconst (v := 1) C dL_enter_13 rfl ?_
      exact r_iret C dL_enter_14 rfl (by omega) (Or.inr ⟨E, 0, hc, hp, rfl⟩)
    | 1, hc, hh9 => by
      cases hh9
      refine r_astore_n C dL_enter_15 rfl (by decide) rfl ?_
      refine r_iconst (v := 2) C dL_enter_16 rfl ?_
      exact r_iret C dL_enter_17 rfl (by omega) (Or.inr ⟨E, 1, hc, hp, rfl⟩)
    | i + 2, hc, _ => by simp at hc) ?_
  intro r9 σ' τ' hpv
  obtain ⟨x, rfl⟩ := hV r9 σ' τ' hpv
  refine r_i2l C dL_enter_7 ?_
  refine r_lastv C dL_enter_8 ⟨by decide, by decide⟩ rfl (fun _ => rfl) (vp_in_nI (n := 0) (by decide) (by decide)) rfl ?_
  refine r_goto (tgt := 18) C dL_enter_9 (by decide) ?_
  refine r_iconst (v := 0) C dL_enter_18 rfl ?_
  exact r_iret C dL_enter_19 rfl (by omega) (Or.inl ⟨x, τ', hpv, rfl, rfl⟩)
abbrev hh_input : List (Nat × Nat × Nat × Nat) := [(0, 12, 15, 18), (0, 12, 19, 23)]
theorem kcw_input : Cond.codeWith yL_input cL_input 6 (some .int) hh_input ∈ wsG := wsG_of (by decide +kernel) (by decide +kernel)
theorem kst_input : Cond.static yL_input ∈ wsG := wsG_of (by decide +kernel) (by decide +kernel)
theorem hdl_input : hdl RL hh_input 7 [xIOB, xIAE] := fun i E h => match i, h with
  | 0, h => by
    cases h
    exact ⟨[], ⟨0, 12, 15, 18⟩, [⟨0, 12, 19, 23⟩], (0, 12, 15, 18), rfl, by decide, by decide, kcl_xIOB, by decide +kernel, rfl, rfl, fun z hz => absurd hz List.not_mem_nil⟩
  | 1, h => by
    cases h
    exact ⟨[⟨0, 12, 15, 18⟩], ⟨0, 12, 19, 23⟩, [], (0, 12, 19, 23), rfl, by decide, by decide, kcl_xIAE, by decide +kernel, rfl, rfl, fun z hz => by
      simp only [List.mem_cons, List.not_mem_nil, or_false] at hz
      subst hz
      · exact ⟨by decide, xIOB, kcl_xIOB, by decide +kernel⟩⟩
  | i + 2, h => by simp at h
set_option maxRecDepth 100000 in
set_option maxHeartbeats 4000000 in
theorem w_input {l : Launch} {D : va_G} {ad : Nat → Nat → Nat} {aC : Nat → ClassId} {σ : gSig} {τ : gTau} {dd uu : Nat} {v1 v2 v3 : Int32} {PVx : Option Value → gSig → gTau → Prop} {PXx : String → gSig → gTau → Prop} (hM : CT l D ad aC yX5_input cX5_input 4 (some .int) dd uu [.ref (ad 0 0), .int v1, .int v2, .int v3] σ τ PVx PXx) (hV : ∀ r σ' τ', PVx r σ' τ' → ∃ x : Int32, r = some (.int x)) (hE : ∀ E σ' τ', PXx E σ' τ' → E ∈ [xIOB, xIAE]) : CH l D ad aC yL_input cL_input 6 (some .int) hh_input (dd + 1) uu [.ref (ad 0 0), .int v1, .int v2, .int v3, .ref (ad 21 0)] σ τ (wrQ [xIOB, xIAE] PVx PXx) := by
  refine CH.of (own := RL) (by decide +kernel) rfl (Nat.le_of_ble_eq_true rfl) (fun S CH0 => ?_)
  have C := CH0.cx
  refine r_aload C dL_input_0 rfl ?_
  refine r_iconst (v := 0) C dL_input_2 rfl ?_
  refine r_aload_n C dL_input_3 rfl rfl ?_
  refine r_iload_n C dL_input_4 rfl rfl ?_
  refine r_iload_n C dL_input_5 rfl rfl ?_
  refine r_iload_n C dL_input_6 rfl rfl ?_
  refine r_callVX CH0 dL_input_7 hM rfl ⟨by decide, by decide⟩ rfl rfl kB_X5_input rfl kI_X5_input kV_X5_input kl_L_28 (by omega) (Nat.le_of_ble_eq_true rfl) (by omega) hdl_input hE (fun i E h9 q9 σ' τ' hc hh9 hp => match i, hc, hh9 with
    | 0, hc, hh9 => by
      cases hh9
      refine r_astore C dL_input_15 (by decide) rfl ?_
      refine r_iconst (v := 1) C dL_input_17 rfl ?_
      exact r_iret C dL_input_18 rfl (by omega) (Or.inr ⟨E, 0, hc, hp, rfl⟩)
    | 1, hc, hh9 => by
      cases hh9
      refine r_astore C dL_input_19 (by decide) rfl ?_
      refine r_iconst (v := 2) C dL_input_21 rfl ?_
      exact r_iret C dL_input_22 rfl (by omega) (Or.inr ⟨E, 1, hc, hp, rfl⟩)
    | i + 2, hc, _ => by simp at hc) ?_
  intro r9 σ' τ' hpv
  obtain ⟨x, rfl⟩ := hV r9 σ' τ' hpv
  refine r_i2l C dL_input_10 ?_
  refine r_lastv C dL_input_11 ⟨by decide, by decide⟩ rfl (fun _ => rfl) (vp_in_nI (n := 0) (by decide) (by decide)) rfl ?_
  refine r_goto (tgt := 23) C dL_input_12 (by decide) ?_
  refine r_iconst (v := 0) C dL_input_23 rfl ?_
  exact r_iret C dL_input_24 rfl (by omega) (Or.inl ⟨x, τ', hpv, rfl, rfl⟩)
abbrev hh_set : List (Nat × Nat × Nat × Nat) := [(0, 10, 13, 18), (0, 10, 17, 13), (0, 10, 21, 23)]
theorem kcw_set : Cond.codeWith yL_set cL_set 5 (some .int) hh_set ∈ wsG := wsG_of (by decide +kernel) (by decide +kernel)
theorem kst_set : Cond.static yL_set ∈ wsG := wsG_of (by decide +kernel) (by decide +kernel)
theorem hdl_set : hdl RL hh_set 5 [xIOB, xISE, xIAE] := fun i E h => match i, h with
  | 0, h => by
    cases h
    exact ⟨[], ⟨0, 10, 13, 18⟩, [⟨0, 10, 17, 13⟩, ⟨0, 10, 21, 23⟩], (0, 10, 13, 18), rfl, by decide, by decide, kcl_xIOB, by decide +kernel, rfl, rfl, fun z hz => absurd hz List.not_mem_nil⟩
  | 1, h => by
    cases h
    exact ⟨[⟨0, 10, 13, 18⟩], ⟨0, 10, 17, 13⟩, [⟨0, 10, 21, 23⟩], (0, 10, 17, 13), rfl, by decide, by decide, kcl_xISE, by decide +kernel, rfl, rfl, fun z hz => by
      simp only [List.mem_cons, List.not_mem_nil, or_false] at hz
      subst hz
      · exact ⟨by decide, xIOB, kcl_xIOB, by decide +kernel⟩⟩
  | 2, h => by
    cases h
    exact ⟨[⟨0, 10, 13, 18⟩, ⟨0, 10, 17, 13⟩], ⟨0, 10, 21, 23⟩, [], (0, 10, 21, 23), rfl, by decide, by decide, kcl_xIAE, by decide +kernel, rfl, rfl, fun z hz => by
      simp only [List.mem_cons, List.not_mem_nil, or_false] at hz
      rcases hz with rfl | rfl
      · exact ⟨by decide, xIOB, kcl_xIOB, by decide +kernel⟩
      · exact ⟨by decide, xISE, kcl_xISE, by decide +kernel⟩⟩
  | i + 3, h => by simp at h
set_option maxRecDepth 100000 in
set_option maxHeartbeats 4000000 in
theorem w_set {l : Launch} {D : va_G} {ad : Nat → Nat → Nat} {aC : Nat → ClassId} {σ : gSig} {τ : gTau} {dd uu : Nat} {v1 v2 : Int32} {PVx : Option Value → gSig → gTau → Prop} {PXx : String → gSig → gTau → Prop} (hM : CT l D ad aC yX5_set cX5_set 4 (some .int) dd uu [.ref (ad 0 0), .int v1, .int v2] σ τ PVx PXx) (hV : ∀ r σ' τ', PVx r σ' τ' → ∃ x : Int32, r = some (.int x)) (hE : ∀ E σ' τ', PXx E σ' τ' → E ∈ [xIOB, xISE, xIAE]) : CH l D ad aC yL_set cL_set 5 (some .int) hh_set (dd + 1) uu [.ref (ad 0 0), .int v1, .int v2, .ref (ad 21 0)] σ τ (wrQ [xIOB, xISE, xIAE] PVx PXx) := by
  refine CH.of (own := RL) (by decide +kernel) rfl (Nat.le_of_ble_eq_true rfl) (fun S CH0 => ?_)
  have C := CH0.cx
  refine r_aload_n C dL_set_0 rfl rfl ?_
  refine r_iconst (v := 0) C dL_set_1 rfl ?_
  refine r_aload_n C dL_set_2 rfl rfl ?_
  refine r_iload_n C dL_set_3 rfl rfl ?_
  refine r_iload_n C dL_set_4 rfl rfl ?_
  refine r_callVX CH0 dL_set_5 hM rfl ⟨by decide, by decide⟩ rfl rfl kB_X5_set rfl kI_X5_set kV_X5_set kl_L_32 (by omega) (Nat.le_of_ble_eq_true rfl) (by omega) hdl_set hE (fun i E h9 q9 σ' τ' hc hh9 hp => match i, hc, hh9 with
    | 0, hc, hh9 => by
      cases hh9
      refine r_astore C dL_set_13 (by decide) rfl ?_
      refine r_iconst (v := 1) C dL_set_15 rfl ?_
      exact r_iret C dL_set_16 rfl (by omega) (Or.inr ⟨E, 0, hc, hp, rfl⟩)
    | 1, hc, hh9 => by
      cases hh9
      refine r_astore C dL_set_17 (by decide) rfl ?_
      refine r_iconst (v := 2) C dL_set_19 rfl ?_
      exact r_iret C dL_set_20 rfl (by omega) (Or.inr ⟨E, 1, hc, hp, rfl⟩)
    | 2, hc, hh9 => by
      cases hh9
      refine r_astore C dL_set_21 (by decide) rfl ?_
      refine r_iconst (v := 3) C dL_set_23 rfl ?_
      exact r_iret C dL_set_24 rfl (by omega) (Or.inr ⟨E, 2, hc, hp, rfl⟩)
    | i + 3, hc, _ => by simp at hc) ?_
  intro r9 σ' τ' hpv
  obtain ⟨x, rfl⟩ := hV r9 σ' τ' hpv
  refine r_i2l C dL_set_8 ?_
  refine r_lastv C dL_set_9 ⟨by decide, by decide⟩ rfl (fun _ => rfl) (vp_in_nI (n := 0) (by decide) (by decide)) rfl ?_
  refine r_goto (tgt := 25) C dL_set_10 (by decide) ?_
  refine r_iconst (v := 0) C dL_set_25 rfl ?_
  exact r_iret C dL_set_26 rfl (by omega) (Or.inl ⟨x, τ', hpv, rfl, rfl⟩)
abbrev hh_tell : List (Nat × Nat × Nat × Nat) := [(0, 12, 15, 18), (0, 12, 19, 23), (0, 12, 23, 13)]
theorem kcw_tell : Cond.codeWith yL_tell cL_tell 6 (some .int) hh_tell ∈ wsG := wsG_of (by decide +kernel) (by decide +kernel)
theorem kst_tell : Cond.static yL_tell ∈ wsG := wsG_of (by decide +kernel) (by decide +kernel)
theorem hdl_tell : hdl RL hh_tell 7 [xIOB, xIAE, xISE] := fun i E h => match i, h with
  | 0, h => by
    cases h
    exact ⟨[], ⟨0, 12, 15, 18⟩, [⟨0, 12, 19, 23⟩, ⟨0, 12, 23, 13⟩], (0, 12, 15, 18), rfl, by decide, by decide, kcl_xIOB, by decide +kernel, rfl, rfl, fun z hz => absurd hz List.not_mem_nil⟩
  | 1, h => by
    cases h
    exact ⟨[⟨0, 12, 15, 18⟩], ⟨0, 12, 19, 23⟩, [⟨0, 12, 23, 13⟩], (0, 12, 19, 23), rfl, by decide, by decide, kcl_xIAE, by decide +kernel, rfl, rfl, fun z hz => by
      simp only [List.mem_cons, List.not_mem_nil, or_false] at hz
      subst hz
      · exact ⟨by decide, xIOB, kcl_xIOB, by decide +kernel⟩⟩
  | 2, h => by
    cases h
    exact ⟨[⟨0, 12, 15, 18⟩, ⟨0, 12, 19, 23⟩], ⟨0, 12, 23, 13⟩, [], (0, 12, 23, 13), rfl, by decide, by decide, kcl_xISE, by decide +kernel, rfl, rfl, fun z hz => by
      simp only [List.mem_cons, List.not_mem_nil, or_false] at hz
      rcases hz with rfl | rfl
      · exact ⟨by decide, xIOB, kcl_xIOB, by decide +kernel⟩
      · exact ⟨by decide, xIAE, kcl_xIAE, by decide +kernel⟩⟩
  | i + 3, h => by simp at h
set_option maxRecDepth 100000 in
set_option maxHeartbeats 4000000 in
theorem w_tell {l : Launch} {D : va_G} {ad : Nat → Nat → Nat} {aC : Nat → ClassId} {σ : gSig} {τ : gTau} {dd uu : Nat} {v1 v2 v3 : Int32} {PVx : Option Value → gSig → gTau → Prop} {PXx : String → gSig → gTau → Prop} (hM : CT l D ad aC yX5_tell cX5_tell 4 (some .int) dd uu [.ref (ad 0 0), .int v1, .int v2, .int v3] σ τ PVx PXx) (hV : ∀ r σ' τ', PVx r σ' τ' → ∃ x : Int32, r = some (.int x)) (hE : ∀ E σ' τ', PXx E σ' τ' → E ∈ [xIOB, xIAE, xISE]) : CH l D ad aC yL_tell cL_tell 6 (some .int) hh_tell (dd + 1) uu [.ref (ad 0 0), .int v1, .int v2, .int v3, .ref (ad 21 0)] σ τ (wrQ [xIOB, xIAE, xISE] PVx PXx) := by
  refine CH.of (own := RL) (by decide +kernel) rfl (Nat.le_of_ble_eq_true rfl) (fun S CH0 => ?_)
  have C := CH0.cx
  refine r_aload C dL_tell_0 rfl ?_
  refine r_iconst (v := 0) C dL_tell_2 rfl ?_
  refine r_aload_n C dL_tell_3 rfl rfl ?_
  refine r_iload_n C dL_tell_4 rfl rfl ?_
  refine r_iload_n C dL_tell_5 rfl rfl ?_
  refine r_iload_n C dL_tell_6 rfl rfl ?_
  refine r_callVX CH0 dL_tell_7 hM rfl ⟨by decide, by decide⟩ rfl rfl kB_X5_tell rfl kI_X5_tell kV_X5_tell kl_L_36 (by omega) (Nat.le_of_ble_eq_true rfl) (by omega) hdl_tell hE (fun i E h9 q9 σ' τ' hc hh9 hp => match i, hc, hh9 with
    | 0, hc, hh9 => by
      cases hh9
      refine r_astore C dL_tell_15 (by decide) rfl ?_
      refine r_iconst (v := 1) C dL_tell_17 rfl ?_
      exact r_iret C dL_tell_18 rfl (by omega) (Or.inr ⟨E, 0, hc, hp, rfl⟩)
    | 1, hc, hh9 => by
      cases hh9
      refine r_astore C dL_tell_19 (by decide) rfl ?_
      refine r_iconst (v := 2) C dL_tell_21 rfl ?_
      exact r_iret C dL_tell_22 rfl (by omega) (Or.inr ⟨E, 1, hc, hp, rfl⟩)
    | 2, hc, hh9 => by
      cases hh9
      refine r_astore C dL_tell_23 (by decide) rfl ?_
      refine r_iconst (v := 3) C dL_tell_25 rfl ?_
      exact r_iret C dL_tell_26 rfl (by omega) (Or.inr ⟨E, 2, hc, hp, rfl⟩)
    | i + 3, hc, _ => by simp at hc) ?_
  intro r9 σ' τ' hpv
  obtain ⟨x, rfl⟩ := hV r9 σ' τ' hpv
  refine r_i2l C dL_tell_10 ?_
  refine r_lastv C dL_tell_11 ⟨by decide, by decide⟩ rfl (fun _ => rfl) (vp_in_nI (n := 0) (by decide) (by decide)) rfl ?_
  refine r_goto (tgt := 27) C dL_tell_12 (by decide) ?_
  refine r_iconst (v := 0) C dL_tell_27 rfl ?_
  exact r_iret C dL_tell_28 rfl (by omega) (Or.inl ⟨x, τ', hpv, rfl, rfl⟩)
abbrev hh_drop : List (Nat × Nat × Nat × Nat) := [(0, 9, 12, 18)]
theorem kcw_drop : Cond.codeWith yL_drop cL_drop 4 (some .int) hh_drop ∈ wsG := wsG_of (by decide +kernel) (by decide +kernel)
theorem kst_drop : Cond.static yL_drop ∈ wsG := wsG_of (by decide +kernel) (by decide +kernel)
theorem hdl_drop : hdl RL hh_drop 4 [xIOB] := fun i E h => match i, h with
  | 0, h => by
    cases h
    exact ⟨[], ⟨0, 9, 12, 18⟩, [], (0, 9, 12, 18), rfl, by decide, by decide, kcl_xIOB, by decide +kernel, rfl, rfl, fun z hz => absurd hz List.not_mem_nil⟩
  | i + 1, h => by simp at h
set_option maxRecDepth 100000 in
set_option maxHeartbeats 4000000 in
theorem w_drop {l : Launch} {D : va_G} {ad : Nat → Nat → Nat} {aC : Nat → ClassId} {σ : gSig} {τ : gTau} {dd uu : Nat} {v1 : Int32} {PVx : Option Value → gSig → gTau → Prop} {PXx : String → gSig → gTau → Prop} (hM : CT l D ad aC yX5_drop cX5_drop 3 (some .int) dd uu [.ref (ad 0 0), .int v1] σ τ PVx PXx) (hV : ∀ r σ' τ', PVx r σ' τ' → ∃ x : Int32, r = some (.int x)) (hE : ∀ E σ' τ', PXx E σ' τ' → E ∈ [xIOB]) : CH l D ad aC yL_drop cL_drop 4 (some .int) hh_drop (dd + 1) uu [.ref (ad 0 0), .int v1, .ref (ad 21 0)] σ τ (wrQ [xIOB] PVx PXx) := by
  refine CH.of (own := RL) (by decide +kernel) rfl (Nat.le_of_ble_eq_true rfl) (fun S CH0 => ?_)
  have C := CH0.cx
  refine r_aload_n C dL_drop_0 rfl rfl ?_
  refine r_iconst (v := 0) C dL_drop_1 rfl ?_
  refine r_aload_n C dL_drop_2 rfl rfl ?_
  refine r_iload_n C dL_drop_3 rfl rfl ?_
  refine r_callVX CH0 dL_drop_4 hM rfl ⟨by decide, by decide⟩ rfl rfl kB_X5_drop rfl kI_X5_drop kV_X5_drop kl_L_39 (by omega) (Nat.le_of_ble_eq_true rfl) (by omega) hdl_drop hE (fun i E h9 q9 σ' τ' hc hh9 hp => match i, hc, hh9 with
    | 0, hc, hh9 => by
      cases hh9
      refine r_astore_n C dL_drop_12 rfl (by decide) rfl ?_
      refine r_iconst (v := 1) C dL_drop_13 rfl ?_
      exact r_iret C dL_drop_14 rfl (by omega) (Or.inr ⟨E, 0, hc, hp, rfl⟩)
    | i + 1, hc, _ => by simp at hc) ?_
  intro r9 σ' τ' hpv
  obtain ⟨x, rfl⟩ := hV r9 σ' τ' hpv
  refine r_i2l C dL_drop_7 ?_
  refine r_lastv C dL_drop_8 ⟨by decide, by decide⟩ rfl (fun _ => rfl) (vp_in_nI (n := 0) (by decide) (by decide)) rfl ?_
  refine r_goto (tgt := 15) C dL_drop_9 (by decide) ?_
  refine r_iconst (v := 0) C dL_drop_15 rfl ?_
  exact r_iret C dL_drop_16 rfl (by omega) (Or.inl ⟨x, τ', hpv, rfl, rfl⟩)
abbrev hh_own : List (Nat × Nat × Nat × Nat) := [(0, 10, 13, 18), (0, 10, 17, 23)]
theorem kcw_own : Cond.codeWith yL_own cL_own 5 (some .int) hh_own ∈ wsG := wsG_of (by decide +kernel) (by decide +kernel)
theorem kst_own : Cond.static yL_own ∈ wsG := wsG_of (by decide +kernel) (by decide +kernel)
theorem hdl_own : hdl RL hh_own 5 [xIOB, xIAE] := fun i E h => match i, h with
  | 0, h => by
    cases h
    exact ⟨[], ⟨0, 10, 13, 18⟩, [⟨0, 10, 17, 23⟩], (0, 10, 13, 18), rfl, by decide, by decide, kcl_xIOB, by decide +kernel, rfl, rfl, fun z hz => absurd hz List.not_mem_nil⟩
  | 1, h => by
    cases h
    exact ⟨[⟨0, 10, 13, 18⟩], ⟨0, 10, 17, 23⟩, [], (0, 10, 17, 23), rfl, by decide, by decide, kcl_xIAE, by decide +kernel, rfl, rfl, fun z hz => by
      simp only [List.mem_cons, List.not_mem_nil, or_false] at hz
      subst hz
      · exact ⟨by decide, xIOB, kcl_xIOB, by decide +kernel⟩⟩
  | i + 2, h => by simp at h
set_option maxRecDepth 100000 in
set_option maxHeartbeats 4000000 in
theorem w_own {l : Launch} {D : va_G} {ad : Nat → Nat → Nat} {aC : Nat → ClassId} {σ : gSig} {τ : gTau} {dd uu : Nat} {v1 v2 : Int32} {PVx : Option Value → gSig → gTau → Prop} {PXx : String → gSig → gTau → Prop} (hM : CT l D ad aC yX5_own cX5_own 4 (some .int) dd uu [.ref (ad 0 0), .int v1, .int v2] σ τ PVx PXx) (hV : ∀ r σ' τ', PVx r σ' τ' → ∃ x : Int32, r = some (.int x)) (hE : ∀ E σ' τ', PXx E σ' τ' → E ∈ [xIOB, xIAE]) : CH l D ad aC yL_own cL_own 5 (some .int) hh_own (dd + 1) uu [.ref (ad 0 0), .int v1, .int v2, .ref (ad 21 0)] σ τ (wrQ [xIOB, xIAE] PVx PXx) := by
  refine CH.of (own := RL) (by decide +kernel) rfl (Nat.le_of_ble_eq_true rfl) (fun S CH0 => ?_)
  have C := CH0.cx
  refine r_aload_n C dL_own_0 rfl rfl ?_
  refine r_iconst (v := 0) C dL_own_1 rfl ?_
  refine r_aload_n C dL_own_2 rfl rfl ?_
  refine r_iload_n C dL_own_3 rfl rfl ?_
  refine r_iload_n C dL_own_4 rfl rfl ?_
  refine r_callVX CH0 dL_own_5 hM rfl ⟨by decide, by decide⟩ rfl rfl kB_X5_own rfl kI_X5_own kV_X5_own kl_L_42 (by omega) (Nat.le_of_ble_eq_true rfl) (by omega) hdl_own hE (fun i E h9 q9 σ' τ' hc hh9 hp => match i, hc, hh9 with
    | 0, hc, hh9 => by
      cases hh9
      refine r_astore C dL_own_13 (by decide) rfl ?_
      refine r_iconst (v := 1) C dL_own_15 rfl ?_
      exact r_iret C dL_own_16 rfl (by omega) (Or.inr ⟨E, 0, hc, hp, rfl⟩)
    | 1, hc, hh9 => by
      cases hh9
      refine r_astore C dL_own_17 (by decide) rfl ?_
      refine r_iconst (v := 2) C dL_own_19 rfl ?_
      exact r_iret C dL_own_20 rfl (by omega) (Or.inr ⟨E, 1, hc, hp, rfl⟩)
    | i + 2, hc, _ => by simp at hc) ?_
  intro r9 σ' τ' hpv
  obtain ⟨x, rfl⟩ := hV r9 σ' τ' hpv
  refine r_i2l C dL_own_8 ?_
  refine r_lastv C dL_own_9 ⟨by decide, by decide⟩ rfl (fun _ => rfl) (vp_in_nI (n := 0) (by decide) (by decide)) rfl ?_
  refine r_goto (tgt := 21) C dL_own_10 (by decide) ?_
  refine r_iconst (v := 0) C dL_own_21 rfl ?_
  exact r_iret C dL_own_22 rfl (by omega) (Or.inl ⟨x, τ', hpv, rfl, rfl⟩)
abbrev hh_attempt : List (Nat × Nat × Nat × Nat) := [(0, 12, 15, 18), (0, 12, 19, 23)]
theorem kcw_attempt : Cond.codeWith yL_attempt cL_attempt 6 (some .int) hh_attempt ∈ wsG := wsG_of (by decide +kernel) (by decide +kernel)
theorem kst_attempt : Cond.static yL_attempt ∈ wsG := wsG_of (by decide +kernel) (by decide +kernel)
theorem hdl_attempt : hdl RL hh_attempt 7 [xIOB, xIAE] := fun i E h => match i, h with
  | 0, h => by
    cases h
    exact ⟨[], ⟨0, 12, 15, 18⟩, [⟨0, 12, 19, 23⟩], (0, 12, 15, 18), rfl, by decide, by decide, kcl_xIOB, by decide +kernel, rfl, rfl, fun z hz => absurd hz List.not_mem_nil⟩
  | 1, h => by
    cases h
    exact ⟨[⟨0, 12, 15, 18⟩], ⟨0, 12, 19, 23⟩, [], (0, 12, 19, 23), rfl, by decide, by decide, kcl_xIAE, by decide +kernel, rfl, rfl, fun z hz => by
      simp only [List.mem_cons, List.not_mem_nil, or_false] at hz
      subst hz
      · exact ⟨by decide, xIOB, kcl_xIOB, by decide +kernel⟩⟩
  | i + 2, h => by simp at h
set_option maxRecDepth 100000 in
set_option maxHeartbeats 4000000 in
theorem w_attempt {l : Launch} {D : va_G} {ad : Nat → Nat → Nat} {aC : Nat → ClassId} {σ : gSig} {τ : gTau} {dd uu : Nat} {v1 v2 v3 : Int32} {PVx : Option Value → gSig → gTau → Prop} {PXx : String → gSig → gTau → Prop} (hM : CT l D ad aC yX5_attempt cX5_attempt 8 (some .int) dd uu [.ref (ad 0 0), .int v1, .int v2, .int v3] σ τ PVx PXx) (hV : ∀ r σ' τ', PVx r σ' τ' → ∃ x : Int32, r = some (.int x)) (hE : ∀ E σ' τ', PXx E σ' τ' → E ∈ [xIOB, xIAE]) : CH l D ad aC yL_attempt cL_attempt 6 (some .int) hh_attempt (dd + 1) uu [.ref (ad 0 0), .int v1, .int v2, .int v3, .ref (ad 21 0)] σ τ (wrQ [xIOB, xIAE] PVx PXx) := by
  refine CH.of (own := RL) (by decide +kernel) rfl (Nat.le_of_ble_eq_true rfl) (fun S CH0 => ?_)
  have C := CH0.cx
  refine r_aload C dL_attempt_0 rfl ?_
  refine r_iconst (v := 0) C dL_attempt_2 rfl ?_
  refine r_aload_n C dL_attempt_3 rfl rfl ?_
  refine r_iload_n C dL_attempt_4 rfl rfl ?_
  refine r_iload_n C dL_attempt_5 rfl rfl ?_
  refine r_iload_n C dL_attempt_6 rfl rfl ?_
  refine r_callVX CH0 dL_attempt_7 hM rfl ⟨by decide, by decide⟩ rfl rfl kB_X5_attempt rfl kI_X5_attempt kV_X5_attempt kl_L_45 (by omega) (Nat.le_of_ble_eq_true rfl) (by omega) hdl_attempt hE (fun i E h9 q9 σ' τ' hc hh9 hp => match i, hc, hh9 with
    | 0, hc, hh9 => by
      cases hh9
      refine r_astore C dL_attempt_15 (by decide) rfl ?_
      refine r_iconst (v := 1) C dL_attempt_17 rfl ?_
      exact r_iret C dL_attempt_18 rfl (by omega) (Or.inr ⟨E, 0, hc, hp, rfl⟩)
    | 1, hc, hh9 => by
      cases hh9
      refine r_astore C dL_attempt_19 (by decide) rfl ?_
      refine r_iconst (v := 2) C dL_attempt_21 rfl ?_
      exact r_iret C dL_attempt_22 rfl (by omega) (Or.inr ⟨E, 1, hc, hp, rfl⟩)
    | i + 2, hc, _ => by simp at hc) ?_
  intro r9 σ' τ' hpv
  obtain ⟨x, rfl⟩ := hV r9 σ' τ' hpv
  refine r_i2l C dL_attempt_10 ?_
  refine r_lastv C dL_attempt_11 ⟨by decide, by decide⟩ rfl (fun _ => rfl) (vp_in_nI (n := 0) (by decide) (by decide)) rfl ?_
  refine r_goto (tgt := 23) C dL_attempt_12 (by decide) ?_
  refine r_iconst (v := 0) C dL_attempt_23 rfl ?_
  exact r_iret C dL_attempt_24 rfl (by omega) (Or.inl ⟨x, τ', hpv, rfl, rfl⟩)
abbrev hh_waive : List (Nat × Nat × Nat × Nat) := [(0, 12, 15, 18), (0, 12, 19, 23), (0, 12, 23, 13)]
theorem kcw_waive : Cond.codeWith yL_waive cL_waive 6 (some .int) hh_waive ∈ wsG := wsG_of (by decide +kernel) (by decide +kernel)
theorem kst_waive : Cond.static yL_waive ∈ wsG := wsG_of (by decide +kernel) (by decide +kernel)
theorem hdl_waive : hdl RL hh_waive 7 [xIOB, xIAE, xISE] := fun i E h => match i, h with
  | 0, h => by
    cases h
    exact ⟨[], ⟨0, 12, 15, 18⟩, [⟨0, 12, 19, 23⟩, ⟨0, 12, 23, 13⟩], (0, 12, 15, 18), rfl, by decide, by decide, kcl_xIOB, by decide +kernel, rfl, rfl, fun z hz => absurd hz List.not_mem_nil⟩
  | 1, h => by
    cases h
    exact ⟨[⟨0, 12, 15, 18⟩], ⟨0, 12, 19, 23⟩, [⟨0, 12, 23, 13⟩], (0, 12, 19, 23), rfl, by decide, by decide, kcl_xIAE, by decide +kernel, rfl, rfl, fun z hz => by
      simp only [List.mem_cons, List.not_mem_nil, or_false] at hz
      subst hz
      · exact ⟨by decide, xIOB, kcl_xIOB, by decide +kernel⟩⟩
  | 2, h => by
    cases h
    exact ⟨[⟨0, 12, 15, 18⟩, ⟨0, 12, 19, 23⟩], ⟨0, 12, 23, 13⟩, [], (0, 12, 23, 13), rfl, by decide, by decide, kcl_xISE, by decide +kernel, rfl, rfl, fun z hz => by
      simp only [List.mem_cons, List.not_mem_nil, or_false] at hz
      rcases hz with rfl | rfl
      · exact ⟨by decide, xIOB, kcl_xIOB, by decide +kernel⟩
      · exact ⟨by decide, xIAE, kcl_xIAE, by decide +kernel⟩⟩
  | i + 3, h => by simp at h
set_option maxRecDepth 100000 in
set_option maxHeartbeats 4000000 in
theorem w_waive {l : Launch} {D : va_G} {ad : Nat → Nat → Nat} {aC : Nat → ClassId} {σ : gSig} {τ : gTau} {dd uu : Nat} {v1 v2 v3 : Int32} {PVx : Option Value → gSig → gTau → Prop} {PXx : String → gSig → gTau → Prop} (hM : CT l D ad aC yX5_waive cX5_waive 4 (some .int) dd uu [.ref (ad 0 0), .int v1, .int v2, .int v3] σ τ PVx PXx) (hV : ∀ r σ' τ', PVx r σ' τ' → ∃ x : Int32, r = some (.int x)) (hE : ∀ E σ' τ', PXx E σ' τ' → E ∈ [xIOB, xIAE, xISE]) : CH l D ad aC yL_waive cL_waive 6 (some .int) hh_waive (dd + 1) uu [.ref (ad 0 0), .int v1, .int v2, .int v3, .ref (ad 21 0)] σ τ (wrQ [xIOB, xIAE, xISE] PVx PXx) := by
  refine CH.of (own := RL) (by decide +kernel) rfl (Nat.le_of_ble_eq_true rfl) (fun S CH0 => ?_)
  have C := CH0.cx
  refine r_aload C dL_waive_0 rfl ?_
  refine r_iconst (v := 0) C dL_waive_2 rfl ?_
  refine r_aload_n C dL_waive_3 rfl rfl ?_
  refine r_iload_n C dL_waive_4 rfl rfl ?_
  refine r_iload_n C dL_waive_5 rfl rfl ?_
  refine r_iload_n C dL_waive_6 rfl rfl ?_
  refine r_callVX CH0 dL_waive_7 hM rfl ⟨by decide, by decide⟩ rfl rfl kB_X5_waive rfl kI_X5_waive kV_X5_waive kl_L_48 (by omega) (Nat.le_of_ble_eq_true rfl) (by omega) hdl_waive hE (fun i E h9 q9 σ' τ' hc hh9 hp => match i, hc, hh9 with
    | 0, hc, hh9 => by
      cases hh9
      refine r_astore C dL_waive_15 (by decide) rfl ?_
      refine r_iconst (v := 1) C dL_waive_17 rfl ?_
      exact r_iret C dL_waive_18 rfl (by omega) (Or.inr ⟨E, 0, hc, hp, rfl⟩)
    | 1, hc, hh9 => by
      cases hh9
      refine r_astore C dL_waive_19 (by decide) rfl ?_
      refine r_iconst (v := 2) C dL_waive_21 rfl ?_
      exact r_iret C dL_waive_22 rfl (by omega) (Or.inr ⟨E, 1, hc, hp, rfl⟩)
    | 2, hc, hh9 => by
      cases hh9
      refine r_astore C dL_waive_23 (by decide) rfl ?_
      refine r_iconst (v := 3) C dL_waive_25 rfl ?_
      exact r_iret C dL_waive_26 rfl (by omega) (Or.inr ⟨E, 2, hc, hp, rfl⟩)
    | i + 3, hc, _ => by simp at hc) ?_
  intro r9 σ' τ' hpv
  obtain ⟨x, rfl⟩ := hV r9 σ' τ' hpv
  refine r_i2l C dL_waive_10 ?_
  refine r_lastv C dL_waive_11 ⟨by decide, by decide⟩ rfl (fun _ => rfl) (vp_in_nI (n := 0) (by decide) (by decide)) rfl ?_
  refine r_goto (tgt := 27) C dL_waive_12 (by decide) ?_
  refine r_iconst (v := 0) C dL_waive_27 rfl ?_
  exact r_iret C dL_waive_28 rfl (by omega) (Or.inl ⟨x, τ', hpv, rfl, rfl⟩)
abbrev hh_pass : List (Nat × Nat × Nat × Nat) := [(0, 9, 12, 23), (0, 9, 15, 13)]
theorem kcw_pass : Cond.codeWith yL_pass cL_pass 4 (some .int) hh_pass ∈ wsG := wsG_of (by decide +kernel) (by decide +kernel)
theorem kst_pass : Cond.static yL_pass ∈ wsG := wsG_of (by decide +kernel) (by decide +kernel)
theorem hdl_pass : hdl RL hh_pass 4 [xIAE, xISE] := fun i E h => match i, h with
  | 0, h => by
    cases h
    exact ⟨[], ⟨0, 9, 12, 23⟩, [⟨0, 9, 15, 13⟩], (0, 9, 12, 23), rfl, by decide, by decide, kcl_xIAE, by decide +kernel, rfl, rfl, fun z hz => absurd hz List.not_mem_nil⟩
  | 1, h => by
    cases h
    exact ⟨[⟨0, 9, 12, 23⟩], ⟨0, 9, 15, 13⟩, [], (0, 9, 15, 13), rfl, by decide, by decide, kcl_xISE, by decide +kernel, rfl, rfl, fun z hz => by
      simp only [List.mem_cons, List.not_mem_nil, or_false] at hz
      subst hz
      · exact ⟨by decide, xIAE, kcl_xIAE, by decide +kernel⟩⟩
  | i + 2, h => by simp at h
set_option maxRecDepth 100000 in
set_option maxHeartbeats 4000000 in
theorem w_pass {l : Launch} {D : va_G} {ad : Nat → Nat → Nat} {aC : Nat → ClassId} {σ : gSig} {τ : gTau} {dd uu : Nat} {v1 : Int32} {PVx : Option Value → gSig → gTau → Prop} {PXx : String → gSig → gTau → Prop} (hM : CT l D ad aC yX5_pass cX5_pass 2 (some .int) dd uu [.ref (ad 0 0), .int v1] σ τ PVx PXx) (hV : ∀ r σ' τ', PVx r σ' τ' → ∃ x : Int32, r = some (.int x)) (hE : ∀ E σ' τ', PXx E σ' τ' → E ∈ [xIAE, xISE]) : CH l D ad aC yL_pass cL_pass 4 (some .int) hh_pass (dd + 1) uu [.ref (ad 0 0), .int v1, .ref (ad 21 0)] σ τ (wrQ [xIAE, xISE] PVx PXx) := by
  refine CH.of (own := RL) (by decide +kernel) rfl (Nat.le_of_ble_eq_true rfl) (fun S CH0 => ?_)
  have C := CH0.cx
  refine r_aload_n C dL_pass_0 rfl rfl ?_
  refine r_iconst (v := 0) C dL_pass_1 rfl ?_
  refine r_aload_n C dL_pass_2 rfl rfl ?_
  refine r_iload_n C dL_pass_3 rfl rfl ?_
  refine r_callVX CH0 dL_pass_4 hM rfl ⟨by decide, by decide⟩ rfl rfl kB_X5_pass rfl kI_X5_pass kV_X5_pass kl_L_51 (by omega) (Nat.le_of_ble_eq_true rfl) (by omega) hdl_pass hE (fun i E h9 q9 σ' τ' hc hh9 hp => match i, hc, hh9 with
    | 0, hc, hh9 => by
      cases hh9
      refine r_astore_n C dL_pass_12 rfl (by decide) rfl ?_
      refine r_iconst (v := 1) C dL_pass_13 rfl ?_
      exact r_iret C dL_pass_14 rfl (by omega) (Or.inr ⟨E, 0, hc, hp, rfl⟩)
    | 1, hc, hh9 => by
      cases hh9
      refine r_astore_n C dL_pass_15 rfl (by decide) rfl ?_
      refine r_iconst (v := 2) C dL_pass_16 rfl ?_
      exact r_iret C dL_pass_17 rfl (by omega) (Or.inr ⟨E, 1, hc, hp, rfl⟩)
    | i + 2, hc, _ => by simp at hc) ?_
  intro r9 σ' τ' hpv
  obtain ⟨x, rfl⟩ := hV r9 σ' τ' hpv
  refine r_i2l C dL_pass_7 ?_
  refine r_lastv C dL_pass_8 ⟨by decide, by decide⟩ rfl (fun _ => rfl) (vp_in_nI (n := 0) (by decide) (by decide)) rfl ?_
  refine r_goto (tgt := 18) C dL_pass_9 (by decide) ?_
  refine r_iconst (v := 0) C dL_pass_18 rfl ?_
  exact r_iret C dL_pass_19 rfl (by omega) (Or.inl ⟨x, τ', hpv, rfl, rfl⟩)
abbrev hh_reads : List (Nat × Nat × Nat × Nat) := [(0, 9, 12, 18)]
theorem kcw_reads : Cond.codeWith yL_reads cL_reads 4 (some .int) hh_reads ∈ wsG := wsG_of (by decide +kernel) (by decide +kernel)
theorem kst_reads : Cond.static yL_reads ∈ wsG := wsG_of (by decide +kernel) (by decide +kernel)
theorem hdl_reads : hdl RL hh_reads 4 [xIOB] := fun i E h => match i, h with
  | 0, h => by
    cases h
    exact ⟨[], ⟨0, 9, 12, 18⟩, [], (0, 9, 12, 18), rfl, by decide, by decide, kcl_xIOB, by decide +kernel, rfl, rfl, fun z hz => absurd hz List.not_mem_nil⟩
  | i + 1, h => by simp at h
set_option maxRecDepth 100000 in
set_option maxHeartbeats 4000000 in
theorem w_reads {l : Launch} {D : va_G} {ad : Nat → Nat → Nat} {aC : Nat → ClassId} {σ : gSig} {τ : gTau} {dd uu : Nat} {v1 : Int32} {PVx : Option Value → gSig → gTau → Prop} {PXx : String → gSig → gTau → Prop} (hM : CT l D ad aC yX5_reads cX5_reads 2 (some .int) dd uu [.ref (ad 0 0), .int v1] σ τ PVx PXx) (hV : ∀ r σ' τ', PVx r σ' τ' → ∃ x : Int32, r = some (.int x)) (hE : ∀ E σ' τ', PXx E σ' τ' → E ∈ [xIOB]) : CH l D ad aC yL_reads cL_reads 4 (some .int) hh_reads (dd + 1) uu [.ref (ad 0 0), .int v1, .ref (ad 21 0)] σ τ (wrQ [xIOB] PVx PXx) := by
  refine CH.of (own := RL) (by decide +kernel) rfl (Nat.le_of_ble_eq_true rfl) (fun S CH0 => ?_)
  have C := CH0.cx
  refine r_aload_n C dL_reads_0 rfl rfl ?_
  refine r_iconst (v := 0) C dL_reads_1 rfl ?_
  refine r_aload_n C dL_reads_2 rfl rfl ?_
  refine r_iload_n C dL_reads_3 rfl rfl ?_
  refine r_callVX CH0 dL_reads_4 hM rfl ⟨by decide, by decide⟩ rfl rfl kB_X5_reads rfl kI_X5_reads kV_X5_reads kl_L_54 (by omega) (Nat.le_of_ble_eq_true rfl) (by omega) hdl_reads hE (fun i E h9 q9 σ' τ' hc hh9 hp => match i, hc, hh9 with
    | 0, hc, hh9 => by
      cases hh9
      refine r_astore_n C dL_reads_12 rfl (by decide) rfl ?_
      refine r_iconst (v := 1) C dL_reads_13 rfl ?_
      exact r_iret C dL_reads_14 rfl (by omega) (Or.inr ⟨E, 0, hc, hp, rfl⟩)
    | i + 1, hc, _ => by simp at hc) ?_
  intro r9 σ' τ' hpv
  obtain ⟨x, rfl⟩ := hV r9 σ' τ' hpv
  refine r_i2l C dL_reads_7 ?_
  refine r_lastv C dL_reads_8 ⟨by decide, by decide⟩ rfl (fun _ => rfl) (vp_in_nI (n := 0) (by decide) (by decide)) rfl ?_
  refine r_goto (tgt := 15) C dL_reads_9 (by decide) ?_
  refine r_iconst (v := 0) C dL_reads_15 rfl ?_
  exact r_iret C dL_reads_16 rfl (by omega) (Or.inl ⟨x, τ', hpv, rfl, rfl⟩)
abbrev hh_rests : List (Nat × Nat × Nat × Nat) := [(0, 9, 12, 18)]
theorem kcw_rests : Cond.codeWith yL_rests cL_rests 4 (some .int) hh_rests ∈ wsG := wsG_of (by decide +kernel) (by decide +kernel)
theorem kst_rests : Cond.static yL_rests ∈ wsG := wsG_of (by decide +kernel) (by decide +kernel)
theorem hdl_rests : hdl RL hh_rests 4 [xIOB] := fun i E h => match i, h with
  | 0, h => by
    cases h
    exact ⟨[], ⟨0, 9, 12, 18⟩, [], (0, 9, 12, 18), rfl, by decide, by decide, kcl_xIOB, by decide +kernel, rfl, rfl, fun z hz => absurd hz List.not_mem_nil⟩
  | i + 1, h => by simp at h
set_option maxRecDepth 100000 in
set_option maxHeartbeats 4000000 in
theorem w_rests {l : Launch} {D : va_G} {ad : Nat → Nat → Nat} {aC : Nat → ClassId} {σ : gSig} {τ : gTau} {dd uu : Nat} {v1 : Int32} {PVx : Option Value → gSig → gTau → Prop} {PXx : String → gSig → gTau → Prop} (hM : CT l D ad aC yX5_rests cX5_rests 2 (some .int) dd uu [.ref (ad 0 0), .int v1] σ τ PVx PXx) (hV : ∀ r σ' τ', PVx r σ' τ' → ∃ x : Int32, r = some (.int x)) (hE : ∀ E σ' τ', PXx E σ' τ' → E ∈ [xIOB]) : CH l D ad aC yL_rests cL_rests 4 (some .int) hh_rests (dd + 1) uu [.ref (ad 0 0), .int v1, .ref (ad 21 0)] σ τ (wrQ [xIOB] PVx PXx) := by
  refine CH.of (own := RL) (by decide +kernel) rfl (Nat.le_of_ble_eq_true rfl) (fun S CH0 => ?_)
  have C := CH0.cx
  refine r_aload_n C dL_rests_0 rfl rfl ?_
  refine r_iconst (v := 0) C dL_rests_1 rfl ?_
  refine r_aload_n C dL_rests_2 rfl rfl ?_
  refine r_iload_n C dL_rests_3 rfl rfl ?_
  refine r_callVX CH0 dL_rests_4 hM rfl ⟨by decide, by decide⟩ rfl rfl kB_X5_rests rfl kI_X5_rests kV_X5_rests kl_L_57 (by omega) (Nat.le_of_ble_eq_true rfl) (by omega) hdl_rests hE (fun i E h9 q9 σ' τ' hc hh9 hp => match i, hc, hh9 with
    | 0, hc, hh9 => by
      cases hh9
      refine r_astore_n C dL_rests_12 rfl (by decide) rfl ?_
      refine r_iconst (v := 1) C dL_rests_13 rfl ?_
      exact r_iret C dL_rests_14 rfl (by omega) (Or.inr ⟨E, 0, hc, hp, rfl⟩)
    | i + 1, hc, _ => by simp at hc) ?_
  intro r9 σ' τ' hpv
  obtain ⟨x, rfl⟩ := hV r9 σ' τ' hpv
  refine r_i2l C dL_rests_7 ?_
  refine r_lastv C dL_rests_8 ⟨by decide, by decide⟩ rfl (fun _ => rfl) (vp_in_nI (n := 0) (by decide) (by decide)) rfl ?_
  refine r_goto (tgt := 15) C dL_rests_9 (by decide) ?_
  refine r_iconst (v := 0) C dL_rests_15 rfl ?_
  exact r_iret C dL_rests_16 rfl (by omega) (Or.inl ⟨x, τ', hpv, rfl, rfl⟩)
abbrev hh_show : List (Nat × Nat × Nat × Nat) := [(0, 9, 12, 18), (0, 9, 15, 13), (0, 9, 18, 63)]
theorem kcw_show : Cond.codeWith yL_show cL_show 4 (some .int) hh_show ∈ wsG := wsG_of (by decide +kernel) (by decide +kernel)
theorem kst_show : Cond.static yL_show ∈ wsG := wsG_of (by decide +kernel) (by decide +kernel)
theorem hdl_show : hdl RL hh_show 4 [xIOB, xISE, xARI] := fun i E h => match i, h with
  | 0, h => by
    cases h
    exact ⟨[], ⟨0, 9, 12, 18⟩, [⟨0, 9, 15, 13⟩, ⟨0, 9, 18, 63⟩], (0, 9, 12, 18), rfl, by decide, by decide, kcl_xIOB, by decide +kernel, rfl, rfl, fun z hz => absurd hz List.not_mem_nil⟩
  | 1, h => by
    cases h
    exact ⟨[⟨0, 9, 12, 18⟩], ⟨0, 9, 15, 13⟩, [⟨0, 9, 18, 63⟩], (0, 9, 15, 13), rfl, by decide, by decide, kcl_xISE, by decide +kernel, rfl, rfl, fun z hz => by
      simp only [List.mem_cons, List.not_mem_nil, or_false] at hz
      subst hz
      · exact ⟨by decide, xIOB, kcl_xIOB, by decide +kernel⟩⟩
  | 2, h => by
    cases h
    exact ⟨[⟨0, 9, 12, 18⟩, ⟨0, 9, 15, 13⟩], ⟨0, 9, 18, 63⟩, [], (0, 9, 18, 63), rfl, by decide, by decide, kcl_xARI, by decide +kernel, rfl, rfl, fun z hz => by
      simp only [List.mem_cons, List.not_mem_nil, or_false] at hz
      rcases hz with rfl | rfl
      · exact ⟨by decide, xIOB, kcl_xIOB, by decide +kernel⟩
      · exact ⟨by decide, xISE, kcl_xISE, by decide +kernel⟩⟩
  | i + 3, h => by simp at h
set_option maxRecDepth 100000 in
set_option maxHeartbeats 4000000 in
theorem w_show {l : Launch} {D : va_G} {ad : Nat → Nat → Nat} {aC : Nat → ClassId} {σ : gSig} {τ : gTau} {dd uu : Nat} {v1 : Int32} {PVx : Option Value → gSig → gTau → Prop} {PXx : String → gSig → gTau → Prop} (hM : CT l D ad aC yX5_show cX5_show 4 (some .int) dd uu [.ref (ad 0 0), .int v1] σ τ PVx PXx) (hV : ∀ r σ' τ', PVx r σ' τ' → ∃ x : Int32, r = some (.int x)) (hE : ∀ E σ' τ', PXx E σ' τ' → E ∈ [xIOB, xISE, xARI]) : CH l D ad aC yL_show cL_show 4 (some .int) hh_show (dd + 1) uu [.ref (ad 0 0), .int v1, .ref (ad 21 0)] σ τ (wrQ [xIOB, xISE, xARI] PVx PXx) := by
  refine CH.of (own := RL) (by decide +kernel) rfl (Nat.le_of_ble_eq_true rfl) (fun S CH0 => ?_)
  have C := CH0.cx
  refine r_aload_n C dL_show_0 rfl rfl ?_
  refine r_iconst (v := 0) C dL_show_1 rfl ?_
  refine r_aload_n C dL_show_2 rfl rfl ?_
  refine r_iload_n C dL_show_3 rfl rfl ?_
  refine r_callVX CH0 dL_show_4 hM rfl ⟨by decide, by decide⟩ rfl rfl kB_X5_show rfl kI_X5_show kV_X5_show kl_L_60 (by omega) (Nat.le_of_ble_eq_true rfl) (by omega) hdl_show hE (fun i E h9 q9 σ' τ' hc hh9 hp => match i, hc, hh9 with
    | 0, hc, hh9 => by
      cases hh9
      refine r_astore_n C dL_show_12 rfl (by decide) rfl ?_
      refine r_iconst (v := 1) C dL_show_13 rfl ?_
      exact r_iret C dL_show_14 rfl (by omega) (Or.inr ⟨E, 0, hc, hp, rfl⟩)
    | 1, hc, hh9 => by
      cases hh9
      refine r_astore_n C dL_show_15 rfl (by decide) rfl ?_
      refine r_iconst (v := 2) C dL_show_16 rfl ?_
      exact r_iret C dL_show_17 rfl (by omega) (Or.inr ⟨E, 1, hc, hp, rfl⟩)
    | 2, hc, hh9 => by
      cases hh9
      refine r_astore_n C dL_show_18 rfl (by decide) rfl ?_
      refine r_iconst (v := 3) C dL_show_19 rfl ?_
      exact r_iret C dL_show_20 rfl (by omega) (Or.inr ⟨E, 2, hc, hp, rfl⟩)
    | i + 3, hc, _ => by simp at hc) ?_
  intro r9 σ' τ' hpv
  obtain ⟨x, rfl⟩ := hV r9 σ' τ' hpv
  refine r_i2l C dL_show_7 ?_
  refine r_lastv C dL_show_8 ⟨by decide, by decide⟩ rfl (fun _ => rfl) (vp_in_nI (n := 0) (by decide) (by decide)) rfl ?_
  refine r_goto (tgt := 21) C dL_show_9 (by decide) ?_
  refine r_iconst (v := 0) C dL_show_21 rfl ?_
  exact r_iret C dL_show_22 rfl (by omega) (Or.inl ⟨x, τ', hpv, rfl, rfl⟩)
abbrev hh_verdict : List (Nat × Nat × Nat × Nat) := [(0, 9, 12, 18)]
theorem kcw_verdict : Cond.codeWith yL_verdict cL_verdict 4 (some .int) hh_verdict ∈ wsG := wsG_of (by decide +kernel) (by decide +kernel)
theorem kst_verdict : Cond.static yL_verdict ∈ wsG := wsG_of (by decide +kernel) (by decide +kernel)
theorem hdl_verdict : hdl RL hh_verdict 4 [xIOB] := fun i E h => match i, h with
  | 0, h => by
    cases h
    exact ⟨[], ⟨0, 9, 12, 18⟩, [], (0, 9, 12, 18), rfl, by decide, by decide, kcl_xIOB, by decide +kernel, rfl, rfl, fun z hz => absurd hz List.not_mem_nil⟩
  | i + 1, h => by simp at h
set_option maxRecDepth 100000 in
set_option maxHeartbeats 4000000 in
theorem w_verdict {l : Launch} {D : va_G} {ad : Nat → Nat → Nat} {aC : Nat → ClassId} {σ : gSig} {τ : gTau} {dd uu : Nat} {v1 : Int32} {PVx : Option Value → gSig → gTau → Prop} {PXx : String → gSig → gTau → Prop} (hM : CT l D ad aC yX5_verdict cX5_verdict 2 (some .int) dd uu [.ref (ad 0 0), .int v1] σ τ PVx PXx) (hV : ∀ r σ' τ', PVx r σ' τ' → ∃ x : Int32, r = some (.int x)) (hE : ∀ E σ' τ', PXx E σ' τ' → E ∈ [xIOB]) : CH l D ad aC yL_verdict cL_verdict 4 (some .int) hh_verdict (dd + 1) uu [.ref (ad 0 0), .int v1, .ref (ad 21 0)] σ τ (wrQ [xIOB] PVx PXx) := by
  refine CH.of (own := RL) (by decide +kernel) rfl (Nat.le_of_ble_eq_true rfl) (fun S CH0 => ?_)
  have C := CH0.cx
  refine r_aload_n C dL_verdict_0 rfl rfl ?_
  refine r_iconst (v := 0) C dL_verdict_1 rfl ?_
  refine r_aload_n C dL_verdict_2 rfl rfl ?_
  refine r_iload_n C dL_verdict_3 rfl rfl ?_
  refine r_callVX CH0 dL_verdict_4 hM rfl ⟨by decide, by decide⟩ rfl rfl kB_X5_verdict rfl kI_X5_verdict kV_X5_verdict kl_L_65 (by omega) (Nat.le_of_ble_eq_true rfl) (by omega) hdl_verdict hE (fun i E h9 q9 σ' τ' hc hh9 hp => match i, hc, hh9 with
    | 0, hc, hh9 => by
      cases hh9
      refine r_astore_n C dL_verdict_12 rfl (by decide) rfl ?_
      refine r_iconst (v := 1) C dL_verdict_13 rfl ?_
      exact r_iret C dL_verdict_14 rfl (by omega) (Or.inr ⟨E, 0, hc, hp, rfl⟩)
    | i + 1, hc, _ => by simp at hc) ?_
  intro r9 σ' τ' hpv
  obtain ⟨x, rfl⟩ := hV r9 σ' τ' hpv
  refine r_i2l C dL_verdict_7 ?_
  refine r_lastv C dL_verdict_8 ⟨by decide, by decide⟩ rfl (fun _ => rfl) (vp_in_nI (n := 0) (by decide) (by decide)) rfl ?_
  refine r_goto (tgt := 15) C dL_verdict_9 (by decide) ?_
  refine r_iconst (v := 0) C dL_verdict_15 rfl ?_
  exact r_iret C dL_verdict_16 rfl (by omega) (Or.inl ⟨x, τ', hpv, rfl, rfl⟩)
abbrev hh_failing : List (Nat × Nat × Nat × Nat) := [(0, 9, 12, 18)]
theorem kcw_failing : Cond.codeWith yL_failing cL_failing 4 (some .int) hh_failing ∈ wsG := wsG_of (by decide +kernel) (by decide +kernel)
theorem kst_failing : Cond.static yL_failing ∈ wsG := wsG_of (by decide +kernel) (by decide +kernel)
theorem hdl_failing : hdl RL hh_failing 4 [xIOB] := fun i E h => match i, h with
  | 0, h => by
    cases h
    exact ⟨[], ⟨0, 9, 12, 18⟩, [], (0, 9, 12, 18), rfl, by decide, by decide, kcl_xIOB, by decide +kernel, rfl, rfl, fun z hz => absurd hz List.not_mem_nil⟩
  | i + 1, h => by simp at h
set_option maxRecDepth 100000 in
set_option maxHeartbeats 4000000 in
theorem w_failing {l : Launch} {D : va_G} {ad : Nat → Nat → Nat} {aC : Nat → ClassId} {σ : gSig} {τ : gTau} {dd uu : Nat} {v1 : Int32} {PVx : Option Value → gSig → gTau → Prop} {PXx : String → gSig → gTau → Prop} (hM : CT l D ad aC yX5_failing cX5_failing 2 (some .int) dd uu [.ref (ad 0 0), .int v1] σ τ PVx PXx) (hV : ∀ r σ' τ', PVx r σ' τ' → ∃ x : Int32, r = some (.int x)) (hE : ∀ E σ' τ', PXx E σ' τ' → E ∈ [xIOB]) : CH l D ad aC yL_failing cL_failing 4 (some .int) hh_failing (dd + 1) uu [.ref (ad 0 0), .int v1, .ref (ad 21 0)] σ τ (wrQ [xIOB] PVx PXx) := by
  refine CH.of (own := RL) (by decide +kernel) rfl (Nat.le_of_ble_eq_true rfl) (fun S CH0 => ?_)
  have C := CH0.cx
  refine r_aload_n C dL_failing_0 rfl rfl ?_
  refine r_iconst (v := 0) C dL_failing_1 rfl ?_
  refine r_aload_n C dL_failing_2 rfl rfl ?_
  refine r_iload_n C dL_failing_3 rfl rfl ?_
  refine r_callVX CH0 dL_failing_4 hM rfl ⟨by decide, by decide⟩ rfl rfl kB_X5_failing rfl kI_X5_failing kV_X5_failing kl_L_68 (by omega) (Nat.le_of_ble_eq_true rfl) (by omega) hdl_failing hE (fun i E h9 q9 σ' τ' hc hh9 hp => match i, hc, hh9 with
    | 0, hc, hh9 => by
      cases hh9
      refine r_astore_n C dL_failing_12 rfl (by decide) rfl ?_
      refine r_iconst (v := 1) C dL_failing_13 rfl ?_
      exact r_iret C dL_failing_14 rfl (by omega) (Or.inr ⟨E, 0, hc, hp, rfl⟩)
    | i + 1, hc, _ => by simp at hc) ?_
  intro r9 σ' τ' hpv
  obtain ⟨x, rfl⟩ := hV r9 σ' τ' hpv
  refine r_i2l C dL_failing_7 ?_
  refine r_lastv C dL_failing_8 ⟨by decide, by decide⟩ rfl (fun _ => rfl) (vp_in_nI (n := 0) (by decide) (by decide)) rfl ?_
  refine r_goto (tgt := 15) C dL_failing_9 (by decide) ?_
  refine r_iconst (v := 0) C dL_failing_15 rfl ?_
  exact r_iret C dL_failing_16 rfl (by omega) (Or.inl ⟨x, τ', hpv, rfl, rfl⟩)
abbrev hh_example : List (Nat × Nat × Nat × Nat) := [(0, 10, 13, 18), (0, 10, 17, 74)]
theorem kcw_example : Cond.codeWith yL_example cL_example 5 (some .int) hh_example ∈ wsG := wsG_of (by decide +kernel) (by decide +kernel)
theorem kst_example : Cond.static yL_example ∈ wsG := wsG_of (by decide +kernel) (by decide +kernel)
theorem hdl_example : hdl RL hh_example 5 [xIOB, xNSE] := fun i E h => match i, h with
  | 0, h => by
    cases h
    exact ⟨[], ⟨0, 10, 13, 18⟩, [⟨0, 10, 17, 74⟩], (0, 10, 13, 18), rfl, by decide, by decide, kcl_xIOB, by decide +kernel, rfl, rfl, fun z hz => absurd hz List.not_mem_nil⟩
  | 1, h => by
    cases h
    exact ⟨[⟨0, 10, 13, 18⟩], ⟨0, 10, 17, 74⟩, [], (0, 10, 17, 74), rfl, by decide, by decide, kcl_xNSE, by decide +kernel, rfl, rfl, fun z hz => by
      simp only [List.mem_cons, List.not_mem_nil, or_false] at hz
      subst hz
      · exact ⟨by decide, xIOB, kcl_xIOB, by decide +kernel⟩⟩
  | i + 2, h => by simp at h
set_option maxRecDepth 100000 in
set_option maxHeartbeats 4000000 in
theorem w_example {l : Launch} {D : va_G} {ad : Nat → Nat → Nat} {aC : Nat → ClassId} {σ : gSig} {τ : gTau} {dd uu : Nat} {v1 v2 : Int32} {PVx : Option Value → gSig → gTau → Prop} {PXx : String → gSig → gTau → Prop} (hM : CT l D ad aC yX5_example cX5_example 3 (some .int) dd uu [.ref (ad 0 0), .int v1, .int v2] σ τ PVx PXx) (hV : ∀ r σ' τ', PVx r σ' τ' → ∃ x : Int32, r = some (.int x)) (hE : ∀ E σ' τ', PXx E σ' τ' → E ∈ [xIOB, xNSE]) : CH l D ad aC yL_example cL_example 5 (some .int) hh_example (dd + 1) uu [.ref (ad 0 0), .int v1, .int v2, .ref (ad 21 0)] σ τ (wrQ [xIOB, xNSE] PVx PXx) := by
  refine CH.of (own := RL) (by decide +kernel) rfl (Nat.le_of_ble_eq_true rfl) (fun S CH0 => ?_)
  have C := CH0.cx
  refine r_aload_n C dL_example_0 rfl rfl ?_
  refine r_iconst (v := 0) C dL_example_1 rfl ?_
  refine r_aload_n C dL_example_2 rfl rfl ?_
  refine r_iload_n C dL_example_3 rfl rfl ?_
  refine r_iload_n C dL_example_4 rfl rfl ?_
  refine r_callVX CH0 dL_example_5 hM rfl ⟨by decide, by decide⟩ rfl rfl kB_X5_example rfl kI_X5_example kV_X5_example kl_L_71 (by omega) (Nat.le_of_ble_eq_true rfl) (by omega) hdl_example hE (fun i E h9 q9 σ' τ' hc hh9 hp => match i, hc, hh9 with
    | 0, hc, hh9 => by
      cases hh9
      refine r_astore C dL_example_13 (by decide) rfl ?_
      refine r_iconst (v := 1) C dL_example_15 rfl ?_
      exact r_iret C dL_example_16 rfl (by omega) (Or.inr ⟨E, 0, hc, hp, rfl⟩)
    | 1, hc, hh9 => by
      cases hh9
      refine r_astore C dL_example_17 (by decide) rfl ?_
      refine r_iconst (v := 2) C dL_example_19 rfl ?_
      exact r_iret C dL_example_20 rfl (by omega) (Or.inr ⟨E, 1, hc, hp, rfl⟩)
    | i + 2, hc, _ => by simp at hc) ?_
  intro r9 σ' τ' hpv
  obtain ⟨x, rfl⟩ := hV r9 σ' τ' hpv
  refine r_i2l C dL_example_8 ?_
  refine r_lastv C dL_example_9 ⟨by decide, by decide⟩ rfl (fun _ => rfl) (vp_in_nI (n := 0) (by decide) (by decide)) rfl ?_
  refine r_goto (tgt := 21) C dL_example_10 (by decide) ?_
  refine r_iconst (v := 0) C dL_example_21 rfl ?_
  exact r_iret C dL_example_22 rfl (by omega) (Or.inl ⟨x, τ', hpv, rfl, rfl⟩)
abbrev hh_smaller : List (Nat × Nat × Nat × Nat) := [(0, 9, 12, 18)]
theorem kcw_smaller : Cond.codeWith yL_smaller cL_smaller 4 (some .int) hh_smaller ∈ wsG := wsG_of (by decide +kernel) (by decide +kernel)
theorem kst_smaller : Cond.static yL_smaller ∈ wsG := wsG_of (by decide +kernel) (by decide +kernel)
theorem hdl_smaller : hdl RL hh_smaller 4 [xIOB] := fun i E h => match i, h with
  | 0, h => by
    cases h
    exact ⟨[], ⟨0, 9, 12, 18⟩, [], (0, 9, 12, 18), rfl, by decide, by decide, kcl_xIOB, by decide +kernel, rfl, rfl, fun z hz => absurd hz List.not_mem_nil⟩
  | i + 1, h => by simp at h
set_option maxRecDepth 100000 in
set_option maxHeartbeats 4000000 in
theorem w_smaller {l : Launch} {D : va_G} {ad : Nat → Nat → Nat} {aC : Nat → ClassId} {σ : gSig} {τ : gTau} {dd uu : Nat} {v1 : Int32} {PVx : Option Value → gSig → gTau → Prop} {PXx : String → gSig → gTau → Prop} (hM : CT l D ad aC yX5_smaller cX5_smaller 2 (some .int) dd uu [.ref (ad 0 0), .int v1] σ τ PVx PXx) (hV : ∀ r σ' τ', PVx r σ' τ' → ∃ x : Int32, r = some (.int x)) (hE : ∀ E σ' τ', PXx E σ' τ' → E ∈ [xIOB]) : CH l D ad aC yL_smaller cL_smaller 4 (some .int) hh_smaller (dd + 1) uu [.ref (ad 0 0), .int v1, .ref (ad 21 0)] σ τ (wrQ [xIOB] PVx PXx) := by
  refine CH.of (own := RL) (by decide +kernel) rfl (Nat.le_of_ble_eq_true rfl) (fun S CH0 => ?_)
  have C := CH0.cx
  refine r_aload_n C dL_smaller_0 rfl rfl ?_
  refine r_iconst (v := 0) C dL_smaller_1 rfl ?_
  refine r_aload_n C dL_smaller_2 rfl rfl ?_
  refine r_iload_n C dL_smaller_3 rfl rfl ?_
  refine r_callVX CH0 dL_smaller_4 hM rfl ⟨by decide, by decide⟩ rfl rfl kB_X5_smaller rfl kI_X5_smaller kV_X5_smaller kl_L_76 (by omega) (Nat.le_of_ble_eq_true rfl) (by omega) hdl_smaller hE (fun i E h9 q9 σ' τ' hc hh9 hp => match i, hc, hh9 with
    | 0, hc, hh9 => by
      cases hh9
      refine r_astore_n C dL_smaller_12 rfl (by decide) rfl ?_
      refine r_iconst (v := 1) C dL_smaller_13 rfl ?_
      exact r_iret C dL_smaller_14 rfl (by omega) (Or.inr ⟨E, 0, hc, hp, rfl⟩)
    | i + 1, hc, _ => by simp at hc) ?_
  intro r9 σ' τ' hpv
  obtain ⟨x, rfl⟩ := hV r9 σ' τ' hpv
  refine r_i2l C dL_smaller_7 ?_
  refine r_lastv C dL_smaller_8 ⟨by decide, by decide⟩ rfl (fun _ => rfl) (vp_in_nI (n := 0) (by decide) (by decide)) rfl ?_
  refine r_goto (tgt := 15) C dL_smaller_9 (by decide) ?_
  refine r_iconst (v := 0) C dL_smaller_15 rfl ?_
  exact r_iret C dL_smaller_16 rfl (by omega) (Or.inl ⟨x, τ', hpv, rfl, rfl⟩)
abbrev hh_isLocked : List (Nat × Nat × Nat × Nat) := [(0, 16, 19, 18)]
theorem kcw_isLocked : Cond.codeWith yL_isLocked cL_isLocked 4 (some .int) hh_isLocked ∈ wsG := wsG_of (by decide +kernel) (by decide +kernel)
theorem kst_isLocked : Cond.static yL_isLocked ∈ wsG := wsG_of (by decide +kernel) (by decide +kernel)
theorem hdl_isLocked : hdl RL hh_isLocked 4 [xIOB] := fun i E h => match i, h with
  | 0, h => by
    cases h
    exact ⟨[], ⟨0, 16, 19, 18⟩, [], (0, 16, 19, 18), rfl, by decide, by decide, kcl_xIOB, by decide +kernel, rfl, rfl, fun z hz => absurd hz List.not_mem_nil⟩
  | i + 1, h => by simp at h
set_option maxRecDepth 100000 in
set_option maxHeartbeats 4000000 in
theorem w_isLocked {l : Launch} {D : va_G} {ad : Nat → Nat → Nat} {aC : Nat → ClassId} {σ : gSig} {τ : gTau} {dd uu : Nat} {v1 : Int32} {PVx : Option Value → gSig → gTau → Prop} {PXx : String → gSig → gTau → Prop} (hM : CT l D ad aC yX5_isLocked cX5_isLocked 2 (some .boolean) dd uu [.ref (ad 0 0), .int v1] σ τ PVx PXx) (hV : ∀ r σ' τ', PVx r σ' τ' → ∃ x : Int32, r = some (.int x)) (hE : ∀ E σ' τ', PXx E σ' τ' → E ∈ [xIOB]) : CH l D ad aC yL_isLocked cL_isLocked 4 (some .int) hh_isLocked (dd + 1) uu [.ref (ad 0 0), .int v1, .ref (ad 21 0)] σ τ (wrB [xIOB] PVx PXx) := by
  refine CH.of (own := RL) (by decide +kernel) rfl (Nat.le_of_ble_eq_true rfl) (fun S CH0 => ?_)
  have C := CH0.cx
  refine r_aload_n C dL_isLocked_0 rfl rfl ?_
  refine r_iconst (v := 0) C dL_isLocked_1 rfl ?_
  refine r_aload_n C dL_isLocked_2 rfl rfl ?_
  refine r_iload_n C dL_isLocked_3 rfl rfl ?_
  refine r_callVX CH0 dL_isLocked_4 hM rfl ⟨by decide, by decide⟩ rfl rfl kB_X5_isLocked rfl kI_X5_isLocked kV_X5_isLocked kl_L_79 (by omega) (Nat.le_of_ble_eq_true rfl) (by omega) hdl_isLocked hE (fun i E h9 q9 σ' τ' hc hh9 hp => match i, hc, hh9 with
    | 0, hc, hh9 => by
      cases hh9
      refine r_astore_n C dL_isLocked_19 rfl (by decide) rfl ?_
      refine r_iconst (v := 1) C dL_isLocked_20 rfl ?_
      exact r_iret C dL_isLocked_21 rfl (by omega) (Or.inr ⟨E, 0, hc, hp, rfl⟩)
    | i + 1, hc, _ => by simp at hc) ?_
  intro r9 σ' τ' hpv
  obtain ⟨x, rfl⟩ := hV r9 σ' τ' hpv
  refine r_ifeq (tgt := 14) C dL_isLocked_7 (by decide) (fun c7 => ?_) (fun c7 => ?_)
  · refine r_lconst (v := 0) C dL_isLocked_14 rfl ?_
    refine r_lastv C dL_isLocked_15 ⟨by decide, by decide⟩ rfl (fun _ => rfl) (vp_in_nI (n := 0) (by decide) (by decide)) rfl ?_
    refine r_goto (tgt := 22) C dL_isLocked_16 (by decide) ?_
    refine r_iconst (v := 0) C dL_isLocked_22 rfl ?_
    exact r_iret C dL_isLocked_23 rfl (by omega) (Or.inl ⟨x, τ', hpv, rfl, by rw [if_pos c7]; rfl⟩)
  · refine r_lconst (v := 1) C dL_isLocked_10 rfl ?_
    refine r_goto (tgt := 15) C dL_isLocked_11 (by decide) ?_
    refine r_lastv C dL_isLocked_15 ⟨by decide, by decide⟩ rfl (fun _ => rfl) (vp_in_nI (n := 0) (by decide) (by decide)) rfl ?_
    refine r_goto (tgt := 22) C dL_isLocked_16 (by decide) ?_
    refine r_iconst (v := 0) C dL_isLocked_22 rfl ?_
    exact r_iret C dL_isLocked_23 rfl (by omega) (Or.inl ⟨x, τ', hpv, rfl, by rw [if_neg c7]; rfl⟩)
abbrev hh_isLockedByWays : List (Nat × Nat × Nat × Nat) := [(0, 16, 19, 18)]
theorem kcw_isLockedByWays : Cond.codeWith yL_isLockedByWays cL_isLockedByWays 4 (some .int) hh_isLockedByWays ∈ wsG := wsG_of (by decide +kernel) (by decide +kernel)
theorem kst_isLockedByWays : Cond.static yL_isLockedByWays ∈ wsG := wsG_of (by decide +kernel) (by decide +kernel)
theorem hdl_isLockedByWays : hdl RL hh_isLockedByWays 4 [xIOB] := fun i E h => match i, h with
  | 0, h => by
    cases h
    exact ⟨[], ⟨0, 16, 19, 18⟩, [], (0, 16, 19, 18), rfl, by decide, by decide, kcl_xIOB, by decide +kernel, rfl, rfl, fun z hz => absurd hz List.not_mem_nil⟩
  | i + 1, h => by simp at h
set_option maxRecDepth 100000 in
set_option maxHeartbeats 4000000 in
theorem w_isLockedByWays {l : Launch} {D : va_G} {ad : Nat → Nat → Nat} {aC : Nat → ClassId} {σ : gSig} {τ : gTau} {dd uu : Nat} {v1 : Int32} {PVx : Option Value → gSig → gTau → Prop} {PXx : String → gSig → gTau → Prop} (hM : CT l D ad aC yX5_isLockedByWays cX5_isLockedByWays 2 (some .boolean) dd uu [.ref (ad 0 0), .int v1] σ τ PVx PXx) (hV : ∀ r σ' τ', PVx r σ' τ' → ∃ x : Int32, r = some (.int x)) (hE : ∀ E σ' τ', PXx E σ' τ' → E ∈ [xIOB]) : CH l D ad aC yL_isLockedByWays cL_isLockedByWays 4 (some .int) hh_isLockedByWays (dd + 1) uu [.ref (ad 0 0), .int v1, .ref (ad 21 0)] σ τ (wrB [xIOB] PVx PXx) := by
  refine CH.of (own := RL) (by decide +kernel) rfl (Nat.le_of_ble_eq_true rfl) (fun S CH0 => ?_)
  have C := CH0.cx
  refine r_aload_n C dL_isLockedByWays_0 rfl rfl ?_
  refine r_iconst (v := 0) C dL_isLockedByWays_1 rfl ?_
  refine r_aload_n C dL_isLockedByWays_2 rfl rfl ?_
  refine r_iload_n C dL_isLockedByWays_3 rfl rfl ?_
  refine r_callVX CH0 dL_isLockedByWays_4 hM rfl ⟨by decide, by decide⟩ rfl rfl kB_X5_isLockedByWays rfl kI_X5_isLockedByWays kV_X5_isLockedByWays kl_L_83 (by omega) (Nat.le_of_ble_eq_true rfl) (by omega) hdl_isLockedByWays hE (fun i E h9 q9 σ' τ' hc hh9 hp => match i, hc, hh9 with
    | 0, hc, hh9 => by
      cases hh9
      refine r_astore_n C dL_isLockedByWays_19 rfl (by decide) rfl ?_
      refine r_iconst (v := 1) C dL_isLockedByWays_20 rfl ?_
      exact r_iret C dL_isLockedByWays_21 rfl (by omega) (Or.inr ⟨E, 0, hc, hp, rfl⟩)
    | i + 1, hc, _ => by simp at hc) ?_
  intro r9 σ' τ' hpv
  obtain ⟨x, rfl⟩ := hV r9 σ' τ' hpv
  refine r_ifeq (tgt := 14) C dL_isLockedByWays_7 (by decide) (fun c7 => ?_) (fun c7 => ?_)
  · refine r_lconst (v := 0) C dL_isLockedByWays_14 rfl ?_
    refine r_lastv C dL_isLockedByWays_15 ⟨by decide, by decide⟩ rfl (fun _ => rfl) (vp_in_nI (n := 0) (by decide) (by decide)) rfl ?_
    refine r_goto (tgt := 22) C dL_isLockedByWays_16 (by decide) ?_
    refine r_iconst (v := 0) C dL_isLockedByWays_22 rfl ?_
    exact r_iret C dL_isLockedByWays_23 rfl (by omega) (Or.inl ⟨x, τ', hpv, rfl, by rw [if_pos c7]; rfl⟩)
  · refine r_lconst (v := 1) C dL_isLockedByWays_10 rfl ?_
    refine r_goto (tgt := 15) C dL_isLockedByWays_11 (by decide) ?_
    refine r_lastv C dL_isLockedByWays_15 ⟨by decide, by decide⟩ rfl (fun _ => rfl) (vp_in_nI (n := 0) (by decide) (by decide)) rfl ?_
    refine r_goto (tgt := 22) C dL_isLockedByWays_16 (by decide) ?_
    refine r_iconst (v := 0) C dL_isLockedByWays_22 rfl ?_
    exact r_iret C dL_isLockedByWays_23 rfl (by omega) (Or.inl ⟨x, τ', hpv, rfl, by rw [if_neg c7]; rfl⟩)
abbrev hh_isMarked : List (Nat × Nat × Nat × Nat) := [(0, 16, 19, 18)]
theorem kcw_isMarked : Cond.codeWith yL_isMarked cL_isMarked 4 (some .int) hh_isMarked ∈ wsG := wsG_of (by decide +kernel) (by decide +kernel)
theorem kst_isMarked : Cond.static yL_isMarked ∈ wsG := wsG_of (by decide +kernel) (by decide +kernel)
theorem hdl_isMarked : hdl RL hh_isMarked 4 [xIOB] := fun i E h => match i, h with
  | 0, h => by
    cases h
    exact ⟨[], ⟨0, 16, 19, 18⟩, [], (0, 16, 19, 18), rfl, by decide, by decide, kcl_xIOB, by decide +kernel, rfl, rfl, fun z hz => absurd hz List.not_mem_nil⟩
  | i + 1, h => by simp at h
set_option maxRecDepth 100000 in
set_option maxHeartbeats 4000000 in
theorem w_isMarked {l : Launch} {D : va_G} {ad : Nat → Nat → Nat} {aC : Nat → ClassId} {σ : gSig} {τ : gTau} {dd uu : Nat} {v1 : Int32} {PVx : Option Value → gSig → gTau → Prop} {PXx : String → gSig → gTau → Prop} (hM : CT l D ad aC yX5_isMarked cX5_isMarked 2 (some .boolean) dd uu [.ref (ad 0 0), .int v1] σ τ PVx PXx) (hV : ∀ r σ' τ', PVx r σ' τ' → ∃ x : Int32, r = some (.int x)) (hE : ∀ E σ' τ', PXx E σ' τ' → E ∈ [xIOB]) : CH l D ad aC yL_isMarked cL_isMarked 4 (some .int) hh_isMarked (dd + 1) uu [.ref (ad 0 0), .int v1, .ref (ad 21 0)] σ τ (wrB [xIOB] PVx PXx) := by
  refine CH.of (own := RL) (by decide +kernel) rfl (Nat.le_of_ble_eq_true rfl) (fun S CH0 => ?_)
  have C := CH0.cx
  refine r_aload_n C dL_isMarked_0 rfl rfl ?_
  refine r_iconst (v := 0) C dL_isMarked_1 rfl ?_
  refine r_aload_n C dL_isMarked_2 rfl rfl ?_
  refine r_iload_n C dL_isMarked_3 rfl rfl ?_
  refine r_callVX CH0 dL_isMarked_4 hM rfl ⟨by decide, by decide⟩ rfl rfl kB_X5_isMarked rfl kI_X5_isMarked kV_X5_isMarked kl_L_86 (by omega) (Nat.le_of_ble_eq_true rfl) (by omega) hdl_isMarked hE (fun i E h9 q9 σ' τ' hc hh9 hp => match i, hc, hh9 with
    | 0, hc, hh9 => by
      cases hh9
      refine r_astore_n C dL_isMarked_19 rfl (by decide) rfl ?_
      refine r_iconst (v := 1) C dL_isMarked_20 rfl ?_
      exact r_iret C dL_isMarked_21 rfl (by omega) (Or.inr ⟨E, 0, hc, hp, rfl⟩)
    | i + 1, hc, _ => by simp at hc) ?_
  intro r9 σ' τ' hpv
  obtain ⟨x, rfl⟩ := hV r9 σ' τ' hpv
  refine r_ifeq (tgt := 14) C dL_isMarked_7 (by decide) (fun c7 => ?_) (fun c7 => ?_)
  · refine r_lconst (v := 0) C dL_isMarked_14 rfl ?_
    refine r_lastv C dL_isMarked_15 ⟨by decide, by decide⟩ rfl (fun _ => rfl) (vp_in_nI (n := 0) (by decide) (by decide)) rfl ?_
    refine r_goto (tgt := 22) C dL_isMarked_16 (by decide) ?_
    refine r_iconst (v := 0) C dL_isMarked_22 rfl ?_
    exact r_iret C dL_isMarked_23 rfl (by omega) (Or.inl ⟨x, τ', hpv, rfl, by rw [if_pos c7]; rfl⟩)
  · refine r_lconst (v := 1) C dL_isMarked_10 rfl ?_
    refine r_goto (tgt := 15) C dL_isMarked_11 (by decide) ?_
    refine r_lastv C dL_isMarked_15 ⟨by decide, by decide⟩ rfl (fun _ => rfl) (vp_in_nI (n := 0) (by decide) (by decide)) rfl ?_
    refine r_goto (tgt := 22) C dL_isMarked_16 (by decide) ?_
    refine r_iconst (v := 0) C dL_isMarked_22 rfl ?_
    exact r_iret C dL_isMarked_23 rfl (by omega) (Or.inl ⟨x, τ', hpv, rfl, by rw [if_neg c7]; rfl⟩)
abbrev hh_unlockedAt : List (Nat × Nat × Nat × Nat) := [(0, 9, 12, 18)]
theorem kcw_unlockedAt : Cond.codeWith yL_unlockedAt cL_unlockedAt 4 (some .int) hh_unlockedAt ∈ wsG := wsG_of (by decide +kernel) (by decide +kernel)
theorem kst_unlockedAt : Cond.static yL_unlockedAt ∈ wsG := wsG_of (by decide +kernel) (by decide +kernel)
theorem hdl_unlockedAt : hdl RL hh_unlockedAt 4 [xIOB] := fun i E h => match i, h with
  | 0, h => by
    cases h
    exact ⟨[], ⟨0, 9, 12, 18⟩, [], (0, 9, 12, 18), rfl, by decide, by decide, kcl_xIOB, by decide +kernel, rfl, rfl, fun z hz => absurd hz List.not_mem_nil⟩
  | i + 1, h => by simp at h
set_option maxRecDepth 100000 in
set_option maxHeartbeats 4000000 in
theorem w_unlockedAt {l : Launch} {D : va_G} {ad : Nat → Nat → Nat} {aC : Nat → ClassId} {σ : gSig} {τ : gTau} {dd uu : Nat} {v1 : Int32} {PVx : Option Value → gSig → gTau → Prop} {PXx : String → gSig → gTau → Prop} (hM : CT l D ad aC yX5_unlockedAt cX5_unlockedAt 2 (some .int) dd uu [.ref (ad 0 0), .int v1] σ τ PVx PXx) (hV : ∀ r σ' τ', PVx r σ' τ' → ∃ x : Int32, r = some (.int x)) (hE : ∀ E σ' τ', PXx E σ' τ' → E ∈ [xIOB]) : CH l D ad aC yL_unlockedAt cL_unlockedAt 4 (some .int) hh_unlockedAt (dd + 1) uu [.ref (ad 0 0), .int v1, .ref (ad 21 0)] σ τ (wrQ [xIOB] PVx PXx) := by
  refine CH.of (own := RL) (by decide +kernel) rfl (Nat.le_of_ble_eq_true rfl) (fun S CH0 => ?_)
  have C := CH0.cx
  refine r_aload_n C dL_unlockedAt_0 rfl rfl ?_
  refine r_iconst (v := 0) C dL_unlockedAt_1 rfl ?_
  refine r_aload_n C dL_unlockedAt_2 rfl rfl ?_
  refine r_iload_n C dL_unlockedAt_3 rfl rfl ?_
  refine r_callVX CH0 dL_unlockedAt_4 hM rfl ⟨by decide, by decide⟩ rfl rfl kB_X5_unlockedAt rfl kI_X5_unlockedAt kV_X5_unlockedAt kl_L_89 (by omega) (Nat.le_of_ble_eq_true rfl) (by omega) hdl_unlockedAt hE (fun i E h9 q9 σ' τ' hc hh9 hp => match i, hc, hh9 with
    | 0, hc, hh9 => by
      cases hh9
      refine r_astore_n C dL_unlockedAt_12 rfl (by decide) rfl ?_
      refine r_iconst (v := 1) C dL_unlockedAt_13 rfl ?_
      exact r_iret C dL_unlockedAt_14 rfl (by omega) (Or.inr ⟨E, 0, hc, hp, rfl⟩)
    | i + 1, hc, _ => by simp at hc) ?_
  intro r9 σ' τ' hpv
  obtain ⟨x, rfl⟩ := hV r9 σ' τ' hpv
  refine r_i2l C dL_unlockedAt_7 ?_
  refine r_lastv C dL_unlockedAt_8 ⟨by decide, by decide⟩ rfl (fun _ => rfl) (vp_in_nI (n := 0) (by decide) (by decide)) rfl ?_
  refine r_goto (tgt := 15) C dL_unlockedAt_9 (by decide) ?_
  refine r_iconst (v := 0) C dL_unlockedAt_15 rfl ?_
  exact r_iret C dL_unlockedAt_16 rfl (by omega) (Or.inl ⟨x, τ', hpv, rfl, rfl⟩)
