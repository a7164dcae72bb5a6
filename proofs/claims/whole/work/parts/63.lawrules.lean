/-! ===== the law: what stands around its walk, its own rules: printed by g63.py ===== -/
def Lx (l : Launch) (D : va_G) (ad : Nat → Nat → Nat) (aC : Nat → ClassId) (cc : ByteArray) (own : String) (nL : Nat) (rt : Option FieldType) (d u b Ls : Nat) (xs : Nat → Int32) (PV : Option Value → gSig → gTau → Prop) (S : gS) : Prop :=
  ∃ (p : Program) (e : Env) (s : State) (m : MethodId) (args : Array Value) (below : List Frame) (meth : Method) (c : Code) (Q : State → Prop),
    p.tables.exec = Jvm.exec ∧ c.code = cc ∧ c.maxLocals = nL ∧ s.vm.findClass own = some m.cls ∧ (∀ w ∈ wsG, w.before args s = true) ∧ meth.sig.returnType = rt ∧ meth.locks = false ∧ va_K D gcl (gty aC) s ∧ Nx s ∧ gInj ad ∧
    (∀ t, MQ below (QcZ D ad aC s.heap.size PV) args s u (6 * u) (gA ad s.heap.size) t → Q t) ∧
    l.stackTraces = false ∧ Sx (gA ad s.heap.size) s ∧ Ex s ∧ va_X b Ls xs s s.heap ∧ b < s.heap.size ∧ ¬ gA ad s.heap.size b ∧
    S = SW p l e (rmz d u) s m args below meth c Q D ad aC nL
section LRULES
variable {l : Launch} {D : va_G} {ad : Nat → Nat → Nat} {aC : Nat → ClassId} {cc : ByteArray} {own : String} {nL : Nat} {rt : Option FieldType} {d u b Ls : Nat} {xs : Nat → Int32} {PV : Option Value → gSig → gTau → Prop} {S : gS}
variable {n : Nat} {σ : gSig} {τ : gTau} {pc : Nat} {L : gLoc} {st st0 As rest : List Value}
variable {y : MethodName} {bytes : ByteArray} {nL' : Nat} {ret : Option FieldType} {hh : List (Nat × Nat × Nat × Nat)} {d' u' index : Nat} {PV' : Option Value → gSig → gTau → Prop}
theorem Lx.cx (C : Lx l D ad aC cc own nL rt d u b Ls xs PV S) : Cx l D ad aC cc own nL rt d u False PV (fun _ _ _ => False) S := by
  obtain ⟨p, e, s, m, args, below, meth, c, Q, hx, hb, hml, hown, hts, hr, hlk, hK, hN, hI, hQ, hst, hsx, hex, hX, hbl, hbA, rfl⟩ := C
  exact ⟨p, e, s, m, args, below, meth, c, Q, hx, hb, hml, hown, hts, hr, hlk, hK, hN, hI, hQ, fun h => h.elim, rfl⟩
theorem r_sld (C : Lx l D ad aC cc own nL rt d u b Ls xs PV S) {i j : Nat} (hj : i + j < Ls) (hL : Ls < 2 ^ 31) (hd : decode cc pc = .ok (.iaload, 1)) (k : S n σ τ (pc + 1) L (.int (xs (i + j)) :: st)) : S n σ τ pc L (.int (nI i + nI j) :: .ref b :: st) := by
  obtain ⟨p, e, s, m, args, below, meth, c, Q, hx, hb, hml, hown, hts, hr, hlk, hK, hN, hI, hQ, hst, hsx, hex, hX, hbl, hbA, rfl⟩ := C
  intro H locs ls hP hS hl
  rw [nI_add]
  refine va_sld hx hb hX hbl hbA hS (vp_in_nI hj hL) hd ?_
  rw [nI_clamp (by omega)]
  exact k H locs ls hP hS hl
theorem r_sld0 (C : Lx l D ad aC cc own nL rt d u b Ls xs PV S) {i : Nat} (hj : i < Ls) (hL : Ls < 2 ^ 31) (hd : decode cc pc = .ok (.iaload, 1)) (k : S n σ τ (pc + 1) L (.int (xs i) :: st)) : S n σ τ pc L (.int (nI i) :: .ref b :: st) := by
  obtain ⟨p, e, s, m, args, below, meth, c, Q, hx, hb, hml, hown, hts, hr, hlk, hK, hN, hI, hQ, hst, hsx, hex, hX, hbl, hbA, rfl⟩ := C
  intro H locs ls hP hS hl
  refine va_sld hx hb hX hbl hbA hS (vp_in_nI hj hL) hd ?_
  rw [nI_clamp (by omega)]
  exact k H locs ls hP hS hl
theorem r_slen (C : Lx l D ad aC cc own nL rt d u b Ls xs PV S) (hd : decode cc pc = .ok (.arraylength, 1)) (k : S n σ τ (pc + 1) L (.int (nI Ls) :: st)) : S n σ τ pc L (.ref b :: st) := by
  obtain ⟨p, e, s, m, args, below, meth, c, Q, hx, hb, hml, hown, hts, hr, hlk, hK, hN, hI, hQ, hst, hsx, hex, hX, hbl, hbA, rfl⟩ := C
  intro H locs ls hP hS hl
  exact va_slen hx hb hX hbl hbA hS hd (k H locs ls hP hS hl)
/-- a wrapper called -/
theorem r_callH (C : Lx l D ad aC cc own nL rt d u b Ls xs PV S) (hd : decode cc pc = .ok (.invokestatic index, 3)) (hM : CH l D ad aC y bytes nL' ret hh d' u' As σ τ PV') (hst0 : st0 = As.reverse ++ rest) (hw : Cond.codeWith y bytes nL' ret hh ∈ wsG) (hini : Cond.initialized y.cls ∈ wsG) (hcls : y.cls ≠ "java/lang/invoke/MethodHandle" ∧ y.cls ≠ "java/lang/invoke/VarHandle") (hna : (parseMethodDescriptor y.desc).map (fun d => d.parameters.length) = some As.length) (hnl : nL' ≤ 40) (hs : Cond.static y ∈ wsG) (hl : Cond.methodLink own index y ∈ wsG) (hdd : d' + 1 ≤ d) (hcat : (rest.map fun v => v.category).sum ≤ 8) (hn : n + u' ≤ u)
    (k : ∀ (r : Option Value) (σ' : gSig) (τ' : gTau), PV' r σ' τ' → S (n + u') σ' τ' (pc + 3) L (r.toList ++ rest)) : S n σ τ pc L st0 := by
  obtain ⟨p, e, s, m, args, below, meth, c, Q, hx, hb, hml, hown, hts, hr, hlk, hK, hN, hI, hQ, htr, hsx, hex, hX, hbl, hbA, rfl⟩ := C
  intro H locs ls hP hS hl2
  have h6 : 6 * n + 6 * u' = 6 * (n + u') := (Nat.mul_add 6 n u').symm
  have h7 : 6 * n + 6 * u' ≤ 6 * u := by rw [h6]; exact Nat.mul_le_mul_left 6 hn
  have hlen : ∀ sig, parseMethodDescriptor y.desc = some sig → As.length = sig.parameters.length := fun sig hs => by
    rw [hs] at hna
    exact (Option.some.inj hna).symm
  have hG : GoodIn wsG (Cond.codeWith y bytes nL' ret hh :: wsG) := fun w h => (List.mem_cons.mp h).elim (fun e9 => e9 ▸ wsG_goodIn _ hw) (fun h => wsG_goodIn _ h)
  refine g_callX (PX := fun _ _ _ => False) (mc := u') (ms := 6 * u') (vx_runSX (As := As) (rest := rest) ⟨hx, hb, hml, hown, hts⟩ (hM hI htr H.size) ⟨⟨rfl, rfl, (rmz_ok (u := u) (u' := u') hdd hnl).1, (rmz_ok (u := u) (u' := u') hdd hnl).2, pay_in hts hG, List.mem_cons_self⟩, hts _ hw, hts _ hini, hcls, hlen, hts _ hl, hts _ hs⟩ ⟨blindH, fun U hU hW => ⟨rfl, ⟨by rw [hU], ⟨by rw [hU]; exact hP, va_K.moved hW.alike hK⟩, hN.warm hW⟩, hsx.narrow (fun q hq => gA_sub hS.1 hq) (fun q h1 h2 => by rw [hU]; exact hS.2.1 q h1 h2) hW, hex.moved hW.alike⟩⟩ rfl rfl hl2.1 hst0 (lv_room hcat) hd ⟨hn, h7⟩) hS ?_ ?_
  · intro E ce q9 σ' τ' H1 locs1 hp
    exact hp.elim
  · intro r σ' τ' H1 locs1 hp hP1 hS1
    have hk := k r σ' τ' hp H1 locs1 ls hP1 hS1 hl2
    rw [h6]
    exact hk
end LRULES
theorem wrQ_int {cs : List String} {PVx : Option Value → gSig → gTau → Prop} {PXx : String → gSig → gTau → Prop} {r : Option Value} {σ : gSig} {τ : gTau} (h : wrQ cs PVx PXx r σ τ) : ∃ k : Int32, r = some (.int k) := by
  rcases h with ⟨x, t, -, h, -⟩ | ⟨E, i, -, -, h⟩
  · exact ⟨_, h.symm⟩
  · exact ⟨_, h.symm⟩
theorem wrB_int {cs : List String} {PVx : Option Value → gSig → gTau → Prop} {PXx : String → gSig → gTau → Prop} {r : Option Value} {σ : gSig} {τ : gTau} (h : wrB cs PVx PXx r σ τ) : ∃ k : Int32, r = some (.int k) := by
  rcases h with ⟨x, t, -, h, -⟩ | ⟨E, i, -, -, h⟩
  · exact ⟨_, h.symm⟩
  · exact ⟨_, h.symm⟩
theorem at_int {σ σ' : gSig} {τ τ' : gTau} {o : Nat → Nat} {c q sd R : Nat} {r : Option Value} (h : atQ σ τ o c q sd R r σ' τ') : ∃ k : Int32, r = some (.int k) := by
  obtain ⟨σ1, hrun, -⟩ := h
  rcases hrun with ⟨s4, t8, bk, -, h, -⟩ | ⟨a, p, s4, t8, -, -, -, -, -, h, -⟩
  · exact ⟨_, h.symm⟩
  · exact ⟨_, h.symm⟩
theorem at_20 {σ σ' : gSig} {τ τ' : gTau} {o : Nat → Nat} {c q sd R : Nat} {r : Option Value} (h : atQ σ τ o c q sd R r σ' τ') : σ' 19 = σ 19 ∧ σ' 20 = σ 20 := by
  obtain ⟨σ1, hrun, h1, h2⟩ := h
  have e1 : σ1 19 = σ 19 ∧ σ1 20 = σ 20 := by
    rcases hrun with ⟨s4, t8, bk, -, -, rfl, -⟩ | ⟨a, p, s4, t8, -, -, -, -, -, -, rfl, -⟩
    · exact ⟨rfl, rfl⟩
    · exact ⟨rfl, rfl⟩
  rcases Classical.em (bt (σ 13 0 6) c = true ∧ r = some (.int (-1))) with hc | hc
  · obtain ⟨g, rfl, -⟩ := h1 hc
    exact e1
  · rw [← h2 hc]; exact e1
theorem rel_rgM {σ : gSig} (h : rSh σ) : rgK (mIn σ) (σ 20 5) (σ 20 6) := fun c hc hi => by
  obtain ⟨e1, e5, e6, -⟩ := h.2.2.2 c hc
  rw [← e5, ← e6]
  exact h.2.2.1 c hc (e1.trans hi)
