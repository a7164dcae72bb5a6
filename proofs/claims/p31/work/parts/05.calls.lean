/-! ===== contracts out of walks, and calls of what has a contract ===== -/
/-- what the tables say of a method that is called -/
def BOK (y : MethodName) (bytes : ByteArray) (nL : Nat) (ret : Option FieldType) (a : Nat) : Prop :=
  Cond.code y bytes nL ret ∈ wsG ∧ Cond.initialized y.cls ∈ wsG ∧ (y.cls ≠ "java/lang/invoke/MethodHandle" ∧ y.cls ≠ "java/lang/invoke/VarHandle") ∧ (parseMethodDescriptor y.desc).map (fun d => d.parameters.length) = some a ∧ nL ≤ 13
theorem BOK.len {y : MethodName} {bytes : ByteArray} {nL : Nat} {ret : Option FieldType} {a : Nat} (h : BOK y bytes nL ret a) : ∀ sig, parseMethodDescriptor y.desc = some sig → a = sig.parameters.length := fun sig hs => by
  have h2 := h.2.2.2.1
  rw [hs] at h2
  exact (Option.some.inj h2).symm
theorem BOK.pay {y : MethodName} {bytes : ByteArray} {nL : Nat} {ret : Option FieldType} {a : Nat} (h : BOK y bytes nL ret a) {args : Array Value} {s : State} (hts : ∀ w ∈ wsG, w.before args s = true) : ∀ w ∈ gws y bytes nL ret, ∀ (a' : Array Value) (U : State), s.WarmedH U.vm → w.before a' U = true := pay_in hts (gws_good h.1)
theorem rmz_ok {d d' nL u u' : Nat} (h : d' + 1 ≤ d) (h2 : nL ≤ 13) : (rmz d' u').frames + 1 ≤ (rmz d u).frames ∧ 8 + (nL + 11) + (rmz d' u').locals ≤ (rmz d u).locals := by
  refine ⟨h, ?_⟩
  show 8 + (nL + 11) + 32 * d' ≤ 32 * d
  omega
theorem BOK.callB {y : MethodName} {bytes : ByteArray} {nL : Nat} {ret : Option FieldType} {a : Nat} (h : BOK y bytes nL ret a) {args : Array Value} {s : State} (hts : ∀ w ∈ wsG, w.before args s = true) {own : String} {index d d' u u' : Nat} (hl : Cond.methodLink own index y ∈ wsG) (hd : d' + 1 ≤ d) :
    CallB (rmz d u) s args own index y bytes nL ret (gws y bytes nL ret) (rmz d' u') u' (6 * u') a :=
  ⟨rfl, rfl, (rmz_ok hd h.2.2.2.2).1, (rmz_ok (u := u) (u' := u') hd h.2.2.2.2).2, h.pay hts, List.mem_cons_self, hts _ h.1, hts _ h.2.1, h.2.2.1, h.len, hts _ hl⟩
theorem BOK.callN {y : MethodName} {bytes : ByteArray} {nL : Nat} {ret : Option FieldType} {a : Nat} (h : BOK y bytes nL ret a) {args : Array Value} {s : State} (hts : ∀ w ∈ wsG, w.before args s = true) (hN : Nx s) {own host : String} {index d d' u u' : Nat} (hl : Cond.methodLinkNest own index y host ∈ gNw) (hd : d' + 1 ≤ d) :
    va_CN (rmz d u) s args own index y host bytes nL ret (gws y bytes nL ret) (rmz d' u') u' (6 * u') a :=
  ⟨⟨rfl, rfl, (rmz_ok hd h.2.2.2.2).1, (rmz_ok (u := u) (u' := u') hd h.2.2.2.2).2, h.pay hts, List.mem_cons_self⟩, hts _ h.1, hts _ h.2.1, h.2.2.1, h.len, hN.use hl⟩
theorem blindZ {av : List Value} {D : va_G} {ad : Nat → Nat → Nat} {aC : Nat → ClassId} {σ : gSig} {τ : gTau} {sz : Nat} : FrameBlind (va_Pc av (PreZ D ad aC σ τ sz)) := fun a U g mk q => by
  obtain ⟨q0, q1, ⟨qP, qK⟩, qN⟩ := q
  exact ⟨q0, q1, ⟨qP, va_K.moved (u := U) (U := U.calling g mk a) (Vm.Alike.refl U.vm) qK⟩, qN.same (u := U) (U := U.calling g mk a) rfl⟩
theorem blindT {av : List Value} {D : va_G} {ad : Nat → Nat → Nat} {aC : Nat → ClassId} {σ : gSig} {τ : gTau} {sz : Nat} {A : Nat → Prop} : FrameBlind (va_Pc av (fun U => PreZ D ad aC σ τ sz U ∧ Sx A U)) := fun a U g mk q => by
  obtain ⟨q0, ⟨q1, ⟨qP, qK⟩, qN⟩, s1, s2, s3⟩ := q
  exact ⟨q0, ⟨q1, ⟨qP, va_K.moved (u := U) (U := U.calling g mk a) (Vm.Alike.refl U.vm) qK⟩, qN.same (u := U) (U := U.calling g mk a) rfl⟩, vx_Zq.moved (u := U) (U := U.calling g mk a) (Vm.Alike.refl U.vm) s1, vx_Zq.moved (u := U) (U := U.calling g mk a) (Vm.Alike.refl U.vm) s2, fun x hx => by
    obtain ⟨sa, hs⟩ := s3 x hx
    exact ⟨sa, hs.same (u := U) (U := U.calling g mk a) rfl⟩⟩
section GCALLS
variable {p : Program} {l : Launch} {e : Env} {R : Room} {s : State} {m : MethodId} {args : Array Value} {below : List Frame} {meth : Method} {c : Code} {H : Heap} {locs : List Loc} {cells slots : Nat} {Q : State → Prop}
variable {D : va_G} {ad : Nat → Nat → Nat} {aC : Nat → ClassId} {pc mc ms : Nat} {ls : Array Slot} {rest st0 : List Value} {a : Array Value} {PV : Option Value → gSig → gTau → Prop} {PX : String → gSig → gTau → Prop}
theorem vx_Wimp {Q' : State → Prop} {g : JFrame} {q : Addr} (h : ∀ t, Q t → Q' t) (k : vx_W p l e R s m args below meth c H locs cells slots Q g q) : vx_W p l e R s m args below meth c H locs cells slots Q' g q := fun T hT X => by
  obtain ⟨t, a1, b⟩ := k T hT X
  exact ⟨t, a1, h t b⟩
theorem g_S {H1 : Heap} {L : List Loc} (hS : va_S (gA ad s.heap.size) s.heap H locs) (hF1 : H.size ≤ H1.size) (hF2 : ∀ q : Nat, q < H.size → ¬ gA ad H.size q → H1[q]? = H[q]?) (hL : ∀ q ∈ L, gA ad H.size q.base) : va_S (gA ad s.heap.size) s.heap H1 (locs ++ L) :=
  ⟨Nat.le_trans hS.1 hF1, fun q h1 h2 => by
    rw [hF2 q (Nat.lt_of_lt_of_le h1 hS.1) (fun z => h2 (gA_sub hS.1 z))]
    exact hS.2.1 q h1 h2, fun q hq => by
      rcases List.mem_append.mp hq with h | h
      · exact hS.2.2 q h
      · exact gA_sub hS.1 (hL q h)⟩
theorem g_call (hr : va_Run p l e R s m args below meth c H locs cells slots mc ms (F0 m pc ls st0) rest (QcZ D ad aC H.size PV a) (gA ad H.size)) (hS : va_S (gA ad s.heap.size) s.heap H locs)
    (kk : ∀ (r : Option Value) (σ' : gSig) (τ' : gTau) (H1 : Heap) (locs1 : List Loc), PV r σ' τ' → va_P D gcl (Wd ad aC σ' τ') H1 → va_S (gA ad s.heap.size) s.heap H1 locs1 → W p l e R s m args below meth c H1 locs1 (cells + mc) (slots + ms) Q (F0 m (pc + 3) ls (r.toList ++ rest))) : W p l e R s m args below meth c H locs cells slots Q (F0 m pc ls st0) := by
  intro T hT X
  obtain ⟨v, st₀, t, T', L, h0, X', hL, e1, e2, ⟨⟨r, σ', τ', hv, hp, hpic⟩, hz, hk⟩, st⟩ := hr T hT X
  cases hv
  rw [h0] at hz hk
  obtain ⟨t2, a1, b1⟩ := kk v σ' τ' T'.heap (locs ++ L) hp (by rw [e1]; exact hpic.1) (g_S hS (by rw [e1]; exact hz) (fun q h1 h2 => by rw [e1]; exact hk q h1 h2) hL) T' rfl X'
  exact ⟨t2, st t2 a1, b1⟩
theorem g_callX (hr : vx_Run p l e R s m args below meth c H locs cells slots mc ms (F0 m pc ls st0) rest (QcZ D ad aC H.size PV a) (XcZ D ad aC H.size PX) (gA ad H.size)) (hS : va_S (gA ad s.heap.size) s.heap H locs)
    (kx : ∀ (E : String) (ce : Cell) (q9 : Addr) (σ' : gSig) (τ' : gTau) (H1 : Heap) (locs1 : List Loc), PX E σ' τ' → va_P D gcl (Wd ad aC σ' τ') H1 → va_S (gA ad s.heap.size) s.heap H1 locs1 → H1[q9]? = some ce → ce.vm = .none → s.vm.findClass E = some ce.cls → vx_W p l e R s m args below meth c H1 locs1 (cells + mc) (slots + ms) Q (F0 m pc ls rest) q9)
    (kk : ∀ (r : Option Value) (σ' : gSig) (τ' : gTau) (H1 : Heap) (locs1 : List Loc), PV r σ' τ' → va_P D gcl (Wd ad aC σ' τ') H1 → va_S (gA ad s.heap.size) s.heap H1 locs1 → W p l e R s m args below meth c H1 locs1 (cells + mc) (slots + ms) Q (F0 m (pc + 3) ls (r.toList ++ rest))) : W p l e R s m args below meth c H locs cells slots Q (F0 m pc ls st0) := by
  intro T hT X
  rcases hr T hT X with ⟨v, st₀, t, T', L, h0, X', hL, e1, e2, ⟨⟨r, σ', τ', hv, hp, hpic⟩, hz, hk⟩, st⟩ | ⟨q, st₀, t, T', L, E, ce, h0, X', hL, e1, e2, ⟨⟨σ', τ', hp, hpic⟩, hz, hk⟩, hq, hvm, hcl, st⟩
  · cases hv
    rw [h0] at hz hk
    obtain ⟨t2, a1, b1⟩ := kk v σ' τ' T'.heap (locs ++ L) hp (by rw [e1]; exact hpic.1) (g_S hS (by rw [e1]; exact hz) (fun q h1 h2 => by rw [e1]; exact hk q h1 h2) hL) T' rfl X'
    exact ⟨t2, st t2 a1, b1⟩
  · rw [h0] at hz hk
    obtain ⟨t2, a1, b1⟩ := kx E ce q σ' τ' T'.heap (locs ++ L) hp (by rw [e1]; exact hpic.1) (g_S hS (by rw [e1]; exact hz) (fun q h1 h2 => by rw [e1]; exact hk q h1 h2) hL) (by rw [e1]; exact hq) hvm hcl T' rfl X'
    exact ⟨t2, st.trans a1, b1⟩
end GCALLS
section GRULES2
variable {l : Launch} {D : va_G} {ad : Nat → Nat → Nat} {aC : Nat → ClassId} {cc : ByteArray} {own : String} {nL : Nat} {rt : Option FieldType} {d u : Nat} {X : Prop} {PV : Option Value → gSig → gTau → Prop} {PX : String → gSig → gTau → Prop} {S : gS}
variable {n : Nat} {σ : gSig} {τ : gTau} {pc : Nat} {L : gLoc} {st0 As rest : List Value}
variable {y : MethodName} {bytes : ByteArray} {nL' : Nat} {ret : Option FieldType} {d' u' index na : Nat} {PV' : Option Value → gSig → gTau → Prop} {PX' : String → gSig → gTau → Prop}
variable {fm c0 ci N : Nat} {T : u_T} {fs : List Value} {C0 : String}
/-- a call of a method that returns: on an object -/
theorem r_callV (C : Cx l D ad aC cc own nL rt d u X PV PX S) (hd : decode cc pc = .ok (.invokevirtual index, 3)) (hM : CZ l D ad aC y bytes nL' ret d' (.ref (ad fm c0) :: As) σ τ PV') (hst : st0 = As.reverse ++ .ref (ad fm c0) :: rest) (hok : gok fm c0) (hcel : cel ad aC σ τ fm c0 = .inr (ci, fs)) (hc : gcl[ci]? = some (C0, T, N)) (hB : BOK y bytes nL' ret na) (hna : As.length = na) (hi : Cond.instanceMethod y ∈ wsG) (hs : Cond.selects C0 y y ∈ wsG) (hl : Cond.methodLink own index y ∈ wsG) (hdd : d' + 1 ≤ d) (hcat : (rest.map fun v => v.category).sum ≤ 8) (hn : n ≤ u)
    (k : ∀ (r : Option Value) (σ' : gSig) (τ' : gTau), PV' r σ' τ' → S n σ' τ' (pc + 3) L (r.toList ++ rest)) : S n σ τ pc L st0 := by
  obtain ⟨p, e, s, m, args, below, meth, c, Q, hx, hb, hml, hown, hts, hr, hlk, hK, hN, hI, hQ, hX, rfl⟩ := C
  intro H locs ls hP hS hl2
  obtain ⟨q0, hg, -⟩ := Wd_get (ad := ad) (aC := aC) hok
  have he := hg σ τ
  rw [hcel] at he
  refine g_call (mc := 0) (ms := 0) (va_runV (As := As) (rest := rest) (C := C0) ⟨hx, hb, hml, hown, hts⟩ (hM hI H.size) ⟨hB.callB hts hl hdd, hts _ hi, hts _ hs⟩ ⟨blindZ, va_recv hK hP hc he, fun U hU hW => ⟨rfl, by rw [hU], ⟨by rw [hU]; exact hP, va_K.moved hW.alike hK⟩, hN.warm hW⟩⟩ rfl hna hl2.1 hst (lv_room hcat) hd ⟨hn, Nat.mul_le_mul_left 6 hn⟩) hS ?_
  intro r σ' τ' H1 locs1 hp hP1 hS1
  exact k r σ' τ' hp H1 locs1 ls hP1 hS1 hl2
/-- .. a private one of a class that nests with this one -/
theorem r_callVN (C : Cx l D ad aC cc own nL rt d u X PV PX S) {host : String} (hd : decode cc pc = .ok (.invokevirtual index, 3)) (hM : CZ l D ad aC y bytes nL' ret d' (.ref (ad fm c0) :: As) σ τ PV') (hst : st0 = As.reverse ++ .ref (ad fm c0) :: rest) (hok : gok fm c0) (hcel : cel ad aC σ τ fm c0 = .inr (ci, fs)) (hc : gcl[ci]? = some (C0, T, N)) (hB : BOK y bytes nL' ret na) (hna : As.length = na) (hi : Cond.instanceMethod y ∈ wsG) (hs : Cond.selects C0 y y ∈ wsG) (hl : Cond.methodLinkNest own index y host ∈ gNw) (hdd : d' + 1 ≤ d) (hcat : (rest.map fun v => v.category).sum ≤ 8) (hn : n ≤ u)
    (k : ∀ (r : Option Value) (σ' : gSig) (τ' : gTau), PV' r σ' τ' → S n σ' τ' (pc + 3) L (r.toList ++ rest)) : S n σ τ pc L st0 := by
  obtain ⟨p, e, s, m, args, below, meth, c, Q, hx, hb, hml, hown, hts, hr, hlk, hK, hN, hI, hQ, hX, rfl⟩ := C
  intro H locs ls hP hS hl2
  obtain ⟨q0, hg, -⟩ := Wd_get (ad := ad) (aC := aC) hok
  have he := hg σ τ
  rw [hcel] at he
  refine g_call (mc := 0) (ms := 0) (va_runVN (As := As) (rest := rest) (C := C0) ⟨hx, hb, hml, hown, hts⟩ (hM hI H.size) ⟨hB.callN hts hN hl hdd, hts _ hi, hts _ hs⟩ ⟨blindZ, va_recv hK hP hc he, fun U hU hW => ⟨rfl, by rw [hU], ⟨by rw [hU]; exact hP, va_K.moved hW.alike hK⟩, hN.warm hW⟩⟩ rfl hna hl2.1 hst (lv_room hcat) hd ⟨hn, Nat.mul_le_mul_left 6 hn⟩) hS ?_
  intro r σ' τ' H1 locs1 hp hP1 hS1
  exact k r σ' τ' hp H1 locs1 ls hP1 hS1 hl2
/-- a static one -/
theorem r_callS (C : Cx l D ad aC cc own nL rt d u X PV PX S) (hd : decode cc pc = .ok (.invokestatic index, 3)) (hM : CZ l D ad aC y bytes nL' ret d' As σ τ PV') (hst : st0 = As.reverse ++ rest) (hB : BOK y bytes nL' ret na) (hna : As.length = na) (hs : Cond.static y ∈ wsG) (hl : Cond.methodLink own index y ∈ wsG) (hdd : d' + 1 ≤ d) (hcat : (rest.map fun v => v.category).sum ≤ 8) (hn : n ≤ u)
    (k : ∀ (r : Option Value) (σ' : gSig) (τ' : gTau), PV' r σ' τ' → S n σ' τ' (pc + 3) L (r.toList ++ rest)) : S n σ τ pc L st0 := by
  obtain ⟨p, e, s, m, args, below, meth, c, Q, hx, hb, hml, hown, hts, hr, hlk, hK, hN, hI, hQ, hX, rfl⟩ := C
  intro H locs ls hP hS hl2
  refine g_call (mc := 0) (ms := 0) (va_runS (As := As) (rest := rest) ⟨hx, hb, hml, hown, hts⟩ (hM hI H.size) ⟨hB.callB hts hl hdd, hts _ hs⟩ ⟨blindZ, fun U hU hW => ⟨rfl, by rw [hU], ⟨by rw [hU]; exact hP, va_K.moved hW.alike hK⟩, hN.warm hW⟩⟩ rfl hna hl2.1 hst (lv_room hcat) hd ⟨hn, Nat.mul_le_mul_left 6 hn⟩) hS ?_
  intro r σ' τ' H1 locs1 hp hP1 hS1
  exact k r σ' τ' hp H1 locs1 ls hP1 hS1 hl2
theorem r_callSN (C : Cx l D ad aC cc own nL rt d u X PV PX S) {host : String} (hd : decode cc pc = .ok (.invokestatic index, 3)) (hM : CZ l D ad aC y bytes nL' ret d' As σ τ PV') (hst : st0 = As.reverse ++ rest) (hB : BOK y bytes nL' ret na) (hna : As.length = na) (hs : Cond.static y ∈ wsG) (hl : Cond.methodLinkNest own index y host ∈ gNw) (hdd : d' + 1 ≤ d) (hcat : (rest.map fun v => v.category).sum ≤ 8) (hn : n ≤ u)
    (k : ∀ (r : Option Value) (σ' : gSig) (τ' : gTau), PV' r σ' τ' → S n σ' τ' (pc + 3) L (r.toList ++ rest)) : S n σ τ pc L st0 := by
  obtain ⟨p, e, s, m, args, below, meth, c, Q, hx, hb, hml, hown, hts, hr, hlk, hK, hN, hI, hQ, hX, rfl⟩ := C
  intro H locs ls hP hS hl2
  refine g_call (mc := 0) (ms := 0) (va_runSN (As := As) (rest := rest) ⟨hx, hb, hml, hown, hts⟩ (hM hI H.size) ⟨hB.callN hts hN hl hdd, hts _ hs, trivial⟩ ⟨blindZ, fun U hU hW => ⟨rfl, by rw [hU], ⟨by rw [hU]; exact hP, va_K.moved hW.alike hK⟩, hN.warm hW⟩⟩ rfl hna hl2.1 hst (lv_room hcat) hd ⟨hn, Nat.mul_le_mul_left 6 hn⟩) hS ?_
  intro r σ' τ' H1 locs1 hp hP1 hS1
  exact k r σ' τ' hp H1 locs1 ls hP1 hS1 hl2
/-- a static one that may throw, out of one that may throw, without a handler -/
theorem r_callSX (C : Cx l D ad aC cc own nL rt d u X PV PX S) (hx0 : X) (hd : decode cc pc = .ok (.invokestatic index, 3)) (hM : CT l D ad aC y bytes nL' ret d' u' As σ τ PV' PX') (hst : st0 = As.reverse ++ rest) (hB : BOK y bytes nL' ret na) (hna : As.length = na) (hs : Cond.static y ∈ wsG) (hl : Cond.methodLink own index y ∈ wsG) (hdd : d' + 1 ≤ d) (hcat : (rest.map fun v => v.category).sum ≤ 8) (hn : n + u' ≤ u)
    (kx : ∀ (E : String) (σ' : gSig) (τ' : gTau), PX' E σ' τ' → PX E σ' τ')
    (k : ∀ (r : Option Value) (σ' : gSig) (τ' : gTau), PV' r σ' τ' → S (n + u') σ' τ' (pc + 3) L (r.toList ++ rest)) : S n σ τ pc L st0 := by
  obtain ⟨p, e, s, m, args, below, meth, c, Q, hx, hb, hml, hown, hts, hr, hlk, hK, hN, hI, hQ, hX, rfl⟩ := C
  obtain ⟨htr, hnt, hsx, hQx⟩ := hX hx0
  intro H locs ls hP hS hl2
  have h6 : 6 * n + 6 * u' = 6 * (n + u') := (Nat.mul_add 6 n u').symm
  have h7 : 6 * n + 6 * u' ≤ 6 * u := by rw [h6]; exact Nat.mul_le_mul_left 6 hn
  refine g_callX (mc := u') (ms := 6 * u') (vx_runS (As := As) (rest := rest) ⟨hx, hb, hml, hown, hts⟩ (hM hI htr H.size) ⟨hB.callB hts hl hdd, hts _ hs⟩ ⟨blindT, fun U hU hW => ⟨rfl, ⟨by rw [hU], ⟨by rw [hU]; exact hP, va_K.moved hW.alike hK⟩, hN.warm hW⟩, hsx.narrow (fun q hq => gA_sub hS.1 hq) (fun q h1 h2 => by rw [hU]; exact hS.2.1 q h1 h2) hW⟩⟩ rfl hna hl2.1 hst (lv_room hcat) hd ⟨hn, h7⟩) hS ?_ ?_
  · intro E ce q9 σ' τ' H1 locs1 hp hP1 hS1 h1 h2 h3
    refine vx_Wimp hQx (vx_out (fun x hx9 => (hnt x hx9).elim) hlk h1 h2 h3 (fun t ht hv => ⟨⟨σ', τ', kx E σ' τ' hp, by rw [ht]; exact hP1, va_K.moved hv hK⟩, hS1.F ht⟩) hS1.2.2 hn h7)
  · intro r σ' τ' H1 locs1 hp hP1 hS1
    have hk := k r σ' τ' hp H1 locs1 ls hP1 hS1 hl2
    rw [h6]
    exact hk
/-- throw new X(text) -/
theorem r_throw (C : Cx l D ad aC cc own nL rt d u X PV PX S) (hx0 : X) {cls text : String} {names : List String} {ik is ic : Nat} (hcls : Bundle.fit cls = true) (hnames : ∀ n ∈ names, Bundle.fit n = true) (hk : Cond.classLink own ik cls ∈ wsG) (hini : Cond.initialized cls ∈ wsG) (hstr : (own, is, text) ∈ gStr) (hat : ∀ w ∈ vx_atS own ic cls names, (goodWord w = true ∧ w ∈ lw_tbl) ∨ w ∈ gNw)
    (d0 : decode cc pc = .ok (.new ik, 3)) (d3 : decode cc (pc + 3) = .ok (.dup, 1)) (d4 : decode cc (pc + 4) = .ok (.ldc is, 2)) (d6 : decode cc (pc + 6) = .ok (.invokespecial ic, 3)) (d9 : decode cc (pc + 9) = .ok (.athrow, 1))
    (hdf : names.length + 3 < d) (hcat : (rest.map fun v => v.category).sum ≤ 8) (hn : n + 1 ≤ u) (hgood : ∀ w ∈ Cond.classLink own ik cls :: Cond.initialized cls :: vx_atS own ic cls names, vx_ot w = true) (hp : PX cls σ τ) : S n σ τ pc L rest := by
  obtain ⟨p, e, s, m, args, below, meth, c, Q, hx, hb, hml, hown, hts, hr, hlk, hK, hN, hI, hQ, hX, rfl⟩ := C
  obtain ⟨htr, hnt, hsx, hQx⟩ := hX hx0
  intro H locs ls hP hS hl2
  obtain ⟨sa, hsa⟩ := hsx.2.2 _ hstr
  refine W.imp hQx (vx_throwS hx hb htr hown hcls hnames (hts _ hk) (hts _ hini) hsa (fun w hw => by
    rcases hat w hw with h9 | h9
    · exact hts _ (wsG_of h9.2 h9.1)
    · exact hN.use h9) hgood hsx.1 hsx.2.1 hS (hl2.1.trans hml.symm) d0 d3 d4 d6 d9 (fun x hx9 => (hnt x hx9).elim) hdf ?_ ?_ ?_ hlk (fun t hv hz hq => ⟨⟨σ, τ, hp, hP.kept (fun k q hkq => hq q.1 (hP k q hkq).lt), va_K.moved hv hK⟩, Nat.le_trans hS.1 hz, fun q h1 h2 => by rw [hq q (Nat.lt_of_lt_of_le h1 hS.1)]; exact hS.2.1 q h1 h2⟩) hS.2.2 hn ?_)
  · show (rest.map fun v => v.category).sum + (13 * (names.length + 1) + 43) ≤ 32 * d
    omega
  · exact hn
  · show 6 * n + 6 ≤ 6 * u
    omega
  · omega
end GRULES2
/-- a contract out of a walk -/
theorem CZ.of {l : Launch} {D : va_G} {ad : Nat → Nat → Nat} {aC : Nat → ClassId} {y : MethodName} {cc : ByteArray} {nL : Nat} {rt : Option FieldType} {d : Nat} {av : List Value} {σ : gSig} {τ : gTau} {PV : Option Value → gSig → gTau → Prop} {own : String} (hy : plainName y.cls = true) (hown : y.cls = own) (hav : (lg_sl av).length ≤ nL)
    (body : ∀ S : gS, Cx l D ad aC cc own nL rt d 0 False PV (fun _ _ _ => False) S → S 0 σ τ 0 (mkL nL av) []) : CZ l D ad aC y cc nL rt d av σ τ PV := by
  intro hI sz
  refine Met.ofW (cc := cc) (maxL := nL) (ret := rt) hy rfl ?_
  intro p e s m args below meth c s₁ B hml hv
  obtain ⟨rfl, hsz, ⟨hP, hK⟩, hN⟩ := hv
  subst hown
  subst hsz
  have hts := atoms_spec (ws := gws y cc nL rt) B.pre
  have hl := lv_entry av (n := nL) hav
  rw [lg_entry_eq]
  exact body _ ⟨p, e, s, m, av.toArray, below, meth, c, _, B.exec, B.bytes, hml, findClass_of_methodNamed B.named, fun w hw => hts w (List.mem_cons_of_mem _ hw), B.returns, B.notSynchronized, hK, hN, hI, fun t h => h, fun h => h.elim, rfl⟩ s.heap [] _ hP va_S.rf (mkL_has hl)
theorem CT.of {l : Launch} {D : va_G} {ad : Nat → Nat → Nat} {aC : Nat → ClassId} {y : MethodName} {cc : ByteArray} {nL : Nat} {rt : Option FieldType} {d u : Nat} {av : List Value} {σ : gSig} {τ : gTau} {PV : Option Value → gSig → gTau → Prop} {PX : String → gSig → gTau → Prop} {own : String} (hy : plainName y.cls = true) (hown : y.cls = own) (hav : (lg_sl av).length ≤ nL)
    (body : ∀ S : gS, Cx l D ad aC cc own nL rt d u True PV PX S → S 0 σ τ 0 (mkL nL av) []) : CT l D ad aC y cc nL rt d u av σ τ PV PX := by
  intro hI htr sz
  refine vx_ofW (cc := cc) (maxL := nL) (ret := rt) hy rfl ?_
  intro p e s m args below meth c s₁ B hml hnt hv
  obtain ⟨rfl, ⟨hsz, ⟨hP, hK⟩, hN⟩, hsx⟩ := hv
  subst hown
  subst hsz
  have hts := atoms_spec (ws := gws y cc nL rt) B.pre
  have hl := lv_entry av (n := nL) hav
  rw [lg_entry_eq]
  exact body _ ⟨p, e, s, m, av.toArray, below, meth, c, _, B.exec, B.bytes, hml, findClass_of_methodNamed B.named, fun w hw => hts w (List.mem_cons_of_mem _ hw), B.returns, B.notSynchronized, hK, hN, hI, fun t h => by
    obtain ⟨o, h1, h2, h3, h4⟩ := h
    exact ⟨o, h1, h2, Or.inl ⟨h3, h4⟩⟩, fun _ => ⟨htr, hnt, hsx, fun t h => h⟩, rfl⟩ s.heap [] _ hP va_S.rf (mkL_has hl)
/-- weaker ends -/
theorem CZ.imp {l : Launch} {D : va_G} {ad : Nat → Nat → Nat} {aC : Nat → ClassId} {y : MethodName} {cc : ByteArray} {nL : Nat} {rt : Option FieldType} {d : Nat} {av : List Value} {σ : gSig} {τ : gTau} {PV PV' : Option Value → gSig → gTau → Prop} (h : CZ l D ad aC y cc nL rt d av σ τ PV) (hi : ∀ r σ' τ', PV r σ' τ' → PV' r σ' τ') : CZ l D ad aC y cc nL rt d av σ τ PV' := by
  intro hI sz
  have hm := h hI sz
  intro p e ha hc hk s m args below hf hfit hP hK
  obtain ⟨t, o, a1, b1, b2, ⟨⟨⟨r, σ', τ', q1, q2, q3⟩, q4⟩, q5⟩⟩ := hm p e ha hc hk s m args below hf hfit hP hK
  exact ⟨t, o, a1, b1, b2, ⟨⟨r, σ', τ', q1, hi _ _ _ q2, q3⟩, q4⟩, q5⟩
