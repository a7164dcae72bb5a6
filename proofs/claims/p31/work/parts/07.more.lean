/-! ===== rules of library methods, and words that contracts use ===== -/
def gEq (r0 : Option Value) (σ0 : gSig) (τ0 : gTau) : Option Value → gSig → gTau → Prop := fun r σ τ => r0 = r ∧ σ0 = σ ∧ τ0 = τ
def b2i (b : Bool) : Int32 := if b then 1 else 0
section GRULES3
variable {l : Launch} {D : va_G} {ad : Nat → Nat → Nat} {aC : Nat → ClassId} {cc : ByteArray} {own : String} {nL : Nat} {rt : Option FieldType} {d u : Nat} {X : Prop} {PV : Option Value → gSig → gTau → Prop} {PX : String → gSig → gTau → Prop} {S : gS}
variable {n : Nat} {σ : gSig} {τ : gTau} {pc index : Nat} {L : gLoc} {rest : List Value}
theorem r_min (C : Cx l D ad aC cc own nL rt d u X PV PX S) {x y : Int32} (hd : decode cc pc = .ok (.invokestatic index, 3)) (hl : Jvm.Cond.methodLink own index Lib.Math.min.name ∈ wsG) (hs : Jvm.Cond.static Lib.Math.min.name ∈ wsG) (hc : Jvm.Cond.code Lib.Math.min.name Lib.Math.min.code 2 (some .int) ∈ wsG ∧ Jvm.Cond.initialized "java/lang/Math" ∈ wsG) (hdd : 1 ≤ d) (hcat : (rest.map fun v => v.category).sum ≤ 8) (hn : n ≤ u)
    (k : S n σ τ (pc + 3) L (.int (if y < x then y else x) :: rest)) : S n σ τ pc L (.int y :: .int x :: rest) := by
  obtain ⟨p, e, s, m, args, below, meth, c, Q, hx, hb, hml, hown, hts, hr, hlk, hK, hN, hI, hQ, hX, rfl⟩ := C
  intro H locs ls hP hS hl2
  exact va_mmin hx hb (hml.trans hl2.1.symm) hown (hts _ hl) (hts _ hs) (hts _ hc.2) (hts _ hc.1) hdd (by show _ + 13 ≤ 32 * d; omega) hn (Nat.mul_le_mul_left 6 hn) hd (k H locs ls hP hS hl2)
theorem r_max (C : Cx l D ad aC cc own nL rt d u X PV PX S) {x y : Int32} (hd : decode cc pc = .ok (.invokestatic index, 3)) (hl : Jvm.Cond.methodLink own index Lib.Math.max.name ∈ wsG) (hs : Jvm.Cond.static Lib.Math.max.name ∈ wsG) (hc : Jvm.Cond.code Lib.Math.max.name Lib.Math.max.code 2 (some .int) ∈ wsG ∧ Jvm.Cond.initialized "java/lang/Math" ∈ wsG) (hdd : 1 ≤ d) (hcat : (rest.map fun v => v.category).sum ≤ 8) (hn : n ≤ u)
    (k : S n σ τ (pc + 3) L (.int (if x < y then y else x) :: rest)) : S n σ τ pc L (.int y :: .int x :: rest) := by
  obtain ⟨p, e, s, m, args, below, meth, c, Q, hx, hb, hml, hown, hts, hr, hlk, hK, hN, hI, hQ, hX, rfl⟩ := C
  intro H locs ls hP hS hl2
  exact va_mmax hx hb (hml.trans hl2.1.symm) hown (hts _ hl) (hts _ hs) (hts _ hc.2) (hts _ hc.1) hdd (by show _ + 13 ≤ 32 * d; omega) hn (Nat.mul_le_mul_left 6 hn) hd (k H locs ls hP hS hl2)
/-- a row of ints written whole -/
def upR (σ : gSig) (f c : Nat) (g : Nat → Int32) : gSig := fun f' c' => if f' = f ∧ c' = c then g else σ f' c'
theorem upR_self (σ : gSig) (f c : Nat) (g : Nat → Int32) : (upR σ f c g) f c = g := by simp [upR]
theorem upR_ne (σ : gSig) (f c : Nat) (g : Nat → Int32) {f' c' : Nat} (h : (f', c') ≠ (f, c)) : (upR σ f c g) f' c' = σ f' c' := by
  unfold upR
  rw [if_neg]
  rintro ⟨h1, h2⟩
  exact h (by rw [h1, h2])
theorem r_copy (C : Cx l D ad aC cc own nL rt d u X PV PX S) {fm c0 fm1 c1 n0 n1 : Nat} {sp dp k9 : Int32} (hd : decode cc pc = .ok (.invokestatic index, 3)) (hl : Jvm.Cond.methodLink own index arraycopyName ∈ wsG) (hna : Jvm.Cond.native arraycopyName ∈ wsG) (hs : Jvm.Cond.static arraycopyName ∈ wsG) (hi : Jvm.Cond.initialized "java/lang/System" ∈ wsG) (hok : gok fm c0) (hok1 : gok fm1 c1) (hcel : cel ad aC σ τ fm c0 = .inl (aC 0, n0, .inl (σ fm c0))) (hcel1 : ∀ σ' : gSig, cel ad aC σ' τ fm1 c1 = .inl (aC 0, n1, .inl (σ' fm1 c1)))
    (h1 : ¬ sp < 0) (h2 : ¬ dp < 0) (h3 : ¬ k9 < 0) (h4 : sp.toNatClampNeg + k9.toNatClampNeg ≤ n0) (h5 : dp.toNatClampNeg + k9.toNatClampNeg ≤ n1) (hdd : 1 ≤ d) (hcat : (rest.map fun v => v.category).sum + (nativeFrameWords "java/lang/System" "arraycopy" 5 + 11) ≤ 32)
    (k : S n (upR σ fm1 c1 (va_cpy (σ fm c0) (σ fm1 c1) sp.toNatClampNeg dp.toNatClampNeg k9.toNatClampNeg)) τ (pc + 3) L rest) : S n σ τ pc L (.int k9 :: .int dp :: .ref (ad fm1 c1) :: .int sp :: .ref (ad fm c0) :: rest) := by
  obtain ⟨p, e, s, m, args, below, meth, c, Q, hx, hb, hml, hown, hts, hr, hlk, hK, hN, hI, hQ, hX, rfl⟩ := C
  intro H locs ls hP hS hl2
  obtain ⟨q0, hg, -⟩ := Wd_get (ad := ad) (aC := aC) hok
  obtain ⟨q1, hg1, hst⟩ := Wd_get (ad := ad) (aC := aC) hok1
  have he := hg σ τ
  rw [hcel] at he
  have he1 := hg1 σ τ
  rw [hcel1 σ] at he1
  refine va_copyi hx hb (hml.trans hl2.1.symm) hown (hts _ hl) (hts _ hna) (hts _ hs) (hts _ hi) hK hP (gD_of hI aC σ τ _) hS q0 q1 0 0 he he1 rfl rfl rfl h1 h2 h3 h4 h5 (fun _ _ => rfl) hdd (by show _ ≤ 32 * d; omega) hd (fun H1 locs1 hP1 _ hS1 => ?_)
  rw [hst σ (upR σ fm1 c1 (va_cpy (σ fm c0) (σ fm1 c1) sp.toNatClampNeg dp.toNatClampNeg k9.toNatClampNeg)) τ τ _ (fun f' c' hne => upR_ne σ fm1 c1 _ hne) (fun _ _ => rfl) (Or.inl rfl) (by rw [hcel1, upR_self])] at hP1
  exact k H1 locs1 ls hP1 hS1 hl2
theorem r_ialdv (C : Cx l D ad aC cc own nL rt d u X PV PX S) {fm c0 len : Nat} {i v : Int32} {st : List Value} (hd : decode cc pc = .ok (.iaload, 1)) (hok : gok fm c0) (hcel : cel ad aC σ τ fm c0 = .inl (aC 0, len, .inl (σ fm c0))) (hin : vp_in i len) (hv : σ fm c0 i.toNatClampNeg = v) (k : S n σ τ (pc + 1) L (.int v :: st)) : S n σ τ pc L (.int i :: .ref (ad fm c0) :: st) := r_iald C hd hok hcel hin (by rw [hv]; exact k)
theorem r_laldv (C : Cx l D ad aC cc own nL rt d u X PV PX S) {fm c0 len : Nat} {i : Int32} {v : Int64} {st : List Value} (hd : decode cc pc = .ok (.laload, 1)) (hok : gok fm c0) (hcel : cel ad aC σ τ fm c0 = .inl (aC 1, len, .inr (.inl (τ fm)))) (hin : vp_in i len) (hv : τ fm i.toNatClampNeg = v) (k : S n σ τ (pc + 1) L (.long v :: st)) : S n σ τ pc L (.int i :: .ref (ad fm c0) :: st) := r_lald C hd hok hcel hin (by rw [hv]; exact k)
theorem r_iastv (C : Cx l D ad aC cc own nL rt d u X PV PX S) {fm c0 len j : Nat} {i x : Int32} {st : List Value} (hd : decode cc pc = .ok (.iastore, 1)) (hok : gok fm c0) (hcel : ∀ σ' : gSig, cel ad aC σ' τ fm c0 = .inl (aC 0, len, .inl (σ' fm c0))) (hin : vp_in i len) (hj : i.toNatClampNeg = j) (k : S n (up3 σ fm c0 j x) τ (pc + 1) L st) : S n σ τ pc L (.int x :: .int i :: .ref (ad fm c0) :: st) := r_iast C hd hok hcel hin (by rw [hj]; exact k)
theorem r_lastv (C : Cx l D ad aC cc own nL rt d u X PV PX S) {fm len j : Nat} {i : Int32} {x : Int64} {st : List Value} (hd : decode cc pc = .ok (.lastore, 1)) (hok : gok fm 0) (h1 : gN.getD fm 0 = 1) (hcel : ∀ τ' : gTau, cel ad aC σ τ' fm 0 = .inl (aC 1, len, .inr (.inl (τ' fm)))) (hin : vp_in i len) (hj : i.toNatClampNeg = j) (k : S n σ (up2 τ fm j x) (pc + 1) L st) : S n σ τ pc L (.long x :: .int i :: .ref (ad fm 0) :: st) := r_last C hd hok h1 hcel hin (by rw [hj]; exact k)
theorem r_aaldv (C : Cx l D ad aC cc own nL rt d u X PV PX S) {fm c0 t0 len fa j : Nat} {ct : ClassId} {E : String} {i : Int32} {st : List Value} (hd : decode cc pc = .ok (.aaload, 1)) (hok : gok fm c0) (hcel : cel ad aC σ τ fm c0 = .inl (ct, len, .inr (.inr (.inr (.inr (fun j => some (ad fa j))))))) (ht : (gty aC)[t0]? = some (ct, .object E)) (hin : vp_in i len) (hj : i.toNatClampNeg = j) (k : S n σ τ (pc + 1) L (.ref (ad fa j) :: st)) : S n σ τ pc L (.int i :: .ref (ad fm c0) :: st) := r_aald C hd hok hcel ht hin (by rw [hj]; exact k)
/-- locals that are not asked for again -/
def dropL (ks : List Nat) (L : gLoc) : gLoc := ks.foldl (fun L k => L.set k none) L
theorem dropL_in {ks : List Nat} : ∀ {L : gLoc} {i : Nat} {v : Value}, (dropL ks L)[i]? = some (some v) → L[i]? = some (some v) := by
  induction ks with
  | nil => intro L i v h; exact h
  | cons k ks ih =>
    intro L i v h
    have h1 : (L.set k none)[i]? = some (some v) := ih (L := L.set k none) h
    by_cases hk : i = k
    · subst hk
      rw [List.getElem?_set_self' ] at h1
      cases hx : L[i]? with
      | none => rw [hx] at h1; cases h1
      | some y => rw [hx] at h1; cases h1
    · rwa [List.getElem?_set_ne (Ne.symm hk)] at h1
theorem r_drop (C : Cx l D ad aC cc own nL rt d u X PV PX S) (ks : List Nat) {st : List Value} (k : S n σ τ pc (dropL ks L) st) : S n σ τ pc L st := by
  obtain ⟨p, e, s, m, args, below, meth, c, Q, hx, hb, hml, hown, hts, hr, hlk, hK, hN, hI, hQ, hX, rfl⟩ := C
  intro H locs ls hP hS hl
  exact k H locs ls hP hS ⟨hl.1, hl.2.1, fun q hq => hl.2.2 q (by
    obtain ⟨i, v⟩ := q
    exact lvs_mem.mpr (dropL_in (lvs_mem.mp hq)))⟩
theorem r_swk {S : gS} {st : List Value} {L' : gLoc} {σ' : gSig} {τ' : gTau} {st' : List Value} (h : S n σ τ pc L st) (e1 : σ = σ') (e2 : τ = τ') (e3 : L = L') (e4 : st = st') : S n σ' τ' pc L' st' := by subst e1; subst e2; subst e3; subst e4; exact h
end GRULES3
theorem kl_copy0 : Jvm.Cond.methodLink RX0 28 arraycopyName ∈ wsG := wsG_of (by decide +kernel) (by decide +kernel)
theorem kn_copy : Jvm.Cond.native arraycopyName ∈ wsG := wsG_of (by decide +kernel) (by decide +kernel)
theorem ks_copy : Jvm.Cond.static arraycopyName ∈ wsG := wsG_of (by decide +kernel) (by decide +kernel)
theorem ki_copy : Jvm.Cond.initialized "java/lang/System" ∈ wsG := wsG_of (by decide +kernel) (by decide +kernel)
/-- a cell's number -/
def isC (c : Int32) : Prop := ¬ c < 0 ∧ c < 16
theorem isC_nI {c : Int32} (h : isC c) : ∃ k : Nat, k < 16 ∧ c = nI k := by
  obtain ⟨h1, h2⟩ := h
  obtain ⟨j, hj, rfl⟩ := nI_of h1
  refine ⟨j, ?_, rfl⟩
  have h3 : nI j < nI 16 := h2
  exact (nI_ltI hj (by decide)).mp h3
theorem isC_of {k : Nat} (h : k < 16) : isC (nI k) := ⟨nI_pos (by omega), (nI_ltI (by omega) (by decide)).mpr h⟩
/-- whether a set holds a cell, as the class asks it -/
def hasB (set cell : Int32) : Bool := if cell < 0 then false else if (16 : Int32) ≤ cell then false else if (set >>> (cell &&& 31)) &&& 1 = 0 then false else true
/-- a contract out of a walk, of a method of the library -/
theorem CZ.ofF {l : Launch} {D : va_G} {ad : Nat → Nat → Nat} {aC : Nat → ClassId} {y : MethodName} {cc : ByteArray} {nL : Nat} {rt : Option FieldType} {d : Nat} {av : List Value} {σ : gSig} {τ : gTau} {PV : Option Value → gSig → gTau → Prop} {own : String} (hy : plainFor y = true) (hown : y.cls = own) (hav : (lg_sl av).length ≤ nL)
    (body : ∀ S : gS, Cx l D ad aC cc own nL rt d 0 False PV (fun _ _ _ => False) S → S 0 σ τ 0 (mkL nL av) []) : CZ l D ad aC y cc nL rt d av σ τ PV := by
  intro hI sz
  refine MetFree.of_bodySF (code := cc) (maxLocals := nL) (ret := rt) hy ?_ ?_
  · intro args s m h hn
    obtain ⟨meth, c, h1, h2, h3, h4, h5, h6, -, -⟩ := Cond.code_spec hn (atoms_spec (ws := gws y cc nL rt) h _ List.mem_cons_self)
    exact ⟨meth, c, h1, h2, h3, h4, h5, h6⟩
  · intro p e s m args below meth c s₁ B hml hv _
    obtain ⟨rfl, hsz, ⟨hP, hK⟩, hN⟩ := hv
    subst hown
    subst hsz
    have hts := atoms_spec (ws := gws y cc nL rt) B.pre
    have hl := lv_entry av (n := nL) hav
    have hh0 : s₁.heap = s.heap := by rw [B.state]; rfl
    have hk : W p l e (rmz d 0) s m av.toArray below meth c s.heap [] 0 0 (MQ below (QcZ D ad aC s.heap.size PV) av.toArray s 0 0 (gA ad s.heap.size)) (entryFrame m av.toArray nL) := by
      rw [lg_entry_eq]
      exact body _ ⟨p, e, s, m, av.toArray, below, meth, c, _, B.exec, B.bytes, hml, findClass_of_methodNamed B.named, fun w hw => hts w (List.mem_cons_of_mem _ hw), B.returns, B.notSynchronized, hK, hN, hI, fun t h => h, fun h => h.elim, rfl⟩ s.heap [] _ hP va_S.rf (mkL_has hl)
    obtain ⟨t, a1, o, b1, b2, b3⟩ := hk s₁ hh0 (Stand.of_body B)
    exact ⟨t, o, a1, b1, b2, ⟨b3.1, b3.2⟩⟩
theorem up3_upR (σ : gSig) (f c j : Nat) (g : Nat → Int32) (x : Int32) : up3 (upR σ f c g) f c j x = upR σ f c (upd g j x) := by
  funext f' c' i'
  unfold up3 upR upd
  by_cases h1 : f' = f ∧ c' = c
  · obtain ⟨rfl, rfl⟩ := h1
    by_cases h2 : i' = j <;> simp [h2]
  · have h2 : ¬ (f' = f ∧ c' = c ∧ i' = j) := fun q => h1 ⟨q.1, q.2.1⟩
    rw [if_neg h2, if_neg h1, if_neg h1]
theorem upR_upR (σ : gSig) (f c : Nat) (g g' : Nat → Int32) : upR (upR σ f c g) f c g' = upR σ f c g' := by
  funext f' c'
  unfold upR
  by_cases h1 : f' = f ∧ c' = c <;> simp [h1]
theorem upR_id (σ : gSig) (f c : Nat) : upR σ f c (σ f c) = σ := by
  funext f' c'
  unfold upR
  by_cases h1 : f' = f ∧ c' = c
  · rw [if_pos h1, h1.1, h1.2]
  · rw [if_neg h1]
theorem up3_eq (σ : gSig) (f c j : Nat) (x : Int32) : up3 σ f c j x = upR σ f c (upd (σ f c) j x) := by
  rw [← up3_upR, upR_id]
theorem nI_m2 (k : Nat) : nI (k + 2) + Int32.ofInt (-2) = nI k := by
  rw [← nI_add k 2, Int32.add_assoc, show nI 2 + Int32.ofInt (-2) = 0 by decide, Int32.add_zero]
theorem nI_p1 (k : Nat) : nI k + Int32.ofInt 1 = nI (k + 1) := nI_1 k
theorem lg_cmp_self (x : Int64) : lg_cmp x x = 0 := by
  unfold lg_cmp
  rw [if_neg (by simp [Int64.lt_iff_toInt_lt]), if_pos rfl]
theorem lg_cmp_0 {x y : Int64} (h : lg_cmp x y = 0) : x = y := by
  unfold lg_cmp at h
  split at h
  · exact absurd h (by decide)
  · split at h
    · assumption
    · exact absurd h (by decide)
