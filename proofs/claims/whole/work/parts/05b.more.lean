/-! ===== rules of library methods, and words that contracts use ===== -/
def gEq (r0 : Option Value) (σ0 : gSig) (τ0 : gTau) : Option Value → gSig → gTau → Prop := fun r σ τ => r = r0 ∧ σ = σ0 ∧ τ = τ0
def b2i (b : Bool) : Int32 := if b then 1 else 0
section GRULES3
variable {l : Launch} {D : va_G} {ad : Nat → Nat → Nat} {aC : Nat → ClassId} {cc : ByteArray} {own : String} {nL : Nat} {rt : Option FieldType} {d u : Nat} {X : Prop} {PV : Option Value → gSig → gTau → Prop} {PX : String → gSig → gTau → Prop} {S : gS}
variable {n : Nat} {σ : gSig} {τ : gTau} {pc index : Nat} {L : gLoc} {rest : List Value}
theorem r_min (C : Cx l D ad aC cc own nL rt d u X PV PX S) {x y : Int32} (hd : decode cc pc = .ok (.invokestatic index, 3)) (hl : Jvm.Cond.methodLink own index Lib.Math.min.name ∈ wsG) (hs : Jvm.Cond.static Lib.Math.min.name ∈ wsG) (hc : Jvm.Cond.code Lib.Math.min.name Lib.Math.min.code 2 (some .int) ∈ wsG ∧ Jvm.Cond.initialized "java/lang/Math" ∈ wsG) (hdd : 1 ≤ d) (hcat : (rest.map fun v => v.category).sum ≤ 8) (hn : n ≤ u)
    (k : S n σ τ (pc + 3) L (.int (if y < x then y else x) :: rest)) : S n σ τ pc L (.int y :: .int x :: rest) := by
  obtain ⟨p, e, s, m, args, below, meth, c, Q, hx, hb, hml, hown, hts, hr, hlk, hK, hN, hI, hQ, hX, rfl⟩ := C
  intro H locs ls hP hS hl2
  exact va_mmin hx hb (hml.trans hl2.1.symm) hown (hts _ hl) (hts _ hs) (hts _ hc.2) (hts _ hc.1) hdd (by show _ + 13 ≤ 64 * d; omega) hn (Nat.mul_le_mul_left 6 hn) hd (k H locs ls hP hS hl2)
theorem r_max (C : Cx l D ad aC cc own nL rt d u X PV PX S) {x y : Int32} (hd : decode cc pc = .ok (.invokestatic index, 3)) (hl : Jvm.Cond.methodLink own index Lib.Math.max.name ∈ wsG) (hs : Jvm.Cond.static Lib.Math.max.name ∈ wsG) (hc : Jvm.Cond.code Lib.Math.max.name Lib.Math.max.code 2 (some .int) ∈ wsG ∧ Jvm.Cond.initialized "java/lang/Math" ∈ wsG) (hdd : 1 ≤ d) (hcat : (rest.map fun v => v.category).sum ≤ 8) (hn : n ≤ u)
    (k : S n σ τ (pc + 3) L (.int (if x < y then y else x) :: rest)) : S n σ τ pc L (.int y :: .int x :: rest) := by
  obtain ⟨p, e, s, m, args, below, meth, c, Q, hx, hb, hml, hown, hts, hr, hlk, hK, hN, hI, hQ, hX, rfl⟩ := C
  intro H locs ls hP hS hl2
  exact va_mmax hx hb (hml.trans hl2.1.symm) hown (hts _ hl) (hts _ hs) (hts _ hc.2) (hts _ hc.1) hdd (by show _ + 13 ≤ 64 * d; omega) hn (Nat.mul_le_mul_left 6 hn) hd (k H locs ls hP hS hl2)
/-- a row of ints written whole -/
def upR (σ : gSig) (f c : Nat) (g : Nat → Int32) : gSig := fun f' c' => if f' = f ∧ c' = c then g else σ f' c'
theorem upR_self (σ : gSig) (f c : Nat) (g : Nat → Int32) : (upR σ f c g) f c = g := by simp [upR]
theorem upR_ne (σ : gSig) (f c : Nat) (g : Nat → Int32) {f' c' : Nat} (h : (f', c') ≠ (f, c)) : (upR σ f c g) f' c' = σ f' c' := by
  unfold upR
  rw [if_neg]
  rintro ⟨h1, h2⟩
  exact h (by rw [h1, h2])
theorem r_copy (C : Cx l D ad aC cc own nL rt d u X PV PX S) {fm c0 fm1 c1 n0 n1 : Nat} {sp dp k9 : Int32} (hd : decode cc pc = .ok (.invokestatic index, 3)) (hl : Jvm.Cond.methodLink own index arraycopyName ∈ wsG) (hna : Jvm.Cond.native arraycopyName ∈ wsG) (hs : Jvm.Cond.static arraycopyName ∈ wsG) (hi : Jvm.Cond.initialized "java/lang/System" ∈ wsG) (hok : gok fm c0) (hok1 : gok fm1 c1) (hcel : cel ad aC σ τ fm c0 = .inl (aC 0, n0, .inl (σ fm c0))) (hcel1 : ∀ σ' : gSig, cel ad aC σ' τ fm1 c1 = .inl (aC 0, n1, .inl (σ' fm1 c1)))
    (h1 : ¬ sp < 0) (h2 : ¬ dp < 0) (h3 : ¬ k9 < 0) (h4 : sp.toNatClampNeg + k9.toNatClampNeg ≤ n0) (h5 : dp.toNatClampNeg + k9.toNatClampNeg ≤ n1) (hdd : 1 ≤ d) (hcat : (rest.map fun v => v.category).sum + (nativeFrameWords "java/lang/System" "arraycopy" 5 + 11) ≤ 64)
    (k : S n (upR σ fm1 c1 (va_cpy (σ fm c0) (σ fm1 c1) sp.toNatClampNeg dp.toNatClampNeg k9.toNatClampNeg)) τ (pc + 3) L rest) : S n σ τ pc L (.int k9 :: .int dp :: .ref (ad fm1 c1) :: .int sp :: .ref (ad fm c0) :: rest) := by
  obtain ⟨p, e, s, m, args, below, meth, c, Q, hx, hb, hml, hown, hts, hr, hlk, hK, hN, hI, hQ, hX, rfl⟩ := C
  intro H locs ls hP hS hl2
  obtain ⟨q0, hg, -⟩ := Wd_get (ad := ad) (aC := aC) hok
  obtain ⟨q1, hg1, hst⟩ := Wd_get (ad := ad) (aC := aC) hok1
  have he := hg σ τ
  rw [hcel] at he
  have he1 := hg1 σ τ
  rw [hcel1 σ] at he1
  refine va_copyi hx hb (hml.trans hl2.1.symm) hown (hts _ hl) (hts _ hna) (hts _ hs) (hts _ hi) hK hP (gD_of hI aC σ τ _) hS q0 q1 0 0 he he1 rfl rfl rfl h1 h2 h3 h4 h5 (fun _ _ => rfl) hdd (by show _ ≤ 64 * d; omega) hd (fun H1 locs1 hP1 _ hS1 => ?_)
  rw [hst σ (upR σ fm1 c1 (va_cpy (σ fm c0) (σ fm1 c1) sp.toNatClampNeg dp.toNatClampNeg k9.toNatClampNeg)) τ τ _ (fun f' c' hne => upR_ne σ fm1 c1 _ hne) (fun _ _ => rfl) (Or.inl rfl) (by rw [hcel1, upR_self])] at hP1
  exact k H1 locs1 ls hP1 hS1 hl2
end GRULES3
theorem kl_copy0 : Jvm.Cond.methodLink RX0 28 arraycopyName ∈ wsG := wsG_of (by decide +kernel) (by decide +kernel)
theorem kn_copy : Jvm.Cond.native arraycopyName ∈ wsG := wsG_of (by decide +kernel) (by decide +kernel)
theorem ks_copy : Jvm.Cond.static arraycopyName ∈ wsG := wsG_of (by decide +kernel) (by decide +kernel)
theorem ki_copy : Jvm.Cond.initialized "java/lang/System" ∈ wsG := wsG_of (by decide +kernel) (by decide +kernel)
/-- a cell's number -/
def isC (c : Int32) : Prop := ¬ c < 0 ∧ c < 16
theorem isC_nI {c : Int32} (h : isC c) : ∃ k : Nat, k < 16 ∧ c = nI k := by
  obtain ⟨h1, h2⟩ := h
  obtain ⟨j, hj, rfl⟩ := nI_of h1
  refine ⟨j, ?_, rfl⟩
  have h3 : nI j < nI 16 := h2
  exact (nI_ltI hj (by decide)).mp h3
theorem isC_of {k : Nat} (h : k < 16) : isC (nI k) := ⟨nI_pos (by omega), (nI_ltI (by omega) (by decide)).mpr h⟩
/-- whether a set holds a cell, as the class asks it -/
def hasB (set cell : Int32) : Bool := if cell < 0 then false else if (16 : Int32) ≤ cell then false else if (set >>> (cell &&& 31)) &&& 1 = 0 then false else true
theorem kC_Math_min : Jvm.Cond.code Lib.Math.min.name Lib.Math.min.code 2 (some .int) ∈ wsG ∧ Jvm.Cond.initialized "java/lang/Math" ∈ wsG := ⟨wsG_of (by decide +kernel) (by decide +kernel), wsG_of (by decide +kernel) (by decide +kernel)⟩
theorem kC_Math_max : Jvm.Cond.code Lib.Math.max.name Lib.Math.max.code 2 (some .int) ∈ wsG ∧ Jvm.Cond.initialized "java/lang/Math" ∈ wsG := ⟨wsG_of (by decide +kernel) (by decide +kernel), wsG_of (by decide +kernel) (by decide +kernel)⟩
