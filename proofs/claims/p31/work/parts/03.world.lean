/-! ===== one world for the class and the law's four rows: the cells by family and member; what they hold: ints by (family, member, place), longs by (family, place) ===== -/
abbrev gSig : Type := Nat → Nat → Nat → Int32
abbrev gTau : Type := Nat → Nat → Int64
abbrev gLoc : Type := List (Option Value)
def up3 (σ : gSig) (f c i : Nat) (x : Int32) : gSig := fun f' c' i' => if f' = f ∧ c' = c ∧ i' = i then x else σ f' c' i'
def up2 (τ : gTau) (f i : Nat) (x : Int64) : gTau := fun f' i' => if f' = f ∧ i' = i then x else τ f' i'
abbrev gcl : List vw_C := [(RX0, TX0, 5), (RX1, TX1, 5), (RX2, TX2, 3), (RX3, TX3, 9), (RX4, TX4, 9), (RX5, TX5, 5)]
abbrev gty (aC : Nat → ClassId) : List (ClassId × FieldType) := [(aC 0, .int), (aC 1, .long), (aC 2, .int), (aC 3, .object RX0), (aC 4, .object RX2), (aC 5, .array .int)]
/-- how many members a family has -/
def gN : List Nat := [1, 17, 17, 17, 17, 1, 1, 6, 1, 1, 16, 16, 16, 1, 4, 1, 16, 1, 3, 4]
def cel (ad : Nat → Nat → Nat) (aC : Nat → ClassId) (σ : gSig) (τ : gTau) (f c : Nat) : va_E := match f with
  | 0 => .inr (5, [.ref (ad 1 16), .ref (ad 5 0), .ref (ad 9 0), .ref (ad 13 0), .ref (ad 17 0)])
  | 1 => .inr (0, [.ref (ad 2 c), .ref (ad 3 c), .ref (ad 4 c), .int (σ 1 c 3), .int (σ 1 c 4)])
  | 2 => .inl (aC 0, 12, .inl (σ 2 c))
  | 3 => .inl (aC 0, 12, .inl (σ 3 c))
  | 4 => .inl (aC 0, 12, .inl (σ 4 c))
  | 5 => .inr (3, [.ref (ad 6 0), .ref (ad 7 0), .ref (ad 7 1), .ref (ad 7 2), .ref (ad 7 3), .ref (ad 7 4), .ref (ad 7 5), .ref (ad 8 0), .int (σ 5 c 8)])
  | 6 => .inl (aC 3, 16, .inr (.inr (.inr (.inr (fun i => some (ad 1 i))))))
  | 7 => .inl (aC 0, 16, .inl (σ 7 c))
  | 8 => .inl (aC 1, 16, .inr (.inl (τ 8)))
  | 9 => .inl (aC 4, 16, .inr (.inr (.inr (.inr (fun i => some (ad 10 i))))))
  | 10 => .inr (2, [.ref (ad 11 c), .ref (ad 12 c), .int (σ 10 c 2)])
  | 11 => .inl (aC 0, 4, .inl (σ 11 c))
  | 12 => .inl (aC 0, 4, .inl (σ 12 c))
  | 13 => .inr (4, [.ref (ad 14 0), .ref (ad 14 1), .ref (ad 14 2), .ref (ad 14 3), .ref (ad 15 0), .int (σ 13 c 5), .int (σ 13 c 6), .int (σ 13 c 7), .int (σ 13 c 8)])
  | 14 => .inl (aC 0, 16, .inl (σ 14 c))
  | 15 => .inl (aC 5, 16, .inr (.inr (.inr (.inr (fun i => some (ad 16 i))))))
  | 16 => .inl (aC 0, 16, .inl (σ 16 c))
  | 17 => .inr (1, [.ref (ad 18 0), .ref (ad 18 1), .ref (ad 18 2), .int (σ 17 c 3), .int (σ 17 c 4)])
  | 18 => .inl (aC 0, 16, .inl (σ 18 c))
  | 19 => .inl (aC 0, 16, .inl (σ 19 c))
  | _ => .inr (0, [])
def gix : List (Nat × Nat) := (List.range 20).flatMap (fun f => (List.range (gN.getD f 0)).map (fun c => (f, c)))
abbrev gok (f c : Nat) : Prop := f < 20 ∧ c < gN.getD f 0
theorem gix_mem {f c : Nat} (h : gok f c) : (f, c) ∈ gix := by
  unfold gix
  exact List.mem_flatMap.mpr ⟨f, List.mem_range.mpr h.1, List.mem_map.mpr ⟨c, List.mem_range.mpr h.2, rfl⟩⟩
theorem gix_nodup : gix.Nodup := by decide +kernel
def Wd (ad : Nat → Nat → Nat) (aC : Nat → ClassId) (σ : gSig) (τ : gTau) : va_W := gix.map (fun q => (ad q.1 q.2, cel ad aC σ τ q.1 q.2))
/-- the cells of the world, and what is made behind the place sz -/
def gA (ad : Nat → Nat → Nat) (sz : Nat) : Nat → Prop := fun q => (∃ x ∈ gix, q = ad x.1 x.2) ∨ sz ≤ q
/-- the world's addresses are apart -/
def gInj (ad : Nat → Nat → Nat) : Prop := ∀ x ∈ gix, ∀ y ∈ gix, ad x.1 x.2 = ad y.1 y.2 → x = y
theorem gix_at {k : Nat} {x : Nat × Nat} (h : gix[k]? = some x) : x ∈ gix := List.mem_of_getElem? h
theorem gix_in {k j : Nat} {x : Nat × Nat} (h : gix[k]? = some x) (h2 : gix[j]? = some x) : k = j := by
  have hk := (List.getElem?_eq_some_iff.mp h).1
  exact (List.getElem?_inj hk gix_nodup).mp (h.trans h2.symm)
theorem Wd_at {ad : Nat → Nat → Nat} {aC : Nat → ClassId} {σ : gSig} {τ : gTau} (k : Nat) : (Wd ad aC σ τ)[k]? = gix[k]?.map (fun q => (ad q.1 q.2, cel ad aC σ τ q.1 q.2)) := by
  unfold Wd
  rw [List.getElem?_map]
theorem gD_of {ad : Nat → Nat → Nat} (hI : gInj ad) (aC : Nat → ClassId) (σ : gSig) (τ : gTau) (sz : Nat) : va_D (gA ad sz) (Wd ad aC σ τ) := by
  refine ⟨fun i j x y hi hj hxy => ?_, fun k q hk => ?_⟩
  · rw [Wd_at] at hi hj
    cases h1 : gix[i]? with
    | none => rw [h1] at hi; cases hi
    | some a =>
      cases h2 : gix[j]? with
      | none => rw [h2] at hj; cases hj
      | some b =>
        rw [h1] at hi; rw [h2] at hj
        cases hi; cases hj
        have e := hI a (gix_at h1) b (gix_at h2) hxy
        subst e
        exact gix_in h1 h2
  · rw [Wd_at] at hk
    cases h1 : gix[k]? with
    | none => rw [h1] at hk; cases hk
    | some a => rw [h1] at hk; cases hk; exact Or.inl ⟨a, gix_at h1, rfl⟩
theorem cel_congr {ad : Nat → Nat → Nat} {aC : Nat → ClassId} {σ σ' : gSig} {τ τ' : gTau} {f c : Nat} (h : σ' f c = σ f c) (h2 : τ' f = τ f) : cel ad aC σ' τ' f c = cel ad aC σ τ f c := by
  unfold cel
  split <;> simp [h, h2]
/-- a cell's place in the world, and the world when the cell is written -/
theorem Wd_get {ad : Nat → Nat → Nat} {aC : Nat → ClassId} {f c : Nat} (h : gok f c) : ∃ k : Nat, (∀ (σ : gSig) (τ : gTau), (Wd ad aC σ τ)[k]? = some (ad f c, cel ad aC σ τ f c)) ∧
    ∀ (σ σ' : gSig) (τ τ' : gTau) (e : va_E), (∀ f' c' : Nat, (f', c') ≠ (f, c) → σ' f' c' = σ f' c') → (∀ f' : Nat, f' ≠ f → τ' f' = τ f') → (τ' = τ ∨ c = 0 ∧ gN.getD f 0 = 1) → cel ad aC σ' τ' f c = e → (Wd ad aC σ τ).set k (ad f c, e) = Wd ad aC σ' τ' := by
  obtain ⟨k, hk⟩ := List.getElem?_of_mem (gix_mem h)
  refine ⟨k, fun σ τ => by rw [Wd_at, hk]; rfl, fun σ σ' τ τ' e h1 h2 h3 he => ?_⟩
  have hkl := (List.getElem?_eq_some_iff.mp hk).1
  apply List.ext_getElem?
  intro j
  by_cases hj : j = k
  · subst hj
    have hl : j < (Wd ad aC σ τ).length := by unfold Wd; rw [List.length_map]; exact hkl
    rw [List.getElem?_set_self hl, Wd_at, hk, ← he]
    rfl
  · rw [List.getElem?_set_ne (Ne.symm hj), Wd_at, Wd_at]
    cases hx : gix[j]? with
    | none => rfl
    | some x =>
      obtain ⟨f', c'⟩ := x
      have hne : (f', c') ≠ (f, c) := fun q => hj (gix_in hx (q ▸ hk))
      show some (ad f' c', cel ad aC σ τ f' c') = some (ad f' c', cel ad aC σ' τ' f' c')
      rw [cel_congr (σ := σ) (σ' := σ') (τ := τ) (τ' := τ') (h1 f' c' hne)]
      rcases h3 with h3 | ⟨h3, h4⟩
      · rw [h3]
      · by_cases hf : f' = f
        · subst hf
          have hm : (f', c') ∈ gix := gix_at hx
          unfold gix at hm
          obtain ⟨g, -, hg⟩ := List.mem_flatMap.mp hm
          obtain ⟨c2, hc2, e2⟩ := List.mem_map.mp hg
          cases e2
          rw [h4] at hc2
          have : c' = 0 := by have := List.mem_range.mp hc2; omega
          subst this; subst h3
          exact absurd rfl hne
        · exact h2 f' hf
theorem up3_self (σ : gSig) (f c i : Nat) (x : Int32) : (up3 σ f c i x) f c = upd (σ f c) i x := by
  funext j
  unfold up3 upd
  by_cases h : j = i <;> simp [h]
theorem up3_ne (σ : gSig) (f c i : Nat) (x : Int32) {f' c' : Nat} (h : (f', c') ≠ (f, c)) : (up3 σ f c i x) f' c' = σ f' c' := by
  funext j
  unfold up3
  rw [if_neg]
  rintro ⟨h1, h2, -⟩
  exact h (by rw [h1, h2])
theorem up2_self (τ : gTau) (f i : Nat) (x : Int64) : (up2 τ f i x) f = vp_updL (τ f) i x := by
  funext j
  unfold up2 vp_updL
  by_cases h : j = i <;> simp [h]
theorem up2_ne (τ : gTau) (f i : Nat) (x : Int64) {f' : Nat} (h : f' ≠ f) : (up2 τ f i x) f' = τ f' := by
  funext j
  unfold up2
  rw [if_neg]
  rintro ⟨h1, -⟩
  exact h h1
theorem up3_at (σ : gSig) (f c i : Nat) (x : Int32) (f' c' i' : Nat) : up3 σ f c i x f' c' i' = if f' = f ∧ c' = c ∧ i' = i then x else σ f' c' i' := rfl
theorem up2_at (τ : gTau) (f i : Nat) (x : Int64) (f' i' : Nat) : up2 τ f i x f' i' = if f' = f ∧ i' = i then x else τ f' i' := rfl
/-! the locals, a row by their numbers -/
def lvs (L : gLoc) : List (Nat × Value) := (List.range L.length).filterMap (fun i => (L[i]?.join).map (fun v => (i, v)))
theorem lvs_mem {L : gLoc} {i : Nat} {v : Value} : (i, v) ∈ lvs L ↔ L[i]? = some (some v) := by
  unfold lvs
  rw [List.mem_filterMap]
  constructor
  · rintro ⟨j, hj, h⟩
    cases hx : L[j]? with
    | none => rw [hx] at h; cases h
    | some o =>
      cases o with
      | none => rw [hx] at h; cases h
      | some w =>
        rw [hx] at h
        cases h
        exact hx
  · intro h
    refine ⟨i, List.mem_range.mpr (List.getElem?_eq_some_iff.mp h).1, ?_⟩
    rw [h]
    rfl
theorem lvs_at {ls : Array Slot} {nL : Nat} {L : gLoc} (h : lv_has ls nL (lvs L)) {i : Nat} {v : Value} (hi : L[i]? = some (some v)) : ls[i]? = some (.val v) := h.2.2 (i, v) (lvs_mem.mpr hi)
/-- no long ends at the place that is written -/
def okst (L : gLoc) (i : Nat) : Bool := match i with
  | 0 => true
  | k + 1 => match L[k]? with
    | some (some w) => w.category == 1
    | _ => true
theorem okst_ne {L : gLoc} {i j : Nat} {w : Value} (h : okst L i = true) (hj : L[j]? = some (some w)) (hi : j + 1 = i) : w.category = 1 := by
  subst hi
  simp only [okst, hj] at h
  simpa using h
theorem lvs_put {ls : Array Slot} {nL : Nat} {L : gLoc} {i : Nat} {v : Value} (h : lv_has ls nL ((i, v) :: (lvs L).filter (fun q => !(q.1 == i) && !(q.1 + 1 == i && q.2.category == 2)))) (hok : okst L i = true) : lv_has ls nL (lvs (L.set i (some v))) := by
  refine ⟨h.1, h.2.1, ?_⟩
  rintro ⟨j, w⟩ hq
  rw [lvs_mem] at hq
  refine h.2.2 (j, w) ?_
  by_cases hj : j = i
  · subst hj
    have hl : j < L.length := by
      have := (List.getElem?_eq_some_iff.mp hq).1
      rwa [List.length_set] at this
    rw [List.getElem?_set_self hl] at hq
    cases hq
    exact List.mem_cons_self
  · rw [List.getElem?_set_ne (Ne.symm hj)] at hq
    refine List.mem_cons_of_mem _ (List.mem_filter.mpr ⟨lvs_mem.mpr hq, ?_⟩)
    have hc : ¬ (j + 1 = i ∧ w.category = 2) := fun z => by
      have := okst_ne hok hq z.1
      omega
    simp [hj]
    exact Classical.not_and_iff_not_or_not.mp hc
theorem lvs_put2 {ls : Array Slot} {nL : Nat} {L : gLoc} {i : Nat} {v : Value} (h : lv_has ls nL ((i, v) :: (lvs L).filter (fun q => !(q.1 == i) && (!(q.1 == i + 1) && !(q.1 + 1 == i && q.2.category == 2))))) (hok : okst L i = true) : lv_has ls nL (lvs ((L.set i (some v)).set (i + 1) none)) := by
  refine ⟨h.1, h.2.1, ?_⟩
  rintro ⟨j, w⟩ hq
  rw [lvs_mem] at hq
  refine h.2.2 (j, w) ?_
  by_cases h1 : j = i + 1
  · subst h1
    have hl := (List.getElem?_eq_some_iff.mp hq).1
    rw [List.length_set] at hl
    rw [List.getElem?_set_self hl] at hq
    cases hq
  · rw [List.getElem?_set_ne (Ne.symm h1)] at hq
    by_cases hj : j = i
    · subst hj
      have hl : j < L.length := by
        have := (List.getElem?_eq_some_iff.mp hq).1
        rwa [List.length_set] at this
      rw [List.getElem?_set_self hl] at hq
      cases hq
      exact List.mem_cons_self
    · rw [List.getElem?_set_ne (Ne.symm hj)] at hq
      refine List.mem_cons_of_mem _ (List.mem_filter.mpr ⟨lvs_mem.mpr hq, ?_⟩)
      have hc : ¬ (j + 1 = i ∧ w.category = 2) := fun z => by
        have := okst_ne hok hq z.1
        omega
      simp [hj, h1]
      exact Classical.not_and_iff_not_or_not.mp hc
/-- the locals at a method's start -/
def mkA : List Value → gLoc
  | [] => []
  | v :: vs => if v.category = 2 then some v :: none :: mkA vs else some v :: mkA vs
theorem mkA_args : ∀ (vs : List Value) (k j : Nat) (w : Value), (mkA vs)[j]? = some (some w) → (k + j, w) ∈ lv_args k vs
  | [], k, j, w, h => by simp [mkA] at h
  | v :: vs, k, j, w, h => by
    unfold mkA at h
    unfold lv_args
    by_cases hc : v.category = 2
    · rw [if_pos hc] at h
      rw [if_pos hc]
      match j, h with
      | 0, h => cases h; exact List.mem_cons_self
      | 1, h => cases h
      | j + 2, h =>
        have := mkA_args vs (k + 2) j w (by simpa using h)
        refine List.mem_cons_of_mem _ ?_
        rw [show k + (j + 2) = k + 2 + j by omega]
        exact this
    · rw [if_neg hc] at h
      rw [if_neg hc]
      match j, h with
      | 0, h => cases h; exact List.mem_cons_self
      | j + 1, h =>
        have := mkA_args vs (k + 1) j w (by simpa using h)
        refine List.mem_cons_of_mem _ ?_
        rw [show k + (j + 1) = k + 1 + j by omega]
        exact this
def mkL (n : Nat) (vs : List Value) : gLoc := mkA vs ++ List.replicate (n - (mkA vs).length) none
theorem mkL_has {ls : Array Slot} {n : Nat} {vs : List Value} (h : lv_has ls n (lv_args 0 vs)) : lv_has ls n (lvs (mkL n vs)) := by
  refine ⟨h.1, h.2.1, ?_⟩
  rintro ⟨j, w⟩ hq
  rw [lvs_mem] at hq
  refine h.2.2 (j, w) ?_
  unfold mkL at hq
  by_cases hj : j < (mkA vs).length
  · rw [List.getElem?_append_left hj] at hq
    have := mkA_args vs 0 j w hq
    rwa [Nat.zero_add] at this
  · rw [List.getElem?_append_right (by omega), List.getElem?_replicate] at hq
    split at hq <;> cases hq
