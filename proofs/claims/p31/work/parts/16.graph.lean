/-! ===== the sheet as a graph: orders, on what a cell rests, locks, values ===== -/
def upF (σ : gSig) (f : Nat) (g : Nat → Nat → Int32) : gSig := fun f' c' => if f' = f then g c' else σ f' c'
def upT (τ : gTau) (f : Nat) (t : Nat → Int64) : gTau := fun f' => if f' = f then t else τ f'
theorem upF_id (σ : gSig) (f : Nat) : upF σ f (σ f) = σ := by
  funext f' c'
  unfold upF
  by_cases h : f' = f
  · rw [if_pos h, h]
  · rw [if_neg h]
theorem upT_id (τ : gTau) (f : Nat) : upT τ f (τ f) = τ := by
  funext f'
  unfold upT
  by_cases h : f' = f
  · rw [if_pos h, h]
  · rw [if_neg h]
theorem upR_upF (σ : gSig) (f c : Nat) (s : Nat → Nat → Int32) (g : Nat → Int32) : upR (upF σ f s) f c g = upF σ f (fun c' => if c' = c then g else s c') := by
  funext f' c'
  unfold upR upF
  by_cases h : f' = f
  · by_cases h2 : c' = c <;> simp [h, h2]
  · simp [h]
theorem up2_upT (τ : gTau) (f i : Nat) (t : Nat → Int64) (x : Int64) : up2 (upT τ f t) f i x = upT τ f (vp_updL t i x) := by
  funext f' i'
  unfold up2 upT vp_updL
  by_cases h : f' = f
  · by_cases h2 : i' = i <;> simp [h, h2]
  · simp [h]
theorem upF_upF (σ : gSig) (f : Nat) (s s' : Nat → Nat → Int32) : upF (upF σ f s) f s' = upF σ f s' := by
  funext f' c'
  unfold upF
  by_cases h : f' = f <;> simp [h]
theorem upT_upT (τ : gTau) (f : Nat) (s s' : Nat → Int64) : upT (upT τ f s) f s' = upT τ f s' := by
  funext f'
  unfold upT
  by_cases h : f' = f <;> simp [h]
/-- an order of the first k places, each cell behind all that it reads -/
def ordI (ord : Nat → Int32) (o : Nat → Nat) (k : Nat) : Prop := ∀ i, i < k → ord i = nI (o i) ∧ o i < 16
def ordT (rd : Nat → Int32) (o : Nat → Nat) (k : Nat) : Prop := ∀ i, i < k → ∀ d, d < 16 → bt (rd (o i)) d = true → ∃ j, j < i ∧ o j = d
def ordJ (o : Nat → Nat) (k : Nat) : Prop := ∀ i j, i < k → j < k → o i = o j → i = j
def ordS (o : Nat → Nat) : Prop := ∀ c, c < 16 → ∃ i, i < 16 ∧ o i = c
/-- on what the cells rest -/
def rsE (rd ro : Nat → Int32) (c : Nat) : Prop := m16 (ro c) ∧ ∀ d, bt (ro c) d = (bt (rd c) d || anyB (fun e => bt (rd c) e && bt (ro e) d) 16)
theorem rs_rd {rd ro : Nat → Int32} {c d : Nat} (h : rsE rd ro c) (hd : bt (rd c) d = true) : bt (ro c) d = true := by rw [h.2, hd]; rfl
theorem rs_via {rd ro : Nat → Int32} {c d e : Nat} (h : rsE rd ro c) (he : e < 16) (h1 : bt (rd c) e = true) (h2 : bt (ro e) d = true) : bt (ro c) d = true := by
  rw [h.2, Bool.or_eq_true]
  exact Or.inr (anyB_true.mpr ⟨e, he, by rw [h1, h2]; rfl⟩)
theorem rs_cases {rd ro : Nat → Int32} {c d : Nat} (h : rsE rd ro c) (hd : bt (ro c) d = true) : bt (rd c) d = true ∨ ∃ e, e < 16 ∧ bt (rd c) e = true ∧ bt (ro e) d = true := by
  rw [h.2, Bool.or_eq_true] at hd
  rcases hd with hd | hd
  · exact Or.inl hd
  · obtain ⟨e, he, h2⟩ := anyB_true.mp hd
    rw [Bool.and_eq_true] at h2
    exact Or.inr ⟨e, he, h2.1, h2.2⟩
theorem rs_trans {rd ro : Nat → Int32} {o : Nat → Nat} (hT : ordT rd o 16) (hS : ordS o) (hR : ∀ c, c < 16 → rsE rd ro c) : ∀ (n i : Nat), i < n → i < 16 → ∀ e d, e < 16 → bt (ro (o i)) e = true → o i < 16 → bt (rd e) d = true → bt (ro (o i)) d = true := by
  intro n
  induction n with
  | zero => intro i h; omega
  | succ n ih =>
    intro i hi hi16 e d he h1 hoi h2
    rcases rs_cases (hR _ hoi) h1 with h3 | ⟨x, hx, h3, h4⟩
    · exact rs_via (hR _ hoi) he h3 (rs_rd (hR e he) h2)
    · obtain ⟨j, hj, rfl⟩ := hT i hi16 x hx h3
      exact rs_via (hR _ hoi) hx h3 (ih j (by omega) (by omega) e d he h4 hx h2)
/-- a set closed under reading -/
theorem rs_closed {rd ro : Nat → Int32} {o : Nat → Nat} (hT : ordT rd o 16) (hS : ordS o) (hR : ∀ c, c < 16 → rsE rd ro c) {cell e d : Nat} (hc : cell < 16) (he : e < 16) (h1 : bt (ro cell ||| b1 cell) e = true) (h2 : bt (rd e) d = true) : bt (ro cell ||| b1 cell) d = true := by
  rw [b_or, Bool.or_eq_true] at h1 ⊢
  left
  rcases h1 with h1 | h1
  · obtain ⟨i, hi, rfl⟩ := hS cell hc
    exact rs_trans hT hS hR (i + 1) i (by omega) hi e d he h1 hc h2
  · rw [bt_b1 (by omega)] at h1
    have : e = cell := by simpa using h1
    subst this
    exact rs_rd (hR e he) h2
/-- the locks along an order -/
def lkB (rd : Nat → Int32) (fl wv L : Int32) (c : Nat) : Bool := !bt wv c && (bt fl c || !decide (rd c &&& L = 0))
def lkF (rd : Nat → Int32) (fl wv : Int32) (o : Nat → Nat) : Nat → Int32
  | 0 => 0
  | i + 1 => if lkB rd fl wv (lkF rd fl wv o i) (o i) then lkF rd fl wv o i ||| b1 (o i) else lkF rd fl wv o i
theorem lkF_t {rd : Nat → Int32} {fl wv : Int32} {o : Nat → Nat} {i : Nat} (h : lkB rd fl wv (lkF rd fl wv o i) (o i) = true) : lkF rd fl wv o (i + 1) = lkF rd fl wv o i ||| b1 (o i) := if_pos h
theorem lkF_f {rd : Nat → Int32} {fl wv : Int32} {o : Nat → Nat} {i : Nat} (h : lkB rd fl wv (lkF rd fl wv o i) (o i) = false) : lkF rd fl wv o (i + 1) = lkF rd fl wv o i := if_neg (by rw [h]; decide)
/-- the lock equation -/
def lkE (rd : Nat → Int32) (fl wv L : Int32) (c : Nat) : Prop := bt L c = (!bt wv c && (bt fl c || anyB (fun d => bt (rd c) d && bt L d) 16))
theorem and_any {x y : Int32} (hx : m16 x) : (!decide (x &&& y = 0)) = anyB (fun d => bt x d && bt y d) 16 := by
  by_cases h : x &&& y = 0
  · rw [decide_eq_true h]
    rcases hq : anyB (fun d => bt x d && bt y d) 16 with _ | _
    · rfl
    · obtain ⟨d, -, h2⟩ := anyB_true.mp hq
      have h3 := b_and x y d
      rw [h, b_0] at h3
      rw [← h3] at h2
      exact absurd h2 (by decide)
  · rw [decide_eq_false h]
    obtain ⟨i, hi, h2⟩ := mask_ne0 h
    rw [b_and] at h2
    have h16 : i < 16 := by
      rcases Nat.lt_or_ge i 16 with q | q
      · exact q
      · rw [hx i q] at h2; cases h2
    exact (anyB_true.mpr ⟨i, h16, h2⟩).symm
theorem lkF_step (rd : Nat → Int32) (fl wv : Int32) (o : Nat → Nat) (i c : Nat) (hc : c < 32) (ho : o i < 16) : bt (lkF rd fl wv o (i + 1)) c = (bt (lkF rd fl wv o i) c || (decide (c = o i) && lkB rd fl wv (lkF rd fl wv o i) (o i))) := by
  cases h : lkB rd fl wv (lkF rd fl wv o i) (o i) with
  | true => rw [lkF_t h, b_or, bt_b1 (by omega), Bool.and_true]
  | false => rw [lkF_f h, Bool.and_false, Bool.or_false]
theorem lkF_m16 (rd : Nat → Int32) (fl wv : Int32) (o : Nat → Nat) (ho : ∀ i, i < 16 → o i < 16) : ∀ n, n ≤ 16 → m16 (lkF rd fl wv o n)
  | 0, _ => m16_0
  | n + 1, hn => by
    have ih := lkF_m16 rd fl wv o ho n (by omega)
    cases h : lkB rd fl wv (lkF rd fl wv o n) (o n) with
    | true => rw [lkF_t h]; exact m16_or ih (m16_b1 (ho n (by omega)))
    | false => rw [lkF_f h]; exact ih
/-- what was locked within the first n places stays; what stands in later places isn't locked yet -/
theorem lkF_late (rd : Nat → Int32) (fl wv : Int32) (o : Nat → Nat) (ho : ∀ i, i < 16 → o i < 16) : ∀ n, n ≤ 16 → ∀ c, c < 16 → (∀ i, i < n → o i ≠ c) → bt (lkF rd fl wv o n) c = false
  | 0, _, c, _, _ => b_0 c
  | n + 1, hn, c, hc, h => by
    rw [lkF_step rd fl wv o n c (by omega) (ho n (by omega)), lkF_late rd fl wv o ho n (by omega) c hc (fun i hi => h i (by omega)), decide_eq_false (fun q => h n (by omega) q.symm)]
    rfl
theorem lkF_stay (rd : Nat → Int32) (fl wv : Int32) (o : Nat → Nat) (ho : ∀ i, i < 16 → o i < 16) (hJ : ordJ o 16) : ∀ n, n ≤ 16 → ∀ i, i < n → ∀ k, k + n ≤ 16 → bt (lkF rd fl wv o (n + k)) (o i) = bt (lkF rd fl wv o n) (o i)
  | n, _, i, hi, 0, _ => rfl
  | n, hn, i, hi, k + 1, hk => by
    show bt (lkF rd fl wv o ((n + k) + 1)) (o i) = _
    rw [lkF_step rd fl wv o (n + k) (o i) (by have := ho i (by omega); omega) (ho _ (by omega)), decide_eq_false (fun q => by have := hJ i (n + k) (by omega) (by omega) q; omega)]
    rw [Bool.false_and, Bool.or_false]
    exact lkF_stay rd fl wv o ho hJ n hn i hi k (by omega)
theorem lkF_eq {rd : Nat → Int32} {fl wv : Int32} {o : Nat → Nat} (ho : ∀ i, i < 16 → o i < 16) (hJ : ordJ o 16) (hS : ordS o) (hT : ordT rd o 16) (hm : ∀ c, c < 16 → m16 (rd c)) : ∀ c, c < 16 → lkE rd fl wv (lkF rd fl wv o 16) c := by
  intro c hc
  obtain ⟨i, hi, rfl⟩ := hS c hc
  unfold lkE
  have h1 : bt (lkF rd fl wv o 16) (o i) = bt (lkF rd fl wv o (i + 1)) (o i) := by
    have := lkF_stay rd fl wv o ho hJ (i + 1) (by omega) i (by omega) (16 - (i + 1)) (by omega)
    rw [show i + 1 + (16 - (i + 1)) = 16 by omega] at this
    exact this
  rw [h1, lkF_step rd fl wv o i (o i) (by have := ho i hi; omega) (ho i hi), lkF_late rd fl wv o ho i (by omega) (o i) (ho i hi) (fun j hj q => by have := hJ j i (by omega) hi q; omega), decide_eq_true rfl, Bool.true_and, Bool.false_or]
  unfold lkB
  rw [and_any (hm _ hc)]
  congr 2
  apply anyB_congr
  intro d hd
  cases hr : bt (rd (o i)) d with
  | false => rfl
  | true =>
    obtain ⟨j, hj, rfl⟩ := hT i hi d hd hr
    have := lkF_stay rd fl wv o ho hJ i (by omega) j hj (16 - i) (by omega)
    rw [show i + (16 - i) = 16 by omega] at this
    rw [this]
/-- one solution alone -/
theorem lkE_one {rd : Nat → Int32} {fl wv L L' : Int32} {rk : Nat → Nat} (hrk : ∀ c d, c < 16 → d < 16 → bt (rd c) d = true → rk d < rk c) (h : ∀ c, c < 16 → lkE rd fl wv L c) (h' : ∀ c, c < 16 → lkE rd fl wv L' c) : ∀ n c, c < 16 → rk c < n → bt L c = bt L' c := by
  intro n
  induction n with
  | zero => intro c _ h; omega
  | succ n ih =>
    intro c hc hn
    rw [h c hc, h' c hc]
    congr 2
    apply anyB_congr
    intro d hd
    cases hr : bt (rd c) d with
    | false => rfl
    | true =>
      have := hrk c d hc hd hr
      rw [ih d hd (by omega)]
/-- an order gives a rank -/
theorem ord_rk {rd : Nat → Int32} {o : Nat → Nat} (hJ : ordJ o 16) (hS : ordS o) (hT : ordT rd o 16) : ∃ rk : Nat → Nat, (∀ c, c < 16 → rk c < 16) ∧ ∀ c d, c < 16 → d < 16 → bt (rd c) d = true → rk d < rk c := by
  have hx : ∀ c, ∃ i, c < 16 → i < 16 ∧ o i = c := fun c => by
    by_cases h : c < 16
    · obtain ⟨i, hi⟩ := hS c h
      exact ⟨i, fun _ => hi⟩
    · exact ⟨0, fun q => absurd q h⟩
  refine ⟨fun c => Classical.choose (hx c), fun c hc => (Classical.choose_spec (hx c) hc).1, fun c d hc hd hr => ?_⟩
  obtain ⟨h1, h2⟩ := Classical.choose_spec (hx c) hc
  obtain ⟨h3, h4⟩ := Classical.choose_spec (hx d) hd
  rw [← h2] at hr
  obtain ⟨j, hj, e⟩ := hT _ h1 d hd hr
  have : j = Classical.choose (hx d) := hJ _ _ (by omega) h3 (e.trans h4.symm)
  show Classical.choose (hx d) < Classical.choose (hx c)
  omega
/-! what the class's sheet keeps -/
def flen (σ : gSig) (c : Nat) : Nat := (σ 1 c 3).toNatClampNeg
/-- a cell's formula stands as it should -/
def frK (σ : gSig) (c : Nat) : Prop := σ 1 c 3 = nI (flen σ c) ∧ 1 ≤ flen σ c ∧ flen σ c ≤ 12 ∧ okP (σ 2 c) (σ 3 c) (flen σ c) ∧ dep (σ 2 c) (flen σ c) = 1
def rdK (σ : gSig) (c : Nat) : Prop := (bt (σ 5 0 8) c = true → σ 7 3 c = 0) ∧ (bt (σ 5 0 8) c = false → frK σ c ∧ σ 7 3 c = rsM (σ 2 c) (σ 3 c) (flen σ c))
def shK (σ : gSig) (o : Nat → Nat) : Prop := ordI (σ 7 5) o 16 ∧ ordT (σ 7 3) o 16 ∧ ordJ o 16 ∧ ordS o ∧ (∀ c, c < 16 → rsE (σ 7 3) (σ 7 4) c) ∧ (∀ c, c < 16 → rdK σ c) ∧ m16 (σ 5 0 8)
/-- the values of all cells by a row of inputs -/
def vEq (σ : gSig) (row : Nat → Int32) (V : Nat → Option Int32) : Prop := ∀ c, c < 16 → V c = if bt (σ 5 0 8) c then some (row c) else evF V (σ 2 c) (σ 3 c) (flen σ c)
theorem rsM_in {kd nm : Nat → Int32} {n i d : Nat} (h : ∀ i, i < n → kd i = 13 → isC (nm i)) (hi : i < n) (hk : kd i = 13) (hn : nm i = nI d) (hd : d < 16) : bt (rsM kd nm n) d = true := by
  rw [rsM_bt kd nm n h]
  exact anyB_true.mpr ⟨i, hi, by simp [hk, hn, hd]⟩
theorem rdK_m16 {σ : gSig} {c : Nat} (h : rdK σ c) : m16 (σ 7 3 c) := by
  cases hb : bt (σ 5 0 8) c with
  | true => rw [h.1 hb]; exact m16_0
  | false =>
    obtain ⟨h1, h2⟩ := h.2 hb
    rw [h2]
    exact rsM_m16 _ _ _ (fun i hi => (h1.2.2.2.1 i hi).2.2)
