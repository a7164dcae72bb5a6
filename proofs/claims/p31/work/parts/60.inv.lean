/-! ===== what holds between the turns of the law ===== -/
/-- formulas read lower cells alone -/
def loK (σ : gSig) : Prop := ∀ c, c < 16 → ∀ d, bt (σ 7 3 c) d = true → d < c
/-- nothing is divided -/
def ndK (σ : gSig) : Prop := ∀ c, c < 16 → bt (σ 5 0 8) c = false → ∀ i, i < flen σ c → ¬ σ 2 c i = 3
/-- the law's rows: which cells have formulas, and their ranges -/
def lrK (σ : gSig) : Prop := ∀ c, c < 16 → (bt (σ 5 0 8) c = true → σ 19 0 c = 0 ∧ σ 7 0 c = σ 19 1 c ∧ σ 7 1 c = σ 19 2 c) ∧ (bt (σ 5 0 8) c = false → σ 19 0 c = 1) ∧ (-1000 : Int) ≤ (σ 19 1 c).toInt ∧ (σ 19 1 c).toInt ≤ 1000 ∧ (σ 19 1 c).toInt ≤ (σ 19 2 c).toInt ∧ (σ 19 2 c).toInt ≤ (σ 19 1 c).toInt + 299
/-- .. and how many properties were told -/
def ltK (σ : gSig) : Prop := ∀ c, c < 16 → ∃ q, plK σ c q ∧ σ 19 3 c = nI q
/-- what trials left -/
def lvK (σ : gSig) : Prop := m16 (σ 13 0 5) ∧ m16 (σ 13 0 6) ∧ ∀ c, c < 16 → bt (σ 13 0 6) c = true → (∃ p, p ≤ 4 ∧ σ 14 1 c = nI p) ∧ ∃ t, t ≤ 60 ∧ σ 14 2 c = nI t
/-- today, by the turns -/
def ldK (σ : gSig) (T : Nat) : Prop := ∃ dd, dd ≤ 3 * T ∧ σ 17 0 3 = nI dd
def shE (σ : gSig) : Prop := ∃ o, shK σ o
def Inv (σ : gSig) (T : Nat) : Prop := shE σ ∧ loK σ ∧ ndK σ ∧ lrK σ ∧ ltK σ ∧ lvK σ ∧ ldK σ T
/-! frames -/
theorem shE_of {σ σ' : gSig} (h1 : ∀ c, c < 16 → σ' 1 c 3 = σ 1 c 3) (h2 : ∀ c, c < 16 → σ' 2 c = σ 2 c) (h3 : ∀ c, c < 16 → σ' 3 c = σ 3 c) (h5 : σ' 5 0 8 = σ 5 0 8) (h73 : σ' 7 3 = σ 7 3) (h74 : σ' 7 4 = σ 7 4) (h75 : σ' 7 5 = σ 7 5) (h : shE σ) : shE σ' := by
  obtain ⟨o, hK⟩ := h
  exact ⟨o, shK_of16 h1 h2 h3 h5 h73 h74 h75 hK⟩
theorem loK_of {σ σ' : gSig} (h73 : σ' 7 3 = σ 7 3) (h : loK σ) : loK σ' := by unfold loK at *; rw [h73]; exact h
theorem ndK_of {σ σ' : gSig} (h1 : ∀ c, c < 16 → σ' 1 c 3 = σ 1 c 3) (h2 : ∀ c, c < 16 → σ' 2 c = σ 2 c) (h5 : σ' 5 0 8 = σ 5 0 8) (h : ndK σ) : ndK σ' := fun c hc hb i hi => by
  unfold flen at hi
  rw [h1 c hc] at hi
  rw [h5] at hb
  rw [h2 c hc]
  exact h c hc hb i hi
theorem lrK_of {σ σ' : gSig} (h5 : σ' 5 0 8 = σ 5 0 8) (h70 : σ' 7 0 = σ 7 0) (h71 : σ' 7 1 = σ 7 1) (h190 : σ' 19 0 = σ 19 0) (h191 : σ' 19 1 = σ 19 1) (h192 : σ' 19 2 = σ 19 2) (h : lrK σ) : lrK σ' := by
  unfold lrK at *
  rw [h5, h70, h71, h190, h191, h192]
  exact h
theorem ltK_of {σ σ' : gSig} (h10 : ∀ c, c < 16 → σ' 10 c 2 = σ 10 c 2) (h11 : ∀ c, c < 16 → σ' 11 c = σ 11 c) (h12 : ∀ c, c < 16 → σ' 12 c = σ 12 c) (h193 : σ' 19 3 = σ 19 3) (h : ltK σ) : ltK σ' := fun c hc => by
  obtain ⟨q, h1, h2⟩ := h c hc
  refine ⟨q, ?_, by rw [h193]; exact h2⟩
  unfold plK at *
  rw [h10 c hc, h11 c hc, h12 c hc]
  exact h1
theorem lvK_of {σ σ' : gSig} (h5 : σ' 13 0 5 = σ 13 0 5) (h6 : σ' 13 0 6 = σ 13 0 6) (h1 : σ' 14 1 = σ 14 1) (h2 : σ' 14 2 = σ 14 2) (h : lvK σ) : lvK σ' := by
  unfold lvK at *
  rw [h5, h6, h1, h2]
  exact h
theorem ldK_of {σ σ' : gSig} {T T' : Nat} (h : σ' 17 0 3 = σ 17 0 3) (hT : T ≤ T') (h1 : ldK σ T) : ldK σ' T' := by
  obtain ⟨dd, h2, h3⟩ := h1
  exact ⟨dd, by omega, by rw [h]; exact h3⟩
/-- only the stacks, the row and the number drawn, the values, owners and waivers, examples, what was unlocked are another: all holds -/
theorem Inv_of {σ σ' : gSig} {T T' : Nat} (h1 : ∀ c, c < 16 → σ' 1 c 3 = σ 1 c 3) (h2 : ∀ c, c < 16 → σ' 2 c = σ 2 c) (h3 : ∀ c, c < 16 → σ' 3 c = σ 3 c) (h5 : σ' 5 0 8 = σ 5 0 8) (h70 : σ' 7 0 = σ 7 0) (h71 : σ' 7 1 = σ 7 1) (h73 : σ' 7 3 = σ 7 3) (h74 : σ' 7 4 = σ 7 4) (h75 : σ' 7 5 = σ 7 5)
    (h10 : ∀ c, c < 16 → σ' 10 c 2 = σ 10 c 2) (h11 : ∀ c, c < 16 → σ' 11 c = σ 11 c) (h12 : ∀ c, c < 16 → σ' 12 c = σ 12 c) (h135 : σ' 13 0 5 = σ 13 0 5) (h136 : σ' 13 0 6 = σ 13 0 6) (h141 : σ' 14 1 = σ 14 1) (h142 : σ' 14 2 = σ 14 2) (h17 : σ' 17 0 3 = σ 17 0 3) (h19 : σ' 19 = σ 19) (hT : T ≤ T') (h : Inv σ T) : Inv σ' T' := by
  obtain ⟨a, b, c, d, e, f, g⟩ := h
  exact ⟨shE_of h1 h2 h3 h5 h73 h74 h75 a, loK_of h73 b, ndK_of h1 h2 h5 c, lrK_of h5 h70 h71 (by rw [h19]) (by rw [h19]) (by rw [h19]) d, ltK_of h10 h11 h12 (by rw [h19]) e, lvK_of h135 h136 h141 h142 f, ldK_of h17 hT g⟩
/-! what follows -/
theorem inv_rg {σ : gSig} (h : lrK σ) : rgK (inpC σ) (σ 7 0) (σ 7 1) := fun c hc hi => by
  obtain ⟨h1, -, h3, h4, h5, h6⟩ := h c hc
  obtain ⟨-, e1, e2⟩ := h1 hi
  rw [e1, e2, fa_le, fa_le, fa_le]
  have z1 : (-1000000 : Int32).toInt = -1000000 := by decide
  have z2 : (1000000 : Int32).toInt = 1000000 := by decide
  omega
/-- on what a cell rests lies below it -/
theorem lo_rest {σ : gSig} {o : Nat → Nat} (hK : shK σ o) (h : loK σ) : ∀ n c, c < n → c < 16 → ∀ d, bt (σ 7 4 c) d = true → d < c := by
  intro n
  induction n with
  | zero => intro c hc; omega
  | succ n ih =>
    intro c hcn hc d hd
    rcases rs_cases (hK.2.2.2.2.1 c hc) hd with q | ⟨e, he, q1, q2⟩
    · exact h c hc d q
    · have h1 := h c hc e q1
      have h2 := ih e (by omega) he d q2
      omega
theorem op_some {o : Int32} (h : ¬ o = 3) (a b : Int32) : ∃ x, opF o a b = some x := by
  unfold opF
  by_cases h0 : o = 0
  · rw [if_pos h0]; exact ⟨_, rfl⟩
  rw [if_neg h0]
  by_cases h1 : o = 1
  · rw [if_pos h1]; exact ⟨_, rfl⟩
  rw [if_neg h1]
  by_cases h2 : o = 2
  · rw [if_pos h2]; exact ⟨_, rfl⟩
  rw [if_neg h2, if_neg h]
  by_cases h4 : o = 4
  · rw [if_pos h4]; exact ⟨_, rfl⟩
  rw [if_neg h4]
  by_cases h5 : o = 5
  · rw [if_pos h5]; exact ⟨_, rfl⟩
  rw [if_neg h5]
  by_cases h6 : o = 6
  · rw [if_pos h6]; exact ⟨_, rfl⟩
  rw [if_neg h6]
  by_cases h7 : o = 7
  · rw [if_pos h7]; exact ⟨_, rfl⟩
  rw [if_neg h7]
  by_cases h8 : o = 8
  · rw [if_pos h8]; exact ⟨_, rfl⟩
  rw [if_neg h8]
  by_cases h9 : o = 9
  · rw [if_pos h9]; exact ⟨_, rfl⟩
  rw [if_neg h9]
  by_cases h10 : o = 10
  · rw [if_pos h10]; exact ⟨_, rfl⟩
  rw [if_neg h10]
  exact ⟨_, rfl⟩
theorem kd_lt {kd : Int32} (h1 : kd ≤ 13) (e1 : ¬ kd = 12) (e2 : ¬ kd = 13) : kd < 12 := by
  rcases Classical.em (kd < 12) with q | q
  · exact q
  · rcases kd_cases h1 q with z | z
    · exact absurd z e1
    · exact absurd z e2
/-- a formula without a division has a value, where what it reads has one -/
theorem evN_def {V : Nat → Option Int32} {kd nm : Nat → Int32} {n : Nat} (hP : okP kd nm n) (hnd : ∀ i, i < n → ¬ kd i = 3) (hV : ∀ i, i < n → kd i = 13 → ∃ v, V (nm i).toNatClampNeg = some v) : ∀ i, i ≤ n → ∃ st, evN V kd nm i = some st
  | 0, _ => ⟨[], rfl⟩
  | i + 1, hi => by
    obtain ⟨st, hst⟩ := evN_def hP hnd hV i (by omega)
    have hl := evN_len (n := n) (fun j hj q => kd_cases (hP j hj).1.2 q) i (by omega) st hst
    obtain ⟨⟨k0, k13⟩, hop, hce⟩ := hP i (by omega)
    show ∃ s2, (evN V kd nm i).bind (evS V (kd i) (nm i)) = some s2
    rw [hst]
    show ∃ s2, evS V (kd i) (nm i) st = some s2
    by_cases e1 : kd i = 12
    · unfold evS
      rw [if_pos e1]; exact ⟨_, rfl⟩
    by_cases e2 : kd i = 13
    · obtain ⟨v, hv⟩ := hV i (by omega) e2
      unfold evS
      rw [if_neg e1, if_pos e2, hv]
      exact ⟨_, rfl⟩
    have h2 := hop (kd_lt k13 e1 e2)
    obtain ⟨b, a, r, hsr⟩ : ∃ b a r, st = b :: a :: r := by
      match st, hl with
      | b :: a :: r, _ => exact ⟨b, a, r, rfl⟩
      | [b], q => simp at q; omega
      | [], q => simp at q; omega
    subst hsr
    obtain ⟨x, hx⟩ := op_some (hnd i (by omega)) a b
    unfold evS
    rw [if_neg e1, if_neg e2]
    show ∃ s2, (opF (kd i) a b).map (fun x => x :: r) = some s2
    rw [hx]
    exact ⟨_, rfl⟩
/-- no value is a fault -/
theorem gV_some {σ : gSig} {o : Nat → Nat} (hK : shK σ o) (hlo : loK σ) (hnd : ndK σ) (row : Nat → Int32) : ∀ n c, c < n → c < 16 → ∃ v, gV σ row c = some v := by
  intro n
  induction n with
  | zero => intro c hc; omega
  | succ n ih =>
    intro c hcn hc
    rw [gV_eq hK row c hc]
    cases hb : bt (σ 5 0 8) c with
    | true => exact ⟨row c, rfl⟩
    | false =>
      obtain ⟨⟨f1, f2, f3, f4, f5⟩, f6⟩ := (hK.2.2.2.2.2.1 c hc).2 hb
      show ∃ v, evF (gV σ row) (σ 2 c) (σ 3 c) (flen σ c) = some v
      obtain ⟨st, hst⟩ := evN_def (V := gV σ row) f4 (hnd c hc hb) (fun i hi hk => by
        obtain ⟨d, hd, e⟩ := isC_nI ((f4 i hi).2.2 hk)
        have hr : bt (σ 7 3 c) d = true := by
          rw [f6]
          exact rsM_in (fun z hz => (f4 z hz).2.2) hi hk e hd
        have h1 := hlo c hc d hr
        rw [e, nI_clamp (by omega)]
        exact ih d (by omega) hd) (flen σ c) (Nat.le_refl _)
      have hl := evN_len (n := flen σ c) (fun j hj q => kd_cases (f4 j hj).1.2 q) (flen σ c) (Nat.le_refl _) st hst
      rw [f5] at hl
      unfold evF
      rw [hst]
      match st, hl with
      | [x], _ => exact ⟨x, rfl⟩
      | [], q => simp at q
      | _ :: _ :: _, q => simp at q
theorem sh_m16 {σ : gSig} {o : Nat → Nat} (hK : shK σ o) {c : Nat} (hc : c < 16) : m16 (σ 7 3 c) := rdK_m16 (hK.2.2.2.2.2.1 c hc)
theorem lk_eq {σ : gSig} {o : Nat → Nat} (hK : shK σ o) {c : Nat} (hc : c < 16) : lkE (σ 7 3) (σ 13 0 6) (wvF (σ 18 1) (σ 17 0 3) 16) (lcC σ o) c := lkF_eq (fun i hi => (hK.1 i hi).2) hK.2.2.1 hK.2.2.2.1 hK.2.1 (fun z hz => sh_m16 hK hz) c hc
theorem lc_m16 {σ : gSig} {o : Nat → Nat} (hK : shK σ o) : m16 (lcC σ o) := lkF_m16 _ _ _ o (fun i hi => (hK.1 i hi).2) 16 (Nat.le_refl _)
/-- locked the same by spreading and by ways -/
theorem inv_ways {σ : gSig} {o : Nat → Nat} (hK : shK σ o) (hf : m16 (σ 13 0 6)) {c : Nat} (hc : c < 16) : lwC σ c = bt (lcC σ o) c := by
  obtain ⟨rk, hk, hrk⟩ := ord_rk hK.2.2.1 hK.2.2.2.1 hK.2.1
  exact ways_lk (fun z hz => sh_m16 hK hz) hf hk hrk (fun z hz => lk_eq hK hz) hc
/-- marks -/
theorem mk_iff {σ : gSig} {o : Nat → Nat} (hK : shK σ o) {c : Nat} (hc : c < 16) : mkC σ c = true ↔ ∃ d, d < 16 ∧ (bt (σ 7 4 c) d = true ∨ d = c) ∧ bt (σ 13 0 6) d = true := by
  unfold mkC
  rw [and_any (m16_or (hK.2.2.2.2.1 c hc).1 (m16_b1 hc)), anyB_true]
  refine exists_congr (fun d => and_congr Iff.rfl ?_)
  rw [Bool.and_eq_true, b_or, Bool.or_eq_true, bt_b1 (by omega), decide_eq_true_iff]
theorem lk_mark {σ : gSig} {o : Nat → Nat} (hK : shK σ o) (hlo : loK σ) : ∀ n c, c < n → c < 16 → bt (lcC σ o) c = true → mkC σ c = true := by
  intro n
  induction n with
  | zero => intro c hc; omega
  | succ n ih =>
    intro c hcn hc hl
    rw [lk_eq hK hc, Bool.and_eq_true, Bool.or_eq_true] at hl
    rw [mk_iff hK hc]
    rcases hl.2 with h | h
    · exact ⟨c, hc, Or.inr rfl, h⟩
    · obtain ⟨d, hd, h2⟩ := anyB_true.mp h
      rw [Bool.and_eq_true] at h2
      have h3 := hlo c hc d h2.1
      obtain ⟨e, he, h4, h5⟩ := (mk_iff hK hd).mp (ih d (by omega) hd h2.2)
      refine ⟨e, he, Or.inl ?_, h5⟩
      rcases h4 with h4 | h4
      · exact rs_via (hK.2.2.2.2.1 c hc) hd h2.1 h4
      · rw [h4]; exact rs_rd (hK.2.2.2.2.1 c hc) h2.1
theorem fl_mark {σ : gSig} {o : Nat → Nat} (hK : shK σ o) {c : Nat} (hc : c < 16) (h : bt (σ 13 0 6) c = true) : mkC σ c = true := (mk_iff hK hc).mpr ⟨c, hc, Or.inr rfl, h⟩
/-- fewer are locked behind a waiver -/
theorem cnB_mono {p q : Nat → Bool} : ∀ {n : Nat}, (∀ i, i < n → p i = true → q i = true) → cnB p n ≤ cnB q n
  | 0, _ => Nat.le_refl _
  | n + 1, h => by
    have ih := cnB_mono (p := p) (q := q) (n := n) (fun i hi => h i (by omega))
    have h1 := h n (by omega)
    unfold cnB
    cases hp : p n with
    | false => simp; omega
    | true => rw [h1 hp]; simp; omega
theorem cnB_lt {p q : Nat → Bool} {j : Nat} (hj1 : p j = false) (hj2 : q j = true) : ∀ {n : Nat}, (∀ i, i < n → p i = true → q i = true) → j < n → cnB p n < cnB q n
  | 0, _, hj => absurd hj (Nat.not_lt_zero j)
  | n + 1, h, hj => by
    unfold cnB
    by_cases e : j = n
    · subst e
      have ih := cnB_mono (p := p) (q := q) (n := j) (fun i hi => h i (by omega))
      rw [hj1, hj2]
      simp
      omega
    · have ih := cnB_lt hj1 hj2 (n := n) (fun i hi => h i (by omega)) (by omega)
      have h1 := h n (by omega)
      cases hp : p n with
      | false => simp; omega
      | true => rw [h1 hp]; simp; omega
abbrev wvS (σ : gSig) (c : Nat) (dy : Int32) : gSig := up3 σ 18 1 c (σ 17 0 3 + dy)
theorem wv_bt {σ : gSig} {c : Nat} {dy : Int32} (hday : σ 17 0 3 ≤ σ 17 0 3 + dy) {e : Nat} (he : e < 16) : bt (wvF ((wvS σ c dy) 18 1) ((wvS σ c dy) 17 0 3) 16) e = (decide (e = c) || bt (wvF (σ 18 1) (σ 17 0 3) 16) e) := by
  rw [wvF_bt _ _ e 16 (Nat.le_refl _), wvF_bt _ _ e 16 (Nat.le_refl _), show (wvS σ c dy) 17 0 3 = σ 17 0 3 from rfl, show (wvS σ c dy) 18 1 e = if e = c then σ 17 0 3 + dy else σ 18 1 e from up3_i2 _ _ _ _ _ _, decide_eq_true he, Bool.true_and, Bool.true_and]
  by_cases h : e = c
  · rw [if_pos h, decide_eq_true h, decide_eq_true hday]; rfl
  · rw [if_neg h, decide_eq_false h]; rfl
theorem wv_sub {σ : gSig} {o : Nat → Nat} {c : Nat} {dy : Int32} (hK : shK σ o) (hlo : loK σ) (hday : σ 17 0 3 ≤ σ 17 0 3 + dy) : ∀ n e, e < n → e < 16 → bt (lcC (wvS σ c dy) o) e = true → e ≠ c ∧ bt (lcC σ o) e = true := by
  intro n
  induction n with
  | zero => intro e he; omega
  | succ n ih =>
    intro e hen he hl
    have hK2 : shK (wvS σ c dy) o := hK
    rw [lk_eq hK2 he, wv_bt hday he, Bool.and_eq_true, Bool.or_eq_true] at hl
    obtain ⟨h1, h2⟩ := hl
    rw [Bool.not_or, Bool.and_eq_true] at h1
    refine ⟨by simpa using h1.1, ?_⟩
    rw [lk_eq hK he, h1.2, Bool.true_and, Bool.or_eq_true]
    rcases h2 with h2 | h2
    · exact Or.inl h2
    · right
      obtain ⟨d, hd, h3⟩ := anyB_true.mp h2
      rw [Bool.and_eq_true] at h3
      have h4 := hlo e he d h3.1
      exact anyB_true.mpr ⟨d, hd, by rw [show bt (σ 7 3 e) d = true from h3.1, (ih d (by omega) hd h3.2).2]; rfl⟩
theorem wv_lt {σ : gSig} {o : Nat → Nat} {c : Nat} {dy : Int32} (hK : shK σ o) (hlo : loK σ) (hday : σ 17 0 3 ≤ σ 17 0 3 + dy) (hc : c < 16) (hl : bt (lcC σ o) c = true) : bt (lcC (wvS σ c dy) o) c = false ∧ bcJ (lcC (wvS σ c dy) o) < bcJ (lcC σ o) := by
  have hK2 : shK (wvS σ c dy) o := hK
  have h0 : bt (lcC (wvS σ c dy) o) c = false := by
    cases hb : bt (lcC (wvS σ c dy) o) c with
    | false => rfl
    | true => exact absurd rfl (wv_sub hK hlo hday 16 c hc hc hb).1
  refine ⟨h0, ?_⟩
  rw [bcJ_cn (lc_m16 hK2), bcJ_cn (lc_m16 hK)]
  have h1 := cnB_le (bt (lcC σ o)) 16
  have h2 := cnB_le (bt (lcC (wvS σ c dy) o)) 16
  exact (nI_ltI (by omega) (by omega)).mpr (cnB_lt h0 hl (fun i hi h => (wv_sub hK hlo hday 16 i hi hi h).2) hc)
