/-! ===== the relation: properties, rows of trials, rows made smaller ===== -/
theorem Ag.refl {σ : gSig} (row : Nat → Int32) : Ag σ row row := fun _ _ _ => rfl
theorem rel_inp {σ : gSig} (h : rSh σ) {c : Nat} (hc : c < 16) : inpC σ c = mIn σ c := (h.2.2.2 c hc).1
theorem rel_prH {σ : gSig} (h : rSh σ) {row row' : Nat → Int32} (hA : Ag σ row row') {c : Nat} (hc : c < 16) {kd n : Int32} (hk0 : ¬ kd < 0) (hk3 : kd ≤ 3) (hn : kd = 2 ∨ kd = 3 → isC n) : prH (gV σ) (inpC σ) (σ 7 1) c kd n row = prH (mV σ) (mIn σ) (σ 20 6) c kd n row' := by
  unfold prH
  rw [rel_V h hA c hc]
  cases hv : mV σ row' c with
  | none => rfl
  | some v =>
    simp only
    by_cases e0 : kd = 0
    · rw [if_pos e0, if_pos e0]
    rw [if_neg e0, if_neg e0]
    by_cases e1 : kd = 1
    · rw [if_pos e1, if_pos e1]
    rw [if_neg e1, if_neg e1]
    by_cases e2 : kd = 2
    · obtain ⟨m, hm, rfl⟩ := isC_nI (hn (Or.inl e2))
      rw [if_pos e2, if_pos e2, nI_clamp (by omega), rel_V h hA m hm]
    rw [if_neg e2, if_neg e2]
    have e3 : kd = 3 := kd_3 hk0 hk3 e0 e1 e2
    obtain ⟨m, hm, rfl⟩ := isC_nI (hn (Or.inr e3))
    rw [nI_clamp (by omega), rel_inp h hm]
    cases hb : mIn σ m with
    | false => simp
    | true =>
      rw [hA m hm hb, (h.2.2.2 m hm).2.2.1]
      simp only [Bool.true_eq_false, false_or]
      by_cases e4 : σ 20 6 m ≤ row' m
      · rw [if_pos e4, if_pos e4]
      · rw [if_neg e4, if_neg e4, rel_V h (Ag_upd hA m (fun _ _ => rfl)) c hc]
theorem rel_prC {σ : gSig} (h : rSh σ) (hP : rPr σ) {row row' : Nat → Int32} (hA : Ag σ row row') {c q p : Nat} (hc : c < 16) (hq : plK σ c q) (hp : p < q) : prC σ c p c row = prM σ c p row' := by
  obtain ⟨q2, h1, h2, h3⟩ := hP c hc
  have e : q2 = q := (nI_eq (by have := h1.2.1; omega) (by have := hq.2.1; omega)).mp (h1.1.symm.trans hq.1)
  subst e
  obtain ⟨f1, f2⟩ := h3 p hp
  obtain ⟨⟨g1, g2⟩, g3⟩ := hq.2.2 p hp
  unfold prC prM
  rw [← f1, ← f2]
  exact rel_prH h hA hc g1 g2 g3
/-- rows filled on both sides -/
theorem rel_frF {σ : gSig} (h : rSh σ) (a d : Nat) {row row' : Nat → Int32} : ∀ n, n ≤ 16 → (frF (inpC σ) (σ 7 0) (σ 7 1) a row d n).2 = (frF (mIn σ) (σ 20 5) (σ 20 6) a row' d n).2 ∧ ∀ c, c < 16 → mIn σ c = true → (c < n → (frF (inpC σ) (σ 7 0) (σ 7 1) a row d n).1 c = (frF (mIn σ) (σ 20 5) (σ 20 6) a row' d n).1 c)
  | 0, _ => ⟨rfl, fun c _ _ h => absurd h (Nat.not_lt_zero c)⟩
  | n + 1, hn => by
    obtain ⟨h1, h2⟩ := rel_frF h a d (row := row) (row' := row') n (by omega)
    have hi := rel_inp h (show n < 16 by omega)
    obtain ⟨-, e5, e6, -⟩ := h.2.2.2 n (by omega)
    cases hb : mIn σ n with
    | true =>
      rw [frF_t (hi.trans hb), frF_t hb]
      refine ⟨by rw [h1], fun c hc hc2 hcn => ?_⟩
      show upd _ n _ c = upd _ n _ c
      unfold upd
      by_cases e : c = n
      · rw [if_pos e, if_pos e, h1, e5, e6]
      · rw [if_neg e, if_neg e]
        exact h2 c hc hc2 (by omega)
    | false =>
      rw [frF_f (hi.trans hb), frF_f hb]
      refine ⟨h1, fun c hc hc2 hcn => h2 c hc hc2 ?_⟩
      rcases Nat.lt_or_ge c n with q | q
      · exact q
      · have : c = n := by omega
        rw [this, hb] at hc2; cases hc2
theorem rel_trR2 {σ : gSig} (h : rSh σ) (d : Nat) {row row' : Nat → Int32} : ∀ a, (trR (inpC σ) (σ 7 0) (σ 7 1) row d a).2 = (trR (mIn σ) (σ 20 5) (σ 20 6) row' d a).2
  | 0 => rfl
  | a + 1 => by
    show (frF _ _ _ a _ _ 16).2 = (frF _ _ _ a _ _ 16).2
    rw [rel_trR2 h d a]
    exact (rel_frF h a _ 16 (Nat.le_refl _)).1
theorem rel_trR {σ : gSig} (h : rSh σ) (d : Nat) {row row' : Nat → Int32} (a : Nat) : Ag σ (trR (inpC σ) (σ 7 0) (σ 7 1) row d (a + 1)).1 (trR (mIn σ) (σ 20 5) (σ 20 6) row' d (a + 1)).1 := fun c hc hi => by
  show (frF _ _ _ a _ _ 16).1 c = (frF _ _ _ a _ _ 16).1 c
  rw [rel_trR2 h d a]
  exact (rel_frF h a _ 16 (Nat.le_refl _)).2 c hc hi hc
/-- one step smaller on both sides -/
def AgO (σ : gSig) (r r' : Option (Nat → Int32)) : Prop := match r, r' with
  | none, none => True
  | some a, some b => Ag σ a b
  | _, _ => False
theorem rel_dlF {σ : gSig} {h h' : (Nat → Int32) → Bool} (hh : ∀ r r', Ag σ r r' → h r = h' r') {row row' : Nat → Int32} (hA : Ag σ row row') {c : Nat} (hc : c < 16) (hi : mIn σ c = true) : ∀ f l, AgO σ (dlF h row c f l) (dlF h' row' c f l)
  | 0, _ => trivial
  | f + 1, l => by
    unfold dlF
    by_cases e : l = 0
    · rw [if_pos e, if_pos e]; trivial
    · rw [if_neg e, if_neg e]
      have hA2 : Ag σ (upd row c (row c - nI l)) (upd row' c (row' c - nI l)) := Ag_upd hA c (fun _ _ => by rw [hA c hc hi])
      rw [← hh _ _ hA2]
      by_cases e2 : h (upd row c (row c - nI l)) = false
      · rw [if_pos e2, if_pos e2]; exact hA2
      · rw [if_neg e2, if_neg e2]; exact rel_dlF hh hA hc hi f (l / 2)
theorem rel_ssF {σ : gSig} (hS : rSh σ) {h h' : (Nat → Int32) → Bool} (hh : ∀ r r', Ag σ r r' → h r = h' r') {row row' : Nat → Int32} (hA : Ag σ row row') : ∀ k n, n + k ≤ 16 → AgO σ (ssF (inpC σ) (σ 7 0) h row k n) (ssF (mIn σ) (σ 20 5) h' row' k n)
  | 0, _, _ => trivial
  | k + 1, n, hn => by
    have ih := rel_ssF hS hh hA k (n + 1) (by omega)
    have hi := rel_inp hS (show n < 16 by omega)
    obtain ⟨-, e5, -, -⟩ := hS.2.2.2 n (by omega)
    cases hb : mIn σ n with
    | false => rw [ssF_no (hi.trans hb), ssF_no hb]; exact ih
    | true =>
      have hd := rel_dlF hh hA (show n < 16 by omega) hb 32 (row n - σ 7 0 n).toNatClampNeg
      have e9 : (row n - σ 7 0 n).toNatClampNeg = (row' n - σ 20 5 n).toNatClampNeg := by rw [hA n (by omega) hb, e5]
      cases h1 : dlF h row n 32 (row n - σ 7 0 n).toNatClampNeg with
      | none =>
        rw [h1] at hd
        cases h2 : dlF h' row' n 32 (row n - σ 7 0 n).toNatClampNeg with
        | some r => rw [h2] at hd; exact hd.elim
        | none =>
          rw [e9] at h2
          rw [ssF_miss (hi.trans hb) h1, ssF_miss hb h2]
          exact ih
      | some r =>
        rw [h1] at hd
        cases h2 : dlF h' row' n 32 (row n - σ 7 0 n).toNatClampNeg with
        | none => rw [h2] at hd; exact hd.elim
        | some r2 =>
          rw [h2] at hd
          rw [e9] at h2
          rw [ssF_hit (hi.trans hb) h1, ssF_hit hb h2]
          exact hd
theorem rel_msF {σ : gSig} {s s' : (Nat → Int32) → Option (Nat → Int32)} (hs : ∀ r r', Ag σ r r' → AgO σ (s r) (s' r')) : ∀ k {row row' : Nat → Int32}, Ag σ row row' → (msF s k row).1 = (msF s' k row').1 ∧ Ag σ (msF s k row).2 (msF s' k row').2
  | 0, _, _, h => ⟨rfl, h⟩
  | k + 1, row, row', h => by
    have h1 := hs row row' h
    cases e : s row with
    | none =>
      rw [e] at h1
      cases e2 : s' row' with
      | some r => rw [e2] at h1; exact h1.elim
      | none => rw [msF_none e, msF_none e2]; exact ⟨rfl, h⟩
    | some r =>
      rw [e] at h1
      cases e2 : s' row' with
      | none => rw [e2] at h1; exact h1.elim
      | some r2 =>
        rw [e2] at h1
        rw [msF_some e, msF_some e2]
        obtain ⟨a, b⟩ := rel_msF hs k h1
        exact ⟨by rw [a], b⟩
/-- the steps of a trial's row on both sides -/
theorem rel_ss {σ : gSig} (h : rSh σ) (hP : rPr σ) {c q p : Nat} (hc : c < 16) (hq : plK σ c q) (hp : p < q) {row row' : Nat → Int32} (hA : Ag σ row row') : AgO σ (ssC σ c p c row) (ssP σ c p row') := by
  unfold ssC ssP ssM
  exact rel_ssF h (fun r r' hr => rel_prC h hP hr hc hq hp) hA 16 0 (by omega)
/-! both sides stand for themselves -/
def piM (σ : gSig) : gSig := fun f => if f = 19 then σ 19 else if f = 20 then σ 20 else fun _ _ => 0
theorem piM_eq {σ σ' : gSig} (h1 : σ' 19 = σ 19) (h2 : σ' 20 = σ 20) : piM σ' = piM σ := by
  funext f
  unfold piM
  rw [h1, h2]
theorem tr {P : gSig → Prop} (hP : ∀ σ, P (piM σ) = P σ) {σ σ' : gSig} (h1 : σ' 19 = σ 19) (h2 : σ' 20 = σ 20) (h : P σ) : P σ' := by
  rw [← hP, piM_eq h1 h2, hP]
  exact h
theorem moK_pi (o : Nat → Nat) (σ : gSig) : moK (piM σ) o = moK σ o := rfl
theorem mLK_pi (fl wv : Int32) (o : Nat → Nat) (σ : gSig) : mLK (piM σ) fl wv o = mLK σ fl wv o := rfl
theorem mpK_pi (c q : Nat) (σ : gSig) : mpK (piM σ) c q = mpK σ c q := rfl
theorem dfK_pi (k : Nat) (σ : gSig) : dfK (piM σ) k = dfK σ k := rfl
