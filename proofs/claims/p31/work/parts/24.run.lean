/-! ===== a trial: printed by g24.py ===== -/
def tS (σ : gSig) (row : Nat → Int32) (d : Nat) (s4 : Nat → Nat → Int32) : gSig := upF (rwS σ row d) 4 s4
theorem tS_rw (σ : gSig) (row row' : Nat → Int32) (d d' : Nat) (s4 : Nat → Nat → Int32) : rwS (tS σ row d s4) row' d' = tS σ row' d' s4 := by
  funext f' c' i'
  unfold rwS tS rwS upF up3 upR
  by_cases h1 : f' = 4
  · simp [h1]
  · by_cases h2 : f' = 13
    · subst h2
      by_cases h3 : c' = 0 ∧ i' = 7
      · simp [h3]
      · simp [h3]
    · by_cases h3 : f' = 14 ∧ c' = 0 <;> simp [h1, h2, h3]
theorem tS_upF (σ : gSig) (row : Nat → Int32) (d : Nat) (s4 s4' : Nat → Nat → Int32) : upF (tS σ row d s4) 4 s4' = tS σ row d s4' := upF_upF _ _ _ _
theorem tS_nv (σ : gSig) (row row' : Nat → Int32) (d : Nat) (s4 s4' : Nat → Nat → Int32) : nvS (tS σ row d s4) row' s4' = tS σ row' d s4' := by
  funext f' c' i'
  unfold nvS tS rwS upF up3 upR
  by_cases h1 : f' = 4
  · simp [h1]
  · by_cases h2 : f' = 14
    · subst h2
      by_cases h3 : c' = 0 <;> simp [h3]
    · simp [h1, h2]
theorem tS_id (σ : gSig) (d : Nat) (h : σ 13 0 7 = nI d) : tS σ (σ 14 0) d (σ 4) = σ := by
  unfold tS
  rw [rwS_id σ d h]
  exact upF_id σ 4
theorem tS_d (σ : gSig) (row : Nat → Int32) (d : Nat) (s4 : Nat → Nat → Int32) : (tS σ row d s4) 13 0 7 = nI d := by simp [tS, rwS, upF, up3_at]
theorem tS_ne (σ : gSig) (row : Nat → Int32) (d : Nat) (s4 : Nat → Nat → Int32) {f : Nat} (h1 : f ≠ 4) (h2 : f ≠ 13) (h3 : f ≠ 14) : (tS σ row d s4) f = σ f := by
  funext c i
  simp [tS, rwS, upF, up3, upR, h1, h2, h3]
theorem tS_row (σ : gSig) (row : Nat → Int32) (d : Nat) (s4 : Nat → Nat → Int32) : (tS σ row d s4) 14 0 = row := by
  funext i
  simp [tS, rwS, upF, up3, upR]
theorem tS_13 (σ : gSig) (row : Nat → Int32) (d : Nat) (s4 : Nat → Nat → Int32) {i : Nat} (h : i ≠ 7) : (tS σ row d s4) 13 0 i = σ 13 0 i := by simp [tS, rwS, upF, up3, upR, h]
theorem tS_br (σ : gSig) (b b' : Int32) (row : Nat → Int32) (d : Nat) (s4 : Nat → Nat → Int32) : up3 (tS (brS σ b) row d s4) 13 0 8 b' = tS (brS σ b') row d s4 := by
  funext f' c' i'
  unfold tS brS rwS upF up3 upR
  by_cases h1 : f' = 13
  · subst h1
    by_cases h2 : c' = 0
    · subst h2
      by_cases h3 : i' = 8
      · subst h3; simp
      · simp [h3]
    · simp [h2]
  · simp [h1]
theorem tS_bk (σ : gSig) (b : Int32) (row : Nat → Int32) (d : Nat) (s4 : Nat → Nat → Int32) : (tS (brS σ b) row d s4) 13 0 8 = b := by simp [tS, brS, rwS, upF, up3, upR]
theorem tSb_ne (σ : gSig) (b : Int32) (row : Nat → Int32) (d : Nat) (s4 : Nat → Nat → Int32) {f : Nat} (h1 : f ≠ 4) (h2 : f ≠ 13) (h3 : f ≠ 14) : (tS (brS σ b) row d s4) f = σ f := by
  rw [tS_ne _ _ _ _ h1 h2 h3]
  funext c i
  simp [brS, up3, h2]
/-- what speaks of the sheet alone -/
theorem shK_of {σ σ' : gSig} {o : Nat → Nat} (h1 : σ' 1 = σ 1) (h2 : σ' 2 = σ 2) (h3 : σ' 3 = σ 3) (h5 : σ' 5 = σ 5) (h7 : σ' 7 = σ 7) (h : shK σ o) : shK σ' o := by
  unfold shK rdK frK flen at *
  rw [h1, h2, h3, h5, h7]
  exact h
theorem gV_of {σ σ' : gSig} (h1 : σ' 1 = σ 1) (h2 : σ' 2 = σ 2) (h3 : σ' 3 = σ 3) (h5 : σ' 5 = σ 5) : gV σ' = gV σ := by
  unfold gV flen
  rw [h1, h2, h3, h5]
theorem prC_of {σ σ' : gSig} (h1 : σ' 1 = σ 1) (h2 : σ' 2 = σ 2) (h3 : σ' 3 = σ 3) (h5 : σ' 5 = σ 5) (h7 : σ' 7 = σ 7) (h11 : σ' 11 = σ 11) (h12 : σ' 12 = σ 12) : prC σ' = prC σ := by
  funext c p cell row
  unfold prC
  rw [gV_of h1 h2 h3 h5, h5, h7, h11, h12]
theorem ssC_of {σ σ' : gSig} (h1 : σ' 1 = σ 1) (h2 : σ' 2 = σ 2) (h3 : σ' 3 = σ 3) (h5 : σ' 5 = σ 5) (h7 : σ' 7 = σ 7) (h11 : σ' 11 = σ 11) (h12 : σ' 12 = σ 12) : ssC σ' = ssC σ := by
  funext c p cell row
  unfold ssC
  rw [prC_of h1 h2 h3 h5 h7 h11 h12, h7]
  unfold inpC
  rw [h5]
/-- the rows of a trial -/
def trR (inp : Nat → Bool) (lo hi : Nat → Int32) (row : Nat → Int32) (d : Nat) : Nat → (Nat → Int32) × Nat
  | 0 => (row, d)
  | a + 1 => frF inp lo hi a (trR inp lo hi row d a).1 (trR inp lo hi row d a).2 16
theorem trR_d {inp : Nat → Bool} {lo hi : Nat → Int32} {row : Nat → Int32} {d : Nat} (hd : d < 7875) : ∀ a, (trR inp lo hi row d a).2 < 7875
  | 0 => hd
  | a + 1 => frF_d (trR_d hd a) 16
theorem rv_rg {a d : Nat} {lo hi : Int32} (hd : d < 7875) (h : (-1000000 : Int32) ≤ lo ∧ lo ≤ hi ∧ hi ≤ 1000000) : lo ≤ rvV a lo hi d ∧ rvV a lo hi d ≤ hi := by
  have hb := rg_int h
  unfold rvV
  split
  · exact ⟨Int32.le_refl _, h.2.1⟩
  · split
    · exact ⟨h.2.1, Int32.le_refl _⟩
    · obtain ⟨z, hz1, hz2, hz3, hz4⟩ := rg_size h
      rw [hz3, nI_rem (by omega) (by omega)]
      have hm := Nat.mod_lt d (show z > 0 by omega)
      generalize d % z = w at hm
      have e : (lo + nI w).toInt = lo.toInt + w := by
        rw [fb_addI, nI_toInt (by omega)]
        · rw [nI_toInt (by omega)]; omega
        · rw [nI_toInt (by omega)]; omega
      rw [fa_le, fa_le, e]
      omega
theorem frF_rw {inp : Nat → Bool} {lo hi : Nat → Int32} {a : Nat} {row : Nat → Int32} {d : Nat} (hd : d < 7875) (hg : rgK inp lo hi) : ∀ n, n ≤ 16 → ∀ c, c < n → inp c = true → lo c ≤ (frF inp lo hi a row d n).1 c ∧ (frF inp lo hi a row d n).1 c ≤ hi c
  | 0, _, c, h, _ => absurd h (Nat.not_lt_zero c)
  | n + 1, hn, c, hc, hi1 => by
    cases hb : inp n with
    | false =>
      rw [frF_f hb]
      have : c ≠ n := fun q => by rw [q, hb] at hi1; cases hi1
      exact frF_rw hd hg n (by omega) c (by omega) hi1
    | true =>
      rw [frF_t hb]
      show lo c ≤ upd _ n _ c ∧ upd _ n _ c ≤ hi c
      unfold upd
      by_cases e : c = n
      · subst e
        rw [if_pos rfl]
        exact rv_rg (nxD_lt (frF_d hd c)) (hg c (by omega) hb)
      · rw [if_neg e]
        exact frF_rw hd hg n (by omega) c (by omega) hi1
theorem trR_rw {inp : Nat → Bool} {lo hi : Nat → Int32} {row : Nat → Int32} {d : Nat} (hd : d < 7875) (hg : rgK inp lo hi) (a : Nat) : rwK inp lo hi (trR inp lo hi row d (a + 1)).1 := fun c hc hi1 => frF_rw (trR_d hd a) hg 16 (by omega) c hc hi1
/-- a class's trial's rows -/
abbrev trC (σ : gSig) (seed : Nat) : Nat → (Nat → Int32) × Nat := trR (inpC σ) (σ 7 0) (σ 7 1) (σ 14 0) seed
def okA (σ : gSig) (cell q seed a : Nat) : Prop := ∀ z, z < q → prC σ cell z cell (trC σ seed (a + 1)).1 = true
/-- where the rows end that were gone through -/
def ffQ (σ : gSig) (τ : gTau) (cell q seed R : Nat) : Option Value → gSig → gTau → Prop := fun r σ' τ' =>
  (∃ s4 t8 bk, (∀ a, a < R → okA σ cell q seed a) ∧ some (.int (-1)) = r ∧ tS (brS σ bk) (trC σ seed R).1 (trC σ seed R).2 s4 = σ' ∧ upT τ 8 t8 = τ') ∨
  ∃ a p s4 t8, a < R ∧ p < q ∧ (∀ b, b < a → okA σ cell q seed b) ∧ (∀ z, z < p → prC σ cell z cell (trC σ seed (a + 1)).1 = true) ∧ prC σ cell p cell (trC σ seed (a + 1)).1 = false ∧ some (.int (nI a)) = r ∧
    tS (brS σ (nI p)) (trC σ seed (a + 1)).1 (trC σ seed (a + 1)).2 s4 = σ' ∧ upT τ 8 t8 = τ'
/-- how a trial ends -/
def runQ (σ : gSig) (τ : gTau) (cell q seed R : Nat) : Option Value → gSig → gTau → Prop := fun r σ' τ' =>
  (∃ s4 t8 bk, (∀ a, a < R → okA σ cell q seed a) ∧ some (.int (-1)) = r ∧ up3 (up3 (tS (brS σ bk) (trC σ seed R).1 (trC σ seed R).2 s4) 13 0 6 (σ 13 0 6 &&& (b1 cell ^^^ (-1)))) 13 0 5 (σ 13 0 5 ||| b1 cell) = σ' ∧ upT τ 8 t8 = τ') ∨
  ∃ a p s4 t8, a < R ∧ p < q ∧ (∀ b, b < a → okA σ cell q seed b) ∧ (∀ z, z < p → prC σ cell z cell (trC σ seed (a + 1)).1 = true) ∧ prC σ cell p cell (trC σ seed (a + 1)).1 = false ∧ some (.int (nI a)) = r ∧
    kfS (tS (brS σ (nI p)) (msF (ssC σ cell p cell) 60 (trC σ seed (a + 1)).1).2 (trC σ seed (a + 1)).2 s4) cell (nI p) (nI (msF (ssC σ cell p cell) 60 (trC σ seed (a + 1)).1).1) (σ 5 0 8) = σ' ∧ upT τ 8 t8 = τ'
set_option maxRecDepth 100000 in
set_option maxHeartbeats 4000000 in
theorem c_findFailedRow {l : Launch} {D : va_G} {ad : Nat → Nat → Nat} {aC : Nat → ClassId} (σ : gSig) (τ : gTau) (cell q seed R : Nat) (o : Nat → Nat) (hcell : cell < 16) (hK : shK σ o) (hq : σ 10 cell 2 = nI q) (hq4 : q ≤ 4) (hpl : ∀ p, p < q → (¬ σ 11 cell p < 0 ∧ σ 11 cell p ≤ 3) ∧ (σ 11 cell p = 2 ∨ σ 11 cell p = 3 → isC (σ 12 cell p))) (hrg : rgK (inpC σ) (σ 7 0) (σ 7 1)) (hseed : seed < 7875) (hR : R ≤ 20) : CZ l D ad aC yX4_findFailedRow cX4_findFailedRow 7 (some .int) 9 [.ref (ad 13 0), .ref (ad 5 0), .ref (ad 10 cell), .int (nI cell), .int (nI seed), .int (nI R)] σ τ (ffQ σ τ cell q seed R) := by
  refine CZ.of (own := RX4) (by decide +kernel) rfl (Nat.le_of_ble_eq_true rfl) (fun S C => ?_)
  refine r_aload_n C dX4_findFailedRow_0 rfl rfl ?_
  refine r_iload C dX4_findFailedRow_1 rfl ?_
  refine r_put (f := 7) C dX4_findFailedRow_3 ⟨by decide, by decide⟩ rfl rfl kU4 tyX4 tyX4_ok nmX4 (by decide) kf_X4_39 rfl rfl (by decide +kernel) (Nat.le_of_ble_eq_true rfl) (by simp [cel, up3]) ?_
  refine r_iconst (v := 0) C dX4_findFailedRow_6 rfl ?_
  refine r_istore C dX4_findFailedRow_7 (by decide) rfl ?_
  have lp : ∀ m a, a ≤ R → R - a < m → ∀ (s4 : Nat → Nat → Int32) (t8 : Nat → Int64) (bk : Int32), (∀ b, b < a → okA σ cell q seed b) → S 0 (tS (brS σ bk) (trC σ seed a).1 (trC σ seed a).2 s4) (upT τ 8 t8) 9 [some (.ref (ad 13 0)), some (.ref (ad 5 0)), some (.ref (ad 10 cell)), some (.int (nI cell)), some (.int (nI seed)), some (.int (nI R)), some (.int (nI a))] [] := by
    intro m
    induction m with
    | zero => intro a _ hm; omega
    | succ m ih =>
      intro a ha hm s4 t8 bk hdone
      refine r_iload C dX4_findFailedRow_9 rfl ?_
      refine r_iload C dX4_findFailedRow_11 rfl ?_
      refine r_icmpge (tgt := 54) C dX4_findFailedRow_13 (by decide) (fun c13 => ?_) (fun c13 => ?_)
      · have n13 := Int32.not_lt.mpr c13
        have haR : a = R := by
          have := (nI_leI (by omega) (by omega)).mp c13
          omega
        subst haR
        refine r_iconst (v := (-1)) C dX4_findFailedRow_54 rfl ?_
        exact r_iret C dX4_findFailedRow_55 rfl (by decide) (Or.inl ⟨s4, t8, bk, hdone, rfl, rfl, rfl⟩)
      · have n13 := Int32.not_le.mp c13
        have haR : a < R := (nI_ltI (by omega) (by omega)).mp n13
        have hgen : ∀ s, tS (brS σ bk) (frF (inpC σ) (σ 7 0) (σ 7 1) a (trC σ seed a).1 (trC σ seed a).2 16).1 (frF (inpC σ) (σ 7 0) (σ 7 1) a (trC σ seed a).1 (trC σ seed a).2 16).2 s = (tS (brS σ bk) (trC σ seed (a + 1)).1 (trC σ seed (a + 1)).2 s) := fun _ => rfl
        refine r_aload_n C dX4_findFailedRow_16 rfl rfl ?_
        refine r_iload C dX4_findFailedRow_17 rfl ?_
        refine r_aload_n C dX4_findFailedRow_19 rfl rfl ?_
        have hin0 : inpC (tS (brS σ bk) (trC σ seed a).1 (trC σ seed a).2 s4) = inpC σ := by unfold inpC; rw [(show (tS (brS σ bk) (trC σ seed a).1 (trC σ seed a).2 s4) 5 = σ 5 from (tSb_ne _ _ _ _ _ (by decide) (by decide) (by decide)))]
        refine r_callV C dX4_findFailedRow_20 (c_fillRow (tS (brS σ bk) (trC σ seed a).1 (trC σ seed a).2 s4) (upT τ 8 t8) a (trC σ seed a).2 (by omega) (trR_d hseed a) (tS_d _ _ _ _) (by rw [hin0, (show (tS (brS σ bk) (trC σ seed a).1 (trC σ seed a).2 s4) 7 = σ 7 from (tSb_ne _ _ _ _ _ (by decide) (by decide) (by decide)))]; exact hrg)) rfl ⟨by decide, by decide⟩ rfl rfl kB_X4_fillRow rfl kI_X4_fillRow kV_X4_fillRow kl_X4_42 (by decide) (Nat.le_of_ble_eq_true rfl) (by decide) ?_
        rintro r9 σ' τ' ⟨rfl, rfl, rfl⟩
        rw [hin0, (show (tS (brS σ bk) (trC σ seed a).1 (trC σ seed a).2 s4) 7 = σ 7 from (tSb_ne _ _ _ _ _ (by decide) (by decide) (by decide))), tS_row, tS_rw, hgen]
        refine r_aload_n C dX4_findFailedRow_23 rfl rfl ?_
        refine r_aload_n C dX4_findFailedRow_24 rfl rfl ?_
        refine r_aload_n C dX4_findFailedRow_25 rfl rfl ?_
        refine r_iload_n C dX4_findFailedRow_26 rfl rfl ?_
        refine r_aload_n C dX4_findFailedRow_27 rfl rfl ?_
        refine r_get (f := 0) C dX4_findFailedRow_28 ⟨by decide, by decide⟩ rfl rfl kU4 (by decide) kf_X4_9 rfl rfl ?_
        refine r_callV C dX4_findFailedRow_31 (c_firstBroken (tS (brS σ bk) (trC σ seed (a + 1)).1 (trC σ seed (a + 1)).2 s4) (upT τ 8 t8) cell q cell o hcell hcell (shK_of (σ' := (tS (brS σ bk) (trC σ seed (a + 1)).1 (trC σ seed (a + 1)).2 s4)) (tSb_ne _ _ _ _ _ (by decide) (by decide) (by decide)) (tSb_ne _ _ _ _ _ (by decide) (by decide) (by decide)) (tSb_ne _ _ _ _ _ (by decide) (by decide) (by decide)) (tSb_ne _ _ _ _ _ (by decide) (by decide) (by decide)) (tSb_ne _ _ _ _ _ (by decide) (by decide) (by decide)) hK) ((congrFun (congrFun (show (tS (brS σ bk) (trC σ seed (a + 1)).1 (trC σ seed (a + 1)).2 s4) 10 = σ 10 from (tSb_ne _ _ _ _ _ (by decide) (by decide) (by decide))) cell) 2).trans hq) hq4 (by rw [show (tS (brS σ bk) (trC σ seed (a + 1)).1 (trC σ seed (a + 1)).2 s4) 11 = σ 11 from (tSb_ne _ _ _ _ _ (by decide) (by decide) (by decide)), show (tS (brS σ bk) (trC σ seed (a + 1)).1 (trC σ seed (a + 1)).2 s4) 12 = σ 12 from (tSb_ne _ _ _ _ _ (by decide) (by decide) (by decide))]; exact hpl)) rfl ⟨by decide, hcell⟩ rfl rfl kB_X2_firstBroken rfl kI_X2_firstBroken kV_X2_firstBroken kl_X4_46 (by decide) (Nat.le_of_ble_eq_true rfl) (by decide) ?_
        rintro r9 σ' τ' ⟨s4b, t8b, res, rfl, rfl, rfl, hfb⟩
        rw [tS_upF, upT_upT]
        rw [prC_of (σ := σ) (σ' := (tS (brS σ bk) (trC σ seed (a + 1)).1 (trC σ seed (a + 1)).2 s4)) (tSb_ne _ _ _ _ _ (by decide) (by decide) (by decide)) (tSb_ne _ _ _ _ _ (by decide) (by decide) (by decide)) (tSb_ne _ _ _ _ _ (by decide) (by decide) (by decide)) (tSb_ne _ _ _ _ _ (by decide) (by decide) (by decide)) (tSb_ne _ _ _ _ _ (by decide) (by decide) (by decide)) (tSb_ne _ _ _ _ _ (by decide) (by decide) (by decide)) (tSb_ne _ _ _ _ _ (by decide) (by decide) (by decide)), tS_row] at hfb
        refine r_put (f := 8) C dX4_findFailedRow_34 ⟨by decide, by decide⟩ rfl rfl kU4 tyX4 tyX4_ok nmX4 (by decide) kf_X4_52 rfl rfl (by decide +kernel) (Nat.le_of_ble_eq_true rfl) (by simp [cel, up3]) ?_
        rw [tS_br]
        refine r_aload_n C dX4_findFailedRow_37 rfl rfl ?_
        refine r_get (f := 8) (v := .int res) C dX4_findFailedRow_38 ⟨by decide, by decide⟩ rfl rfl kU4 (by decide) kf_X4_52 rfl (by rw [← tS_bk σ res (trC σ seed (a + 1)).1 (trC σ seed (a + 1)).2 s4b]; rfl) ?_
        refine r_iconst (v := (-1)) C dX4_findFailedRow_41 rfl ?_
        refine r_icmpeq (tgt := 48) C dX4_findFailedRow_42 (by decide) (fun c42 => ?_) (fun c42 => ?_)
        · have hres := c42
          have hdone2 : ∀ b, b < a + 1 → okA σ cell q seed b := fun b hb => by
            by_cases e : b = a
            · subst e
              rcases hfb with ⟨-, h⟩ | ⟨p, h1, h2, -⟩
              · exact h
              · rw [hres] at h2
                exact absurd (congrArg Int32.toInt h2) (by rw [nI_toInt (by omega)]; have : (-1 : Int32).toInt = -1 := by decide
                                                           omega)
            · exact hdone b (by omega)
          refine r_iinc C dX4_findFailedRow_48 rfl rfl (by decide) rfl ?_
          refine r_goto (tgt := 9) C dX4_findFailedRow_51 (by decide) ?_
          exact r_swk (ih (a + 1) (by omega) (by omega) _ _ _ hdone2) rfl rfl (by rw [← nI_p1]; rfl) rfl
        · obtain ⟨p, hp, hpr, hpf, hpb⟩ : ∃ p, p < q ∧ res = nI p ∧ prC σ cell p cell (trC σ seed (a + 1)).1 = false ∧ ∀ z, z < p → prC σ cell z cell (trC σ seed (a + 1)).1 = true := by
            rcases hfb with ⟨h, -⟩ | h
            · exact absurd h c42
            · exact h
          subst hpr
          refine r_iload C dX4_findFailedRow_45 rfl ?_
          exact r_iret C dX4_findFailedRow_47 rfl (by decide) (Or.inr ⟨a, p, s4b, t8b, haR, hp, hdone, hpb, hpf, rfl, rfl, rfl⟩)
  refine r_swk (lp (R + 1) 0 (by omega) (by omega) (σ 4) (τ 8) (σ 13 0 8) (fun b hb => absurd hb (Nat.not_lt_zero b))) ?_ (upT_id τ 8) rfl rfl
  show tS (brS σ (σ 13 0 8)) (σ 14 0) seed (σ 4) = _
  unfold tS rwS
  rw [show brS σ (σ 13 0 8) = σ from up3_id rfl, upR_id]
  exact upF_id (up3 σ 13 0 7 (nI seed)) 4
