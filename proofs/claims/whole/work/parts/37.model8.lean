/-! ===== the law's model: all values: printed by g37.py ===== -/
def frM (σ : gSig) (c : Nat) : Prop := 1 ≤ mL σ c ∧ okP (mK σ c) (mN σ c) (mL σ c) ∧ dep (mK σ c) (mL σ c) = 1
/-- the model's sheet stands as it should -/
def moK (σ : gSig) (o : Nat → Nat) : Prop := ordI (σ 20 19) o 16 ∧ ordT (mR σ) o 16 ∧ ordJ o 16 ∧ ordS o ∧ (∀ c, c < 16 → msK σ c) ∧ ∀ c, c < 16 → ¬ σ 20 2 c = 0 → frM σ c
def mIn (σ : gSig) (c : Nat) : Bool := decide (σ 20 2 c = 0)
def mV (σ : gSig) (row : Nat → Int32) : Nat → Option Int32 := vN (mIn σ) (mK σ) (mN σ) (mL σ) row 16
theorem moK_ln {σ : gSig} {o : Nat → Nat} (h : moK σ o) : lnK (mIn σ) (mK σ) (mN σ) (mL σ) o := by
  obtain ⟨hO, hT, hJ, hS, hM, hF⟩ := h
  intro i hi hb q hq hk
  obtain ⟨ho1, ho2⟩ := hO i hi
  obtain ⟨f1, f2, f3⟩ := hF _ ho2 (of_decide_eq_false hb)
  obtain ⟨d, hd, e⟩ := isC_nI ((f2 q hq).2.2 hk)
  have hrd : bt (mR σ (o i)) d = true := rsM_in (fun z hz => (f2 z hz).2.2) hq hk e hd
  obtain ⟨j, hj, e2⟩ := hT i hi d hd hrd
  exact ⟨j, hj, by rw [e2]; exact e, by omega⟩
theorem mV_eq {σ : gSig} {o : Nat → Nat} (h : moK σ o) (row : Nat → Int32) : ∀ c, c < 16 → mV σ row c = if mIn σ c then some (row c) else evF (mV σ row) (mK σ c) (mN σ c) (mL σ c) := fun c hc => vN_eq (moK_ln h) h.2.2.2.1 c hc
def oVR (vs fs : Nat → Int32) (d : Nat) (o : Option Int32) : Prop := match o with
  | none => fs d = 1
  | some v => fs d = 0 ∧ vs d = v
def maS (σ : gSig) (vs fs st : Nat → Int32) : gSig := upR (upR (upR σ 20 20 vs) 20 21 fs) 20 23 st
theorem maS_id (σ : gSig) : maS σ (σ 20 20) (σ 20 21) (σ 20 23) = σ := by
  unfold maS
  rw [upR_id, upR_id, upR_id]
theorem maS_ne (σ : gSig) (vs fs st : Nat → Int32) (r : Nat) (h : r ≠ 20 ∧ r ≠ 21 ∧ r ≠ 23) : maS σ vs fs st 20 r = σ 20 r := by
  unfold maS
  rw [upR_ne _ _ _ _ (fun q => h.2.2 (congrArg Prod.snd q)), upR_ne _ _ _ _ (fun q => h.2.1 (congrArg Prod.snd q)), upR_ne _ _ _ _ (fun q => h.1 (congrArg Prod.snd q))]
theorem maS_v (σ : gSig) (vs fs st : Nat → Int32) : maS σ vs fs st 20 20 = vs := by
  unfold maS
  rw [upR_ne _ _ _ _ (by decide), upR_ne _ _ _ _ (by decide), upR_self]
theorem maS_f (σ : gSig) (vs fs st : Nat → Int32) : maS σ vs fs st 20 21 = fs := by
  unfold maS
  rw [upR_ne _ _ _ _ (by decide), upR_self]
theorem maS_upv (σ : gSig) (vs fs st : Nat → Int32) (c : Nat) (x : Int32) : up3 (maS σ vs fs st) 20 20 c x = maS σ (upd vs c x) fs st := by
  unfold maS
  funext f r i
  unfold up3 upR upd
  by_cases h1 : f = 20
  · subst h1
    by_cases h2 : r = 23
    · subst h2; simp
    · by_cases h3 : r = 21
      · subst h3; simp
      · by_cases h4 : r = 20
        · subst h4; simp
        · simp [h2, h3, h4]
  · simp [h1]
theorem maS_upf (σ : gSig) (vs fs st : Nat → Int32) (c : Nat) (x : Int32) : up3 (maS σ vs fs st) 20 21 c x = maS σ vs (upd fs c x) st := by
  unfold maS
  rw [up3_swap _ _ _ _ _ _ _ _ (by decide)]
theorem maS_rk (σ : gSig) (vs fs st : Nat → Int32) (c : Nat) (fa x : Int32) (g : Nat → Int32) : up3 (mkS (maS σ vs fs st) c fa g) 20 20 c x = maS σ (upd vs c x) (upd fs c fa) g := by
  unfold mkS
  rw [maS_upf, ← maS_upv]
  unfold maS
  rw [upR_upR]
theorem maS_mR (σ : gSig) (vs fs st : Nat → Int32) : mR (maS σ vs fs st) = mR σ := mR_eq (maS_ne _ _ _ _ _ (by decide)) (maS_ne _ _ _ _ _ (by decide)) (maS_ne _ _ _ _ _ (by decide))
theorem maS_K (σ : gSig) (vs fs st : Nat → Int32) : mK (maS σ vs fs st) = mK σ := by
  funext c k
  unfold mK
  rw [maS_ne _ _ _ _ _ (by decide), maS_ne _ _ _ _ _ (by decide)]
theorem maS_N (σ : gSig) (vs fs st : Nat → Int32) : mN (maS σ vs fs st) = mN σ := by
  funext c k
  unfold mN
  rw [maS_ne _ _ _ _ _ (by decide)]
theorem maS_L (σ : gSig) (vs fs st : Nat → Int32) : mL (maS σ vs fs st) = mL σ := by
  funext c
  unfold mL
  rw [maS_ne _ _ _ _ _ (by decide)]
theorem oVR_put {vs fs : Nat → Int32} {d c : Nat} {o : Option Int32} {x fa : Int32} (h : oVR vs fs d o) (hne : d ≠ c) : oVR (upd vs c x) (upd fs c fa) d o := by
  unfold oVR upd at *
  rw [if_neg hne, if_neg hne]
  exact h
set_option maxRecDepth 100000 in
set_option maxHeartbeats 1000000 in
theorem m_reckonsAll {l : Launch} {D : va_G} {ad : Nat → Nat → Nat} {aC : Nat → ClassId} (σ : gSig) (τ : gTau) (r0 : Nat) (hr0 : r0 = 22 ∨ r0 = 7) (o : Nat → Nat) (hK : moK σ o) : CZ l D ad aC yX6_reckonsAll cX6_reckonsAll 4 none 2 [.ref (ad 19 0), .ref (ad 20 r0)] σ τ (fun r σ' τ' => ∃ vs fs st, none = r ∧ maS σ vs fs st = σ' ∧ τ = τ' ∧ ∀ c, c < 16 → oVR vs fs c ((mV σ (σ 20 r0)) c)) := by
  refine CZ.of (own := RX6) (by decide +kernel) rfl (Nat.le_of_ble_eq_true rfl) (fun S C => ?_)
  obtain ⟨hO, hT, hJ, hS, hM, hF⟩ := id hK
  refine r_iconst (v := 0) C dX6_reckonsAll_0 rfl ?_
  refine r_istore_n C dX6_reckonsAll_1 rfl (by decide) rfl ?_
  have loop : ∀ m i, i ≤ 16 → 16 - i < m → ∀ vs fs st : Nat → Int32, (∀ j, j < i → oVR vs fs (o j) ((mV σ (σ 20 r0)) (o j))) → S 0 (maS σ vs fs st) τ 2 [some (.ref (ad 19 0)), some (.ref (ad 20 r0)), some (.int (nI i)), none] [] := by
    intro m
    induction m with
    | zero => intro i _ hm; omega
    | succ m ihloop =>
      intro i hiloop hmloop vs fs st hdone
      refine r_iload_n C dX6_reckonsAll_2 rfl rfl ?_
      refine r_bipush (v := 16) C dX6_reckonsAll_3 rfl ?_
      refine r_icmpge (tgt := 54) C dX6_reckonsAll_5 (by decide) (fun c5 => ?_) (fun c5 => ?_)
      · have n5 := Int32.not_lt.mpr c5
        have hloope : i = 16 := by
          have := (nI_leI (a := 16) (by omega) (by omega)).mp c5
          omega
        subst hloope
        exact r_ret C dX6_reckonsAll_54 rfl (by decide) ⟨vs, fs, st, rfl, rfl, rfl, fun c hc => by obtain ⟨i, hi, rfl⟩ := hS c hc; exact hdone i hi⟩
      · have n5 := Int32.not_le.mp c5
        have hloopl : i < 16 := (nI_ltI (b := 16) (by omega) (by omega)).mp n5
        obtain ⟨ho1, ho2⟩ := hO i hloopl
        have hveq := mV_eq hK (σ 20 r0) (o i) ho2
        have hput : ∀ x fa g2, oVR (upd vs (o i) x) (upd fs (o i) fa) (o i) ((mV σ (σ 20 r0)) (o i)) → g2 = g2 → ∀ j, j < i + 1 → oVR (upd vs (o i) x) (upd fs (o i) fa) (o j) ((mV σ (σ 20 r0)) (o j)) := fun x fa (g2 : Nat) h _ j hj => by
          by_cases e : j = i
          · subst e; exact h
          · exact oVR_put (hdone j (by omega)) (fun q => e (hJ j i (by omega) (by omega) q))
        refine r_aload_n C dX6_reckonsAll_8 rfl rfl ?_
        refine r_get (f := 24) C dX6_reckonsAll_9 ⟨by decide, by decide⟩ rfl rfl kU6 (by decide) kf_X6_67 rfl rfl ?_
        refine r_iload_n C dX6_reckonsAll_12 rfl rfl ?_
        refine r_ialdv (v := nI (o i)) C dX6_reckonsAll_13 ⟨by decide, by decide⟩ rfl (vp_in_nI hloopl (by decide)) (by rw [nI_clamp (by omega), maS_ne _ _ _ _ _ (by decide), ho1]) ?_
        refine r_istore_n C dX6_reckonsAll_14 rfl (by decide) rfl ?_
        refine r_aload_n C dX6_reckonsAll_15 rfl rfl ?_
        refine r_get (f := 6) C dX6_reckonsAll_16 ⟨by decide, by decide⟩ rfl rfl kU6 (by decide) kf_X6_16 rfl rfl ?_
        refine r_iload_n C dX6_reckonsAll_19 rfl rfl ?_
        refine r_ialdv (v := σ 20 2 (o i)) C dX6_reckonsAll_20 ⟨by decide, by decide⟩ rfl (vp_in_nI ho2 (by decide)) (by rw [nI_clamp (by omega), maS_ne _ _ _ _ _ (by decide)]) ?_
        refine r_ifne (tgt := 43) C dX6_reckonsAll_21 (by decide) (fun c21 => ?_) (fun c21 => ?_)
        · refine r_aload_n C dX6_reckonsAll_43 rfl rfl ?_
          refine r_iload_n C dX6_reckonsAll_44 rfl rfl ?_
          obtain ⟨f1, f2, f3⟩ := hF _ ho2 c21
          have hln := moK_ln hK i hloopl (decide_eq_false c21)
          refine r_callV C dX6_reckonsAll_45 (m_reckons (maS σ vs fs st) τ (o i) (mV σ (σ 20 r0)) ho2 (msK_eq (maS_ne _ _ _ _ _ (by decide)) (maS_ne _ _ _ _ _ (by decide)) (maS_ne _ _ _ _ _ (by decide)) (hM _ ho2)) (by rw [maS_K, maS_N, maS_L]; exact f2) (by rw [maS_K, maS_L]; exact f3) (by
            rw [maS_K, maS_N, maS_L]
            intro q hq hk
            obtain ⟨j, hj, e1, e2⟩ := hln q hq hk
            refine ⟨o j, e2, fun z => ?_, e1, ?_⟩
            · have := hJ j i (by omega) (by omega) z
              omega
            · have h9 := hdone j hj
              unfold oVE
              rw [maS_v, maS_f]
              exact h9)) rfl ⟨by decide, by decide⟩ rfl rfl kB_X6_reckons rfl kI_X6_reckons kV_X6_reckons kl_X6_129 (by decide) (Nat.le_of_ble_eq_true rfl) (by decide) ?_
          rintro r9 σ' τ' ⟨g9, fa9, x9, rfl, rfl, rfl, h9⟩
          rw [maS_K, maS_N, maS_L] at h9
          rw [maS_rk]
          have hdone2 := hput x9 fa9 0 (by
            rw [hveq, show mIn σ (o i) = false from decide_eq_false c21, if_neg (by decide)]
            unfold oVR upd
            rw [if_pos rfl, if_pos rfl]
            exact h9) rfl
          refine r_iinc C dX6_reckonsAll_48 rfl rfl (by decide) rfl ?_
          refine r_goto (tgt := 2) C dX6_reckonsAll_51 (by decide) ?_
          refine r_drop C [3] ?_
          exact r_swk (ihloop (i + 1) (by omega) (by omega) _ _ _ hdone2) rfl rfl (by simp only [nI_p1]; rfl) rfl
        · refine r_aload_n C dX6_reckonsAll_24 rfl rfl ?_
          refine r_get (f := 25) C dX6_reckonsAll_25 ⟨by decide, by decide⟩ rfl rfl kU6 (by decide) kf_X6_70 rfl rfl ?_
          refine r_iload_n C dX6_reckonsAll_28 rfl rfl ?_
          refine r_aload_n C dX6_reckonsAll_29 rfl rfl ?_
          refine r_iload_n C dX6_reckonsAll_30 rfl rfl ?_
          refine r_ialdv (len := 16) (v := σ 20 r0 (o i)) C dX6_reckonsAll_31 (by rcases hr0 with rfl | rfl <;> exact ⟨by decide, by decide⟩) (by rcases hr0 with rfl | rfl <;> rfl) (vp_in_nI ho2 (by decide)) (by rw [nI_clamp (by omega), maS_ne _ _ _ _ _ (by rcases hr0 with rfl | rfl <;> decide)]) ?_
          refine r_iastv C dX6_reckonsAll_32 ⟨by decide, by decide⟩ (fun _ => rfl) (vp_in_nI ho2 (by decide)) (nI_clamp (by omega)) ?_
          rw [maS_upv]
          refine r_aload_n C dX6_reckonsAll_33 rfl rfl ?_
          refine r_get (f := 26) C dX6_reckonsAll_34 ⟨by decide, by decide⟩ rfl rfl kU6 (by decide) kf_X6_73 rfl rfl ?_
          refine r_iload_n C dX6_reckonsAll_37 rfl rfl ?_
          refine r_iconst (v := 0) C dX6_reckonsAll_38 rfl ?_
          refine r_zastv C dX6_reckonsAll_39 ⟨by decide, by decide⟩ (fun _ => rfl) (vp_in_nI ho2 (by decide)) (nI_clamp (by omega)) (Or.inl rfl) ?_
          rw [maS_upf]
          have hdone2 := hput (σ 20 r0 (o i)) 0 0 (by
            rw [hveq, show mIn σ (o i) = true from decide_eq_true c21, if_pos rfl]
            unfold oVR upd
            rw [if_pos rfl, if_pos rfl]
            exact ⟨rfl, rfl⟩) rfl
          refine r_goto (tgt := 48) C dX6_reckonsAll_40 (by decide) ?_
          refine r_iinc C dX6_reckonsAll_48 rfl rfl (by decide) rfl ?_
          refine r_goto (tgt := 2) C dX6_reckonsAll_51 (by decide) ?_
          refine r_drop C [3] ?_
          exact r_swk (ihloop (i + 1) (by omega) (by omega) _ _ _ hdone2) rfl rfl (by simp only [nI_p1]; rfl) rfl
  have h0 := loop 17 0 (by omega) (by omega) (σ 20 20) (σ 20 21) (σ 20 23) (fun j hj => absurd hj (Nat.not_lt_zero j))
  rw [maS_id] at h0
  exact h0
