/-! ===== the law's model: a trial: printed by g46.py ===== -/
/-- the model's properties of a cell stand as they should -/
def mpK (σ : gSig) (c q : Nat) : Prop := σ 20 9 c = nI q ∧ q ≤ 4 ∧ ∀ p, p < q → (¬ σ 20 10 (4 * c + p) < 0 ∧ σ 20 10 (4 * c + p) ≤ 3) ∧ (σ 20 10 (4 * c + p) = 2 ∨ σ 20 10 (4 * c + p) = 3 → isC (σ 20 11 (4 * c + p)))
/-- whether a property holds, in the model -/
def prM (σ : gSig) (c p : Nat) (row : Nat → Int32) : Bool := prH (mV σ) (mIn σ) (σ 20 6) c (σ 20 10 (4 * c + p)) (σ 20 11 (4 * c + p)) row
abbrev trM (σ : gSig) (seed : Nat) : Nat → (Nat → Int32) × Nat := trR (mIn σ) (σ 20 5) (σ 20 6) (σ 20 22) seed
def okM (σ : gSig) (c q seed a : Nat) : Prop := ∀ z, z < q → prM σ c z (trM σ seed (a + 1)).1 = true
def ssP (σ : gSig) (c p : Nat) : (Nat → Int32) → Option (Nat → Int32) := ssM σ c (σ 20 10 (4 * c + p)) (σ 20 11 (4 * c + p))
def mlk (σ : gSig) (fl wv : Int32) (o : Nat → Nat) : Int32 := lkF (mR σ) fl wv o 16
/-- the model behind a passed trial -/
def mpS (σ : gSig) (row vs fs st : Nat → Int32) (c : Nat) : gSig := up3 (up3 (moS σ row vs fs st) 20 12 c 1) 20 15 c (-1)
/-- how a trial of the model ends -/
def maQ (σ : gSig) (τ : gTau) (fl wv : Int32) (o : Nat → Nat) (c q seed R : Nat) : Option Value → gSig → gTau → Prop := fun r σ' τ' => τ = τ' ∧
  ((∃ vs fs st, (∀ a, a < R → okM σ c q seed a) ∧ some (.int (-1)) = r ∧
    ((¬ σ 20 12 c = 2 ∧ mpS σ (trM σ seed R).1 vs fs st c = σ') ∨
     (σ 20 12 c = 2 ∧ ∃ g u, ulS (mpS σ (trM σ seed R).1 vs fs st c) g u (unL (mR σ) c (mlk σ fl wv o &&& (mlk σ (fl &&& (b1 c ^^^ (-1))) wv o ^^^ (-1)))).length = σ' ∧ onL u (unL (mR σ) c (mlk σ fl wv o &&& (mlk σ (fl &&& (b1 c ^^^ (-1))) wv o ^^^ (-1))))))) ∨
   ∃ a p vs fs st, a < R ∧ p < q ∧ (∀ b, b < a → okM σ c q seed b) ∧ (∀ z, z < p → prM σ c z (trM σ seed (a + 1)).1 = true) ∧ prM σ c p (trM σ seed (a + 1)).1 = false ∧ some (.int (nI a)) = r ∧
    mxS σ (msF (ssP σ c p) 60 (trM σ seed (a + 1)).1).2 vs fs st c (nI p) (nI (msF (ssP σ c p) 60 (trM σ seed (a + 1)).1).1) 16 = σ')
theorem mxS_moS (σ : gSig) (row vs fs st row' a b d : Nat → Int32) (c : Nat) (p k : Int32) (n : Nat) : mxS (moS σ row vs fs st) row' a b d c p k n = mxS σ row' a b d c p k n := by
  unfold mxS
  rw [moS_moS, moS_mIn, moS_ne _ _ _ _ _ 14 (by decide)]
theorem nx_drawnM {d : Nat} (hd : d < 7875) : (421 * nI d + 1663 : Int32) - (421 * nI d + 1663) / 7875 * 7875 = nI ((421 * d + 1663) % 7875) := by
  have e : (421 : Int32) * nI d + 1663 = nI (421 * d + 1663) := by
    rw [show (421 : Int32) = nI 421 from rfl, nI_mul, show (1663 : Int32) = nI 1663 from rfl, nI_add]
  rw [e]
  exact nI_rem (k := 7875) (by omega) (by decide)
theorem nxD_0 {a d : Nat} (h : a ≤ 1) : nxD a d = d := by unfold nxD; rw [if_pos h]
theorem nxD_1 {a d : Nat} (h : ¬ a ≤ 1) : nxD a d = (421 * d + 1663) % 7875 := by unfold nxD; rw [if_neg h]
theorem moS_mLK {σ : gSig} {fl wv : Int32} {o : Nat → Nat} (row vs fs st : Nat → Int32) (h : mLK σ fl wv o) : mLK (moS σ row vs fs st) fl wv o := by
  obtain ⟨a, b, c, d⟩ := h
  refine ⟨by rw [moS_ne _ _ _ _ _ _ (by decide)]; exact a, fun z hz => msK_eq (moS_ne _ _ _ _ _ _ (by decide)) (moS_ne _ _ _ _ _ _ (by decide)) (moS_ne _ _ _ _ _ _ (by decide)) (b z hz), fun z hz => by rw [moS_ne _ _ _ _ _ _ (by decide)]; exact c z hz, fun z hz => ?_⟩
  rw [d z hz]
  unfold mWv
  rw [moS_ne _ _ _ _ _ 17 (by decide), moS_fam _ _ _ _ _ (f := 19) (by decide)]
theorem moS_mR (σ : gSig) (row vs fs st : Nat → Int32) : mR (moS σ row vs fs st) = mR σ := mR_eq (moS_ne _ _ _ _ _ _ (by decide)) (moS_ne _ _ _ _ _ _ (by decide)) (moS_ne _ _ _ _ _ _ (by decide))
theorem mpS_mR (σ : gSig) (row vs fs st : Nat → Int32) (c : Nat) : mR (mpS σ row vs fs st c) = mR σ := by
  unfold mpS
  rw [mR_up3 _ _ _ _ _ (by decide), mR_up3 _ _ _ _ _ (by decide), moS_mR]
theorem mLK_pass {σ : gSig} {fl wv : Int32} {o : Nat → Nat} {c : Nat} (hc : c < 16) (h : mLK σ fl wv o) : mLK (up3 (up3 σ 20 12 c 1) 20 15 c (-1)) (fl &&& (b1 c ^^^ (-1))) wv o := by
  obtain ⟨a, b, hf, d⟩ := h
  refine ⟨by rw [up3_ne _ _ _ _ _ (by simp), up3_ne _ _ _ _ _ (by simp)]; exact a, fun z hz => msK_up3 _ _ _ _ (by decide) (msK_up3 _ _ _ _ (by decide) (b z hz)), fun z hz => ?_, fun z hz => ?_⟩
  · rw [b_and, b_xor, bt_b1 (by omega), b_m1 z (by omega), hf z hz, up3_ne _ _ _ _ _ (by simp)]
    simp only [up3_at]
    by_cases e : z = c
    · subst e; simp
    · simp [e]
  · rw [d z hz]
    unfold mWv
    simp [up3_at]
theorem in_7874 {x : Int32} (h : (0 : Int32) ≤ x ∧ x ≤ 7874) : ∃ k, k < 7875 ∧ x = nI k := by
  obtain ⟨k, hk, rfl⟩ := nI_of (x := x) (Int32.not_lt.mpr h.1)
  have := (nI_leI (b := 7874) hk (by decide)).mp h.2
  exact ⟨k, by omega, rfl⟩
theorem in_20 {x : Int32} (h : (1 : Int32) ≤ x ∧ x ≤ 20) : ∃ k, k ≤ 20 ∧ x = nI k := by
  obtain ⟨k, hk, rfl⟩ := nI_of (x := x) (Int32.not_lt.mpr (Int32.le_trans (by decide) h.1))
  have := (nI_leI (b := 20) hk (by decide)).mp h.2
  exact ⟨k, by omega, rfl⟩
set_option maxRecDepth 100000 in
set_option maxHeartbeats 1000000 in
theorem m_attempt {l : Launch} {D : va_G} {ad : Nat → Nat → Nat} {aC : Nat → ClassId} (σ : gSig) (τ : gTau) (cl sd ro fl wv : Int32) (o : Nat → Nat) (hK : moK σ o) (hL : mLK σ fl wv o) (hPL : ∀ c, c < 16 → ∃ q, mpK σ c q) (hrg : rgK (mIn σ) (σ 20 5) (σ 20 6)) : CZ l D ad aC yX6_attempt cX6_attempt 7 (some .int) 6 [.ref (ad 19 0), .int cl, .int sd, .int ro] σ τ (fun r σ' τ' => (¬ isC cl ∧ thQ σ τ 1 r σ' τ') ∨ (isC cl ∧ ¬ (((0 : Int32) ≤ sd ∧ sd ≤ 7874) ∧ ((1 : Int32) ≤ ro ∧ ro ≤ 20)) ∧ thQ σ τ 2 r σ' τ') ∨ ∃ c sdn Rn q, c < 16 ∧ cl = nI c ∧ sd = nI sdn ∧ ro = nI Rn ∧ sdn < 7875 ∧ Rn ≤ 20 ∧ (((0 : Int32) ≤ sd ∧ sd ≤ 7874) ∧ ((1 : Int32) ≤ ro ∧ ro ≤ 20)) ∧ mpK σ c q ∧ maQ (up3 σ 19 0 0 0) τ fl wv o c q sdn Rn r σ' τ') := by
  refine CZ.of (own := RX6) (by decide +kernel) rfl (Nat.le_of_ble_eq_true rfl) (fun S C => ?_)
  have hfin : ∀ r σ' τ', (∃ c sdn Rn q, c < 16 ∧ cl = nI c ∧ sd = nI sdn ∧ ro = nI Rn ∧ sdn < 7875 ∧ Rn ≤ 20 ∧ (((0 : Int32) ≤ sd ∧ sd ≤ 7874) ∧ ((1 : Int32) ≤ ro ∧ ro ≤ 20)) ∧ mpK σ c q ∧ maQ (up3 σ 19 0 0 0) τ fl wv o c q sdn Rn r σ' τ') → (fun r σ' τ' => (¬ isC cl ∧ thQ σ τ 1 r σ' τ') ∨ (isC cl ∧ ¬ (((0 : Int32) ≤ sd ∧ sd ≤ 7874) ∧ ((1 : Int32) ≤ ro ∧ ro ≤ 20)) ∧ thQ σ τ 2 r σ' τ') ∨ ∃ c sdn Rn q, c < 16 ∧ cl = nI c ∧ sd = nI sdn ∧ ro = nI Rn ∧ sdn < 7875 ∧ Rn ≤ 20 ∧ (((0 : Int32) ≤ sd ∧ sd ≤ 7874) ∧ ((1 : Int32) ≤ ro ∧ ro ≤ 20)) ∧ mpK σ c q ∧ maQ (up3 σ 19 0 0 0) τ fl wv o c q sdn Rn r σ' τ') r σ' τ' := fun r σ' τ' z => Or.inr (Or.inr z)
  refine r_aload_n C dX6_attempt_0 rfl rfl ?_
  refine r_iload_n C dX6_attempt_1 rfl rfl ?_
  refine r_callS C dX6_attempt_2 (m_isCell σ τ cl) rfl kB_X6_isCell rfl kS_X6_isCell kl_X6_104 (by decide) (Nat.le_of_ble_eq_true rfl) (by decide) ?_
  rintro r9 σ' τ' ⟨rfl, rfl, rfl⟩
  refine r_ifne (tgt := 12) C dX6_attempt_5 (by decide) (fun c5 => ?_) (fun c5 => ?_)
  · have hC := isCB_t.mp (b2i_n.mp c5)
    refine r_iload_n C dX6_attempt_12 rfl rfl ?_
    refine r_iconst (v := 0) C dX6_attempt_13 rfl ?_
    refine r_sipush (v := 7874) C dX6_attempt_14 rfl ?_
    refine r_callS C dX6_attempt_17 (m_in σ τ sd 0 7874) rfl kB_X6_in rfl kS_X6_in kl_X6_90 (by decide) (Nat.le_of_ble_eq_true rfl) (by decide) ?_
    rintro r9 σ' τ' ⟨rfl, rfl, rfl⟩
    refine r_ifeq (tgt := 37) C dX6_attempt_20 (by decide) (fun c20 => ?_) (fun c20 => ?_)
    · have hS := inB3_f.mp (b2i_0.mp c20)
      have hno : ¬ (((0 : Int32) ≤ sd ∧ sd ≤ 7874) ∧ ((1 : Int32) ≤ ro ∧ ro ≤ 20)) := fun q => hS q.1
      refine r_iconst (v := 2) C dX6_attempt_37 rfl ?_
      refine r_put (f := 0) C dX6_attempt_38 ⟨by decide, by decide⟩ rfl rfl kU6 tyX6 tyX6_ok nmX6 (by decide) kf_X6_86 rfl rfl (by decide +kernel) (Nat.le_of_ble_eq_true rfl) (by simp [cel, up3]) ?_
      refine r_aload_n C dX6_attempt_41 rfl rfl ?_
      refine r_get (f := 0) (v := .int 2) C dX6_attempt_42 ⟨by decide, by decide⟩ rfl rfl kU6 (by decide) kf_X6_86 rfl (by simp [up3_at]) ?_
      refine r_ifle (tgt := 50) C dX6_attempt_45 (by decide) (fun c45 => ?_) (fun c45 => ?_)
      · exact absurd c45 (by decide)
      · refine r_iconst (v := 0) C dX6_attempt_48 rfl ?_
        exact r_iret C dX6_attempt_49 rfl (by decide) (Or.inr (Or.inl ⟨hC, hno, rfl, rfl, rfl⟩))
    · have hS := inB3_t.mp (b2i_n.mp c20)
      refine r_iload_n C dX6_attempt_23 rfl rfl ?_
      refine r_iconst (v := 1) C dX6_attempt_24 rfl ?_
      refine r_bipush (v := 20) C dX6_attempt_25 rfl ?_
      refine r_callS C dX6_attempt_27 (m_in σ τ ro 1 20) rfl kB_X6_in rfl kS_X6_in kl_X6_90 (by decide) (Nat.le_of_ble_eq_true rfl) (by decide) ?_
      rintro r9 σ' τ' ⟨rfl, rfl, rfl⟩
      refine r_ifeq (tgt := 37) C dX6_attempt_30 (by decide) (fun c30 => ?_) (fun c30 => ?_)
      · have hR := inB3_f.mp (b2i_0.mp c30)
        have hno : ¬ (((0 : Int32) ≤ sd ∧ sd ≤ 7874) ∧ ((1 : Int32) ≤ ro ∧ ro ≤ 20)) := fun q => hR q.2
        refine r_iconst (v := 2) C dX6_attempt_37 rfl ?_
        refine r_put (f := 0) C dX6_attempt_38 ⟨by decide, by decide⟩ rfl rfl kU6 tyX6 tyX6_ok nmX6 (by decide) kf_X6_86 rfl rfl (by decide +kernel) (Nat.le_of_ble_eq_true rfl) (by simp [cel, up3]) ?_
        refine r_aload_n C dX6_attempt_41 rfl rfl ?_
        refine r_get (f := 0) (v := .int 2) C dX6_attempt_42 ⟨by decide, by decide⟩ rfl rfl kU6 (by decide) kf_X6_86 rfl (by simp [up3_at]) ?_
        refine r_ifle (tgt := 50) C dX6_attempt_45 (by decide) (fun c45 => ?_) (fun c45 => ?_)
        · exact absurd c45 (by decide)
        · refine r_iconst (v := 0) C dX6_attempt_48 rfl ?_
          exact r_iret C dX6_attempt_49 rfl (by decide) (Or.inr (Or.inl ⟨hC, hno, rfl, rfl, rfl⟩))
      · have hR := inB3_t.mp (b2i_n.mp c30)
        refine r_iconst (v := 0) C dX6_attempt_33 rfl ?_
        refine r_goto (tgt := 38) C dX6_attempt_34 (by decide) ?_
        refine r_put (f := 0) C dX6_attempt_38 ⟨by decide, by decide⟩ rfl rfl kU6 tyX6 tyX6_ok nmX6 (by decide) kf_X6_86 rfl rfl (by decide +kernel) (Nat.le_of_ble_eq_true rfl) (by simp [cel, up3]) ?_
        refine r_aload_n C dX6_attempt_41 rfl rfl ?_
        refine r_get (f := 0) (v := .int 0) C dX6_attempt_42 ⟨by decide, by decide⟩ rfl rfl kU6 (by decide) kf_X6_86 rfl (by simp [up3_at]) ?_
        refine r_ifle (tgt := 50) C dX6_attempt_45 (by decide) (fun c45 => ?_) (fun c45 => ?_)
        · obtain ⟨c, hc, rfl⟩ := isC_nI hC
          obtain ⟨sdn, hsd, rfl⟩ := in_7874 hS
          obtain ⟨Rn, hR20, rfl⟩ := in_20 hR
          obtain ⟨q, hq9⟩ := hPL c hc
          obtain ⟨σ0, hs0⟩ : ∃ s, s = (up3 σ 19 0 0 0) := ⟨_, rfl⟩
          rw [← hs0]
          have hK0 : moK σ0 o := moK_of (σ := σ) (by rw [hs0, up3_ne _ _ _ _ _ (by simp)]) (by rw [hs0, up3_ne _ _ _ _ _ (by simp)]) (by rw [hs0, up3_ne _ _ _ _ _ (by simp)]) (by rw [hs0, up3_ne _ _ _ _ _ (by simp)]) hK
          have hL0 : mLK σ0 fl wv o := by rw [hs0]; exact mLK_t 0 hL
          have hq0 : mpK σ0 c q := by unfold mpK at hq9 ⊢; rw [hs0]; simpa [up3_at] using hq9
          have e2 : σ0 20 2 = σ 20 2 := (by rw [hs0, up3_ne _ _ _ _ _ (by simp)])
          have hrg0 : rgK (mIn σ0) (σ0 20 5) (σ0 20 6) := by
            have eIn : mIn σ0 = mIn σ := by funext z; unfold mIn; rw [e2]
            rw [eIn, show σ0 20 5 = σ 20 5 from (by rw [hs0, up3_ne _ _ _ _ _ (by simp)]), show σ0 20 6 = σ 20 6 from (by rw [hs0, up3_ne _ _ _ _ _ (by simp)])]
            exact hrg
          have hfin2 := fun r σ' τ' (z : maQ σ0 τ fl wv o c q sdn Rn r σ' τ') => hfin r σ' τ' ⟨c, sdn, Rn, q, hc, rfl, rfl, rfl, hsd, hR20, ⟨hS, hR⟩, hq9, by rw [← hs0]; exact z⟩
          clear hfin hK hL hPL hq9 hrg hs0
          obtain ⟨hq, hq4, hpl⟩ := hq0
          refine r_iload_n C dX6_attempt_50 rfl rfl ?_
          refine r_istore C dX6_attempt_51 (by decide) rfl ?_
          refine r_iconst (v := 0) C dX6_attempt_53 rfl ?_
          refine r_istore C dX6_attempt_54 (by decide) rfl ?_
          have lp1 : ∀ m a, a ≤ Rn → Rn - a < m → ∀ (vs fs st : Nat → Int32), (∀ b, b < a → okM σ0 c q sdn b) → S 0 (moS σ0 (trM σ0 sdn a).1 vs fs st) τ 56 [some (.ref (ad 19 0)), some (.int (nI c)), some (.int (nI sdn)), some (.int (nI Rn)), some (.int (nI (trM σ0 sdn a).2)), some (.int (nI a)), none] [] := by
            intro m
            induction m with
            | zero => intro a _ hm; omega
            | succ m ih1 =>
              intro a ha hm vs fs st hdone
              have hdl := trR_d (inp := mIn σ0) (lo := σ0 20 5) (hi := σ0 20 6) (row := σ0 20 22) hsd a
              refine r_iload C dX6_attempt_56 rfl ?_
              refine r_iload_n C dX6_attempt_58 rfl rfl ?_
              refine r_icmpge (tgt := 227) C dX6_attempt_59 (by decide) (fun c59 => ?_) (fun c59 => ?_)
              · have n59 := Int32.not_lt.mpr c59
                have haR : a = Rn := by
                  have := (nI_leI (by omega) (by omega)).mp c59
                  omega
                subst haR
                refine r_aload_n C dX6_attempt_227 rfl rfl ?_
                refine r_callV C dX6_attempt_228 (m_locksK (moS σ0 (trM σ0 sdn a).1 vs fs st) τ fl wv o (moS_mLK _ _ _ _ hL0)) rfl ⟨by decide, by decide⟩ rfl rfl kB_X6_locks rfl kI_X6_locks kV_X6_locks kl_X6_150 (by decide) (Nat.le_of_ble_eq_true rfl) (by decide) ?_
                rintro r9 σ' τ' ⟨rfl, rfl, rfl⟩
                rw [moS_mR, show lkF (mR σ0) fl wv o 16 = (mlk σ0 fl wv o) from rfl]
                refine r_istore C dX6_attempt_231 (by decide) rfl ?_
                refine r_aload_n C dX6_attempt_233 rfl rfl ?_
                refine r_get (f := 16) C dX6_attempt_234 ⟨by decide, by decide⟩ rfl rfl kU6 (by decide) kf_X6_46 rfl rfl ?_
                refine r_iload_n C dX6_attempt_237 rfl rfl ?_
                refine r_ialdv (v := σ0 20 12 c) C dX6_attempt_238 ⟨by decide, by decide⟩ rfl (vp_in_nI hc (by decide)) (by rw [nI_clamp (by omega), moS_ne _ _ _ _ _ _ (by decide)]) ?_
                refine r_iconst (v := 2) C dX6_attempt_239 rfl ?_
                refine r_icmpne (tgt := 247) C dX6_attempt_240 (by decide) (fun c240 => ?_) (fun c240 => ?_)
                · refine r_iconst (v := 0) C dX6_attempt_247 rfl ?_
                  refine r_istore C dX6_attempt_248 (by decide) rfl ?_
                  refine r_aload_n C dX6_attempt_250 rfl rfl ?_
                  refine r_get (f := 16) C dX6_attempt_251 ⟨by decide, by decide⟩ rfl rfl kU6 (by decide) kf_X6_46 rfl rfl ?_
                  refine r_iload_n C dX6_attempt_254 rfl rfl ?_
                  refine r_iconst (v := 1) C dX6_attempt_255 rfl ?_
                  refine r_iastv C dX6_attempt_256 ⟨by decide, by decide⟩ (fun _ => rfl) (vp_in_nI hc (by decide)) (nI_clamp (by omega)) ?_
                  refine r_aload_n C dX6_attempt_257 rfl rfl ?_
                  refine r_get (f := 19) C dX6_attempt_258 ⟨by decide, by decide⟩ rfl rfl kU6 (by decide) kf_X6_55 rfl rfl ?_
                  refine r_iload_n C dX6_attempt_261 rfl rfl ?_
                  refine r_iconst (v := (-1)) C dX6_attempt_262 rfl ?_
                  refine r_iastv C dX6_attempt_263 ⟨by decide, by decide⟩ (fun _ => rfl) (vp_in_nI hc (by decide)) (nI_clamp (by omega)) ?_
                  rw [show up3 (up3 (moS σ0 (trM σ0 sdn a).1 vs fs st) 20 12 c 1) 20 15 c (-1) = mpS σ0 (trM σ0 sdn a).1 vs fs st c from rfl]
                  refine r_iload C dX6_attempt_264 rfl ?_
                  refine r_ifeq (tgt := 276) C dX6_attempt_266 (by decide) (fun c266 => ?_) (fun c266 => ?_)
                  · skip
                    refine r_iconst (v := (-1)) C dX6_attempt_276 rfl ?_
                    exact r_iret C dX6_attempt_277 rfl (by decide) (hfin2 _ _ _ ⟨rfl, Or.inl ⟨vs, fs, st, hdone, rfl, Or.inl ⟨c240, rfl⟩⟩⟩)
                  · exact absurd (by decide) c266
                · refine r_iconst (v := 1) C dX6_attempt_243 rfl ?_
                  refine r_goto (tgt := 248) C dX6_attempt_244 (by decide) ?_
                  refine r_istore C dX6_attempt_248 (by decide) rfl ?_
                  refine r_aload_n C dX6_attempt_250 rfl rfl ?_
                  refine r_get (f := 16) C dX6_attempt_251 ⟨by decide, by decide⟩ rfl rfl kU6 (by decide) kf_X6_46 rfl rfl ?_
                  refine r_iload_n C dX6_attempt_254 rfl rfl ?_
                  refine r_iconst (v := 1) C dX6_attempt_255 rfl ?_
                  refine r_iastv C dX6_attempt_256 ⟨by decide, by decide⟩ (fun _ => rfl) (vp_in_nI hc (by decide)) (nI_clamp (by omega)) ?_
                  refine r_aload_n C dX6_attempt_257 rfl rfl ?_
                  refine r_get (f := 19) C dX6_attempt_258 ⟨by decide, by decide⟩ rfl rfl kU6 (by decide) kf_X6_55 rfl rfl ?_
                  refine r_iload_n C dX6_attempt_261 rfl rfl ?_
                  refine r_iconst (v := (-1)) C dX6_attempt_262 rfl ?_
                  refine r_iastv C dX6_attempt_263 ⟨by decide, by decide⟩ (fun _ => rfl) (vp_in_nI hc (by decide)) (nI_clamp (by omega)) ?_
                  rw [show up3 (up3 (moS σ0 (trM σ0 sdn a).1 vs fs st) 20 12 c 1) 20 15 c (-1) = mpS σ0 (trM σ0 sdn a).1 vs fs st c from rfl]
                  refine r_iload C dX6_attempt_264 rfl ?_
                  refine r_ifeq (tgt := 276) C dX6_attempt_266 (by decide) (fun c266 => ?_) (fun c266 => ?_)
                  · exact absurd c266 (by decide)
                  · skip
                    refine r_aload_n C dX6_attempt_269 rfl rfl ?_
                    refine r_iload_n C dX6_attempt_270 rfl rfl ?_
                    refine r_iload C dX6_attempt_271 rfl ?_
                    refine r_callV C dX6_attempt_273 (m_unlocks (mpS σ0 (trM σ0 sdn a).1 vs fs st c) τ c (mlk σ0 fl wv o) (fl &&& (b1 c ^^^ (-1))) wv o hc (mLK_pass hc (moS_mLK _ _ _ _ hL0))) rfl ⟨by decide, by decide⟩ rfl rfl kB_X6_unlocks rfl kI_X6_unlocks kV_X6_unlocks kl_X6_161 (by decide) (Nat.le_of_ble_eq_true rfl) (by decide) ?_
                    rintro r9 σ' τ' ⟨g, u, rfl, rfl, rfl, hu⟩
                    rw [mpS_mR, show lkF (mR σ0) (fl &&& (b1 c ^^^ (-1))) wv o 16 = mlk σ0 (fl &&& (b1 c ^^^ (-1))) wv o from rfl] at hu
                    rw [mpS_mR, show lkF (mR σ0) (fl &&& (b1 c ^^^ (-1))) wv o 16 = mlk σ0 (fl &&& (b1 c ^^^ (-1))) wv o from rfl]
                    refine r_iconst (v := (-1)) C dX6_attempt_276 rfl ?_
                    exact r_iret C dX6_attempt_277 rfl (by decide) (hfin2 _ _ _ ⟨rfl, Or.inl ⟨vs, fs, st, hdone, rfl, Or.inr ⟨c240, g, u, rfl, hu⟩⟩⟩)
              · have n59 := Int32.not_le.mp c59
                have haR : a < Rn := (nI_ltI (by omega) (by omega)).mp n59
                refine r_iconst (v := 0) C dX6_attempt_62 rfl ?_
                refine r_istore C dX6_attempt_63 (by decide) rfl ?_
                have lp2 : ∀ m i, i ≤ 16 → 16 - i < m → S 0 (moS σ0 (frF (mIn σ0) (σ0 20 5) (σ0 20 6) a (trM σ0 sdn a).1 (trM σ0 sdn a).2 i).1 vs fs st) τ 65 [some (.ref (ad 19 0)), some (.int (nI c)), some (.int (nI sdn)), some (.int (nI Rn)), some (.int (nI (frF (mIn σ0) (σ0 20 5) (σ0 20 6) a (trM σ0 sdn a).1 (trM σ0 sdn a).2 i).2)), some (.int (nI a)), some (.int (nI i))] [] := by
                  intro m
                  induction m with
                  | zero => intro i _ hm; omega
                  | succ m ih2 =>
                    intro i hi hm
                    have hfd := frF_d (inp := mIn σ0) (lo := σ0 20 5) (hi := σ0 20 6) (a := a) (row := (trM σ0 sdn a).1) hdl i
                    refine r_iload C dX6_attempt_65 rfl ?_
                    refine r_bipush (v := 16) C dX6_attempt_67 rfl ?_
                    refine r_icmpge (tgt := 181) C dX6_attempt_69 (by decide) (fun c69 => ?_) (fun c69 => ?_)
                    · have n69 := Int32.not_lt.mpr c69
                      have hi16 : i = 16 := by
                        have := (nI_leI (a := 16) (by omega) (by omega)).mp c69
                        omega
                      subst hi16
                      have hrow : ∀ L, S 0 (moS σ0 (trM σ0 sdn (a + 1)).1 vs fs st) τ 181 ([some (.ref (ad 19 0)), some (.int (nI c)), some (.int (nI sdn)), some (.int (nI Rn)), some (.int (nI (trM σ0 sdn (a + 1)).2)), some (.int (nI a)), none] : gLoc) [] → L = ([some (.ref (ad 19 0)), some (.int (nI c)), some (.int (nI sdn)), some (.int (nI Rn)), some (.int (nI (frF (mIn σ0) (σ0 20 5) (σ0 20 6) a (trM σ0 sdn a).1 (trM σ0 sdn a).2 16).2)), some (.int (nI a)), some (.int (nI 16))] : gLoc) → S 0 (moS σ0 (frF (mIn σ0) (σ0 20 5) (σ0 20 6) a (trM σ0 sdn a).1 (trM σ0 sdn a).2 16).1 vs fs st) τ 181 L [] := fun L h e => by
                        subst e
                        exact r_drop C [6] h
                      refine hrow _ ?_ rfl
                      refine r_iconst (v := 0) C dX6_attempt_181 rfl ?_
                      refine r_istore C dX6_attempt_182 (by decide) rfl ?_
                      have lp3 : ∀ m p, p ≤ q → q - p < m → ∀ (vs fs st : Nat → Int32), (∀ z, z < p → prM σ0 c z (trM σ0 sdn (a + 1)).1 = true) → S 0 (moS σ0 (trM σ0 sdn (a + 1)).1 vs fs st) τ 184 [some (.ref (ad 19 0)), some (.int (nI c)), some (.int (nI sdn)), some (.int (nI Rn)), some (.int (nI (trM σ0 sdn (a + 1)).2)), some (.int (nI a)), some (.int (nI p))] [] := by
                        intro m
                        induction m with
                        | zero => intro p _ hm; omega
                        | succ m ih3 =>
                          intro p hp hmp vs fs st hpd
                          refine r_iload C dX6_attempt_184 rfl ?_
                          refine r_aload_n C dX6_attempt_186 rfl rfl ?_
                          refine r_get (f := 13) C dX6_attempt_187 ⟨by decide, by decide⟩ rfl rfl kU6 (by decide) kf_X6_37 rfl rfl ?_
                          refine r_iload_n C dX6_attempt_190 rfl rfl ?_
                          refine r_ialdv (v := nI q) C dX6_attempt_191 ⟨by decide, by decide⟩ rfl (vp_in_nI hc (by decide)) (by rw [nI_clamp (by omega), moS_ne _ _ _ _ _ _ (by decide)]; exact hq) ?_
                          refine r_icmpge (tgt := 221) C dX6_attempt_192 (by decide) (fun c192 => ?_) (fun c192 => ?_)
                          · have n192 := Int32.not_lt.mpr c192
                            have hpq : p = q := by
                              have := (nI_leI (by omega) (by omega)).mp c192
                              omega
                            subst hpq
                            have hdone2 : ∀ b, b < a + 1 → okM σ0 c p sdn b := fun b hb => by
                              by_cases e : b = a
                              · subst e; exact hpd
                              · exact hdone b (by omega)
                            refine r_iinc C dX6_attempt_221 rfl rfl (by decide) rfl ?_
                            refine r_goto (tgt := 56) C dX6_attempt_224 (by decide) ?_
                            refine r_drop C [6] ?_
                            exact r_swk (ih1 (a + 1) (by omega) (by omega) vs fs st hdone2) rfl rfl (by rw [← nI_p1]; rfl) rfl
                          · have n192 := Int32.not_le.mp c192
                            have hpq : p < q := (nI_ltI (by omega) (by omega)).mp n192
                            obtain ⟨⟨hk0, hk3⟩, hnn⟩ := hpl p hpq
                            refine r_aload_n C dX6_attempt_195 rfl rfl ?_
                            refine r_iload_n C dX6_attempt_196 rfl rfl ?_
                            refine r_iload C dX6_attempt_197 rfl ?_
                            refine r_callV C dX6_attempt_199 (m_holds (moS σ0 (trM σ0 sdn (a + 1)).1 vs fs st) τ c p (σ0 20 10 (4 * c + p)) (σ0 20 11 (4 * c + p)) o hc (by omega) (by rw [moS_ne _ _ _ _ _ _ (by decide)]) (by rw [moS_ne _ _ _ _ _ _ (by decide)]) (moS_moK _ _ _ _ hK0) hk0 hk3 hnn) rfl ⟨by decide, by decide⟩ rfl rfl kB_X6_holds rfl kI_X6_holds kV_X6_holds kl_X6_143 (by decide) (Nat.le_of_ble_eq_true rfl) (by decide) ?_
                            rintro r9 σ' τ' ⟨vs2, fs2, st2, rfl, rfl, rfl⟩
                            rw [moS_maS, moS_mV, moS_mIn, moS_ne _ _ _ _ _ 6 (by decide), moS_22, show prH (mV σ0) (mIn σ0) (σ0 20 6) c (σ0 20 10 (4 * c + p)) (σ0 20 11 (4 * c + p)) (trM σ0 sdn (a + 1)).1 = prM σ0 c p (trM σ0 sdn (a + 1)).1 from rfl]
                            refine r_ifne (tgt := 215) C dX6_attempt_202 (by decide) (fun c202 => ?_) (fun c202 => ?_)
                            · have h202 := b2i_n.mp c202
                              have hpd2 : ∀ z, z < p + 1 → prM σ0 c z (trM σ0 sdn (a + 1)).1 = true := fun z hz => by
                                by_cases e : z = p
                                · subst e; exact h202
                                · exact hpd z (by omega)
                              refine r_iinc C dX6_attempt_215 rfl rfl (by decide) rfl ?_
                              refine r_goto (tgt := 184) C dX6_attempt_218 (by decide) ?_
                              exact r_swk (ih3 (p + 1) (by omega) (by omega) vs2 fs2 st2 hpd2) rfl rfl (by rw [← nI_p1]; rfl) rfl
                            · have h202 := b2i_0.mp c202
                              refine r_aload_n C dX6_attempt_205 rfl rfl ?_
                              refine r_iload_n C dX6_attempt_206 rfl rfl ?_
                              refine r_iload C dX6_attempt_207 rfl ?_
                              refine r_callV C dX6_attempt_209 (m_exemplifies (moS σ0 (trM σ0 sdn (a + 1)).1 vs2 fs2 st2) τ c p (σ0 20 10 (4 * c + p)) (σ0 20 11 (4 * c + p)) o hc (by omega) (by rw [moS_ne _ _ _ _ _ _ (by decide)]) (by rw [moS_ne _ _ _ _ _ _ (by decide)]) (moS_moK _ _ _ _ hK0) hk0 hk3 hnn (by rw [moS_mIn, moS_ne _ _ _ _ _ 5 (by decide), moS_ne _ _ _ _ _ 6 (by decide)]; exact hrg0) (by rw [moS_mIn, moS_ne _ _ _ _ _ 5 (by decide), moS_ne _ _ _ _ _ 6 (by decide), moS_22]; exact trR_rw hsd hrg0 a)) rfl ⟨by decide, by decide⟩ rfl rfl kB_X6_exemplifies rfl kI_X6_exemplifies kV_X6_exemplifies kl_X6_157 (by decide) (Nat.le_of_ble_eq_true rfl) (by decide) ?_
                              rintro r9 σ' τ' ⟨vs3, fs3, st3, rfl, rfl, rfl⟩
                              rw [mxS_moS, ssM_moS, moS_22]
                              refine r_iload C dX6_attempt_212 rfl ?_
                              exact r_iret C dX6_attempt_214 rfl (by decide) (hfin2 _ _ _ ⟨rfl, Or.inr ⟨a, p, vs3, fs3, st3, haR, hpq, hdone, hpd, h202, rfl, rfl⟩⟩)
                      exact lp3 (q + 1) 0 (by omega) (by omega) vs fs st (fun z hz => absurd hz (Nat.not_lt_zero z))
                    · have n69 := Int32.not_le.mp c69
                      have hil : i < 16 := (nI_ltI (b := 16) (by omega) (by omega)).mp n69
                      refine r_aload_n C dX6_attempt_72 rfl rfl ?_
                      refine r_get (f := 6) C dX6_attempt_73 ⟨by decide, by decide⟩ rfl rfl kU6 (by decide) kf_X6_16 rfl rfl ?_
                      refine r_iload C dX6_attempt_76 rfl ?_
                      refine r_ialdv (v := σ0 20 2 i) C dX6_attempt_78 ⟨by decide, by decide⟩ rfl (vp_in_nI hil (by decide)) (by rw [nI_clamp (by omega), moS_ne _ _ _ _ _ _ (by decide)]) ?_
                      refine r_ifne (tgt := 175) C dX6_attempt_79 (by decide) (fun c79 => ?_) (fun c79 => ?_)
                      · have hin : mIn σ0 i = false := decide_eq_false c79
                        have hfr : (frF (mIn σ0) (σ0 20 5) (σ0 20 6) a (trM σ0 sdn a).1 (trM σ0 sdn a).2 (i + 1)) = (frF (mIn σ0) (σ0 20 5) (σ0 20 6) a (trM σ0 sdn a).1 (trM σ0 sdn a).2 i) := frF_f hin
                        refine r_iinc C dX6_attempt_175 rfl rfl (by decide) rfl ?_
                        refine r_goto (tgt := 65) C dX6_attempt_178 (by decide) ?_
                        exact r_swk (ih2 (i + 1) (by omega) (by omega)) (congrArg (fun z => moS σ0 z.1 vs fs st) hfr) rfl (by rw [hfr, nI_p1 i]; rfl) rfl
                      · have hin : mIn σ0 i = true := decide_eq_true c79
                        have hfr : (frF (mIn σ0) (σ0 20 5) (σ0 20 6) a (trM σ0 sdn a).1 (trM σ0 sdn a).2 (i + 1)) = (upd (frF (mIn σ0) (σ0 20 5) (σ0 20 6) a (trM σ0 sdn a).1 (trM σ0 sdn a).2 i).1 i (rvV a (σ0 20 5 i) (σ0 20 6 i) (nxD a (frF (mIn σ0) (σ0 20 5) (σ0 20 6) a (trM σ0 sdn a).1 (trM σ0 sdn a).2 i).2)), nxD a (frF (mIn σ0) (σ0 20 5) (σ0 20 6) a (trM σ0 sdn a).1 (trM σ0 sdn a).2 i).2) := frF_t hin
                        have j107 : S 0 (moS σ0 (frF (mIn σ0) (σ0 20 5) (σ0 20 6) a (trM σ0 sdn a).1 (trM σ0 sdn a).2 i).1 vs fs st) τ 107 [some (.ref (ad 19 0)), some (.int (nI c)), some (.int (nI sdn)), some (.int (nI Rn)), some (.int (nI (frF (mIn σ0) (σ0 20 5) (σ0 20 6) a (trM σ0 sdn a).1 (trM σ0 sdn a).2 i).2)), some (.int (nI a)), some (.int (nI i))] [.int (nI (nxD a (frF (mIn σ0) (σ0 20 5) (σ0 20 6) a (trM σ0 sdn a).1 (trM σ0 sdn a).2 i).2))] := by
                          refine r_istore C dX6_attempt_107 (by decide) rfl ?_
                          have j174 : ∀ v, (rvV a (σ0 20 5 i) (σ0 20 6 i) (nxD a (frF (mIn σ0) (σ0 20 5) (σ0 20 6) a (trM σ0 sdn a).1 (trM σ0 sdn a).2 i).2)) = v → S 0 (moS σ0 (frF (mIn σ0) (σ0 20 5) (σ0 20 6) a (trM σ0 sdn a).1 (trM σ0 sdn a).2 i).1 vs fs st) τ 174 [some (.ref (ad 19 0)), some (.int (nI c)), some (.int (nI sdn)), some (.int (nI Rn)), some (.int (nI (nxD a (frF (mIn σ0) (σ0 20 5) (σ0 20 6) a (trM σ0 sdn a).1 (trM σ0 sdn a).2 i).2))), some (.int (nI a)), some (.int (nI i))] [.int v, .int (nI i), .ref (ad 20 22)] := by
                            intro v hv
                            refine r_iastv C dX6_attempt_174 ⟨by decide, by decide⟩ (fun _ => rfl) (vp_in_nI hil (by decide)) (nI_clamp (by omega)) ?_
                            rw [moS_row, ← hv]
                            refine r_iinc C dX6_attempt_175 rfl rfl (by decide) rfl ?_
                            refine r_goto (tgt := 65) C dX6_attempt_178 (by decide) ?_
                            exact r_swk (ih2 (i + 1) (by omega) (by omega)) (congrArg (fun z => moS σ0 z.1 vs fs st) hfr) rfl (by rw [hfr, nI_p1 i]; rfl) rfl
                          refine r_aload_n C dX6_attempt_109 rfl rfl ?_
                          refine r_get (f := 27) C dX6_attempt_110 ⟨by decide, by decide⟩ rfl rfl kU6 (by decide) kf_X6_77 rfl rfl ?_
                          refine r_iload C dX6_attempt_113 rfl ?_
                          refine r_iload C dX6_attempt_115 rfl ?_
                          refine r_ifne (tgt := 130) C dX6_attempt_117 (by decide) (fun c117 => ?_) (fun c117 => ?_)
                          · have ha0 : ¬ a = 0 := fun z => c117 (by rw [z]; rfl)
                            refine r_iload C dX6_attempt_130 rfl ?_
                            refine r_iconst (v := 1) C dX6_attempt_132 rfl ?_
                            refine r_icmpne (tgt := 146) C dX6_attempt_133 (by decide) (fun c133 => ?_) (fun c133 => ?_)
                            · have ha2 : ¬ a = 1 := fun z => c133 (by rw [z]; rfl)
                              obtain ⟨z, hz1, hz2, hz3, hz4⟩ := rg_size (hrg0 i hil hin)
                              refine r_aload_n C dX6_attempt_146 rfl rfl ?_
                              refine r_get (f := 9) C dX6_attempt_147 ⟨by decide, by decide⟩ rfl rfl kU6 (by decide) kf_X6_25 rfl rfl ?_
                              refine r_iload C dX6_attempt_150 rfl ?_
                              refine r_ialdv (v := σ0 20 5 i) C dX6_attempt_152 ⟨by decide, by decide⟩ rfl (vp_in_nI hil (by decide)) (by rw [nI_clamp (by omega), moS_ne _ _ _ _ _ _ (by decide)]) ?_
                              refine r_iload C dX6_attempt_153 rfl ?_
                              refine r_aload_n C dX6_attempt_155 rfl rfl ?_
                              refine r_get (f := 10) C dX6_attempt_156 ⟨by decide, by decide⟩ rfl rfl kU6 (by decide) kf_X6_28 rfl rfl ?_
                              refine r_iload C dX6_attempt_159 rfl ?_
                              refine r_ialdv (v := σ0 20 6 i) C dX6_attempt_161 ⟨by decide, by decide⟩ rfl (vp_in_nI hil (by decide)) (by rw [nI_clamp (by omega), moS_ne _ _ _ _ _ _ (by decide)]) ?_
                              refine r_aload_n C dX6_attempt_162 rfl rfl ?_
                              refine r_get (f := 9) C dX6_attempt_163 ⟨by decide, by decide⟩ rfl rfl kU6 (by decide) kf_X6_25 rfl rfl ?_
                              refine r_iload C dX6_attempt_166 rfl ?_
                              refine r_ialdv (v := σ0 20 5 i) C dX6_attempt_168 ⟨by decide, by decide⟩ rfl (vp_in_nI hil (by decide)) (by rw [nI_clamp (by omega), moS_ne _ _ _ _ _ _ (by decide)]) ?_
                              refine r_isub C dX6_attempt_169 ?_
                              refine r_iconst (v := 1) C dX6_attempt_170 rfl ?_
                              refine r_iadd C dX6_attempt_171 ?_
                              rw [hz3]
                              refine r_irem C dX6_attempt_172 (fun q => by have := (nI_eq (b := 0) (by omega) (by decide)).mp q; omega) ?_
                              have hv : (rvV a (σ0 20 5 i) (σ0 20 6 i) (nxD a (frF (mIn σ0) (σ0 20 5) (σ0 20 6) a (trM σ0 sdn a).1 (trM σ0 sdn a).2 i).2)) = σ0 20 5 i + (nI (nxD a (frF (mIn σ0) (σ0 20 5) (σ0 20 6) a (trM σ0 sdn a).1 (trM σ0 sdn a).2 i).2) - nI (nxD a (frF (mIn σ0) (σ0 20 5) (σ0 20 6) a (trM σ0 sdn a).1 (trM σ0 sdn a).2 i).2) / nI z * nI z) := by unfold rvV; rw [if_neg ha0, if_neg ha2, hz3]
                              refine r_iadd C dX6_attempt_173 ?_
                              exact j174 _ hv
                            · have ha2 : a = 1 := (nI_eq (by omega) (by decide)).mp c133
                              have hv : (rvV a (σ0 20 5 i) (σ0 20 6 i) (nxD a (frF (mIn σ0) (σ0 20 5) (σ0 20 6) a (trM σ0 sdn a).1 (trM σ0 sdn a).2 i).2)) = σ0 20 6 i := by unfold rvV; rw [if_neg ha0, if_pos ha2]
                              refine r_aload_n C dX6_attempt_136 rfl rfl ?_
                              refine r_get (f := 10) C dX6_attempt_137 ⟨by decide, by decide⟩ rfl rfl kU6 (by decide) kf_X6_28 rfl rfl ?_
                              refine r_iload C dX6_attempt_140 rfl ?_
                              refine r_ialdv (v := σ0 20 6 i) C dX6_attempt_142 ⟨by decide, by decide⟩ rfl (vp_in_nI hil (by decide)) (by rw [nI_clamp (by omega), moS_ne _ _ _ _ _ _ (by decide)]) ?_
                              refine r_goto (tgt := 174) C dX6_attempt_143 (by decide) ?_
                              exact j174 _ hv
                          · have ha0 : a = 0 := (nI_eq (by omega) (by decide)).mp c117
                            have hv : (rvV a (σ0 20 5 i) (σ0 20 6 i) (nxD a (frF (mIn σ0) (σ0 20 5) (σ0 20 6) a (trM σ0 sdn a).1 (trM σ0 sdn a).2 i).2)) = σ0 20 5 i := by unfold rvV; rw [if_pos ha0]
                            refine r_aload_n C dX6_attempt_120 rfl rfl ?_
                            refine r_get (f := 9) C dX6_attempt_121 ⟨by decide, by decide⟩ rfl rfl kU6 (by decide) kf_X6_25 rfl rfl ?_
                            refine r_iload C dX6_attempt_124 rfl ?_
                            refine r_ialdv (v := σ0 20 5 i) C dX6_attempt_126 ⟨by decide, by decide⟩ rfl (vp_in_nI hil (by decide)) (by rw [nI_clamp (by omega), moS_ne _ _ _ _ _ _ (by decide)]) ?_
                            refine r_goto (tgt := 174) C dX6_attempt_127 (by decide) ?_
                            exact j174 _ hv
                        refine r_iload C dX6_attempt_82 rfl ?_
                        refine r_iconst (v := 1) C dX6_attempt_84 rfl ?_
                        refine r_icmple (tgt := 105) C dX6_attempt_85 (by decide) (fun c85 => ?_) (fun c85 => ?_)
                        · have n85 := Int32.not_lt.mpr c85
                          have ha1 : a ≤ 1 := (nI_leI (b := 1) (by omega) (by decide)).mp c85
                          have hnx : nxD a (frF (mIn σ0) (σ0 20 5) (σ0 20 6) a (trM σ0 sdn a).1 (trM σ0 sdn a).2 i).2 = (frF (mIn σ0) (σ0 20 5) (σ0 20 6) a (trM σ0 sdn a).1 (trM σ0 sdn a).2 i).2 := nxD_0 ha1
                          refine r_iload C dX6_attempt_105 rfl ?_
                          have j107b := j107
                          rw [hnx] at j107b
                          exact j107b
                        · have n85 := Int32.not_le.mp c85
                          have ha1 : ¬ a ≤ 1 := fun z => c85 ((nI_leI (b := 1) (by omega) (by decide)).mpr z)
                          have hnx : nxD a (frF (mIn σ0) (σ0 20 5) (σ0 20 6) a (trM σ0 sdn a).1 (trM σ0 sdn a).2 i).2 = (421 * (frF (mIn σ0) (σ0 20 5) (σ0 20 6) a (trM σ0 sdn a).1 (trM σ0 sdn a).2 i).2 + 1663) % 7875 := nxD_1 ha1
                          refine r_sipush (v := 421) C dX6_attempt_88 rfl ?_
                          refine r_iload C dX6_attempt_91 rfl ?_
                          refine r_imul C dX6_attempt_93 ?_
                          refine r_sipush (v := 1663) C dX6_attempt_94 rfl ?_
                          refine r_iadd C dX6_attempt_97 ?_
                          refine r_sipush (v := 7875) C dX6_attempt_98 rfl ?_
                          refine r_irem C dX6_attempt_101 (by decide) ?_
                          rw [nx_drawnM hfd, ← hnx]
                          refine r_goto (tgt := 107) C dX6_attempt_102 (by decide) ?_
                          exact j107
                exact lp2 17 0 (by omega) (by omega)
          exact r_swk (lp1 (Rn + 1) 0 (by omega) (by omega) (σ0 20 20) (σ0 20 21) (σ0 20 23) (fun b hb => absurd hb (Nat.not_lt_zero b))) (moS_id σ0) rfl rfl rfl
        · exact absurd (by decide) c45
  · have hC := isCB_f.mp (b2i_0.mp c5)
    refine r_iconst (v := 1) C dX6_attempt_8 rfl ?_
    refine r_goto (tgt := 38) C dX6_attempt_9 (by decide) ?_
    refine r_put (f := 0) C dX6_attempt_38 ⟨by decide, by decide⟩ rfl rfl kU6 tyX6 tyX6_ok nmX6 (by decide) kf_X6_86 rfl rfl (by decide +kernel) (Nat.le_of_ble_eq_true rfl) (by simp [cel, up3]) ?_
    refine r_aload_n C dX6_attempt_41 rfl rfl ?_
    refine r_get (f := 0) (v := .int 1) C dX6_attempt_42 ⟨by decide, by decide⟩ rfl rfl kU6 (by decide) kf_X6_86 rfl (by simp [up3_at]) ?_
    refine r_ifle (tgt := 50) C dX6_attempt_45 (by decide) (fun c45 => ?_) (fun c45 => ?_)
    · exact absurd c45 (by decide)
    · refine r_iconst (v := 0) C dX6_attempt_48 rfl ?_
      exact r_iret C dX6_attempt_49 rfl (by decide) (Or.inl ⟨hC, rfl, rfl, rfl⟩)
