/-! ===== the law's model: show: printed by g43.py ===== -/
set_option maxRecDepth 100000 in
set_option maxHeartbeats 1000000 in
theorem m_show {l : Launch} {D : va_G} {ad : Nat → Nat → Nat} {aC : Nat → ClassId} (σ : gSig) (τ : gTau) (cl fl wv : Int32) (o : Nat → Nat) (hL : mLK σ fl wv o) (hK : moK σ o) : CZ l D ad aC yX6_show cX6_show 2 (some .int) 3 [.ref (ad 19 0), .int cl] σ τ (fun r σ' τ' => (¬ isC cl ∧ thQ σ τ 1 r σ' τ') ∨ ∃ c, c < 16 ∧ cl = nI c ∧ ((bt (lkF (mR σ) fl wv o 16) c = true ∧ thQ σ τ 2 r σ' τ') ∨ (bt (lkF (mR σ) fl wv o 16) c = false ∧ ∃ vs fs st, (mV σ (σ 20 7) c = none ∧ gEq (some (.int 0)) (up3 (maS (up3 σ 19 0 0 0) vs fs st) 19 0 0 3) τ r σ' τ') ∨ ∃ v, mV σ (σ 20 7) c = some v ∧ gEq (some (.int v)) (maS (up3 σ 19 0 0 0) vs fs st) τ r σ' τ'))) := by
  refine CZ.of (own := RX6) (by decide +kernel) rfl (Nat.le_of_ble_eq_true rfl) (fun S C => ?_)
  refine r_aload_n C dX6_show_0 rfl rfl ?_
  refine r_iload_n C dX6_show_1 rfl rfl ?_
  refine r_callS C dX6_show_2 (m_isCell σ τ cl) rfl kB_X6_isCell rfl kS_X6_isCell kl_X6_104 (by decide) (Nat.le_of_ble_eq_true rfl) (by decide) ?_
  rintro r9 σ' τ' ⟨rfl, rfl, rfl⟩
  refine r_ifne (tgt := 12) C dX6_show_5 (by decide) (fun c5 => ?_) (fun c5 => ?_)
  · have hC := isCB_t.mp (b2i_n.mp c5)
    obtain ⟨c, hc, rfl⟩ := isC_nI hC
    refine r_aload_n C dX6_show_12 rfl rfl ?_
    refine r_callV C dX6_show_13 (m_locksK σ τ fl wv o hL) rfl ⟨by decide, by decide⟩ rfl rfl kB_X6_locks rfl kI_X6_locks kV_X6_locks kl_X6_150 (by decide) (Nat.le_of_ble_eq_true rfl) (by decide) ?_
    rintro r9 σ' τ' ⟨rfl, rfl, rfl⟩
    refine r_iload_n C dX6_show_16 rfl rfl ?_
    refine r_ishr C dX6_show_17 ?_
    refine r_iconst (v := 1) C dX6_show_18 rfl ?_
    refine r_iand C dX6_show_19 ?_
    refine r_iconst (v := 1) C dX6_show_20 rfl ?_
    refine r_icmpne (tgt := 28) C dX6_show_21 (by decide) (fun c21 => ?_) (fun c21 => ?_)
    · have hr : bt (lkF (mR σ) fl wv o 16) c = false := by
        cases hb : bt (lkF (mR σ) fl wv o 16) c with
        | false => rfl
        | true => exact absurd ((bt_sh1 (by omega) _).mpr hb) c21
      refine r_iconst (v := 0) C dX6_show_28 rfl ?_
      refine r_put (f := 0) C dX6_show_29 ⟨by decide, by decide⟩ rfl rfl kU6 tyX6 tyX6_ok nmX6 (by decide) kf_X6_86 rfl rfl (by decide +kernel) (Nat.le_of_ble_eq_true rfl) (by simp [cel, up3]) ?_
      refine r_aload_n C dX6_show_32 rfl rfl ?_
      refine r_get (f := 0) (v := .int 0) C dX6_show_33 ⟨by decide, by decide⟩ rfl rfl kU6 (by decide) kf_X6_86 rfl (by simp [up3_at]) ?_
      refine r_ifle (tgt := 41) C dX6_show_36 (by decide) (fun c36 => ?_) (fun c36 => ?_)
      · refine r_aload_n C dX6_show_41 rfl rfl ?_
        refine r_aload_n C dX6_show_42 rfl rfl ?_
        refine r_get (f := 11) C dX6_show_43 ⟨by decide, by decide⟩ rfl rfl kU6 (by decide) kf_X6_31 rfl rfl ?_
        refine r_callV C dX6_show_46 (m_reckonsAll (up3 σ 19 0 0 0) τ 7 (Or.inr rfl) o (moK_of (by rw [up3_ne _ _ _ _ _ (by simp)]) (by rw [up3_ne _ _ _ _ _ (by simp)]) (by rw [up3_ne _ _ _ _ _ (by simp)]) (by rw [up3_ne _ _ _ _ _ (by simp)]) hK)) rfl ⟨by decide, by decide⟩ rfl rfl kB_X6_reckonsAll rfl kI_X6_reckonsAll kV_X6_reckonsAll kl_X6_133 (by decide) (Nat.le_of_ble_eq_true rfl) (by decide) ?_
        rintro r9 σ' τ' ⟨vs, fs, st, rfl, rfl, rfl, hvs⟩
        rw [mV_of (by rw [up3_ne _ _ _ _ _ (by simp)]) (by rw [up3_ne _ _ _ _ _ (by simp)]) (by rw [up3_ne _ _ _ _ _ (by simp)]) (σ := σ) (σ' := (up3 σ 19 0 0 0)), up3_ne _ _ _ _ _ (by simp)] at hvs
        have h9 := hvs c hc
        refine r_aload_n C dX6_show_49 rfl rfl ?_
        refine r_get (f := 26) C dX6_show_50 ⟨by decide, by decide⟩ rfl rfl kU6 (by decide) kf_X6_73 rfl rfl ?_
        refine r_iload_n C dX6_show_53 rfl rfl ?_
        refine r_zaldv (v := fs c) C dX6_show_54 ⟨by decide, by decide⟩ rfl (vp_in_nI hc (by decide)) (by rw [nI_clamp (by omega), maS_f]) ?_
        refine r_ifeq (tgt := 66) C dX6_show_55 (by decide) (fun c55 => ?_) (fun c55 => ?_)
        · have hv : mV σ (σ 20 7) c = some (vs c) := by
            cases hw : mV σ (σ 20 7) c with
            | none => rw [hw] at h9; rw [show fs c = 1 from h9] at c55; exact absurd c55 (by decide)
            | some v => rw [hw] at h9; rw [h9.2]
          refine r_aload_n C dX6_show_66 rfl rfl ?_
          refine r_get (f := 25) C dX6_show_67 ⟨by decide, by decide⟩ rfl rfl kU6 (by decide) kf_X6_70 rfl rfl ?_
          refine r_iload_n C dX6_show_70 rfl rfl ?_
          refine r_ialdv (v := vs c) C dX6_show_71 ⟨by decide, by decide⟩ rfl (vp_in_nI hc (by decide)) (by rw [nI_clamp (by omega), maS_v]) ?_
          exact r_iret C dX6_show_72 rfl (by decide) (Or.inr ⟨c, hc, rfl, Or.inr ⟨hr, vs, fs, st, Or.inr ⟨vs c, hv, rfl, rfl, rfl⟩⟩⟩)
        · have hv : mV σ (σ 20 7) c = none := by
            cases hw : mV σ (σ 20 7) c with
            | none => rfl
            | some v => rw [hw] at h9; exact absurd h9.1 c55
          refine r_aload_n C dX6_show_58 rfl rfl ?_
          refine r_iconst (v := 3) C dX6_show_59 rfl ?_
          refine r_callV C dX6_show_60 (m_fails (maS (up3 σ 19 0 0 0) vs fs st) τ 3) rfl ⟨by decide, by decide⟩ rfl rfl kB_X6_fails rfl kI_X6_fails kV_X6_fails kl_X6_118 (by decide) (Nat.le_of_ble_eq_true rfl) (by decide) ?_
          rintro r9 σ' τ' ⟨rfl, rfl, rfl⟩
          refine r_goto (tgt := 72) C dX6_show_63 (by decide) ?_
          exact r_iret C dX6_show_72 rfl (by decide) (Or.inr ⟨c, hc, rfl, Or.inr ⟨hr, vs, fs, st, Or.inl ⟨hv, rfl, rfl, rfl⟩⟩⟩)
      · exact absurd (by decide) c36
    · have hr : bt (lkF (mR σ) fl wv o 16) c = true := (bt_sh1 (by omega) _).mp c21
      refine r_iconst (v := 2) C dX6_show_24 rfl ?_
      refine r_goto (tgt := 29) C dX6_show_25 (by decide) ?_
      refine r_put (f := 0) C dX6_show_29 ⟨by decide, by decide⟩ rfl rfl kU6 tyX6 tyX6_ok nmX6 (by decide) kf_X6_86 rfl rfl (by decide +kernel) (Nat.le_of_ble_eq_true rfl) (by simp [cel, up3]) ?_
      refine r_aload_n C dX6_show_32 rfl rfl ?_
      refine r_get (f := 0) (v := .int 2) C dX6_show_33 ⟨by decide, by decide⟩ rfl rfl kU6 (by decide) kf_X6_86 rfl (by simp [up3_at]) ?_
      refine r_ifle (tgt := 41) C dX6_show_36 (by decide) (fun c36 => ?_) (fun c36 => ?_)
      · exact absurd c36 (by decide)
      · refine r_iconst (v := 0) C dX6_show_39 rfl ?_
        exact r_iret C dX6_show_40 rfl (by decide) (Or.inr ⟨c, hc, rfl, Or.inl ⟨hr, rfl, rfl, rfl⟩⟩)
  · have hC := isCB_f.mp (b2i_0.mp c5)
    refine r_iconst (v := 1) C dX6_show_8 rfl ?_
    refine r_goto (tgt := 29) C dX6_show_9 (by decide) ?_
    refine r_put (f := 0) C dX6_show_29 ⟨by decide, by decide⟩ rfl rfl kU6 tyX6 tyX6_ok nmX6 (by decide) kf_X6_86 rfl rfl (by decide +kernel) (Nat.le_of_ble_eq_true rfl) (by simp [cel, up3]) ?_
    refine r_aload_n C dX6_show_32 rfl rfl ?_
    refine r_get (f := 0) (v := .int 1) C dX6_show_33 ⟨by decide, by decide⟩ rfl rfl kU6 (by decide) kf_X6_86 rfl (by simp [up3_at]) ?_
    refine r_ifle (tgt := 41) C dX6_show_36 (by decide) (fun c36 => ?_) (fun c36 => ?_)
    · exact absurd c36 (by decide)
    · refine r_iconst (v := 0) C dX6_show_39 rfl ?_
      exact r_iret C dX6_show_40 rfl (by decide) (Or.inl ⟨hC, rfl, rfl, rfl⟩)
