/-! ===== the law's model: waive, example: printed by g42.py ===== -/
set_option maxRecDepth 100000 in
set_option maxHeartbeats 1000000 in
theorem m_waive {l : Launch} {D : va_G} {ad : Nat → Nat → Nat} {aC : Nat → ClassId} (σ : gSig) (τ : gTau) (cl w d fl wv : Int32) (wv2 : Nat → Int32) (o : Nat → Nat) (hL : mLK σ fl wv o) (hL2 : ∀ c, c < 16 → mLK (up3 (up3 σ 19 0 0 0) 20 17 c (σ 19 0 1 + d)) fl (wv2 c) o) : CZ l D ad aC yX6_waive cX6_waive 4 (some .int) 2 [.ref (ad 19 0), .int cl, .int w, .int d] σ τ (fun r σ' τ' => (¬ isC cl ∧ thQ σ τ 1 r σ' τ') ∨ ∃ c, c < 16 ∧ cl = nI c ∧ ((¬ (w = σ 20 8 c ∧ ((0 : Int32) ≤ d ∧ d ≤ 30)) ∧ thQ σ τ 2 r σ' τ') ∨ ((w = σ 20 8 c ∧ ((0 : Int32) ≤ d ∧ d ≤ 30)) ∧ bt (lkF (mR σ) fl wv o 16) c = false ∧ thQ σ τ 3 r σ' τ') ∨ ((w = σ 20 8 c ∧ ((0 : Int32) ≤ d ∧ d ≤ 30)) ∧ bt (lkF (mR σ) fl wv o 16) c = true ∧ gEq (some (.int (btF (lkF (mR σ) fl (wv2 c) o 16) 16))) (up3 (up3 σ 19 0 0 0) 20 17 c (σ 19 0 1 + d)) τ r σ' τ'))) := by
  refine CZ.of (own := RX6) (by decide +kernel) rfl (Nat.le_of_ble_eq_true rfl) (fun S C => ?_)
  refine r_aload_n C dX6_waive_0 rfl rfl ?_
  refine r_iload_n C dX6_waive_1 rfl rfl ?_
  refine r_callS C dX6_waive_2 (m_isCell σ τ cl) rfl kB_X6_isCell rfl kS_X6_isCell kl_X6_104 (by decide) (Nat.le_of_ble_eq_true rfl) (by decide) ?_
  rintro r9 σ' τ' ⟨rfl, rfl, rfl⟩
  refine r_ifne (tgt := 12) C dX6_waive_5 (by decide) (fun c5 => ?_) (fun c5 => ?_)
  · have hC := isCB_t.mp (b2i_n.mp c5)
    obtain ⟨c, hc, rfl⟩ := isC_nI hC
    refine r_iload_n C dX6_waive_12 rfl rfl ?_
    refine r_aload_n C dX6_waive_13 rfl rfl ?_
    refine r_get (f := 12) C dX6_waive_14 ⟨by decide, by decide⟩ rfl rfl kU6 (by decide) kf_X6_34 rfl rfl ?_
    refine r_iload_n C dX6_waive_17 rfl rfl ?_
    refine r_ialdv (v := σ 20 8 c) C dX6_waive_18 ⟨by decide, by decide⟩ rfl (vp_in_nI hc (by decide)) (by rw [nI_clamp (by omega)]) ?_
    refine r_icmpne (tgt := 32) C dX6_waive_19 (by decide) (fun c19 => ?_) (fun c19 => ?_)
    · have hW : ¬ (w = σ 20 8 c ∧ ((0 : Int32) ≤ d ∧ d ≤ 30)) := fun q => c19 q.1
      refine r_iconst (v := 2) C dX6_waive_32 rfl ?_
      refine r_goto (tgt := 53) C dX6_waive_33 (by decide) ?_
      refine r_put (f := 0) C dX6_waive_53 ⟨by decide, by decide⟩ rfl rfl kU6 tyX6 tyX6_ok nmX6 (by decide) kf_X6_86 rfl rfl (by decide +kernel) (Nat.le_of_ble_eq_true rfl) (by simp [cel, up3]) ?_
      refine r_aload_n C dX6_waive_56 rfl rfl ?_
      refine r_get (f := 0) (v := .int 2) C dX6_waive_57 ⟨by decide, by decide⟩ rfl rfl kU6 (by decide) kf_X6_86 rfl (by simp [up3_at]) ?_
      refine r_ifle (tgt := 65) C dX6_waive_60 (by decide) (fun c60 => ?_) (fun c60 => ?_)
      · exact absurd c60 (by decide)
      · refine r_iconst (v := 0) C dX6_waive_63 rfl ?_
        exact r_iret C dX6_waive_64 rfl (by decide) (Or.inr ⟨c, hc, rfl, Or.inl ⟨hW, rfl, rfl, rfl⟩⟩)
    · refine r_iload_n C dX6_waive_22 rfl rfl ?_
      refine r_iconst (v := 0) C dX6_waive_23 rfl ?_
      refine r_bipush (v := 30) C dX6_waive_24 rfl ?_
      refine r_callS C dX6_waive_26 (m_in σ τ d 0 30) rfl kB_X6_in rfl kS_X6_in kl_X6_90 (by decide) (Nat.le_of_ble_eq_true rfl) (by decide) ?_
      rintro r9 σ' τ' ⟨rfl, rfl, rfl⟩
      refine r_ifne (tgt := 36) C dX6_waive_29 (by decide) (fun c29 => ?_) (fun c29 => ?_)
      · have hD := inB3_t.mp (b2i_n.mp c29)
        have hW : (w = σ 20 8 c ∧ ((0 : Int32) ≤ d ∧ d ≤ 30)) := ⟨c19, hD⟩
        refine r_aload_n C dX6_waive_36 rfl rfl ?_
        refine r_callV C dX6_waive_37 (m_locksK σ τ fl wv o hL) rfl ⟨by decide, by decide⟩ rfl rfl kB_X6_locks rfl kI_X6_locks kV_X6_locks kl_X6_150 (by decide) (Nat.le_of_ble_eq_true rfl) (by decide) ?_
        rintro r9 σ' τ' ⟨rfl, rfl, rfl⟩
        refine r_iload_n C dX6_waive_40 rfl rfl ?_
        refine r_ishr C dX6_waive_41 ?_
        refine r_iconst (v := 1) C dX6_waive_42 rfl ?_
        refine r_iand C dX6_waive_43 ?_
        refine r_iconst (v := 1) C dX6_waive_44 rfl ?_
        refine r_icmpne (tgt := 52) C dX6_waive_45 (by decide) (fun c45 => ?_) (fun c45 => ?_)
        · have hr : bt (lkF (mR σ) fl wv o 16) c = false := by
            cases hb : bt (lkF (mR σ) fl wv o 16) c with
            | false => rfl
            | true => exact absurd ((bt_sh1 (by omega) _).mpr hb) c45
          refine r_iconst (v := 3) C dX6_waive_52 rfl ?_
          refine r_put (f := 0) C dX6_waive_53 ⟨by decide, by decide⟩ rfl rfl kU6 tyX6 tyX6_ok nmX6 (by decide) kf_X6_86 rfl rfl (by decide +kernel) (Nat.le_of_ble_eq_true rfl) (by simp [cel, up3]) ?_
          refine r_aload_n C dX6_waive_56 rfl rfl ?_
          refine r_get (f := 0) (v := .int 3) C dX6_waive_57 ⟨by decide, by decide⟩ rfl rfl kU6 (by decide) kf_X6_86 rfl (by simp [up3_at]) ?_
          refine r_ifle (tgt := 65) C dX6_waive_60 (by decide) (fun c60 => ?_) (fun c60 => ?_)
          · exact absurd c60 (by decide)
          · refine r_iconst (v := 0) C dX6_waive_63 rfl ?_
            exact r_iret C dX6_waive_64 rfl (by decide) (Or.inr ⟨c, hc, rfl, Or.inr (Or.inl ⟨hW, hr, rfl, rfl, rfl⟩)⟩)
        · have hr : bt (lkF (mR σ) fl wv o 16) c = true := (bt_sh1 (by omega) _).mp c45
          refine r_iconst (v := 0) C dX6_waive_48 rfl ?_
          refine r_goto (tgt := 53) C dX6_waive_49 (by decide) ?_
          refine r_put (f := 0) C dX6_waive_53 ⟨by decide, by decide⟩ rfl rfl kU6 tyX6 tyX6_ok nmX6 (by decide) kf_X6_86 rfl rfl (by decide +kernel) (Nat.le_of_ble_eq_true rfl) (by simp [cel, up3]) ?_
          refine r_aload_n C dX6_waive_56 rfl rfl ?_
          refine r_get (f := 0) (v := .int 0) C dX6_waive_57 ⟨by decide, by decide⟩ rfl rfl kU6 (by decide) kf_X6_86 rfl (by simp [up3_at]) ?_
          refine r_ifle (tgt := 65) C dX6_waive_60 (by decide) (fun c60 => ?_) (fun c60 => ?_)
          · refine r_aload_n C dX6_waive_65 rfl rfl ?_
            refine r_get (f := 21) C dX6_waive_66 ⟨by decide, by decide⟩ rfl rfl kU6 (by decide) kf_X6_61 rfl rfl ?_
            refine r_iload_n C dX6_waive_69 rfl rfl ?_
            refine r_aload_n C dX6_waive_70 rfl rfl ?_
            refine r_get (f := 1) (v := .int (σ 19 0 1)) C dX6_waive_71 ⟨by decide, by decide⟩ rfl rfl kU6 (by decide) kf_X6_137 rfl (by simp [up3_at]) ?_
            refine r_iload_n C dX6_waive_74 rfl rfl ?_
            refine r_iadd C dX6_waive_75 ?_
            refine r_iastv C dX6_waive_76 ⟨by decide, by decide⟩ (fun _ => rfl) (vp_in_nI hc (by decide)) (nI_clamp (by omega)) ?_
            refine r_aload_n C dX6_waive_77 rfl rfl ?_
            refine r_callV C dX6_waive_78 (m_locksK (up3 (up3 σ 19 0 0 0) 20 17 c (σ 19 0 1 + d)) τ fl (wv2 c) o (hL2 c hc)) rfl ⟨by decide, by decide⟩ rfl rfl kB_X6_locks rfl kI_X6_locks kV_X6_locks kl_X6_150 (by decide) (Nat.le_of_ble_eq_true rfl) (by decide) ?_
            rintro r9 σ' τ' ⟨rfl, rfl, rfl⟩
            rw [mR_up3 _ _ _ _ _ (by decide), mR_up3 _ _ _ _ _ (by decide)]
            refine r_callS C dX6_waive_81 (m_bits (up3 (up3 σ 19 0 0 0) 20 17 c (σ 19 0 1 + d)) τ (lkF (mR σ) fl (wv2 c) o 16)) rfl kB_X6_bits rfl kS_X6_bits kl_X6_164 (by decide) (Nat.le_of_ble_eq_true rfl) (by decide) ?_
            rintro r9 σ' τ' ⟨rfl, rfl, rfl⟩
            exact r_iret C dX6_waive_84 rfl (by decide) (Or.inr ⟨c, hc, rfl, Or.inr (Or.inr ⟨hW, hr, rfl, rfl, rfl⟩)⟩)
          · exact absurd (by decide) c60
      · have hD := inB3_f.mp (b2i_0.mp c29)
        have hW : ¬ (w = σ 20 8 c ∧ ((0 : Int32) ≤ d ∧ d ≤ 30)) := fun q => hD q.2
        refine r_iconst (v := 2) C dX6_waive_32 rfl ?_
        refine r_goto (tgt := 53) C dX6_waive_33 (by decide) ?_
        refine r_put (f := 0) C dX6_waive_53 ⟨by decide, by decide⟩ rfl rfl kU6 tyX6 tyX6_ok nmX6 (by decide) kf_X6_86 rfl rfl (by decide +kernel) (Nat.le_of_ble_eq_true rfl) (by simp [cel, up3]) ?_
        refine r_aload_n C dX6_waive_56 rfl rfl ?_
        refine r_get (f := 0) (v := .int 2) C dX6_waive_57 ⟨by decide, by decide⟩ rfl rfl kU6 (by decide) kf_X6_86 rfl (by simp [up3_at]) ?_
        refine r_ifle (tgt := 65) C dX6_waive_60 (by decide) (fun c60 => ?_) (fun c60 => ?_)
        · exact absurd c60 (by decide)
        · refine r_iconst (v := 0) C dX6_waive_63 rfl ?_
          exact r_iret C dX6_waive_64 rfl (by decide) (Or.inr ⟨c, hc, rfl, Or.inl ⟨hW, rfl, rfl, rfl⟩⟩)
  · have hC := isCB_f.mp (b2i_0.mp c5)
    refine r_iconst (v := 1) C dX6_waive_8 rfl ?_
    refine r_goto (tgt := 53) C dX6_waive_9 (by decide) ?_
    refine r_put (f := 0) C dX6_waive_53 ⟨by decide, by decide⟩ rfl rfl kU6 tyX6 tyX6_ok nmX6 (by decide) kf_X6_86 rfl rfl (by decide +kernel) (Nat.le_of_ble_eq_true rfl) (by simp [cel, up3]) ?_
    refine r_aload_n C dX6_waive_56 rfl rfl ?_
    refine r_get (f := 0) (v := .int 1) C dX6_waive_57 ⟨by decide, by decide⟩ rfl rfl kU6 (by decide) kf_X6_86 rfl (by simp [up3_at]) ?_
    refine r_ifle (tgt := 65) C dX6_waive_60 (by decide) (fun c60 => ?_) (fun c60 => ?_)
    · exact absurd c60 (by decide)
    · refine r_iconst (v := 0) C dX6_waive_63 rfl ?_
      exact r_iret C dX6_waive_64 rfl (by decide) (Or.inl ⟨hC, rfl, rfl, rfl⟩)
set_option maxRecDepth 100000 in
set_option maxHeartbeats 1000000 in
theorem m_example {l : Launch} {D : va_G} {ad : Nat → Nat → Nat} {aC : Nat → ClassId} (σ : gSig) (τ : gTau) (cl il : Int32) : CZ l D ad aC yX6_example cX6_example 3 (some .int) 2 [.ref (ad 19 0), .int cl, .int il] σ τ (fun r σ' τ' => (¬ (isC cl ∧ isC il) ∧ thQ σ τ 1 r σ' τ') ∨ ∃ c i, c < 16 ∧ i < 16 ∧ cl = nI c ∧ il = nI i ∧ ((¬ (¬ σ 20 15 c = -1 ∧ bt (σ 20 15 c) i = true) ∧ thQ σ τ 2 r σ' τ') ∨ ((¬ σ 20 15 c = -1 ∧ bt (σ 20 15 c) i = true) ∧ gEq (some (.int (σ 20 14 (16 * c + i)))) (up3 σ 19 0 0 0) τ r σ' τ'))) := by
  refine CZ.of (own := RX6) (by decide +kernel) rfl (Nat.le_of_ble_eq_true rfl) (fun S C => ?_)
  refine r_aload_n C dX6_example_0 rfl rfl ?_
  refine r_iload_n C dX6_example_1 rfl rfl ?_
  refine r_callS C dX6_example_2 (m_isCell σ τ cl) rfl kB_X6_isCell rfl kS_X6_isCell kl_X6_104 (by decide) (Nat.le_of_ble_eq_true rfl) (by decide) ?_
  rintro r9 σ' τ' ⟨rfl, rfl, rfl⟩
  refine r_ifeq (tgt := 15) C dX6_example_5 (by decide) (fun c5 => ?_) (fun c5 => ?_)
  · have hC := isCB_f.mp (b2i_0.mp c5)
    refine r_iconst (v := 1) C dX6_example_15 rfl ?_
    refine r_goto (tgt := 47) C dX6_example_16 (by decide) ?_
    refine r_put (f := 0) C dX6_example_47 ⟨by decide, by decide⟩ rfl rfl kU6 tyX6 tyX6_ok nmX6 (by decide) kf_X6_86 rfl rfl (by decide +kernel) (Nat.le_of_ble_eq_true rfl) (by simp [cel, up3]) ?_
    refine r_aload_n C dX6_example_50 rfl rfl ?_
    refine r_get (f := 0) (v := .int 1) C dX6_example_51 ⟨by decide, by decide⟩ rfl rfl kU6 (by decide) kf_X6_86 rfl (by simp [up3_at]) ?_
    refine r_ifle (tgt := 61) C dX6_example_54 (by decide) (fun c54 => ?_) (fun c54 => ?_)
    · exact absurd c54 (by decide)
    · refine r_iconst (v := 0) C dX6_example_57 rfl ?_
      refine r_goto (tgt := 72) C dX6_example_58 (by decide) ?_
      exact r_iret C dX6_example_72 rfl (by decide) (Or.inl ⟨fun q => hC q.1, rfl, rfl, rfl⟩)
  · have hC := isCB_t.mp (b2i_n.mp c5)
    refine r_iload_n C dX6_example_8 rfl rfl ?_
    refine r_callS C dX6_example_9 (m_isCell σ τ il) rfl kB_X6_isCell rfl kS_X6_isCell kl_X6_104 (by decide) (Nat.le_of_ble_eq_true rfl) (by decide) ?_
    rintro r9 σ' τ' ⟨rfl, rfl, rfl⟩
    refine r_ifne (tgt := 19) C dX6_example_12 (by decide) (fun c12 => ?_) (fun c12 => ?_)
    · have hI := isCB_t.mp (b2i_n.mp c12)
      obtain ⟨c, hc, rfl⟩ := isC_nI hC
      obtain ⟨i, hi, rfl⟩ := isC_nI hI
      refine r_aload_n C dX6_example_19 rfl rfl ?_
      refine r_get (f := 19) C dX6_example_20 ⟨by decide, by decide⟩ rfl rfl kU6 (by decide) kf_X6_55 rfl rfl ?_
      refine r_iload_n C dX6_example_23 rfl rfl ?_
      refine r_ialdv (v := σ 20 15 c) C dX6_example_24 ⟨by decide, by decide⟩ rfl (vp_in_nI hc (by decide)) (by rw [nI_clamp (by omega)]) ?_
      refine r_iconst (v := (-1)) C dX6_example_25 rfl ?_
      refine r_icmpeq (tgt := 42) C dX6_example_26 (by decide) (fun c26 => ?_) (fun c26 => ?_)
      · have hX : ¬ (¬ σ 20 15 c = -1 ∧ bt (σ 20 15 c) i = true) := fun q => q.1 c26
        refine r_iconst (v := 2) C dX6_example_42 rfl ?_
        refine r_goto (tgt := 47) C dX6_example_43 (by decide) ?_
        refine r_put (f := 0) C dX6_example_47 ⟨by decide, by decide⟩ rfl rfl kU6 tyX6 tyX6_ok nmX6 (by decide) kf_X6_86 rfl rfl (by decide +kernel) (Nat.le_of_ble_eq_true rfl) (by simp [cel, up3]) ?_
        refine r_aload_n C dX6_example_50 rfl rfl ?_
        refine r_get (f := 0) (v := .int 2) C dX6_example_51 ⟨by decide, by decide⟩ rfl rfl kU6 (by decide) kf_X6_86 rfl (by simp [up3_at]) ?_
        refine r_ifle (tgt := 61) C dX6_example_54 (by decide) (fun c54 => ?_) (fun c54 => ?_)
        · exact absurd c54 (by decide)
        · refine r_iconst (v := 0) C dX6_example_57 rfl ?_
          refine r_goto (tgt := 72) C dX6_example_58 (by decide) ?_
          exact r_iret C dX6_example_72 rfl (by decide) (Or.inr ⟨c, i, hc, hi, rfl, rfl, Or.inl ⟨hX, rfl, rfl, rfl⟩⟩)
      · refine r_aload_n C dX6_example_29 rfl rfl ?_
        refine r_get (f := 19) C dX6_example_30 ⟨by decide, by decide⟩ rfl rfl kU6 (by decide) kf_X6_55 rfl rfl ?_
        refine r_iload_n C dX6_example_33 rfl rfl ?_
        refine r_ialdv (v := σ 20 15 c) C dX6_example_34 ⟨by decide, by decide⟩ rfl (vp_in_nI hc (by decide)) (by rw [nI_clamp (by omega)]) ?_
        refine r_iload_n C dX6_example_35 rfl rfl ?_
        refine r_ishr C dX6_example_36 ?_
        refine r_iconst (v := 1) C dX6_example_37 rfl ?_
        refine r_iand C dX6_example_38 ?_
        refine r_ifne (tgt := 46) C dX6_example_39 (by decide) (fun c39 => ?_) (fun c39 => ?_)
        · have hX : (¬ σ 20 15 c = -1 ∧ bt (σ 20 15 c) i = true) := ⟨c26, by
            cases hb : bt (σ 20 15 c) i with
            | true => rfl
            | false => exact absurd ((bt_sh0 (by omega) _).mpr hb) c39⟩
          refine r_iconst (v := 0) C dX6_example_46 rfl ?_
          refine r_put (f := 0) C dX6_example_47 ⟨by decide, by decide⟩ rfl rfl kU6 tyX6 tyX6_ok nmX6 (by decide) kf_X6_86 rfl rfl (by decide +kernel) (Nat.le_of_ble_eq_true rfl) (by simp [cel, up3]) ?_
          refine r_aload_n C dX6_example_50 rfl rfl ?_
          refine r_get (f := 0) (v := .int 0) C dX6_example_51 ⟨by decide, by decide⟩ rfl rfl kU6 (by decide) kf_X6_86 rfl (by simp [up3_at]) ?_
          refine r_ifle (tgt := 61) C dX6_example_54 (by decide) (fun c54 => ?_) (fun c54 => ?_)
          · refine r_aload_n C dX6_example_61 rfl rfl ?_
            refine r_get (f := 18) C dX6_example_62 ⟨by decide, by decide⟩ rfl rfl kU6 (by decide) kf_X6_52 rfl rfl ?_
            refine r_bipush (v := 16) C dX6_example_65 rfl ?_
            refine r_iload_n C dX6_example_67 rfl rfl ?_
            refine r_imul C dX6_example_68 ?_
            refine r_iload_n C dX6_example_69 rfl rfl ?_
            refine r_iadd C dX6_example_70 ?_
            rw [ix16]
            refine r_ialdv (v := σ 20 14 (16 * c + i)) C dX6_example_71 ⟨by decide, by decide⟩ rfl (vp_in_nI (show 16 * c + i < 256 by omega) (by decide)) (by rw [nI_clamp (by omega)]; simp [up3_at]) ?_
            exact r_iret C dX6_example_72 rfl (by decide) (Or.inr ⟨c, i, hc, hi, rfl, rfl, Or.inr ⟨hX, rfl, rfl, rfl⟩⟩)
          · exact absurd (by decide) c54
        · have hX : ¬ (¬ σ 20 15 c = -1 ∧ bt (σ 20 15 c) i = true) := fun q => by
            have := (bt_sh0 (by omega) _).mp c39
            rw [q.2] at this
            cases this
          refine r_iconst (v := 2) C dX6_example_42 rfl ?_
          refine r_goto (tgt := 47) C dX6_example_43 (by decide) ?_
          refine r_put (f := 0) C dX6_example_47 ⟨by decide, by decide⟩ rfl rfl kU6 tyX6 tyX6_ok nmX6 (by decide) kf_X6_86 rfl rfl (by decide +kernel) (Nat.le_of_ble_eq_true rfl) (by simp [cel, up3]) ?_
          refine r_aload_n C dX6_example_50 rfl rfl ?_
          refine r_get (f := 0) (v := .int 2) C dX6_example_51 ⟨by decide, by decide⟩ rfl rfl kU6 (by decide) kf_X6_86 rfl (by simp [up3_at]) ?_
          refine r_ifle (tgt := 61) C dX6_example_54 (by decide) (fun c54 => ?_) (fun c54 => ?_)
          · exact absurd c54 (by decide)
          · refine r_iconst (v := 0) C dX6_example_57 rfl ?_
            refine r_goto (tgt := 72) C dX6_example_58 (by decide) ?_
            exact r_iret C dX6_example_72 rfl (by decide) (Or.inr ⟨c, i, hc, hi, rfl, rfl, Or.inl ⟨hX, rfl, rfl, rfl⟩⟩)
    · have hI := isCB_f.mp (b2i_0.mp c12)
      refine r_iconst (v := 1) C dX6_example_15 rfl ?_
      refine r_goto (tgt := 47) C dX6_example_16 (by decide) ?_
      refine r_put (f := 0) C dX6_example_47 ⟨by decide, by decide⟩ rfl rfl kU6 tyX6 tyX6_ok nmX6 (by decide) kf_X6_86 rfl rfl (by decide +kernel) (Nat.le_of_ble_eq_true rfl) (by simp [cel, up3]) ?_
      refine r_aload_n C dX6_example_50 rfl rfl ?_
      refine r_get (f := 0) (v := .int 1) C dX6_example_51 ⟨by decide, by decide⟩ rfl rfl kU6 (by decide) kf_X6_86 rfl (by simp [up3_at]) ?_
      refine r_ifle (tgt := 61) C dX6_example_54 (by decide) (fun c54 => ?_) (fun c54 => ?_)
      · exact absurd c54 (by decide)
      · refine r_iconst (v := 0) C dX6_example_57 rfl ?_
        refine r_goto (tgt := 72) C dX6_example_58 (by decide) ?_
        exact r_iret C dX6_example_72 rfl (by decide) (Or.inl ⟨fun q => hI q.2, rfl, rfl, rfl⟩)
