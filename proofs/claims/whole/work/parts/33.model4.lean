/-! ===== the law's model: set, drop, own, tell, enter: printed by g33.py ===== -/
theorem ix4 (c k : Nat) : (4 : Int32) * nI c + nI k = nI (4 * c + k) := by
  rw [show (4 : Int32) = nI 4 from rfl, nI_mul, nI_add]
theorem ix16 (c k : Nat) : (16 : Int32) * nI c + nI k = nI (16 * c + k) := by
  rw [show (16 : Int32) = nI 16 from rfl, nI_mul, nI_add]
set_option maxRecDepth 100000 in
set_option maxHeartbeats 4000000 in
theorem m_drop {l : Launch} {D : va_G} {ad : Nat → Nat → Nat} {aC : Nat → ClassId} (σ : gSig) (τ : gTau) (cl : Int32) : CZ l D ad aC yX6_drop cX6_drop 3 (some .int) 2 [.ref (ad 19 0), .int cl] σ τ (fun r σ' τ' => (¬ isC cl ∧ thQ σ τ 1 r σ' τ') ∨ ∃ c, c < 16 ∧ cl = nI c ∧ gEq (some (.int (σ 20 9 c))) (up3 (up3 σ 19 0 0 0) 20 9 c 0) τ r σ' τ') := by
  refine CZ.of (own := RX6) (by decide +kernel) rfl (Nat.le_of_ble_eq_true rfl) (fun S C => ?_)
  refine r_iload_n C dX6_drop_0 rfl rfl ?_
  refine r_callS C dX6_drop_1 (m_isCell σ τ cl) rfl kB_X6_isCell rfl kS_X6_isCell kl_X6_104 (by decide) (Nat.le_of_ble_eq_true rfl) (by decide) ?_
  rintro r9 σ' τ' ⟨rfl, rfl, rfl⟩
  refine r_ifne (tgt := 13) C dX6_drop_4 (by decide) (fun c4 => ?_) (fun c4 => ?_)
  · have hC := isCB_t.mp (b2i_n.mp c4)
    obtain ⟨c, hc, rfl⟩ := isC_nI hC
    refine r_aload_n C dX6_drop_13 rfl rfl ?_
    refine r_iconst (v := 0) C dX6_drop_14 rfl ?_
    refine r_put (f := 0) C dX6_drop_15 ⟨by decide, by decide⟩ rfl rfl kU6 tyX6 tyX6_ok nmX6 (by decide) kf_X6_86 rfl rfl (by decide +kernel) (Nat.le_of_ble_eq_true rfl) (by simp [cel, up3]) ?_
    refine r_aload_n C dX6_drop_18 rfl rfl ?_
    refine r_get (f := 13) C dX6_drop_19 ⟨by decide, by decide⟩ rfl rfl kU6 (by decide) kf_X6_37 rfl rfl ?_
    refine r_iload_n C dX6_drop_22 rfl rfl ?_
    refine r_ialdv (v := σ 20 9 c) C dX6_drop_23 ⟨by decide, by decide⟩ rfl (vp_in_nI hc (by decide)) (by rw [nI_clamp (by omega)]; simp [up3_at]) ?_
    refine r_istore_n C dX6_drop_24 rfl (by decide) rfl ?_
    refine r_aload_n C dX6_drop_25 rfl rfl ?_
    refine r_get (f := 13) C dX6_drop_26 ⟨by decide, by decide⟩ rfl rfl kU6 (by decide) kf_X6_37 rfl rfl ?_
    refine r_iload_n C dX6_drop_29 rfl rfl ?_
    refine r_iconst (v := 0) C dX6_drop_30 rfl ?_
    refine r_iastv C dX6_drop_31 ⟨by decide, by decide⟩ (fun _ => rfl) (vp_in_nI hc (by decide)) (nI_clamp (by omega)) ?_
    refine r_iload_n C dX6_drop_32 rfl rfl ?_
    exact r_iret C dX6_drop_33 rfl (by decide) (Or.inr ⟨c, hc, rfl, rfl, rfl, rfl⟩)
  · have hC := isCB_f.mp (b2i_0.mp c4)
    refine r_aload_n C dX6_drop_7 rfl rfl ?_
    refine r_iconst (v := 1) C dX6_drop_8 rfl ?_
    refine r_callV C dX6_drop_9 (m_fails σ τ 1) rfl ⟨by decide, by decide⟩ rfl rfl kB_X6_fails rfl kI_X6_fails kV_X6_fails kl_X6_118 (by decide) (Nat.le_of_ble_eq_true rfl) (by decide) ?_
    rintro r9 σ' τ' ⟨rfl, rfl, rfl⟩
    exact r_iret C dX6_drop_12 rfl (by decide) (Or.inl ⟨hC, rfl, rfl, rfl⟩)
set_option maxRecDepth 100000 in
set_option maxHeartbeats 4000000 in
theorem m_own {l : Launch} {D : va_G} {ad : Nat → Nat → Nat} {aC : Nat → ClassId} (σ : gSig) (τ : gTau) (cl o : Int32) : CZ l D ad aC yX6_own cX6_own 4 (some .int) 2 [.ref (ad 19 0), .int cl, .int o] σ τ (fun r σ' τ' => (¬ isC cl ∧ thQ σ τ 1 r σ' τ') ∨ (isC cl ∧ ¬ ((0 : Int32) ≤ o ∧ o ≤ 5) ∧ thQ σ τ 2 r σ' τ') ∨ ∃ c, c < 16 ∧ cl = nI c ∧ ((0 : Int32) ≤ o ∧ o ≤ 5) ∧ gEq (some (.int (σ 20 8 c))) (up3 (up3 σ 19 0 0 0) 20 8 c o) τ r σ' τ') := by
  refine CZ.of (own := RX6) (by decide +kernel) rfl (Nat.le_of_ble_eq_true rfl) (fun S C => ?_)
  refine r_aload_n C dX6_own_0 rfl rfl ?_
  refine r_iload_n C dX6_own_1 rfl rfl ?_
  refine r_callS C dX6_own_2 (m_isCell σ τ cl) rfl kB_X6_isCell rfl kS_X6_isCell kl_X6_104 (by decide) (Nat.le_of_ble_eq_true rfl) (by decide) ?_
  rintro r9 σ' τ' ⟨rfl, rfl, rfl⟩
  refine r_ifne (tgt := 12) C dX6_own_5 (by decide) (fun c5 => ?_) (fun c5 => ?_)
  · have hC := isCB_t.mp (b2i_n.mp c5)
    refine r_iload_n C dX6_own_12 rfl rfl ?_
    refine r_iconst (v := 0) C dX6_own_13 rfl ?_
    refine r_iconst (v := 5) C dX6_own_14 rfl ?_
    refine r_callS C dX6_own_15 (m_in σ τ o 0 5) rfl kB_X6_in rfl kS_X6_in kl_X6_90 (by decide) (Nat.le_of_ble_eq_true rfl) (by decide) ?_
    rintro r9 σ' τ' ⟨rfl, rfl, rfl⟩
    refine r_ifeq (tgt := 25) C dX6_own_18 (by decide) (fun c18 => ?_) (fun c18 => ?_)
    · have hO := inB3_f.mp (b2i_0.mp c18)
      refine r_iconst (v := 2) C dX6_own_25 rfl ?_
      refine r_put (f := 0) C dX6_own_26 ⟨by decide, by decide⟩ rfl rfl kU6 tyX6 tyX6_ok nmX6 (by decide) kf_X6_86 rfl rfl (by decide +kernel) (Nat.le_of_ble_eq_true rfl) (by simp [cel, up3]) ?_
      refine r_aload_n C dX6_own_29 rfl rfl ?_
      refine r_get (f := 0) (v := .int 2) C dX6_own_30 ⟨by decide, by decide⟩ rfl rfl kU6 (by decide) kf_X6_86 rfl (by simp [up3_at]) ?_
      refine r_ifle (tgt := 38) C dX6_own_33 (by decide) (fun c33 => ?_) (fun c33 => ?_)
      · exact absurd c33 (by decide)
      · refine r_iconst (v := 0) C dX6_own_36 rfl ?_
        exact r_iret C dX6_own_37 rfl (by decide) (Or.inr (Or.inl ⟨hC, hO, rfl, rfl, rfl⟩))
    · have hO := inB3_t.mp (b2i_n.mp c18)
      refine r_iconst (v := 0) C dX6_own_21 rfl ?_
      refine r_goto (tgt := 26) C dX6_own_22 (by decide) ?_
      refine r_put (f := 0) C dX6_own_26 ⟨by decide, by decide⟩ rfl rfl kU6 tyX6 tyX6_ok nmX6 (by decide) kf_X6_86 rfl rfl (by decide +kernel) (Nat.le_of_ble_eq_true rfl) (by simp [cel, up3]) ?_
      refine r_aload_n C dX6_own_29 rfl rfl ?_
      refine r_get (f := 0) (v := .int 0) C dX6_own_30 ⟨by decide, by decide⟩ rfl rfl kU6 (by decide) kf_X6_86 rfl (by simp [up3_at]) ?_
      refine r_ifle (tgt := 38) C dX6_own_33 (by decide) (fun c33 => ?_) (fun c33 => ?_)
      · obtain ⟨c, hc, rfl⟩ := isC_nI hC
        refine r_aload_n C dX6_own_38 rfl rfl ?_
        refine r_get (f := 12) C dX6_own_39 ⟨by decide, by decide⟩ rfl rfl kU6 (by decide) kf_X6_34 rfl rfl ?_
        refine r_iload_n C dX6_own_42 rfl rfl ?_
        refine r_ialdv (v := σ 20 8 c) C dX6_own_43 ⟨by decide, by decide⟩ rfl (vp_in_nI hc (by decide)) (by rw [nI_clamp (by omega)]; simp [up3_at]) ?_
        refine r_istore_n C dX6_own_44 rfl (by decide) rfl ?_
        refine r_aload_n C dX6_own_45 rfl rfl ?_
        refine r_get (f := 12) C dX6_own_46 ⟨by decide, by decide⟩ rfl rfl kU6 (by decide) kf_X6_34 rfl rfl ?_
        refine r_iload_n C dX6_own_49 rfl rfl ?_
        refine r_iload_n C dX6_own_50 rfl rfl ?_
        refine r_iastv C dX6_own_51 ⟨by decide, by decide⟩ (fun _ => rfl) (vp_in_nI hc (by decide)) (nI_clamp (by omega)) ?_
        refine r_iload_n C dX6_own_52 rfl rfl ?_
        exact r_iret C dX6_own_53 rfl (by decide) (Or.inr (Or.inr ⟨c, hc, rfl, hO, rfl, rfl, rfl⟩))
      · exact absurd (by decide) c33
  · have hC := isCB_f.mp (b2i_0.mp c5)
    refine r_iconst (v := 1) C dX6_own_8 rfl ?_
    refine r_goto (tgt := 26) C dX6_own_9 (by decide) ?_
    refine r_put (f := 0) C dX6_own_26 ⟨by decide, by decide⟩ rfl rfl kU6 tyX6 tyX6_ok nmX6 (by decide) kf_X6_86 rfl rfl (by decide +kernel) (Nat.le_of_ble_eq_true rfl) (by simp [cel, up3]) ?_
    refine r_aload_n C dX6_own_29 rfl rfl ?_
    refine r_get (f := 0) (v := .int 1) C dX6_own_30 ⟨by decide, by decide⟩ rfl rfl kU6 (by decide) kf_X6_86 rfl (by simp [up3_at]) ?_
    refine r_ifle (tgt := 38) C dX6_own_33 (by decide) (fun c33 => ?_) (fun c33 => ?_)
    · exact absurd c33 (by decide)
    · refine r_iconst (v := 0) C dX6_own_36 rfl ?_
      exact r_iret C dX6_own_37 rfl (by decide) (Or.inl ⟨hC, rfl, rfl, rfl⟩)
set_option maxRecDepth 100000 in
set_option maxHeartbeats 4000000 in
theorem m_set {l : Launch} {D : va_G} {ad : Nat → Nat → Nat} {aC : Nat → ClassId} (σ : gSig) (τ : gTau) (cl v : Int32) : CZ l D ad aC yX6_set cX6_set 4 (some .int) 2 [.ref (ad 19 0), .int cl, .int v] σ τ (fun r σ' τ' => (¬ isC cl ∧ thQ σ τ 1 r σ' τ') ∨ ∃ c, c < 16 ∧ cl = nI c ∧ ((¬ σ 20 2 c ≤ 0 ∧ thQ σ τ 2 r σ' τ') ∨ (σ 20 2 c ≤ 0 ∧ ¬ (σ 20 5 c ≤ v ∧ v ≤ σ 20 6 c) ∧ thQ σ τ 3 r σ' τ') ∨ (σ 20 2 c ≤ 0 ∧ (σ 20 5 c ≤ v ∧ v ≤ σ 20 6 c) ∧ gEq (some (.int (σ 20 7 c))) (up3 (up3 σ 19 0 0 0) 20 7 c v) τ r σ' τ'))) := by
  refine CZ.of (own := RX6) (by decide +kernel) rfl (Nat.le_of_ble_eq_true rfl) (fun S C => ?_)
  refine r_aload_n C dX6_set_0 rfl rfl ?_
  refine r_iload_n C dX6_set_1 rfl rfl ?_
  refine r_callS C dX6_set_2 (m_isCell σ τ cl) rfl kB_X6_isCell rfl kS_X6_isCell kl_X6_104 (by decide) (Nat.le_of_ble_eq_true rfl) (by decide) ?_
  rintro r9 σ' τ' ⟨rfl, rfl, rfl⟩
  refine r_ifne (tgt := 12) C dX6_set_5 (by decide) (fun c5 => ?_) (fun c5 => ?_)
  · have hC := isCB_t.mp (b2i_n.mp c5)
    obtain ⟨c, hc, rfl⟩ := isC_nI hC
    refine r_aload_n C dX6_set_12 rfl rfl ?_
    refine r_get (f := 6) C dX6_set_13 ⟨by decide, by decide⟩ rfl rfl kU6 (by decide) kf_X6_16 rfl rfl ?_
    refine r_iload_n C dX6_set_16 rfl rfl ?_
    refine r_ialdv (v := σ 20 2 c) C dX6_set_17 ⟨by decide, by decide⟩ rfl (vp_in_nI hc (by decide)) (by rw [nI_clamp (by omega)]) ?_
    refine r_ifle (tgt := 25) C dX6_set_18 (by decide) (fun c18 => ?_) (fun c18 => ?_)
    · refine r_iload_n C dX6_set_25 rfl rfl ?_
      refine r_aload_n C dX6_set_26 rfl rfl ?_
      refine r_get (f := 9) C dX6_set_27 ⟨by decide, by decide⟩ rfl rfl kU6 (by decide) kf_X6_25 rfl rfl ?_
      refine r_iload_n C dX6_set_30 rfl rfl ?_
      refine r_ialdv (v := σ 20 5 c) C dX6_set_31 ⟨by decide, by decide⟩ rfl (vp_in_nI hc (by decide)) (by rw [nI_clamp (by omega)]) ?_
      refine r_aload_n C dX6_set_32 rfl rfl ?_
      refine r_get (f := 10) C dX6_set_33 ⟨by decide, by decide⟩ rfl rfl kU6 (by decide) kf_X6_28 rfl rfl ?_
      refine r_iload_n C dX6_set_36 rfl rfl ?_
      refine r_ialdv (v := σ 20 6 c) C dX6_set_37 ⟨by decide, by decide⟩ rfl (vp_in_nI hc (by decide)) (by rw [nI_clamp (by omega)]) ?_
      refine r_callS C dX6_set_38 (m_in σ τ v (σ 20 5 c) (σ 20 6 c)) rfl kB_X6_in rfl kS_X6_in kl_X6_90 (by decide) (Nat.le_of_ble_eq_true rfl) (by decide) ?_
      rintro r9 σ' τ' ⟨rfl, rfl, rfl⟩
      refine r_ifeq (tgt := 48) C dX6_set_41 (by decide) (fun c41 => ?_) (fun c41 => ?_)
      · have hB := inB3_f.mp (b2i_0.mp c41)
        refine r_iconst (v := 3) C dX6_set_48 rfl ?_
        refine r_put (f := 0) C dX6_set_49 ⟨by decide, by decide⟩ rfl rfl kU6 tyX6 tyX6_ok nmX6 (by decide) kf_X6_86 rfl rfl (by decide +kernel) (Nat.le_of_ble_eq_true rfl) (by simp [cel, up3]) ?_
        refine r_aload_n C dX6_set_52 rfl rfl ?_
        refine r_get (f := 0) (v := .int 3) C dX6_set_53 ⟨by decide, by decide⟩ rfl rfl kU6 (by decide) kf_X6_86 rfl (by simp [up3_at]) ?_
        refine r_ifle (tgt := 61) C dX6_set_56 (by decide) (fun c56 => ?_) (fun c56 => ?_)
        · exact absurd c56 (by decide)
        · refine r_iconst (v := 0) C dX6_set_59 rfl ?_
          exact r_iret C dX6_set_60 rfl (by decide) (Or.inr ⟨c, hc, rfl, Or.inr (Or.inl ⟨c18, hB, rfl, rfl, rfl⟩)⟩)
      · have hB := inB3_t.mp (b2i_n.mp c41)
        refine r_iconst (v := 0) C dX6_set_44 rfl ?_
        refine r_goto (tgt := 49) C dX6_set_45 (by decide) ?_
        refine r_put (f := 0) C dX6_set_49 ⟨by decide, by decide⟩ rfl rfl kU6 tyX6 tyX6_ok nmX6 (by decide) kf_X6_86 rfl rfl (by decide +kernel) (Nat.le_of_ble_eq_true rfl) (by simp [cel, up3]) ?_
        refine r_aload_n C dX6_set_52 rfl rfl ?_
        refine r_get (f := 0) (v := .int 0) C dX6_set_53 ⟨by decide, by decide⟩ rfl rfl kU6 (by decide) kf_X6_86 rfl (by simp [up3_at]) ?_
        refine r_ifle (tgt := 61) C dX6_set_56 (by decide) (fun c56 => ?_) (fun c56 => ?_)
        · refine r_aload_n C dX6_set_61 rfl rfl ?_
          refine r_get (f := 11) C dX6_set_62 ⟨by decide, by decide⟩ rfl rfl kU6 (by decide) kf_X6_31 rfl rfl ?_
          refine r_iload_n C dX6_set_65 rfl rfl ?_
          refine r_ialdv (v := σ 20 7 c) C dX6_set_66 ⟨by decide, by decide⟩ rfl (vp_in_nI hc (by decide)) (by rw [nI_clamp (by omega)]; simp [up3_at]) ?_
          refine r_istore_n C dX6_set_67 rfl (by decide) rfl ?_
          refine r_aload_n C dX6_set_68 rfl rfl ?_
          refine r_get (f := 11) C dX6_set_69 ⟨by decide, by decide⟩ rfl rfl kU6 (by decide) kf_X6_31 rfl rfl ?_
          refine r_iload_n C dX6_set_72 rfl rfl ?_
          refine r_iload_n C dX6_set_73 rfl rfl ?_
          refine r_iastv C dX6_set_74 ⟨by decide, by decide⟩ (fun _ => rfl) (vp_in_nI hc (by decide)) (nI_clamp (by omega)) ?_
          refine r_iload_n C dX6_set_75 rfl rfl ?_
          exact r_iret C dX6_set_76 rfl (by decide) (Or.inr ⟨c, hc, rfl, Or.inr (Or.inr ⟨c18, hB, rfl, rfl, rfl⟩)⟩)
        · exact absurd (by decide) c56
    · refine r_iconst (v := 2) C dX6_set_21 rfl ?_
      refine r_goto (tgt := 49) C dX6_set_22 (by decide) ?_
      refine r_put (f := 0) C dX6_set_49 ⟨by decide, by decide⟩ rfl rfl kU6 tyX6 tyX6_ok nmX6 (by decide) kf_X6_86 rfl rfl (by decide +kernel) (Nat.le_of_ble_eq_true rfl) (by simp [cel, up3]) ?_
      refine r_aload_n C dX6_set_52 rfl rfl ?_
      refine r_get (f := 0) (v := .int 2) C dX6_set_53 ⟨by decide, by decide⟩ rfl rfl kU6 (by decide) kf_X6_86 rfl (by simp [up3_at]) ?_
      refine r_ifle (tgt := 61) C dX6_set_56 (by decide) (fun c56 => ?_) (fun c56 => ?_)
      · exact absurd c56 (by decide)
      · refine r_iconst (v := 0) C dX6_set_59 rfl ?_
        exact r_iret C dX6_set_60 rfl (by decide) (Or.inr ⟨c, hc, rfl, Or.inl ⟨c18, rfl, rfl, rfl⟩⟩)
  · have hC := isCB_f.mp (b2i_0.mp c5)
    refine r_iconst (v := 1) C dX6_set_8 rfl ?_
    refine r_goto (tgt := 49) C dX6_set_9 (by decide) ?_
    refine r_put (f := 0) C dX6_set_49 ⟨by decide, by decide⟩ rfl rfl kU6 tyX6 tyX6_ok nmX6 (by decide) kf_X6_86 rfl rfl (by decide +kernel) (Nat.le_of_ble_eq_true rfl) (by simp [cel, up3]) ?_
    refine r_aload_n C dX6_set_52 rfl rfl ?_
    refine r_get (f := 0) (v := .int 1) C dX6_set_53 ⟨by decide, by decide⟩ rfl rfl kU6 (by decide) kf_X6_86 rfl (by simp [up3_at]) ?_
    refine r_ifle (tgt := 61) C dX6_set_56 (by decide) (fun c56 => ?_) (fun c56 => ?_)
    · exact absurd c56 (by decide)
    · refine r_iconst (v := 0) C dX6_set_59 rfl ?_
      exact r_iret C dX6_set_60 rfl (by decide) (Or.inl ⟨hC, rfl, rfl, rfl⟩)
def mtS (σ : gSig) (c q : Nat) (kd n v : Int32) : gSig := up3 (up3 (up3 (up3 σ 20 10 (4 * c + q) kd) 20 11 (4 * c + q) n) 20 9 c (nI (q + 1))) 20 12 c v
set_option maxRecDepth 100000 in
set_option maxHeartbeats 4000000 in
theorem m_tell {l : Launch} {D : va_G} {ad : Nat → Nat → Nat} {aC : Nat → ClassId} (σ : gSig) (τ : gTau) (cl kd nn : Int32) (hpl : ∀ c, c < 16 → ∃ q, σ 20 9 c = nI q ∧ q ≤ 4) : CZ l D ad aC yX6_tell cX6_tell 5 (some .int) 2 [.ref (ad 19 0), .int cl, .int kd, .int nn] σ τ (fun r σ' τ' => ((¬ isC cl ∨ (kd = 2 ∨ kd = 3) ∧ ¬ isC nn) ∧ thQ σ τ 1 r σ' τ') ∨ (isC cl ∧ ((kd = 2 ∨ kd = 3) → isC nn) ∧ ¬ ((0 : Int32) ≤ kd ∧ kd ≤ 3) ∧ thQ σ τ 2 r σ' τ') ∨ ∃ c, c < 16 ∧ cl = nI c ∧ ((kd = 2 ∨ kd = 3) → isC nn) ∧ ((0 : Int32) ≤ kd ∧ kd ≤ 3) ∧ ∃ q, σ 20 9 c = nI q ∧ ((q = 4 ∧ thQ σ τ 3 r σ' τ') ∨ (q < 4 ∧ gEq (some (.int (nI (q + 1)))) (mtS (up3 σ 19 0 0 0) c q kd nn (if σ 20 12 c = 1 then 0 else σ 20 12 c)) τ r σ' τ'))) := by
  refine CZ.of (own := RX6) (by decide +kernel) rfl (Nat.le_of_ble_eq_true rfl) (fun S C => ?_)
  refine r_iload_n C dX6_tell_0 rfl rfl ?_
  refine r_iconst (v := 2) C dX6_tell_1 rfl ?_
  refine r_icmpeq (tgt := 10) C dX6_tell_2 (by decide) (fun c2 => ?_) (fun c2 => ?_)
  · have hk23 : kd = 2 ∨ kd = 3 := Or.inl c2
    refine r_iconst (v := 1) C dX6_tell_10 rfl ?_
    refine r_goto (tgt := 15) C dX6_tell_11 (by decide) ?_
    refine r_istore C dX6_tell_15 (by decide) rfl ?_
    refine r_aload_n C dX6_tell_17 rfl rfl ?_
    refine r_iload_n C dX6_tell_18 rfl rfl ?_
    refine r_callS C dX6_tell_19 (m_isCell σ τ cl) rfl kB_X6_isCell rfl kS_X6_isCell kl_X6_104 (by decide) (Nat.le_of_ble_eq_true rfl) (by decide) ?_
    rintro r9 σ' τ' ⟨rfl, rfl, rfl⟩
    refine r_ifeq (tgt := 37) C dX6_tell_22 (by decide) (fun c22 => ?_) (fun c22 => ?_)
    · have hC := isCB_f.mp (b2i_0.mp c22)
      refine r_iconst (v := 1) C dX6_tell_37 rfl ?_
      refine r_goto (tgt := 55) C dX6_tell_38 (by decide) ?_
      refine r_put (f := 0) C dX6_tell_55 ⟨by decide, by decide⟩ rfl rfl kU6 tyX6 tyX6_ok nmX6 (by decide) kf_X6_86 rfl rfl (by decide +kernel) (Nat.le_of_ble_eq_true rfl) (by simp [cel, up3]) ?_
      refine r_aload_n C dX6_tell_58 rfl rfl ?_
      refine r_get (f := 0) (v := .int 1) C dX6_tell_59 ⟨by decide, by decide⟩ rfl rfl kU6 (by decide) kf_X6_86 rfl (by simp [up3_at]) ?_
      refine r_ifle (tgt := 67) C dX6_tell_62 (by decide) (fun c62 => ?_) (fun c62 => ?_)
      · exact absurd c62 (by decide)
      · refine r_iconst (v := 0) C dX6_tell_65 rfl ?_
        exact r_iret C dX6_tell_66 rfl (by decide) (Or.inl ⟨Or.inl hC, rfl, rfl, rfl⟩)
    · have hC := isCB_t.mp (b2i_n.mp c22)
      refine r_iload C dX6_tell_25 rfl ?_
      refine r_ifeq (tgt := 41) C dX6_tell_27 (by decide) (fun c27 => ?_) (fun c27 => ?_)
      · exact absurd c27 (by decide)
      · skip
        refine r_iload_n C dX6_tell_30 rfl rfl ?_
        refine r_callS C dX6_tell_31 (m_isCell σ τ nn) rfl kB_X6_isCell rfl kS_X6_isCell kl_X6_104 (by decide) (Nat.le_of_ble_eq_true rfl) (by decide) ?_
        rintro r9 σ' τ' ⟨rfl, rfl, rfl⟩
        refine r_ifne (tgt := 41) C dX6_tell_34 (by decide) (fun c34 => ?_) (fun c34 => ?_)
        · have hN := isCB_t.mp (b2i_n.mp c34)
          have hkn : (kd = 2 ∨ kd = 3) → isC nn := fun _ => hN
          refine r_iload_n C dX6_tell_41 rfl rfl ?_
          refine r_iconst (v := 0) C dX6_tell_42 rfl ?_
          refine r_iconst (v := 3) C dX6_tell_43 rfl ?_
          refine r_callS C dX6_tell_44 (m_in σ τ kd 0 3) rfl kB_X6_in rfl kS_X6_in kl_X6_90 (by decide) (Nat.le_of_ble_eq_true rfl) (by decide) ?_
          rintro r9 σ' τ' ⟨rfl, rfl, rfl⟩
          refine r_ifne (tgt := 54) C dX6_tell_47 (by decide) (fun c47 => ?_) (fun c47 => ?_)
          · have hK := inB3_t.mp (b2i_n.mp c47)
            refine r_iconst (v := 0) C dX6_tell_54 rfl ?_
            refine r_put (f := 0) C dX6_tell_55 ⟨by decide, by decide⟩ rfl rfl kU6 tyX6 tyX6_ok nmX6 (by decide) kf_X6_86 rfl rfl (by decide +kernel) (Nat.le_of_ble_eq_true rfl) (by simp [cel, up3]) ?_
            refine r_aload_n C dX6_tell_58 rfl rfl ?_
            refine r_get (f := 0) (v := .int 0) C dX6_tell_59 ⟨by decide, by decide⟩ rfl rfl kU6 (by decide) kf_X6_86 rfl (by simp [up3_at]) ?_
            refine r_ifle (tgt := 67) C dX6_tell_62 (by decide) (fun c62 => ?_) (fun c62 => ?_)
            · obtain ⟨c, hc, rfl⟩ := isC_nI hC
              obtain ⟨q, hq, hq4⟩ := hpl c hc
              refine r_aload_n C dX6_tell_67 rfl rfl ?_
              refine r_get (f := 13) C dX6_tell_68 ⟨by decide, by decide⟩ rfl rfl kU6 (by decide) kf_X6_37 rfl rfl ?_
              refine r_iload_n C dX6_tell_71 rfl rfl ?_
              refine r_ialdv (v := nI q) C dX6_tell_72 ⟨by decide, by decide⟩ rfl (vp_in_nI hc (by decide)) (by rw [nI_clamp (by omega)]; simpa [up3_at] using hq) ?_
              refine r_iconst (v := 4) C dX6_tell_73 rfl ?_
              refine r_icmpne (tgt := 83) C dX6_tell_74 (by decide) (fun c74 => ?_) (fun c74 => ?_)
              · have hql : q < 4 := by
                  have : ¬ q = 4 := fun z => c74 (by rw [z]; rfl)
                  omega
                refine r_aload_n C dX6_tell_83 rfl rfl ?_
                refine r_get (f := 14) C dX6_tell_84 ⟨by decide, by decide⟩ rfl rfl kU6 (by decide) kf_X6_40 rfl rfl ?_
                refine r_iconst (v := 4) C dX6_tell_87 rfl ?_
                refine r_iload_n C dX6_tell_88 rfl rfl ?_
                refine r_imul C dX6_tell_89 ?_
                refine r_aload_n C dX6_tell_90 rfl rfl ?_
                refine r_get (f := 13) C dX6_tell_91 ⟨by decide, by decide⟩ rfl rfl kU6 (by decide) kf_X6_37 rfl rfl ?_
                refine r_iload_n C dX6_tell_94 rfl rfl ?_
                refine r_ialdv (v := nI q) C dX6_tell_95 ⟨by decide, by decide⟩ rfl (vp_in_nI hc (by decide)) (by rw [nI_clamp (by omega)]; simpa [up3_at] using hq) ?_
                refine r_iadd C dX6_tell_96 ?_
                rw [ix4]
                refine r_iload_n C dX6_tell_97 rfl rfl ?_
                refine r_iastv C dX6_tell_98 ⟨by decide, by decide⟩ (fun _ => rfl) (vp_in_nI (show 4 * c + q < 64 by omega) (by decide)) (nI_clamp (by omega)) ?_
                refine r_aload_n C dX6_tell_99 rfl rfl ?_
                refine r_get (f := 15) C dX6_tell_100 ⟨by decide, by decide⟩ rfl rfl kU6 (by decide) kf_X6_43 rfl rfl ?_
                refine r_iconst (v := 4) C dX6_tell_103 rfl ?_
                refine r_iload_n C dX6_tell_104 rfl rfl ?_
                refine r_imul C dX6_tell_105 ?_
                refine r_aload_n C dX6_tell_106 rfl rfl ?_
                refine r_get (f := 13) C dX6_tell_107 ⟨by decide, by decide⟩ rfl rfl kU6 (by decide) kf_X6_37 rfl rfl ?_
                refine r_iload_n C dX6_tell_110 rfl rfl ?_
                refine r_ialdv (v := nI q) C dX6_tell_111 ⟨by decide, by decide⟩ rfl (vp_in_nI hc (by decide)) (by rw [nI_clamp (by omega)]; simpa [up3_at] using hq) ?_
                refine r_iadd C dX6_tell_112 ?_
                rw [ix4]
                refine r_iload_n C dX6_tell_113 rfl rfl ?_
                refine r_iastv C dX6_tell_114 ⟨by decide, by decide⟩ (fun _ => rfl) (vp_in_nI (show 4 * c + q < 64 by omega) (by decide)) (nI_clamp (by omega)) ?_
                refine r_aload_n C dX6_tell_115 rfl rfl ?_
                refine r_get (f := 13) C dX6_tell_116 ⟨by decide, by decide⟩ rfl rfl kU6 (by decide) kf_X6_37 rfl rfl ?_
                refine r_iload_n C dX6_tell_119 rfl rfl ?_
                refine r_dup2 C dX6_tell_120 rfl rfl ?_
                refine r_ialdv (v := nI q) C dX6_tell_121 ⟨by decide, by decide⟩ rfl (vp_in_nI hc (by decide)) (by rw [nI_clamp (by omega)]; simpa [up3_at] using hq) ?_
                refine r_iconst (v := 1) C dX6_tell_122 rfl ?_
                refine r_iadd C dX6_tell_123 ?_
                rw [nI_1]
                refine r_iastv C dX6_tell_124 ⟨by decide, by decide⟩ (fun _ => rfl) (vp_in_nI hc (by decide)) (nI_clamp (by omega)) ?_
                refine r_aload_n C dX6_tell_125 rfl rfl ?_
                refine r_get (f := 16) C dX6_tell_126 ⟨by decide, by decide⟩ rfl rfl kU6 (by decide) kf_X6_46 rfl rfl ?_
                refine r_iload_n C dX6_tell_129 rfl rfl ?_
                refine r_aload_n C dX6_tell_130 rfl rfl ?_
                refine r_get (f := 16) C dX6_tell_131 ⟨by decide, by decide⟩ rfl rfl kU6 (by decide) kf_X6_46 rfl rfl ?_
                refine r_iload_n C dX6_tell_134 rfl rfl ?_
                refine r_ialdv (v := σ 20 12 c) C dX6_tell_135 ⟨by decide, by decide⟩ rfl (vp_in_nI hc (by decide)) (by rw [nI_clamp (by omega)]; simp [up3_at]) ?_
                refine r_iconst (v := 1) C dX6_tell_136 rfl ?_
                refine r_icmpne (tgt := 144) C dX6_tell_137 (by decide) (fun c137 => ?_) (fun c137 => ?_)
                · refine r_aload_n C dX6_tell_144 rfl rfl ?_
                  refine r_get (f := 16) C dX6_tell_145 ⟨by decide, by decide⟩ rfl rfl kU6 (by decide) kf_X6_46 rfl rfl ?_
                  refine r_iload_n C dX6_tell_148 rfl rfl ?_
                  refine r_ialdv (v := σ 20 12 c) C dX6_tell_149 ⟨by decide, by decide⟩ rfl (vp_in_nI hc (by decide)) (by rw [nI_clamp (by omega)]; simp [up3_at]) ?_
                  refine r_iastv C dX6_tell_150 ⟨by decide, by decide⟩ (fun _ => rfl) (vp_in_nI hc (by decide)) (nI_clamp (by omega)) ?_
                  refine r_aload_n C dX6_tell_151 rfl rfl ?_
                  refine r_get (f := 13) C dX6_tell_152 ⟨by decide, by decide⟩ rfl rfl kU6 (by decide) kf_X6_37 rfl rfl ?_
                  refine r_iload_n C dX6_tell_155 rfl rfl ?_
                  refine r_ialdv (v := nI (q + 1)) C dX6_tell_156 ⟨by decide, by decide⟩ rfl (vp_in_nI hc (by decide)) (by rw [nI_clamp (by omega)]; simp [up3_at]) ?_
                  exact r_iret C dX6_tell_157 rfl (by decide) (Or.inr (Or.inr ⟨c, hc, rfl, hkn, hK, q, hq, Or.inr ⟨hql, rfl, by rw [if_neg c137]; rfl, rfl⟩⟩))
                · refine r_iconst (v := 0) C dX6_tell_140 rfl ?_
                  refine r_goto (tgt := 150) C dX6_tell_141 (by decide) ?_
                  refine r_iastv C dX6_tell_150 ⟨by decide, by decide⟩ (fun _ => rfl) (vp_in_nI hc (by decide)) (nI_clamp (by omega)) ?_
                  refine r_aload_n C dX6_tell_151 rfl rfl ?_
                  refine r_get (f := 13) C dX6_tell_152 ⟨by decide, by decide⟩ rfl rfl kU6 (by decide) kf_X6_37 rfl rfl ?_
                  refine r_iload_n C dX6_tell_155 rfl rfl ?_
                  refine r_ialdv (v := nI (q + 1)) C dX6_tell_156 ⟨by decide, by decide⟩ rfl (vp_in_nI hc (by decide)) (by rw [nI_clamp (by omega)]; simp [up3_at]) ?_
                  exact r_iret C dX6_tell_157 rfl (by decide) (Or.inr (Or.inr ⟨c, hc, rfl, hkn, hK, q, hq, Or.inr ⟨hql, rfl, by rw [if_pos c137]; rfl, rfl⟩⟩))
              · have hq4e : q = 4 := (nI_eq (by omega) (by decide)).mp c74
                refine r_aload_n C dX6_tell_77 rfl rfl ?_
                refine r_iconst (v := 3) C dX6_tell_78 rfl ?_
                refine r_callV C dX6_tell_79 (m_fails (up3 σ 19 0 0 0) τ 3) rfl ⟨by decide, by decide⟩ rfl rfl kB_X6_fails rfl kI_X6_fails kV_X6_fails kl_X6_118 (by decide) (Nat.le_of_ble_eq_true rfl) (by decide) ?_
                rintro r9 σ' τ' ⟨rfl, rfl, rfl⟩
                rw [up3_up3]
                exact r_iret C dX6_tell_82 rfl (by decide) (Or.inr (Or.inr ⟨c, hc, rfl, hkn, hK, q, hq, Or.inl ⟨by omega, rfl, rfl, rfl⟩⟩))
            · exact absurd (by decide) c62
          · have hK := inB3_f.mp (b2i_0.mp c47)
            refine r_iconst (v := 2) C dX6_tell_50 rfl ?_
            refine r_goto (tgt := 55) C dX6_tell_51 (by decide) ?_
            refine r_put (f := 0) C dX6_tell_55 ⟨by decide, by decide⟩ rfl rfl kU6 tyX6 tyX6_ok nmX6 (by decide) kf_X6_86 rfl rfl (by decide +kernel) (Nat.le_of_ble_eq_true rfl) (by simp [cel, up3]) ?_
            refine r_aload_n C dX6_tell_58 rfl rfl ?_
            refine r_get (f := 0) (v := .int 2) C dX6_tell_59 ⟨by decide, by decide⟩ rfl rfl kU6 (by decide) kf_X6_86 rfl (by simp [up3_at]) ?_
            refine r_ifle (tgt := 67) C dX6_tell_62 (by decide) (fun c62 => ?_) (fun c62 => ?_)
            · exact absurd c62 (by decide)
            · refine r_iconst (v := 0) C dX6_tell_65 rfl ?_
              exact r_iret C dX6_tell_66 rfl (by decide) (Or.inr (Or.inl ⟨hC, hkn, hK, rfl, rfl, rfl⟩))
        · have hN := isCB_f.mp (b2i_0.mp c34)
          refine r_iconst (v := 1) C dX6_tell_37 rfl ?_
          refine r_goto (tgt := 55) C dX6_tell_38 (by decide) ?_
          refine r_put (f := 0) C dX6_tell_55 ⟨by decide, by decide⟩ rfl rfl kU6 tyX6 tyX6_ok nmX6 (by decide) kf_X6_86 rfl rfl (by decide +kernel) (Nat.le_of_ble_eq_true rfl) (by simp [cel, up3]) ?_
          refine r_aload_n C dX6_tell_58 rfl rfl ?_
          refine r_get (f := 0) (v := .int 1) C dX6_tell_59 ⟨by decide, by decide⟩ rfl rfl kU6 (by decide) kf_X6_86 rfl (by simp [up3_at]) ?_
          refine r_ifle (tgt := 67) C dX6_tell_62 (by decide) (fun c62 => ?_) (fun c62 => ?_)
          · exact absurd c62 (by decide)
          · refine r_iconst (v := 0) C dX6_tell_65 rfl ?_
            exact r_iret C dX6_tell_66 rfl (by decide) (Or.inl ⟨Or.inr ⟨hk23, hN⟩, rfl, rfl, rfl⟩)
  · refine r_iload_n C dX6_tell_5 rfl rfl ?_
    refine r_iconst (v := 3) C dX6_tell_6 rfl ?_
    refine r_icmpne (tgt := 14) C dX6_tell_7 (by decide) (fun c7 => ?_) (fun c7 => ?_)
    · have hk23 : ¬ (kd = 2 ∨ kd = 3) := fun q => q.elim c2 c7
      refine r_iconst (v := 0) C dX6_tell_14 rfl ?_
      refine r_istore C dX6_tell_15 (by decide) rfl ?_
      refine r_aload_n C dX6_tell_17 rfl rfl ?_
      refine r_iload_n C dX6_tell_18 rfl rfl ?_
      refine r_callS C dX6_tell_19 (m_isCell σ τ cl) rfl kB_X6_isCell rfl kS_X6_isCell kl_X6_104 (by decide) (Nat.le_of_ble_eq_true rfl) (by decide) ?_
      rintro r9 σ' τ' ⟨rfl, rfl, rfl⟩
      refine r_ifeq (tgt := 37) C dX6_tell_22 (by decide) (fun c22 => ?_) (fun c22 => ?_)
      · have hC := isCB_f.mp (b2i_0.mp c22)
        refine r_iconst (v := 1) C dX6_tell_37 rfl ?_
        refine r_goto (tgt := 55) C dX6_tell_38 (by decide) ?_
        refine r_put (f := 0) C dX6_tell_55 ⟨by decide, by decide⟩ rfl rfl kU6 tyX6 tyX6_ok nmX6 (by decide) kf_X6_86 rfl rfl (by decide +kernel) (Nat.le_of_ble_eq_true rfl) (by simp [cel, up3]) ?_
        refine r_aload_n C dX6_tell_58 rfl rfl ?_
        refine r_get (f := 0) (v := .int 1) C dX6_tell_59 ⟨by decide, by decide⟩ rfl rfl kU6 (by decide) kf_X6_86 rfl (by simp [up3_at]) ?_
        refine r_ifle (tgt := 67) C dX6_tell_62 (by decide) (fun c62 => ?_) (fun c62 => ?_)
        · exact absurd c62 (by decide)
        · refine r_iconst (v := 0) C dX6_tell_65 rfl ?_
          exact r_iret C dX6_tell_66 rfl (by decide) (Or.inl ⟨Or.inl hC, rfl, rfl, rfl⟩)
      · have hC := isCB_t.mp (b2i_n.mp c22)
        refine r_iload C dX6_tell_25 rfl ?_
        refine r_ifeq (tgt := 41) C dX6_tell_27 (by decide) (fun c27 => ?_) (fun c27 => ?_)
        · have hkn : (kd = 2 ∨ kd = 3) → isC nn := fun q => absurd q hk23
          refine r_iload_n C dX6_tell_41 rfl rfl ?_
          refine r_iconst (v := 0) C dX6_tell_42 rfl ?_
          refine r_iconst (v := 3) C dX6_tell_43 rfl ?_
          refine r_callS C dX6_tell_44 (m_in σ τ kd 0 3) rfl kB_X6_in rfl kS_X6_in kl_X6_90 (by decide) (Nat.le_of_ble_eq_true rfl) (by decide) ?_
          rintro r9 σ' τ' ⟨rfl, rfl, rfl⟩
          refine r_ifne (tgt := 54) C dX6_tell_47 (by decide) (fun c47 => ?_) (fun c47 => ?_)
          · have hK := inB3_t.mp (b2i_n.mp c47)
            refine r_iconst (v := 0) C dX6_tell_54 rfl ?_
            refine r_put (f := 0) C dX6_tell_55 ⟨by decide, by decide⟩ rfl rfl kU6 tyX6 tyX6_ok nmX6 (by decide) kf_X6_86 rfl rfl (by decide +kernel) (Nat.le_of_ble_eq_true rfl) (by simp [cel, up3]) ?_
            refine r_aload_n C dX6_tell_58 rfl rfl ?_
            refine r_get (f := 0) (v := .int 0) C dX6_tell_59 ⟨by decide, by decide⟩ rfl rfl kU6 (by decide) kf_X6_86 rfl (by simp [up3_at]) ?_
            refine r_ifle (tgt := 67) C dX6_tell_62 (by decide) (fun c62 => ?_) (fun c62 => ?_)
            · obtain ⟨c, hc, rfl⟩ := isC_nI hC
              obtain ⟨q, hq, hq4⟩ := hpl c hc
              refine r_aload_n C dX6_tell_67 rfl rfl ?_
              refine r_get (f := 13) C dX6_tell_68 ⟨by decide, by decide⟩ rfl rfl kU6 (by decide) kf_X6_37 rfl rfl ?_
              refine r_iload_n C dX6_tell_71 rfl rfl ?_
              refine r_ialdv (v := nI q) C dX6_tell_72 ⟨by decide, by decide⟩ rfl (vp_in_nI hc (by decide)) (by rw [nI_clamp (by omega)]; simpa [up3_at] using hq) ?_
              refine r_iconst (v := 4) C dX6_tell_73 rfl ?_
              refine r_icmpne (tgt := 83) C dX6_tell_74 (by decide) (fun c74 => ?_) (fun c74 => ?_)
              · have hql : q < 4 := by
                  have : ¬ q = 4 := fun z => c74 (by rw [z]; rfl)
                  omega
                refine r_aload_n C dX6_tell_83 rfl rfl ?_
                refine r_get (f := 14) C dX6_tell_84 ⟨by decide, by decide⟩ rfl rfl kU6 (by decide) kf_X6_40 rfl rfl ?_
                refine r_iconst (v := 4) C dX6_tell_87 rfl ?_
                refine r_iload_n C dX6_tell_88 rfl rfl ?_
                refine r_imul C dX6_tell_89 ?_
                refine r_aload_n C dX6_tell_90 rfl rfl ?_
                refine r_get (f := 13) C dX6_tell_91 ⟨by decide, by decide⟩ rfl rfl kU6 (by decide) kf_X6_37 rfl rfl ?_
                refine r_iload_n C dX6_tell_94 rfl rfl ?_
                refine r_ialdv (v := nI q) C dX6_tell_95 ⟨by decide, by decide⟩ rfl (vp_in_nI hc (by decide)) (by rw [nI_clamp (by omega)]; simpa [up3_at] using hq) ?_
                refine r_iadd C dX6_tell_96 ?_
                rw [ix4]
                refine r_iload_n C dX6_tell_97 rfl rfl ?_
                refine r_iastv C dX6_tell_98 ⟨by decide, by decide⟩ (fun _ => rfl) (vp_in_nI (show 4 * c + q < 64 by omega) (by decide)) (nI_clamp (by omega)) ?_
                refine r_aload_n C dX6_tell_99 rfl rfl ?_
                refine r_get (f := 15) C dX6_tell_100 ⟨by decide, by decide⟩ rfl rfl kU6 (by decide) kf_X6_43 rfl rfl ?_
                refine r_iconst (v := 4) C dX6_tell_103 rfl ?_
                refine r_iload_n C dX6_tell_104 rfl rfl ?_
                refine r_imul C dX6_tell_105 ?_
                refine r_aload_n C dX6_tell_106 rfl rfl ?_
                refine r_get (f := 13) C dX6_tell_107 ⟨by decide, by decide⟩ rfl rfl kU6 (by decide) kf_X6_37 rfl rfl ?_
                refine r_iload_n C dX6_tell_110 rfl rfl ?_
                refine r_ialdv (v := nI q) C dX6_tell_111 ⟨by decide, by decide⟩ rfl (vp_in_nI hc (by decide)) (by rw [nI_clamp (by omega)]; simpa [up3_at] using hq) ?_
                refine r_iadd C dX6_tell_112 ?_
                rw [ix4]
                refine r_iload_n C dX6_tell_113 rfl rfl ?_
                refine r_iastv C dX6_tell_114 ⟨by decide, by decide⟩ (fun _ => rfl) (vp_in_nI (show 4 * c + q < 64 by omega) (by decide)) (nI_clamp (by omega)) ?_
                refine r_aload_n C dX6_tell_115 rfl rfl ?_
                refine r_get (f := 13) C dX6_tell_116 ⟨by decide, by decide⟩ rfl rfl kU6 (by decide) kf_X6_37 rfl rfl ?_
                refine r_iload_n C dX6_tell_119 rfl rfl ?_
                refine r_dup2 C dX6_tell_120 rfl rfl ?_
                refine r_ialdv (v := nI q) C dX6_tell_121 ⟨by decide, by decide⟩ rfl (vp_in_nI hc (by decide)) (by rw [nI_clamp (by omega)]; simpa [up3_at] using hq) ?_
                refine r_iconst (v := 1) C dX6_tell_122 rfl ?_
                refine r_iadd C dX6_tell_123 ?_
                rw [nI_1]
                refine r_iastv C dX6_tell_124 ⟨by decide, by decide⟩ (fun _ => rfl) (vp_in_nI hc (by decide)) (nI_clamp (by omega)) ?_
                refine r_aload_n C dX6_tell_125 rfl rfl ?_
                refine r_get (f := 16) C dX6_tell_126 ⟨by decide, by decide⟩ rfl rfl kU6 (by decide) kf_X6_46 rfl rfl ?_
                refine r_iload_n C dX6_tell_129 rfl rfl ?_
                refine r_aload_n C dX6_tell_130 rfl rfl ?_
                refine r_get (f := 16) C dX6_tell_131 ⟨by decide, by decide⟩ rfl rfl kU6 (by decide) kf_X6_46 rfl rfl ?_
                refine r_iload_n C dX6_tell_134 rfl rfl ?_
                refine r_ialdv (v := σ 20 12 c) C dX6_tell_135 ⟨by decide, by decide⟩ rfl (vp_in_nI hc (by decide)) (by rw [nI_clamp (by omega)]; simp [up3_at]) ?_
                refine r_iconst (v := 1) C dX6_tell_136 rfl ?_
                refine r_icmpne (tgt := 144) C dX6_tell_137 (by decide) (fun c137 => ?_) (fun c137 => ?_)
                · refine r_aload_n C dX6_tell_144 rfl rfl ?_
                  refine r_get (f := 16) C dX6_tell_145 ⟨by decide, by decide⟩ rfl rfl kU6 (by decide) kf_X6_46 rfl rfl ?_
                  refine r_iload_n C dX6_tell_148 rfl rfl ?_
                  refine r_ialdv (v := σ 20 12 c) C dX6_tell_149 ⟨by decide, by decide⟩ rfl (vp_in_nI hc (by decide)) (by rw [nI_clamp (by omega)]; simp [up3_at]) ?_
                  refine r_iastv C dX6_tell_150 ⟨by decide, by decide⟩ (fun _ => rfl) (vp_in_nI hc (by decide)) (nI_clamp (by omega)) ?_
                  refine r_aload_n C dX6_tell_151 rfl rfl ?_
                  refine r_get (f := 13) C dX6_tell_152 ⟨by decide, by decide⟩ rfl rfl kU6 (by decide) kf_X6_37 rfl rfl ?_
                  refine r_iload_n C dX6_tell_155 rfl rfl ?_
                  refine r_ialdv (v := nI (q + 1)) C dX6_tell_156 ⟨by decide, by decide⟩ rfl (vp_in_nI hc (by decide)) (by rw [nI_clamp (by omega)]; simp [up3_at]) ?_
                  exact r_iret C dX6_tell_157 rfl (by decide) (Or.inr (Or.inr ⟨c, hc, rfl, hkn, hK, q, hq, Or.inr ⟨hql, rfl, by rw [if_neg c137]; rfl, rfl⟩⟩))
                · refine r_iconst (v := 0) C dX6_tell_140 rfl ?_
                  refine r_goto (tgt := 150) C dX6_tell_141 (by decide) ?_
                  refine r_iastv C dX6_tell_150 ⟨by decide, by decide⟩ (fun _ => rfl) (vp_in_nI hc (by decide)) (nI_clamp (by omega)) ?_
                  refine r_aload_n C dX6_tell_151 rfl rfl ?_
                  refine r_get (f := 13) C dX6_tell_152 ⟨by decide, by decide⟩ rfl rfl kU6 (by decide) kf_X6_37 rfl rfl ?_
                  refine r_iload_n C dX6_tell_155 rfl rfl ?_
                  refine r_ialdv (v := nI (q + 1)) C dX6_tell_156 ⟨by decide, by decide⟩ rfl (vp_in_nI hc (by decide)) (by rw [nI_clamp (by omega)]; simp [up3_at]) ?_
                  exact r_iret C dX6_tell_157 rfl (by decide) (Or.inr (Or.inr ⟨c, hc, rfl, hkn, hK, q, hq, Or.inr ⟨hql, rfl, by rw [if_pos c137]; rfl, rfl⟩⟩))
              · have hq4e : q = 4 := (nI_eq (by omega) (by decide)).mp c74
                refine r_aload_n C dX6_tell_77 rfl rfl ?_
                refine r_iconst (v := 3) C dX6_tell_78 rfl ?_
                refine r_callV C dX6_tell_79 (m_fails (up3 σ 19 0 0 0) τ 3) rfl ⟨by decide, by decide⟩ rfl rfl kB_X6_fails rfl kI_X6_fails kV_X6_fails kl_X6_118 (by decide) (Nat.le_of_ble_eq_true rfl) (by decide) ?_
                rintro r9 σ' τ' ⟨rfl, rfl, rfl⟩
                rw [up3_up3]
                exact r_iret C dX6_tell_82 rfl (by decide) (Or.inr (Or.inr ⟨c, hc, rfl, hkn, hK, q, hq, Or.inl ⟨by omega, rfl, rfl, rfl⟩⟩))
            · exact absurd (by decide) c62
          · have hK := inB3_f.mp (b2i_0.mp c47)
            refine r_iconst (v := 2) C dX6_tell_50 rfl ?_
            refine r_goto (tgt := 55) C dX6_tell_51 (by decide) ?_
            refine r_put (f := 0) C dX6_tell_55 ⟨by decide, by decide⟩ rfl rfl kU6 tyX6 tyX6_ok nmX6 (by decide) kf_X6_86 rfl rfl (by decide +kernel) (Nat.le_of_ble_eq_true rfl) (by simp [cel, up3]) ?_
            refine r_aload_n C dX6_tell_58 rfl rfl ?_
            refine r_get (f := 0) (v := .int 2) C dX6_tell_59 ⟨by decide, by decide⟩ rfl rfl kU6 (by decide) kf_X6_86 rfl (by simp [up3_at]) ?_
            refine r_ifle (tgt := 67) C dX6_tell_62 (by decide) (fun c62 => ?_) (fun c62 => ?_)
            · exact absurd c62 (by decide)
            · refine r_iconst (v := 0) C dX6_tell_65 rfl ?_
              exact r_iret C dX6_tell_66 rfl (by decide) (Or.inr (Or.inl ⟨hC, hkn, hK, rfl, rfl, rfl⟩))
        · exact absurd rfl c27
    · have hk23 : kd = 2 ∨ kd = 3 := Or.inr c7
      refine r_iconst (v := 1) C dX6_tell_10 rfl ?_
      refine r_goto (tgt := 15) C dX6_tell_11 (by decide) ?_
      refine r_istore C dX6_tell_15 (by decide) rfl ?_
      refine r_aload_n C dX6_tell_17 rfl rfl ?_
      refine r_iload_n C dX6_tell_18 rfl rfl ?_
      refine r_callS C dX6_tell_19 (m_isCell σ τ cl) rfl kB_X6_isCell rfl kS_X6_isCell kl_X6_104 (by decide) (Nat.le_of_ble_eq_true rfl) (by decide) ?_
      rintro r9 σ' τ' ⟨rfl, rfl, rfl⟩
      refine r_ifeq (tgt := 37) C dX6_tell_22 (by decide) (fun c22 => ?_) (fun c22 => ?_)
      · have hC := isCB_f.mp (b2i_0.mp c22)
        refine r_iconst (v := 1) C dX6_tell_37 rfl ?_
        refine r_goto (tgt := 55) C dX6_tell_38 (by decide) ?_
        refine r_put (f := 0) C dX6_tell_55 ⟨by decide, by decide⟩ rfl rfl kU6 tyX6 tyX6_ok nmX6 (by decide) kf_X6_86 rfl rfl (by decide +kernel) (Nat.le_of_ble_eq_true rfl) (by simp [cel, up3]) ?_
        refine r_aload_n C dX6_tell_58 rfl rfl ?_
        refine r_get (f := 0) (v := .int 1) C dX6_tell_59 ⟨by decide, by decide⟩ rfl rfl kU6 (by decide) kf_X6_86 rfl (by simp [up3_at]) ?_
        refine r_ifle (tgt := 67) C dX6_tell_62 (by decide) (fun c62 => ?_) (fun c62 => ?_)
        · exact absurd c62 (by decide)
        · refine r_iconst (v := 0) C dX6_tell_65 rfl ?_
          exact r_iret C dX6_tell_66 rfl (by decide) (Or.inl ⟨Or.inl hC, rfl, rfl, rfl⟩)
      · have hC := isCB_t.mp (b2i_n.mp c22)
        refine r_iload C dX6_tell_25 rfl ?_
        refine r_ifeq (tgt := 41) C dX6_tell_27 (by decide) (fun c27 => ?_) (fun c27 => ?_)
        · exact absurd c27 (by decide)
        · skip
          refine r_iload_n C dX6_tell_30 rfl rfl ?_
          refine r_callS C dX6_tell_31 (m_isCell σ τ nn) rfl kB_X6_isCell rfl kS_X6_isCell kl_X6_104 (by decide) (Nat.le_of_ble_eq_true rfl) (by decide) ?_
          rintro r9 σ' τ' ⟨rfl, rfl, rfl⟩
          refine r_ifne (tgt := 41) C dX6_tell_34 (by decide) (fun c34 => ?_) (fun c34 => ?_)
          · have hN := isCB_t.mp (b2i_n.mp c34)
            have hkn : (kd = 2 ∨ kd = 3) → isC nn := fun _ => hN
            refine r_iload_n C dX6_tell_41 rfl rfl ?_
            refine r_iconst (v := 0) C dX6_tell_42 rfl ?_
            refine r_iconst (v := 3) C dX6_tell_43 rfl ?_
            refine r_callS C dX6_tell_44 (m_in σ τ kd 0 3) rfl kB_X6_in rfl kS_X6_in kl_X6_90 (by decide) (Nat.le_of_ble_eq_true rfl) (by decide) ?_
            rintro r9 σ' τ' ⟨rfl, rfl, rfl⟩
            refine r_ifne (tgt := 54) C dX6_tell_47 (by decide) (fun c47 => ?_) (fun c47 => ?_)
            · have hK := inB3_t.mp (b2i_n.mp c47)
              refine r_iconst (v := 0) C dX6_tell_54 rfl ?_
              refine r_put (f := 0) C dX6_tell_55 ⟨by decide, by decide⟩ rfl rfl kU6 tyX6 tyX6_ok nmX6 (by decide) kf_X6_86 rfl rfl (by decide +kernel) (Nat.le_of_ble_eq_true rfl) (by simp [cel, up3]) ?_
              refine r_aload_n C dX6_tell_58 rfl rfl ?_
              refine r_get (f := 0) (v := .int 0) C dX6_tell_59 ⟨by decide, by decide⟩ rfl rfl kU6 (by decide) kf_X6_86 rfl (by simp [up3_at]) ?_
              refine r_ifle (tgt := 67) C dX6_tell_62 (by decide) (fun c62 => ?_) (fun c62 => ?_)
              · obtain ⟨c, hc, rfl⟩ := isC_nI hC
                obtain ⟨q, hq, hq4⟩ := hpl c hc
                refine r_aload_n C dX6_tell_67 rfl rfl ?_
                refine r_get (f := 13) C dX6_tell_68 ⟨by decide, by decide⟩ rfl rfl kU6 (by decide) kf_X6_37 rfl rfl ?_
                refine r_iload_n C dX6_tell_71 rfl rfl ?_
                refine r_ialdv (v := nI q) C dX6_tell_72 ⟨by decide, by decide⟩ rfl (vp_in_nI hc (by decide)) (by rw [nI_clamp (by omega)]; simpa [up3_at] using hq) ?_
                refine r_iconst (v := 4) C dX6_tell_73 rfl ?_
                refine r_icmpne (tgt := 83) C dX6_tell_74 (by decide) (fun c74 => ?_) (fun c74 => ?_)
                · have hql : q < 4 := by
                    have : ¬ q = 4 := fun z => c74 (by rw [z]; rfl)
                    omega
                  refine r_aload_n C dX6_tell_83 rfl rfl ?_
                  refine r_get (f := 14) C dX6_tell_84 ⟨by decide, by decide⟩ rfl rfl kU6 (by decide) kf_X6_40 rfl rfl ?_
                  refine r_iconst (v := 4) C dX6_tell_87 rfl ?_
                  refine r_iload_n C dX6_tell_88 rfl rfl ?_
                  refine r_imul C dX6_tell_89 ?_
                  refine r_aload_n C dX6_tell_90 rfl rfl ?_
                  refine r_get (f := 13) C dX6_tell_91 ⟨by decide, by decide⟩ rfl rfl kU6 (by decide) kf_X6_37 rfl rfl ?_
                  refine r_iload_n C dX6_tell_94 rfl rfl ?_
                  refine r_ialdv (v := nI q) C dX6_tell_95 ⟨by decide, by decide⟩ rfl (vp_in_nI hc (by decide)) (by rw [nI_clamp (by omega)]; simpa [up3_at] using hq) ?_
                  refine r_iadd C dX6_tell_96 ?_
                  rw [ix4]
                  refine r_iload_n C dX6_tell_97 rfl rfl ?_
                  refine r_iastv C dX6_tell_98 ⟨by decide, by decide⟩ (fun _ => rfl) (vp_in_nI (show 4 * c + q < 64 by omega) (by decide)) (nI_clamp (by omega)) ?_
                  refine r_aload_n C dX6_tell_99 rfl rfl ?_
                  refine r_get (f := 15) C dX6_tell_100 ⟨by decide, by decide⟩ rfl rfl kU6 (by decide) kf_X6_43 rfl rfl ?_
                  refine r_iconst (v := 4) C dX6_tell_103 rfl ?_
                  refine r_iload_n C dX6_tell_104 rfl rfl ?_
                  refine r_imul C dX6_tell_105 ?_
                  refine r_aload_n C dX6_tell_106 rfl rfl ?_
                  refine r_get (f := 13) C dX6_tell_107 ⟨by decide, by decide⟩ rfl rfl kU6 (by decide) kf_X6_37 rfl rfl ?_
                  refine r_iload_n C dX6_tell_110 rfl rfl ?_
                  refine r_ialdv (v := nI q) C dX6_tell_111 ⟨by decide, by decide⟩ rfl (vp_in_nI hc (by decide)) (by rw [nI_clamp (by omega)]; simpa [up3_at] using hq) ?_
                  refine r_iadd C dX6_tell_112 ?_
                  rw [ix4]
                  refine r_iload_n C dX6_tell_113 rfl rfl ?_
                  refine r_iastv C dX6_tell_114 ⟨by decide, by decide⟩ (fun _ => rfl) (vp_in_nI (show 4 * c + q < 64 by omega) (by decide)) (nI_clamp (by omega)) ?_
                  refine r_aload_n C dX6_tell_115 rfl rfl ?_
                  refine r_get (f := 13) C dX6_tell_116 ⟨by decide, by decide⟩ rfl rfl kU6 (by decide) kf_X6_37 rfl rfl ?_
                  refine r_iload_n C dX6_tell_119 rfl rfl ?_
                  refine r_dup2 C dX6_tell_120 rfl rfl ?_
                  refine r_ialdv (v := nI q) C dX6_tell_121 ⟨by decide, by decide⟩ rfl (vp_in_nI hc (by decide)) (by rw [nI_clamp (by omega)]; simpa [up3_at] using hq) ?_
                  refine r_iconst (v := 1) C dX6_tell_122 rfl ?_
                  refine r_iadd C dX6_tell_123 ?_
                  rw [nI_1]
                  refine r_iastv C dX6_tell_124 ⟨by decide, by decide⟩ (fun _ => rfl) (vp_in_nI hc (by decide)) (nI_clamp (by omega)) ?_
                  refine r_aload_n C dX6_tell_125 rfl rfl ?_
                  refine r_get (f := 16) C dX6_tell_126 ⟨by decide, by decide⟩ rfl rfl kU6 (by decide) kf_X6_46 rfl rfl ?_
                  refine r_iload_n C dX6_tell_129 rfl rfl ?_
                  refine r_aload_n C dX6_tell_130 rfl rfl ?_
                  refine r_get (f := 16) C dX6_tell_131 ⟨by decide, by decide⟩ rfl rfl kU6 (by decide) kf_X6_46 rfl rfl ?_
                  refine r_iload_n C dX6_tell_134 rfl rfl ?_
                  refine r_ialdv (v := σ 20 12 c) C dX6_tell_135 ⟨by decide, by decide⟩ rfl (vp_in_nI hc (by decide)) (by rw [nI_clamp (by omega)]; simp [up3_at]) ?_
                  refine r_iconst (v := 1) C dX6_tell_136 rfl ?_
                  refine r_icmpne (tgt := 144) C dX6_tell_137 (by decide) (fun c137 => ?_) (fun c137 => ?_)
                  · refine r_aload_n C dX6_tell_144 rfl rfl ?_
                    refine r_get (f := 16) C dX6_tell_145 ⟨by decide, by decide⟩ rfl rfl kU6 (by decide) kf_X6_46 rfl rfl ?_
                    refine r_iload_n C dX6_tell_148 rfl rfl ?_
                    refine r_ialdv (v := σ 20 12 c) C dX6_tell_149 ⟨by decide, by decide⟩ rfl (vp_in_nI hc (by decide)) (by rw [nI_clamp (by omega)]; simp [up3_at]) ?_
                    refine r_iastv C dX6_tell_150 ⟨by decide, by decide⟩ (fun _ => rfl) (vp_in_nI hc (by decide)) (nI_clamp (by omega)) ?_
                    refine r_aload_n C dX6_tell_151 rfl rfl ?_
                    refine r_get (f := 13) C dX6_tell_152 ⟨by decide, by decide⟩ rfl rfl kU6 (by decide) kf_X6_37 rfl rfl ?_
                    refine r_iload_n C dX6_tell_155 rfl rfl ?_
                    refine r_ialdv (v := nI (q + 1)) C dX6_tell_156 ⟨by decide, by decide⟩ rfl (vp_in_nI hc (by decide)) (by rw [nI_clamp (by omega)]; simp [up3_at]) ?_
                    exact r_iret C dX6_tell_157 rfl (by decide) (Or.inr (Or.inr ⟨c, hc, rfl, hkn, hK, q, hq, Or.inr ⟨hql, rfl, by rw [if_neg c137]; rfl, rfl⟩⟩))
                  · refine r_iconst (v := 0) C dX6_tell_140 rfl ?_
                    refine r_goto (tgt := 150) C dX6_tell_141 (by decide) ?_
                    refine r_iastv C dX6_tell_150 ⟨by decide, by decide⟩ (fun _ => rfl) (vp_in_nI hc (by decide)) (nI_clamp (by omega)) ?_
                    refine r_aload_n C dX6_tell_151 rfl rfl ?_
                    refine r_get (f := 13) C dX6_tell_152 ⟨by decide, by decide⟩ rfl rfl kU6 (by decide) kf_X6_37 rfl rfl ?_
                    refine r_iload_n C dX6_tell_155 rfl rfl ?_
                    refine r_ialdv (v := nI (q + 1)) C dX6_tell_156 ⟨by decide, by decide⟩ rfl (vp_in_nI hc (by decide)) (by rw [nI_clamp (by omega)]; simp [up3_at]) ?_
                    exact r_iret C dX6_tell_157 rfl (by decide) (Or.inr (Or.inr ⟨c, hc, rfl, hkn, hK, q, hq, Or.inr ⟨hql, rfl, by rw [if_pos c137]; rfl, rfl⟩⟩))
                · have hq4e : q = 4 := (nI_eq (by omega) (by decide)).mp c74
                  refine r_aload_n C dX6_tell_77 rfl rfl ?_
                  refine r_iconst (v := 3) C dX6_tell_78 rfl ?_
                  refine r_callV C dX6_tell_79 (m_fails (up3 σ 19 0 0 0) τ 3) rfl ⟨by decide, by decide⟩ rfl rfl kB_X6_fails rfl kI_X6_fails kV_X6_fails kl_X6_118 (by decide) (Nat.le_of_ble_eq_true rfl) (by decide) ?_
                  rintro r9 σ' τ' ⟨rfl, rfl, rfl⟩
                  rw [up3_up3]
                  exact r_iret C dX6_tell_82 rfl (by decide) (Or.inr (Or.inr ⟨c, hc, rfl, hkn, hK, q, hq, Or.inl ⟨by omega, rfl, rfl, rfl⟩⟩))
              · exact absurd (by decide) c62
            · have hK := inB3_f.mp (b2i_0.mp c47)
              refine r_iconst (v := 2) C dX6_tell_50 rfl ?_
              refine r_goto (tgt := 55) C dX6_tell_51 (by decide) ?_
              refine r_put (f := 0) C dX6_tell_55 ⟨by decide, by decide⟩ rfl rfl kU6 tyX6 tyX6_ok nmX6 (by decide) kf_X6_86 rfl rfl (by decide +kernel) (Nat.le_of_ble_eq_true rfl) (by simp [cel, up3]) ?_
              refine r_aload_n C dX6_tell_58 rfl rfl ?_
              refine r_get (f := 0) (v := .int 2) C dX6_tell_59 ⟨by decide, by decide⟩ rfl rfl kU6 (by decide) kf_X6_86 rfl (by simp [up3_at]) ?_
              refine r_ifle (tgt := 67) C dX6_tell_62 (by decide) (fun c62 => ?_) (fun c62 => ?_)
              · exact absurd c62 (by decide)
              · refine r_iconst (v := 0) C dX6_tell_65 rfl ?_
                exact r_iret C dX6_tell_66 rfl (by decide) (Or.inr (Or.inl ⟨hC, hkn, hK, rfl, rfl, rfl⟩))
          · have hN := isCB_f.mp (b2i_0.mp c34)
            refine r_iconst (v := 1) C dX6_tell_37 rfl ?_
            refine r_goto (tgt := 55) C dX6_tell_38 (by decide) ?_
            refine r_put (f := 0) C dX6_tell_55 ⟨by decide, by decide⟩ rfl rfl kU6 tyX6 tyX6_ok nmX6 (by decide) kf_X6_86 rfl rfl (by decide +kernel) (Nat.le_of_ble_eq_true rfl) (by simp [cel, up3]) ?_
            refine r_aload_n C dX6_tell_58 rfl rfl ?_
            refine r_get (f := 0) (v := .int 1) C dX6_tell_59 ⟨by decide, by decide⟩ rfl rfl kU6 (by decide) kf_X6_86 rfl (by simp [up3_at]) ?_
            refine r_ifle (tgt := 67) C dX6_tell_62 (by decide) (fun c62 => ?_) (fun c62 => ?_)
            · exact absurd c62 (by decide)
            · refine r_iconst (v := 0) C dX6_tell_65 rfl ?_
              exact r_iret C dX6_tell_66 rfl (by decide) (Or.inl ⟨Or.inr ⟨hk23, hN⟩, rfl, rfl, rfl⟩)
