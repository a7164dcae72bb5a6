/-! ===== the law's model: the readers: printed by g39.py ===== -/
set_option maxRecDepth 100000 in
set_option maxHeartbeats 1000000 in
theorem m_drafted {l : Launch} {D : va_G} {ad : Nat → Nat → Nat} {aC : Nat → ClassId} (σ : gSig) (τ : gTau)  : CZ l D ad aC yX6_drafted cX6_drafted 1 (some .int) 0 [.ref (ad 19 0)] σ τ (gEq (some (.int (σ 19 0 2))) (up3 σ 19 0 0 0) τ) := by
  refine CZ.of (own := RX6) (by decide +kernel) rfl (Nat.le_of_ble_eq_true rfl) (fun S C => ?_)
  refine r_aload_n C dX6_drafted_0 rfl rfl ?_
  refine r_iconst (v := 0) C dX6_drafted_1 rfl ?_
  refine r_put (f := 0) C dX6_drafted_2 ⟨by decide, by decide⟩ rfl rfl kU6 tyX6 tyX6_ok nmX6 (by decide) kf_X6_86 rfl rfl (by decide +kernel) (Nat.le_of_ble_eq_true rfl) (by simp [cel, up3]) ?_
  refine r_aload_n C dX6_drafted_5 rfl rfl ?_
  refine r_get (f := 2) (v := .int (σ 19 0 2)) C dX6_drafted_6 ⟨by decide, by decide⟩ rfl rfl kU6 (by decide) kf_X6_94 rfl (by simp [up3_at]) ?_
  exact r_iret C dX6_drafted_9 rfl (by decide) ⟨rfl, rfl, rfl⟩
set_option maxRecDepth 100000 in
set_option maxHeartbeats 1000000 in
theorem m_today {l : Launch} {D : va_G} {ad : Nat → Nat → Nat} {aC : Nat → ClassId} (σ : gSig) (τ : gTau)  : CZ l D ad aC yX6_today cX6_today 1 (some .int) 0 [.ref (ad 19 0)] σ τ (gEq (some (.int (σ 19 0 1))) (up3 σ 19 0 0 0) τ) := by
  refine CZ.of (own := RX6) (by decide +kernel) rfl (Nat.le_of_ble_eq_true rfl) (fun S C => ?_)
  refine r_aload_n C dX6_today_0 rfl rfl ?_
  refine r_iconst (v := 0) C dX6_today_1 rfl ?_
  refine r_put (f := 0) C dX6_today_2 ⟨by decide, by decide⟩ rfl rfl kU6 tyX6 tyX6_ok nmX6 (by decide) kf_X6_86 rfl rfl (by decide +kernel) (Nat.le_of_ble_eq_true rfl) (by simp [cel, up3]) ?_
  refine r_aload_n C dX6_today_5 rfl rfl ?_
  refine r_get (f := 1) (v := .int (σ 19 0 1)) C dX6_today_6 ⟨by decide, by decide⟩ rfl rfl kU6 (by decide) kf_X6_137 rfl (by simp [up3_at]) ?_
  exact r_iret C dX6_today_9 rfl (by decide) ⟨rfl, rfl, rfl⟩
set_option maxRecDepth 100000 in
set_option maxHeartbeats 1000000 in
theorem m_unlocked {l : Launch} {D : va_G} {ad : Nat → Nat → Nat} {aC : Nat → ClassId} (σ : gSig) (τ : gTau)  : CZ l D ad aC yX6_unlocked cX6_unlocked 1 (some .int) 0 [.ref (ad 19 0)] σ τ (gEq (some (.int (σ 19 0 22))) (up3 σ 19 0 0 0) τ) := by
  refine CZ.of (own := RX6) (by decide +kernel) rfl (Nat.le_of_ble_eq_true rfl) (fun S C => ?_)
  refine r_aload_n C dX6_unlocked_0 rfl rfl ?_
  refine r_iconst (v := 0) C dX6_unlocked_1 rfl ?_
  refine r_put (f := 0) C dX6_unlocked_2 ⟨by decide, by decide⟩ rfl rfl kU6 tyX6 tyX6_ok nmX6 (by decide) kf_X6_86 rfl rfl (by decide +kernel) (Nat.le_of_ble_eq_true rfl) (by simp [cel, up3]) ?_
  refine r_aload_n C dX6_unlocked_5 rfl rfl ?_
  refine r_get (f := 22) (v := .int (σ 19 0 22)) C dX6_unlocked_6 ⟨by decide, by decide⟩ rfl rfl kU6 (by decide) kf_X6_154 rfl (by simp [up3_at]) ?_
  exact r_iret C dX6_unlocked_9 rfl (by decide) ⟨rfl, rfl, rfl⟩
set_option maxRecDepth 100000 in
set_option maxHeartbeats 1000000 in
theorem m_reads {l : Launch} {D : va_G} {ad : Nat → Nat → Nat} {aC : Nat → ClassId} (σ : gSig) (τ : gTau) (cl : Int32) (hm : ∀ c, c < 16 → msK σ c) : CZ l D ad aC yX6_reads cX6_reads 2 (some .int) 2 [.ref (ad 19 0), .int cl] σ τ (fun r σ' τ' => (¬ isC cl ∧ thQ σ τ 1 r σ' τ') ∨ ∃ c, c < 16 ∧ cl = nI c ∧ gEq (some (.int (mR σ c))) (up3 σ 19 0 0 0) τ r σ' τ') := by
  refine CZ.of (own := RX6) (by decide +kernel) rfl (Nat.le_of_ble_eq_true rfl) (fun S C => ?_)
  refine r_aload_n C dX6_reads_0 rfl rfl ?_
  refine r_iconst (v := 0) C dX6_reads_1 rfl ?_
  refine r_put (f := 0) C dX6_reads_2 ⟨by decide, by decide⟩ rfl rfl kU6 tyX6 tyX6_ok nmX6 (by decide) kf_X6_86 rfl rfl (by decide +kernel) (Nat.le_of_ble_eq_true rfl) (by simp [cel, up3]) ?_
  refine r_iload_n C dX6_reads_5 rfl rfl ?_
  refine r_callS C dX6_reads_6 (m_isCell (up3 σ 19 0 0 0) τ cl) rfl kB_X6_isCell rfl kS_X6_isCell kl_X6_104 (by decide) (Nat.le_of_ble_eq_true rfl) (by decide) ?_
  rintro r9 σ' τ' ⟨rfl, rfl, rfl⟩
  refine r_ifeq (tgt := 20) C dX6_reads_9 (by decide) (fun c9 => ?_) (fun c9 => ?_)
  · have hC := isCB_f.mp (b2i_0.mp c9)
    refine r_aload_n C dX6_reads_20 rfl rfl ?_
    refine r_iconst (v := 1) C dX6_reads_21 rfl ?_
    refine r_callV C dX6_reads_22 (m_fails (up3 σ 19 0 0 0) τ 1) rfl ⟨by decide, by decide⟩ rfl rfl kB_X6_fails rfl kI_X6_fails kV_X6_fails kl_X6_118 (by decide) (Nat.le_of_ble_eq_true rfl) (by decide) ?_
    rintro r9 σ' τ' ⟨rfl, rfl, rfl⟩
    rw [up3_up3]
    exact r_iret C dX6_reads_25 rfl (by decide) (Or.inl ⟨hC, rfl, rfl, rfl⟩)
  · have hC := isCB_t.mp (b2i_n.mp c9)
    obtain ⟨c, hc, rfl⟩ := isC_nI hC
    refine r_aload_n C dX6_reads_12 rfl rfl ?_
    refine r_iload_n C dX6_reads_13 rfl rfl ?_
    refine r_callV C dX6_reads_14 (m_readBy (up3 σ 19 0 0 0) τ c hc ((fun c hc => msK_up3 _ _ _ _ (by decide) (hm c hc)) c hc)) rfl ⟨by decide, by decide⟩ rfl rfl kB_X6_readBy rfl kI_X6_readBy kV_X6_readBy kl_X6_108 (by decide) (Nat.le_of_ble_eq_true rfl) (by decide) ?_
    rintro r9 σ' τ' ⟨rfl, rfl, rfl⟩
    rw [mR_up3 _ _ _ _ _ (by decide)]
    refine r_goto (tgt := 25) C dX6_reads_17 (by decide) ?_
    exact r_iret C dX6_reads_25 rfl (by decide) (Or.inr ⟨c, hc, rfl, rfl, rfl, rfl⟩)
set_option maxRecDepth 100000 in
set_option maxHeartbeats 1000000 in
theorem m_rests {l : Launch} {D : va_G} {ad : Nat → Nat → Nat} {aC : Nat → ClassId} (σ : gSig) (τ : gTau) (cl : Int32) (hm : ∀ c, c < 16 → msK σ c) : CZ l D ad aC yX6_rests cX6_rests 2 (some .int) 2 [.ref (ad 19 0), .int cl] σ τ (fun r σ' τ' => (¬ isC cl ∧ thQ σ τ 1 r σ' τ') ∨ ∃ c, c < 16 ∧ cl = nI c ∧ gEq (some (.int (clR (mR σ) (mR σ c) 16))) (up3 σ 19 0 0 0) τ r σ' τ') := by
  refine CZ.of (own := RX6) (by decide +kernel) rfl (Nat.le_of_ble_eq_true rfl) (fun S C => ?_)
  refine r_aload_n C dX6_rests_0 rfl rfl ?_
  refine r_iconst (v := 0) C dX6_rests_1 rfl ?_
  refine r_put (f := 0) C dX6_rests_2 ⟨by decide, by decide⟩ rfl rfl kU6 tyX6 tyX6_ok nmX6 (by decide) kf_X6_86 rfl rfl (by decide +kernel) (Nat.le_of_ble_eq_true rfl) (by simp [cel, up3]) ?_
  refine r_iload_n C dX6_rests_5 rfl rfl ?_
  refine r_callS C dX6_rests_6 (m_isCell (up3 σ 19 0 0 0) τ cl) rfl kB_X6_isCell rfl kS_X6_isCell kl_X6_104 (by decide) (Nat.le_of_ble_eq_true rfl) (by decide) ?_
  rintro r9 σ' τ' ⟨rfl, rfl, rfl⟩
  refine r_ifeq (tgt := 24) C dX6_rests_9 (by decide) (fun c9 => ?_) (fun c9 => ?_)
  · have hC := isCB_f.mp (b2i_0.mp c9)
    refine r_aload_n C dX6_rests_24 rfl rfl ?_
    refine r_iconst (v := 1) C dX6_rests_25 rfl ?_
    refine r_callV C dX6_rests_26 (m_fails (up3 σ 19 0 0 0) τ 1) rfl ⟨by decide, by decide⟩ rfl rfl kB_X6_fails rfl kI_X6_fails kV_X6_fails kl_X6_118 (by decide) (Nat.le_of_ble_eq_true rfl) (by decide) ?_
    rintro r9 σ' τ' ⟨rfl, rfl, rfl⟩
    rw [up3_up3]
    exact r_iret C dX6_rests_29 rfl (by decide) (Or.inl ⟨hC, rfl, rfl, rfl⟩)
  · have hC := isCB_t.mp (b2i_n.mp c9)
    obtain ⟨c, hc, rfl⟩ := isC_nI hC
    refine r_aload_n C dX6_rests_12 rfl rfl ?_
    refine r_aload_n C dX6_rests_13 rfl rfl ?_
    refine r_iload_n C dX6_rests_14 rfl rfl ?_
    refine r_callV C dX6_rests_15 (m_readBy (up3 σ 19 0 0 0) τ c hc ((fun c hc => msK_up3 _ _ _ _ (by decide) (hm c hc)) c hc)) rfl ⟨by decide, by decide⟩ rfl rfl kB_X6_readBy rfl kI_X6_readBy kV_X6_readBy kl_X6_108 (by decide) (Nat.le_of_ble_eq_true rfl) (by decide) ?_
    rintro r9 σ' τ' ⟨rfl, rfl, rfl⟩
    refine r_callV C dX6_rests_18 (m_under (up3 σ 19 0 0 0) τ _ (fun c hc => msK_up3 _ _ _ _ (by decide) (hm c hc))) rfl ⟨by decide, by decide⟩ rfl rfl kB_X6_under rfl kI_X6_under kV_X6_under kl_X6_115 (by decide) (Nat.le_of_ble_eq_true rfl) (by decide) ?_
    rintro r9 σ' τ' ⟨rfl, rfl, rfl⟩
    rw [mR_up3 _ _ _ _ _ (by decide)]
    refine r_goto (tgt := 29) C dX6_rests_21 (by decide) ?_
    exact r_iret C dX6_rests_29 rfl (by decide) (Or.inr ⟨c, hc, rfl, rfl, rfl, rfl⟩)
set_option maxRecDepth 100000 in
set_option maxHeartbeats 1000000 in
theorem m_verdict {l : Launch} {D : va_G} {ad : Nat → Nat → Nat} {aC : Nat → ClassId} (σ : gSig) (τ : gTau) (cl : Int32) : CZ l D ad aC yX6_verdict cX6_verdict 2 (some .int) 2 [.ref (ad 19 0), .int cl] σ τ (fun r σ' τ' => (¬ isC cl ∧ thQ σ τ 1 r σ' τ') ∨ ∃ c, c < 16 ∧ cl = nI c ∧ gEq (some (.int (σ 20 12 c))) (up3 σ 19 0 0 0) τ r σ' τ') := by
  refine CZ.of (own := RX6) (by decide +kernel) rfl (Nat.le_of_ble_eq_true rfl) (fun S C => ?_)
  refine r_aload_n C dX6_verdict_0 rfl rfl ?_
  refine r_iconst (v := 0) C dX6_verdict_1 rfl ?_
  refine r_put (f := 0) C dX6_verdict_2 ⟨by decide, by decide⟩ rfl rfl kU6 tyX6 tyX6_ok nmX6 (by decide) kf_X6_86 rfl rfl (by decide +kernel) (Nat.le_of_ble_eq_true rfl) (by simp [cel, up3]) ?_
  refine r_iload_n C dX6_verdict_5 rfl rfl ?_
  refine r_callS C dX6_verdict_6 (m_isCell (up3 σ 19 0 0 0) τ cl) rfl kB_X6_isCell rfl kS_X6_isCell kl_X6_104 (by decide) (Nat.le_of_ble_eq_true rfl) (by decide) ?_
  rintro r9 σ' τ' ⟨rfl, rfl, rfl⟩
  refine r_ifeq (tgt := 21) C dX6_verdict_9 (by decide) (fun c9 => ?_) (fun c9 => ?_)
  · have hC := isCB_f.mp (b2i_0.mp c9)
    refine r_aload_n C dX6_verdict_21 rfl rfl ?_
    refine r_iconst (v := 1) C dX6_verdict_22 rfl ?_
    refine r_callV C dX6_verdict_23 (m_fails (up3 σ 19 0 0 0) τ 1) rfl ⟨by decide, by decide⟩ rfl rfl kB_X6_fails rfl kI_X6_fails kV_X6_fails kl_X6_118 (by decide) (Nat.le_of_ble_eq_true rfl) (by decide) ?_
    rintro r9 σ' τ' ⟨rfl, rfl, rfl⟩
    rw [up3_up3]
    exact r_iret C dX6_verdict_26 rfl (by decide) (Or.inl ⟨hC, rfl, rfl, rfl⟩)
  · have hC := isCB_t.mp (b2i_n.mp c9)
    obtain ⟨c, hc, rfl⟩ := isC_nI hC
    refine r_aload_n C dX6_verdict_12 rfl rfl ?_
    refine r_get (f := 16) C dX6_verdict_13 ⟨by decide, by decide⟩ rfl rfl kU6 (by decide) kf_X6_46 rfl rfl ?_
    refine r_iload_n C dX6_verdict_16 rfl rfl ?_
    refine r_ialdv (v := σ 20 12 c) C dX6_verdict_17 ⟨by decide, by decide⟩ rfl (vp_in_nI hc (by decide)) (by rw [nI_clamp (by omega)]; simp [up3_at]) ?_
    refine r_goto (tgt := 26) C dX6_verdict_18 (by decide) ?_
    exact r_iret C dX6_verdict_26 rfl (by decide) (Or.inr ⟨c, hc, rfl, rfl, rfl, rfl⟩)
set_option maxRecDepth 100000 in
set_option maxHeartbeats 1000000 in
theorem m_failing {l : Launch} {D : va_G} {ad : Nat → Nat → Nat} {aC : Nat → ClassId} (σ : gSig) (τ : gTau) (cl : Int32) : CZ l D ad aC yX6_failing cX6_failing 2 (some .int) 2 [.ref (ad 19 0), .int cl] σ τ (fun r σ' τ' => (¬ isC cl ∧ thQ σ τ 1 r σ' τ') ∨ ∃ c, c < 16 ∧ cl = nI c ∧ gEq (some (.int (if σ 20 12 c = 2 then σ 20 13 c else -1))) (up3 σ 19 0 0 0) τ r σ' τ') := by
  refine CZ.of (own := RX6) (by decide +kernel) rfl (Nat.le_of_ble_eq_true rfl) (fun S C => ?_)
  refine r_aload_n C dX6_failing_0 rfl rfl ?_
  refine r_iconst (v := 0) C dX6_failing_1 rfl ?_
  refine r_put (f := 0) C dX6_failing_2 ⟨by decide, by decide⟩ rfl rfl kU6 tyX6 tyX6_ok nmX6 (by decide) kf_X6_86 rfl rfl (by decide +kernel) (Nat.le_of_ble_eq_true rfl) (by simp [cel, up3]) ?_
  refine r_iload_n C dX6_failing_5 rfl rfl ?_
  refine r_callS C dX6_failing_6 (m_isCell (up3 σ 19 0 0 0) τ cl) rfl kB_X6_isCell rfl kS_X6_isCell kl_X6_104 (by decide) (Nat.le_of_ble_eq_true rfl) (by decide) ?_
  rintro r9 σ' τ' ⟨rfl, rfl, rfl⟩
  refine r_ifne (tgt := 20) C dX6_failing_9 (by decide) (fun c9 => ?_) (fun c9 => ?_)
  · have hC := isCB_t.mp (b2i_n.mp c9)
    obtain ⟨c, hc, rfl⟩ := isC_nI hC
    refine r_aload_n C dX6_failing_20 rfl rfl ?_
    refine r_get (f := 16) C dX6_failing_21 ⟨by decide, by decide⟩ rfl rfl kU6 (by decide) kf_X6_46 rfl rfl ?_
    refine r_iload_n C dX6_failing_24 rfl rfl ?_
    refine r_ialdv (v := σ 20 12 c) C dX6_failing_25 ⟨by decide, by decide⟩ rfl (vp_in_nI hc (by decide)) (by rw [nI_clamp (by omega)]; simp [up3_at]) ?_
    refine r_iconst (v := 2) C dX6_failing_26 rfl ?_
    refine r_icmpne (tgt := 39) C dX6_failing_27 (by decide) (fun c27 => ?_) (fun c27 => ?_)
    · refine r_iconst (v := (-1)) C dX6_failing_39 rfl ?_
      exact r_iret C dX6_failing_40 rfl (by decide) (Or.inr ⟨c, hc, rfl, by rw [if_neg c27], rfl, rfl⟩)
    · refine r_aload_n C dX6_failing_30 rfl rfl ?_
      refine r_get (f := 17) C dX6_failing_31 ⟨by decide, by decide⟩ rfl rfl kU6 (by decide) kf_X6_49 rfl rfl ?_
      refine r_iload_n C dX6_failing_34 rfl rfl ?_
      refine r_ialdv (v := σ 20 13 c) C dX6_failing_35 ⟨by decide, by decide⟩ rfl (vp_in_nI hc (by decide)) (by rw [nI_clamp (by omega)]; simp [up3_at]) ?_
      refine r_goto (tgt := 40) C dX6_failing_36 (by decide) ?_
      exact r_iret C dX6_failing_40 rfl (by decide) (Or.inr ⟨c, hc, rfl, by rw [if_pos c27], rfl, rfl⟩)
  · have hC := isCB_f.mp (b2i_0.mp c9)
    refine r_aload_n C dX6_failing_12 rfl rfl ?_
    refine r_iconst (v := 1) C dX6_failing_13 rfl ?_
    refine r_callV C dX6_failing_14 (m_fails (up3 σ 19 0 0 0) τ 1) rfl ⟨by decide, by decide⟩ rfl rfl kB_X6_fails rfl kI_X6_fails kV_X6_fails kl_X6_118 (by decide) (Nat.le_of_ble_eq_true rfl) (by decide) ?_
    rintro r9 σ' τ' ⟨rfl, rfl, rfl⟩
    rw [up3_up3]
    refine r_goto (tgt := 40) C dX6_failing_17 (by decide) ?_
    exact r_iret C dX6_failing_40 rfl (by decide) (Or.inl ⟨hC, rfl, rfl, rfl⟩)
set_option maxRecDepth 100000 in
set_option maxHeartbeats 1000000 in
theorem m_smaller {l : Launch} {D : va_G} {ad : Nat → Nat → Nat} {aC : Nat → ClassId} (σ : gSig) (τ : gTau) (cl : Int32) : CZ l D ad aC yX6_smaller cX6_smaller 2 (some .int) 2 [.ref (ad 19 0), .int cl] σ τ (fun r σ' τ' => (¬ isC cl ∧ thQ σ τ 1 r σ' τ') ∨ ∃ c, c < 16 ∧ cl = nI c ∧ gEq (some (.int (if σ 20 15 c = -1 then -1 else σ 20 16 c))) (up3 σ 19 0 0 0) τ r σ' τ') := by
  refine CZ.of (own := RX6) (by decide +kernel) rfl (Nat.le_of_ble_eq_true rfl) (fun S C => ?_)
  refine r_aload_n C dX6_smaller_0 rfl rfl ?_
  refine r_iconst (v := 0) C dX6_smaller_1 rfl ?_
  refine r_put (f := 0) C dX6_smaller_2 ⟨by decide, by decide⟩ rfl rfl kU6 tyX6 tyX6_ok nmX6 (by decide) kf_X6_86 rfl rfl (by decide +kernel) (Nat.le_of_ble_eq_true rfl) (by simp [cel, up3]) ?_
  refine r_iload_n C dX6_smaller_5 rfl rfl ?_
  refine r_callS C dX6_smaller_6 (m_isCell (up3 σ 19 0 0 0) τ cl) rfl kB_X6_isCell rfl kS_X6_isCell kl_X6_104 (by decide) (Nat.le_of_ble_eq_true rfl) (by decide) ?_
  rintro r9 σ' τ' ⟨rfl, rfl, rfl⟩
  refine r_ifne (tgt := 20) C dX6_smaller_9 (by decide) (fun c9 => ?_) (fun c9 => ?_)
  · have hC := isCB_t.mp (b2i_n.mp c9)
    obtain ⟨c, hc, rfl⟩ := isC_nI hC
    refine r_aload_n C dX6_smaller_20 rfl rfl ?_
    refine r_get (f := 19) C dX6_smaller_21 ⟨by decide, by decide⟩ rfl rfl kU6 (by decide) kf_X6_55 rfl rfl ?_
    refine r_iload_n C dX6_smaller_24 rfl rfl ?_
    refine r_ialdv (v := σ 20 15 c) C dX6_smaller_25 ⟨by decide, by decide⟩ rfl (vp_in_nI hc (by decide)) (by rw [nI_clamp (by omega)]; simp [up3_at]) ?_
    refine r_iconst (v := (-1)) C dX6_smaller_26 rfl ?_
    refine r_icmpne (tgt := 34) C dX6_smaller_27 (by decide) (fun c27 => ?_) (fun c27 => ?_)
    · refine r_aload_n C dX6_smaller_34 rfl rfl ?_
      refine r_get (f := 20) C dX6_smaller_35 ⟨by decide, by decide⟩ rfl rfl kU6 (by decide) kf_X6_58 rfl rfl ?_
      refine r_iload_n C dX6_smaller_38 rfl rfl ?_
      refine r_ialdv (v := σ 20 16 c) C dX6_smaller_39 ⟨by decide, by decide⟩ rfl (vp_in_nI hc (by decide)) (by rw [nI_clamp (by omega)]; simp [up3_at]) ?_
      exact r_iret C dX6_smaller_40 rfl (by decide) (Or.inr ⟨c, hc, rfl, by rw [if_neg c27], rfl, rfl⟩)
    · refine r_iconst (v := (-1)) C dX6_smaller_30 rfl ?_
      refine r_goto (tgt := 40) C dX6_smaller_31 (by decide) ?_
      exact r_iret C dX6_smaller_40 rfl (by decide) (Or.inr ⟨c, hc, rfl, by rw [if_pos c27], rfl, rfl⟩)
  · have hC := isCB_f.mp (b2i_0.mp c9)
    refine r_aload_n C dX6_smaller_12 rfl rfl ?_
    refine r_iconst (v := 1) C dX6_smaller_13 rfl ?_
    refine r_callV C dX6_smaller_14 (m_fails (up3 σ 19 0 0 0) τ 1) rfl ⟨by decide, by decide⟩ rfl rfl kB_X6_fails rfl kI_X6_fails kV_X6_fails kl_X6_118 (by decide) (Nat.le_of_ble_eq_true rfl) (by decide) ?_
    rintro r9 σ' τ' ⟨rfl, rfl, rfl⟩
    rw [up3_up3]
    refine r_goto (tgt := 40) C dX6_smaller_17 (by decide) ?_
    exact r_iret C dX6_smaller_40 rfl (by decide) (Or.inl ⟨hC, rfl, rfl, rfl⟩)
