/-! ===== the face, second half: printed by g28.py ===== -/
set_option maxRecDepth 100000 in
set_option maxHeartbeats 4000000 in
theorem c_reads {l : Launch} {D : va_G} {ad : Nat → Nat → Nat} {aC : Nat → ClassId} (σ : gSig) (τ : gTau) (cl : Int32) : CT l D ad aC yX5_reads cX5_reads 2 (some .int) 8 1 [.ref (ad 0 0), .int cl] σ τ (fun r σ' τ' => ∃ c, c < 16 ∧ cl = nI c ∧ gEq (some (.int (σ 7 3 c))) σ τ r σ' τ') (fun E σ' τ' => (E = xIOB ∧ ¬ isC cl) ∧ σ = σ' ∧ τ = τ') := by
  refine CT.of (own := RX5) (by decide +kernel) rfl (Nat.le_of_ble_eq_true rfl) (fun S C => ?_)
  refine r_iload_n C dX5_reads_0 rfl rfl ?_
  refine r_callSX C trivial dX5_reads_1 (c_needCell σ τ cl) rfl kB_X5_needCell rfl kS_X5_needCell kl_X5_59 (by decide) (Nat.le_of_ble_eq_true rfl) (by decide) ?_ ?_
  · rintro E σ' τ' ⟨rfl, rfl, rfl, hx⟩
    exact ⟨⟨rfl, hx⟩, rfl, rfl⟩
  rintro r9 σ' τ' ⟨⟨rfl, rfl, rfl⟩, hcell⟩
  obtain ⟨c, hc, rfl⟩ := isC_nI hcell
  refine r_aload_n C dX5_reads_4 rfl rfl ?_
  refine r_get (f := 1) C dX5_reads_5 ⟨by decide, by decide⟩ rfl rfl kU5 (by decide) kf_X5_19 rfl rfl ?_
  refine r_get (f := 4) C dX5_reads_8 ⟨by decide, by decide⟩ rfl rfl kU3 (by decide) kf_X5_188 rfl rfl ?_
  refine r_iload_n C dX5_reads_11 rfl rfl ?_
  refine r_ialdv (v := σ 7 3 c) C dX5_reads_12 ⟨by decide, by decide⟩ rfl (vp_in_nI hc (by decide)) (by rw [nI_clamp (by omega)]) ?_
  exact r_iret C dX5_reads_13 rfl (by decide) ⟨c, hc, rfl, rfl, rfl, rfl⟩
set_option maxRecDepth 100000 in
set_option maxHeartbeats 4000000 in
theorem c_rests {l : Launch} {D : va_G} {ad : Nat → Nat → Nat} {aC : Nat → ClassId} (σ : gSig) (τ : gTau) (cl : Int32) : CT l D ad aC yX5_rests cX5_rests 2 (some .int) 8 1 [.ref (ad 0 0), .int cl] σ τ (fun r σ' τ' => ∃ c, c < 16 ∧ cl = nI c ∧ gEq (some (.int (σ 7 4 c))) σ τ r σ' τ') (fun E σ' τ' => (E = xIOB ∧ ¬ isC cl) ∧ σ = σ' ∧ τ = τ') := by
  refine CT.of (own := RX5) (by decide +kernel) rfl (Nat.le_of_ble_eq_true rfl) (fun S C => ?_)
  refine r_iload_n C dX5_rests_0 rfl rfl ?_
  refine r_callSX C trivial dX5_rests_1 (c_needCell σ τ cl) rfl kB_X5_needCell rfl kS_X5_needCell kl_X5_59 (by decide) (Nat.le_of_ble_eq_true rfl) (by decide) ?_ ?_
  · rintro E σ' τ' ⟨rfl, rfl, rfl, hx⟩
    exact ⟨⟨rfl, hx⟩, rfl, rfl⟩
  rintro r9 σ' τ' ⟨⟨rfl, rfl, rfl⟩, hcell⟩
  obtain ⟨c, hc, rfl⟩ := isC_nI hcell
  refine r_aload_n C dX5_rests_4 rfl rfl ?_
  refine r_get (f := 1) C dX5_rests_5 ⟨by decide, by decide⟩ rfl rfl kU5 (by decide) kf_X5_19 rfl rfl ?_
  refine r_get (f := 5) C dX5_rests_8 ⟨by decide, by decide⟩ rfl rfl kU3 (by decide) kf_X5_191 rfl rfl ?_
  refine r_iload_n C dX5_rests_11 rfl rfl ?_
  refine r_ialdv (v := σ 7 4 c) C dX5_rests_12 ⟨by decide, by decide⟩ rfl (vp_in_nI hc (by decide)) (by rw [nI_clamp (by omega)]) ?_
  exact r_iret C dX5_rests_13 rfl (by decide) ⟨c, hc, rfl, rfl, rfl, rfl⟩
set_option maxRecDepth 100000 in
set_option maxHeartbeats 4000000 in
theorem c_show {l : Launch} {D : va_G} {ad : Nat → Nat → Nat} {aC : Nat → ClassId} (σ : gSig) (τ : gTau) (cl : Int32) (o : Nat → Nat) (hK : shK σ o) : CT l D ad aC yX5_show cX5_show 4 (some .int) 8 2 [.ref (ad 0 0), .int cl] σ τ (fun r σ' τ' => ∃ c, c < 16 ∧ cl = nI c ∧ bt (lcC σ o) c = false ∧ ∃ v, gV σ (σ 7 2) c = some v ∧ ∃ s4 t8, some (.int v) = r ∧ upF σ 4 s4 = σ' ∧ upT τ 8 t8 = τ') (fun E σ' τ' => ((E = xIOB ∧ ¬ isC cl) ∨ (E = xISE ∧ ∃ c, c < 16 ∧ cl = nI c ∧ bt (lcC σ o) c = true) ∨ (E = xARI ∧ ∃ c, c < 16 ∧ cl = nI c ∧ bt (lcC σ o) c = false ∧ gV σ (σ 7 2) c = none)) ∧ ∃ s4 t8, upF σ 4 s4 = σ' ∧ upT τ 8 t8 = τ') := by
  refine CT.of (own := RX5) (by decide +kernel) rfl (Nat.le_of_ble_eq_true rfl) (fun S C => ?_)
  refine r_iload_n C dX5_show_0 rfl rfl ?_
  refine r_callSX C trivial dX5_show_1 (c_needCell σ τ cl) rfl kB_X5_needCell rfl kS_X5_needCell kl_X5_59 (by decide) (Nat.le_of_ble_eq_true rfl) (by decide) ?_ ?_
  · rintro E σ' τ' ⟨rfl, rfl, rfl, hx⟩
    exact ⟨Or.inl ⟨rfl, hx⟩, σ 4, τ 8, upF_id σ 4, upT_id τ 8⟩
  rintro r9 σ' τ' ⟨⟨rfl, rfl, rfl⟩, hcell⟩
  obtain ⟨c, hc, rfl⟩ := isC_nI hcell
  refine r_aload_n C dX5_show_4 rfl rfl ?_
  refine r_callV C dX5_show_5 (c_lockedCells σ τ o hK.1) rfl ⟨by decide, by decide⟩ rfl rfl kB_X5_lockedCells rfl kI_X5_lockedCells kV_X5_lockedCells kl_X5_144 (by decide) (Nat.le_of_ble_eq_true rfl) (by decide) ?_
  rintro r9 σ' τ' ⟨rfl, rfl, rfl⟩
  refine r_iload_n C dX5_show_8 rfl rfl ?_
  refine r_callS C dX5_show_9 (c_has σ τ (lcC σ o) (nI c)) rfl kB_X5_has rfl kS_X5_has kl_X5_141 (by decide) (Nat.le_of_ble_eq_true rfl) (by decide) ?_
  rintro r9 σ' τ' ⟨rfl, rfl, rfl⟩
  rw [hasB_bt hc]
  refine r_ifeq (tgt := 25) C dX5_show_12 (by decide) (fun c12 => ?_) (fun c12 => ?_)
  · have hl := b2i_0.mp c12
    refine r_aload_n C dX5_show_25 rfl rfl ?_
    refine r_get (f := 1) C dX5_show_26 ⟨by decide, by decide⟩ rfl rfl kU5 (by decide) kf_X5_19 rfl rfl ?_
    refine r_iload_n C dX5_show_29 rfl rfl ?_
    refine r_aload_n C dX5_show_30 rfl rfl ?_
    refine r_get (f := 1) C dX5_show_31 ⟨by decide, by decide⟩ rfl rfl kU5 (by decide) kf_X5_19 rfl rfl ?_
    refine r_get (f := 3) C dX5_show_34 ⟨by decide, by decide⟩ rfl rfl kU3 (by decide) kf_X5_115 rfl rfl ?_
    refine r_callV C dX5_show_37 (c_sReckon σ τ c 7 2 o (gV σ (σ 7 2)) hc hK (gV_eq hK _) ⟨by decide, by decide⟩ (by decide) (fun _ _ => rfl)) rfl ⟨by decide, by decide⟩ rfl rfl kB_X3_reckon rfl kI_X3_reckon kV_X3_reckon kl_X5_196 (by decide) (Nat.le_of_ble_eq_true rfl) (by decide) ?_
    rintro r9 σ' τ' ⟨s4, t8, rfl, rfl, rfl⟩
    refine r_lstore_n C dX5_show_40 rfl (by decide) rfl ?_
    refine r_lload_n C dX5_show_41 rfl rfl ?_
    refine r_ldc2 C dX5_show_42 kc_X5_200 ?_
    refine r_lcmp C dX5_show_45 ?_
    refine r_ifne (tgt := 59) C dX5_show_46 (by decide) (fun c46 => ?_) (fun c46 => ?_)
    · obtain ⟨v, hv⟩ := oL_some (fun z => c46 (by rw [z]; exact lg_cmp_self _))
      rw [hv]
      refine r_lload_n C dX5_show_59 rfl rfl ?_
      refine r_l2i C dX5_show_60 ?_
      rw [show (oL (some v)).toInt32 = v from Int32.toInt32_toInt64 v]
      exact r_iret C dX5_show_61 rfl (by decide) ⟨c, hc, rfl, hl, v, hv, s4, t8, rfl, rfl, rfl⟩
    · have e46 := lg_cmp_0 c46
      have hnone : gV σ (σ 7 2) c = none := by
        cases hw : gV σ (σ 7 2) c with
        | none => rfl
        | some x => rw [hw] at e46; exact absurd e46 (oL_ne x)
      obtain ⟨⟨t1, t2⟩, ⟨t3, t4⟩, t5, t6⟩ := kt_X5_202_206
      exact r_throw (is := 204) (text := "the value is a fault") C trivial t1 t2 t3 t4 (by decide +kernel) t5 dX5_show_49 dX5_show_52 dX5_show_53 dX5_show_55 dX5_show_58 (by decide) (Nat.le_of_ble_eq_true rfl) (by decide) t6 (⟨Or.inr (Or.inr ⟨rfl, c, hc, rfl, hl, hnone⟩), s4, t8, rfl, rfl⟩)
  · have hl := b2i_n.mp c12
    obtain ⟨⟨t1, t2⟩, ⟨t3, t4⟩, t5, t6⟩ := kt_X5_48_52
    exact r_throw (is := 194) (text := "the cell is locked") C trivial t1 t2 t3 t4 (by decide +kernel) t5 dX5_show_15 dX5_show_18 dX5_show_19 dX5_show_21 dX5_show_24 (by decide) (Nat.le_of_ble_eq_true rfl) (by decide) t6 (⟨Or.inr (Or.inl ⟨rfl, c, hc, rfl, hl⟩), σ 4, τ 8, upF_id σ 4, upT_id τ 8⟩)
def veC (σ : gSig) (c : Nat) : Int32 := if bt (σ 13 0 6) c then 2 else if bt (σ 13 0 5) c then 1 else 0
set_option maxRecDepth 100000 in
set_option maxHeartbeats 4000000 in
theorem c_verdict {l : Launch} {D : va_G} {ad : Nat → Nat → Nat} {aC : Nat → ClassId} (σ : gSig) (τ : gTau) (cl : Int32) : CT l D ad aC yX5_verdict cX5_verdict 2 (some .int) 8 1 [.ref (ad 0 0), .int cl] σ τ (fun r σ' τ' => ∃ c, c < 16 ∧ cl = nI c ∧ gEq (some (.int (veC σ c))) σ τ r σ' τ') (fun E σ' τ' => (E = xIOB ∧ ¬ isC cl) ∧ σ = σ' ∧ τ = τ') := by
  refine CT.of (own := RX5) (by decide +kernel) rfl (Nat.le_of_ble_eq_true rfl) (fun S C => ?_)
  refine r_iload_n C dX5_verdict_0 rfl rfl ?_
  refine r_callSX C trivial dX5_verdict_1 (c_needCell σ τ cl) rfl kB_X5_needCell rfl kS_X5_needCell kl_X5_59 (by decide) (Nat.le_of_ble_eq_true rfl) (by decide) ?_ ?_
  · rintro E σ' τ' ⟨rfl, rfl, rfl, hx⟩
    exact ⟨⟨rfl, hx⟩, rfl, rfl⟩
  rintro r9 σ' τ' ⟨⟨rfl, rfl, rfl⟩, hcell⟩
  obtain ⟨c, hc, rfl⟩ := isC_nI hcell
  refine r_aload_n C dX5_verdict_4 rfl rfl ?_
  refine r_get (f := 3) C dX5_verdict_5 ⟨by decide, by decide⟩ rfl rfl kU5 (by decide) kf_X5_33 rfl rfl ?_
  refine r_get (f := 6) C dX5_verdict_8 ⟨by decide, by decide⟩ rfl rfl kU4 (by decide) kf_X5_138 rfl rfl ?_
  refine r_iload_n C dX5_verdict_11 rfl rfl ?_
  refine r_callS C dX5_verdict_12 (c_has σ τ (σ 13 0 6) (nI c)) rfl kB_X5_has rfl kS_X5_has kl_X5_141 (by decide) (Nat.le_of_ble_eq_true rfl) (by decide) ?_
  rintro r9 σ' τ' ⟨rfl, rfl, rfl⟩
  rw [hasB_bt hc]
  refine r_ifeq (tgt := 20) C dX5_verdict_15 (by decide) (fun c15 => ?_) (fun c15 => ?_)
  · have h15 := b2i_0.mp c15
    refine r_aload_n C dX5_verdict_20 rfl rfl ?_
    refine r_get (f := 3) C dX5_verdict_21 ⟨by decide, by decide⟩ rfl rfl kU5 (by decide) kf_X5_33 rfl rfl ?_
    refine r_get (f := 5) C dX5_verdict_24 ⟨by decide, by decide⟩ rfl rfl kU4 (by decide) kf_X5_207 rfl rfl ?_
    refine r_iload_n C dX5_verdict_27 rfl rfl ?_
    refine r_callS C dX5_verdict_28 (c_has σ τ (σ 13 0 5) (nI c)) rfl kB_X5_has rfl kS_X5_has kl_X5_141 (by decide) (Nat.le_of_ble_eq_true rfl) (by decide) ?_
    rintro r9 σ' τ' ⟨rfl, rfl, rfl⟩
    rw [hasB_bt hc]
    refine r_ifeq (tgt := 38) C dX5_verdict_31 (by decide) (fun c31 => ?_) (fun c31 => ?_)
    · have h31 := b2i_0.mp c31
      refine r_iconst (v := 0) C dX5_verdict_38 rfl ?_
      exact r_iret C dX5_verdict_39 rfl (by decide) ⟨c, hc, rfl, by unfold veC; rw [h15, h31]; rfl, rfl, rfl⟩
    · have h31 := b2i_n.mp c31
      refine r_iconst (v := 1) C dX5_verdict_34 rfl ?_
      refine r_goto (tgt := 39) C dX5_verdict_35 (by decide) ?_
      exact r_iret C dX5_verdict_39 rfl (by decide) ⟨c, hc, rfl, by unfold veC; rw [h15, h31]; rfl, rfl, rfl⟩
  · have h15 := b2i_n.mp c15
    refine r_iconst (v := 2) C dX5_verdict_18 rfl ?_
    exact r_iret C dX5_verdict_19 rfl (by decide) ⟨c, hc, rfl, by unfold veC; rw [h15]; rfl, rfl, rfl⟩
set_option maxRecDepth 100000 in
set_option maxHeartbeats 4000000 in
theorem c_failing {l : Launch} {D : va_G} {ad : Nat → Nat → Nat} {aC : Nat → ClassId} (σ : gSig) (τ : gTau) (cl : Int32) : CT l D ad aC yX5_failing cX5_failing 2 (some .int) 8 1 [.ref (ad 0 0), .int cl] σ τ (fun r σ' τ' => ∃ c, c < 16 ∧ cl = nI c ∧ gEq (some (.int (if bt (σ 13 0 6) c then σ 14 1 c else -1))) σ τ r σ' τ') (fun E σ' τ' => (E = xIOB ∧ ¬ isC cl) ∧ σ = σ' ∧ τ = τ') := by
  refine CT.of (own := RX5) (by decide +kernel) rfl (Nat.le_of_ble_eq_true rfl) (fun S C => ?_)
  refine r_iload_n C dX5_failing_0 rfl rfl ?_
  refine r_callSX C trivial dX5_failing_1 (c_needCell σ τ cl) rfl kB_X5_needCell rfl kS_X5_needCell kl_X5_59 (by decide) (Nat.le_of_ble_eq_true rfl) (by decide) ?_ ?_
  · rintro E σ' τ' ⟨rfl, rfl, rfl, hx⟩
    exact ⟨⟨rfl, hx⟩, rfl, rfl⟩
  rintro r9 σ' τ' ⟨⟨rfl, rfl, rfl⟩, hcell⟩
  obtain ⟨c, hc, rfl⟩ := isC_nI hcell
  refine r_aload_n C dX5_failing_4 rfl rfl ?_
  refine r_get (f := 3) C dX5_failing_5 ⟨by decide, by decide⟩ rfl rfl kU5 (by decide) kf_X5_33 rfl rfl ?_
  refine r_get (f := 6) C dX5_failing_8 ⟨by decide, by decide⟩ rfl rfl kU4 (by decide) kf_X5_138 rfl rfl ?_
  refine r_iload_n C dX5_failing_11 rfl rfl ?_
  refine r_callS C dX5_failing_12 (c_has σ τ (σ 13 0 6) (nI c)) rfl kB_X5_has rfl kS_X5_has kl_X5_141 (by decide) (Nat.le_of_ble_eq_true rfl) (by decide) ?_
  rintro r9 σ' τ' ⟨rfl, rfl, rfl⟩
  rw [hasB_bt hc]
  refine r_ifeq (tgt := 30) C dX5_failing_15 (by decide) (fun c15 => ?_) (fun c15 => ?_)
  · have h15 := b2i_0.mp c15
    refine r_iconst (v := (-1)) C dX5_failing_30 rfl ?_
    exact r_iret C dX5_failing_31 rfl (by decide) ⟨c, hc, rfl, by rw [h15]; rfl, rfl, rfl⟩
  · have h15 := b2i_n.mp c15
    refine r_aload_n C dX5_failing_18 rfl rfl ?_
    refine r_get (f := 3) C dX5_failing_19 ⟨by decide, by decide⟩ rfl rfl kU5 (by decide) kf_X5_33 rfl rfl ?_
    refine r_get (f := 1) C dX5_failing_22 ⟨by decide, by decide⟩ rfl rfl kU4 (by decide) kf_X5_210 rfl rfl ?_
    refine r_iload_n C dX5_failing_25 rfl rfl ?_
    refine r_ialdv (v := σ 14 1 c) C dX5_failing_26 ⟨by decide, by decide⟩ rfl (vp_in_nI hc (by decide)) (by rw [nI_clamp (by omega)]) ?_
    refine r_goto (tgt := 31) C dX5_failing_27 (by decide) ?_
    exact r_iret C dX5_failing_31 rfl (by decide) ⟨c, hc, rfl, by rw [h15]; rfl, rfl, rfl⟩
set_option maxRecDepth 100000 in
set_option maxHeartbeats 4000000 in
theorem c_smaller {l : Launch} {D : va_G} {ad : Nat → Nat → Nat} {aC : Nat → ClassId} (σ : gSig) (τ : gTau) (cl : Int32) : CT l D ad aC yX5_smaller cX5_smaller 2 (some .int) 8 1 [.ref (ad 0 0), .int cl] σ τ (fun r σ' τ' => ∃ c, c < 16 ∧ cl = nI c ∧ gEq (some (.int (if bt (σ 13 0 6) c then σ 14 2 c else -1))) σ τ r σ' τ') (fun E σ' τ' => (E = xIOB ∧ ¬ isC cl) ∧ σ = σ' ∧ τ = τ') := by
  refine CT.of (own := RX5) (by decide +kernel) rfl (Nat.le_of_ble_eq_true rfl) (fun S C => ?_)
  refine r_iload_n C dX5_smaller_0 rfl rfl ?_
  refine r_callSX C trivial dX5_smaller_1 (c_needCell σ τ cl) rfl kB_X5_needCell rfl kS_X5_needCell kl_X5_59 (by decide) (Nat.le_of_ble_eq_true rfl) (by decide) ?_ ?_
  · rintro E σ' τ' ⟨rfl, rfl, rfl, hx⟩
    exact ⟨⟨rfl, hx⟩, rfl, rfl⟩
  rintro r9 σ' τ' ⟨⟨rfl, rfl, rfl⟩, hcell⟩
  obtain ⟨c, hc, rfl⟩ := isC_nI hcell
  refine r_aload_n C dX5_smaller_4 rfl rfl ?_
  refine r_get (f := 3) C dX5_smaller_5 ⟨by decide, by decide⟩ rfl rfl kU5 (by decide) kf_X5_33 rfl rfl ?_
  refine r_get (f := 6) C dX5_smaller_8 ⟨by decide, by decide⟩ rfl rfl kU4 (by decide) kf_X5_138 rfl rfl ?_
  refine r_iload_n C dX5_smaller_11 rfl rfl ?_
  refine r_callS C dX5_smaller_12 (c_has σ τ (σ 13 0 6) (nI c)) rfl kB_X5_has rfl kS_X5_has kl_X5_141 (by decide) (Nat.le_of_ble_eq_true rfl) (by decide) ?_
  rintro r9 σ' τ' ⟨rfl, rfl, rfl⟩
  rw [hasB_bt hc]
  refine r_ifeq (tgt := 30) C dX5_smaller_15 (by decide) (fun c15 => ?_) (fun c15 => ?_)
  · have h15 := b2i_0.mp c15
    refine r_iconst (v := (-1)) C dX5_smaller_30 rfl ?_
    exact r_iret C dX5_smaller_31 rfl (by decide) ⟨c, hc, rfl, by rw [h15]; rfl, rfl, rfl⟩
  · have h15 := b2i_n.mp c15
    refine r_aload_n C dX5_smaller_18 rfl rfl ?_
    refine r_get (f := 3) C dX5_smaller_19 ⟨by decide, by decide⟩ rfl rfl kU5 (by decide) kf_X5_33 rfl rfl ?_
    refine r_get (f := 2) C dX5_smaller_22 ⟨by decide, by decide⟩ rfl rfl kU4 (by decide) kf_X5_225 rfl rfl ?_
    refine r_iload_n C dX5_smaller_25 rfl rfl ?_
    refine r_ialdv (v := σ 14 2 c) C dX5_smaller_26 ⟨by decide, by decide⟩ rfl (vp_in_nI hc (by decide)) (by rw [nI_clamp (by omega)]) ?_
    refine r_goto (tgt := 31) C dX5_smaller_27 (by decide) ?_
    exact r_iret C dX5_smaller_31 rfl (by decide) ⟨c, hc, rfl, by rw [h15]; rfl, rfl, rfl⟩
set_option maxRecDepth 100000 in
set_option maxHeartbeats 4000000 in
theorem c_isLocked {l : Launch} {D : va_G} {ad : Nat → Nat → Nat} {aC : Nat → ClassId} (σ : gSig) (τ : gTau) (cl : Int32) (o : Nat → Nat) (hO : ordI (σ 7 5) o 16) : CT l D ad aC yX5_isLocked cX5_isLocked 2 (some .boolean) 8 1 [.ref (ad 0 0), .int cl] σ τ (fun r σ' τ' => ∃ c, c < 16 ∧ cl = nI c ∧ gEq (some (.int (b2i (bt (lcC σ o) c)))) σ τ r σ' τ') (fun E σ' τ' => (E = xIOB ∧ ¬ isC cl) ∧ σ = σ' ∧ τ = τ') := by
  refine CT.of (own := RX5) (by decide +kernel) rfl (Nat.le_of_ble_eq_true rfl) (fun S C => ?_)
  refine r_iload_n C dX5_isLocked_0 rfl rfl ?_
  refine r_callSX C trivial dX5_isLocked_1 (c_needCell σ τ cl) rfl kB_X5_needCell rfl kS_X5_needCell kl_X5_59 (by decide) (Nat.le_of_ble_eq_true rfl) (by decide) ?_ ?_
  · rintro E σ' τ' ⟨rfl, rfl, rfl, hx⟩
    exact ⟨⟨rfl, hx⟩, rfl, rfl⟩
  rintro r9 σ' τ' ⟨⟨rfl, rfl, rfl⟩, hcell⟩
  obtain ⟨c, hc, rfl⟩ := isC_nI hcell
  refine r_aload_n C dX5_isLocked_4 rfl rfl ?_
  refine r_callV C dX5_isLocked_5 (c_lockedCells σ τ o hO) rfl ⟨by decide, by decide⟩ rfl rfl kB_X5_lockedCells rfl kI_X5_lockedCells kV_X5_lockedCells kl_X5_144 (by decide) (Nat.le_of_ble_eq_true rfl) (by decide) ?_
  rintro r9 σ' τ' ⟨rfl, rfl, rfl⟩
  refine r_iload_n C dX5_isLocked_8 rfl rfl ?_
  refine r_callS C dX5_isLocked_9 (c_has σ τ (lcC σ o) (nI c)) rfl kB_X5_has rfl kS_X5_has kl_X5_141 (by decide) (Nat.le_of_ble_eq_true rfl) (by decide) ?_
  rintro r9 σ' τ' ⟨rfl, rfl, rfl⟩
  rw [hasB_bt hc]
  exact r_zret C dX5_isLocked_12 rfl (by decide) (b2i_01 _) ⟨c, hc, rfl, rfl, rfl, rfl⟩
def lwC (σ : gSig) (c : Nat) : Bool := !decide ((clR (fun d => σ 7 3 d &&& ((wvF (σ 18 1) (σ 17 0 3) 16) ^^^ (-1))) (b1 c &&& ((wvF (σ 18 1) (σ 17 0 3) 16) ^^^ (-1))) 16) &&& σ 13 0 6 = 0)
set_option maxRecDepth 100000 in
set_option maxHeartbeats 4000000 in
theorem c_isLockedByWays {l : Launch} {D : va_G} {ad : Nat → Nat → Nat} {aC : Nat → ClassId} (σ : gSig) (τ : gTau) (cl : Int32) : CT l D ad aC yX5_isLockedByWays cX5_isLockedByWays 2 (some .boolean) 8 1 [.ref (ad 0 0), .int cl] σ τ (fun r σ' τ' => ∃ c, c < 16 ∧ cl = nI c ∧ gEq (some (.int (b2i (lwC σ c)))) σ τ r σ' τ') (fun E σ' τ' => (E = xIOB ∧ ¬ isC cl) ∧ σ = σ' ∧ τ = τ') := by
  refine CT.of (own := RX5) (by decide +kernel) rfl (Nat.le_of_ble_eq_true rfl) (fun S C => ?_)
  refine r_iload_n C dX5_isLockedByWays_0 rfl rfl ?_
  refine r_callSX C trivial dX5_isLockedByWays_1 (c_needCell σ τ cl) rfl kB_X5_needCell rfl kS_X5_needCell kl_X5_59 (by decide) (Nat.le_of_ble_eq_true rfl) (by decide) ?_ ?_
  · rintro E σ' τ' ⟨rfl, rfl, rfl, hx⟩
    exact ⟨⟨rfl, hx⟩, rfl, rfl⟩
  rintro r9 σ' τ' ⟨⟨rfl, rfl, rfl⟩, hcell⟩
  obtain ⟨c, hc, rfl⟩ := isC_nI hcell
  refine r_aload_n C dX5_isLockedByWays_4 rfl rfl ?_
  refine r_get (f := 1) C dX5_isLockedByWays_5 ⟨by decide, by decide⟩ rfl rfl kU5 (by decide) kf_X5_19 rfl rfl ?_
  refine r_iload_n C dX5_isLockedByWays_8 rfl rfl ?_
  refine r_aload_n C dX5_isLockedByWays_9 rfl rfl ?_
  refine r_get (f := 4) C dX5_isLockedByWays_10 ⟨by decide, by decide⟩ rfl rfl kU5 (by decide) kf_X5_40 rfl rfl ?_
  refine r_callV C dX5_isLockedByWays_13 (c_waived σ τ) rfl ⟨by decide, by decide⟩ rfl rfl kB_X1_waivedCells rfl kI_X1_waivedCells kV_X1_waivedCells kl_X5_228 (by decide) (Nat.le_of_ble_eq_true rfl) (by decide) ?_
  rintro r9 σ' τ' ⟨rfl, rfl, rfl⟩
  refine r_callV C dX5_isLockedByWays_16 (c_reachedFrom σ τ c hc (wvF (σ 18 1) (σ 17 0 3) 16)) rfl ⟨by decide, by decide⟩ rfl rfl kB_X3_reachedFrom rfl kI_X3_reachedFrom kV_X3_reachedFrom kl_X5_231 (by decide) (Nat.le_of_ble_eq_true rfl) (by decide) ?_
  rintro r9 σ' τ' ⟨rfl, rfl, rfl⟩
  refine r_aload_n C dX5_isLockedByWays_19 rfl rfl ?_
  refine r_get (f := 3) C dX5_isLockedByWays_20 ⟨by decide, by decide⟩ rfl rfl kU5 (by decide) kf_X5_33 rfl rfl ?_
  refine r_get (f := 6) C dX5_isLockedByWays_23 ⟨by decide, by decide⟩ rfl rfl kU4 (by decide) kf_X5_138 rfl rfl ?_
  refine r_iand C dX5_isLockedByWays_26 ?_
  refine r_ifeq (tgt := 34) C dX5_isLockedByWays_27 (by decide) (fun c27 => ?_) (fun c27 => ?_)
  · have hw : lwC σ c = false := by unfold lwC; rw [decide_eq_true c27]; rfl
    refine r_iconst (v := 0) C dX5_isLockedByWays_34 rfl ?_
    exact r_zret C dX5_isLockedByWays_35 rfl (by decide) (by decide) ⟨c, hc, rfl, by rw [hw]; rfl, rfl, rfl⟩
  · have hw : lwC σ c = true := by unfold lwC; rw [decide_eq_false c27]; rfl
    refine r_iconst (v := 1) C dX5_isLockedByWays_30 rfl ?_
    refine r_goto (tgt := 35) C dX5_isLockedByWays_31 (by decide) ?_
    exact r_zret C dX5_isLockedByWays_35 rfl (by decide) (by decide) ⟨c, hc, rfl, by rw [hw]; rfl, rfl, rfl⟩
def mkC (σ : gSig) (c : Nat) : Bool := !decide ((σ 7 4 c ||| b1 c) &&& σ 13 0 6 = 0)
set_option maxRecDepth 100000 in
set_option maxHeartbeats 4000000 in
theorem c_isMarked {l : Launch} {D : va_G} {ad : Nat → Nat → Nat} {aC : Nat → ClassId} (σ : gSig) (τ : gTau) (cl : Int32) : CT l D ad aC yX5_isMarked cX5_isMarked 2 (some .boolean) 8 1 [.ref (ad 0 0), .int cl] σ τ (fun r σ' τ' => ∃ c, c < 16 ∧ cl = nI c ∧ gEq (some (.int (b2i (mkC σ c)))) σ τ r σ' τ') (fun E σ' τ' => (E = xIOB ∧ ¬ isC cl) ∧ σ = σ' ∧ τ = τ') := by
  refine CT.of (own := RX5) (by decide +kernel) rfl (Nat.le_of_ble_eq_true rfl) (fun S C => ?_)
  refine r_iload_n C dX5_isMarked_0 rfl rfl ?_
  refine r_callSX C trivial dX5_isMarked_1 (c_needCell σ τ cl) rfl kB_X5_needCell rfl kS_X5_needCell kl_X5_59 (by decide) (Nat.le_of_ble_eq_true rfl) (by decide) ?_ ?_
  · rintro E σ' τ' ⟨rfl, rfl, rfl, hx⟩
    exact ⟨⟨rfl, hx⟩, rfl, rfl⟩
  rintro r9 σ' τ' ⟨⟨rfl, rfl, rfl⟩, hcell⟩
  obtain ⟨c, hc, rfl⟩ := isC_nI hcell
  refine r_aload_n C dX5_isMarked_4 rfl rfl ?_
  refine r_get (f := 1) C dX5_isMarked_5 ⟨by decide, by decide⟩ rfl rfl kU5 (by decide) kf_X5_19 rfl rfl ?_
  refine r_get (f := 5) C dX5_isMarked_8 ⟨by decide, by decide⟩ rfl rfl kU3 (by decide) kf_X5_191 rfl rfl ?_
  refine r_iload_n C dX5_isMarked_11 rfl rfl ?_
  refine r_ialdv (v := σ 7 4 c) C dX5_isMarked_12 ⟨by decide, by decide⟩ rfl (vp_in_nI hc (by decide)) (by rw [nI_clamp (by omega)]) ?_
  refine r_iconst (v := 1) C dX5_isMarked_13 rfl ?_
  refine r_iload_n C dX5_isMarked_14 rfl rfl ?_
  refine r_ishl C dX5_isMarked_15 ?_
  refine r_ior C dX5_isMarked_16 ?_
  refine r_aload_n C dX5_isMarked_17 rfl rfl ?_
  refine r_get (f := 3) C dX5_isMarked_18 ⟨by decide, by decide⟩ rfl rfl kU5 (by decide) kf_X5_33 rfl rfl ?_
  refine r_get (f := 6) C dX5_isMarked_21 ⟨by decide, by decide⟩ rfl rfl kU4 (by decide) kf_X5_138 rfl rfl ?_
  refine r_iand C dX5_isMarked_24 ?_
  refine r_ifeq (tgt := 32) C dX5_isMarked_25 (by decide) (fun c25 => ?_) (fun c25 => ?_)
  · have hw : mkC σ c = false := by unfold mkC b1; rw [decide_eq_true c25]; rfl
    refine r_iconst (v := 0) C dX5_isMarked_32 rfl ?_
    exact r_zret C dX5_isMarked_33 rfl (by decide) (by decide) ⟨c, hc, rfl, by rw [hw]; rfl, rfl, rfl⟩
  · have hw : mkC σ c = true := by unfold mkC b1; rw [decide_eq_false c25]; rfl
    refine r_iconst (v := 1) C dX5_isMarked_28 rfl ?_
    refine r_goto (tgt := 33) C dX5_isMarked_29 (by decide) ?_
    exact r_zret C dX5_isMarked_33 rfl (by decide) (by decide) ⟨c, hc, rfl, by rw [hw]; rfl, rfl, rfl⟩
set_option maxRecDepth 100000 in
set_option maxHeartbeats 4000000 in
theorem c_locked {l : Launch} {D : va_G} {ad : Nat → Nat → Nat} {aC : Nat → ClassId} (σ : gSig) (τ : gTau) (o : Nat → Nat) (hO : ordI (σ 7 5) o 16) : CZ l D ad aC yX5_locked cX5_locked 1 (some .int) 3 [.ref (ad 0 0)] σ τ (gEq (some (.int (bcJ (lcC σ o)))) σ τ) := by
  refine CZ.of (own := RX5) (by decide +kernel) rfl (Nat.le_of_ble_eq_true rfl) (fun S C => ?_)
  refine r_aload_n C dX5_locked_0 rfl rfl ?_
  refine r_callV C dX5_locked_1 (c_lockedCells σ τ o hO) rfl ⟨by decide, by decide⟩ rfl rfl kB_X5_lockedCells rfl kI_X5_lockedCells kV_X5_lockedCells kl_X5_144 (by decide) (Nat.le_of_ble_eq_true rfl) (by decide) ?_
  rintro r9 σ' τ' ⟨rfl, rfl, rfl⟩
  refine r_callS C dX5_locked_4 (c_bitCount σ τ (lcC σ o)) rfl kB_J6_bitCount_0f7a4 rfl kS_J6_bitCount_0f7a4 kl_X5_179 (by decide) (Nat.le_of_ble_eq_true rfl) (by decide) ?_
  rintro r9 σ' τ' ⟨rfl, rfl, rfl⟩
  exact r_iret C dX5_locked_7 rfl (by decide) ⟨rfl, rfl, rfl⟩
set_option maxRecDepth 100000 in
set_option maxHeartbeats 4000000 in
theorem c_input {l : Launch} {D : va_G} {ad : Nat → Nat → Nat} {aC : Nat → ClassId} (σ : gSig) (τ : gTau) (cl lo hi : Int32) (hnew : ∀ c lo hi, c < 16 → (∀ d, d < 16 → m16 ((inS σ c lo hi) 7 3 d)) ∧ ∃ rk : Nat → Nat, ∀ a b, a < 16 → b < 16 → bt ((inS σ c lo hi) 7 3 a) b = true → rk b < rk a) : CT l D ad aC yX5_input cX5_input 4 (some .int) 8 2 [.ref (ad 0 0), .int cl, .int lo, .int hi] σ τ (fun r σ' τ' => ∃ c, c < 16 ∧ cl = nI c ∧ ((-1000000 : Int32) ≤ lo ∧ lo ≤ hi ∧ hi ≤ 1000000) ∧ ∃ ord ro o2, ordI ord o2 16 ∧ ordT ((inS σ c lo hi) 7 3) o2 16 ∧ ordJ o2 16 ∧ ordS o2 ∧ (∀ z, z < 16 → rsE ((inS σ c lo hi) 7 3) ro z) ∧ gEq (some (.int (bcJ ((upR (upR (inS σ c lo hi) 7 5 ord) 7 4 ro) 13 0 5 &&& chM (upR (upR (inS σ c lo hi) 7 5 ord) 7 4 ro) c)))) (fcS (upR (upR (inS σ c lo hi) 7 5 ord) 7 4 ro) c) τ r σ' τ') (fun E σ' τ' => ((E = xIOB ∧ ¬ isC cl) ∨ (E = xIAE ∧ ∃ c, c < 16 ∧ cl = nI c ∧ ¬ ((-1000000 : Int32) ≤ lo ∧ lo ≤ hi ∧ hi ≤ 1000000))) ∧ σ = σ' ∧ τ = τ') := by
  refine CT.of (own := RX5) (by decide +kernel) rfl (Nat.le_of_ble_eq_true rfl) (fun S C => ?_)
  refine r_iload_n C dX5_input_0 rfl rfl ?_
  refine r_callSX C trivial dX5_input_1 (c_needCell σ τ cl) rfl kB_X5_needCell rfl kS_X5_needCell kl_X5_59 (by decide) (Nat.le_of_ble_eq_true rfl) (by decide) ?_ ?_
  · rintro E σ' τ' ⟨rfl, rfl, rfl, hx⟩
    exact ⟨Or.inl ⟨rfl, hx⟩, rfl, rfl⟩
  rintro r9 σ' τ' ⟨⟨rfl, rfl, rfl⟩, hcell⟩
  obtain ⟨c, hc, rfl⟩ := isC_nI hcell
  refine r_iload_n C dX5_input_4 rfl rfl ?_
  refine r_ldc C dX5_input_5 kc_X5_92 ?_
  refine r_icmplt (tgt := 27) C dX5_input_7 (by decide) (fun c7 => ?_) (fun c7 => ?_)
  · have n7 := Int32.not_le.mpr c7
    have hno : ¬ ((-1000000 : Int32) ≤ lo ∧ lo ≤ hi ∧ hi ≤ 1000000) := fun q => n7 q.1
    obtain ⟨⟨t1, t2⟩, ⟨t3, t4⟩, t5, t6⟩ := kt_X5_63_67
    exact r_throw (is := 94) (text := "low or high is out of range") C trivial t1 t2 t3 t4 (by decide +kernel) t5 dX5_input_27 dX5_input_30 dX5_input_31 dX5_input_33 dX5_input_36 (by decide) (Nat.le_of_ble_eq_true rfl) (by decide) t6 (⟨Or.inr ⟨rfl, c, hc, rfl, hno⟩, rfl, rfl⟩)
  · have n7 := Int32.not_lt.mp c7
    refine r_iload_n C dX5_input_10 rfl rfl ?_
    refine r_ldc C dX5_input_11 kc_X5_93 ?_
    refine r_icmpgt (tgt := 27) C dX5_input_13 (by decide) (fun c13 => ?_) (fun c13 => ?_)
    · have n13 := Int32.not_le.mpr c13
      have hno : ¬ ((-1000000 : Int32) ≤ lo ∧ lo ≤ hi ∧ hi ≤ 1000000) := fun q => absurd (Int32.le_trans q.2.1 q.2.2) n13
      obtain ⟨⟨t1, t2⟩, ⟨t3, t4⟩, t5, t6⟩ := kt_X5_63_67
      exact r_throw (is := 94) (text := "low or high is out of range") C trivial t1 t2 t3 t4 (by decide +kernel) t5 dX5_input_27 dX5_input_30 dX5_input_31 dX5_input_33 dX5_input_36 (by decide) (Nat.le_of_ble_eq_true rfl) (by decide) t6 (⟨Or.inr ⟨rfl, c, hc, rfl, hno⟩, rfl, rfl⟩)
    · have n13 := Int32.not_lt.mp c13
      refine r_iload_n C dX5_input_16 rfl rfl ?_
      refine r_iload_n C dX5_input_17 rfl rfl ?_
      refine r_icmplt (tgt := 27) C dX5_input_18 (by decide) (fun c18 => ?_) (fun c18 => ?_)
      · have n18 := Int32.not_le.mpr c18
        have hno : ¬ ((-1000000 : Int32) ≤ lo ∧ lo ≤ hi ∧ hi ≤ 1000000) := fun q => n18 q.2.1
        obtain ⟨⟨t1, t2⟩, ⟨t3, t4⟩, t5, t6⟩ := kt_X5_63_67
        exact r_throw (is := 94) (text := "low or high is out of range") C trivial t1 t2 t3 t4 (by decide +kernel) t5 dX5_input_27 dX5_input_30 dX5_input_31 dX5_input_33 dX5_input_36 (by decide) (Nat.le_of_ble_eq_true rfl) (by decide) t6 (⟨Or.inr ⟨rfl, c, hc, rfl, hno⟩, rfl, rfl⟩)
      · have n18 := Int32.not_lt.mp c18
        refine r_iload_n C dX5_input_21 rfl rfl ?_
        refine r_ldc C dX5_input_22 kc_X5_93 ?_
        refine r_icmple (tgt := 37) C dX5_input_24 (by decide) (fun c24 => ?_) (fun c24 => ?_)
        · have n24 := Int32.not_lt.mpr c24
          have hyes : ((-1000000 : Int32) ≤ lo ∧ lo ≤ hi ∧ hi ≤ 1000000) := ⟨n7, n18, c24⟩
          obtain ⟨hm, rk, hrk⟩ := hnew c lo hi hc
          refine r_aload_n C dX5_input_37 rfl rfl ?_
          refine r_get (f := 1) C dX5_input_38 ⟨by decide, by decide⟩ rfl rfl kU5 (by decide) kf_X5_19 rfl rfl ?_
          refine r_iload_n C dX5_input_41 rfl rfl ?_
          refine r_iload_n C dX5_input_42 rfl rfl ?_
          refine r_iload_n C dX5_input_43 rfl rfl ?_
          refine r_callV C dX5_input_44 (c_makeInput σ τ c lo hi rk hc hm hrk) rfl ⟨by decide, by decide⟩ rfl rfl kB_X3_makeInput rfl kI_X3_makeInput kV_X3_makeInput kl_X5_96 (by decide) (Nat.le_of_ble_eq_true rfl) (by decide) ?_
          rintro r9 σ' τ' ⟨ord, ro, o2, rfl, rfl, rfl, q1, q2, q3, q4, q5⟩
          refine r_aload_n C dX5_input_47 rfl rfl ?_
          refine r_iload_n C dX5_input_48 rfl rfl ?_
          refine r_callV C dX5_input_49 (c_followChange (upR (upR (inS σ c lo hi) 7 5 ord) 7 4 ro) τ c hc) rfl ⟨by decide, by decide⟩ rfl rfl kB_X5_followChange rfl kI_X5_followChange kV_X5_followChange kl_X5_88 (by decide) (Nat.le_of_ble_eq_true rfl) (by decide) ?_
          rintro r9 σ' τ' ⟨rfl, rfl, rfl⟩
          exact r_iret C dX5_input_52 rfl (by decide) ⟨c, hc, rfl, hyes, ord, ro, o2, q1, q2, q3, q4, q5, rfl, rfl, rfl⟩
        · have n24 := Int32.not_le.mp c24
          have hno : ¬ ((-1000000 : Int32) ≤ lo ∧ lo ≤ hi ∧ hi ≤ 1000000) := fun q => c24 q.2.2
          obtain ⟨⟨t1, t2⟩, ⟨t3, t4⟩, t5, t6⟩ := kt_X5_63_67
          exact r_throw (is := 94) (text := "low or high is out of range") C trivial t1 t2 t3 t4 (by decide +kernel) t5 dX5_input_27 dX5_input_30 dX5_input_31 dX5_input_33 dX5_input_36 (by decide) (Nat.le_of_ble_eq_true rfl) (by decide) t6 (⟨Or.inr ⟨rfl, c, hc, rfl, hno⟩, rfl, rfl⟩)
set_option maxRecDepth 100000 in
set_option maxHeartbeats 4000000 in
theorem c_enter {l : Launch} {D : va_G} {ad : Nat → Nat → Nat} {aC : Nat → ClassId} (σ : gSig) (τ : gTau) (cl : Int32) (k : Nat) (hk : σ 1 16 3 = nI k) (hk2 : k ≤ 12) (hnew : ∀ c, c < 16 → (σ 1 16 4 = 1 ∧ bt (rotF (σ 7 4) (rsM (σ 2 16) (σ 3 16) k) 16) c = false) → (∀ d, d < 16 → m16 ((fmS σ c k) 7 3 d)) ∧ ∃ rk : Nat → Nat, ∀ a b, a < 16 → b < 16 → bt ((fmS σ c k) 7 3 a) b = true → rk b < rk a) : CT l D ad aC yX5_enter cX5_enter 2 (some .int) 8 2 [.ref (ad 0 0), .int cl] σ τ (fun r σ' τ' => ∃ c, c < 16 ∧ cl = nI c ∧ (σ 1 16 4 = 1 ∧ bt (rotF (σ 7 4) (rsM (σ 2 16) (σ 3 16) k) 16) c = false) ∧ ∃ ord ro o2, ordI ord o2 16 ∧ ordT ((fmS σ c k) 7 3) o2 16 ∧ ordJ o2 16 ∧ ordS o2 ∧ (∀ z, z < 16 → rsE ((fmS σ c k) 7 3) ro z) ∧ gEq (some (.int (bcJ ((clS (upR (upR (fmS σ c k) 7 5 ord) 7 4 ro)) 13 0 5 &&& chM (clS (upR (upR (fmS σ c k) 7 5 ord) 7 4 ro)) c)))) (fcS (clS (upR (upR (fmS σ c k) 7 5 ord) 7 4 ro)) c) τ r σ' τ') (fun E σ' τ' => ((E = xIOB ∧ ¬ isC cl) ∨ (E = xISE ∧ ∃ c, c < 16 ∧ cl = nI c ∧ ¬ (σ 1 16 4 = 1 ∧ bt (rotF (σ 7 4) (rsM (σ 2 16) (σ 3 16) k) 16) c = false))) ∧ σ = σ' ∧ τ = τ') := by
  refine CT.of (own := RX5) (by decide +kernel) rfl (Nat.le_of_ble_eq_true rfl) (fun S C => ?_)
  refine r_iload_n C dX5_enter_0 rfl rfl ?_
  refine r_callSX C trivial dX5_enter_1 (c_needCell σ τ cl) rfl kB_X5_needCell rfl kS_X5_needCell kl_X5_59 (by decide) (Nat.le_of_ble_eq_true rfl) (by decide) ?_ ?_
  · rintro E σ' τ' ⟨rfl, rfl, rfl, hx⟩
    exact ⟨Or.inl ⟨rfl, hx⟩, rfl, rfl⟩
  rintro r9 σ' τ' ⟨⟨rfl, rfl, rfl⟩, hcell⟩
  obtain ⟨c, hc, rfl⟩ := isC_nI hcell
  refine r_aload_n C dX5_enter_4 rfl rfl ?_
  refine r_get (f := 0) C dX5_enter_5 ⟨by decide, by decide⟩ rfl rfl kU5 (by decide) kf_X5_10 rfl rfl ?_
  refine r_get (f := 4) C dX5_enter_8 ⟨by decide, by decide⟩ rfl rfl kU0 (by decide) kf_X5_55 rfl rfl ?_
  refine r_iconst (v := 1) C dX5_enter_11 rfl ?_
  refine r_icmpeq (tgt := 25) C dX5_enter_12 (by decide) (fun c12 => ?_) (fun c12 => ?_)
  · refine r_aload_n C dX5_enter_25 rfl rfl ?_
    refine r_get (f := 1) C dX5_enter_26 ⟨by decide, by decide⟩ rfl rfl kU5 (by decide) kf_X5_19 rfl rfl ?_
    refine r_iload_n C dX5_enter_29 rfl rfl ?_
    refine r_aload_n C dX5_enter_30 rfl rfl ?_
    refine r_get (f := 0) C dX5_enter_31 ⟨by decide, by decide⟩ rfl rfl kU5 (by decide) kf_X5_10 rfl rfl ?_
    refine r_callV C dX5_enter_34 (c_wouldRest σ τ (nI c) 16 k (by decide) hk hk2) rfl ⟨by decide, by decide⟩ rfl rfl kB_X3_wouldRestOnItself rfl kI_X3_wouldRestOnItself kV_X3_wouldRestOnItself kl_X5_78 (by decide) (Nat.le_of_ble_eq_true rfl) (by decide) ?_
    rintro r9 σ' τ' ⟨rfl, rfl, rfl⟩
    rw [hasB_bt hc]
    refine r_ifeq (tgt := 50) C dX5_enter_37 (by decide) (fun c37 => ?_) (fun c37 => ?_)
    · have h37 := b2i_0.mp c37
      have hyes : (σ 1 16 4 = 1 ∧ bt (rotF (σ 7 4) (rsM (σ 2 16) (σ 3 16) k) 16) c = false) := ⟨c12, h37⟩
      obtain ⟨hm, rk, hrk⟩ := hnew c hc hyes
      refine r_aload_n C dX5_enter_50 rfl rfl ?_
      refine r_get (f := 1) C dX5_enter_51 ⟨by decide, by decide⟩ rfl rfl kU5 (by decide) kf_X5_19 rfl rfl ?_
      refine r_iload_n C dX5_enter_54 rfl rfl ?_
      refine r_aload_n C dX5_enter_55 rfl rfl ?_
      refine r_get (f := 0) C dX5_enter_56 ⟨by decide, by decide⟩ rfl rfl kU5 (by decide) kf_X5_10 rfl rfl ?_
      refine r_callV C dX5_enter_59 (c_makeFormula σ τ c k rk hc hk hk2 hm hrk) rfl ⟨by decide, by decide⟩ rfl rfl kB_X3_makeFormula rfl kI_X3_makeFormula kV_X3_makeFormula kl_X5_84 (by decide) (Nat.le_of_ble_eq_true rfl) (by decide) ?_
      rintro r9 σ' τ' ⟨ord, ro, o2, rfl, rfl, rfl, q1, q2, q3, q4, q5⟩
      refine r_aload_n C dX5_enter_62 rfl rfl ?_
      refine r_get (f := 0) C dX5_enter_63 ⟨by decide, by decide⟩ rfl rfl kU5 (by decide) kf_X5_10 rfl rfl ?_
      refine r_callV C dX5_enter_66 (c_clear (upR (upR (fmS σ c k) 7 5 ord) 7 4 ro) τ 16 (by decide)) rfl ⟨by decide, by decide⟩ rfl rfl kB_X0_clear rfl kI_X0_clear kV_X0_clear kl_X5_73 (by decide) (Nat.le_of_ble_eq_true rfl) (by decide) ?_
      rintro r9 σ' τ' ⟨rfl, rfl, rfl⟩
      refine r_aload_n C dX5_enter_69 rfl rfl ?_
      refine r_iload_n C dX5_enter_70 rfl rfl ?_
      refine r_callV C dX5_enter_71 (c_followChange (clS (upR (upR (fmS σ c k) 7 5 ord) 7 4 ro)) τ c hc) rfl ⟨by decide, by decide⟩ rfl rfl kB_X5_followChange rfl kI_X5_followChange kV_X5_followChange kl_X5_88 (by decide) (Nat.le_of_ble_eq_true rfl) (by decide) ?_
      rintro r9 σ' τ' ⟨rfl, rfl, rfl⟩
      exact r_iret C dX5_enter_74 rfl (by decide) ⟨c, hc, rfl, hyes, ord, ro, o2, q1, q2, q3, q4, q5, rfl, rfl, rfl⟩
    · have h37 := b2i_n.mp c37
      have hno : ¬ (σ 1 16 4 = 1 ∧ bt (rotF (σ 7 4) (rsM (σ 2 16) (σ 3 16) k) 16) c = false) := fun q => by rw [q.2] at h37; cases h37
      obtain ⟨⟨t1, t2⟩, ⟨t3, t4⟩, t5, t6⟩ := kt_X5_48_52
      exact r_throw (is := 82) (text := "a cell would rest on itself") C trivial t1 t2 t3 t4 (by decide +kernel) t5 dX5_enter_40 dX5_enter_43 dX5_enter_44 dX5_enter_46 dX5_enter_49 (by decide) (Nat.le_of_ble_eq_true rfl) (by decide) t6 (⟨Or.inr ⟨rfl, c, hc, rfl, hno⟩, rfl, rfl⟩)
  · have hno : ¬ (σ 1 16 4 = 1 ∧ bt (rotF (σ 7 4) (rsM (σ 2 16) (σ 3 16) k) 16) c = false) := fun q => c12 q.1
    obtain ⟨⟨t1, t2⟩, ⟨t3, t4⟩, t5, t6⟩ := kt_X5_48_52
    exact r_throw (is := 76) (text := "the draft has not just one formula") C trivial t1 t2 t3 t4 (by decide +kernel) t5 dX5_enter_15 dX5_enter_18 dX5_enter_19 dX5_enter_21 dX5_enter_24 (by decide) (Nat.le_of_ble_eq_true rfl) (by decide) t6 (⟨Or.inr ⟨rfl, c, hc, rfl, hno⟩, rfl, rfl⟩)
theorem runQ_int {σ : gSig} {τ : gTau} {cell q seed R : Nat} {r : Option Value} {σ' : gSig} {τ' : gTau} (h : runQ σ τ cell q seed R r σ' τ') : ∃ x, r = some (.int x) := by
  rcases h with ⟨s4, t8, bk, -, h, -⟩ | ⟨a, p, s4, t8, -, -, -, -, -, h, -⟩
  · exact ⟨_, h.symm⟩
  · exact ⟨_, h.symm⟩
theorem ffQ_int {σ : gSig} {τ : gTau} {cell q seed R : Nat} {r : Option Value} {σ' : gSig} {τ' : gTau} (h : ffQ σ τ cell q seed R r σ' τ') : ∃ x, r = some (.int x) := by
  rcases h with ⟨s4, t8, bk, -, h, -⟩ | ⟨a, p, s4, t8, -, -, -, -, -, h, -⟩
  · exact ⟨_, h.symm⟩
  · exact ⟨_, h.symm⟩
theorem ffQ_pass {σ : gSig} {τ : gTau} {cell q seed R : Nat} {x : Int32} {σ' : gSig} {τ' : gTau} (h : ffQ σ τ cell q seed R (some (.int x)) σ' τ') (hR : R ≤ 20) (hx : x = -1) : ∃ s4 t8 bk, (∀ a, a < R → okA σ cell q seed a) ∧ tS (brS σ bk) (trC σ seed R).1 (trC σ seed R).2 s4 = σ' ∧ upT τ 8 t8 = τ' := by
  rcases h with ⟨s4, t8, bk, h1, -, h2, h3⟩ | ⟨a, p, s4, t8, ha, -, -, -, -, h, -⟩
  · exact ⟨s4, t8, bk, h1, h2, h3⟩
  · have e : nI a = x := Value.int.inj (Option.some.inj h)
    rw [hx] at e
    have e2 := congrArg Int32.toInt e
    rw [nI_toInt (by omega)] at e2
    have e3 : (-1 : Int32).toInt = -1 := by decide
    omega
theorem ffQ_fail {σ : gSig} {τ : gTau} {cell q seed R : Nat} {x : Int32} {σ' : gSig} {τ' : gTau} (h : ffQ σ τ cell q seed R (some (.int x)) σ' τ') (hx : ¬ x = -1) : ∃ a p s4 t8, a < R ∧ p < q ∧ (∀ b, b < a → okA σ cell q seed b) ∧ (∀ z, z < p → prC σ cell z cell (trC σ seed (a + 1)).1 = true) ∧ prC σ cell p cell (trC σ seed (a + 1)).1 = false ∧ x = nI a ∧ tS (brS σ (nI p)) (trC σ seed (a + 1)).1 (trC σ seed (a + 1)).2 s4 = σ' ∧ upT τ 8 t8 = τ' := by
  rcases h with ⟨s4, t8, bk, -, h, -⟩ | ⟨a, p, s4, t8, h1, h2, h3, h4, h5, h, h6, h7⟩
  · exact absurd (Value.int.inj (Option.some.inj h)).symm hx
  · exact ⟨a, p, s4, t8, h1, h2, h3, h4, h5, (Value.int.inj (Option.some.inj h)).symm, h6, h7⟩
theorem kfS_7 (σ : gSig) (cell : Nat) (b t inp : Int32) : kfS σ cell b t inp 7 = σ 7 := rfl
theorem runQ_7 {σ : gSig} {τ : gTau} {cell q seed R : Nat} {r : Option Value} {σ' : gSig} {τ' : gTau} (h : runQ σ τ cell q seed R r σ' τ') : σ' 7 = σ 7 := by
  rcases h with ⟨s4, t8, bk, -, -, h, -⟩ | ⟨a, p, s4, t8, -, -, -, -, -, -, h, -⟩
  · rw [← h]
    funext c i
    simp [up3, tS, brS, rwS, upF, upR]
  · rw [← h, kfS_7]
    exact tSb_ne _ _ _ _ _ (by decide) (by decide) (by decide)
/-- how an attempt ends -/
def atQ (σ : gSig) (τ : gTau) (o : Nat → Nat) (c q sd R : Nat) : Option Value → gSig → gTau → Prop := fun r σ' τ' => ∃ σ1, runQ σ τ c q sd R r σ1 τ' ∧
  ((bt (σ 13 0 6) c = true ∧ r = some (.int (-1))) → ∃ g, kS σ1 g (unL (σ1 7 3) c (lcC σ o &&& (lcC σ1 o ^^^ (-1)))).length = σ' ∧ onL g (unL (σ1 7 3) c (lcC σ o &&& (lcC σ1 o ^^^ (-1))))) ∧
  (¬ (bt (σ 13 0 6) c = true ∧ r = some (.int (-1))) → σ1 = σ')
set_option maxRecDepth 100000 in
set_option maxHeartbeats 4000000 in
theorem c_attempt {l : Launch} {D : va_G} {ad : Nat → Nat → Nat} {aC : Nat → ClassId} (σ : gSig) (τ : gTau) (cl sd ro : Int32) (o : Nat → Nat) (hK : shK σ o) (hPL : ∀ c, c < 16 → ∃ q, plK σ c q) (hrg : rgK (inpC σ) (σ 7 0) (σ 7 1)) : CT l D ad aC yX5_attempt cX5_attempt 8 (some .int) 10 2 [.ref (ad 0 0), .int cl, .int sd, .int ro] σ τ (fun r σ' τ' => ∃ c sdn Rn q, c < 16 ∧ cl = nI c ∧ sd = nI sdn ∧ ro = nI Rn ∧ sdn < 7875 ∧ Rn ≤ 20 ∧ ((¬ sd < 0 ∧ sd < 7875) ∧ (1 ≤ ro ∧ ro ≤ 20)) ∧ plK σ c q ∧ atQ σ τ o c q sdn Rn r σ' τ') (fun E σ' τ' => ((E = xIOB ∧ ¬ isC cl) ∨ (E = xIAE ∧ ∃ c, c < 16 ∧ cl = nI c ∧ ¬ ((¬ sd < 0 ∧ sd < 7875) ∧ (1 ≤ ro ∧ ro ≤ 20)))) ∧ σ = σ' ∧ τ = τ') := by
  refine CT.of (own := RX5) (by decide +kernel) rfl (Nat.le_of_ble_eq_true rfl) (fun S C => ?_)
  refine r_iload_n C dX5_attempt_0 rfl rfl ?_
  refine r_callSX C trivial dX5_attempt_1 (c_needCell σ τ cl) rfl kB_X5_needCell rfl kS_X5_needCell kl_X5_59 (by decide) (Nat.le_of_ble_eq_true rfl) (by decide) ?_ ?_
  · rintro E σ' τ' ⟨rfl, rfl, rfl, hx⟩
    exact ⟨Or.inl ⟨rfl, hx⟩, rfl, rfl⟩
  rintro r9 σ' τ' ⟨⟨rfl, rfl, rfl⟩, hcell⟩
  obtain ⟨c, hc, rfl⟩ := isC_nI hcell
  refine r_iload_n C dX5_attempt_4 rfl rfl ?_
  refine r_iflt (tgt := 26) C dX5_attempt_5 (by decide) (fun c5 => ?_) (fun c5 => ?_)
  · have hno : ¬ ((¬ sd < 0 ∧ sd < 7875) ∧ (1 ≤ ro ∧ ro ≤ 20)) := fun q => q.1.1 c5
    obtain ⟨⟨t1, t2⟩, ⟨t3, t4⟩, t5, t6⟩ := kt_X5_63_67
    exact r_throw (is := 136) (text := "seed or rows is out of range") C trivial t1 t2 t3 t4 (by decide +kernel) t5 dX5_attempt_26 dX5_attempt_29 dX5_attempt_30 dX5_attempt_32 dX5_attempt_35 (by decide) (Nat.le_of_ble_eq_true rfl) (by decide) t6 (⟨Or.inr ⟨rfl, c, hc, rfl, hno⟩, rfl, rfl⟩)
  · refine r_iload_n C dX5_attempt_8 rfl rfl ?_
    refine r_sipush (v := 7875) C dX5_attempt_9 rfl ?_
    refine r_icmpge (tgt := 26) C dX5_attempt_12 (by decide) (fun c12 => ?_) (fun c12 => ?_)
    · have n12 := Int32.not_lt.mpr c12
      have hno : ¬ ((¬ sd < 0 ∧ sd < 7875) ∧ (1 ≤ ro ∧ ro ≤ 20)) := fun q => n12 q.1.2
      obtain ⟨⟨t1, t2⟩, ⟨t3, t4⟩, t5, t6⟩ := kt_X5_63_67
      exact r_throw (is := 136) (text := "seed or rows is out of range") C trivial t1 t2 t3 t4 (by decide +kernel) t5 dX5_attempt_26 dX5_attempt_29 dX5_attempt_30 dX5_attempt_32 dX5_attempt_35 (by decide) (Nat.le_of_ble_eq_true rfl) (by decide) t6 (⟨Or.inr ⟨rfl, c, hc, rfl, hno⟩, rfl, rfl⟩)
    · have n12 := Int32.not_le.mp c12
      refine r_iload_n C dX5_attempt_15 rfl rfl ?_
      refine r_iconst (v := 1) C dX5_attempt_16 rfl ?_
      refine r_icmplt (tgt := 26) C dX5_attempt_17 (by decide) (fun c17 => ?_) (fun c17 => ?_)
      · have n17 := Int32.not_le.mpr c17
        have hno : ¬ ((¬ sd < 0 ∧ sd < 7875) ∧ (1 ≤ ro ∧ ro ≤ 20)) := fun q => n17 q.2.1
        obtain ⟨⟨t1, t2⟩, ⟨t3, t4⟩, t5, t6⟩ := kt_X5_63_67
        exact r_throw (is := 136) (text := "seed or rows is out of range") C trivial t1 t2 t3 t4 (by decide +kernel) t5 dX5_attempt_26 dX5_attempt_29 dX5_attempt_30 dX5_attempt_32 dX5_attempt_35 (by decide) (Nat.le_of_ble_eq_true rfl) (by decide) t6 (⟨Or.inr ⟨rfl, c, hc, rfl, hno⟩, rfl, rfl⟩)
      · have n17 := Int32.not_lt.mp c17
        refine r_iload_n C dX5_attempt_20 rfl rfl ?_
        refine r_bipush (v := 20) C dX5_attempt_21 rfl ?_
        refine r_icmple (tgt := 36) C dX5_attempt_23 (by decide) (fun c23 => ?_) (fun c23 => ?_)
        · have n23 := Int32.not_lt.mpr c23
          have hyes : ((¬ sd < 0 ∧ sd < 7875) ∧ (1 ≤ ro ∧ ro ≤ 20)) := ⟨⟨c5, n12⟩, n17, c23⟩
          obtain ⟨sdn, hsd31, rfl⟩ := nI_of c5
          have hsd : sdn < 7875 := (nI_ltI hsd31 (by decide)).mp n12
          obtain ⟨Rn, hR31, rfl⟩ := nI_of (x := ro) (fun q => absurd (Int32.lt_of_lt_of_le q (Int32.le_trans (by decide : (0 : Int32) ≤ 1) n17)) (Int32.lt_irrefl))
          have hR : Rn ≤ 20 := (nI_leI hR31 (by decide)).mp c23
          obtain ⟨q, hq, hq4, hpl⟩ := hPL c hc
          refine r_aload_n C dX5_attempt_36 rfl rfl ?_
          refine r_get (f := 3) C dX5_attempt_37 ⟨by decide, by decide⟩ rfl rfl kU5 (by decide) kf_X5_33 rfl rfl ?_
          refine r_get (f := 6) C dX5_attempt_40 ⟨by decide, by decide⟩ rfl rfl kU4 (by decide) kf_X5_138 rfl rfl ?_
          refine r_iload_n C dX5_attempt_43 rfl rfl ?_
          refine r_callS C dX5_attempt_44 (c_has σ τ (σ 13 0 6) (nI c)) rfl kB_X5_has rfl kS_X5_has kl_X5_141 (by decide) (Nat.le_of_ble_eq_true rfl) (by decide) ?_
          rintro r9 σ' τ' ⟨rfl, rfl, rfl⟩
          rw [hasB_bt hc]
          refine r_istore C dX5_attempt_47 (by decide) rfl ?_
          refine r_aload_n C dX5_attempt_49 rfl rfl ?_
          refine r_callV C dX5_attempt_50 (c_lockedCells σ τ o hK.1) rfl ⟨by decide, by decide⟩ rfl rfl kB_X5_lockedCells rfl kI_X5_lockedCells kV_X5_lockedCells kl_X5_144 (by decide) (Nat.le_of_ble_eq_true rfl) (by decide) ?_
          rintro r9 σ' τ' ⟨rfl, rfl, rfl⟩
          refine r_istore C dX5_attempt_53 (by decide) rfl ?_
          refine r_aload_n C dX5_attempt_55 rfl rfl ?_
          refine r_get (f := 3) C dX5_attempt_56 ⟨by decide, by decide⟩ rfl rfl kU5 (by decide) kf_X5_33 rfl rfl ?_
          refine r_aload_n C dX5_attempt_59 rfl rfl ?_
          refine r_get (f := 1) C dX5_attempt_60 ⟨by decide, by decide⟩ rfl rfl kU5 (by decide) kf_X5_19 rfl rfl ?_
          refine r_aload_n C dX5_attempt_63 rfl rfl ?_
          refine r_get (f := 2) C dX5_attempt_64 ⟨by decide, by decide⟩ rfl rfl kU5 (by decide) kf_X5_25 rfl rfl ?_
          refine r_iload_n C dX5_attempt_67 rfl rfl ?_
          refine r_aaldv (t0 := 4) C dX5_attempt_68 ⟨by decide, by decide⟩ rfl rfl (vp_in_nI hc (by decide)) (nI_clamp (by omega)) ?_
          refine r_iload_n C dX5_attempt_69 rfl rfl ?_
          refine r_iload_n C dX5_attempt_70 rfl rfl ?_
          refine r_iload_n C dX5_attempt_71 rfl rfl ?_
          refine r_callV C dX5_attempt_72 (c_findFailedRow σ τ c q sdn Rn o hc hK hq hq4 hpl hrg hsd hR) rfl ⟨by decide, by decide⟩ rfl rfl kB_X4_findFailedRow rfl kI_X4_findFailedRow kV_X4_findFailedRow kl_X5_148 (by decide) (Nat.le_of_ble_eq_true rfl) (by decide) ?_
          intro r9 σ1 τ1 hff
          obtain ⟨x, rfl⟩ := ffQ_int hff
          refine r_istore C dX5_attempt_75 (by decide) rfl ?_
          refine r_iload C dX5_attempt_77 rfl ?_
          refine r_iconst (v := (-1)) C dX5_attempt_79 rfl ?_
          refine r_icmpeq (tgt := 123) C dX5_attempt_80 (by decide) (fun c80 => ?_) (fun c80 => ?_)
          · obtain ⟨s4, t8, bk, hdone, rfl, rfl⟩ := ffQ_pass hff hR c80
            subst c80
            refine r_aload_n C dX5_attempt_123 rfl rfl ?_
            refine r_get (f := 3) C dX5_attempt_124 ⟨by decide, by decide⟩ rfl rfl kU5 (by decide) kf_X5_33 rfl rfl ?_
            refine r_iload_n C dX5_attempt_127 rfl rfl ?_
            refine r_callV C dX5_attempt_128 (c_keepPassed (tS (brS σ bk) (trC σ sdn Rn).1 (trC σ sdn Rn).2 s4) (upT τ 8 t8) c) rfl ⟨by decide, by decide⟩ rfl rfl kB_X4_keepPassed rfl kI_X4_keepPassed kV_X4_keepPassed kl_X5_162 (by decide) (Nat.le_of_ble_eq_true rfl) (by decide) ?_
            rintro r9 σ' τ' ⟨rfl, rfl, rfl⟩
            have hkp : kpS (tS (brS σ bk) (trC σ sdn Rn).1 (trC σ sdn Rn).2 s4) c = up3 (up3 (tS (brS σ bk) (trC σ sdn Rn).1 (trC σ sdn Rn).2 s4) 13 0 6 (σ 13 0 6 &&& (b1 c ^^^ (-1)))) 13 0 5 (σ 13 0 5 ||| b1 c) := by
              unfold kpS
              rw [show (tS (brS σ bk) (trC σ sdn Rn).1 (trC σ sdn Rn).2 s4) 13 0 6 = σ 13 0 6 from tS_13 _ _ _ _ (by decide), show (tS (brS σ bk) (trC σ sdn Rn).1 (trC σ sdn Rn).2 s4) 13 0 5 = σ 13 0 5 from tS_13 _ _ _ _ (by decide)]
            obtain ⟨σ1, hσ1⟩ : ∃ s, s = kpS (tS (brS σ bk) (trC σ sdn Rn).1 (trC σ sdn Rn).2 s4) c := ⟨_, rfl⟩
            obtain ⟨τ1, hτ1⟩ : ∃ s, s = upT τ 8 t8 := ⟨_, rfl⟩
            rw [← hσ1, ← hτ1]
            have hrun : runQ σ τ c q sdn Rn (some (.int (-1))) σ1 τ1 := Or.inl ⟨s4, t8, bk, hdone, rfl, hkp.symm.trans hσ1.symm, hτ1.symm⟩
            have h7 := runQ_7 hrun
            have hO1 : ordI (σ1 7 5) o 16 := by rw [h7]; exact hK.1
            refine r_iload C dX5_attempt_131 rfl ?_
            refine r_ifeq (tgt := 157) C dX5_attempt_133 (by decide) (fun c133 => ?_) (fun c133 => ?_)
            · have h79 := b2i_0.mp c133
              have hat : atQ σ τ o c q sdn Rn (some (.int (-1))) σ1 τ1 := ⟨σ1, hrun, fun z => (by rw [h79] at z; exact absurd z.1 (by decide)), fun _ => rfl⟩
              refine r_iconst (v := (-1)) C dX5_attempt_157 rfl ?_
              exact r_iret C dX5_attempt_158 rfl (by decide) ⟨c, sdn, Rn, q, hc, rfl, rfl, rfl, hsd, hR, hyes, ⟨hq, hq4, hpl⟩, hat⟩
            · have h79 := b2i_n.mp c133
              refine r_aload_n C dX5_attempt_136 rfl rfl ?_
              refine r_get (f := 4) C dX5_attempt_137 ⟨by decide, by decide⟩ rfl rfl kU5 (by decide) kf_X5_40 rfl rfl ?_
              refine r_aload_n C dX5_attempt_140 rfl rfl ?_
              refine r_get (f := 1) C dX5_attempt_141 ⟨by decide, by decide⟩ rfl rfl kU5 (by decide) kf_X5_19 rfl rfl ?_
              refine r_iload_n C dX5_attempt_144 rfl rfl ?_
              refine r_iload C dX5_attempt_145 rfl ?_
              refine r_aload_n C dX5_attempt_147 rfl rfl ?_
              refine r_callV C dX5_attempt_148 (c_lockedCells σ1 τ1 o hO1) rfl ⟨by decide, by decide⟩ rfl rfl kB_X5_lockedCells rfl kI_X5_lockedCells kV_X5_lockedCells kl_X5_144 (by decide) (Nat.le_of_ble_eq_true rfl) (by decide) ?_
              rintro r9 σ' τ' ⟨rfl, rfl, rfl⟩
              refine r_iconst (v := (-1)) C dX5_attempt_151 rfl ?_
              refine r_ixor C dX5_attempt_152 ?_
              refine r_iand C dX5_attempt_153 ?_
              refine r_callV C dX5_attempt_154 (c_keepUnlocked σ1 τ1 c (lcC σ o &&& (lcC σ1 o ^^^ (-1))) hc) rfl ⟨by decide, by decide⟩ rfl rfl kB_X1_keepUnlocked rfl kI_X1_keepUnlocked kV_X1_keepUnlocked kl_X5_165 (by decide) (Nat.le_of_ble_eq_true rfl) (by decide) ?_
              rintro r9 σ' τ' ⟨g, rfl, rfl, rfl, hg⟩
              have hat : atQ σ τ o c q sdn Rn (some (.int (-1))) (kS σ1 g (unL (σ1 7 3) c (lcC σ o &&& (lcC σ1 o ^^^ (-1)))).length) τ1 := ⟨σ1, hrun, fun _ => ⟨g, rfl, hg⟩, fun z => absurd ⟨h79, rfl⟩ z⟩
              refine r_iconst (v := (-1)) C dX5_attempt_157 rfl ?_
              exact r_iret C dX5_attempt_158 rfl (by decide) ⟨c, sdn, Rn, q, hc, rfl, rfl, rfl, hsd, hR, hyes, ⟨hq, hq4, hpl⟩, hat⟩
          · obtain ⟨a, p, s4, t8, haR, hp, hdone, hpb, hpf, rfl, rfl, rfl⟩ := ffQ_fail hff c80
            refine r_aload_n C dX5_attempt_83 rfl rfl ?_
            refine r_get (f := 3) C dX5_attempt_84 ⟨by decide, by decide⟩ rfl rfl kU5 (by decide) kf_X5_33 rfl rfl ?_
            refine r_aload_n C dX5_attempt_87 rfl rfl ?_
            refine r_get (f := 1) C dX5_attempt_88 ⟨by decide, by decide⟩ rfl rfl kU5 (by decide) kf_X5_19 rfl rfl ?_
            refine r_aload_n C dX5_attempt_91 rfl rfl ?_
            refine r_get (f := 2) C dX5_attempt_92 ⟨by decide, by decide⟩ rfl rfl kU5 (by decide) kf_X5_25 rfl rfl ?_
            refine r_iload_n C dX5_attempt_95 rfl rfl ?_
            refine r_aaldv (t0 := 4) C dX5_attempt_96 ⟨by decide, by decide⟩ rfl rfl (vp_in_nI hc (by decide)) (nI_clamp (by omega)) ?_
            refine r_iload_n C dX5_attempt_97 rfl rfl ?_
            refine r_callV C dX5_attempt_98 (c_makeSmaller (tS (brS σ (nI p)) (trC σ sdn (a + 1)).1 (trC σ sdn (a + 1)).2 s4) (upT τ 8 t8) c p q c o hc hc (shK_of (σ' := (tS (brS σ (nI p)) (trC σ sdn (a + 1)).1 (trC σ sdn (a + 1)).2 s4)) (tSb_ne _ _ _ _ _ (by decide) (by decide) (by decide)) (tSb_ne _ _ _ _ _ (by decide) (by decide) (by decide)) (tSb_ne _ _ _ _ _ (by decide) (by decide) (by decide)) (tSb_ne _ _ _ _ _ (by decide) (by decide) (by decide)) (tSb_ne _ _ _ _ _ (by decide) (by decide) (by decide)) hK) ((congrFun (congrFun (show (tS (brS σ (nI p)) (trC σ sdn (a + 1)).1 (trC σ sdn (a + 1)).2 s4) 10 = σ 10 from (tSb_ne _ _ _ _ _ (by decide) (by decide) (by decide))) c) 2).trans hq) hq4 hp (tS_bk _ _ _ _ _) (by rw [show (tS (brS σ (nI p)) (trC σ sdn (a + 1)).1 (trC σ sdn (a + 1)).2 s4) 11 = σ 11 from (tSb_ne _ _ _ _ _ (by decide) (by decide) (by decide)), show (tS (brS σ (nI p)) (trC σ sdn (a + 1)).1 (trC σ sdn (a + 1)).2 s4) 12 = σ 12 from (tSb_ne _ _ _ _ _ (by decide) (by decide) (by decide))]; exact hpl) (by unfold inpC; rw [show (tS (brS σ (nI p)) (trC σ sdn (a + 1)).1 (trC σ sdn (a + 1)).2 s4) 5 = σ 5 from (tSb_ne _ _ _ _ _ (by decide) (by decide) (by decide)), show (tS (brS σ (nI p)) (trC σ sdn (a + 1)).1 (trC σ sdn (a + 1)).2 s4) 7 = σ 7 from (tSb_ne _ _ _ _ _ (by decide) (by decide) (by decide))]; exact hrg) (by unfold inpC; rw [show (tS (brS σ (nI p)) (trC σ sdn (a + 1)).1 (trC σ sdn (a + 1)).2 s4) 5 = σ 5 from (tSb_ne _ _ _ _ _ (by decide) (by decide) (by decide)), show (tS (brS σ (nI p)) (trC σ sdn (a + 1)).1 (trC σ sdn (a + 1)).2 s4) 7 = σ 7 from (tSb_ne _ _ _ _ _ (by decide) (by decide) (by decide)), tS_row]; exact trR_rw hsd hrg a)) rfl ⟨by decide, by decide⟩ rfl rfl kB_X4_makeSmaller rfl kI_X4_makeSmaller kV_X4_makeSmaller kl_X5_152 (by decide) (Nat.le_of_ble_eq_true rfl) (by decide) ?_
            rintro r9 σ' τ' ⟨s4c, t8c, rfl, rfl, rfl⟩
            rw [tS_nv, upT_upT, ssC_of (σ := σ) (σ' := (tS (brS σ (nI p)) (trC σ sdn (a + 1)).1 (trC σ sdn (a + 1)).2 s4)) (tSb_ne _ _ _ _ _ (by decide) (by decide) (by decide)) (tSb_ne _ _ _ _ _ (by decide) (by decide) (by decide)) (tSb_ne _ _ _ _ _ (by decide) (by decide) (by decide)) (tSb_ne _ _ _ _ _ (by decide) (by decide) (by decide)) (tSb_ne _ _ _ _ _ (by decide) (by decide) (by decide)) (tSb_ne _ _ _ _ _ (by decide) (by decide) (by decide)) (tSb_ne _ _ _ _ _ (by decide) (by decide) (by decide)), tS_row]
            refine r_istore C dX5_attempt_101 (by decide) rfl ?_
            refine r_aload_n C dX5_attempt_103 rfl rfl ?_
            refine r_get (f := 3) C dX5_attempt_104 ⟨by decide, by decide⟩ rfl rfl kU5 (by decide) kf_X5_33 rfl rfl ?_
            refine r_iload_n C dX5_attempt_107 rfl rfl ?_
            refine r_iload C dX5_attempt_108 rfl ?_
            refine r_aload_n C dX5_attempt_110 rfl rfl ?_
            refine r_get (f := 1) C dX5_attempt_111 ⟨by decide, by decide⟩ rfl rfl kU5 (by decide) kf_X5_19 rfl rfl ?_
            refine r_get (f := 8) (v := .int (σ 5 0 8)) C dX5_attempt_114 ⟨by decide, by decide⟩ rfl rfl kU3 (by decide) kf_X5_156 rfl (by rw [← (show (tS (brS σ (nI p)) (msF (ssC σ c p c) 60 (trC σ sdn (a + 1)).1).2 (trC σ sdn (a + 1)).2 s4c) 5 = σ 5 from (tSb_ne _ _ _ _ _ (by decide) (by decide) (by decide)))]; rfl) ?_
            refine r_callV C dX5_attempt_117 (c_keepFailed (tS (brS σ (nI p)) (msF (ssC σ c p c) 60 (trC σ sdn (a + 1)).1).2 (trC σ sdn (a + 1)).2 s4c) (upT τ 8 t8c) c (nI (msF (ssC σ c p c) 60 (trC σ sdn (a + 1)).1).1) (σ 5 0 8) hc) rfl ⟨by decide, by decide⟩ rfl rfl kB_X4_keepFailed rfl kI_X4_keepFailed kV_X4_keepFailed kl_X5_159 (by decide) (Nat.le_of_ble_eq_true rfl) (by decide) ?_
            rintro r9 σ' τ' ⟨rfl, rfl, rfl⟩
            rw [tS_bk]
            have hrun : runQ σ τ c q sdn Rn (some (.int (nI a))) (kfS (tS (brS σ (nI p)) (msF (ssC σ c p c) 60 (trC σ sdn (a + 1)).1).2 (trC σ sdn (a + 1)).2 s4c) c (nI p) (nI (msF (ssC σ c p c) 60 (trC σ sdn (a + 1)).1).1) (σ 5 0 8)) (upT τ 8 t8c) := Or.inr ⟨a, p, s4c, t8c, haR, hp, hdone, hpb, hpf, rfl, rfl, rfl⟩
            have hat : atQ σ τ o c q sdn Rn (some (.int (nI a))) (kfS (tS (brS σ (nI p)) (msF (ssC σ c p c) 60 (trC σ sdn (a + 1)).1).2 (trC σ sdn (a + 1)).2 s4c) c (nI p) (nI (msF (ssC σ c p c) 60 (trC σ sdn (a + 1)).1).1) (σ 5 0 8)) (upT τ 8 t8c) := ⟨_, hrun, fun z => absurd (Value.int.inj (Option.some.inj z.2)) c80, fun _ => rfl⟩
            refine r_iload C dX5_attempt_120 rfl ?_
            exact r_iret C dX5_attempt_122 rfl (by decide) ⟨c, sdn, Rn, q, hc, rfl, rfl, rfl, hsd, hR, hyes, ⟨hq, hq4, hpl⟩, hat⟩
        · have n23 := Int32.not_le.mp c23
          have hno : ¬ ((¬ sd < 0 ∧ sd < 7875) ∧ (1 ≤ ro ∧ ro ≤ 20)) := fun q => c23 q.2.2
          obtain ⟨⟨t1, t2⟩, ⟨t3, t4⟩, t5, t6⟩ := kt_X5_63_67
          exact r_throw (is := 136) (text := "seed or rows is out of range") C trivial t1 t2 t3 t4 (by decide +kernel) t5 dX5_attempt_26 dX5_attempt_29 dX5_attempt_30 dX5_attempt_32 dX5_attempt_35 (by decide) (Nat.le_of_ble_eq_true rfl) (by decide) t6 (⟨Or.inr ⟨rfl, c, hc, rfl, hno⟩, rfl, rfl⟩)
