/-! ===== the face, first half: printed by g27.py ===== -/
def isO (o : Int32) : Prop := ¬ o < 0 ∧ o < 12
set_option maxRecDepth 100000 in
set_option maxHeartbeats 4000000 in
theorem c_number {l : Launch} {D : va_G} {ad : Nat → Nat → Nat} {aC : Nat → ClassId} (σ : gSig) (τ : gTau) (v : Int32) (k : Nat) (hk : σ 1 16 3 = nI k) (hk2 : k ≤ 12) : CT l D ad aC yX5_number cX5_number 2 (some .int) 7 1 [.ref (ad 0 0), .int v] σ τ (fun r σ' τ' => putB σ 16 k 12 = true ∧ gEq (some (.int ((putS σ 16 k 12 v) 1 16 4))) (putS σ 16 k 12 v) τ r σ' τ') (fun E σ' τ' => (E = xISE ∧ putB σ 16 k 12 = false) ∧ σ = σ' ∧ τ = τ') := by
  refine CT.of (own := RX5) (by decide +kernel) rfl (Nat.le_of_ble_eq_true rfl) (fun S C => ?_)
  refine r_aload_n C dX5_number_0 rfl rfl ?_
  refine r_get (f := 0) C dX5_number_1 ⟨by decide, by decide⟩ rfl rfl kU5 (by decide) kf_X5_10 rfl rfl ?_
  refine r_bipush (v := 12) C dX5_number_4 rfl ?_
  refine r_iload_n C dX5_number_6 rfl rfl ?_
  refine r_callV C dX5_number_7 (c_put σ τ 16 k 12 v (by decide) hk hk2) rfl ⟨by decide, by decide⟩ rfl rfl kB_X0_put rfl kI_X0_put kV_X0_put kl_X5_44 (by decide) (Nat.le_of_ble_eq_true rfl) (by decide) ?_
  rintro r9 σ' τ' ⟨rfl, rfl, rfl⟩
  refine r_ifne (tgt := 23) C dX5_number_10 (by decide) (fun c10 => ?_) (fun c10 => ?_)
  · have hp := b2i_n.mp c10
    rw [if_pos hp]
    refine r_aload_n C dX5_number_23 rfl rfl ?_
    refine r_get (f := 0) C dX5_number_24 ⟨by decide, by decide⟩ rfl rfl kU5 (by decide) kf_X5_10 rfl rfl ?_
    refine r_get (f := 4) C dX5_number_27 ⟨by decide, by decide⟩ rfl rfl kU0 (by decide) kf_X5_55 rfl rfl ?_
    exact r_iret C dX5_number_30 rfl (by decide) ⟨hp, rfl, rfl, rfl⟩
  · have hp := b2i_0.mp c10
    rw [if_neg (by rw [hp]; decide)]
    obtain ⟨⟨t1, t2⟩, ⟨t3, t4⟩, t5, t6⟩ := kt_X5_48_52
    exact r_throw (is := 50) (text := "the draft has 12 parts") C trivial t1 t2 t3 t4 (by decide +kernel) t5 dX5_number_13 dX5_number_16 dX5_number_17 dX5_number_19 dX5_number_22 (by decide) (Nat.le_of_ble_eq_true rfl) (by decide) t6 (⟨⟨rfl, hp⟩, rfl, rfl⟩)
set_option maxRecDepth 100000 in
set_option maxHeartbeats 4000000 in
theorem c_cell {l : Launch} {D : va_G} {ad : Nat → Nat → Nat} {aC : Nat → ClassId} (σ : gSig) (τ : gTau) (cl : Int32) (k : Nat) (hk : σ 1 16 3 = nI k) (hk2 : k ≤ 12) : CT l D ad aC yX5_cell cX5_cell 2 (some .int) 8 2 [.ref (ad 0 0), .int cl] σ τ (fun r σ' τ' => isC cl ∧ putB σ 16 k 13 = true ∧ gEq (some (.int ((putS σ 16 k 13 cl) 1 16 4))) (putS σ 16 k 13 cl) τ r σ' τ') (fun E σ' τ' => ((E = xIOB ∧ ¬ isC cl) ∨ (E = xISE ∧ isC cl ∧ putB σ 16 k 13 = false)) ∧ σ = σ' ∧ τ = τ') := by
  refine CT.of (own := RX5) (by decide +kernel) rfl (Nat.le_of_ble_eq_true rfl) (fun S C => ?_)
  refine r_iload_n C dX5_cell_0 rfl rfl ?_
  refine r_callSX C trivial dX5_cell_1 (c_needCell σ τ cl) rfl kB_X5_needCell rfl kS_X5_needCell kl_X5_59 (by decide) (Nat.le_of_ble_eq_true rfl) (by decide) ?_ ?_
  · rintro E σ' τ' ⟨rfl, rfl, rfl, hx⟩
    exact ⟨Or.inl ⟨rfl, hx⟩, rfl, rfl⟩
  rintro r9 σ' τ' ⟨⟨rfl, rfl, rfl⟩, hcell⟩
  refine r_aload_n C dX5_cell_4 rfl rfl ?_
  refine r_get (f := 0) C dX5_cell_5 ⟨by decide, by decide⟩ rfl rfl kU5 (by decide) kf_X5_10 rfl rfl ?_
  refine r_bipush (v := 13) C dX5_cell_8 rfl ?_
  refine r_iload_n C dX5_cell_10 rfl rfl ?_
  refine r_callV C dX5_cell_11 (c_put σ τ 16 k 13 cl (by decide) hk hk2) rfl ⟨by decide, by decide⟩ rfl rfl kB_X0_put rfl kI_X0_put kV_X0_put kl_X5_44 (by decide) (Nat.le_of_ble_eq_true rfl) (by decide) ?_
  rintro r9 σ' τ' ⟨rfl, rfl, rfl⟩
  refine r_ifne (tgt := 27) C dX5_cell_14 (by decide) (fun c14 => ?_) (fun c14 => ?_)
  · have hp := b2i_n.mp c14
    rw [if_pos hp]
    refine r_aload_n C dX5_cell_27 rfl rfl ?_
    refine r_get (f := 0) C dX5_cell_28 ⟨by decide, by decide⟩ rfl rfl kU5 (by decide) kf_X5_10 rfl rfl ?_
    refine r_get (f := 4) C dX5_cell_31 ⟨by decide, by decide⟩ rfl rfl kU0 (by decide) kf_X5_55 rfl rfl ?_
    exact r_iret C dX5_cell_34 rfl (by decide) ⟨hcell, hp, rfl, rfl, rfl⟩
  · have hp := b2i_0.mp c14
    rw [if_neg (by rw [hp]; decide)]
    obtain ⟨⟨t1, t2⟩, ⟨t3, t4⟩, t5, t6⟩ := kt_X5_48_52
    exact r_throw (is := 50) (text := "the draft has 12 parts") C trivial t1 t2 t3 t4 (by decide +kernel) t5 dX5_cell_17 dX5_cell_20 dX5_cell_21 dX5_cell_23 dX5_cell_26 (by decide) (Nat.le_of_ble_eq_true rfl) (by decide) t6 (⟨Or.inr ⟨rfl, hcell, hp⟩, rfl, rfl⟩)
set_option maxRecDepth 100000 in
set_option maxHeartbeats 4000000 in
theorem c_apply {l : Launch} {D : va_G} {ad : Nat → Nat → Nat} {aC : Nat → ClassId} (σ : gSig) (τ : gTau) (op : Int32) (k : Nat) (hk : σ 1 16 3 = nI k) (hk2 : k ≤ 12) : CT l D ad aC yX5_apply cX5_apply 2 (some .int) 7 1 [.ref (ad 0 0), .int op] σ τ (fun r σ' τ' => isO op ∧ putB σ 16 k op = true ∧ gEq (some (.int ((putS σ 16 k op 0) 1 16 4))) (putS σ 16 k op 0) τ r σ' τ') (fun E σ' τ' => ((E = xIAE ∧ ¬ isO op) ∨ (E = xISE ∧ isO op ∧ putB σ 16 k op = false)) ∧ σ = σ' ∧ τ = τ') := by
  refine CT.of (own := RX5) (by decide +kernel) rfl (Nat.le_of_ble_eq_true rfl) (fun S C => ?_)
  refine r_iload_n C dX5_apply_0 rfl rfl ?_
  refine r_iflt (tgt := 10) C dX5_apply_1 (by decide) (fun c1 => ?_) (fun c1 => ?_)
  · have hno : ¬ isO op := fun q => q.1 c1
    obtain ⟨⟨t1, t2⟩, ⟨t3, t4⟩, t5, t6⟩ := kt_X5_63_67
    exact r_throw (is := 65) (text := "no such operation") C trivial t1 t2 t3 t4 (by decide +kernel) t5 dX5_apply_10 dX5_apply_13 dX5_apply_14 dX5_apply_16 dX5_apply_19 (by decide) (Nat.le_of_ble_eq_true rfl) (by decide) t6 (⟨Or.inl ⟨rfl, hno⟩, rfl, rfl⟩)
  · refine r_iload_n C dX5_apply_4 rfl rfl ?_
    refine r_bipush (v := 12) C dX5_apply_5 rfl ?_
    refine r_icmplt (tgt := 20) C dX5_apply_7 (by decide) (fun c7 => ?_) (fun c7 => ?_)
    · have n7 := Int32.not_le.mpr c7
      have ho : isO op := ⟨c1, c7⟩
      refine r_aload_n C dX5_apply_20 rfl rfl ?_
      refine r_get (f := 0) C dX5_apply_21 ⟨by decide, by decide⟩ rfl rfl kU5 (by decide) kf_X5_10 rfl rfl ?_
      refine r_iload_n C dX5_apply_24 rfl rfl ?_
      refine r_iconst (v := 0) C dX5_apply_25 rfl ?_
      refine r_callV C dX5_apply_26 (c_put σ τ 16 k op 0 (by decide) hk hk2) rfl ⟨by decide, by decide⟩ rfl rfl kB_X0_put rfl kI_X0_put kV_X0_put kl_X5_44 (by decide) (Nat.le_of_ble_eq_true rfl) (by decide) ?_
      rintro r9 σ' τ' ⟨rfl, rfl, rfl⟩
      refine r_ifne (tgt := 42) C dX5_apply_29 (by decide) (fun c29 => ?_) (fun c29 => ?_)
      · have hp := b2i_n.mp c29
        rw [if_pos hp]
        refine r_aload_n C dX5_apply_42 rfl rfl ?_
        refine r_get (f := 0) C dX5_apply_43 ⟨by decide, by decide⟩ rfl rfl kU5 (by decide) kf_X5_10 rfl rfl ?_
        refine r_get (f := 4) C dX5_apply_46 ⟨by decide, by decide⟩ rfl rfl kU0 (by decide) kf_X5_55 rfl rfl ?_
        exact r_iret C dX5_apply_49 rfl (by decide) ⟨ho, hp, rfl, rfl, rfl⟩
      · have hp := b2i_0.mp c29
        rw [if_neg (by rw [hp]; decide)]
        obtain ⟨⟨t1, t2⟩, ⟨t3, t4⟩, t5, t6⟩ := kt_X5_48_52
        exact r_throw (is := 68) (text := "the draft has fewer than two formulas, or 12 parts") C trivial t1 t2 t3 t4 (by decide +kernel) t5 dX5_apply_32 dX5_apply_35 dX5_apply_36 dX5_apply_38 dX5_apply_41 (by decide) (Nat.le_of_ble_eq_true rfl) (by decide) t6 (⟨Or.inr ⟨rfl, ho, hp⟩, rfl, rfl⟩)
    · have n7 := Int32.not_lt.mp c7
      have hno : ¬ isO op := fun q => c7 q.2
      obtain ⟨⟨t1, t2⟩, ⟨t3, t4⟩, t5, t6⟩ := kt_X5_63_67
      exact r_throw (is := 65) (text := "no such operation") C trivial t1 t2 t3 t4 (by decide +kernel) t5 dX5_apply_10 dX5_apply_13 dX5_apply_14 dX5_apply_16 dX5_apply_19 (by decide) (Nat.le_of_ble_eq_true rfl) (by decide) t6 (⟨Or.inl ⟨rfl, hno⟩, rfl, rfl⟩)
def clS (σ : gSig) : gSig := up3 (up3 σ 1 16 3 0) 1 16 4 0
set_option maxRecDepth 100000 in
set_option maxHeartbeats 4000000 in
theorem c_wipe {l : Launch} {D : va_G} {ad : Nat → Nat → Nat} {aC : Nat → ClassId} (σ : gSig) (τ : gTau)  : CZ l D ad aC yX5_wipe cX5_wipe 2 (some .int) 1 [.ref (ad 0 0)] σ τ (gEq (some (.int (σ 1 16 3))) (clS σ) τ) := by
  refine CZ.of (own := RX5) (by decide +kernel) rfl (Nat.le_of_ble_eq_true rfl) (fun S C => ?_)
  refine r_aload_n C dX5_wipe_0 rfl rfl ?_
  refine r_get (f := 0) C dX5_wipe_1 ⟨by decide, by decide⟩ rfl rfl kU5 (by decide) kf_X5_10 rfl rfl ?_
  refine r_get (f := 3) C dX5_wipe_4 ⟨by decide, by decide⟩ rfl rfl kU0 (by decide) kf_X5_70 rfl rfl ?_
  refine r_istore_n C dX5_wipe_7 rfl (by decide) rfl ?_
  refine r_aload_n C dX5_wipe_8 rfl rfl ?_
  refine r_get (f := 0) C dX5_wipe_9 ⟨by decide, by decide⟩ rfl rfl kU5 (by decide) kf_X5_10 rfl rfl ?_
  refine r_callV C dX5_wipe_12 (c_clear σ τ 16 (by decide)) rfl ⟨by decide, by decide⟩ rfl rfl kB_X0_clear rfl kI_X0_clear kV_X0_clear kl_X5_73 (by decide) (Nat.le_of_ble_eq_true rfl) (by decide) ?_
  rintro r9 σ' τ' ⟨rfl, rfl, rfl⟩
  refine r_iload_n C dX5_wipe_15 rfl rfl ?_
  exact r_iret C dX5_wipe_16 rfl (by decide) ⟨rfl, rfl, rfl⟩
set_option maxRecDepth 100000 in
set_option maxHeartbeats 4000000 in
theorem c_drafted {l : Launch} {D : va_G} {ad : Nat → Nat → Nat} {aC : Nat → ClassId} (σ : gSig) (τ : gTau)  : CZ l D ad aC yX5_drafted cX5_drafted 1 (some .int) 0 [.ref (ad 0 0)] σ τ (gEq (some (.int (σ 1 16 3))) σ τ) := by
  refine CZ.of (own := RX5) (by decide +kernel) rfl (Nat.le_of_ble_eq_true rfl) (fun S C => ?_)
  refine r_aload_n C dX5_drafted_0 rfl rfl ?_
  refine r_get (f := 0) C dX5_drafted_1 ⟨by decide, by decide⟩ rfl rfl kU5 (by decide) kf_X5_10 rfl rfl ?_
  refine r_get (f := 3) C dX5_drafted_4 ⟨by decide, by decide⟩ rfl rfl kU0 (by decide) kf_X5_70 rfl rfl ?_
  exact r_iret C dX5_drafted_7 rfl (by decide) ⟨rfl, rfl, rfl⟩
set_option maxRecDepth 100000 in
set_option maxHeartbeats 4000000 in
theorem c_set {l : Launch} {D : va_G} {ad : Nat → Nat → Nat} {aC : Nat → ClassId} (σ : gSig) (τ : gTau) (cl v : Int32) : CT l D ad aC yX5_set cX5_set 4 (some .int) 8 2 [.ref (ad 0 0), .int cl, .int v] σ τ (fun r σ' τ' => ∃ c, c < 16 ∧ cl = nI c ∧ bt (σ 5 0 8) c = true ∧ (σ 7 0 c ≤ v ∧ v ≤ σ 7 1 c) ∧ gEq (some (.int (σ 7 2 c))) (up3 σ 7 2 c v) τ r σ' τ') (fun E σ' τ' => ((E = xIOB ∧ ¬ isC cl) ∨ (E = xISE ∧ ∃ c, c < 16 ∧ cl = nI c ∧ bt (σ 5 0 8) c = false) ∨ (E = xIAE ∧ ∃ c, c < 16 ∧ cl = nI c ∧ bt (σ 5 0 8) c = true ∧ ¬ (σ 7 0 c ≤ v ∧ v ≤ σ 7 1 c))) ∧ σ = σ' ∧ τ = τ') := by
  refine CT.of (own := RX5) (by decide +kernel) rfl (Nat.le_of_ble_eq_true rfl) (fun S C => ?_)
  refine r_iload_n C dX5_set_0 rfl rfl ?_
  refine r_callSX C trivial dX5_set_1 (c_needCell σ τ cl) rfl kB_X5_needCell rfl kS_X5_needCell kl_X5_59 (by decide) (Nat.le_of_ble_eq_true rfl) (by decide) ?_ ?_
  · rintro E σ' τ' ⟨rfl, rfl, rfl, hx⟩
    exact ⟨Or.inl ⟨rfl, hx⟩, rfl, rfl⟩
  rintro r9 σ' τ' ⟨⟨rfl, rfl, rfl⟩, hcell⟩
  obtain ⟨c, hc, rfl⟩ := isC_nI hcell
  refine r_aload_n C dX5_set_4 rfl rfl ?_
  refine r_get (f := 1) C dX5_set_5 ⟨by decide, by decide⟩ rfl rfl kU5 (by decide) kf_X5_19 rfl rfl ?_
  refine r_iload_n C dX5_set_8 rfl rfl ?_
  refine r_callV C dX5_set_9 (c_isInput σ τ (nI c)) rfl ⟨by decide, by decide⟩ rfl rfl kB_X3_isInput rfl kI_X3_isInput kV_X3_isInput kl_X5_100 (by decide) (Nat.le_of_ble_eq_true rfl) (by decide) ?_
  rintro r9 σ' τ' ⟨rfl, rfl, rfl⟩
  rw [hasB_bt hc]
  refine r_ifne (tgt := 25) C dX5_set_12 (by decide) (fun c12 => ?_) (fun c12 => ?_)
  · have hin := b2i_n.mp c12
    refine r_iload_n C dX5_set_25 rfl rfl ?_
    refine r_aload_n C dX5_set_26 rfl rfl ?_
    refine r_get (f := 1) C dX5_set_27 ⟨by decide, by decide⟩ rfl rfl kU5 (by decide) kf_X5_19 rfl rfl ?_
    refine r_get (f := 1) C dX5_set_30 ⟨by decide, by decide⟩ rfl rfl kU3 (by decide) kf_X5_106 rfl rfl ?_
    refine r_iload_n C dX5_set_33 rfl rfl ?_
    refine r_ialdv (v := σ 7 0 c) C dX5_set_34 ⟨by decide, by decide⟩ rfl (vp_in_nI hc (by decide)) (by rw [nI_clamp (by omega)]) ?_
    refine r_icmplt (tgt := 51) C dX5_set_35 (by decide) (fun c35 => ?_) (fun c35 => ?_)
    · have n35 := Int32.not_le.mpr c35
      have hno : ¬ (σ 7 0 c ≤ v ∧ v ≤ σ 7 1 c) := fun q => n35 q.1
      obtain ⟨⟨t1, t2⟩, ⟨t3, t4⟩, t5, t6⟩ := kt_X5_63_67
      exact r_throw (is := 113) (text := "value is not in the cell's range") C trivial t1 t2 t3 t4 (by decide +kernel) t5 dX5_set_51 dX5_set_54 dX5_set_55 dX5_set_57 dX5_set_60 (by decide) (Nat.le_of_ble_eq_true rfl) (by decide) t6 (⟨Or.inr (Or.inr ⟨rfl, c, hc, rfl, hin, hno⟩), rfl, rfl⟩)
    · have n35 := Int32.not_lt.mp c35
      refine r_iload_n C dX5_set_38 rfl rfl ?_
      refine r_aload_n C dX5_set_39 rfl rfl ?_
      refine r_get (f := 1) C dX5_set_40 ⟨by decide, by decide⟩ rfl rfl kU5 (by decide) kf_X5_19 rfl rfl ?_
      refine r_get (f := 2) C dX5_set_43 ⟨by decide, by decide⟩ rfl rfl kU3 (by decide) kf_X5_110 rfl rfl ?_
      refine r_iload_n C dX5_set_46 rfl rfl ?_
      refine r_ialdv (v := σ 7 1 c) C dX5_set_47 ⟨by decide, by decide⟩ rfl (vp_in_nI hc (by decide)) (by rw [nI_clamp (by omega)]) ?_
      refine r_icmple (tgt := 61) C dX5_set_48 (by decide) (fun c48 => ?_) (fun c48 => ?_)
      · have n48 := Int32.not_lt.mpr c48
        have hyes : σ 7 0 c ≤ v ∧ v ≤ σ 7 1 c := ⟨n35, c48⟩
        refine r_aload_n C dX5_set_61 rfl rfl ?_
        refine r_get (f := 1) C dX5_set_62 ⟨by decide, by decide⟩ rfl rfl kU5 (by decide) kf_X5_19 rfl rfl ?_
        refine r_get (f := 3) C dX5_set_65 ⟨by decide, by decide⟩ rfl rfl kU3 (by decide) kf_X5_115 rfl rfl ?_
        refine r_iload_n C dX5_set_68 rfl rfl ?_
        refine r_ialdv (v := σ 7 2 c) C dX5_set_69 ⟨by decide, by decide⟩ rfl (vp_in_nI hc (by decide)) (by rw [nI_clamp (by omega)]) ?_
        refine r_istore_n C dX5_set_70 rfl (by decide) rfl ?_
        refine r_aload_n C dX5_set_71 rfl rfl ?_
        refine r_get (f := 1) C dX5_set_72 ⟨by decide, by decide⟩ rfl rfl kU5 (by decide) kf_X5_19 rfl rfl ?_
        refine r_get (f := 3) C dX5_set_75 ⟨by decide, by decide⟩ rfl rfl kU3 (by decide) kf_X5_115 rfl rfl ?_
        refine r_iload_n C dX5_set_78 rfl rfl ?_
        refine r_iload_n C dX5_set_79 rfl rfl ?_
        refine r_iastv C dX5_set_80 ⟨by decide, by decide⟩ (fun _ => rfl) (vp_in_nI hc (by decide)) (nI_clamp (by omega)) ?_
        refine r_iload_n C dX5_set_81 rfl rfl ?_
        exact r_iret C dX5_set_82 rfl (by decide) ⟨c, hc, rfl, hin, hyes, rfl, rfl, rfl⟩
      · have n48 := Int32.not_le.mp c48
        have hno : ¬ (σ 7 0 c ≤ v ∧ v ≤ σ 7 1 c) := fun q => c48 q.2
        obtain ⟨⟨t1, t2⟩, ⟨t3, t4⟩, t5, t6⟩ := kt_X5_63_67
        exact r_throw (is := 113) (text := "value is not in the cell's range") C trivial t1 t2 t3 t4 (by decide +kernel) t5 dX5_set_51 dX5_set_54 dX5_set_55 dX5_set_57 dX5_set_60 (by decide) (Nat.le_of_ble_eq_true rfl) (by decide) t6 (⟨Or.inr (Or.inr ⟨rfl, c, hc, rfl, hin, hno⟩), rfl, rfl⟩)
  · have hin := b2i_0.mp c12
    obtain ⟨⟨t1, t2⟩, ⟨t3, t4⟩, t5, t6⟩ := kt_X5_48_52
    exact r_throw (is := 104) (text := "the cell has a formula") C trivial t1 t2 t3 t4 (by decide +kernel) t5 dX5_set_15 dX5_set_18 dX5_set_19 dX5_set_21 dX5_set_24 (by decide) (Nat.le_of_ble_eq_true rfl) (by decide) t6 (⟨Or.inr (Or.inl ⟨rfl, c, hc, rfl, hin⟩), rfl, rfl⟩)
set_option maxRecDepth 100000 in
set_option maxHeartbeats 4000000 in
theorem c_drop {l : Launch} {D : va_G} {ad : Nat → Nat → Nat} {aC : Nat → ClassId} (σ : gSig) (τ : gTau) (cl : Int32) : CT l D ad aC yX5_drop cX5_drop 3 (some .int) 8 1 [.ref (ad 0 0), .int cl] σ τ (fun r σ' τ' => ∃ c, c < 16 ∧ cl = nI c ∧ gEq (some (.int (σ 10 c 2))) (up3 σ 10 c 2 0) τ r σ' τ') (fun E σ' τ' => (E = xIOB ∧ ¬ isC cl) ∧ σ = σ' ∧ τ = τ') := by
  refine CT.of (own := RX5) (by decide +kernel) rfl (Nat.le_of_ble_eq_true rfl) (fun S C => ?_)
  refine r_iload_n C dX5_drop_0 rfl rfl ?_
  refine r_callSX C trivial dX5_drop_1 (c_needCell σ τ cl) rfl kB_X5_needCell rfl kS_X5_needCell kl_X5_59 (by decide) (Nat.le_of_ble_eq_true rfl) (by decide) ?_ ?_
  · rintro E σ' τ' ⟨rfl, rfl, rfl, hx⟩
    exact ⟨⟨rfl, hx⟩, rfl, rfl⟩
  rintro r9 σ' τ' ⟨⟨rfl, rfl, rfl⟩, hcell⟩
  obtain ⟨c, hc, rfl⟩ := isC_nI hcell
  refine r_aload_n C dX5_drop_4 rfl rfl ?_
  refine r_get (f := 2) C dX5_drop_5 ⟨by decide, by decide⟩ rfl rfl kU5 (by decide) kf_X5_25 rfl rfl ?_
  refine r_iload_n C dX5_drop_8 rfl rfl ?_
  refine r_aaldv (t0 := 4) C dX5_drop_9 ⟨by decide, by decide⟩ rfl rfl (vp_in_nI hc (by decide)) (nI_clamp (by omega)) ?_
  refine r_get (f := 2) C dX5_drop_10 ⟨by decide, hc⟩ rfl rfl kU2 (by decide) kf_X5_128 rfl rfl ?_
  refine r_istore_n C dX5_drop_13 rfl (by decide) rfl ?_
  refine r_aload_n C dX5_drop_14 rfl rfl ?_
  refine r_get (f := 2) C dX5_drop_15 ⟨by decide, by decide⟩ rfl rfl kU5 (by decide) kf_X5_25 rfl rfl ?_
  refine r_iload_n C dX5_drop_18 rfl rfl ?_
  refine r_aaldv (t0 := 4) C dX5_drop_19 ⟨by decide, by decide⟩ rfl rfl (vp_in_nI hc (by decide)) (nI_clamp (by omega)) ?_
  refine r_iconst (v := 0) C dX5_drop_20 rfl ?_
  refine r_put (f := 2) C dX5_drop_21 ⟨by decide, hc⟩ rfl rfl kU2 tyX2 tyX2_ok nmX2 (by decide) kf_X5_128 rfl rfl (by decide +kernel) (Nat.le_of_ble_eq_true rfl) (by simp [cel, up3]) ?_
  refine r_iload_n C dX5_drop_24 rfl rfl ?_
  exact r_iret C dX5_drop_25 rfl (by decide) ⟨c, hc, rfl, rfl, rfl, rfl⟩
set_option maxRecDepth 100000 in
set_option maxHeartbeats 4000000 in
theorem c_own {l : Launch} {D : va_G} {ad : Nat → Nat → Nat} {aC : Nat → ClassId} (σ : gSig) (τ : gTau) (cl ow : Int32) : CT l D ad aC yX5_own cX5_own 4 (some .int) 8 2 [.ref (ad 0 0), .int cl, .int ow] σ τ (fun r σ' τ' => ∃ c, c < 16 ∧ cl = nI c ∧ (¬ ow < 0 ∧ ow < 6) ∧ gEq (some (.int (σ 18 0 c))) (up3 σ 18 0 c ow) τ r σ' τ') (fun E σ' τ' => ((E = xIOB ∧ ¬ isC cl) ∨ (E = xIAE ∧ ∃ c, c < 16 ∧ cl = nI c ∧ ¬ (¬ ow < 0 ∧ ow < 6))) ∧ σ = σ' ∧ τ = τ') := by
  refine CT.of (own := RX5) (by decide +kernel) rfl (Nat.le_of_ble_eq_true rfl) (fun S C => ?_)
  refine r_iload_n C dX5_own_0 rfl rfl ?_
  refine r_callSX C trivial dX5_own_1 (c_needCell σ τ cl) rfl kB_X5_needCell rfl kS_X5_needCell kl_X5_59 (by decide) (Nat.le_of_ble_eq_true rfl) (by decide) ?_ ?_
  · rintro E σ' τ' ⟨rfl, rfl, rfl, hx⟩
    exact ⟨Or.inl ⟨rfl, hx⟩, rfl, rfl⟩
  rintro r9 σ' τ' ⟨⟨rfl, rfl, rfl⟩, hcell⟩
  obtain ⟨c, hc, rfl⟩ := isC_nI hcell
  refine r_iload_n C dX5_own_4 rfl rfl ?_
  refine r_iflt (tgt := 14) C dX5_own_5 (by decide) (fun c5 => ?_) (fun c5 => ?_)
  · have hno : ¬ (¬ ow < 0 ∧ ow < 6) := fun q => q.1 c5
    obtain ⟨⟨t1, t2⟩, ⟨t3, t4⟩, t5, t6⟩ := kt_X5_63_67
    exact r_throw (is := 131) (text := "no such owner") C trivial t1 t2 t3 t4 (by decide +kernel) t5 dX5_own_14 dX5_own_17 dX5_own_18 dX5_own_20 dX5_own_23 (by decide) (Nat.le_of_ble_eq_true rfl) (by decide) t6 (⟨Or.inr ⟨rfl, c, hc, rfl, hno⟩, rfl, rfl⟩)
  · refine r_iload_n C dX5_own_8 rfl rfl ?_
    refine r_bipush (v := 6) C dX5_own_9 rfl ?_
    refine r_icmplt (tgt := 24) C dX5_own_11 (by decide) (fun c11 => ?_) (fun c11 => ?_)
    · have n11 := Int32.not_le.mpr c11
      have hyes : ¬ ow < 0 ∧ ow < 6 := ⟨c5, c11⟩
      refine r_aload_n C dX5_own_24 rfl rfl ?_
      refine r_get (f := 4) C dX5_own_25 ⟨by decide, by decide⟩ rfl rfl kU5 (by decide) kf_X5_40 rfl rfl ?_
      refine r_get (f := 0) C dX5_own_28 ⟨by decide, by decide⟩ rfl rfl kU1 (by decide) kf_X5_133 rfl rfl ?_
      refine r_iload_n C dX5_own_31 rfl rfl ?_
      refine r_ialdv (v := σ 18 0 c) C dX5_own_32 ⟨by decide, by decide⟩ rfl (vp_in_nI hc (by decide)) (by rw [nI_clamp (by omega)]) ?_
      refine r_istore_n C dX5_own_33 rfl (by decide) rfl ?_
      refine r_aload_n C dX5_own_34 rfl rfl ?_
      refine r_get (f := 4) C dX5_own_35 ⟨by decide, by decide⟩ rfl rfl kU5 (by decide) kf_X5_40 rfl rfl ?_
      refine r_get (f := 0) C dX5_own_38 ⟨by decide, by decide⟩ rfl rfl kU1 (by decide) kf_X5_133 rfl rfl ?_
      refine r_iload_n C dX5_own_41 rfl rfl ?_
      refine r_iload_n C dX5_own_42 rfl rfl ?_
      refine r_iastv C dX5_own_43 ⟨by decide, by decide⟩ (fun _ => rfl) (vp_in_nI hc (by decide)) (nI_clamp (by omega)) ?_
      refine r_iload_n C dX5_own_44 rfl rfl ?_
      exact r_iret C dX5_own_45 rfl (by decide) ⟨c, hc, rfl, hyes, rfl, rfl, rfl⟩
    · have n11 := Int32.not_lt.mp c11
      have hno : ¬ (¬ ow < 0 ∧ ow < 6) := fun q => c11 q.2
      obtain ⟨⟨t1, t2⟩, ⟨t3, t4⟩, t5, t6⟩ := kt_X5_63_67
      exact r_throw (is := 131) (text := "no such owner") C trivial t1 t2 t3 t4 (by decide +kernel) t5 dX5_own_14 dX5_own_17 dX5_own_18 dX5_own_20 dX5_own_23 (by decide) (Nat.le_of_ble_eq_true rfl) (by decide) t6 (⟨Or.inr ⟨rfl, c, hc, rfl, hno⟩, rfl, rfl⟩)
def teS (σ : gSig) (c q : Nat) (kd nn : Int32) : gSig := up3 (addS σ c q kd nn) 13 0 5 (σ 13 0 5 &&& (b1 c ^^^ (-1)))
set_option maxRecDepth 100000 in
set_option maxHeartbeats 4000000 in
theorem c_tell {l : Launch} {D : va_G} {ad : Nat → Nat → Nat} {aC : Nat → ClassId} (σ : gSig) (τ : gTau) (cl kd nn : Int32) (hpl : ∀ c, c < 16 → ∃ q, σ 10 c 2 = nI q ∧ q ≤ 4) : CT l D ad aC yX5_tell cX5_tell 4 (some .int) 8 3 [.ref (ad 0 0), .int cl, .int kd, .int nn] σ τ (fun r σ' τ' => ∃ c, c < 16 ∧ cl = nI c ∧ (kd = 2 ∨ kd = 3 → isC nn) ∧ (¬ kd < 0 ∧ kd ≤ 3) ∧ ∃ q, σ 10 c 2 = nI q ∧ q < 4 ∧ gEq (some (.int (nI (q + 1)))) (teS σ c q kd nn) τ r σ' τ') (fun E σ' τ' => ((E = xIOB ∧ (¬ isC cl ∨ (kd = 2 ∨ kd = 3) ∧ ¬ isC nn)) ∨ (E = xIAE ∧ ∃ c, c < 16 ∧ cl = nI c ∧ (kd = 2 ∨ kd = 3 → isC nn) ∧ ¬ (¬ kd < 0 ∧ kd ≤ 3)) ∨ (E = xISE ∧ ∃ c, c < 16 ∧ cl = nI c ∧ (kd = 2 ∨ kd = 3 → isC nn) ∧ (¬ kd < 0 ∧ kd ≤ 3) ∧ ∃ q, σ 10 c 2 = nI q ∧ q = 4)) ∧ σ = σ' ∧ τ = τ') := by
  refine CT.of (own := RX5) (by decide +kernel) rfl (Nat.le_of_ble_eq_true rfl) (fun S C => ?_)
  refine r_iload_n C dX5_tell_0 rfl rfl ?_
  refine r_callSX C trivial dX5_tell_1 (c_needCell σ τ cl) rfl kB_X5_needCell rfl kS_X5_needCell kl_X5_59 (by decide) (Nat.le_of_ble_eq_true rfl) (by decide) ?_ ?_
  · rintro E σ' τ' ⟨rfl, rfl, rfl, hx⟩
    exact ⟨Or.inl ⟨rfl, Or.inl hx⟩, rfl, rfl⟩
  rintro r9 σ' τ' ⟨⟨rfl, rfl, rfl⟩, hcell⟩
  obtain ⟨c, hc, rfl⟩ := isC_nI hcell
  refine r_iload_n C dX5_tell_4 rfl rfl ?_
  refine r_iconst (v := 2) C dX5_tell_5 rfl ?_
  refine r_icmpeq (tgt := 14) C dX5_tell_6 (by decide) (fun c6 => ?_) (fun c6 => ?_)
  · have hk23 : kd = 2 ∨ kd = 3 := Or.inl c6
    refine r_iload_n C dX5_tell_14 rfl rfl ?_
    refine r_callSX C trivial dX5_tell_15 (c_needCell σ τ nn) rfl kB_X5_needCell rfl kS_X5_needCell kl_X5_59 (by decide) (Nat.le_of_ble_eq_true rfl) (by decide) ?_ ?_
    · rintro E σ' τ' ⟨rfl, rfl, rfl, hx⟩
      exact ⟨Or.inl ⟨rfl, Or.inr ⟨hk23, hx⟩⟩, rfl, rfl⟩
    rintro r9 σ' τ' ⟨⟨rfl, rfl, rfl⟩, hcellN⟩
    have hnn : kd = 2 ∨ kd = 3 → isC nn := fun _ => hcellN
    refine r_iload_n C dX5_tell_18 rfl rfl ?_
    refine r_iflt (tgt := 27) C dX5_tell_19 (by decide) (fun c19 => ?_) (fun c19 => ?_)
    · have hno : ¬ (¬ kd < 0 ∧ kd ≤ 3) := fun q => q.1 c19
      obtain ⟨⟨t1, t2⟩, ⟨t3, t4⟩, t5, t6⟩ := kt_X5_63_67
      exact r_throw (is := 118) (text := "no such kind") C trivial t1 t2 t3 t4 (by decide +kernel) t5 dX5_tell_27 dX5_tell_30 dX5_tell_31 dX5_tell_33 dX5_tell_36 (by decide) (Nat.le_of_ble_eq_true rfl) (by decide) t6 (⟨Or.inr (Or.inl ⟨rfl, c, hc, rfl, hnn, hno⟩), rfl, rfl⟩)
    · refine r_iload_n C dX5_tell_22 rfl rfl ?_
      refine r_iconst (v := 3) C dX5_tell_23 rfl ?_
      refine r_icmple (tgt := 37) C dX5_tell_24 (by decide) (fun c24 => ?_) (fun c24 => ?_)
      · have n24 := Int32.not_lt.mpr c24
        have hyes : ¬ kd < 0 ∧ kd ≤ 3 := ⟨c19, c24⟩
        obtain ⟨q, hq, hq4⟩ := hpl c hc
        refine r_aload_n C dX5_tell_37 rfl rfl ?_
        refine r_get (f := 2) C dX5_tell_38 ⟨by decide, by decide⟩ rfl rfl kU5 (by decide) kf_X5_25 rfl rfl ?_
        refine r_iload_n C dX5_tell_41 rfl rfl ?_
        refine r_aaldv (t0 := 4) C dX5_tell_42 ⟨by decide, by decide⟩ rfl rfl (vp_in_nI hc (by decide)) (nI_clamp (by omega)) ?_
        refine r_iload_n C dX5_tell_43 rfl rfl ?_
        refine r_iload_n C dX5_tell_44 rfl rfl ?_
        refine r_callV C dX5_tell_45 (c_add σ τ c q kd nn hc hq hq4) rfl ⟨by decide, hc⟩ rfl rfl kB_X2_add rfl kI_X2_add kV_X2_add kl_X5_120 (by decide) (Nat.le_of_ble_eq_true rfl) (by decide) ?_
        rintro r9 σ' τ' ⟨rfl, rfl, rfl⟩
        refine r_ifne (tgt := 61) C dX5_tell_48 (by decide) (fun c48 => ?_) (fun c48 => ?_)
        · have hq5 : q < 4 := of_decide_eq_true (b2i_n.mp c48)
          rw [if_pos hq5]
          refine r_aload_n C dX5_tell_61 rfl rfl ?_
          refine r_get (f := 3) C dX5_tell_62 ⟨by decide, by decide⟩ rfl rfl kU5 (by decide) kf_X5_33 rfl rfl ?_
          refine r_iconst (v := 1) C dX5_tell_65 rfl ?_
          refine r_iload_n C dX5_tell_66 rfl rfl ?_
          refine r_ishl C dX5_tell_67 ?_
          refine r_callV C dX5_tell_68 (c_untry (addS σ c q kd nn) τ (b1 c)) rfl ⟨by decide, by decide⟩ rfl rfl kB_X4_untry rfl kI_X4_untry kV_X4_untry kl_X5_125 (by decide) (Nat.le_of_ble_eq_true rfl) (by decide) ?_
          rintro r9 σ' τ' ⟨rfl, rfl, rfl⟩
          refine r_pop C dX5_tell_71 rfl ?_
          refine r_aload_n C dX5_tell_72 rfl rfl ?_
          refine r_get (f := 2) C dX5_tell_73 ⟨by decide, by decide⟩ rfl rfl kU5 (by decide) kf_X5_25 rfl rfl ?_
          refine r_iload_n C dX5_tell_76 rfl rfl ?_
          refine r_aaldv (t0 := 4) C dX5_tell_77 ⟨by decide, by decide⟩ rfl rfl (vp_in_nI hc (by decide)) (nI_clamp (by omega)) ?_
          refine r_get (f := 2) (v := .int (nI (q + 1))) C dX5_tell_78 ⟨by decide, hc⟩ rfl rfl kU2 (by decide) kf_X5_128 rfl (by simp [addS, up3_at]) ?_
          exact r_iret C dX5_tell_81 rfl (by decide) ⟨c, hc, rfl, hnn, hyes, q, hq, hq5, rfl, rfl, rfl⟩
        · have hq5 : ¬ q < 4 := of_decide_eq_false (b2i_0.mp c48)
          rw [if_neg hq5]
          obtain ⟨⟨t1, t2⟩, ⟨t3, t4⟩, t5, t6⟩ := kt_X5_48_52
          exact r_throw (is := 123) (text := "the cell has 4 properties") C trivial t1 t2 t3 t4 (by decide +kernel) t5 dX5_tell_51 dX5_tell_54 dX5_tell_55 dX5_tell_57 dX5_tell_60 (by decide) (Nat.le_of_ble_eq_true rfl) (by decide) t6 (⟨Or.inr (Or.inr ⟨rfl, c, hc, rfl, hnn, hyes, q, hq, by omega⟩), rfl, rfl⟩)
      · have n24 := Int32.not_le.mp c24
        have hno : ¬ (¬ kd < 0 ∧ kd ≤ 3) := fun q => c24 q.2
        obtain ⟨⟨t1, t2⟩, ⟨t3, t4⟩, t5, t6⟩ := kt_X5_63_67
        exact r_throw (is := 118) (text := "no such kind") C trivial t1 t2 t3 t4 (by decide +kernel) t5 dX5_tell_27 dX5_tell_30 dX5_tell_31 dX5_tell_33 dX5_tell_36 (by decide) (Nat.le_of_ble_eq_true rfl) (by decide) t6 (⟨Or.inr (Or.inl ⟨rfl, c, hc, rfl, hnn, hno⟩), rfl, rfl⟩)
  · refine r_iload_n C dX5_tell_9 rfl rfl ?_
    refine r_iconst (v := 3) C dX5_tell_10 rfl ?_
    refine r_icmpne (tgt := 18) C dX5_tell_11 (by decide) (fun c11 => ?_) (fun c11 => ?_)
    · have hnn : kd = 2 ∨ kd = 3 → isC nn := fun q => q.elim (fun z => absurd z c6) (fun z => absurd z c11)
      refine r_iload_n C dX5_tell_18 rfl rfl ?_
      refine r_iflt (tgt := 27) C dX5_tell_19 (by decide) (fun c19 => ?_) (fun c19 => ?_)
      · have hno : ¬ (¬ kd < 0 ∧ kd ≤ 3) := fun q => q.1 c19
        obtain ⟨⟨t1, t2⟩, ⟨t3, t4⟩, t5, t6⟩ := kt_X5_63_67
        exact r_throw (is := 118) (text := "no such kind") C trivial t1 t2 t3 t4 (by decide +kernel) t5 dX5_tell_27 dX5_tell_30 dX5_tell_31 dX5_tell_33 dX5_tell_36 (by decide) (Nat.le_of_ble_eq_true rfl) (by decide) t6 (⟨Or.inr (Or.inl ⟨rfl, c, hc, rfl, hnn, hno⟩), rfl, rfl⟩)
      · refine r_iload_n C dX5_tell_22 rfl rfl ?_
        refine r_iconst (v := 3) C dX5_tell_23 rfl ?_
        refine r_icmple (tgt := 37) C dX5_tell_24 (by decide) (fun c24 => ?_) (fun c24 => ?_)
        · have n24 := Int32.not_lt.mpr c24
          have hyes : ¬ kd < 0 ∧ kd ≤ 3 := ⟨c19, c24⟩
          obtain ⟨q, hq, hq4⟩ := hpl c hc
          refine r_aload_n C dX5_tell_37 rfl rfl ?_
          refine r_get (f := 2) C dX5_tell_38 ⟨by decide, by decide⟩ rfl rfl kU5 (by decide) kf_X5_25 rfl rfl ?_
          refine r_iload_n C dX5_tell_41 rfl rfl ?_
          refine r_aaldv (t0 := 4) C dX5_tell_42 ⟨by decide, by decide⟩ rfl rfl (vp_in_nI hc (by decide)) (nI_clamp (by omega)) ?_
          refine r_iload_n C dX5_tell_43 rfl rfl ?_
          refine r_iload_n C dX5_tell_44 rfl rfl ?_
          refine r_callV C dX5_tell_45 (c_add σ τ c q kd nn hc hq hq4) rfl ⟨by decide, hc⟩ rfl rfl kB_X2_add rfl kI_X2_add kV_X2_add kl_X5_120 (by decide) (Nat.le_of_ble_eq_true rfl) (by decide) ?_
          rintro r9 σ' τ' ⟨rfl, rfl, rfl⟩
          refine r_ifne (tgt := 61) C dX5_tell_48 (by decide) (fun c48 => ?_) (fun c48 => ?_)
          · have hq5 : q < 4 := of_decide_eq_true (b2i_n.mp c48)
            rw [if_pos hq5]
            refine r_aload_n C dX5_tell_61 rfl rfl ?_
            refine r_get (f := 3) C dX5_tell_62 ⟨by decide, by decide⟩ rfl rfl kU5 (by decide) kf_X5_33 rfl rfl ?_
            refine r_iconst (v := 1) C dX5_tell_65 rfl ?_
            refine r_iload_n C dX5_tell_66 rfl rfl ?_
            refine r_ishl C dX5_tell_67 ?_
            refine r_callV C dX5_tell_68 (c_untry (addS σ c q kd nn) τ (b1 c)) rfl ⟨by decide, by decide⟩ rfl rfl kB_X4_untry rfl kI_X4_untry kV_X4_untry kl_X5_125 (by decide) (Nat.le_of_ble_eq_true rfl) (by decide) ?_
            rintro r9 σ' τ' ⟨rfl, rfl, rfl⟩
            refine r_pop C dX5_tell_71 rfl ?_
            refine r_aload_n C dX5_tell_72 rfl rfl ?_
            refine r_get (f := 2) C dX5_tell_73 ⟨by decide, by decide⟩ rfl rfl kU5 (by decide) kf_X5_25 rfl rfl ?_
            refine r_iload_n C dX5_tell_76 rfl rfl ?_
            refine r_aaldv (t0 := 4) C dX5_tell_77 ⟨by decide, by decide⟩ rfl rfl (vp_in_nI hc (by decide)) (nI_clamp (by omega)) ?_
            refine r_get (f := 2) (v := .int (nI (q + 1))) C dX5_tell_78 ⟨by decide, hc⟩ rfl rfl kU2 (by decide) kf_X5_128 rfl (by simp [addS, up3_at]) ?_
            exact r_iret C dX5_tell_81 rfl (by decide) ⟨c, hc, rfl, hnn, hyes, q, hq, hq5, rfl, rfl, rfl⟩
          · have hq5 : ¬ q < 4 := of_decide_eq_false (b2i_0.mp c48)
            rw [if_neg hq5]
            obtain ⟨⟨t1, t2⟩, ⟨t3, t4⟩, t5, t6⟩ := kt_X5_48_52
            exact r_throw (is := 123) (text := "the cell has 4 properties") C trivial t1 t2 t3 t4 (by decide +kernel) t5 dX5_tell_51 dX5_tell_54 dX5_tell_55 dX5_tell_57 dX5_tell_60 (by decide) (Nat.le_of_ble_eq_true rfl) (by decide) t6 (⟨Or.inr (Or.inr ⟨rfl, c, hc, rfl, hnn, hyes, q, hq, by omega⟩), rfl, rfl⟩)
        · have n24 := Int32.not_le.mp c24
          have hno : ¬ (¬ kd < 0 ∧ kd ≤ 3) := fun q => c24 q.2
          obtain ⟨⟨t1, t2⟩, ⟨t3, t4⟩, t5, t6⟩ := kt_X5_63_67
          exact r_throw (is := 118) (text := "no such kind") C trivial t1 t2 t3 t4 (by decide +kernel) t5 dX5_tell_27 dX5_tell_30 dX5_tell_31 dX5_tell_33 dX5_tell_36 (by decide) (Nat.le_of_ble_eq_true rfl) (by decide) t6 (⟨Or.inr (Or.inl ⟨rfl, c, hc, rfl, hnn, hno⟩), rfl, rfl⟩)
    · have hk23 : kd = 2 ∨ kd = 3 := Or.inr c11
      refine r_iload_n C dX5_tell_14 rfl rfl ?_
      refine r_callSX C trivial dX5_tell_15 (c_needCell σ τ nn) rfl kB_X5_needCell rfl kS_X5_needCell kl_X5_59 (by decide) (Nat.le_of_ble_eq_true rfl) (by decide) ?_ ?_
      · rintro E σ' τ' ⟨rfl, rfl, rfl, hx⟩
        exact ⟨Or.inl ⟨rfl, Or.inr ⟨hk23, hx⟩⟩, rfl, rfl⟩
      rintro r9 σ' τ' ⟨⟨rfl, rfl, rfl⟩, hcellN⟩
      have hnn : kd = 2 ∨ kd = 3 → isC nn := fun _ => hcellN
      refine r_iload_n C dX5_tell_18 rfl rfl ?_
      refine r_iflt (tgt := 27) C dX5_tell_19 (by decide) (fun c19 => ?_) (fun c19 => ?_)
      · have hno : ¬ (¬ kd < 0 ∧ kd ≤ 3) := fun q => q.1 c19
        obtain ⟨⟨t1, t2⟩, ⟨t3, t4⟩, t5, t6⟩ := kt_X5_63_67
        exact r_throw (is := 118) (text := "no such kind") C trivial t1 t2 t3 t4 (by decide +kernel) t5 dX5_tell_27 dX5_tell_30 dX5_tell_31 dX5_tell_33 dX5_tell_36 (by decide) (Nat.le_of_ble_eq_true rfl) (by decide) t6 (⟨Or.inr (Or.inl ⟨rfl, c, hc, rfl, hnn, hno⟩), rfl, rfl⟩)
      · refine r_iload_n C dX5_tell_22 rfl rfl ?_
        refine r_iconst (v := 3) C dX5_tell_23 rfl ?_
        refine r_icmple (tgt := 37) C dX5_tell_24 (by decide) (fun c24 => ?_) (fun c24 => ?_)
        · have n24 := Int32.not_lt.mpr c24
          have hyes : ¬ kd < 0 ∧ kd ≤ 3 := ⟨c19, c24⟩
          obtain ⟨q, hq, hq4⟩ := hpl c hc
          refine r_aload_n C dX5_tell_37 rfl rfl ?_
          refine r_get (f := 2) C dX5_tell_38 ⟨by decide, by decide⟩ rfl rfl kU5 (by decide) kf_X5_25 rfl rfl ?_
          refine r_iload_n C dX5_tell_41 rfl rfl ?_
          refine r_aaldv (t0 := 4) C dX5_tell_42 ⟨by decide, by decide⟩ rfl rfl (vp_in_nI hc (by decide)) (nI_clamp (by omega)) ?_
          refine r_iload_n C dX5_tell_43 rfl rfl ?_
          refine r_iload_n C dX5_tell_44 rfl rfl ?_
          refine r_callV C dX5_tell_45 (c_add σ τ c q kd nn hc hq hq4) rfl ⟨by decide, hc⟩ rfl rfl kB_X2_add rfl kI_X2_add kV_X2_add kl_X5_120 (by decide) (Nat.le_of_ble_eq_true rfl) (by decide) ?_
          rintro r9 σ' τ' ⟨rfl, rfl, rfl⟩
          refine r_ifne (tgt := 61) C dX5_tell_48 (by decide) (fun c48 => ?_) (fun c48 => ?_)
          · have hq5 : q < 4 := of_decide_eq_true (b2i_n.mp c48)
            rw [if_pos hq5]
            refine r_aload_n C dX5_tell_61 rfl rfl ?_
            refine r_get (f := 3) C dX5_tell_62 ⟨by decide, by decide⟩ rfl rfl kU5 (by decide) kf_X5_33 rfl rfl ?_
            refine r_iconst (v := 1) C dX5_tell_65 rfl ?_
            refine r_iload_n C dX5_tell_66 rfl rfl ?_
            refine r_ishl C dX5_tell_67 ?_
            refine r_callV C dX5_tell_68 (c_untry (addS σ c q kd nn) τ (b1 c)) rfl ⟨by decide, by decide⟩ rfl rfl kB_X4_untry rfl kI_X4_untry kV_X4_untry kl_X5_125 (by decide) (Nat.le_of_ble_eq_true rfl) (by decide) ?_
            rintro r9 σ' τ' ⟨rfl, rfl, rfl⟩
            refine r_pop C dX5_tell_71 rfl ?_
            refine r_aload_n C dX5_tell_72 rfl rfl ?_
            refine r_get (f := 2) C dX5_tell_73 ⟨by decide, by decide⟩ rfl rfl kU5 (by decide) kf_X5_25 rfl rfl ?_
            refine r_iload_n C dX5_tell_76 rfl rfl ?_
            refine r_aaldv (t0 := 4) C dX5_tell_77 ⟨by decide, by decide⟩ rfl rfl (vp_in_nI hc (by decide)) (nI_clamp (by omega)) ?_
            refine r_get (f := 2) (v := .int (nI (q + 1))) C dX5_tell_78 ⟨by decide, hc⟩ rfl rfl kU2 (by decide) kf_X5_128 rfl (by simp [addS, up3_at]) ?_
            exact r_iret C dX5_tell_81 rfl (by decide) ⟨c, hc, rfl, hnn, hyes, q, hq, hq5, rfl, rfl, rfl⟩
          · have hq5 : ¬ q < 4 := of_decide_eq_false (b2i_0.mp c48)
            rw [if_neg hq5]
            obtain ⟨⟨t1, t2⟩, ⟨t3, t4⟩, t5, t6⟩ := kt_X5_48_52
            exact r_throw (is := 123) (text := "the cell has 4 properties") C trivial t1 t2 t3 t4 (by decide +kernel) t5 dX5_tell_51 dX5_tell_54 dX5_tell_55 dX5_tell_57 dX5_tell_60 (by decide) (Nat.le_of_ble_eq_true rfl) (by decide) t6 (⟨Or.inr (Or.inr ⟨rfl, c, hc, rfl, hnn, hyes, q, hq, by omega⟩), rfl, rfl⟩)
        · have n24 := Int32.not_le.mp c24
          have hno : ¬ (¬ kd < 0 ∧ kd ≤ 3) := fun q => c24 q.2
          obtain ⟨⟨t1, t2⟩, ⟨t3, t4⟩, t5, t6⟩ := kt_X5_63_67
          exact r_throw (is := 118) (text := "no such kind") C trivial t1 t2 t3 t4 (by decide +kernel) t5 dX5_tell_27 dX5_tell_30 dX5_tell_31 dX5_tell_33 dX5_tell_36 (by decide) (Nat.le_of_ble_eq_true rfl) (by decide) t6 (⟨Or.inr (Or.inl ⟨rfl, c, hc, rfl, hnn, hno⟩), rfl, rfl⟩)
set_option maxRecDepth 100000 in
set_option maxHeartbeats 4000000 in
theorem c_waive {l : Launch} {D : va_G} {ad : Nat → Nat → Nat} {aC : Nat → ClassId} (σ : gSig) (τ : gTau) (cl ow dy : Int32) (o : Nat → Nat) (hO : ordI (σ 7 5) o 16) : CT l D ad aC yX5_waive cX5_waive 4 (some .int) 8 2 [.ref (ad 0 0), .int cl, .int ow, .int dy] σ τ (fun r σ' τ' => ∃ c, c < 16 ∧ cl = nI c ∧ (ow = σ 18 0 c ∧ ¬ dy < 0 ∧ dy ≤ 30) ∧ bt (lcC σ o) c = true ∧ gEq (some (.int (bcJ (lcC (up3 σ 18 1 c (σ 17 0 3 + dy)) o)))) (up3 σ 18 1 c (σ 17 0 3 + dy)) τ r σ' τ') (fun E σ' τ' => ((E = xIOB ∧ ¬ isC cl) ∨ (E = xIAE ∧ ∃ c, c < 16 ∧ cl = nI c ∧ ¬ (ow = σ 18 0 c ∧ ¬ dy < 0 ∧ dy ≤ 30)) ∨ (E = xISE ∧ ∃ c, c < 16 ∧ cl = nI c ∧ (ow = σ 18 0 c ∧ ¬ dy < 0 ∧ dy ≤ 30) ∧ bt (lcC σ o) c = false)) ∧ σ = σ' ∧ τ = τ') := by
  refine CT.of (own := RX5) (by decide +kernel) rfl (Nat.le_of_ble_eq_true rfl) (fun S C => ?_)
  refine r_iload_n C dX5_waive_0 rfl rfl ?_
  refine r_callSX C trivial dX5_waive_1 (c_needCell σ τ cl) rfl kB_X5_needCell rfl kS_X5_needCell kl_X5_59 (by decide) (Nat.le_of_ble_eq_true rfl) (by decide) ?_ ?_
  · rintro E σ' τ' ⟨rfl, rfl, rfl, hx⟩
    exact ⟨Or.inl ⟨rfl, hx⟩, rfl, rfl⟩
  rintro r9 σ' τ' ⟨⟨rfl, rfl, rfl⟩, hcell⟩
  obtain ⟨c, hc, rfl⟩ := isC_nI hcell
  refine r_iload_n C dX5_waive_4 rfl rfl ?_
  refine r_aload_n C dX5_waive_5 rfl rfl ?_
  refine r_get (f := 4) C dX5_waive_6 ⟨by decide, by decide⟩ rfl rfl kU5 (by decide) kf_X5_40 rfl rfl ?_
  refine r_get (f := 0) C dX5_waive_9 ⟨by decide, by decide⟩ rfl rfl kU1 (by decide) kf_X5_133 rfl rfl ?_
  refine r_iload_n C dX5_waive_12 rfl rfl ?_
  refine r_ialdv (v := σ 18 0 c) C dX5_waive_13 ⟨by decide, by decide⟩ rfl (vp_in_nI hc (by decide)) (by rw [nI_clamp (by omega)]) ?_
  refine r_icmpne (tgt := 27) C dX5_waive_14 (by decide) (fun c14 => ?_) (fun c14 => ?_)
  · have hno : ¬ (ow = σ 18 0 c ∧ ¬ dy < 0 ∧ dy ≤ 30) := fun q => c14 q.1
    obtain ⟨⟨t1, t2⟩, ⟨t3, t4⟩, t5, t6⟩ := kt_X5_63_67
    exact r_throw (is := 169) (text := "owner is not the cell's owner, or days is out of range") C trivial t1 t2 t3 t4 (by decide +kernel) t5 dX5_waive_27 dX5_waive_30 dX5_waive_31 dX5_waive_33 dX5_waive_36 (by decide) (Nat.le_of_ble_eq_true rfl) (by decide) t6 (⟨Or.inr (Or.inl ⟨rfl, c, hc, rfl, hno⟩), rfl, rfl⟩)
  · refine r_iload_n C dX5_waive_17 rfl rfl ?_
    refine r_iflt (tgt := 27) C dX5_waive_18 (by decide) (fun c18 => ?_) (fun c18 => ?_)
    · have hno : ¬ (ow = σ 18 0 c ∧ ¬ dy < 0 ∧ dy ≤ 30) := fun q => q.2.1 c18
      obtain ⟨⟨t1, t2⟩, ⟨t3, t4⟩, t5, t6⟩ := kt_X5_63_67
      exact r_throw (is := 169) (text := "owner is not the cell's owner, or days is out of range") C trivial t1 t2 t3 t4 (by decide +kernel) t5 dX5_waive_27 dX5_waive_30 dX5_waive_31 dX5_waive_33 dX5_waive_36 (by decide) (Nat.le_of_ble_eq_true rfl) (by decide) t6 (⟨Or.inr (Or.inl ⟨rfl, c, hc, rfl, hno⟩), rfl, rfl⟩)
    · refine r_iload_n C dX5_waive_21 rfl rfl ?_
      refine r_bipush (v := 30) C dX5_waive_22 rfl ?_
      refine r_icmple (tgt := 37) C dX5_waive_24 (by decide) (fun c24 => ?_) (fun c24 => ?_)
      · have n24 := Int32.not_lt.mpr c24
        have hyes : (ow = σ 18 0 c ∧ ¬ dy < 0 ∧ dy ≤ 30) := ⟨c14, c18, c24⟩
        refine r_aload_n C dX5_waive_37 rfl rfl ?_
        refine r_callV C dX5_waive_38 (c_lockedCells σ τ o hO) rfl ⟨by decide, by decide⟩ rfl rfl kB_X5_lockedCells rfl kI_X5_lockedCells kV_X5_lockedCells kl_X5_144 (by decide) (Nat.le_of_ble_eq_true rfl) (by decide) ?_
        rintro r9 σ' τ' ⟨rfl, rfl, rfl⟩
        refine r_iload_n C dX5_waive_41 rfl rfl ?_
        refine r_callS C dX5_waive_42 (c_has σ τ (lcC σ o) (nI c)) rfl kB_X5_has rfl kS_X5_has kl_X5_141 (by decide) (Nat.le_of_ble_eq_true rfl) (by decide) ?_
        rintro r9 σ' τ' ⟨rfl, rfl, rfl⟩
        rw [hasB_bt hc]
        refine r_ifne (tgt := 58) C dX5_waive_45 (by decide) (fun c45 => ?_) (fun c45 => ?_)
        · have hl := b2i_n.mp c45
          refine r_aload_n C dX5_waive_58 rfl rfl ?_
          refine r_get (f := 4) C dX5_waive_59 ⟨by decide, by decide⟩ rfl rfl kU5 (by decide) kf_X5_40 rfl rfl ?_
          refine r_get (f := 1) C dX5_waive_62 ⟨by decide, by decide⟩ rfl rfl kU1 (by decide) kf_X5_173 rfl rfl ?_
          refine r_iload_n C dX5_waive_65 rfl rfl ?_
          refine r_aload_n C dX5_waive_66 rfl rfl ?_
          refine r_get (f := 4) C dX5_waive_67 ⟨by decide, by decide⟩ rfl rfl kU5 (by decide) kf_X5_40 rfl rfl ?_
          refine r_get (f := 3) C dX5_waive_70 ⟨by decide, by decide⟩ rfl rfl kU1 (by decide) kf_X5_176 rfl rfl ?_
          refine r_iload_n C dX5_waive_73 rfl rfl ?_
          refine r_iadd C dX5_waive_74 ?_
          refine r_iastv C dX5_waive_75 ⟨by decide, by decide⟩ (fun _ => rfl) (vp_in_nI hc (by decide)) (nI_clamp (by omega)) ?_
          refine r_aload_n C dX5_waive_76 rfl rfl ?_
          refine r_callV C dX5_waive_77 (c_lockedCells (up3 σ 18 1 c (σ 17 0 3 + dy)) τ o hO) rfl ⟨by decide, by decide⟩ rfl rfl kB_X5_lockedCells rfl kI_X5_lockedCells kV_X5_lockedCells kl_X5_144 (by decide) (Nat.le_of_ble_eq_true rfl) (by decide) ?_
          rintro r9 σ' τ' ⟨rfl, rfl, rfl⟩
          refine r_callS C dX5_waive_80 (c_bitCount (up3 σ 18 1 c (σ 17 0 3 + dy)) τ (lcC (up3 σ 18 1 c (σ 17 0 3 + dy)) o)) rfl kB_J6_bitCount_0f7a4 rfl kS_J6_bitCount_0f7a4 kl_X5_179 (by decide) (Nat.le_of_ble_eq_true rfl) (by decide) ?_
          rintro r9 σ' τ' ⟨rfl, rfl, rfl⟩
          exact r_iret C dX5_waive_83 rfl (by decide) ⟨c, hc, rfl, hyes, hl, rfl, rfl, rfl⟩
        · have hl := b2i_0.mp c45
          obtain ⟨⟨t1, t2⟩, ⟨t3, t4⟩, t5, t6⟩ := kt_X5_48_52
          exact r_throw (is := 171) (text := "the cell is not locked") C trivial t1 t2 t3 t4 (by decide +kernel) t5 dX5_waive_48 dX5_waive_51 dX5_waive_52 dX5_waive_54 dX5_waive_57 (by decide) (Nat.le_of_ble_eq_true rfl) (by decide) t6 (⟨Or.inr (Or.inr ⟨rfl, c, hc, rfl, hyes, hl⟩), rfl, rfl⟩)
      · have n24 := Int32.not_le.mp c24
        have hno : ¬ (ow = σ 18 0 c ∧ ¬ dy < 0 ∧ dy ≤ 30) := fun q => c24 q.2.2
        obtain ⟨⟨t1, t2⟩, ⟨t3, t4⟩, t5, t6⟩ := kt_X5_63_67
        exact r_throw (is := 169) (text := "owner is not the cell's owner, or days is out of range") C trivial t1 t2 t3 t4 (by decide +kernel) t5 dX5_waive_27 dX5_waive_30 dX5_waive_31 dX5_waive_33 dX5_waive_36 (by decide) (Nat.le_of_ble_eq_true rfl) (by decide) t6 (⟨Or.inr (Or.inl ⟨rfl, c, hc, rfl, hno⟩), rfl, rfl⟩)
set_option maxRecDepth 100000 in
set_option maxHeartbeats 4000000 in
theorem c_pass {l : Launch} {D : va_G} {ad : Nat → Nat → Nat} {aC : Nat → ClassId} (σ : gSig) (τ : gTau) (dy : Int32) (o : Nat → Nat) (hO : ordI (σ 7 5) o 16) : CT l D ad aC yX5_pass cX5_pass 2 (some .int) 7 1 [.ref (ad 0 0), .int dy] σ τ (fun r σ' τ' => (1 ≤ dy ∧ dy ≤ 100) ∧ σ 17 0 3 + dy ≤ 10000 ∧ gEq (some (.int (bcJ (lcC (up3 σ 17 0 3 (σ 17 0 3 + dy)) o)))) (up3 σ 17 0 3 (σ 17 0 3 + dy)) τ r σ' τ') (fun E σ' τ' => ((E = xIAE ∧ ¬ (1 ≤ dy ∧ dy ≤ 100)) ∨ (E = xISE ∧ (1 ≤ dy ∧ dy ≤ 100) ∧ 10000 < σ 17 0 3 + dy)) ∧ σ = σ' ∧ τ = τ') := by
  refine CT.of (own := RX5) (by decide +kernel) rfl (Nat.le_of_ble_eq_true rfl) (fun S C => ?_)
  refine r_iload_n C dX5_pass_0 rfl rfl ?_
  refine r_iconst (v := 1) C dX5_pass_1 rfl ?_
  refine r_icmplt (tgt := 11) C dX5_pass_2 (by decide) (fun c2 => ?_) (fun c2 => ?_)
  · have n2 := Int32.not_le.mpr c2
    have hno : ¬ (1 ≤ dy ∧ dy ≤ 100) := fun q => n2 q.1
    obtain ⟨⟨t1, t2⟩, ⟨t3, t4⟩, t5, t6⟩ := kt_X5_63_67
    exact r_throw (is := 184) (text := "days is out of range") C trivial t1 t2 t3 t4 (by decide +kernel) t5 dX5_pass_11 dX5_pass_14 dX5_pass_15 dX5_pass_17 dX5_pass_20 (by decide) (Nat.le_of_ble_eq_true rfl) (by decide) t6 (⟨Or.inl ⟨rfl, hno⟩, rfl, rfl⟩)
  · have n2 := Int32.not_lt.mp c2
    refine r_iload_n C dX5_pass_5 rfl rfl ?_
    refine r_bipush (v := 100) C dX5_pass_6 rfl ?_
    refine r_icmple (tgt := 21) C dX5_pass_8 (by decide) (fun c8 => ?_) (fun c8 => ?_)
    · have n8 := Int32.not_lt.mpr c8
      have hyes : (1 ≤ dy ∧ dy ≤ 100) := ⟨n2, c8⟩
      refine r_aload_n C dX5_pass_21 rfl rfl ?_
      refine r_get (f := 4) C dX5_pass_22 ⟨by decide, by decide⟩ rfl rfl kU5 (by decide) kf_X5_40 rfl rfl ?_
      refine r_get (f := 3) C dX5_pass_25 ⟨by decide, by decide⟩ rfl rfl kU1 (by decide) kf_X5_176 rfl rfl ?_
      refine r_iload_n C dX5_pass_28 rfl rfl ?_
      refine r_iadd C dX5_pass_29 ?_
      refine r_sipush (v := 10000) C dX5_pass_30 rfl ?_
      refine r_icmple (tgt := 46) C dX5_pass_33 (by decide) (fun c33 => ?_) (fun c33 => ?_)
      · have n33 := Int32.not_lt.mpr c33
        refine r_aload_n C dX5_pass_46 rfl rfl ?_
        refine r_get (f := 4) C dX5_pass_47 ⟨by decide, by decide⟩ rfl rfl kU5 (by decide) kf_X5_40 rfl rfl ?_
        refine r_dup C dX5_pass_50 rfl ?_
        refine r_get (f := 3) C dX5_pass_51 ⟨by decide, by decide⟩ rfl rfl kU1 (by decide) kf_X5_176 rfl rfl ?_
        refine r_iload_n C dX5_pass_54 rfl rfl ?_
        refine r_iadd C dX5_pass_55 ?_
        refine r_put (f := 3) C dX5_pass_56 ⟨by decide, by decide⟩ rfl rfl kU1 tyX1 tyX1_ok nmX1 (by decide) kf_X5_176 rfl rfl (by decide +kernel) (Nat.le_of_ble_eq_true rfl) (by simp [cel, up3]) ?_
        refine r_aload_n C dX5_pass_59 rfl rfl ?_
        refine r_callV C dX5_pass_60 (c_lockedCells (up3 σ 17 0 3 (σ 17 0 3 + dy)) τ o hO) rfl ⟨by decide, by decide⟩ rfl rfl kB_X5_lockedCells rfl kI_X5_lockedCells kV_X5_lockedCells kl_X5_144 (by decide) (Nat.le_of_ble_eq_true rfl) (by decide) ?_
        rintro r9 σ' τ' ⟨rfl, rfl, rfl⟩
        refine r_callS C dX5_pass_63 (c_bitCount (up3 σ 17 0 3 (σ 17 0 3 + dy)) τ (lcC (up3 σ 17 0 3 (σ 17 0 3 + dy)) o)) rfl kB_J6_bitCount_0f7a4 rfl kS_J6_bitCount_0f7a4 kl_X5_179 (by decide) (Nat.le_of_ble_eq_true rfl) (by decide) ?_
        rintro r9 σ' τ' ⟨rfl, rfl, rfl⟩
        exact r_iret C dX5_pass_66 rfl (by decide) ⟨hyes, c33, rfl, rfl, rfl⟩
      · have n33 := Int32.not_le.mp c33
        obtain ⟨⟨t1, t2⟩, ⟨t3, t4⟩, t5, t6⟩ := kt_X5_48_52
        exact r_throw (is := 186) (text := "today would be above 10000") C trivial t1 t2 t3 t4 (by decide +kernel) t5 dX5_pass_36 dX5_pass_39 dX5_pass_40 dX5_pass_42 dX5_pass_45 (by decide) (Nat.le_of_ble_eq_true rfl) (by decide) t6 (⟨Or.inr ⟨rfl, hyes, n33⟩, rfl, rfl⟩)
    · have n8 := Int32.not_le.mp c8
      have hno : ¬ (1 ≤ dy ∧ dy ≤ 100) := fun q => c8 q.2
      obtain ⟨⟨t1, t2⟩, ⟨t3, t4⟩, t5, t6⟩ := kt_X5_63_67
      exact r_throw (is := 184) (text := "days is out of range") C trivial t1 t2 t3 t4 (by decide +kernel) t5 dX5_pass_11 dX5_pass_14 dX5_pass_15 dX5_pass_17 dX5_pass_20 (by decide) (Nat.le_of_ble_eq_true rfl) (by decide) t6 (⟨Or.inl ⟨rfl, hno⟩, rfl, rfl⟩)
