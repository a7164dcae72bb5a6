/-! ===== the law's model: ways, days, waivers: printed by g41.py ===== -/
set_option maxRecDepth 100000 in
set_option maxHeartbeats 1000000 in
theorem m_isLockedByWays {l : Launch} {D : va_G} {ad : Nat → Nat → Nat} {aC : Nat → ClassId} (σ : gSig) (τ : gTau) (cl : Int32) (fl wv : Int32) (o : Nat → Nat) (hL : mLK σ fl wv o) : CZ l D ad aC yX6_isLockedByWays cX6_isLockedByWays 2 (some .boolean) 3 [.ref (ad 19 0), .int cl] σ τ (fun r σ' τ' => (¬ isC cl ∧ thQ σ τ 1 r σ' τ') ∨ ∃ c, c < 16 ∧ cl = nI c ∧ gEq (some (.int (b2i (bt (lkF (mR σ) fl wv o 16) c)))) (up3 σ 19 0 0 0) τ r σ' τ') := by
  refine CZ.of (own := RX6) (by decide +kernel) rfl (Nat.le_of_ble_eq_true rfl) (fun S C => ?_)
  refine r_aload_n C dX6_isLockedByWays_0 rfl rfl ?_
  refine r_iload_n C dX6_isLockedByWays_1 rfl rfl ?_
  refine r_callV C dX6_isLockedByWays_2 (m_isLocked σ τ cl fl wv o hL) rfl ⟨by decide, by decide⟩ rfl rfl kB_X6_isLocked rfl kI_X6_isLocked kV_X6_isLocked kl_X6_167 (by decide) (Nat.le_of_ble_eq_true rfl) (by decide) ?_
  intro r9 σ' τ' hq
  have hq2 := hq
  obtain ⟨v9, rfl, hv9⟩ : ∃ v : Int32, some (.int v) = r9 ∧ (v = 0 ∨ v = 1) := by
    rcases hq with ⟨-, q, -⟩ | ⟨c, -, -, q, -⟩
    · exact ⟨0, q, Or.inl rfl⟩
    · exact ⟨_, q, b2i_01 _⟩
  exact r_zret C dX6_isLockedByWays_5 rfl (by decide) hv9 hq2
set_option maxRecDepth 100000 in
set_option maxHeartbeats 1000000 in
theorem m_pass {l : Launch} {D : va_G} {ad : Nat → Nat → Nat} {aC : Nat → ClassId} (σ : gSig) (τ : gTau) (d fl wv : Int32) (o : Nat → Nat) (hL : mLK (up3 (up3 σ 19 0 0 0) 19 0 1 (σ 19 0 1 + d)) fl wv o) : CZ l D ad aC yX6_pass cX6_pass 2 (some .int) 2 [.ref (ad 19 0), .int d] σ τ (fun r σ' τ' => (¬ ((1 : Int32) ≤ d ∧ d ≤ 100) ∧ thQ σ τ 1 r σ' τ') ∨ (((1 : Int32) ≤ d ∧ d ≤ 100) ∧ ¬ σ 19 0 1 + d ≤ 10000 ∧ thQ σ τ 2 r σ' τ') ∨ (((1 : Int32) ≤ d ∧ d ≤ 100) ∧ σ 19 0 1 + d ≤ 10000 ∧ gEq (some (.int (btF (lkF (mR σ) fl wv o 16) 16))) (up3 (up3 σ 19 0 0 0) 19 0 1 (σ 19 0 1 + d)) τ r σ' τ')) := by
  refine CZ.of (own := RX6) (by decide +kernel) rfl (Nat.le_of_ble_eq_true rfl) (fun S C => ?_)
  refine r_aload_n C dX6_pass_0 rfl rfl ?_
  refine r_iload_n C dX6_pass_1 rfl rfl ?_
  refine r_iconst (v := 1) C dX6_pass_2 rfl ?_
  refine r_bipush (v := 100) C dX6_pass_3 rfl ?_
  refine r_callS C dX6_pass_5 (m_in σ τ d 1 100) rfl kB_X6_in rfl kS_X6_in kl_X6_90 (by decide) (Nat.le_of_ble_eq_true rfl) (by decide) ?_
  rintro r9 σ' τ' ⟨rfl, rfl, rfl⟩
  refine r_ifne (tgt := 15) C dX6_pass_8 (by decide) (fun c8 => ?_) (fun c8 => ?_)
  · have hD := inB3_t.mp (b2i_n.mp c8)
    refine r_aload_n C dX6_pass_15 rfl rfl ?_
    refine r_get (f := 1) C dX6_pass_16 ⟨by decide, by decide⟩ rfl rfl kU6 (by decide) kf_X6_137 rfl rfl ?_
    refine r_iload_n C dX6_pass_19 rfl rfl ?_
    refine r_iadd C dX6_pass_20 ?_
    refine r_sipush (v := 10000) C dX6_pass_21 rfl ?_
    refine r_icmple (tgt := 31) C dX6_pass_24 (by decide) (fun c24 => ?_) (fun c24 => ?_)
    · have n24 := Int32.not_lt.mpr c24
      refine r_iconst (v := 0) C dX6_pass_31 rfl ?_
      refine r_put (f := 0) C dX6_pass_32 ⟨by decide, by decide⟩ rfl rfl kU6 tyX6 tyX6_ok nmX6 (by decide) kf_X6_86 rfl rfl (by decide +kernel) (Nat.le_of_ble_eq_true rfl) (by simp [cel, up3]) ?_
      refine r_aload_n C dX6_pass_35 rfl rfl ?_
      refine r_get (f := 0) (v := .int 0) C dX6_pass_36 ⟨by decide, by decide⟩ rfl rfl kU6 (by decide) kf_X6_86 rfl (by simp [up3_at]) ?_
      refine r_ifle (tgt := 44) C dX6_pass_39 (by decide) (fun c39 => ?_) (fun c39 => ?_)
      · refine r_aload_n C dX6_pass_44 rfl rfl ?_
        refine r_dup C dX6_pass_45 rfl ?_
        refine r_get (f := 1) (v := .int (σ 19 0 1)) C dX6_pass_46 ⟨by decide, by decide⟩ rfl rfl kU6 (by decide) kf_X6_137 rfl (by simp [up3_at]) ?_
        refine r_iload_n C dX6_pass_49 rfl rfl ?_
        refine r_iadd C dX6_pass_50 ?_
        refine r_put (f := 1) C dX6_pass_51 ⟨by decide, by decide⟩ rfl rfl kU6 tyX6 tyX6_ok nmX6 (by decide) kf_X6_137 rfl rfl (by decide +kernel) (Nat.le_of_ble_eq_true rfl) (by simp [cel, up3]) ?_
        refine r_aload_n C dX6_pass_54 rfl rfl ?_
        refine r_callV C dX6_pass_55 (m_locksK (up3 (up3 σ 19 0 0 0) 19 0 1 (σ 19 0 1 + d)) τ fl wv o hL) rfl ⟨by decide, by decide⟩ rfl rfl kB_X6_locks rfl kI_X6_locks kV_X6_locks kl_X6_150 (by decide) (Nat.le_of_ble_eq_true rfl) (by decide) ?_
        rintro r9 σ' τ' ⟨rfl, rfl, rfl⟩
        rw [mR_up3 _ _ _ _ _ (by decide), mR_up3 _ _ _ _ _ (by decide)]
        refine r_callS C dX6_pass_58 (m_bits (up3 (up3 σ 19 0 0 0) 19 0 1 (σ 19 0 1 + d)) τ (lkF (mR σ) fl wv o 16)) rfl kB_X6_bits rfl kS_X6_bits kl_X6_164 (by decide) (Nat.le_of_ble_eq_true rfl) (by decide) ?_
        rintro r9 σ' τ' ⟨rfl, rfl, rfl⟩
        exact r_iret C dX6_pass_61 rfl (by decide) (Or.inr (Or.inr ⟨hD, c24, rfl, rfl, rfl⟩))
      · exact absurd (by decide) c39
    · have n24 := Int32.not_le.mp c24
      refine r_iconst (v := 2) C dX6_pass_27 rfl ?_
      refine r_goto (tgt := 32) C dX6_pass_28 (by decide) ?_
      refine r_put (f := 0) C dX6_pass_32 ⟨by decide, by decide⟩ rfl rfl kU6 tyX6 tyX6_ok nmX6 (by decide) kf_X6_86 rfl rfl (by decide +kernel) (Nat.le_of_ble_eq_true rfl) (by simp [cel, up3]) ?_
      refine r_aload_n C dX6_pass_35 rfl rfl ?_
      refine r_get (f := 0) (v := .int 2) C dX6_pass_36 ⟨by decide, by decide⟩ rfl rfl kU6 (by decide) kf_X6_86 rfl (by simp [up3_at]) ?_
      refine r_ifle (tgt := 44) C dX6_pass_39 (by decide) (fun c39 => ?_) (fun c39 => ?_)
      · exact absurd c39 (by decide)
      · refine r_iconst (v := 0) C dX6_pass_42 rfl ?_
        exact r_iret C dX6_pass_43 rfl (by decide) (Or.inr (Or.inl ⟨hD, c24, rfl, rfl, rfl⟩))
  · have hD := inB3_f.mp (b2i_0.mp c8)
    refine r_iconst (v := 1) C dX6_pass_11 rfl ?_
    refine r_goto (tgt := 32) C dX6_pass_12 (by decide) ?_
    refine r_put (f := 0) C dX6_pass_32 ⟨by decide, by decide⟩ rfl rfl kU6 tyX6 tyX6_ok nmX6 (by decide) kf_X6_86 rfl rfl (by decide +kernel) (Nat.le_of_ble_eq_true rfl) (by simp [cel, up3]) ?_
    refine r_aload_n C dX6_pass_35 rfl rfl ?_
    refine r_get (f := 0) (v := .int 1) C dX6_pass_36 ⟨by decide, by decide⟩ rfl rfl kU6 (by decide) kf_X6_86 rfl (by simp [up3_at]) ?_
    refine r_ifle (tgt := 44) C dX6_pass_39 (by decide) (fun c39 => ?_) (fun c39 => ?_)
    · exact absurd c39 (by decide)
    · refine r_iconst (v := 0) C dX6_pass_42 rfl ?_
      exact r_iret C dX6_pass_43 rfl (by decide) (Or.inl ⟨hD, rfl, rfl, rfl⟩)
