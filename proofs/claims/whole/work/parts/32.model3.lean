/-! ===== the law's model, third part: the face: printed by g32.py ===== -/
theorem inB3_f {v lo hi : Int32} : inB3 v lo hi = false ↔ ¬ (lo ≤ v ∧ v ≤ hi) := by
  rw [← inB3_t]
  cases inB3 v lo hi <;> simp
/-- a sign is set: the answer is 0 -/
def thQ (σ : gSig) (τ : gTau) (t : Int32) : Option Value → gSig → gTau → Prop := gEq (some (.int 0)) (up3 σ 19 0 0 t) τ
def mWp (σ : gSig) : gSig := up3 (up3 σ 19 0 2 0) 19 0 3 0
set_option maxRecDepth 100000 in
set_option maxHeartbeats 4000000 in
theorem m_wipe {l : Launch} {D : va_G} {ad : Nat → Nat → Nat} {aC : Nat → ClassId} (σ : gSig) (τ : gTau)  : CZ l D ad aC yX6_wipe cX6_wipe 2 (some .int) 0 [.ref (ad 19 0)] σ τ (gEq (some (.int (σ 19 0 2))) (mWp (up3 σ 19 0 0 0)) τ) := by
  refine CZ.of (own := RX6) (by decide +kernel) rfl (Nat.le_of_ble_eq_true rfl) (fun S C => ?_)
  refine r_aload_n C dX6_wipe_0 rfl rfl ?_
  refine r_iconst (v := 0) C dX6_wipe_1 rfl ?_
  refine r_put (f := 0) C dX6_wipe_2 ⟨by decide, by decide⟩ rfl rfl kU6 tyX6 tyX6_ok nmX6 (by decide) kf_X6_86 rfl rfl (by decide +kernel) (Nat.le_of_ble_eq_true rfl) (by simp [cel, up3]) ?_
  refine r_aload_n C dX6_wipe_5 rfl rfl ?_
  refine r_get (f := 2) (v := .int (σ 19 0 2)) C dX6_wipe_6 ⟨by decide, by decide⟩ rfl rfl kU6 (by decide) kf_X6_94 rfl (by simp [up3_at]) ?_
  refine r_istore_n C dX6_wipe_9 rfl (by decide) rfl ?_
  refine r_aload_n C dX6_wipe_10 rfl rfl ?_
  refine r_iconst (v := 0) C dX6_wipe_11 rfl ?_
  refine r_put (f := 2) C dX6_wipe_12 ⟨by decide, by decide⟩ rfl rfl kU6 tyX6 tyX6_ok nmX6 (by decide) kf_X6_94 rfl rfl (by decide +kernel) (Nat.le_of_ble_eq_true rfl) (by simp [cel, up3]) ?_
  refine r_aload_n C dX6_wipe_15 rfl rfl ?_
  refine r_iconst (v := 0) C dX6_wipe_16 rfl ?_
  refine r_put (f := 3) C dX6_wipe_17 ⟨by decide, by decide⟩ rfl rfl kU6 tyX6 tyX6_ok nmX6 (by decide) kf_X6_97 rfl rfl (by decide +kernel) (Nat.le_of_ble_eq_true rfl) (by simp [cel, up3]) ?_
  refine r_iload_n C dX6_wipe_20 rfl rfl ?_
  exact r_iret C dX6_wipe_21 rfl (by decide) ⟨rfl, rfl, rfl⟩
set_option maxRecDepth 100000 in
set_option maxHeartbeats 4000000 in
theorem m_number {l : Launch} {D : va_G} {ad : Nat → Nat → Nat} {aC : Nat → ClassId} (σ : gSig) (τ : gTau) (x : Int32) (k : Nat) (hk : σ 19 0 2 = nI k) (hk2 : k ≤ 12) : CZ l D ad aC yX6_number cX6_number 2 (some .int) 1 [.ref (ad 19 0), .int x] σ τ (fun r σ' τ' => (k = 12 ∧ thQ σ τ 1 r σ' τ') ∨ (k < 12 ∧ gEq (some (.int (σ 19 0 3 + 1))) (mAd (up3 σ 19 0 0 0) k 0 x 1) τ r σ' τ')) := by
  refine CZ.of (own := RX6) (by decide +kernel) rfl (Nat.le_of_ble_eq_true rfl) (fun S C => ?_)
  refine r_aload_n C dX6_number_0 rfl rfl ?_
  refine r_aload_n C dX6_number_1 rfl rfl ?_
  refine r_get (f := 2) (v := .int (nI k)) C dX6_number_2 ⟨by decide, by decide⟩ rfl rfl kU6 (by decide) kf_X6_94 rfl (by rw [← hk]; rfl) ?_
  refine r_bipush (v := 12) C dX6_number_5 rfl ?_
  refine r_icmpne (tgt := 14) C dX6_number_7 (by decide) (fun c7 => ?_) (fun c7 => ?_)
  · have hkl : k < 12 := by
      have : ¬ k = 12 := fun q => c7 (by rw [q]; rfl)
      omega
    refine r_iconst (v := 0) C dX6_number_14 rfl ?_
    refine r_put (f := 0) C dX6_number_15 ⟨by decide, by decide⟩ rfl rfl kU6 tyX6 tyX6_ok nmX6 (by decide) kf_X6_86 rfl rfl (by decide +kernel) (Nat.le_of_ble_eq_true rfl) (by simp [cel, up3]) ?_
    refine r_aload_n C dX6_number_18 rfl rfl ?_
    refine r_get (f := 0) (v := .int 0) C dX6_number_19 ⟨by decide, by decide⟩ rfl rfl kU6 (by decide) kf_X6_86 rfl (by simp [up3_at]) ?_
    refine r_ifle (tgt := 29) C dX6_number_22 (by decide) (fun c22 => ?_) (fun c22 => ?_)
    · refine r_aload_n C dX6_number_29 rfl rfl ?_
      refine r_iconst (v := 0) C dX6_number_30 rfl ?_
      refine r_iload_n C dX6_number_31 rfl rfl ?_
      refine r_iconst (v := 1) C dX6_number_32 rfl ?_
      refine r_callV C dX6_number_33 (m_adds (up3 σ 19 0 0 0) τ 0 x 1 k (by simpa [up3_at] using hk) hkl) rfl ⟨by decide, by decide⟩ rfl rfl kB_X6_adds rfl kI_X6_adds kV_X6_adds kl_X6_100 (by decide) (Nat.le_of_ble_eq_true rfl) (by decide) ?_
      rintro r9 σ' τ' ⟨rfl, rfl, rfl⟩
      rw [show (up3 σ 19 0 0 0) 19 0 3 = σ 19 0 3 from by simp [up3_at]]
      exact r_iret C dX6_number_36 rfl (by decide) (Or.inr ⟨hkl, rfl, rfl, rfl⟩)
    · exact absurd (by decide) c22
  · have hkf : k = 12 := (nI_eq (by omega) (by decide)).mp c7
    refine r_iconst (v := 1) C dX6_number_10 rfl ?_
    refine r_goto (tgt := 15) C dX6_number_11 (by decide) ?_
    refine r_put (f := 0) C dX6_number_15 ⟨by decide, by decide⟩ rfl rfl kU6 tyX6 tyX6_ok nmX6 (by decide) kf_X6_86 rfl rfl (by decide +kernel) (Nat.le_of_ble_eq_true rfl) (by simp [cel, up3]) ?_
    refine r_aload_n C dX6_number_18 rfl rfl ?_
    refine r_get (f := 0) (v := .int 1) C dX6_number_19 ⟨by decide, by decide⟩ rfl rfl kU6 (by decide) kf_X6_86 rfl (by simp [up3_at]) ?_
    refine r_ifle (tgt := 29) C dX6_number_22 (by decide) (fun c22 => ?_) (fun c22 => ?_)
    · exact absurd c22 (by decide)
    · refine r_iconst (v := 0) C dX6_number_25 rfl ?_
      refine r_goto (tgt := 36) C dX6_number_26 (by decide) ?_
      exact r_iret C dX6_number_36 rfl (by decide) (Or.inl ⟨hkf, rfl, rfl, rfl⟩)
set_option maxRecDepth 100000 in
set_option maxHeartbeats 4000000 in
theorem m_cell {l : Launch} {D : va_G} {ad : Nat → Nat → Nat} {aC : Nat → ClassId} (σ : gSig) (τ : gTau) (c : Int32) (k : Nat) (hk : σ 19 0 2 = nI k) (hk2 : k ≤ 12) : CZ l D ad aC yX6_cell cX6_cell 2 (some .int) 2 [.ref (ad 19 0), .int c] σ τ (fun r σ' τ' => (¬ isC c ∧ thQ σ τ 1 r σ' τ') ∨ (isC c ∧ k = 12 ∧ thQ σ τ 2 r σ' τ') ∨ (isC c ∧ k < 12 ∧ gEq (some (.int (σ 19 0 3 + 1))) (mAd (up3 σ 19 0 0 0) k 1 c 1) τ r σ' τ')) := by
  refine CZ.of (own := RX6) (by decide +kernel) rfl (Nat.le_of_ble_eq_true rfl) (fun S C => ?_)
  refine r_aload_n C dX6_cell_0 rfl rfl ?_
  refine r_iload_n C dX6_cell_1 rfl rfl ?_
  refine r_callS C dX6_cell_2 (m_isCell σ τ c) rfl kB_X6_isCell rfl kS_X6_isCell kl_X6_104 (by decide) (Nat.le_of_ble_eq_true rfl) (by decide) ?_
  rintro r9 σ' τ' ⟨rfl, rfl, rfl⟩
  refine r_ifne (tgt := 12) C dX6_cell_5 (by decide) (fun c5 => ?_) (fun c5 => ?_)
  · have hC := isCB_t.mp (b2i_n.mp c5)
    refine r_aload_n C dX6_cell_12 rfl rfl ?_
    refine r_get (f := 2) (v := .int (nI k)) C dX6_cell_13 ⟨by decide, by decide⟩ rfl rfl kU6 (by decide) kf_X6_94 rfl (by rw [← hk]; rfl) ?_
    refine r_bipush (v := 12) C dX6_cell_16 rfl ?_
    refine r_icmpne (tgt := 25) C dX6_cell_18 (by decide) (fun c18 => ?_) (fun c18 => ?_)
    · have hkl : k < 12 := by
        have : ¬ k = 12 := fun q => c18 (by rw [q]; rfl)
        omega
      refine r_iconst (v := 0) C dX6_cell_25 rfl ?_
      refine r_put (f := 0) C dX6_cell_26 ⟨by decide, by decide⟩ rfl rfl kU6 tyX6 tyX6_ok nmX6 (by decide) kf_X6_86 rfl rfl (by decide +kernel) (Nat.le_of_ble_eq_true rfl) (by simp [cel, up3]) ?_
      refine r_aload_n C dX6_cell_29 rfl rfl ?_
      refine r_get (f := 0) (v := .int 0) C dX6_cell_30 ⟨by decide, by decide⟩ rfl rfl kU6 (by decide) kf_X6_86 rfl (by simp [up3_at]) ?_
      refine r_ifle (tgt := 40) C dX6_cell_33 (by decide) (fun c33 => ?_) (fun c33 => ?_)
      · refine r_aload_n C dX6_cell_40 rfl rfl ?_
        refine r_iconst (v := 1) C dX6_cell_41 rfl ?_
        refine r_iload_n C dX6_cell_42 rfl rfl ?_
        refine r_iconst (v := 1) C dX6_cell_43 rfl ?_
        refine r_callV C dX6_cell_44 (m_adds (up3 σ 19 0 0 0) τ 1 c 1 k (by simpa [up3_at] using hk) hkl) rfl ⟨by decide, by decide⟩ rfl rfl kB_X6_adds rfl kI_X6_adds kV_X6_adds kl_X6_100 (by decide) (Nat.le_of_ble_eq_true rfl) (by decide) ?_
        rintro r9 σ' τ' ⟨rfl, rfl, rfl⟩
        rw [show (up3 σ 19 0 0 0) 19 0 3 = σ 19 0 3 from by simp [up3_at]]
        exact r_iret C dX6_cell_47 rfl (by decide) (Or.inr (Or.inr ⟨hC, hkl, rfl, rfl, rfl⟩))
      · exact absurd (by decide) c33
    · have hkf : k = 12 := (nI_eq (by omega) (by decide)).mp c18
      refine r_iconst (v := 2) C dX6_cell_21 rfl ?_
      refine r_goto (tgt := 26) C dX6_cell_22 (by decide) ?_
      refine r_put (f := 0) C dX6_cell_26 ⟨by decide, by decide⟩ rfl rfl kU6 tyX6 tyX6_ok nmX6 (by decide) kf_X6_86 rfl rfl (by decide +kernel) (Nat.le_of_ble_eq_true rfl) (by simp [cel, up3]) ?_
      refine r_aload_n C dX6_cell_29 rfl rfl ?_
      refine r_get (f := 0) (v := .int 2) C dX6_cell_30 ⟨by decide, by decide⟩ rfl rfl kU6 (by decide) kf_X6_86 rfl (by simp [up3_at]) ?_
      refine r_ifle (tgt := 40) C dX6_cell_33 (by decide) (fun c33 => ?_) (fun c33 => ?_)
      · exact absurd c33 (by decide)
      · refine r_iconst (v := 0) C dX6_cell_36 rfl ?_
        refine r_goto (tgt := 47) C dX6_cell_37 (by decide) ?_
        exact r_iret C dX6_cell_47 rfl (by decide) (Or.inr (Or.inl ⟨hC, hkf, rfl, rfl, rfl⟩))
  · have hC := isCB_f.mp (b2i_0.mp c5)
    refine r_iconst (v := 1) C dX6_cell_8 rfl ?_
    refine r_goto (tgt := 26) C dX6_cell_9 (by decide) ?_
    refine r_put (f := 0) C dX6_cell_26 ⟨by decide, by decide⟩ rfl rfl kU6 tyX6 tyX6_ok nmX6 (by decide) kf_X6_86 rfl rfl (by decide +kernel) (Nat.le_of_ble_eq_true rfl) (by simp [cel, up3]) ?_
    refine r_aload_n C dX6_cell_29 rfl rfl ?_
    refine r_get (f := 0) (v := .int 1) C dX6_cell_30 ⟨by decide, by decide⟩ rfl rfl kU6 (by decide) kf_X6_86 rfl (by simp [up3_at]) ?_
    refine r_ifle (tgt := 40) C dX6_cell_33 (by decide) (fun c33 => ?_) (fun c33 => ?_)
    · exact absurd c33 (by decide)
    · refine r_iconst (v := 0) C dX6_cell_36 rfl ?_
      refine r_goto (tgt := 47) C dX6_cell_37 (by decide) ?_
      exact r_iret C dX6_cell_47 rfl (by decide) (Or.inl ⟨hC, rfl, rfl, rfl⟩)
set_option maxRecDepth 100000 in
set_option maxHeartbeats 4000000 in
theorem m_apply {l : Launch} {D : va_G} {ad : Nat → Nat → Nat} {aC : Nat → ClassId} (σ : gSig) (τ : gTau) (o : Int32) (k : Nat) (hk : σ 19 0 2 = nI k) (hk2 : k ≤ 12) : CZ l D ad aC yX6_apply cX6_apply 2 (some .int) 1 [.ref (ad 19 0), .int o] σ τ (fun r σ' τ' => (¬ ((0 : Int32) ≤ o ∧ o ≤ 11) ∧ thQ σ τ 1 r σ' τ') ∨ (((0 : Int32) ≤ o ∧ o ≤ 11) ∧ (σ 19 0 3 < 2 ∨ k = 12) ∧ thQ σ τ 2 r σ' τ') ∨ (((0 : Int32) ≤ o ∧ o ≤ 11) ∧ ¬ σ 19 0 3 < 2 ∧ k < 12 ∧ gEq (some (.int (σ 19 0 3 + (-1)))) (mAd (up3 σ 19 0 0 0) k 2 o (-1)) τ r σ' τ')) := by
  refine CZ.of (own := RX6) (by decide +kernel) rfl (Nat.le_of_ble_eq_true rfl) (fun S C => ?_)
  refine r_aload_n C dX6_apply_0 rfl rfl ?_
  refine r_iload_n C dX6_apply_1 rfl rfl ?_
  refine r_iconst (v := 0) C dX6_apply_2 rfl ?_
  refine r_bipush (v := 11) C dX6_apply_3 rfl ?_
  refine r_callS C dX6_apply_5 (m_in σ τ o 0 11) rfl kB_X6_in rfl kS_X6_in kl_X6_90 (by decide) (Nat.le_of_ble_eq_true rfl) (by decide) ?_
  rintro r9 σ' τ' ⟨rfl, rfl, rfl⟩
  refine r_ifne (tgt := 15) C dX6_apply_8 (by decide) (fun c8 => ?_) (fun c8 => ?_)
  · have hO := inB3_t.mp (b2i_n.mp c8)
    refine r_aload_n C dX6_apply_15 rfl rfl ?_
    refine r_get (f := 3) C dX6_apply_16 ⟨by decide, by decide⟩ rfl rfl kU6 (by decide) kf_X6_97 rfl rfl ?_
    refine r_iconst (v := 2) C dX6_apply_19 rfl ?_
    refine r_icmplt (tgt := 32) C dX6_apply_20 (by decide) (fun c20 => ?_) (fun c20 => ?_)
    · have n20 := Int32.not_le.mpr c20
      have hfo : σ 19 0 3 < 2 ∨ k = 12 := Or.inl c20
      refine r_iconst (v := 2) C dX6_apply_32 rfl ?_
      refine r_goto (tgt := 37) C dX6_apply_33 (by decide) ?_
      refine r_put (f := 0) C dX6_apply_37 ⟨by decide, by decide⟩ rfl rfl kU6 tyX6 tyX6_ok nmX6 (by decide) kf_X6_86 rfl rfl (by decide +kernel) (Nat.le_of_ble_eq_true rfl) (by simp [cel, up3]) ?_
      refine r_aload_n C dX6_apply_40 rfl rfl ?_
      refine r_get (f := 0) (v := .int 2) C dX6_apply_41 ⟨by decide, by decide⟩ rfl rfl kU6 (by decide) kf_X6_86 rfl (by simp [up3_at]) ?_
      refine r_ifle (tgt := 51) C dX6_apply_44 (by decide) (fun c44 => ?_) (fun c44 => ?_)
      · exact absurd c44 (by decide)
      · refine r_iconst (v := 0) C dX6_apply_47 rfl ?_
        refine r_goto (tgt := 58) C dX6_apply_48 (by decide) ?_
        exact r_iret C dX6_apply_58 rfl (by decide) (Or.inr (Or.inl ⟨hO, hfo, rfl, rfl, rfl⟩))
    · have n20 := Int32.not_lt.mp c20
      refine r_aload_n C dX6_apply_23 rfl rfl ?_
      refine r_get (f := 2) (v := .int (nI k)) C dX6_apply_24 ⟨by decide, by decide⟩ rfl rfl kU6 (by decide) kf_X6_94 rfl (by rw [← hk]; rfl) ?_
      refine r_bipush (v := 12) C dX6_apply_27 rfl ?_
      refine r_icmpne (tgt := 36) C dX6_apply_29 (by decide) (fun c29 => ?_) (fun c29 => ?_)
      · have hkl : k < 12 := by
          have : ¬ k = 12 := fun q => c29 (by rw [q]; rfl)
          omega
        refine r_iconst (v := 0) C dX6_apply_36 rfl ?_
        refine r_put (f := 0) C dX6_apply_37 ⟨by decide, by decide⟩ rfl rfl kU6 tyX6 tyX6_ok nmX6 (by decide) kf_X6_86 rfl rfl (by decide +kernel) (Nat.le_of_ble_eq_true rfl) (by simp [cel, up3]) ?_
        refine r_aload_n C dX6_apply_40 rfl rfl ?_
        refine r_get (f := 0) (v := .int 0) C dX6_apply_41 ⟨by decide, by decide⟩ rfl rfl kU6 (by decide) kf_X6_86 rfl (by simp [up3_at]) ?_
        refine r_ifle (tgt := 51) C dX6_apply_44 (by decide) (fun c44 => ?_) (fun c44 => ?_)
        · refine r_aload_n C dX6_apply_51 rfl rfl ?_
          refine r_iconst (v := 2) C dX6_apply_52 rfl ?_
          refine r_iload_n C dX6_apply_53 rfl rfl ?_
          refine r_iconst (v := (-1)) C dX6_apply_54 rfl ?_
          refine r_callV C dX6_apply_55 (m_adds (up3 σ 19 0 0 0) τ 2 o (-1) k (by simpa [up3_at] using hk) hkl) rfl ⟨by decide, by decide⟩ rfl rfl kB_X6_adds rfl kI_X6_adds kV_X6_adds kl_X6_100 (by decide) (Nat.le_of_ble_eq_true rfl) (by decide) ?_
          rintro r9 σ' τ' ⟨rfl, rfl, rfl⟩
          rw [show (up3 σ 19 0 0 0) 19 0 3 = σ 19 0 3 from by simp [up3_at]]
          exact r_iret C dX6_apply_58 rfl (by decide) (Or.inr (Or.inr ⟨hO, c20, hkl, rfl, rfl, rfl⟩))
        · exact absurd (by decide) c44
      · have hkf : k = 12 := (nI_eq (by omega) (by decide)).mp c29
        have hfo : σ 19 0 3 < 2 ∨ k = 12 := Or.inr hkf
        refine r_iconst (v := 2) C dX6_apply_32 rfl ?_
        refine r_goto (tgt := 37) C dX6_apply_33 (by decide) ?_
        refine r_put (f := 0) C dX6_apply_37 ⟨by decide, by decide⟩ rfl rfl kU6 tyX6 tyX6_ok nmX6 (by decide) kf_X6_86 rfl rfl (by decide +kernel) (Nat.le_of_ble_eq_true rfl) (by simp [cel, up3]) ?_
        refine r_aload_n C dX6_apply_40 rfl rfl ?_
        refine r_get (f := 0) (v := .int 2) C dX6_apply_41 ⟨by decide, by decide⟩ rfl rfl kU6 (by decide) kf_X6_86 rfl (by simp [up3_at]) ?_
        refine r_ifle (tgt := 51) C dX6_apply_44 (by decide) (fun c44 => ?_) (fun c44 => ?_)
        · exact absurd c44 (by decide)
        · refine r_iconst (v := 0) C dX6_apply_47 rfl ?_
          refine r_goto (tgt := 58) C dX6_apply_48 (by decide) ?_
          exact r_iret C dX6_apply_58 rfl (by decide) (Or.inr (Or.inl ⟨hO, hfo, rfl, rfl, rfl⟩))
  · have hO := inB3_f.mp (b2i_0.mp c8)
    refine r_iconst (v := 1) C dX6_apply_11 rfl ?_
    refine r_goto (tgt := 37) C dX6_apply_12 (by decide) ?_
    refine r_put (f := 0) C dX6_apply_37 ⟨by decide, by decide⟩ rfl rfl kU6 tyX6 tyX6_ok nmX6 (by decide) kf_X6_86 rfl rfl (by decide +kernel) (Nat.le_of_ble_eq_true rfl) (by simp [cel, up3]) ?_
    refine r_aload_n C dX6_apply_40 rfl rfl ?_
    refine r_get (f := 0) (v := .int 1) C dX6_apply_41 ⟨by decide, by decide⟩ rfl rfl kU6 (by decide) kf_X6_86 rfl (by simp [up3_at]) ?_
    refine r_ifle (tgt := 51) C dX6_apply_44 (by decide) (fun c44 => ?_) (fun c44 => ?_)
    · exact absurd c44 (by decide)
    · refine r_iconst (v := 0) C dX6_apply_47 rfl ?_
      refine r_goto (tgt := 58) C dX6_apply_48 (by decide) ?_
      exact r_iret C dX6_apply_58 rfl (by decide) (Or.inl ⟨hO, rfl, rfl, rfl⟩)
def miS (σ : gSig) (c : Nat) (lo hi : Int32) : gSig := up3 (up3 (up3 (up3 σ 20 2 c 0) 20 5 c lo) 20 6 c hi) 20 7 c lo
set_option maxRecDepth 100000 in
set_option maxHeartbeats 4000000 in
theorem m_input {l : Launch} {D : va_G} {ad : Nat → Nat → Nat} {aC : Nat → ClassId} (σ : gSig) (τ : gTau) (cl lo hi : Int32) (hnew : ∀ c lo hi, c < 16 → (∀ d, d < 16 → msK (miS (up3 σ 19 0 0 0) c lo hi) d) ∧ ∃ rk : Nat → Nat, ∀ a b, a < 16 → b < 16 → bt (mR (miS (up3 σ 19 0 0 0) c lo hi) a) b = true → rk b < rk a) : CZ l D ad aC yX6_input cX6_input 4 (some .int) 3 [.ref (ad 19 0), .int cl, .int lo, .int hi] σ τ (fun r σ' τ' => (¬ isC cl ∧ thQ σ τ 1 r σ' τ') ∨ (isC cl ∧ ¬ (((-1000000 : Int32) ≤ lo ∧ lo ≤ 1000000) ∧ (lo ≤ hi ∧ hi ≤ 1000000)) ∧ thQ σ τ 2 r σ' τ') ∨ (∃ c, c < 16 ∧ cl = nI c ∧ (((-1000000 : Int32) ≤ lo ∧ lo ≤ 1000000) ∧ (lo ≤ hi ∧ hi ≤ 1000000)) ∧ mcQ (miS (up3 σ 19 0 0 0) c lo hi) τ c r σ' τ')) := by
  refine CZ.of (own := RX6) (by decide +kernel) rfl (Nat.le_of_ble_eq_true rfl) (fun S C => ?_)
  refine r_aload_n C dX6_input_0 rfl rfl ?_
  refine r_iload_n C dX6_input_1 rfl rfl ?_
  refine r_callS C dX6_input_2 (m_isCell σ τ cl) rfl kB_X6_isCell rfl kS_X6_isCell kl_X6_104 (by decide) (Nat.le_of_ble_eq_true rfl) (by decide) ?_
  rintro r9 σ' τ' ⟨rfl, rfl, rfl⟩
  refine r_ifne (tgt := 12) C dX6_input_5 (by decide) (fun c5 => ?_) (fun c5 => ?_)
  · have hC := isCB_t.mp (b2i_n.mp c5)
    refine r_iload_n C dX6_input_12 rfl rfl ?_
    refine r_ldc C dX6_input_13 kc_X6_124 ?_
    refine r_ldc C dX6_input_15 kc_X6_125 ?_
    refine r_callS C dX6_input_17 (m_in σ τ lo (-1000000) 1000000) rfl kB_X6_in rfl kS_X6_in kl_X6_90 (by decide) (Nat.le_of_ble_eq_true rfl) (by decide) ?_
    rintro r9 σ' τ' ⟨rfl, rfl, rfl⟩
    refine r_ifeq (tgt := 37) C dX6_input_20 (by decide) (fun c20 => ?_) (fun c20 => ?_)
    · have hA := inB3_f.mp (b2i_0.mp c20)
      have hR : ¬ (((-1000000 : Int32) ≤ lo ∧ lo ≤ 1000000) ∧ (lo ≤ hi ∧ hi ≤ 1000000)) := fun q => hA q.1
      refine r_iconst (v := 2) C dX6_input_37 rfl ?_
      refine r_put (f := 0) C dX6_input_38 ⟨by decide, by decide⟩ rfl rfl kU6 tyX6 tyX6_ok nmX6 (by decide) kf_X6_86 rfl rfl (by decide +kernel) (Nat.le_of_ble_eq_true rfl) (by simp [cel, up3]) ?_
      refine r_aload_n C dX6_input_41 rfl rfl ?_
      refine r_get (f := 0) (v := .int 2) C dX6_input_42 ⟨by decide, by decide⟩ rfl rfl kU6 (by decide) kf_X6_86 rfl (by simp [up3_at]) ?_
      refine r_ifle (tgt := 50) C dX6_input_45 (by decide) (fun c45 => ?_) (fun c45 => ?_)
      · exact absurd c45 (by decide)
      · refine r_iconst (v := 0) C dX6_input_48 rfl ?_
        exact r_iret C dX6_input_49 rfl (by decide) (Or.inr (Or.inl ⟨hC, hR, rfl, rfl, rfl⟩))
    · have hA := inB3_t.mp (b2i_n.mp c20)
      refine r_iload_n C dX6_input_23 rfl rfl ?_
      refine r_iload_n C dX6_input_24 rfl rfl ?_
      refine r_ldc C dX6_input_25 kc_X6_125 ?_
      refine r_callS C dX6_input_27 (m_in σ τ hi lo 1000000) rfl kB_X6_in rfl kS_X6_in kl_X6_90 (by decide) (Nat.le_of_ble_eq_true rfl) (by decide) ?_
      rintro r9 σ' τ' ⟨rfl, rfl, rfl⟩
      refine r_ifeq (tgt := 37) C dX6_input_30 (by decide) (fun c30 => ?_) (fun c30 => ?_)
      · have hB := inB3_f.mp (b2i_0.mp c30)
        have hR : ¬ (((-1000000 : Int32) ≤ lo ∧ lo ≤ 1000000) ∧ (lo ≤ hi ∧ hi ≤ 1000000)) := fun q => hB q.2
        refine r_iconst (v := 2) C dX6_input_37 rfl ?_
        refine r_put (f := 0) C dX6_input_38 ⟨by decide, by decide⟩ rfl rfl kU6 tyX6 tyX6_ok nmX6 (by decide) kf_X6_86 rfl rfl (by decide +kernel) (Nat.le_of_ble_eq_true rfl) (by simp [cel, up3]) ?_
        refine r_aload_n C dX6_input_41 rfl rfl ?_
        refine r_get (f := 0) (v := .int 2) C dX6_input_42 ⟨by decide, by decide⟩ rfl rfl kU6 (by decide) kf_X6_86 rfl (by simp [up3_at]) ?_
        refine r_ifle (tgt := 50) C dX6_input_45 (by decide) (fun c45 => ?_) (fun c45 => ?_)
        · exact absurd c45 (by decide)
        · refine r_iconst (v := 0) C dX6_input_48 rfl ?_
          exact r_iret C dX6_input_49 rfl (by decide) (Or.inr (Or.inl ⟨hC, hR, rfl, rfl, rfl⟩))
      · have hB := inB3_t.mp (b2i_n.mp c30)
        refine r_iconst (v := 0) C dX6_input_33 rfl ?_
        refine r_goto (tgt := 38) C dX6_input_34 (by decide) ?_
        refine r_put (f := 0) C dX6_input_38 ⟨by decide, by decide⟩ rfl rfl kU6 tyX6 tyX6_ok nmX6 (by decide) kf_X6_86 rfl rfl (by decide +kernel) (Nat.le_of_ble_eq_true rfl) (by simp [cel, up3]) ?_
        refine r_aload_n C dX6_input_41 rfl rfl ?_
        refine r_get (f := 0) (v := .int 0) C dX6_input_42 ⟨by decide, by decide⟩ rfl rfl kU6 (by decide) kf_X6_86 rfl (by simp [up3_at]) ?_
        refine r_ifle (tgt := 50) C dX6_input_45 (by decide) (fun c45 => ?_) (fun c45 => ?_)
        · obtain ⟨c, hc, rfl⟩ := isC_nI hC
          obtain ⟨hmk, rk, hrk⟩ := hnew c lo hi hc
          refine r_aload_n C dX6_input_50 rfl rfl ?_
          refine r_get (f := 6) C dX6_input_51 ⟨by decide, by decide⟩ rfl rfl kU6 (by decide) kf_X6_16 rfl rfl ?_
          refine r_iload_n C dX6_input_54 rfl rfl ?_
          refine r_iconst (v := 0) C dX6_input_55 rfl ?_
          refine r_iastv C dX6_input_56 ⟨by decide, by decide⟩ (fun _ => rfl) (vp_in_nI hc (by decide)) (nI_clamp (by omega)) ?_
          refine r_aload_n C dX6_input_57 rfl rfl ?_
          refine r_get (f := 9) C dX6_input_58 ⟨by decide, by decide⟩ rfl rfl kU6 (by decide) kf_X6_25 rfl rfl ?_
          refine r_iload_n C dX6_input_61 rfl rfl ?_
          refine r_iload_n C dX6_input_62 rfl rfl ?_
          refine r_iastv C dX6_input_63 ⟨by decide, by decide⟩ (fun _ => rfl) (vp_in_nI hc (by decide)) (nI_clamp (by omega)) ?_
          refine r_aload_n C dX6_input_64 rfl rfl ?_
          refine r_get (f := 10) C dX6_input_65 ⟨by decide, by decide⟩ rfl rfl kU6 (by decide) kf_X6_28 rfl rfl ?_
          refine r_iload_n C dX6_input_68 rfl rfl ?_
          refine r_iload_n C dX6_input_69 rfl rfl ?_
          refine r_iastv C dX6_input_70 ⟨by decide, by decide⟩ (fun _ => rfl) (vp_in_nI hc (by decide)) (nI_clamp (by omega)) ?_
          refine r_aload_n C dX6_input_71 rfl rfl ?_
          refine r_get (f := 11) C dX6_input_72 ⟨by decide, by decide⟩ rfl rfl kU6 (by decide) kf_X6_31 rfl rfl ?_
          refine r_iload_n C dX6_input_75 rfl rfl ?_
          refine r_iload_n C dX6_input_76 rfl rfl ?_
          refine r_iastv C dX6_input_77 ⟨by decide, by decide⟩ (fun _ => rfl) (vp_in_nI hc (by decide)) (nI_clamp (by omega)) ?_
          refine r_aload_n C dX6_input_78 rfl rfl ?_
          refine r_iload_n C dX6_input_79 rfl rfl ?_
          refine r_callV C dX6_input_80 (m_changes (miS (up3 σ 19 0 0 0) c lo hi) τ c hc rk hmk hrk) rfl ⟨by decide, by decide⟩ rfl rfl kB_X6_changes rfl kI_X6_changes kV_X6_changes kl_X6_121 (by decide) (Nat.le_of_ble_eq_true rfl) (by decide) ?_
          intro r9 σ' τ' hq
          have hq2 := hq
          obtain ⟨ord, o, rfl, rfl, rfl, -⟩ := hq
          exact r_iret C dX6_input_83 rfl (by decide) (Or.inr (Or.inr ⟨c, hc, rfl, ⟨hA, hB⟩, hq2⟩))
        · exact absurd (by decide) c45
  · have hC := isCB_f.mp (b2i_0.mp c5)
    refine r_iconst (v := 1) C dX6_input_8 rfl ?_
    refine r_goto (tgt := 38) C dX6_input_9 (by decide) ?_
    refine r_put (f := 0) C dX6_input_38 ⟨by decide, by decide⟩ rfl rfl kU6 tyX6 tyX6_ok nmX6 (by decide) kf_X6_86 rfl rfl (by decide +kernel) (Nat.le_of_ble_eq_true rfl) (by simp [cel, up3]) ?_
    refine r_aload_n C dX6_input_41 rfl rfl ?_
    refine r_get (f := 0) (v := .int 1) C dX6_input_42 ⟨by decide, by decide⟩ rfl rfl kU6 (by decide) kf_X6_86 rfl (by simp [up3_at]) ?_
    refine r_ifle (tgt := 50) C dX6_input_45 (by decide) (fun c45 => ?_) (fun c45 => ?_)
    · exact absurd c45 (by decide)
    · refine r_iconst (v := 0) C dX6_input_48 rfl ?_
      exact r_iret C dX6_input_49 rfl (by decide) (Or.inl ⟨hC, rfl, rfl, rfl⟩)
