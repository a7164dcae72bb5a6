/-! ===== the law's model: the locks asked: printed by g40.py ===== -/
def mLK (σ : gSig) (fl wv : Int32) (o : Nat → Nat) : Prop := ordI (σ 20 19) o 16 ∧ (∀ c, c < 16 → msK σ c) ∧ (∀ c, c < 16 → bt fl c = decide (σ 20 12 c = 2)) ∧ ∀ c, c < 16 → bt wv c = mWv σ c
theorem mLK_t {σ : gSig} {fl wv : Int32} {o : Nat → Nat} (t : Int32) (h : mLK σ fl wv o) : mLK (up3 σ 19 0 0 t) fl wv o := by
  obtain ⟨a, b, c, d⟩ := h
  refine ⟨by rw [up3_ne _ _ _ _ _ (by simp)]; exact a, fun z hz => msK_up3 _ _ _ _ (by decide) (b z hz), fun z hz => by rw [up3_ne _ _ _ _ _ (by simp)]; exact c z hz, fun z hz => ?_⟩
  rw [d z hz]
  unfold mWv
  simp [up3_at]
theorem m_locksK {l : Launch} {D : va_G} {ad : Nat → Nat → Nat} {aC : Nat → ClassId} (σ : gSig) (τ : gTau) (fl wv : Int32) (o : Nat → Nat) (h : mLK σ fl wv o) : CZ l D ad aC yX6_locks cX6_locks 5 (some .int) 1 [.ref (ad 19 0)] σ τ (gEq (some (.int (lkF (mR σ) fl wv o 16))) σ τ) := m_locks σ τ fl wv o h.1 h.2.1 h.2.2.1 h.2.2.2
set_option maxRecDepth 100000 in
set_option maxHeartbeats 1000000 in
theorem m_locked {l : Launch} {D : va_G} {ad : Nat → Nat → Nat} {aC : Nat → ClassId} (σ : gSig) (τ : gTau) (fl wv : Int32) (o : Nat → Nat) (hL : mLK σ fl wv o) : CZ l D ad aC yX6_locked cX6_locked 1 (some .int) 2 [.ref (ad 19 0)] σ τ (gEq (some (.int (btF (lkF (mR σ) fl wv o 16) 16))) (up3 σ 19 0 0 0) τ) := by
  refine CZ.of (own := RX6) (by decide +kernel) rfl (Nat.le_of_ble_eq_true rfl) (fun S C => ?_)
  refine r_aload_n C dX6_locked_0 rfl rfl ?_
  refine r_iconst (v := 0) C dX6_locked_1 rfl ?_
  refine r_put (f := 0) C dX6_locked_2 ⟨by decide, by decide⟩ rfl rfl kU6 tyX6 tyX6_ok nmX6 (by decide) kf_X6_86 rfl rfl (by decide +kernel) (Nat.le_of_ble_eq_true rfl) (by simp [cel, up3]) ?_
  refine r_aload_n C dX6_locked_5 rfl rfl ?_
  refine r_callV C dX6_locked_6 (m_locksK (up3 σ 19 0 0 0) τ fl wv o (mLK_t 0 hL)) rfl ⟨by decide, by decide⟩ rfl rfl kB_X6_locks rfl kI_X6_locks kV_X6_locks kl_X6_150 (by decide) (Nat.le_of_ble_eq_true rfl) (by decide) ?_
  rintro r9 σ' τ' ⟨rfl, rfl, rfl⟩
  rw [mR_up3 _ _ _ _ _ (by decide)]
  refine r_callS C dX6_locked_9 (m_bits (up3 σ 19 0 0 0) τ (lkF (mR σ) fl wv o 16)) rfl kB_X6_bits rfl kS_X6_bits kl_X6_164 (by decide) (Nat.le_of_ble_eq_true rfl) (by decide) ?_
  rintro r9 σ' τ' ⟨rfl, rfl, rfl⟩
  exact r_iret C dX6_locked_12 rfl (by decide) ⟨rfl, rfl, rfl⟩
set_option maxRecDepth 100000 in
set_option maxHeartbeats 1000000 in
theorem m_isLocked {l : Launch} {D : va_G} {ad : Nat → Nat → Nat} {aC : Nat → ClassId} (σ : gSig) (τ : gTau) (cl : Int32) (fl wv : Int32) (o : Nat → Nat) (hL : mLK σ fl wv o) : CZ l D ad aC yX6_isLocked cX6_isLocked 2 (some .boolean) 2 [.ref (ad 19 0), .int cl] σ τ (fun r σ' τ' => (¬ isC cl ∧ thQ σ τ 1 r σ' τ') ∨ ∃ c, c < 16 ∧ cl = nI c ∧ gEq (some (.int (b2i (bt (lkF (mR σ) fl wv o 16) c)))) (up3 σ 19 0 0 0) τ r σ' τ') := by
  refine CZ.of (own := RX6) (by decide +kernel) rfl (Nat.le_of_ble_eq_true rfl) (fun S C => ?_)
  refine r_aload_n C dX6_isLocked_0 rfl rfl ?_
  refine r_iload_n C dX6_isLocked_1 rfl rfl ?_
  refine r_callS C dX6_isLocked_2 (m_isCell σ τ cl) rfl kB_X6_isCell rfl kS_X6_isCell kl_X6_104 (by decide) (Nat.le_of_ble_eq_true rfl) (by decide) ?_
  rintro r9 σ' τ' ⟨rfl, rfl, rfl⟩
  refine r_ifeq (tgt := 12) C dX6_isLocked_5 (by decide) (fun c5 => ?_) (fun c5 => ?_)
  · have hC := isCB_f.mp (b2i_0.mp c5)
    refine r_iconst (v := 1) C dX6_isLocked_12 rfl ?_
    refine r_put (f := 0) C dX6_isLocked_13 ⟨by decide, by decide⟩ rfl rfl kU6 tyX6 tyX6_ok nmX6 (by decide) kf_X6_86 rfl rfl (by decide +kernel) (Nat.le_of_ble_eq_true rfl) (by simp [cel, up3]) ?_
    refine r_aload_n C dX6_isLocked_16 rfl rfl ?_
    refine r_get (f := 0) (v := .int 1) C dX6_isLocked_17 ⟨by decide, by decide⟩ rfl rfl kU6 (by decide) kf_X6_86 rfl (by simp [up3_at]) ?_
    refine r_ifne (tgt := 39) C dX6_isLocked_20 (by decide) (fun c20 => ?_) (fun c20 => ?_)
    · refine r_iconst (v := 0) C dX6_isLocked_39 rfl ?_
      exact r_zret C dX6_isLocked_40 rfl (by decide) (by decide) (Or.inl ⟨hC, rfl, rfl, rfl⟩)
    · exact absurd c20 (by decide)
  · have hC := isCB_t.mp (b2i_n.mp c5)
    obtain ⟨c, hc, rfl⟩ := isC_nI hC
    refine r_iconst (v := 0) C dX6_isLocked_8 rfl ?_
    refine r_goto (tgt := 13) C dX6_isLocked_9 (by decide) ?_
    refine r_put (f := 0) C dX6_isLocked_13 ⟨by decide, by decide⟩ rfl rfl kU6 tyX6 tyX6_ok nmX6 (by decide) kf_X6_86 rfl rfl (by decide +kernel) (Nat.le_of_ble_eq_true rfl) (by simp [cel, up3]) ?_
    refine r_aload_n C dX6_isLocked_16 rfl rfl ?_
    refine r_get (f := 0) (v := .int 0) C dX6_isLocked_17 ⟨by decide, by decide⟩ rfl rfl kU6 (by decide) kf_X6_86 rfl (by simp [up3_at]) ?_
    refine r_ifne (tgt := 39) C dX6_isLocked_20 (by decide) (fun c20 => ?_) (fun c20 => ?_)
    · exact absurd (by decide) c20
    · refine r_aload_n C dX6_isLocked_23 rfl rfl ?_
      refine r_callV C dX6_isLocked_24 (m_locksK (up3 σ 19 0 0 0) τ fl wv o (mLK_t 0 hL)) rfl ⟨by decide, by decide⟩ rfl rfl kB_X6_locks rfl kI_X6_locks kV_X6_locks kl_X6_150 (by decide) (Nat.le_of_ble_eq_true rfl) (by decide) ?_
      rintro r9 σ' τ' ⟨rfl, rfl, rfl⟩
      rw [mR_up3 _ _ _ _ _ (by decide)]
      refine r_iload_n C dX6_isLocked_27 rfl rfl ?_
      refine r_ishr C dX6_isLocked_28 ?_
      refine r_iconst (v := 1) C dX6_isLocked_29 rfl ?_
      refine r_iand C dX6_isLocked_30 ?_
      refine r_iconst (v := 1) C dX6_isLocked_31 rfl ?_
      refine r_icmpne (tgt := 39) C dX6_isLocked_32 (by decide) (fun c32 => ?_) (fun c32 => ?_)
      · have hr : bt (lkF (mR σ) fl wv o 16) c = false := by
          cases hb : bt (lkF (mR σ) fl wv o 16) c with
          | false => rfl
          | true => exact absurd ((bt_sh1 (by omega) _).mpr hb) c32
        refine r_iconst (v := 0) C dX6_isLocked_39 rfl ?_
        exact r_zret C dX6_isLocked_40 rfl (by decide) (by decide) (Or.inr ⟨c, hc, rfl, by rw [hr]; rfl, rfl, rfl⟩)
      · have hr : bt (lkF (mR σ) fl wv o 16) c = true := (bt_sh1 (by omega) _).mp c32
        refine r_iconst (v := 1) C dX6_isLocked_35 rfl ?_
        refine r_goto (tgt := 40) C dX6_isLocked_36 (by decide) ?_
        exact r_zret C dX6_isLocked_40 rfl (by decide) (by decide) (Or.inr ⟨c, hc, rfl, by rw [hr]; rfl, rfl, rfl⟩)
theorem in_u {i : Int32} {u : Nat} (hu : u ≤ 16) (h : (0 : Int32) ≤ i ∧ i ≤ nI u - 1) : ∃ k, k < u ∧ i = nI k := by
  have h0 := (fa_le _ _).mp h.1
  have z0 : (0 : Int32).toInt = 0 := by decide
  rcases Nat.eq_zero_or_pos u with e | e
  · subst e
    have h1 := (fa_le _ _).mp h.2
    have z1 : (nI 0 - 1).toInt = -1 := by decide
    omega
  · obtain ⟨v, rfl⟩ : ∃ v, u = v + 1 := ⟨u - 1, by omega⟩
    rw [nI_s1] at h
    have hlt : i < 16 := by
      have h1 := (fa_le _ _).mp h.2
      have h2 := (fa_lt (nI v) 16).mp ((nI_ltI (by omega) (by decide)).mpr (show v < 16 by omega))
      exact (fa_lt _ _).mpr (by omega)
    obtain ⟨k, hk, rfl⟩ := isC_nI ⟨fun q => by have := (fa_lt _ _).mp q; omega, hlt⟩
    exact ⟨k, by have := (nI_leI (by omega) (by omega)).mp h.2; omega, rfl⟩
set_option maxRecDepth 100000 in
set_option maxHeartbeats 1000000 in
theorem m_unlockedAt {l : Launch} {D : va_G} {ad : Nat → Nat → Nat} {aC : Nat → ClassId} (σ : gSig) (τ : gTau) (i : Int32) (u : Nat) (hu : σ 19 0 22 = nI u) (hu16 : u ≤ 16) : CZ l D ad aC yX6_unlockedAt cX6_unlockedAt 2 (some .int) 1 [.ref (ad 19 0), .int i] σ τ (fun r σ' τ' => (¬ ((0 : Int32) ≤ i ∧ i ≤ nI u - 1) ∧ thQ σ τ 1 r σ' τ') ∨ ∃ k, k < u ∧ i = nI k ∧ gEq (some (.int (σ 20 18 k))) (up3 σ 19 0 0 0) τ r σ' τ') := by
  refine CZ.of (own := RX6) (by decide +kernel) rfl (Nat.le_of_ble_eq_true rfl) (fun S C => ?_)
  refine r_aload_n C dX6_unlockedAt_0 rfl rfl ?_
  refine r_iconst (v := 0) C dX6_unlockedAt_1 rfl ?_
  refine r_put (f := 0) C dX6_unlockedAt_2 ⟨by decide, by decide⟩ rfl rfl kU6 tyX6 tyX6_ok nmX6 (by decide) kf_X6_86 rfl rfl (by decide +kernel) (Nat.le_of_ble_eq_true rfl) (by simp [cel, up3]) ?_
  refine r_iload_n C dX6_unlockedAt_5 rfl rfl ?_
  refine r_iconst (v := 0) C dX6_unlockedAt_6 rfl ?_
  refine r_aload_n C dX6_unlockedAt_7 rfl rfl ?_
  refine r_get (f := 22) (v := .int (nI u)) C dX6_unlockedAt_8 ⟨by decide, by decide⟩ rfl rfl kU6 (by decide) kf_X6_154 rfl (by simpa [up3_at] using hu) ?_
  refine r_iconst (v := 1) C dX6_unlockedAt_11 rfl ?_
  refine r_isub C dX6_unlockedAt_12 ?_
  refine r_callS C dX6_unlockedAt_13 (m_in (up3 σ 19 0 0 0) τ i 0 (nI u - 1)) rfl kB_X6_in rfl kS_X6_in kl_X6_90 (by decide) (Nat.le_of_ble_eq_true rfl) (by decide) ?_
  rintro r9 σ' τ' ⟨rfl, rfl, rfl⟩
  refine r_ifeq (tgt := 28) C dX6_unlockedAt_16 (by decide) (fun c16 => ?_) (fun c16 => ?_)
  · have hI := inB3_f.mp (b2i_0.mp c16)
    refine r_aload_n C dX6_unlockedAt_28 rfl rfl ?_
    refine r_iconst (v := 1) C dX6_unlockedAt_29 rfl ?_
    refine r_callV C dX6_unlockedAt_30 (m_fails (up3 σ 19 0 0 0) τ 1) rfl ⟨by decide, by decide⟩ rfl rfl kB_X6_fails rfl kI_X6_fails kV_X6_fails kl_X6_118 (by decide) (Nat.le_of_ble_eq_true rfl) (by decide) ?_
    rintro r9 σ' τ' ⟨rfl, rfl, rfl⟩
    rw [up3_up3]
    exact r_iret C dX6_unlockedAt_33 rfl (by decide) (Or.inl ⟨hI, rfl, rfl, rfl⟩)
  · have hI := inB3_t.mp (b2i_n.mp c16)
    obtain ⟨k, hk, rfl⟩ := in_u hu16 hI
    refine r_aload_n C dX6_unlockedAt_19 rfl rfl ?_
    refine r_get (f := 23) C dX6_unlockedAt_20 ⟨by decide, by decide⟩ rfl rfl kU6 (by decide) kf_X6_64 rfl rfl ?_
    refine r_iload_n C dX6_unlockedAt_23 rfl rfl ?_
    refine r_ialdv (v := σ 20 18 k) C dX6_unlockedAt_24 ⟨by decide, by decide⟩ rfl (vp_in_nI (show k < 16 by omega) (by decide)) (by rw [nI_clamp (by omega)]; simp [up3_at]) ?_
    refine r_goto (tgt := 33) C dX6_unlockedAt_25 (by decide) ?_
    exact r_iret C dX6_unlockedAt_33 rfl (by decide) (Or.inr ⟨k, hk, rfl, rfl, rfl, rfl⟩)
