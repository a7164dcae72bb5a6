/-! ===== leaves of the formulas, and library methods: printed by g11.py ===== -/
set_option maxRecDepth 100000 in
set_option maxHeartbeats 4000000 in
theorem c_floorMod {l : Launch} {D : va_G} {ad : Nat → Nat → Nat} {aC : Nat → ClassId} (σ : gSig) (τ : gTau) (x y : Int32) (hy : ¬ y = 0) : CZ l D ad aC yJ9_floorMod_7cf53 cJ9_floorMod_7cf53 3 (some .int) 0 [.int x, .int y] σ τ (gEq (some (.int (fmJ x y))) σ τ) := by
  refine CZ.ofF (own := RJ9) (by decide +kernel) rfl (Nat.le_of_ble_eq_true rfl) (fun S C => ?_)
  refine r_iload_n C dJ9_floorMod_7cf53_0 rfl rfl ?_
  refine r_iload_n C dJ9_floorMod_7cf53_1 rfl rfl ?_
  refine r_irem C dJ9_floorMod_7cf53_2 hy ?_
  refine r_istore_n C dJ9_floorMod_7cf53_3 rfl (by decide) rfl ?_
  refine r_iload_n C dJ9_floorMod_7cf53_4 rfl rfl ?_
  refine r_iload_n C dJ9_floorMod_7cf53_5 rfl rfl ?_
  refine r_ixor C dJ9_floorMod_7cf53_6 ?_
  refine r_ifge (tgt := 18) C dJ9_floorMod_7cf53_7 (by decide) (fun c7 => ?_) (fun c7 => ?_)
  · refine r_iload_n C dJ9_floorMod_7cf53_18 rfl rfl ?_
    exact r_iret C dJ9_floorMod_7cf53_19 rfl (by decide) ⟨by simp [fmJ, *], rfl, rfl⟩
  · refine r_iload_n C dJ9_floorMod_7cf53_10 rfl rfl ?_
    refine r_ifeq (tgt := 18) C dJ9_floorMod_7cf53_11 (by decide) (fun c11 => ?_) (fun c11 => ?_)
    · refine r_iload_n C dJ9_floorMod_7cf53_18 rfl rfl ?_
      exact r_iret C dJ9_floorMod_7cf53_19 rfl (by decide) ⟨by simp [fmJ, *], rfl, rfl⟩
    · refine r_iload_n C dJ9_floorMod_7cf53_14 rfl rfl ?_
      refine r_iload_n C dJ9_floorMod_7cf53_15 rfl rfl ?_
      refine r_iadd C dJ9_floorMod_7cf53_16 ?_
      exact r_iret C dJ9_floorMod_7cf53_17 rfl (by decide) ⟨by simp [fmJ, *], rfl, rfl⟩
set_option maxRecDepth 100000 in
set_option maxHeartbeats 4000000 in
theorem c_bitCount {l : Launch} {D : va_G} {ad : Nat → Nat → Nat} {aC : Nat → ClassId} (σ : gSig) (τ : gTau) (x : Int32) : CZ l D ad aC yJ6_bitCount_0f7a4 cJ6_bitCount_0f7a4 1 (some .int) 0 [.int x] σ τ (gEq (some (.int (bcJ x))) σ τ) := by
  refine CZ.ofF (own := RJ6) (by decide +kernel) rfl (Nat.le_of_ble_eq_true rfl) (fun S C => ?_)
  refine r_iload_n C dJ6_bitCount_0f7a4_0 rfl rfl ?_
  refine r_iload_n C dJ6_bitCount_0f7a4_1 rfl rfl ?_
  refine r_iconst (v := 1) C dJ6_bitCount_0f7a4_2 rfl ?_
  refine r_iushr C dJ6_bitCount_0f7a4_3 rfl ?_
  refine r_ldcw C dJ6_bitCount_0f7a4_4 kc_J6_265 ?_
  refine r_iand C dJ6_bitCount_0f7a4_7 ?_
  refine r_isub C dJ6_bitCount_0f7a4_8 ?_
  refine r_istore_n C dJ6_bitCount_0f7a4_9 rfl (by decide) rfl ?_
  refine r_iload_n C dJ6_bitCount_0f7a4_10 rfl rfl ?_
  refine r_ldcw C dJ6_bitCount_0f7a4_11 kc_J6_266 ?_
  refine r_iand C dJ6_bitCount_0f7a4_14 ?_
  refine r_iload_n C dJ6_bitCount_0f7a4_15 rfl rfl ?_
  refine r_iconst (v := 2) C dJ6_bitCount_0f7a4_16 rfl ?_
  refine r_iushr C dJ6_bitCount_0f7a4_17 rfl ?_
  refine r_ldcw C dJ6_bitCount_0f7a4_18 kc_J6_266 ?_
  refine r_iand C dJ6_bitCount_0f7a4_21 ?_
  refine r_iadd C dJ6_bitCount_0f7a4_22 ?_
  refine r_istore_n C dJ6_bitCount_0f7a4_23 rfl (by decide) rfl ?_
  refine r_iload_n C dJ6_bitCount_0f7a4_24 rfl rfl ?_
  refine r_iload_n C dJ6_bitCount_0f7a4_25 rfl rfl ?_
  refine r_iconst (v := 4) C dJ6_bitCount_0f7a4_26 rfl ?_
  refine r_iushr C dJ6_bitCount_0f7a4_27 rfl ?_
  refine r_iadd C dJ6_bitCount_0f7a4_28 ?_
  refine r_ldcw C dJ6_bitCount_0f7a4_29 kc_J6_267 ?_
  refine r_iand C dJ6_bitCount_0f7a4_32 ?_
  refine r_istore_n C dJ6_bitCount_0f7a4_33 rfl (by decide) rfl ?_
  refine r_iload_n C dJ6_bitCount_0f7a4_34 rfl rfl ?_
  refine r_iload_n C dJ6_bitCount_0f7a4_35 rfl rfl ?_
  refine r_bipush (v := 8) C dJ6_bitCount_0f7a4_36 rfl ?_
  refine r_iushr C dJ6_bitCount_0f7a4_38 rfl ?_
  refine r_iadd C dJ6_bitCount_0f7a4_39 ?_
  refine r_istore_n C dJ6_bitCount_0f7a4_40 rfl (by decide) rfl ?_
  refine r_iload_n C dJ6_bitCount_0f7a4_41 rfl rfl ?_
  refine r_iload_n C dJ6_bitCount_0f7a4_42 rfl rfl ?_
  refine r_bipush (v := 16) C dJ6_bitCount_0f7a4_43 rfl ?_
  refine r_iushr C dJ6_bitCount_0f7a4_45 rfl ?_
  refine r_iadd C dJ6_bitCount_0f7a4_46 ?_
  refine r_istore_n C dJ6_bitCount_0f7a4_47 rfl (by decide) rfl ?_
  refine r_iload_n C dJ6_bitCount_0f7a4_48 rfl rfl ?_
  refine r_bipush (v := 63) C dJ6_bitCount_0f7a4_49 rfl ?_
  refine r_iand C dJ6_bitCount_0f7a4_51 ?_
  exact r_iret C dJ6_bitCount_0f7a4_52 rfl (by decide) ⟨rfl, rfl, rfl⟩
/-- what a leaf is worth by the row of what was reckoned -/
def lfV (V : Nat → Int64) (kd num : Int32) : Int64 := if kd = 12 then num.toInt64 else if num < 0 then gF else if (16 : Int32) ≤ num then gF else V num.toNatClampNeg
set_option maxRecDepth 100000 in
set_option maxHeartbeats 4000000 in
theorem c_leaf {l : Launch} {D : va_G} {ad : Nat → Nat → Nat} {aC : Nat → ClassId} (σ : gSig) (τ : gTau) (kd num : Int32) : CZ l D ad aC yX0_leaf cX0_leaf 3 (some .long) 0 [.int kd, .int num, .ref (ad 8 0)] σ τ (gEq (some (.long (lfV (τ 8) kd num))) σ τ) := by
  refine CZ.of (own := RX0) (by decide +kernel) rfl (Nat.le_of_ble_eq_true rfl) (fun S C => ?_)
  refine r_iload_n C dX0_leaf_0 rfl rfl ?_
  refine r_bipush (v := 12) C dX0_leaf_1 rfl ?_
  refine r_icmpne (tgt := 9) C dX0_leaf_3 (by decide) (fun c3 => ?_) (fun c3 => ?_)
  · refine r_iload_n C dX0_leaf_9 rfl rfl ?_
    refine r_iflt (tgt := 25) C dX0_leaf_10 (by decide) (fun c10 => ?_) (fun c10 => ?_)
    · refine r_ldc2 C dX0_leaf_25 kc_X0_42 ?_
      exact r_lret C dX0_leaf_28 rfl (by decide) ⟨by simp [lfV, *], rfl, rfl⟩
    · refine r_iload_n C dX0_leaf_13 rfl rfl ?_
      refine r_aload_n C dX0_leaf_14 rfl rfl ?_
      refine r_alen (v := 16) C dX0_leaf_15 ⟨by decide, by decide⟩ rfl (t0 := 1) rfl rfl ?_
      refine r_icmpge (tgt := 25) C dX0_leaf_16 (by decide) (fun c16 => ?_) (fun c16 => ?_)
      · have n16 := Int32.not_lt.mpr c16
        refine r_ldc2 C dX0_leaf_25 kc_X0_42 ?_
        exact r_lret C dX0_leaf_28 rfl (by decide) ⟨by simp [lfV, *], rfl, rfl⟩
      · have n16 := Int32.not_le.mp c16
        refine r_aload_n C dX0_leaf_19 rfl rfl ?_
        refine r_iload_n C dX0_leaf_20 rfl rfl ?_
        obtain ⟨j, hj, rfl⟩ := isC_nI ⟨‹¬ num < 0›, Int32.not_le.mp ‹¬ (16 : Int32) ≤ num›⟩
        have hcl : (nI j).toNatClampNeg = j := nI_clamp (by omega)
        refine r_laldv C dX0_leaf_21 ⟨by decide, by decide⟩ rfl (vp_in_nI hj (by decide)) (by rw [hcl]) ?_
        refine r_goto (tgt := 28) C dX0_leaf_22 (by decide) ?_
        exact r_lret C dX0_leaf_28 rfl (by decide) ⟨by simp [lfV, *], rfl, rfl⟩
  · refine r_iload_n C dX0_leaf_6 rfl rfl ?_
    refine r_i2l C dX0_leaf_7 ?_
    exact r_lret C dX0_leaf_8 rfl (by decide) ⟨by simp [lfV, *], rfl, rfl⟩
set_option maxRecDepth 100000 in
set_option maxHeartbeats 4000000 in
theorem c_clear {l : Launch} {D : va_G} {ad : Nat → Nat → Nat} {aC : Nat → ClassId} (σ : gSig) (τ : gTau) (c : Nat) (hc : c < 17) : CZ l D ad aC yX0_clear cX0_clear 1 none 0 [.ref (ad 1 c)] σ τ (gEq none (up3 (up3 σ 1 c 3 0) 1 c 4 0) τ) := by
  refine CZ.of (own := RX0) (by decide +kernel) rfl (Nat.le_of_ble_eq_true rfl) (fun S C => ?_)
  refine r_aload_n C dX0_clear_0 rfl rfl ?_
  refine r_iconst (v := 0) C dX0_clear_1 rfl ?_
  refine r_put (f := 3) C dX0_clear_2 ⟨by decide, hc⟩ rfl rfl kU0 tyX0 tyX0_ok nmX0 (by decide) kf_X0_21 rfl rfl (by decide +kernel) (Nat.le_of_ble_eq_true rfl) (by simp [cel, up3]) ?_
  refine r_aload_n C dX0_clear_5 rfl rfl ?_
  refine r_iconst (v := 0) C dX0_clear_6 rfl ?_
  refine r_put (f := 4) C dX0_clear_7 ⟨by decide, hc⟩ rfl rfl kU0 tyX0 tyX0_ok nmX0 (by decide) kf_X0_25 rfl rfl (by decide +kernel) (Nat.le_of_ble_eq_true rfl) (by simp [cel, up3]) ?_
  exact r_ret C dX0_clear_10 rfl (by decide) ⟨rfl, rfl, rfl⟩
