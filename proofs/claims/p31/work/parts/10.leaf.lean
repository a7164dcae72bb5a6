/-! ===== leaves: printed by g10.py ===== -/
set_option maxRecDepth 100000 in
set_option maxHeartbeats 4000000 in
theorem c_has {l : Launch} {D : va_G} {ad : Nat → Nat → Nat} {aC : Nat → ClassId} (σ : gSig) (τ : gTau) (set cell : Int32) : CZ l D ad aC yX5_has cX5_has 2 (some .boolean) 0 [.int set, .int cell] σ τ (gEq (some (.int (b2i (hasB set cell)))) σ τ) := by
  refine CZ.of (own := RX5) (by decide) rfl (Nat.le_of_ble_eq_true rfl) (fun S C => ?_)
  refine r_iload_n C dX5_has_0 rfl rfl ?_
  refine r_iflt (tgt := 22) C dX5_has_1 (by decide) (fun c1 => ?_) (fun c1 => ?_)
  · refine r_iconst (v := 0) C dX5_has_22 rfl ?_
    exact r_zret C dX5_has_23 rfl (by decide) (by decide) ⟨by simp [hasB, b2i, *], rfl, rfl⟩
  · refine r_iload_n C dX5_has_4 rfl rfl ?_
    refine r_bipush (v := 16) C dX5_has_5 rfl ?_
    refine r_icmpge (tgt := 22) C dX5_has_7 (by decide) (fun c7 => ?_) (fun c7 => ?_)
    · have n7 := Int32.not_lt.mpr c7
      refine r_iconst (v := 0) C dX5_has_22 rfl ?_
      exact r_zret C dX5_has_23 rfl (by decide) (by decide) ⟨by simp [hasB, b2i, *], rfl, rfl⟩
    · have n7 := Int32.not_le.mp c7
      refine r_iload_n C dX5_has_10 rfl rfl ?_
      refine r_iload_n C dX5_has_11 rfl rfl ?_
      refine r_ishr C dX5_has_12 ?_
      refine r_iconst (v := 1) C dX5_has_13 rfl ?_
      refine r_iand C dX5_has_14 ?_
      refine r_ifeq (tgt := 22) C dX5_has_15 (by decide) (fun c15 => ?_) (fun c15 => ?_)
      · refine r_iconst (v := 0) C dX5_has_22 rfl ?_
        exact r_zret C dX5_has_23 rfl (by decide) (by decide) ⟨by simp [hasB, b2i, *], rfl, rfl⟩
      · refine r_iconst (v := 1) C dX5_has_18 rfl ?_
        refine r_goto (tgt := 23) C dX5_has_19 (by decide) ?_
        exact r_zret C dX5_has_23 rfl (by decide) (by decide) ⟨by simp [hasB, b2i, *], rfl, rfl⟩
def gPX (E0 : String) (σ0 : gSig) (τ0 : gTau) : String → gSig → gTau → Prop := fun E σ τ => E0 = E ∧ σ0 = σ ∧ τ0 = τ
abbrev xIOB : String := "java/lang/IndexOutOfBoundsException"
abbrev xIAE : String := "java/lang/IllegalArgumentException"
abbrev xISE : String := "java/lang/IllegalStateException"
abbrev xARI : String := "java/lang/ArithmeticException"
abbrev xNSE : String := "java/util/NoSuchElementException"
set_option maxRecDepth 100000 in
set_option maxHeartbeats 4000000 in
theorem c_needCell {l : Launch} {D : va_G} {ad : Nat → Nat → Nat} {aC : Nat → ClassId} (σ : gSig) (τ : gTau) (cell : Int32) : CT l D ad aC yX5_needCell cX5_needCell 1 none 6 1 [.int cell] σ τ (fun r σ' τ' => gEq none σ τ r σ' τ' ∧ isC cell) (fun E σ' τ' => E = xIOB ∧ σ = σ' ∧ τ = τ' ∧ ¬ isC cell) := by
  refine CT.of (own := RX5) (by decide) rfl (Nat.le_of_ble_eq_true rfl) (fun S C => ?_)
  refine r_iload_n C dX5_needCell_0 rfl rfl ?_
  refine r_iflt (tgt := 10) C dX5_needCell_1 (by decide) (fun c1 => ?_) (fun c1 => ?_)
  · obtain ⟨⟨t1, t2⟩, ⟨t3, t4⟩, t5, t6⟩ := kt_X5_238_242
    exact r_throw (is := 246) (text := "no such cell") C trivial t1 t2 t3 t4 (by decide +kernel) t5 dX5_needCell_10 dX5_needCell_13 dX5_needCell_14 dX5_needCell_16 dX5_needCell_19 (by decide) (by decide) (by decide) t6 ⟨rfl, rfl, rfl, by simp [isC, *]⟩
  · refine r_iload_n C dX5_needCell_4 rfl rfl ?_
    refine r_bipush (v := 16) C dX5_needCell_5 rfl ?_
    refine r_icmplt (tgt := 20) C dX5_needCell_7 (by decide) (fun c7 => ?_) (fun c7 => ?_)
    · have n7 := Int32.not_le.mpr c7
      exact r_ret C dX5_needCell_20 rfl (by decide) ⟨⟨rfl, rfl, rfl⟩, by simp [isC, *]⟩
    · have n7 := Int32.not_lt.mp c7
      obtain ⟨⟨t1, t2⟩, ⟨t3, t4⟩, t5, t6⟩ := kt_X5_238_242
      exact r_throw (is := 246) (text := "no such cell") C trivial t1 t2 t3 t4 (by decide +kernel) t5 dX5_needCell_10 dX5_needCell_13 dX5_needCell_14 dX5_needCell_16 dX5_needCell_19 (by decide) (by decide) (by decide) t6 ⟨rfl, rfl, rfl, by simp [isC, *]⟩
