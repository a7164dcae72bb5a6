/-! ===== Gridprobe.example: printed by g49.py ===== -/
theorem kz_nse : (Bundle.fit "java/util/NoSuchElementException" = true ∧ Bundle.fit "java/lang/RuntimeException" = true ∧ (∀ n ∈ ["java/lang/Exception"], Bundle.fit n = true)) ∧ (Jvm.Cond.classLink RX5 216 "java/util/NoSuchElementException" ∈ wsG ∧ Jvm.Cond.initialized "java/util/NoSuchElementException" ∈ wsG) ∧ (∀ w ∈ vz_at RX5 220 "java/util/NoSuchElementException" "java/lang/RuntimeException" ["java/lang/Exception"], (goodWord w = true ∧ w ∈ lw_tbl) ∨ w ∈ gNw) ∧ ∀ w ∈ Jvm.Cond.classLink RX5 216 "java/util/NoSuchElementException" :: Jvm.Cond.initialized "java/util/NoSuchElementException" :: vz_at RX5 220 "java/util/NoSuchElementException" "java/lang/RuntimeException" ["java/lang/Exception"], vx_ot w = true := ⟨by decide +kernel, ⟨wsG_of (by decide +kernel) (by decide +kernel), wsG_of (by decide +kernel) (by decide +kernel)⟩, by decide +kernel, by decide +kernel⟩
set_option maxRecDepth 100000 in
set_option maxHeartbeats 4000000 in
theorem c_example {l : Launch} {D : va_G} {ad : Nat → Nat → Nat} {aC : Nat → ClassId} (σ : gSig) (τ : gTau) (cl il : Int32) : CT l D ad aC yX5_example cX5_example 3 (some .int) 8 3 [.ref (ad 0 0), .int cl, .int il] σ τ (fun r σ' τ' => ∃ c i, c < 16 ∧ i < 16 ∧ cl = nI c ∧ il = nI i ∧ (bt (σ 13 0 6) c = true ∧ bt (σ 14 3 c) i = true) ∧ gEq (some (.int (σ 16 c i))) σ τ r σ' τ') (fun E σ' τ' => ((E = xIOB ∧ ¬ (isC cl ∧ isC il)) ∨ (E = xNSE ∧ ∃ c i, c < 16 ∧ i < 16 ∧ cl = nI c ∧ il = nI i ∧ ¬ (bt (σ 13 0 6) c = true ∧ bt (σ 14 3 c) i = true))) ∧ σ = σ' ∧ τ = τ') := by
  refine CT.of (own := RX5) (by decide +kernel) rfl (Nat.le_of_ble_eq_true rfl) (fun S C => ?_)
  refine r_iload_n C dX5_example_0 rfl rfl ?_
  refine r_callSX C trivial dX5_example_1 (c_needCell σ τ cl) rfl kB_X5_needCell rfl kS_X5_needCell kl_X5_59 (by decide) (Nat.le_of_ble_eq_true rfl) (by decide) ?_ ?_
  · rintro E σ' τ' ⟨rfl, rfl, rfl, hx⟩
    exact ⟨Or.inl ⟨rfl, fun q => hx q.1⟩, rfl, rfl⟩
  rintro r9 σ' τ' ⟨⟨rfl, rfl, rfl⟩, hcell⟩
  obtain ⟨c, hc, rfl⟩ := isC_nI hcell
  have hcellc := hcell
  clear hcell
  refine r_iload_n C dX5_example_4 rfl rfl ?_
  refine r_callSX C trivial dX5_example_5 (c_needCell σ τ il) rfl kB_X5_needCell rfl kS_X5_needCell kl_X5_59 (by decide) (Nat.le_of_ble_eq_true rfl) (by decide) ?_ ?_
  · rintro E σ' τ' ⟨rfl, rfl, rfl, hx⟩
    exact ⟨Or.inl ⟨rfl, fun q => hx q.2⟩, rfl, rfl⟩
  rintro r9 σ' τ' ⟨⟨rfl, rfl, rfl⟩, hcell⟩
  obtain ⟨i, hi, rfl⟩ := isC_nI hcell
  refine r_aload_n C dX5_example_8 rfl rfl ?_
  refine r_get (f := 3) C dX5_example_9 ⟨by decide, by decide⟩ rfl rfl kU5 (by decide) kf_X5_33 rfl rfl ?_
  refine r_get (f := 6) C dX5_example_12 ⟨by decide, by decide⟩ rfl rfl kU4 (by decide) kf_X5_138 rfl rfl ?_
  refine r_iload_n C dX5_example_15 rfl rfl ?_
  refine r_callS C dX5_example_16 (c_has σ τ (σ 13 0 6) (nI c)) rfl kB_X5_has rfl kS_X5_has kl_X5_141 (by decide) (Nat.le_of_ble_eq_true rfl) (by decide) ?_
  rintro r9 σ' τ' ⟨rfl, rfl, rfl⟩
  rw [hasB_bt hc]
  refine r_ifeq (tgt := 38) C dX5_example_19 (by decide) (fun c19 => ?_) (fun c19 => ?_)
  · have h19 := b2i_0.mp c19
    have hno : ¬ (bt (σ 13 0 6) c = true ∧ bt (σ 14 3 c) i = true) := fun q => by rw [q.1] at h19; cases h19
    obtain ⟨⟨t1, t0, t2⟩, ⟨t3, t4⟩, t5, t6⟩ := kz_nse
    exact r_throwZ (is := 218) (text := "no example, or no input then") C trivial t1 t0 t2 t3 t4 (by decide +kernel) t5 dX5_example_38 dX5_example_41 dX5_example_42 dX5_example_44 dX5_example_47 (by decide) (Nat.le_of_ble_eq_true rfl) (by decide) t6 (⟨Or.inr ⟨rfl, c, i, hc, hi, rfl, rfl, hno⟩, rfl, rfl⟩)
  · have h19 := b2i_n.mp c19
    refine r_aload_n C dX5_example_22 rfl rfl ?_
    refine r_get (f := 3) C dX5_example_23 ⟨by decide, by decide⟩ rfl rfl kU5 (by decide) kf_X5_33 rfl rfl ?_
    refine r_get (f := 3) C dX5_example_26 ⟨by decide, by decide⟩ rfl rfl kU4 (by decide) kf_X5_213 rfl rfl ?_
    refine r_iload_n C dX5_example_29 rfl rfl ?_
    refine r_ialdv (v := σ 14 3 c) C dX5_example_30 ⟨by decide, by decide⟩ rfl (vp_in_nI hc (by decide)) (by rw [nI_clamp (by omega)]) ?_
    refine r_iload_n C dX5_example_31 rfl rfl ?_
    refine r_callS C dX5_example_32 (c_has σ τ (σ 14 3 c) (nI i)) rfl kB_X5_has rfl kS_X5_has kl_X5_141 (by decide) (Nat.le_of_ble_eq_true rfl) (by decide) ?_
    rintro r9 σ' τ' ⟨rfl, rfl, rfl⟩
    rw [hasB_bt hi]
    refine r_ifne (tgt := 48) C dX5_example_35 (by decide) (fun c35 => ?_) (fun c35 => ?_)
    · have h35 := b2i_n.mp c35
      have hyes : (bt (σ 13 0 6) c = true ∧ bt (σ 14 3 c) i = true) := ⟨h19, h35⟩
      refine r_aload_n C dX5_example_48 rfl rfl ?_
      refine r_get (f := 3) C dX5_example_49 ⟨by decide, by decide⟩ rfl rfl kU5 (by decide) kf_X5_33 rfl rfl ?_
      refine r_get (f := 4) C dX5_example_52 ⟨by decide, by decide⟩ rfl rfl kU4 (by decide) kf_X5_221 rfl rfl ?_
      refine r_iload_n C dX5_example_55 rfl rfl ?_
      refine r_aaldA (t0 := 5) C dX5_example_56 ⟨by decide, by decide⟩ rfl rfl (vp_in_nI hc (by decide)) (nI_clamp (by omega)) ?_
      refine r_iload_n C dX5_example_57 rfl rfl ?_
      refine r_ialdv (v := σ 16 c i) C dX5_example_58 ⟨by decide, hc⟩ rfl (vp_in_nI hi (by decide)) (by rw [nI_clamp (by omega)]) ?_
      exact r_iret C dX5_example_59 rfl (by decide) ⟨c, i, hc, hi, rfl, rfl, hyes, rfl, rfl, rfl⟩
    · have h35 := b2i_0.mp c35
      have hno : ¬ (bt (σ 13 0 6) c = true ∧ bt (σ 14 3 c) i = true) := fun q => by rw [q.2] at h35; cases h35
      obtain ⟨⟨t1, t0, t2⟩, ⟨t3, t4⟩, t5, t6⟩ := kz_nse
      exact r_throwZ (is := 218) (text := "no example, or no input then") C trivial t1 t0 t2 t3 t4 (by decide +kernel) t5 dX5_example_38 dX5_example_41 dX5_example_42 dX5_example_44 dX5_example_47 (by decide) (Nat.le_of_ble_eq_true rfl) (by decide) t6 (⟨Or.inr ⟨rfl, c, i, hc, hi, rfl, rfl, hno⟩, rfl, rfl⟩)
