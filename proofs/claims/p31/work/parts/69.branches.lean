/-! ===== the law: its other branches: printed by p69.py ===== -/
theorem sub_int {j m : Nat} (hj : j < 5000) (hm : m < 5000) : (nI j - nI m).toInt = (j : Int) - m := by
  rw [fb_subI]
  · rw [nI_toInt (by omega), nI_toInt (by omega)]
  · rw [nI_toInt (by omega), nI_toInt (by omega)]; omega
  · rw [nI_toInt (by omega), nI_toInt (by omega)]; omega
theorem add_int {x : Int32} {j : Nat} (hx : (-5000 : Int) ≤ x.toInt ∧ x.toInt ≤ 5000) (hj : j < 5000) : (x + nI j).toInt = x.toInt + j := by
  rw [fb_addI]
  · rw [nI_toInt (by omega)]
  · rw [nI_toInt (by omega)]; omega
  · rw [nI_toInt (by omega)]; omega
theorem up3_same (σ : gSig) (f r c : Nat) (x : Int32) : (up3 σ f r c x) f r c = x := by simp [up3_at]
set_option maxRecDepth 100000 in
set_option maxHeartbeats 4000000 in
theorem l_input {l : Launch} {D : va_G} {ad : Nat → Nat → Nat} {aC : Nat → ClassId} {b Ls : Nat} {xs : Nat → Int32} {S : gS} (CL : LX l D ad aC b Ls xs S) {n T k c : Nat} {σ : gSig} {τ : gTau} {v w : Int32} (hI : Inv σ T) (hc : c < 16) (hT : T < 50) (hn : n + 200 ≤ 49000) (hk : ∀ (n' : Nat) (σ' : gSig) (τ' : gTau), n' ≤ n + 200 → Inv σ' (T + 1) → S n' σ' τ' 872 (lawB ad b T v w k c 1 none none none none) []) : S n σ τ 292 (lawB ad b T v w k c 1 none none none none) [] := by
  have C := CL.cx
  have K := CL.kx
  obtain ⟨⟨o, hK⟩, hlo, hnd, hlr, hlt, hlv, hld⟩ := id hI
  refine r_aload_n C dL_law_292 rfl rfl ?_
  refine r_iload C dL_law_293 rfl ?_
  refine r_iload C dL_law_295 rfl ?_
  refine r_iconst (v := 4) C dL_law_297 rfl ?_
  refine r_ishr C dL_law_298 ?_
  refine r_sipush (v := 2001) C dL_law_299 rfl ?_
  refine r_callS C dL_law_302 (c_lowY σ τ _ 2001 2001 rfl (by decide) (by decide)) rfl kB_L_low rfl kS_L_low kl_L_43 (by decide) (Nat.le_of_ble_eq_true rfl) (by omega) ?_
  rintro r9 σ9 τ9 ⟨⟨j0, hj0, rfl⟩, rfl, rfl⟩
  refine r_sipush (v := 1000) C dL_law_305 rfl ?_
  refine r_isub C dL_law_308 ?_
  obtain ⟨lo, elo⟩ : ∃ z, z = nI j0 - 1000 := ⟨_, rfl⟩
  rw [← elo]
  have tlo : lo.toInt = (j0 : Int) - 1000 := by rw [elo]; exact sub_int (m := 1000) (by omega) (by decide)
  refine r_iastv C dL_law_309 ⟨by decide, by decide⟩ (fun _ => rfl) (vp_in_nI hc (by decide)) (nI_clamp (by omega)) ?_
  refine r_aload C dL_law_310 rfl ?_
  refine r_iload C dL_law_312 rfl ?_
  refine r_aload_n C dL_law_314 rfl rfl ?_
  refine r_iload C dL_law_315 rfl ?_
  refine r_ialdv (v := lo) C dL_law_317 ⟨by decide, by decide⟩ rfl (vp_in_nI hc (by decide)) (by rw [nI_clamp (by omega)]; exact up3_same _ _ _ _ _) ?_
  refine r_iload C dL_law_318 rfl ?_
  refine r_bipush (v := 15) C dL_law_320 rfl ?_
  refine r_ishr C dL_law_322 ?_
  refine r_sipush (v := 300) C dL_law_323 rfl ?_
  refine r_callS C dL_law_326 (c_lowY (up3 σ 19 1 c lo) τ _ 300 300 rfl (by decide) (by decide)) rfl kB_L_low rfl kS_L_low kl_L_43 (by decide) (Nat.le_of_ble_eq_true rfl) (by omega) ?_
  rintro r9 σ9 τ9 ⟨⟨j1, hj1, rfl⟩, rfl, rfl⟩
  refine r_iadd C dL_law_329 ?_
  obtain ⟨hi, ehi⟩ : ∃ z, z = lo + nI j1 := ⟨_, rfl⟩
  rw [← ehi]
  have thi : hi.toInt = lo.toInt + j1 := by rw [ehi]; exact add_int (by omega) (by omega)
  have hrg9 : (-1000000 : Int32) ≤ lo ∧ lo ≤ hi ∧ hi ≤ 1000000 := by
    have z1 : (-1000000 : Int32).toInt = -1000000 := by decide
    have z2 : (1000000 : Int32).toInt = 1000000 := by decide
    rw [fa_le, fa_le, fa_le]
    omega
  refine r_iastv C dL_law_330 ⟨by decide, by decide⟩ (fun _ => rfl) (vp_in_nI hc (by decide)) (nI_clamp (by omega)) ?_
  refine r_aload_n C dL_law_331 rfl rfl ?_
  refine r_iload C dL_law_332 rfl ?_
  refine r_aload_n C dL_law_334 rfl rfl ?_
  refine r_iload C dL_law_335 rfl ?_
  refine r_ialdv (v := lo) C dL_law_337 ⟨by decide, by decide⟩ rfl (vp_in_nI hc (by decide)) (by rw [nI_clamp (by omega)]; exact up3_same σ 19 1 c lo) ?_
  refine r_aload C dL_law_338 rfl ?_
  refine r_iload C dL_law_340 rfl ?_
  refine r_ialdv (v := hi) C dL_law_342 ⟨by decide, by decide⟩ rfl (vp_in_nI hc (by decide)) (by rw [nI_clamp (by omega)]; exact up3_same _ _ _ _ _) ?_
  refine r_callT K dL_law_343 (v_input (lhS σ c lo hi) τ c lo hi hc o (show shK (lhS σ c lo hi) o from hK) hlv.1 hrg9) rfl ⟨by decide, by decide⟩ rfl rfl kB_X5_input rfl kI_X5_input kV_X5_input kl_L_65 (by decide) (Nat.le_of_ble_eq_true rfl) (by omega) ?_
  rintro r9 σ9 τ9 ⟨ord, ro, o2, x9, hx9, q1, q2, q3, q4, q5, rfl, rfl, rfl⟩
  refine r_iflt (tgt := 362) C dL_law_346 (by decide) (fun c346 => ?_) (fun c346 => ?_)
  · exact absurd c346 (bc_pos hx9)
  · refine r_aload_n C dL_law_349 rfl rfl ?_
    refine r_iload C dL_law_350 rfl ?_
    refine r_callT K dL_law_352 (v_reads (ipS (lhS σ c lo hi) c lo hi ord ro) τ c hc) rfl ⟨by decide, by decide⟩ rfl rfl kB_X5_reads rfl kI_X5_reads kV_X5_reads kl_L_30 (by decide) (Nat.le_of_ble_eq_true rfl) (by omega) ?_
    rintro r9 σ' τ' ⟨rfl, rfl, rfl⟩
    refine r_ifne (tgt := 362) C dL_law_355 (by decide) (fun c355 => ?_) (fun c355 => ?_)
    · exact absurd (show (up3 σ 7 3 c 0) 7 3 c = 0 from up3_same _ _ _ _ _) c355
    · refine r_iconst (v := 1) C dL_law_358 rfl ?_
      refine r_goto (tgt := 363) C dL_law_359 (by decide) ?_
      refine r_istore C dL_law_363 (by decide) rfl ?_
      refine r_aload_n C dL_law_365 rfl rfl ?_
      refine r_iload C dL_law_366 rfl ?_
      refine r_iconst (v := 0) C dL_law_368 rfl ?_
      refine r_iastv C dL_law_369 ⟨by decide, by decide⟩ (fun _ => rfl) (vp_in_nI hc (by decide)) (nI_clamp (by omega)) ?_
      refine r_goto (tgt := 872) C dL_law_370 (by decide) ?_
      refine r_drop C [12, 13, 14, 15] ?_
      exact r_swk (hk _ _ _ (by omega) (inv_input hI hc (by omega) q1 q2 q3 q4 q5)) rfl rfl rfl rfl
set_option maxRecDepth 100000 in
set_option maxHeartbeats 4000000 in
theorem l_set {l : Launch} {D : va_G} {ad : Nat → Nat → Nat} {aC : Nat → ClassId} {b Ls : Nat} {xs : Nat → Int32} {S : gS} (CL : LX l D ad aC b Ls xs S) {n T k c : Nat} {σ : gSig} {τ : gTau} {v w : Int32} (hI : Inv σ T) (hc : c < 16) (hT : T < 50) (hn : n + 200 ≤ 49000) (hk : ∀ (n' : Nat) (σ' : gSig) (τ' : gTau), n' ≤ n + 200 → Inv σ' (T + 1) → S n' σ' τ' 872 (lawB ad b T v w k c 1 none none none none) []) : S n σ τ 380 (lawB ad b T v w k c 1 none none none none) [] := by
  have C := CL.cx
  have K := CL.kx
  obtain ⟨⟨o, hK⟩, hlo, hnd, hlr, hlt, hlv, hld⟩ := id hI
  refine r_aload_n C dL_law_380 rfl rfl ?_
  refine r_iload C dL_law_381 rfl ?_
  refine r_ialdv (v := σ 19 0 c) C dL_law_383 ⟨by decide, by decide⟩ rfl (vp_in_nI hc (by decide)) (by rw [nI_clamp (by omega)]) ?_
  refine r_ifne (tgt := 872) C dL_law_384 (by decide) (fun c384 => ?_) (fun c384 => ?_)
  · exact hk _ _ _ (by omega) (inv_T hI)
  · obtain ⟨r1, r2, r3, r4, r5, r6⟩ := hlr c hc
    have hin : bt (σ 5 0 8) c = true := by
      cases hb : bt (σ 5 0 8) c with
      | true => rfl
      | false => rw [r2 hb] at c384; exact absurd c384 (by decide)
    obtain ⟨-, g1, g2⟩ := r1 hin
    obtain ⟨z, hz1, hz2, hz3, hz4⟩ := rg_size (inv_rg hlr c hc hin)
    rw [g1, g2] at hz3 hz4
    refine r_aload_n C dL_law_387 rfl rfl ?_
    refine r_iload C dL_law_388 rfl ?_
    refine r_ialdv (v := σ 19 1 c) C dL_law_390 ⟨by decide, by decide⟩ rfl (vp_in_nI hc (by decide)) (by rw [nI_clamp (by omega)]) ?_
    refine r_iload C dL_law_391 rfl ?_
    refine r_iconst (v := 4) C dL_law_393 rfl ?_
    refine r_ishr C dL_law_394 ?_
    refine r_aload C dL_law_395 rfl ?_
    refine r_iload C dL_law_397 rfl ?_
    refine r_ialdv (v := σ 19 2 c) C dL_law_399 ⟨by decide, by decide⟩ rfl (vp_in_nI hc (by decide)) (by rw [nI_clamp (by omega)]) ?_
    refine r_aload_n C dL_law_400 rfl rfl ?_
    refine r_iload C dL_law_401 rfl ?_
    refine r_ialdv (v := σ 19 1 c) C dL_law_403 ⟨by decide, by decide⟩ rfl (vp_in_nI hc (by decide)) (by rw [nI_clamp (by omega)]) ?_
    refine r_isub C dL_law_404 ?_
    refine r_iconst (v := 1) C dL_law_405 rfl ?_
    refine r_iadd C dL_law_406 ?_
    refine r_callS C dL_law_407 (c_lowY σ τ _ _ z hz3 hz1 (by omega)) rfl kB_L_low rfl kS_L_low kl_L_43 (by decide) (Nat.le_of_ble_eq_true rfl) (by omega) ?_
    rintro r9 σ9 τ9 ⟨⟨j, hj, rfl⟩, rfl, rfl⟩
    refine r_iadd C dL_law_410 ?_
    obtain ⟨va, eva⟩ : ∃ x, x = σ 19 1 c + nI j := ⟨_, rfl⟩
    rw [← eva]
    have tva : va.toInt = (σ 19 1 c).toInt + j := by rw [eva]; exact add_int (by omega) (by omega)
    have hva : σ 7 0 c ≤ va ∧ va ≤ σ 7 1 c := by
      rw [g1, g2, fa_le, fa_le]
      omega
    refine r_istore C dL_law_411 (by decide) rfl ?_
    refine r_aload_n C dL_law_413 rfl rfl ?_
    refine r_iload C dL_law_414 rfl ?_
    refine r_iload C dL_law_416 rfl ?_
    refine r_callT K dL_law_418 (v_set σ τ c va hc hin hva) rfl ⟨by decide, by decide⟩ rfl rfl kB_X5_set rfl kI_X5_set kV_X5_set kl_L_69 (by decide) (Nat.le_of_ble_eq_true rfl) (by omega) ?_
    rintro r9 σ' τ' ⟨rfl, rfl, rfl⟩
    refine r_pop C dL_law_421 rfl ?_
    refine r_aload_n C dL_law_422 rfl rfl ?_
    refine r_iload C dL_law_423 rfl ?_
    refine r_iload C dL_law_425 rfl ?_
    refine r_callT K dL_law_427 (v_set (up3 σ 7 2 c va) τ c va hc hin hva) rfl ⟨by decide, by decide⟩ rfl rfl kB_X5_set rfl kI_X5_set kV_X5_set kl_L_69 (by decide) (Nat.le_of_ble_eq_true rfl) (by omega) ?_
    rintro r9 σ' τ' ⟨rfl, rfl, rfl⟩
    rw [show (up3 σ 7 2 c va) 7 2 c = va from up3_same _ _ _ _ _]
    refine r_iload C dL_law_430 rfl ?_
    refine r_icmpne (tgt := 459) C dL_law_432 (by decide) (fun c432 => ?_) (fun c432 => ?_)
    · exact absurd rfl c432
    · have j455 : ∀ (n2 : Nat) (σ2 : gSig) (τ2 : gTau), n2 ≤ n + 20 → Inv σ2 T → S n2 σ2 τ2 455 (lawB ad b T v w k c 1 (some (.int va)) none none none) [] := by
        intro n2 σ2 τ2 hn2 hI2
        refine r_iconst (v := 1) C dL_law_455 rfl ?_
        refine r_goto (tgt := 460) C dL_law_456 (by decide) ?_
        refine r_istore C dL_law_460 (by decide) rfl ?_
        refine r_goto (tgt := 872) C dL_law_462 (by decide) ?_
        refine r_drop C [12, 13, 14, 15] ?_
        exact r_swk (hk _ _ _ (by omega) (inv_T hI2)) rfl rfl rfl rfl
      refine r_aload_n C dL_law_435 rfl rfl ?_
      refine r_iload C dL_law_436 rfl ?_
      refine r_callT K dL_law_438 (v_isLocked (up3 (up3 σ 7 2 c va) 7 2 c va) τ c hc o hK.1) rfl ⟨by decide, by decide⟩ rfl rfl kB_X5_isLocked rfl kI_X5_isLocked kV_X5_isLocked kl_L_14 (by decide) (Nat.le_of_ble_eq_true rfl) (by omega) ?_
      rintro r9 σ' τ' ⟨rfl, rfl, rfl⟩
      refine r_ifne (tgt := 455) C dL_law_441 (by decide) (fun c441 => ?_) (fun c441 => ?_)
      · first | exact j455 _ _ _ (by omega) (inv_set (inv_set hI)) | exact j455 _ _ _ (by omega) (inv_4 (inv_set (inv_set hI)))
      · have hnl : bt (lcC (up3 (up3 σ 7 2 c va) 7 2 c va) o) c = false := b2i_0.mp c441
        refine r_aload_n C dL_law_444 rfl rfl ?_
        refine r_iload C dL_law_445 rfl ?_
        refine r_callT K dL_law_447 (v_show (up3 (up3 σ 7 2 c va) 7 2 c va) τ c va hc o (show shK (up3 (up3 σ 7 2 c va) 7 2 c va) o from hK) hnl (by
          rw [gV_eq (show shK (up3 (up3 σ 7 2 c va) 7 2 c va) o from hK) _ c hc, show bt ((up3 (up3 σ 7 2 c va) 7 2 c va) 5 0 8) c = true from hin]
          show some ((up3 (up3 σ 7 2 c va) 7 2 c va) 7 2 c) = some va
          rw [up3_same])) rfl ⟨by decide, by decide⟩ rfl rfl kB_X5_show rfl kI_X5_show kV_X5_show kl_L_72 (by decide) (Nat.le_of_ble_eq_true rfl) (by omega) ?_
        rintro r9 σ9 τ9 ⟨s4, t8, rfl, rfl, rfl⟩
        refine r_iload C dL_law_450 rfl ?_
        refine r_icmpne (tgt := 459) C dL_law_452 (by decide) (fun c452 => ?_) (fun c452 => ?_)
        · exact absurd rfl c452
        · first | exact j455 _ _ _ (by omega) (inv_set (inv_set hI)) | exact j455 _ _ _ (by omega) (inv_4 (inv_set (inv_set hI)))
set_option maxRecDepth 100000 in
set_option maxHeartbeats 4000000 in
theorem l_tell {l : Launch} {D : va_G} {ad : Nat → Nat → Nat} {aC : Nat → ClassId} {b Ls : Nat} {xs : Nat → Int32} {S : gS} (CL : LX l D ad aC b Ls xs S) {n T k c : Nat} {σ : gSig} {τ : gTau} {v w : Int32} (hI : Inv σ T) (hc : c < 16) (hT : T < 50) (hn : n + 200 ≤ 49000) (hk : ∀ (n' : Nat) (σ' : gSig) (τ' : gTau), n' ≤ n + 200 → Inv σ' (T + 1) → S n' σ' τ' 872 (lawB ad b T v w k c 1 none none none none) []) : S n σ τ 472 (lawB ad b T v w k c 1 none none none none) [] := by
  have C := CL.cx
  have K := CL.kx
  obtain ⟨⟨o, hK⟩, hlo, hnd, hlr, hlt, hlv, hld⟩ := id hI
  refine r_iload C dL_law_472 rfl ?_
  refine r_iconst (v := 4) C dL_law_474 rfl ?_
  refine r_ishr C dL_law_475 ?_
  refine r_iconst (v := 4) C dL_law_476 rfl ?_
  refine r_callS C dL_law_477 (c_lowY σ τ _ 4 4 rfl (by decide) (by decide)) rfl kB_L_low rfl kS_L_low kl_L_43 (by decide) (Nat.le_of_ble_eq_true rfl) (by omega) ?_
  rintro r9 σ9 τ9 ⟨⟨kd, hkd, rfl⟩, rfl, rfl⟩
  refine r_istore C dL_law_480 (by decide) rfl ?_
  obtain ⟨q, hq, e3⟩ := hlt c hc
  refine r_aload C dL_law_482 rfl ?_
  refine r_iload C dL_law_484 rfl ?_
  refine r_ialdv (v := nI q) C dL_law_486 ⟨by decide, by decide⟩ rfl (vp_in_nI hc (by decide)) (by rw [nI_clamp (by omega)]; exact e3) ?_
  refine r_iconst (v := 4) C dL_law_487 rfl ?_
  refine r_icmpge (tgt := 560) C dL_law_488 (by decide) (fun c488 => ?_) (fun c488 => ?_)
  · have n488 := Int32.not_lt.mpr c488
    have hq4 : q = 4 := by
      have h1 := (nI_leI (a := 4) (by decide) (by have := hq.2.1; omega)).mp c488
      have := hq.2.1
      omega
    refine r_aload_n C dL_law_560 rfl rfl ?_
    refine r_iload C dL_law_561 rfl ?_
    refine r_callT K dL_law_563 (v_drop σ τ c hc) rfl ⟨by decide, by decide⟩ rfl rfl kB_X5_drop rfl kI_X5_drop kV_X5_drop kl_L_78 (by decide) (Nat.le_of_ble_eq_true rfl) (by omega) ?_
    rintro r9 σ' τ' ⟨rfl, rfl, rfl⟩
    refine r_iconst (v := 4) C dL_law_566 rfl ?_
    refine r_icmpne (tgt := 574) C dL_law_567 (by decide) (fun c567 => ?_) (fun c567 => ?_)
    · exact absurd (show σ 10 c 2 = 4 by rw [hq.1, hq4]; rfl) c567
    · refine r_iconst (v := 1) C dL_law_570 rfl ?_
      refine r_goto (tgt := 575) C dL_law_571 (by decide) ?_
      refine r_istore C dL_law_575 (by decide) rfl ?_
      refine r_aload C dL_law_577 rfl ?_
      refine r_iload C dL_law_579 rfl ?_
      refine r_iconst (v := 0) C dL_law_581 rfl ?_
      refine r_iastv C dL_law_582 ⟨by decide, by decide⟩ (fun _ => rfl) (vp_in_nI hc (by decide)) (nI_clamp (by omega)) ?_
      refine r_goto (tgt := 872) C dL_law_583 (by decide) ?_
      refine r_drop C [12, 13, 14, 15] ?_
      exact r_swk (hk _ _ _ (by omega) (inv_drop hI hc)) rfl rfl rfl rfl
  · have n488 := Int32.not_le.mp c488
    have hq4 : q < 4 := (nI_ltI (b := 4) (by have := hq.2.1; omega) (by decide)).mp n488
    refine r_aload C dL_law_491 rfl ?_
    refine r_iload C dL_law_493 rfl ?_
    refine r_dup2 C dL_law_495 rfl rfl ?_
    refine r_ialdv (v := nI q) C dL_law_496 ⟨by decide, by decide⟩ rfl (vp_in_nI hc (by decide)) (by rw [nI_clamp (by omega)]; exact e3) ?_
    refine r_iconst (v := 1) C dL_law_497 rfl ?_
    refine r_iadd C dL_law_498 ?_
    rw [nI_1]
    refine r_iastv C dL_law_499 ⟨by decide, by decide⟩ (fun _ => rfl) (vp_in_nI hc (by decide)) (nI_clamp (by omega)) ?_
    refine r_aload_n C dL_law_500 rfl rfl ?_
    refine r_iload C dL_law_501 rfl ?_
    refine r_iload C dL_law_503 rfl ?_
    refine r_iload C dL_law_505 rfl ?_
    refine r_iconst (v := 2) C dL_law_507 rfl ?_
    have j539 : ∀ nn : Int32, (nI kd = 2 ∨ nI kd = 3 → isC nn) → S n (up3 σ 19 3 c (nI (q + 1))) τ 539 (lawB ad b T v w k c 1 (some (.int (nI kd))) none none none) [.int nn, .int (nI kd), .int (nI c), .ref (ad 0 0)] := by
      intro nn hnn
      refine r_callT K dL_law_539 (v_tell (up3 σ 19 3 c (nI (q + 1))) τ c q (nI kd) nn hc (fun z hz => by
        obtain ⟨q2, h2, -⟩ := hlt z hz
        exact ⟨q2, h2.1, h2.2.1⟩) hq.1 hq4 ⟨nI_pos (by omega), (nI_leI (b := 3) (by omega) (by decide)).mpr (by omega)⟩ hnn) rfl ⟨by decide, by decide⟩ rfl rfl kB_X5_tell rfl kI_X5_tell kV_X5_tell kl_L_75 (by decide) (Nat.le_of_ble_eq_true rfl) (by omega) ?_
      rintro r9 σ' τ' ⟨rfl, rfl, rfl⟩
      refine r_aload C dL_law_542 rfl ?_
      refine r_iload C dL_law_544 rfl ?_
      refine r_ialdv (v := nI (q + 1)) C dL_law_546 ⟨by decide, by decide⟩ rfl (vp_in_nI hc (by decide)) (by rw [nI_clamp (by omega)]; exact up3_same σ 19 3 c (nI (q + 1))) ?_
      refine r_icmpne (tgt := 554) C dL_law_547 (by decide) (fun c547 => ?_) (fun c547 => ?_)
      · exact absurd rfl c547
      · refine r_iconst (v := 1) C dL_law_550 rfl ?_
        refine r_goto (tgt := 555) C dL_law_551 (by decide) ?_
        refine r_istore C dL_law_555 (by decide) rfl ?_
        refine r_goto (tgt := 583) C dL_law_557 (by decide) ?_
        refine r_goto (tgt := 872) C dL_law_583 (by decide) ?_
        refine r_drop C [12, 13, 14, 15] ?_
        exact r_swk (hk _ _ _ (by omega) (inv_tell hI hc hq hq4 ⟨nI_pos (by omega), (nI_leI (b := 3) (by omega) (by decide)).mpr (by omega)⟩ hnn)) rfl rfl rfl rfl
    refine r_icmpge (tgt := 529) C dL_law_508 (by decide) (fun c508 => ?_) (fun c508 => ?_)
    · have n508 := Int32.not_lt.mpr c508
      refine r_iload C dL_law_529 rfl ?_
      refine r_bipush (v := 6) C dL_law_531 rfl ?_
      refine r_ishr C dL_law_533 ?_
      refine r_bipush (v := 16) C dL_law_534 rfl ?_
      refine r_callS C dL_law_536 (c_lowY (up3 σ 19 3 c (nI (q + 1))) τ _ 16 16 rfl (by decide) (by decide)) rfl kB_L_low rfl kS_L_low kl_L_43 (by decide) (Nat.le_of_ble_eq_true rfl) (by omega) ?_
      rintro r9 σ9 τ9 ⟨⟨j, hj, rfl⟩, rfl, rfl⟩
      exact j539 _ (fun _ => isC_of hj)
    · have n508 := Int32.not_le.mp c508
      refine r_iload C dL_law_511 rfl ?_
      refine r_bipush (v := 6) C dL_law_513 rfl ?_
      refine r_ishr C dL_law_515 ?_
      refine r_sipush (v := 4001) C dL_law_516 rfl ?_
      refine r_callS C dL_law_519 (c_lowY (up3 σ 19 3 c (nI (q + 1))) τ _ 4001 4001 rfl (by decide) (by decide)) rfl kB_L_low rfl kS_L_low kl_L_43 (by decide) (Nat.le_of_ble_eq_true rfl) (by omega) ?_
      rintro r9 σ9 τ9 ⟨⟨j, hj, rfl⟩, rfl, rfl⟩
      refine r_sipush (v := 2000) C dL_law_522 rfl ?_
      refine r_isub C dL_law_525 ?_
      refine r_goto (tgt := 539) C dL_law_526 (by decide) ?_
      refine j539 _ (fun z => ?_)
      have h2 := (nI_ltI (b := 2) (by omega) (by decide)).mp n508
      rcases z with z | z
      · have := (nI_eq (b := 2) (by omega) (by decide)).mp z
        omega
      · have := (nI_eq (b := 3) (by omega) (by decide)).mp z
        omega
set_option maxRecDepth 100000 in
set_option maxHeartbeats 4000000 in
theorem l_waive {l : Launch} {D : va_G} {ad : Nat → Nat → Nat} {aC : Nat → ClassId} {b Ls : Nat} {xs : Nat → Int32} {S : gS} (CL : LX l D ad aC b Ls xs S) {n T k c : Nat} {σ : gSig} {τ : gTau} {v w : Int32} (hI : Inv σ T) (hc : c < 16) (hT : T < 50) (hn : n + 200 ≤ 49000) (hk : ∀ (n' : Nat) (σ' : gSig) (τ' : gTau), n' ≤ n + 200 → Inv σ' (T + 1) → S n' σ' τ' 872 (lawB ad b T v w k c 1 none none none none) []) : S n σ τ 782 (lawB ad b T v w k c 1 none none none none) [] := by
  have C := CL.cx
  have K := CL.kx
  obtain ⟨⟨o, hK⟩, hlo, hnd, hlr, hlt, hlv, hld⟩ := id hI
  refine r_aload_n C dL_law_782 rfl rfl ?_
  refine r_iload C dL_law_783 rfl ?_
  refine r_callT K dL_law_785 (v_isLocked σ τ c hc o hK.1) rfl ⟨by decide, by decide⟩ rfl rfl kB_X5_isLocked rfl kI_X5_isLocked kV_X5_isLocked kl_L_14 (by decide) (Nat.le_of_ble_eq_true rfl) (by omega) ?_
  rintro r9 σ' τ' ⟨rfl, rfl, rfl⟩
  refine r_ifeq (tgt := 872) C dL_law_788 (by decide) (fun c788 => ?_) (fun c788 => ?_)
  · exact hk _ _ _ (by omega) (inv_T hI)
  · have hl : bt (lcC σ o) c = true := b2i_n.mp c788
    refine r_aload_n C dL_law_791 rfl rfl ?_
    refine r_callV C dL_law_792 (c_locked σ τ o hK.1) rfl ⟨by decide, by decide⟩ rfl rfl kB_X5_locked rfl kI_X5_locked kV_X5_locked kl_L_87 (by decide) (Nat.le_of_ble_eq_true rfl) (by omega) ?_
    rintro r9 σ' τ' ⟨rfl, rfl, rfl⟩
    refine r_istore C dL_law_795 (by decide) rfl ?_
    refine r_aload_n C dL_law_797 rfl rfl ?_
    refine r_iload C dL_law_798 rfl ?_
    refine r_iconst (v := 3) C dL_law_800 rfl ?_
    refine r_callT K dL_law_801 (v_own σ τ c hc) rfl ⟨by decide, by decide⟩ rfl rfl kB_X5_own rfl kI_X5_own kV_X5_own kl_L_90 (by decide) (Nat.le_of_ble_eq_true rfl) (by omega) ?_
    rintro r9 σ' τ' ⟨rfl, rfl, rfl⟩
    refine r_pop C dL_law_804 rfl ?_
    refine r_aload_n C dL_law_805 rfl rfl ?_
    refine r_iload C dL_law_806 rfl ?_
    refine r_iconst (v := 3) C dL_law_808 rfl ?_
    refine r_iload C dL_law_809 rfl ?_
    refine r_iconst (v := 4) C dL_law_811 rfl ?_
    refine r_ishr C dL_law_812 ?_
    refine r_iconst (v := 4) C dL_law_813 rfl ?_
    refine r_callS C dL_law_814 (c_lowY (up3 σ 18 0 c 3) τ _ 4 4 rfl (by decide) (by decide)) rfl kB_L_low rfl kS_L_low kl_L_43 (by decide) (Nat.le_of_ble_eq_true rfl) (by omega) ?_
    rintro r9 σ9 τ9 ⟨⟨dy, hdy, rfl⟩, rfl, rfl⟩
    have hday : (up3 σ 18 0 c 3) 17 0 3 ≤ (up3 σ 18 0 c 3) 17 0 3 + nI dy := by
      obtain ⟨dd, h1, h2⟩ := hld
      show σ 17 0 3 ≤ σ 17 0 3 + nI dy
      rw [h2, nI_add]
      exact (nI_leI (by omega) (by omega)).mpr (by omega)
    obtain ⟨w1, w2⟩ := wv_lt (σ := (up3 σ 18 0 c 3)) (o := o) (c := c) (dy := nI dy) hK hlo hday hc hl
    refine r_callT K dL_law_817 (v_waive (up3 σ 18 0 c 3) τ c (nI dy) hc o hK.1 ⟨(up3_same _ _ _ _ _).symm, nI_pos (by omega), (nI_leI (b := 30) (by omega) (by decide)).mpr (by omega)⟩ hl) rfl ⟨by decide, by decide⟩ rfl rfl kB_X5_waive rfl kI_X5_waive kV_X5_waive kl_L_93 (by decide) (Nat.le_of_ble_eq_true rfl) (by omega) ?_
    rintro r9 σ' τ' ⟨rfl, rfl, rfl⟩
    refine r_iload C dL_law_820 rfl ?_
    refine r_icmpge (tgt := 838) C dL_law_822 (by decide) (fun c822 => ?_) (fun c822 => ?_)
    · have n822 := Int32.not_lt.mpr c822
      exact absurd w2 (Int32.not_lt.mpr c822)
    · have n822 := Int32.not_le.mp c822
      refine r_aload_n C dL_law_825 rfl rfl ?_
      refine r_iload C dL_law_826 rfl ?_
      refine r_callT K dL_law_828 (v_isLocked (wvS (up3 σ 18 0 c 3) c (nI dy)) τ c hc o hK.1) rfl ⟨by decide, by decide⟩ rfl rfl kB_X5_isLocked rfl kI_X5_isLocked kV_X5_isLocked kl_L_14 (by decide) (Nat.le_of_ble_eq_true rfl) (by omega) ?_
      rintro r9 σ' τ' ⟨rfl, rfl, rfl⟩
      refine r_ifne (tgt := 838) C dL_law_831 (by decide) (fun c831 => ?_) (fun c831 => ?_)
      · rw [w1] at c831
        exact absurd rfl c831
      · refine r_iconst (v := 1) C dL_law_834 rfl ?_
        refine r_goto (tgt := 839) C dL_law_835 (by decide) ?_
        refine r_istore C dL_law_839 (by decide) rfl ?_
        refine r_goto (tgt := 872) C dL_law_841 (by decide) ?_
        refine r_drop C [12, 13, 14, 15] ?_
        exact r_swk (hk _ _ _ (by omega) (inv_T (inv_wv (inv_own hI)))) rfl rfl rfl rfl
set_option maxRecDepth 100000 in
set_option maxHeartbeats 4000000 in
theorem l_pass {l : Launch} {D : va_G} {ad : Nat → Nat → Nat} {aC : Nat → ClassId} {b Ls : Nat} {xs : Nat → Int32} {S : gS} (CL : LX l D ad aC b Ls xs S) {n T k c : Nat} {σ : gSig} {τ : gTau} {v w : Int32} (hI : Inv σ T) (hc : c < 16) (hT : T < 50) (hn : n + 200 ≤ 49000) (hk : ∀ (n' : Nat) (σ' : gSig) (τ' : gTau), n' ≤ n + 200 → Inv σ' (T + 1) → S n' σ' τ' 872 (lawB ad b T v w k c 1 none none none none) []) : S n σ τ 844 (lawB ad b T v w k c 1 none none none none) [] := by
  have C := CL.cx
  have K := CL.kx
  obtain ⟨⟨o, hK⟩, hlo, hnd, hlr, hlt, hlv, hld⟩ := id hI
  refine r_aload_n C dL_law_844 rfl rfl ?_
  refine r_iconst (v := 1) C dL_law_845 rfl ?_
  refine r_iload C dL_law_846 rfl ?_
  refine r_iconst (v := 4) C dL_law_848 rfl ?_
  refine r_ishr C dL_law_849 ?_
  refine r_iconst (v := 3) C dL_law_850 rfl ?_
  refine r_callS C dL_law_851 (c_lowY σ τ _ 3 3 rfl (by decide) (by decide)) rfl kB_L_low rfl kS_L_low kl_L_43 (by decide) (Nat.le_of_ble_eq_true rfl) (by omega) ?_
  rintro r9 σ9 τ9 ⟨⟨j, hj, rfl⟩, rfl, rfl⟩
  refine r_iadd C dL_law_854 ?_
  rw [nI_1c]
  have hday : σ 17 0 3 + nI (j + 1) ≤ 10000 := by
    obtain ⟨dd, h1, h2⟩ := hld
    rw [h2, nI_add]
    exact (nI_leI (b := 10000) (by omega) (by decide)).mpr (by omega)
  refine r_callT K dL_law_855 (v_pass σ τ (nI (j + 1)) o hK.1 ⟨(nI_leI (a := 1) (by decide) (by omega)).mpr (by omega), (nI_leI (b := 100) (by omega) (by decide)).mpr (by omega)⟩ hday) rfl ⟨by decide, by decide⟩ rfl rfl kB_X5_pass rfl kI_X5_pass kV_X5_pass kl_L_96 (by decide) (Nat.le_of_ble_eq_true rfl) (by omega) ?_
  rintro r9 σ' τ' ⟨rfl, rfl, rfl⟩
  refine r_aload_n C dL_law_858 rfl rfl ?_
  refine r_callV C dL_law_859 (c_locked (psS σ (nI (j + 1))) τ o hK.1) rfl ⟨by decide, by decide⟩ rfl rfl kB_X5_locked rfl kI_X5_locked kV_X5_locked kl_L_87 (by decide) (Nat.le_of_ble_eq_true rfl) (by omega) ?_
  rintro r9 σ' τ' ⟨rfl, rfl, rfl⟩
  refine r_icmpne (tgt := 869) C dL_law_862 (by decide) (fun c862 => ?_) (fun c862 => ?_)
  · exact absurd rfl c862
  · refine r_iconst (v := 1) C dL_law_865 rfl ?_
    refine r_goto (tgt := 870) C dL_law_866 (by decide) ?_
    refine r_istore C dL_law_870 (by decide) rfl ?_
    refine r_drop C [12, 13, 14, 15] ?_
    exact r_swk (hk _ _ _ (by omega) (inv_ps (by omega) hI)) rfl rfl rfl rfl
