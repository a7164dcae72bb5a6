/-! ===== the law: a cell tried: printed by p70.py ===== -/
set_option maxRecDepth 100000 in
set_option maxHeartbeats 4000000 in
theorem l_attempt {l : Launch} {D : va_G} {ad : Nat → Nat → Nat} {aC : Nat → ClassId} {b Ls : Nat} {xs : Nat → Int32} {S : gS} (CL : LX l D ad aC b Ls xs S) {n T k c : Nat} {σ : gSig} {τ : gTau} {v w : Int32} (hI : Inv σ T) (hc : c < 16) (hT : T < 50) (hn : n + 200 ≤ 49000) (hk : ∀ (n' : Nat) (σ' : gSig) (τ' : gTau), n' ≤ n + 200 → Inv σ' (T + 1) → S n' σ' τ' 872 (lawB ad b T v w k c 1 none none none none) []) : S n σ τ 593 (lawB ad b T v w k c 1 none none none none) [] := by
  have C := CL.cx
  have K := CL.kx
  obtain ⟨⟨o, hK⟩, hlo, hnd, hlr, hlt, hlv, hld⟩ := id hI
  refine r_iconst (v := 1) C dL_law_593 rfl ?_
  refine r_iload C dL_law_594 rfl ?_
  refine r_bipush (v := 17) C dL_law_596 rfl ?_
  refine r_ishr C dL_law_598 ?_
  refine r_iconst (v := 4) C dL_law_599 rfl ?_
  refine r_callS C dL_law_600 (c_lowY σ τ _ 4 4 rfl (by decide) (by decide)) rfl kB_L_low rfl kS_L_low kl_L_43 (by decide) (Nat.le_of_ble_eq_true rfl) (by omega) ?_
  rintro r9 σ9 τ9 ⟨⟨j0, hj0, rfl⟩, rfl, rfl⟩
  refine r_iadd C dL_law_603 ?_
  rw [nI_1c]
  obtain ⟨R, hR⟩ : ∃ z, z = j0 + 1 := ⟨_, rfl⟩
  rw [← hR]
  refine r_istore C dL_law_604 (by decide) rfl ?_
  refine r_aload_n C dL_law_606 rfl rfl ?_
  refine r_iload C dL_law_607 rfl ?_
  refine r_iload C dL_law_609 rfl ?_
  refine r_iconst (v := 4) C dL_law_611 rfl ?_
  refine r_ishr C dL_law_612 ?_
  refine r_sipush (v := 7875) C dL_law_613 rfl ?_
  refine r_callS C dL_law_616 (c_lowY σ τ _ 7875 7875 rfl (by decide) (by decide)) rfl kB_L_low rfl kS_L_low kl_L_43 (by decide) (Nat.le_of_ble_eq_true rfl) (by omega) ?_
  rintro r9 σ9 τ9 ⟨⟨sd, hsd, rfl⟩, rfl, rfl⟩
  refine r_iload C dL_law_619 rfl ?_
  refine r_callT K dL_law_621 (v_attempt σ τ c sd R hc hsd (by omega) (by omega) o hK (fun z hz => by
    obtain ⟨q2, h2, -⟩ := hlt z hz
    exact ⟨q2, h2⟩) (inv_rg hlr)) rfl ⟨by decide, by decide⟩ rfl rfl kB_X5_attempt rfl kI_X5_attempt kV_X5_attempt kl_L_81 (by decide) (Nat.le_of_ble_eq_true rfl) (by omega) ?_
  rintro r9 σ1 τ1 ⟨q, hq, hat⟩
  obtain ⟨q3, hq3, e3⟩ := hlt c hc
  obtain rfl : q = q3 := (nI_eq (by have := hq.2.1; omega) (by have := hq3.2.1; omega)).mp (hq.1.symm.trans hq3.1)
  rcases at_inv hI hq hc hsd (by omega) hat with ⟨rfl, hI1, hf, hp1, e19⟩ | ⟨a, p, ha, hp, rfl, hI1, hf, hfb, e19, hex⟩
  · refine r_istore C dL_law_624 (by decide) rfl ?_
    refine r_iload C dL_law_626 rfl ?_
    refine r_iload C dL_law_628 rfl ?_
    refine r_icmpge (tgt := 697) C dL_law_630 (by decide) (fun c630 => ?_) (fun c630 => ?_)
    · have n630 := Int32.not_lt.mpr c630
      exact absurd c630 (Int32.not_le.mpr (Int32.lt_of_lt_of_le (by decide : (-1 : Int32) < 0) ((nI_leI (a := 0) (by decide) (by omega)).mpr (Nat.zero_le R))))
    · have n630 := Int32.not_le.mp c630
      refine r_iload C dL_law_633 rfl ?_
      refine r_iflt (tgt := 642) C dL_law_635 (by decide) (fun c635 => ?_) (fun c635 => ?_)
      · refine r_iconst (v := 0) C dL_law_642 rfl ?_
        refine r_aload_n C dL_law_643 rfl rfl ?_
        refine r_iload C dL_law_644 rfl ?_
        refine r_callT K dL_law_646 (v_verdict σ1 τ1 c hc) rfl ⟨by decide, by decide⟩ rfl rfl kB_X5_verdict rfl kI_X5_verdict kV_X5_verdict kl_L_8 (by decide) (Nat.le_of_ble_eq_true rfl) (by omega) ?_
        rintro r9 σ' τ' ⟨rfl, rfl, rfl⟩
        refine r_iconst (v := 2) C dL_law_649 rfl ?_
        refine r_icmpne (tgt := 657) C dL_law_650 (by decide) (fun c650 => ?_) (fun c650 => ?_)
        · refine r_iconst (v := 0) C dL_law_657 rfl ?_
          refine r_icmpne (tgt := 697) C dL_law_658 (by decide) (fun c658 => ?_) (fun c658 => ?_)
          · exact absurd rfl c658
          · refine r_iload C dL_law_661 rfl ?_
            refine r_ifge (tgt := 679) C dL_law_663 (by decide) (fun c663 => ?_) (fun c663 => ?_)
            · exact absurd c663 (by decide)
            · refine r_aload_n C dL_law_666 rfl rfl ?_
              refine r_iload C dL_law_667 rfl ?_
              refine r_callT K dL_law_669 (v_verdict σ1 τ1 c hc) rfl ⟨by decide, by decide⟩ rfl rfl kB_X5_verdict rfl kI_X5_verdict kV_X5_verdict kl_L_8 (by decide) (Nat.le_of_ble_eq_true rfl) (by omega) ?_
              rintro r9 σ' τ' ⟨rfl, rfl, rfl⟩
              refine r_iconst (v := 1) C dL_law_672 rfl ?_
              refine r_icmpne (tgt := 697) C dL_law_673 (by decide) (fun c673 => ?_) (fun c673 => ?_)
              · exact absurd ((ve_1 σ1 c).mpr ⟨hf, hp1⟩) c673
              · refine r_goto (tgt := 693) C dL_law_676 (by decide) ?_
                refine r_iconst (v := 1) C dL_law_693 rfl ?_
                refine r_goto (tgt := 698) C dL_law_694 (by decide) ?_
                refine r_istore C dL_law_698 (by decide) rfl ?_
                refine r_iconst (v := 0) C dL_law_700 rfl ?_
                refine r_istore C dL_law_701 (by decide) rfl ?_
                refine r_iload C dL_law_703 rfl ?_
                refine r_bipush (v := 16) C dL_law_705 rfl ?_
                refine r_icmpge (tgt := 772) C dL_law_707 (by decide) (fun c707 => ?_) (fun c707 => ?_)
                · have n707 := Int32.not_lt.mpr c707
                  exact absurd c707 (by decide)
                · have n707 := Int32.not_le.mp c707
                  refine r_iload C dL_law_710 rfl ?_
                  refine r_iflt (tgt := 772) C dL_law_712 (by decide) (fun c712 => ?_) (fun c712 => ?_)
                  · refine r_goto (tgt := 872) C dL_law_772 (by decide) ?_
                    refine r_drop C [12, 13, 14, 15] ?_
                    exact r_swk (hk _ _ _ (by omega) hI1) rfl rfl rfl rfl
                  · exact absurd (by decide) c712
        · exact absurd ((ve_2 σ1 c).mp c650) (by rw [hf]; decide)
      · exact absurd (by decide) c635
  · refine r_istore C dL_law_624 (by decide) rfl ?_
    refine r_iload C dL_law_626 rfl ?_
    refine r_iload C dL_law_628 rfl ?_
    refine r_icmpge (tgt := 697) C dL_law_630 (by decide) (fun c630 => ?_) (fun c630 => ?_)
    · have n630 := Int32.not_lt.mpr c630
      exact absurd ((nI_leI (by omega) (by omega)).mp c630) (by omega)
    · have n630 := Int32.not_le.mp c630
      refine r_iload C dL_law_633 rfl ?_
      refine r_iflt (tgt := 642) C dL_law_635 (by decide) (fun c635 => ?_) (fun c635 => ?_)
      · exact absurd c635 (nI_pos (by omega))
      · refine r_iconst (v := 1) C dL_law_638 rfl ?_
        refine r_goto (tgt := 643) C dL_law_639 (by decide) ?_
        refine r_aload_n C dL_law_643 rfl rfl ?_
        refine r_iload C dL_law_644 rfl ?_
        refine r_callT K dL_law_646 (v_verdict σ1 τ1 c hc) rfl ⟨by decide, by decide⟩ rfl rfl kB_X5_verdict rfl kI_X5_verdict kV_X5_verdict kl_L_8 (by decide) (Nat.le_of_ble_eq_true rfl) (by omega) ?_
        rintro r9 σ' τ' ⟨rfl, rfl, rfl⟩
        refine r_iconst (v := 2) C dL_law_649 rfl ?_
        refine r_icmpne (tgt := 657) C dL_law_650 (by decide) (fun c650 => ?_) (fun c650 => ?_)
        · exact absurd ((ve_2 σ1 c).mpr hf) c650
        · refine r_iconst (v := 1) C dL_law_653 rfl ?_
          refine r_goto (tgt := 658) C dL_law_654 (by decide) ?_
          refine r_icmpne (tgt := 697) C dL_law_658 (by decide) (fun c658 => ?_) (fun c658 => ?_)
          · exact absurd rfl c658
          · refine r_iload C dL_law_661 rfl ?_
            refine r_ifge (tgt := 679) C dL_law_663 (by decide) (fun c663 => ?_) (fun c663 => ?_)
            · refine r_aload_n C dL_law_679 rfl rfl ?_
              refine r_iload C dL_law_680 rfl ?_
              refine r_callT K dL_law_682 (v_failing σ1 τ1 c hc) rfl ⟨by decide, by decide⟩ rfl rfl kB_X5_failing rfl kI_X5_failing kV_X5_failing kl_L_24 (by decide) (Nat.le_of_ble_eq_true rfl) (by omega) ?_
              rintro r9 σ' τ' ⟨rfl, rfl, rfl⟩
              rw [hf, if_pos rfl, hfb]
              refine r_aload C dL_law_685 rfl ?_
              refine r_iload C dL_law_687 rfl ?_
              refine r_ialdv (v := nI q) C dL_law_689 ⟨by decide, by decide⟩ rfl (vp_in_nI hc (by decide)) (by rw [nI_clamp (by omega)]; exact (by rw [e19]; exact e3)) ?_
              refine r_icmpge (tgt := 697) C dL_law_690 (by decide) (fun c690 => ?_) (fun c690 => ?_)
              · have n690 := Int32.not_lt.mpr c690
                exact absurd ((nI_leI (by have := hq.2.1; omega) (by have := hq.2.1; omega)).mp c690) (by omega)
              · have n690 := Int32.not_le.mp c690
                refine r_iconst (v := 1) C dL_law_693 rfl ?_
                refine r_goto (tgt := 698) C dL_law_694 (by decide) ?_
                refine r_istore C dL_law_698 (by decide) rfl ?_
                refine r_iconst (v := 0) C dL_law_700 rfl ?_
                refine r_istore C dL_law_701 (by decide) rfl ?_
                have lp : ∀ m i, i ≤ 16 → 16 - i < m → ∀ n2 : Nat, n2 ≤ n + 10 + 6 * i → S n2 σ1 τ1 703 (lawB ad b T v w k c 1 (some (.int (nI R))) (some (.int (nI a))) (some (.int (nI i))) none) [] := by
                  intro m
                  induction m with
                  | zero => intro i _ hm; omega
                  | succ m ih =>
                    intro i hi hm n2 hn2
                    refine r_iload C dL_law_703 rfl ?_
                    refine r_bipush (v := 16) C dL_law_705 rfl ?_
                    refine r_icmpge (tgt := 772) C dL_law_707 (by decide) (fun c707 => ?_) (fun c707 => ?_)
                    · have n707 := Int32.not_lt.mpr c707
                      refine r_goto (tgt := 872) C dL_law_772 (by decide) ?_
                      refine r_drop C [12, 13, 14, 15] ?_
                      exact r_swk (hk _ _ _ (by omega) hI1) rfl rfl rfl rfl
                    · have n707 := Int32.not_le.mp c707
                      have hil : i < 16 := (nI_ltI (b := 16) (by omega) (by omega)).mp n707
                      refine r_iload C dL_law_710 rfl ?_
                      refine r_iflt (tgt := 772) C dL_law_712 (by decide) (fun c712 => ?_) (fun c712 => ?_)
                      · exact absurd c712 (nI_pos (by omega))
                      · refine r_iload C dL_law_715 rfl ?_
                        refine r_ifeq (tgt := 772) C dL_law_717 (by decide) (fun c717 => ?_) (fun c717 => ?_)
                        · exact absurd c717 (by decide)
                        · refine r_aload_n C dL_law_720 rfl rfl ?_
                          refine r_iload C dL_law_721 rfl ?_
                          refine r_ialdv (v := σ 19 0 i) C dL_law_723 ⟨by decide, by decide⟩ rfl (vp_in_nI hil (by decide)) (by rw [nI_clamp (by omega)]; exact (by rw [e19])) ?_
                          refine r_iconst (v := 1) C dL_law_724 rfl ?_
                          have j759 : ∀ n3 : Nat, n3 ≤ n2 + 6 → S n3 σ1 τ1 759 (lawB ad b T v w k c 1 (some (.int (nI R))) (some (.int (nI a))) (some (.int (nI i))) none) [] := by
                            intro n3 hn3
                            refine r_iconst (v := 1) C dL_law_759 rfl ?_
                            refine r_goto (tgt := 764) C dL_law_760 (by decide) ?_
                            refine r_istore C dL_law_764 (by decide) rfl ?_
                            refine r_iinc C dL_law_766 rfl rfl (by decide) rfl ?_
                            refine r_goto (tgt := 703) C dL_law_769 (by decide) ?_
                            exact r_swk (ih (i + 1) (by omega) (by omega) _ (by omega)) rfl rfl (by rw [← nI_p1]; rfl) rfl
                          refine r_icmpeq (tgt := 759) C dL_law_725 (by decide) (fun c725 => ?_) (fun c725 => ?_)
                          · exact j759 _ (by omega)
                          · obtain ⟨r1, r2, -⟩ := hlr i hil
                            have hin : bt (σ 5 0 8) i = true := by
                              cases hb : bt (σ 5 0 8) i with
                              | true => rfl
                              | false => exact absurd (r2 hb) c725
                            obtain ⟨x1, x2, x3⟩ := hex i hil hin
                            refine r_aload_n C dL_law_728 rfl rfl ?_
                            refine r_iload C dL_law_729 rfl ?_
                            refine r_iload C dL_law_731 rfl ?_
                            refine r_callT K dL_law_733 (v_example σ1 τ1 c i hc hil ⟨hf, x1⟩) rfl ⟨by decide, by decide⟩ rfl rfl kB_X5_example rfl kI_X5_example kV_X5_example kl_L_84 (by decide) (Nat.le_of_ble_eq_true rfl) (by omega) ?_
                            rintro r9 σ' τ' ⟨rfl, rfl, rfl⟩
                            refine r_aload_n C dL_law_736 rfl rfl ?_
                            refine r_iload C dL_law_737 rfl ?_
                            refine r_ialdv (v := σ 19 1 i) C dL_law_739 ⟨by decide, by decide⟩ rfl (vp_in_nI hil (by decide)) (by rw [nI_clamp (by omega)]; exact (by rw [e19])) ?_
                            refine r_icmplt (tgt := 763) C dL_law_740 (by decide) (fun c740 => ?_) (fun c740 => ?_)
                            · have n740 := Int32.not_le.mpr c740
                              exact absurd c740 (Int32.not_lt.mpr x2)
                            · have n740 := Int32.not_lt.mp c740
                              refine r_aload_n C dL_law_743 rfl rfl ?_
                              refine r_iload C dL_law_744 rfl ?_
                              refine r_iload C dL_law_746 rfl ?_
                              refine r_callT K dL_law_748 (v_example σ1 τ1 c i hc hil ⟨hf, x1⟩) rfl ⟨by decide, by decide⟩ rfl rfl kB_X5_example rfl kI_X5_example kV_X5_example kl_L_84 (by decide) (Nat.le_of_ble_eq_true rfl) (by omega) ?_
                              rintro r9 σ' τ' ⟨rfl, rfl, rfl⟩
                              refine r_aload C dL_law_751 rfl ?_
                              refine r_iload C dL_law_753 rfl ?_
                              refine r_ialdv (v := σ 19 2 i) C dL_law_755 ⟨by decide, by decide⟩ rfl (vp_in_nI hil (by decide)) (by rw [nI_clamp (by omega)]; exact (by rw [e19])) ?_
                              refine r_icmpgt (tgt := 763) C dL_law_756 (by decide) (fun c756 => ?_) (fun c756 => ?_)
                              · have n756 := Int32.not_le.mpr c756
                                exact absurd c756 (Int32.not_lt.mpr x3)
                              · have n756 := Int32.not_lt.mp c756
                                exact j759 _ (by omega)
                exact lp 17 0 (by omega) (by omega) _ (by omega)
            · exact absurd (nI_pos (by omega)) (fun q => c663 (Int32.not_lt.mp q))
