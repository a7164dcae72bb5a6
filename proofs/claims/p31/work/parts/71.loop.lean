/-! ===== the law: the end of a turn, and the loop over the turns: printed by p71.py ===== -/
theorem cn_step (p : Nat → Bool) (i : Nat) : nI (cnB p i) + b2i (p i) = nI (cnB p (i + 1)) := by
  have h : cnB p (i + 1) = cnB p i + (if p i then 1 else 0) := rfl
  rw [h]
  cases p i with
  | true => exact nI_1 _
  | false => exact Int32.add_zero _
theorem nI_2x : ∀ T, T < 50 → (2 : Int32) * nI T = nI (2 * T) := by decide
abbrev lawH (ad : Nat → Nat → Nat) (b T : Nat) : gLoc := [some (.ref b), some (.ref (ad 0 0)), some (.ref (ad 19 0)), some (.ref (ad 19 1)), some (.ref (ad 19 2)), some (.ref (ad 19 3)), some (.int (nI T)), none, none, none, none, none, none, none, none, none]
set_option maxRecDepth 100000 in
set_option maxHeartbeats 4000000 in
theorem l_end {l : Launch} {D : va_G} {ad : Nat → Nat → Nat} {aC : Nat → ClassId} {b Ls : Nat} {xs : Nat → Int32} {S : gS} (CL : LX l D ad aC b Ls xs S) {n t T k c : Nat} {σ : gSig} {τ : gTau} {v w : Int32} (hI : Inv σ T) (hc : c < 16) (hn : n + 100 ≤ 49000) (hk : ∀ (n' : Nat) (σ' : gSig) (τ' : gTau), n' ≤ n + 60 → Inv σ' T → S n' σ' τ' 33 (lawH ad b (t + 1)) []) : S n σ τ 872 (lawB ad b t v w k c 1 none none none none) [] := by
  have C := CL.cx
  have K := CL.kx
  obtain ⟨⟨o, hK⟩, hlo, hnd, hlr, hlt, hlv, hld⟩ := id hI
  refine r_iconst (v := 0) C dL_law_872 rfl ?_
  refine r_istore C dL_law_873 (by decide) rfl ?_
  refine r_iconst (v := 0) C dL_law_875 rfl ?_
  refine r_istore C dL_law_876 (by decide) rfl ?_
  have lp : ∀ m i, i ≤ 16 → 16 - i < m → ∀ n2 : Nat, n2 ≤ n + i → S n2 σ τ 878 (lawB ad b t v w k c 1 (some (.int (nI (cnB (bt (lcC σ o)) i)))) (some (.int (nI i))) none none) [] := by
    intro m
    induction m with
    | zero => intro i _ hm; omega
    | succ m ih =>
      intro i hi hm n2 hn2
      refine r_iload C dL_law_878 rfl ?_
      refine r_bipush (v := 16) C dL_law_880 rfl ?_
      refine r_icmpge (tgt := 910) C dL_law_882 (by decide) (fun c882 => ?_) (fun c882 => ?_)
      · have n882 := Int32.not_lt.mpr c882
        have hi16 : i = 16 := by
          have := (nI_leI (a := 16) (by omega) (by omega)).mp c882
          omega
        subst hi16
        refine r_iload C dL_law_910 rfl ?_
        refine r_ifeq (tgt := 984) C dL_law_912 (by decide) (fun c912 => ?_) (fun c912 => ?_)
        · exact absurd c912 (by decide)
        · refine r_aload_n C dL_law_915 rfl rfl ?_
          refine r_callV C dL_law_916 (c_locked σ τ o hK.1) rfl ⟨by decide, by decide⟩ rfl rfl kB_X5_locked rfl kI_X5_locked kV_X5_locked kl_L_87 (by decide) (Nat.le_of_ble_eq_true rfl) (by omega) ?_
          rintro r9 σ' τ' ⟨rfl, rfl, rfl⟩
          rw [bcJ_cn (lc_m16 hK)]
          refine r_iload C dL_law_919 rfl ?_
          refine r_icmpne (tgt := 984) C dL_law_921 (by decide) (fun c921 => ?_) (fun c921 => ?_)
          · exact absurd rfl c921
          · refine r_aload_n C dL_law_924 rfl rfl ?_
            refine r_iload C dL_law_925 rfl ?_
            refine r_callTS K dL_law_927 (v_isCell σ τ c hc o hK hlo hlv) rfl kB_L_isCell rfl kS_L_isCell kl_L_99 (by decide) (Nat.le_of_ble_eq_true rfl) (by omega) ?_
            rintro r9 σ' τ' ⟨rfl, rfl, rfl⟩
            refine r_ifeq (tgt := 984) C dL_law_930 (by decide) (fun c930 => ?_) (fun c930 => ?_)
            · exact absurd c930 (by decide)
            · refine r_aload_n C dL_law_933 rfl rfl ?_
              refine r_iload C dL_law_934 rfl ?_
              refine r_bipush (v := 9) C dL_law_936 rfl ?_
              refine r_ishr C dL_law_938 ?_
              refine r_bipush (v := 16) C dL_law_939 rfl ?_
              refine r_callS C dL_law_941 (c_lowY σ τ _ 16 16 rfl (by decide) (by decide)) rfl kB_L_low rfl kS_L_low kl_L_43 (by decide) (Nat.le_of_ble_eq_true rfl) (by omega) ?_
              rintro r9 σ9 τ9 ⟨⟨j, hj, rfl⟩, rfl, rfl⟩
              refine r_callTS K dL_law_944 (v_isCell σ τ j hj o hK hlo hlv) rfl kB_L_isCell rfl kS_L_isCell kl_L_99 (by decide) (Nat.le_of_ble_eq_true rfl) (by omega) ?_
              rintro r9 σ' τ' ⟨rfl, rfl, rfl⟩
              refine r_ifeq (tgt := 984) C dL_law_947 (by decide) (fun c947 => ?_) (fun c947 => ?_)
              · exact absurd c947 (by decide)
              · have j986 : ∀ (n3 : Nat) (σ3 : gSig) (τ3 : gTau), n3 ≤ n + 60 → Inv σ3 T → S n3 σ3 τ3 986 (lawB ad b t v w k c 1 (some (.int (nI (cnB (bt (lcC σ o)) 16)))) (some (.int (nI 16))) none none) [] := by
                  intro n3 σ3 τ3 hn3 hI3
                  refine r_iinc (v := nI (t + 1)) C dL_law_986 rfl (nI_p1 t) (by decide) rfl ?_
                  refine r_goto (tgt := 33) C dL_law_989 (by decide) ?_
                  refine r_drop C [7, 8, 9, 10, 11, 12, 13, 14, 15] ?_
                  exact r_swk (hk _ _ _ (by omega) hI3) rfl rfl rfl rfl
                refine r_aload_n C dL_law_950 rfl rfl ?_
                refine r_iload C dL_law_951 rfl ?_
                refine r_callT K dL_law_953 (v_isLocked σ τ c hc o hK.1) rfl ⟨by decide, by decide⟩ rfl rfl kB_X5_isLocked rfl kI_X5_isLocked kV_X5_isLocked kl_L_14 (by decide) (Nat.le_of_ble_eq_true rfl) (by omega) ?_
                rintro r9 σ' τ' ⟨rfl, rfl, rfl⟩
                refine r_ifne (tgt := 986) C dL_law_956 (by decide) (fun c956 => ?_) (fun c956 => ?_)
                · first | exact j986 _ _ _ (by omega) hI | exact j986 _ _ _ (by omega) (inv_4 (inv_4 hI))
                · have hnl : (bt (lcC σ o)) c = false := b2i_0.mp c956
                  refine r_aload_n C dL_law_959 rfl rfl ?_
                  refine r_iload C dL_law_960 rfl ?_
                  refine r_callT K dL_law_962 (v_verdict σ τ c hc) rfl ⟨by decide, by decide⟩ rfl rfl kB_X5_verdict rfl kI_X5_verdict kV_X5_verdict kl_L_8 (by decide) (Nat.le_of_ble_eq_true rfl) (by omega) ?_
                  rintro r9 σ' τ' ⟨rfl, rfl, rfl⟩
                  refine r_iconst (v := 1) C dL_law_965 rfl ?_
                  refine r_icmpne (tgt := 986) C dL_law_966 (by decide) (fun c966 => ?_) (fun c966 => ?_)
                  · first | exact j986 _ _ _ (by omega) hI | exact j986 _ _ _ (by omega) (inv_4 (inv_4 hI))
                  · refine r_aload_n C dL_law_969 rfl rfl ?_
                    refine r_iload C dL_law_970 rfl ?_
                    obtain ⟨va, hva⟩ := gV_some hK hlo hnd (σ 7 2) 16 c hc hc
                    refine r_callT K dL_law_972 (v_show σ τ c va hc o hK hnl hva) rfl ⟨by decide, by decide⟩ rfl rfl kB_X5_show rfl kI_X5_show kV_X5_show kl_L_72 (by decide) (Nat.le_of_ble_eq_true rfl) (by omega) ?_
                    rintro r9 σ9 τ9 ⟨s4, t8, rfl, rfl, rfl⟩
                    refine r_aload_n C dL_law_975 rfl rfl ?_
                    refine r_iload C dL_law_976 rfl ?_
                    refine r_callT K dL_law_978 (v_show (upF σ 4 s4) (upT τ 8 t8) c va hc o (show shK (upF σ 4 s4) o from hK) hnl hva) rfl ⟨by decide, by decide⟩ rfl rfl kB_X5_show rfl kI_X5_show kV_X5_show kl_L_72 (by decide) (Nat.le_of_ble_eq_true rfl) (by omega) ?_
                    rintro r9 σ9 τ9 ⟨s4b, t8b, rfl, rfl, rfl⟩
                    refine r_icmpeq (tgt := 986) C dL_law_981 (by decide) (fun c981 => ?_) (fun c981 => ?_)
                    · first | exact j986 _ _ _ (by omega) hI | exact j986 _ _ _ (by omega) (inv_4 (inv_4 hI))
                    · exact absurd rfl c981
      · have n882 := Int32.not_le.mp c882
        have hil : i < 16 := (nI_ltI (b := 16) (by omega) (by omega)).mp n882
        refine r_iload C dL_law_885 rfl ?_
        refine r_aload_n C dL_law_887 rfl rfl ?_
        refine r_iload C dL_law_888 rfl ?_
        refine r_callT K dL_law_890 (v_isLocked σ τ i hil o hK.1) rfl ⟨by decide, by decide⟩ rfl rfl kB_X5_isLocked rfl kI_X5_isLocked kV_X5_isLocked kl_L_14 (by decide) (Nat.le_of_ble_eq_true rfl) (by omega) ?_
        rintro r9 σ' τ' ⟨rfl, rfl, rfl⟩
        have j901 : S (n2 + 1) σ τ 901 (lawB ad b t v w k c 1 (some (.int (nI (cnB (bt (lcC σ o)) i)))) (some (.int (nI i))) none none) [.int (b2i ((bt (lcC σ o)) i)), .int (nI (cnB (bt (lcC σ o)) i))] := by
          refine r_iadd C dL_law_901 ?_
          rw [cn_step]
          refine r_istore C dL_law_902 (by decide) rfl ?_
          refine r_iinc C dL_law_904 rfl rfl (by decide) rfl ?_
          refine r_goto (tgt := 878) C dL_law_907 (by decide) ?_
          exact r_swk (ih (i + 1) (by omega) (by omega) _ (by omega)) rfl rfl (by rw [← nI_p1]; rfl) rfl
        refine r_ifeq (tgt := 900) C dL_law_893 (by decide) (fun c893 => ?_) (fun c893 => ?_)
        · have h893 : (bt (lcC σ o)) i = false := b2i_0.mp c893
          refine r_iconst (v := 0) C dL_law_900 rfl ?_
          exact r_swk j901 rfl rfl rfl (by rw [h893]; rfl)
        · have h893 : (bt (lcC σ o)) i = true := b2i_n.mp c893
          refine r_iconst (v := 1) C dL_law_896 rfl ?_
          refine r_goto (tgt := 901) C dL_law_897 (by decide) ?_
          exact r_swk j901 rfl rfl rfl (by rw [h893]; rfl)
  exact lp 17 0 (by omega) (by omega) _ (by omega)
set_option maxRecDepth 100000 in
set_option maxHeartbeats 4000000 in
theorem l_loop {l : Launch} {D : va_G} {ad : Nat → Nat → Nat} {aC : Nat → ClassId} {b Ls : Nat} {xs : Nat → Int32} {S : gS} (CL : LX l D ad aC b Ls xs S) (hLs : Ls ≤ 260) : ∀ (m T n : Nat) (σ : gSig) (τ : gTau), 50 - T < m → T ≤ 50 → n + 300 * (50 - T) ≤ 40000 → Inv σ T → S n σ τ 33 (lawH ad b T) [] := by
  intro m
  induction m with
  | zero => intro T n σ τ h; omega
  | succ m ih =>
    intro T n σ τ hm hT50 hn hI
    have C := CL.cx
    have Y := CL.yx
    refine r_iload C dL_law_33 rfl ?_
    refine r_bipush (v := 50) C dL_law_35 rfl ?_
    refine r_icmpge (tgt := 992) C dL_law_37 (by decide) (fun c37 => ?_) (fun c37 => ?_)
    · have n37 := Int32.not_lt.mpr c37
      refine r_iconst (v := 1) C dL_law_992 rfl ?_
      exact r_zret C dL_law_993 rfl (by omega) (by decide) rfl
    · have n37 := Int32.not_le.mp c37
      have hT : T < 50 := (nI_ltI (b := 50) (by omega) (by decide)).mp n37
      refine r_aload_n C dL_law_40 rfl rfl ?_
      refine r_iconst (v := 2) C dL_law_41 rfl ?_
      refine r_iload C dL_law_42 rfl ?_
      refine r_imul C dL_law_44 ?_
      rw [nI_2x T hT]
      refine r_callSS Y dL_law_45 (c_cellL σ τ (2 * T) (by omega) (by omega)) rfl kB_L_cell rfl kS_L_cell kl_L_37 (by decide) (Nat.le_of_ble_eq_true rfl) (by omega) ?_
      rintro r9 σ9 τ9 ⟨⟨v, rfl⟩, rfl, rfl⟩
      refine r_istore C dL_law_48 (by decide) rfl ?_
      refine r_aload_n C dL_law_50 rfl rfl ?_
      refine r_iconst (v := 2) C dL_law_51 rfl ?_
      refine r_iload C dL_law_52 rfl ?_
      refine r_imul C dL_law_54 ?_
      rw [nI_2x T hT]
      refine r_iconst (v := 1) C dL_law_55 rfl ?_
      refine r_iadd C dL_law_56 ?_
      rw [nI_1]
      refine r_callSS Y dL_law_57 (c_cellL σ τ (2 * T + 1) (by omega) (by omega)) rfl kB_L_cell rfl kS_L_cell kl_L_37 (by decide) (Nat.le_of_ble_eq_true rfl) (by omega) ?_
      rintro r9 σ9 τ9 ⟨⟨w, rfl⟩, rfl, rfl⟩
      refine r_istore C dL_law_60 (by decide) rfl ?_
      refine r_iload C dL_law_62 rfl ?_
      refine r_bipush (v := 14) C dL_law_64 rfl ?_
      refine r_callS C dL_law_66 (c_lowY σ τ _ 14 14 rfl (by decide) (by decide)) rfl kB_L_low rfl kS_L_low kl_L_43 (by decide) (Nat.le_of_ble_eq_true rfl) (by omega) ?_
      rintro r9 σ9 τ9 ⟨⟨k, hk, rfl⟩, rfl, rfl⟩
      refine r_istore C dL_law_69 (by decide) rfl ?_
      refine r_iload C dL_law_71 rfl ?_
      refine r_bipush (v := 16) C dL_law_73 rfl ?_
      refine r_callS C dL_law_75 (c_lowY σ τ _ 16 16 rfl (by decide) (by decide)) rfl kB_L_low rfl kS_L_low kl_L_43 (by decide) (Nat.le_of_ble_eq_true rfl) (by omega) ?_
      rintro r9 σ9 τ9 ⟨⟨c, hc, rfl⟩, rfl, rfl⟩
      refine r_istore C dL_law_78 (by decide) rfl ?_
      refine r_iconst (v := 1) C dL_law_80 rfl ?_
      refine r_istore C dL_law_81 (by decide) rfl ?_
      have hend : ∀ (n' : Nat) (σ' : gSig) (τ' : gTau), n' ≤ n + 200 → Inv σ' (T + 1) → S n' σ' τ' 872 (lawB ad b T v w k c 1 none none none none) [] := fun n' σ' τ' hn' hI' => l_end CL hI' hc (by omega) (fun n2 σ2 τ2 hn2 hI2 => ih (T + 1) n2 σ2 τ2 (by omega) (by omega) (by omega) hI2)
      refine r_iload C dL_law_83 rfl ?_
      refine r_iconst (v := 4) C dL_law_85 rfl ?_
      refine r_icmpge (tgt := 285) C dL_law_86 (by decide) (fun c86 => ?_) (fun c86 => ?_)
      · have n86 := Int32.not_lt.mpr c86
        refine r_iload C dL_law_285 rfl ?_
        refine r_bipush (v := 6) C dL_law_287 rfl ?_
        refine r_icmpge (tgt := 373) C dL_law_289 (by decide) (fun c289 => ?_) (fun c289 => ?_)
        · have n289 := Int32.not_lt.mpr c289
          refine r_iload C dL_law_373 rfl ?_
          refine r_bipush (v := 6) C dL_law_375 rfl ?_
          refine r_icmpne (tgt := 465) C dL_law_377 (by decide) (fun c377 => ?_) (fun c377 => ?_)
          · refine r_iload C dL_law_465 rfl ?_
            refine r_bipush (v := 9) C dL_law_467 rfl ?_
            refine r_icmpge (tgt := 586) C dL_law_469 (by decide) (fun c469 => ?_) (fun c469 => ?_)
            · have n469 := Int32.not_lt.mpr c469
              refine r_iload C dL_law_586 rfl ?_
              refine r_bipush (v := 12) C dL_law_588 rfl ?_
              refine r_icmpge (tgt := 775) C dL_law_590 (by decide) (fun c590 => ?_) (fun c590 => ?_)
              · have n590 := Int32.not_lt.mpr c590
                refine r_iload C dL_law_775 rfl ?_
                refine r_bipush (v := 12) C dL_law_777 rfl ?_
                refine r_icmpne (tgt := 844) C dL_law_779 (by decide) (fun c779 => ?_) (fun c779 => ?_)
                · exact r_swk (l_pass CL hI hc hT (by omega) hend) rfl rfl rfl rfl
                · exact r_swk (l_waive CL hI hc hT (by omega) hend) rfl rfl rfl rfl
              · have n590 := Int32.not_le.mp c590
                exact r_swk (l_attempt CL hI hc hT (by omega) hend) rfl rfl rfl rfl
            · have n469 := Int32.not_le.mp c469
              exact r_swk (l_tell CL hI hc hT (by omega) hend) rfl rfl rfl rfl
          · exact r_swk (l_set CL hI hc hT (by omega) hend) rfl rfl rfl rfl
        · have n289 := Int32.not_le.mp c289
          exact r_swk (l_input CL hI hc hT (by omega) hend) rfl rfl rfl rfl
      · have n86 := Int32.not_le.mp c86
        exact r_swk (l_draft CL hI hc hT (by omega) hend) rfl rfl rfl rfl
