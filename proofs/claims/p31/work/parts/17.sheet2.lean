/-! ===== the sheet: locks, and a cell reckoned: printed by g17.py ===== -/
set_option maxRecDepth 100000 in
set_option maxHeartbeats 4000000 in
theorem c_sLocked {l : Launch} {D : va_G} {ad : Nat → Nat → Nat} {aC : Nat → ClassId} (σ : gSig) (τ : gTau) (fl wv : Int32) (o : Nat → Nat) (hO : ordI (σ 7 5) o 16) : CZ l D ad aC yX3_lockedCells cX3_lockedCells 6 (some .int) 1 [.ref (ad 5 0), .int fl, .int wv] σ τ (gEq (some (.int (lkF (σ 7 3) fl wv o 16))) σ τ) := by
  refine CZ.of (own := RX3) (by decide +kernel) rfl (Nat.le_of_ble_eq_true rfl) (fun S C => ?_)
  refine r_iconst (v := 0) C dX3_lockedCells_0 rfl ?_
  refine r_istore_n C dX3_lockedCells_1 rfl (by decide) rfl ?_
  refine r_iconst (v := 0) C dX3_lockedCells_2 rfl ?_
  refine r_istore C dX3_lockedCells_3 (by decide) rfl ?_
  have loop : ∀ m i, i ≤ 16 → 16 - i < m → S 0 σ τ 5 [some (.ref (ad 5 0)), some (.int fl), some (.int wv), some (.int (lkF (σ 7 3) fl wv o i)), some (.int (nI i)), none] [] := by
    intro m
    induction m with
    | zero => intro i _ hm; omega
    | succ m ihloop =>
      intro i hiloop hmloop
      refine r_iload C dX3_lockedCells_5 rfl ?_
      refine r_bipush (v := 16) C dX3_lockedCells_7 rfl ?_
      refine r_icmpge (tgt := 66) C dX3_lockedCells_9 (by decide) (fun c9 => ?_) (fun c9 => ?_)
      · have n9 := Int32.not_lt.mpr c9
        have hloope : i = 16 := by
          have := (nI_leI (a := 16) (by omega) (by omega)).mp c9
          omega
        subst hloope
        refine r_iload_n C dX3_lockedCells_66 rfl rfl ?_
        exact r_iret C dX3_lockedCells_67 rfl (by decide) ⟨rfl, rfl, rfl⟩
      · have n9 := Int32.not_le.mp c9
        have hloopl : i < 16 := (nI_ltI (b := 16) (by omega) (by omega)).mp n9
        refine r_aload_n C dX3_lockedCells_12 rfl rfl ?_
        refine r_get (f := 6) C dX3_lockedCells_13 ⟨by decide, by decide⟩ rfl rfl kU3 (by decide) kf_X3_33 rfl rfl ?_
        refine r_iload C dX3_lockedCells_16 rfl ?_
        obtain ⟨ho1, ho2⟩ := hO i hloopl
        refine r_ialdv (v := nI (o i)) C dX3_lockedCells_18 ⟨by decide, by decide⟩ rfl (vp_in_nI hloopl (by decide)) (by rw [nI_clamp (by omega), ho1]) ?_
        refine r_istore C dX3_lockedCells_19 (by decide) rfl ?_
        refine r_iload_n C dX3_lockedCells_21 rfl rfl ?_
        refine r_iconst (v := (-1)) C dX3_lockedCells_22 rfl ?_
        refine r_ixor C dX3_lockedCells_23 ?_
        refine r_iload C dX3_lockedCells_24 rfl ?_
        refine r_callSN C dX3_lockedCells_26 (c_has σ τ (wv ^^^ (-1)) (nI (o i))) rfl kB_X5_has rfl kS_X5_has kl_X3_46 (by decide) (Nat.le_of_ble_eq_true rfl) (by decide) ?_
        rintro r9 σ' τ' ⟨rfl, rfl, rfl⟩
        rw [hasB_bt ho2, bt_not wv (by omega)]
        refine r_ifeq (tgt := 60) C dX3_lockedCells_29 (by decide) (fun c29 => ?_) (fun c29 => ?_)
        · have h29 := b2i_0.mp c29
          have hlk : lkB (σ 7 3) fl wv (lkF (σ 7 3) fl wv o i) (o i) = false := by simp only [lkB, h29, Bool.false_and]
          refine r_iinc C dX3_lockedCells_60 rfl rfl (by decide) rfl ?_
          refine r_goto (tgt := 5) C dX3_lockedCells_63 (by decide) ?_
          refine r_drop C [5] ?_
          exact r_swk (ihloop (i + 1) (by omega) (by omega)) rfl rfl (by first | (rw [lkF_t hlk, ← nI_p1]; rfl) | (rw [lkF_f hlk, ← nI_p1]; rfl)) rfl
        · have h29 := b2i_n.mp c29
          refine r_iload_n C dX3_lockedCells_32 rfl rfl ?_
          refine r_iload C dX3_lockedCells_33 rfl ?_
          refine r_callSN C dX3_lockedCells_35 (c_has σ τ fl (nI (o i))) rfl kB_X5_has rfl kS_X5_has kl_X3_46 (by decide) (Nat.le_of_ble_eq_true rfl) (by decide) ?_
          rintro r9 σ' τ' ⟨rfl, rfl, rfl⟩
          rw [hasB_bt ho2]
          refine r_ifne (tgt := 53) C dX3_lockedCells_38 (by decide) (fun c38 => ?_) (fun c38 => ?_)
          · have h38 := b2i_n.mp c38
            have hlk : lkB (σ 7 3) fl wv (lkF (σ 7 3) fl wv o i) (o i) = true := by simp only [lkB, h29, h38, Bool.true_and, Bool.true_or]
            refine r_iload_n C dX3_lockedCells_53 rfl rfl ?_
            refine r_iconst (v := 1) C dX3_lockedCells_54 rfl ?_
            refine r_iload C dX3_lockedCells_55 rfl ?_
            refine r_ishl C dX3_lockedCells_57 ?_
            refine r_ior C dX3_lockedCells_58 ?_
            refine r_istore_n C dX3_lockedCells_59 rfl (by decide) rfl ?_
            refine r_iinc C dX3_lockedCells_60 rfl rfl (by decide) rfl ?_
            refine r_goto (tgt := 5) C dX3_lockedCells_63 (by decide) ?_
            refine r_drop C [5] ?_
            exact r_swk (ihloop (i + 1) (by omega) (by omega)) rfl rfl (by first | (rw [lkF_t hlk, ← nI_p1]; rfl) | (rw [lkF_f hlk, ← nI_p1]; rfl)) rfl
          · have h38 := b2i_0.mp c38
            refine r_aload_n C dX3_lockedCells_41 rfl rfl ?_
            refine r_get (f := 4) C dX3_lockedCells_42 ⟨by decide, by decide⟩ rfl rfl kU3 (by decide) kf_X3_27 rfl rfl ?_
            refine r_iload C dX3_lockedCells_45 rfl ?_
            refine r_ialdv (v := σ 7 3 (o i)) C dX3_lockedCells_47 ⟨by decide, by decide⟩ rfl (vp_in_nI ho2 (by decide)) (by rw [nI_clamp (by omega)]) ?_
            refine r_iload_n C dX3_lockedCells_48 rfl rfl ?_
            refine r_iand C dX3_lockedCells_49 ?_
            refine r_ifeq (tgt := 60) C dX3_lockedCells_50 (by decide) (fun c50 => ?_) (fun c50 => ?_)
            · have hlk : lkB (σ 7 3) fl wv (lkF (σ 7 3) fl wv o i) (o i) = false := by simp only [lkB, h29, h38, Bool.true_and, Bool.false_or, c50, decide_true, Bool.not_true]
              refine r_iinc C dX3_lockedCells_60 rfl rfl (by decide) rfl ?_
              refine r_goto (tgt := 5) C dX3_lockedCells_63 (by decide) ?_
              refine r_drop C [5] ?_
              exact r_swk (ihloop (i + 1) (by omega) (by omega)) rfl rfl (by first | (rw [lkF_t hlk, ← nI_p1]; rfl) | (rw [lkF_f hlk, ← nI_p1]; rfl)) rfl
            · have hlk : lkB (σ 7 3) fl wv (lkF (σ 7 3) fl wv o i) (o i) = true := by simp only [lkB, h29, h38, Bool.true_and, Bool.false_or, decide_eq_false c50, Bool.not_false]
              refine r_iload_n C dX3_lockedCells_53 rfl rfl ?_
              refine r_iconst (v := 1) C dX3_lockedCells_54 rfl ?_
              refine r_iload C dX3_lockedCells_55 rfl ?_
              refine r_ishl C dX3_lockedCells_57 ?_
              refine r_ior C dX3_lockedCells_58 ?_
              refine r_istore_n C dX3_lockedCells_59 rfl (by decide) rfl ?_
              refine r_iinc C dX3_lockedCells_60 rfl rfl (by decide) rfl ?_
              refine r_goto (tgt := 5) C dX3_lockedCells_63 (by decide) ?_
              refine r_drop C [5] ?_
              exact r_swk (ihloop (i + 1) (by omega) (by omega)) rfl rfl (by first | (rw [lkF_t hlk, ← nI_p1]; rfl) | (rw [lkF_f hlk, ← nI_p1]; rfl)) rfl
  exact loop (16 + 1) 0 (by omega) (by omega)
set_option maxRecDepth 100000 in
set_option maxHeartbeats 4000000 in
theorem c_sReckon {l : Launch} {D : va_G} {ad : Nat → Nat → Nat} {aC : Nat → ClassId} (σ : gSig) (τ : gTau) (cell fr cr : Nat) (o : Nat → Nat) (V : Nat → Option Int32) (hc : cell < 16) (hK : shK σ o) (hV : vEq σ (σ fr cr) V) (hrok : gok fr cr) (hr4 : ¬ fr = 4) (hrc : ∀ (σ : gSig) (τ : gTau), cel ad aC σ τ fr cr = .inl (aC 0, 16, .inl (σ fr cr))) : CZ l D ad aC yX3_reckon cX3_reckon 6 (some .long) 4 [.ref (ad 5 0), .int (nI cell), .ref (ad fr cr)] σ τ (fun r σ' τ' => ∃ s4 t8, some (.long (oL (V cell))) = r ∧ upF σ 4 s4 = σ' ∧ upT τ 8 t8 = τ') := by
  refine CZ.of (own := RX3) (by decide +kernel) rfl (Nat.le_of_ble_eq_true rfl) (fun S C => ?_)
  obtain ⟨hO, hT, hJ, hSu, hR, hF, hI16⟩ := hK
  refine r_iload_n C dX3_reckon_0 rfl rfl ?_
  refine r_iflt (tgt := 10) C dX3_reckon_1 (by decide) (fun c1 => ?_) (fun c1 => ?_)
  · exact absurd c1 (nI_pos (by omega))
  · refine r_iload_n C dX3_reckon_4 rfl rfl ?_
    refine r_bipush (v := 16) C dX3_reckon_5 rfl ?_
    refine r_icmplt (tgt := 14) C dX3_reckon_7 (by decide) (fun c7 => ?_) (fun c7 => ?_)
    · have n7 := Int32.not_le.mpr c7
      refine r_aload_n C dX3_reckon_14 rfl rfl ?_
      refine r_get (f := 5) C dX3_reckon_15 ⟨by decide, by decide⟩ rfl rfl kU3 (by decide) kf_X3_30 rfl rfl ?_
      refine r_iload_n C dX3_reckon_18 rfl rfl ?_
      refine r_ialdv (v := σ 7 4 cell) C dX3_reckon_19 ⟨by decide, by decide⟩ rfl (vp_in_nI hc (by decide)) (by rw [nI_clamp (by omega)]) ?_
      refine r_iconst (v := 1) C dX3_reckon_20 rfl ?_
      refine r_iload_n C dX3_reckon_21 rfl rfl ?_
      refine r_ishl C dX3_reckon_22 ?_
      refine r_ior C dX3_reckon_23 ?_
      refine r_istore_n C dX3_reckon_24 rfl (by decide) rfl ?_
      obtain ⟨need, hneed⟩ : ∃ z, z = σ 7 4 cell ||| b1 cell := ⟨_, rfl⟩
      have hncl : ∀ e d, e < 16 → d < 16 → bt need e = true → bt (σ 7 3 e) d = true → bt need d = true := fun e d he hd h1 h2 => by
        rw [hneed] at h1 ⊢
        exact rs_closed hT hSu hR hc he h1 h2
      have loop : ∀ m i, i ≤ 16 → 16 - i < m → ∀ (s4 : Nat → Nat → Int32) (t8 : Nat → Int64), (∀ j, j < i → bt need (o j) = true → t8 (o j) = oL (V (o j))) → S 0 (upF σ 4 s4) (upT τ 8 t8) 28 [some (.ref (ad 5 0)), some (.int (nI cell)), some (.ref (ad fr cr)), some (.int need), some (.int (nI i)), none] [] := by
        intro m
        induction m with
        | zero => intro i _ hm; omega
        | succ m ih =>
          intro i hi hm s4 t8 hdone
          refine r_iload C dX3_reckon_28 rfl ?_
          refine r_bipush (v := 16) C dX3_reckon_30 rfl ?_
          refine r_icmpge (tgt := 97) C dX3_reckon_32 (by decide) (fun c32 => ?_) (fun c32 => ?_)
          · have n32 := Int32.not_lt.mpr c32
            have hie : i = 16 := by
              have := (nI_leI (a := 16) (by omega) (by omega)).mp c32
              omega
            subst hie
            obtain ⟨ic, hic, hoc⟩ := hSu cell hc
            have hval : t8 cell = oL (V cell) := by
              rw [← hoc]
              refine hdone ic hic ?_
              rw [hoc, hneed, b_or, bt_b1 (by omega)]
              simp
            refine r_aload_n C dX3_reckon_97 rfl rfl ?_
            refine r_get (f := 7) C dX3_reckon_98 ⟨by decide, by decide⟩ rfl rfl kU3 (by decide) kf_X3_36 rfl rfl ?_
            refine r_iload_n C dX3_reckon_101 rfl rfl ?_
            refine r_laldv (v := oL (V cell)) C dX3_reckon_102 ⟨by decide, by decide⟩ rfl (vp_in_nI hc (by decide)) (by rw [nI_clamp (by omega)]; exact hval) ?_
            exact r_lret C dX3_reckon_103 rfl (by decide) ⟨s4, t8, rfl, rfl, rfl⟩
          · have n32 := Int32.not_le.mp c32
            have hil : i < 16 := (nI_ltI (b := 16) (by omega) (by omega)).mp n32
            obtain ⟨ho1, ho2⟩ := hO i hil
            refine r_aload_n C dX3_reckon_35 rfl rfl ?_
            refine r_get (f := 6) C dX3_reckon_36 ⟨by decide, by decide⟩ rfl rfl kU3 (by decide) kf_X3_33 rfl rfl ?_
            refine r_iload C dX3_reckon_39 rfl ?_
            refine r_ialdv (v := nI (o i)) C dX3_reckon_41 ⟨by decide, by decide⟩ rfl (vp_in_nI hil (by decide)) (by rw [nI_clamp (by omega)]; exact ho1) ?_
            refine r_istore C dX3_reckon_42 (by decide) rfl ?_
            refine r_iload_n C dX3_reckon_44 rfl rfl ?_
            refine r_iload C dX3_reckon_45 rfl ?_
            refine r_callSN C dX3_reckon_47 (c_has (upF σ 4 s4) (upT τ 8 t8) need (nI (o i))) rfl kB_X5_has rfl kS_X5_has kl_X3_46 (by decide) (Nat.le_of_ble_eq_true rfl) (by decide) ?_
            rintro r9 σ' τ' ⟨rfl, rfl, rfl⟩
            rw [hasB_bt ho2]
            refine r_ifeq (tgt := 91) C dX3_reckon_50 (by decide) (fun c50 => ?_) (fun c50 => ?_)
            · have h50 := b2i_0.mp c50
              have hnew : ∀ j, j < i + 1 → bt need (o j) = true → t8 (o j) = oL (V (o j)) := fun j hj hn => by
                by_cases e : j = i
                · subst e; rw [h50] at hn; cases hn
                · exact hdone j (by omega) hn
              refine r_iinc C dX3_reckon_91 rfl rfl (by decide) rfl ?_
              refine r_goto (tgt := 28) C dX3_reckon_94 (by decide) ?_
              refine r_drop C [5] ?_
              exact r_swk (ih (i + 1) (by omega) (by omega) _ _ hnew) rfl rfl (by rw [← nI_p1]; rfl) rfl
            · have h50 := b2i_n.mp c50
              have j90 : ∀ (v : Int64) (s4 : Nat → Nat → Int32), v = oL (V (o i)) → S 0 (upF σ 4 s4) (upT τ 8 t8) 90 [some (.ref (ad 5 0)), some (.int (nI cell)), some (.ref (ad fr cr)), some (.int need), some (.int (nI i)), some (.int (nI (o i)))] [.long v, .int (nI (o i)), .ref (ad 8 0)] := by
                intro v s4 hv
                refine r_lastv C dX3_reckon_90 ⟨by decide, by decide⟩ rfl (fun _ => rfl) (vp_in_nI ho2 (by decide)) (nI_clamp (by omega)) ?_
                rw [up2_upT]
                have hnew : ∀ j, j < i + 1 → bt need (o j) = true → (vp_updL t8 (o i) v) (o j) = oL (V (o j)) := fun j hj hn => by
                  unfold vp_updL
                  by_cases e : o j = o i
                  · rw [if_pos e, e, hv]
                  · rw [if_neg e]
                    refine hdone j ?_ hn
                    have : j ≠ i := fun q => e (by rw [q])
                    omega
                refine r_iinc C dX3_reckon_91 rfl rfl (by decide) rfl ?_
                refine r_goto (tgt := 28) C dX3_reckon_94 (by decide) ?_
                refine r_drop C [5] ?_
                exact r_swk (ih (i + 1) (by omega) (by omega) _ _ hnew) rfl rfl (by rw [← nI_p1]; rfl) rfl
              refine r_aload_n C dX3_reckon_53 rfl rfl ?_
              refine r_get (f := 7) C dX3_reckon_54 ⟨by decide, by decide⟩ rfl rfl kU3 (by decide) kf_X3_36 rfl rfl ?_
              refine r_iload C dX3_reckon_57 rfl ?_
              refine r_aload_n C dX3_reckon_59 rfl rfl ?_
              refine r_iload C dX3_reckon_60 rfl ?_
              refine r_callV C dX3_reckon_62 (c_isInput (upF σ 4 s4) (upT τ 8 t8) (nI (o i))) rfl ⟨by decide, by decide⟩ rfl rfl kB_X3_isInput rfl kI_X3_isInput kV_X3_isInput kl_X3_67 (by decide) (Nat.le_of_ble_eq_true rfl) (by decide) ?_
              rintro r9 σ' τ' ⟨rfl, rfl, rfl⟩
              rw [show hasB ((upF σ 4 s4) 5 0 8) (nI (o i)) = bt (σ 5 0 8) (o i) from hasB_bt ho2 _]
              refine r_ifeq (tgt := 76) C dX3_reckon_65 (by decide) (fun c65 => ?_) (fun c65 => ?_)
              · have h65 := b2i_0.mp c65
                refine r_aload_n C dX3_reckon_76 rfl rfl ?_
                refine r_get (f := 0) C dX3_reckon_77 ⟨by decide, by decide⟩ rfl rfl kU3 (by decide) kf_X3_11 rfl rfl ?_
                refine r_iload C dX3_reckon_80 rfl ?_
                refine r_aaldv (t0 := 3) C dX3_reckon_82 ⟨by decide, by decide⟩ rfl rfl (vp_in_nI ho2 (by decide)) (nI_clamp (by omega)) ?_
                refine r_aload_n C dX3_reckon_83 rfl rfl ?_
                refine r_get (f := 7) C dX3_reckon_84 ⟨by decide, by decide⟩ rfl rfl kU3 (by decide) kf_X3_36 rfl rfl ?_
                obtain ⟨hfr, hfrd⟩ := (hF _ ho2).2 h65
                obtain ⟨f1, f2, f3, f4, f5⟩ := hfr
                have hvs : ∀ q, q < flen σ (o i) → σ 2 (o i) q = 13 → t8 (σ 3 (o i) q).toNatClampNeg = oL (V (σ 3 (o i) q).toNatClampNeg) := fun q hq hk => by
                  obtain ⟨d, hd, e⟩ := isC_nI ((f4 q hq).2.2 hk)
                  rw [e, nI_clamp (by omega)]
                  have hrd : bt (σ 7 3 (o i)) d = true := by
                    rw [hfrd]
                    exact rsM_in (fun z hz => (f4 z hz).2.2) hq hk e hd
                  obtain ⟨j, hj, e2⟩ := hT i hil d hd hrd
                  rw [← e2]
                  refine hdone j hj ?_
                  rw [e2]
                  exact hncl (o i) d ho2 hd h50 hrd
                refine r_callV C dX3_reckon_87 (c_reckon (upF σ 4 s4) (upT τ 8 t8) (o i) (flen σ (o i)) V (by omega) f1 f3 f4 f5 hvs) rfl ⟨by decide, Nat.lt_of_lt_of_le ho2 (by decide)⟩ rfl rfl kB_X0_reckon rfl kI_X0_reckon kV_X0_reckon kl_X3_71 (by decide) (Nat.le_of_ble_eq_true rfl) (by decide) ?_
                rintro r9 σ' τ' ⟨g4, rfl, rfl, rfl⟩
                rw [upR_upF]
                exact j90 _ _ (by rw [hV _ ho2, if_neg (by rw [h65]; decide)]; rfl)
              · have h65 := b2i_n.mp c65
                refine r_aload_n C dX3_reckon_68 rfl rfl ?_
                refine r_iload C dX3_reckon_69 rfl ?_
                refine r_ialdv (v := σ fr cr (o i)) C dX3_reckon_71 hrok (hrc _ _) (vp_in_nI ho2 (by decide)) (by rw [nI_clamp (by omega)]; show (if fr = 4 then _ else σ fr cr) (o i) = _; rw [if_neg hr4]) ?_
                refine r_i2l C dX3_reckon_72 ?_
                refine r_goto (tgt := 90) C dX3_reckon_73 (by decide) ?_
                exact j90 _ _ (by rw [hV _ ho2, if_pos h65]; rfl)
      refine r_iconst (v := 0) C dX3_reckon_25 rfl ?_
      refine r_istore C dX3_reckon_26 (by decide) rfl ?_
      refine r_swk (loop 17 0 (by omega) (by omega) (σ 4) (τ 8) (fun j hj => absurd hj (Nat.not_lt_zero j))) (upF_id σ 4) (upT_id τ 8) ?_ rfl
      rw [hneed]
      rfl
    · have n7 := Int32.not_lt.mp c7
      exact absurd (isC_of hc).2 c7
