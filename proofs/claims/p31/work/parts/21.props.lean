/-! ===== properties: printed by g21.py ===== -/
theorem lgc_lt {x y : Int64} : lg_cmp x y < 0 ↔ x < y := by
  unfold lg_cmp
  by_cases h : x > y
  · rw [if_pos h]
    refine ⟨fun q => absurd q (by decide), fun q => ?_⟩
    rw [gt_iff_lt, fa_lt64] at h
    rw [fa_lt64] at q
    omega
  · rw [if_neg h]
    by_cases e : x = y
    · rw [if_pos e]
      refine ⟨fun q => absurd q (by decide), fun q => ?_⟩
      rw [fa_lt64, e] at q
      omega
    · rw [if_neg e]
      refine ⟨fun _ => ?_, fun _ => by decide⟩
      rw [gt_iff_lt, fa_lt64] at h
      rw [fa_eq64] at e
      rw [fa_lt64]
      omega
theorem lgc_gt {x y : Int64} : 0 < lg_cmp x y ↔ y < x := by
  unfold lg_cmp
  by_cases h : x > y
  · rw [if_pos h]
    exact ⟨fun _ => h, fun _ => by decide⟩
  · rw [if_neg h]
    by_cases e : x = y
    · rw [if_pos e]
      exact ⟨fun q => absurd q (by decide), fun q => absurd q h⟩
    · rw [if_neg e]
      exact ⟨fun q => absurd q (by decide), fun q => absurd q h⟩
theorem gV_upF (σ : gSig) (s4 : Nat → Nat → Int32) : gV (upF σ 4 s4) = gV σ := rfl
/-- whether a cell's property p holds for a row -/
def prC (σ : gSig) (c p cell : Nat) (row : Nat → Int32) : Bool := prH (gV σ) (fun z => bt (σ 5 0 8) z) (σ 7 1) cell (σ 11 c p) (σ 12 c p) row
theorem prC_upF (σ : gSig) (s4 : Nat → Nat → Int32) (c p cell : Nat) : prC (upF σ 4 s4) c p cell = prC σ c p cell := rfl
/-- the last kind -/
def riH (Vf : (Nat → Int32) → Nat → Option Int32) (inp : Nat → Bool) (hi : Nat → Int32) (cell m : Nat) (v : Int32) (row : Nat → Int32) : Bool :=
  if inp m = false ∨ hi m ≤ row m then true else
    match Vf (upd row m (row m + 1)) cell with
    | none => false
    | some w => decide (v ≤ w)
/-- a cell's properties stand as they should -/
def plK (σ : gSig) (c q : Nat) : Prop := σ 10 c 2 = nI q ∧ q ≤ 4 ∧ ∀ p, p < q → (¬ σ 11 c p < 0 ∧ σ 11 c p ≤ 3) ∧ (σ 11 c p = 2 ∨ σ 11 c p = 3 → isC (σ 12 c p))
/-- a row in the trial's row, and the stacks as they are -/
def nvS (σ : gSig) (row : Nat → Int32) (s4 : Nat → Nat → Int32) : gSig := upF (upR σ 14 0 row) 4 s4
theorem nvS_row (σ : gSig) (row : Nat → Int32) (s4 : Nat → Nat → Int32) (c : Nat) (x : Int32) : up3 (nvS σ row s4) 14 0 c x = nvS σ (upd row c x) s4 := by
  funext f' c' i'
  unfold nvS up3 upF upR upd
  by_cases h1 : f' = 14
  · subst h1
    by_cases h2 : c' = 0
    · subst h2
      by_cases h3 : i' = c <;> simp [h3]
    · simp [h2]
  · simp [h1]
theorem nvS_upF (σ : gSig) (row : Nat → Int32) (s4 s4' : Nat → Nat → Int32) : upF (nvS σ row s4) 4 s4' = nvS σ row s4' := upF_upF _ _ _ _
theorem nvS_in (σ : gSig) (s4 : Nat → Nat → Int32) : upF σ 4 s4 = nvS σ (σ 14 0) s4 := by
  unfold nvS
  rw [upR_id]
theorem upd_back1 (row : Nat → Int32) (c : Nat) : upd (upd row c (row c + 1)) c (row c + 1 - 1) = row := by
  funext i
  unfold upd
  by_cases h : i = c
  · rw [if_pos h, h]
    exact Int32.add_sub_cancel _ _
  · rw [if_neg h, if_neg h]
set_option maxRecDepth 100000 in
set_option maxHeartbeats 4000000 in
theorem c_holds {l : Launch} {D : va_G} {ad : Nat → Nat → Nat} {aC : Nat → ClassId} (σ : gSig) (τ : gTau) (c p q cell : Nat) (o : Nat → Nat) (hc : c < 16) (hcell : cell < 16) (hK : shK σ o) (hq : σ 10 c 2 = nI q) (hq4 : q ≤ 4) (hp : p < q) (hpl : ∀ p, p < q → (¬ σ 11 c p < 0 ∧ σ 11 c p ≤ 3) ∧ (σ 11 c p = 2 ∨ σ 11 c p = 3 → isC (σ 12 c p))) : CZ l D ad aC yX2_holds cX2_holds 10 (some .boolean) 6 [.ref (ad 10 c), .int (nI p), .ref (ad 5 0), .int (nI cell), .ref (ad 14 0)] σ τ (fun r σ' τ' => ∃ s4 t8, some (.int (b2i (prC σ c p cell (σ 14 0)))) = r ∧ upF σ 4 s4 = σ' ∧ upT τ 8 t8 = τ') := by
  refine CZ.of (own := RX2) (by decide +kernel) rfl (Nat.le_of_ble_eq_true rfl) (fun S C => ?_)
  refine r_iload_n C dX2_holds_0 rfl rfl ?_
  refine r_iflt (tgt := 17) C dX2_holds_1 (by decide) (fun c1 => ?_) (fun c1 => ?_)
  · exact absurd c1 (nI_pos (by omega))
  · refine r_iload_n C dX2_holds_4 rfl rfl ?_
    refine r_aload_n C dX2_holds_5 rfl rfl ?_
    refine r_get (f := 2) (v := .int (nI q)) C dX2_holds_6 ⟨by decide, hc⟩ rfl rfl kU2 (by decide) kf_X2_18 rfl (by rw [← hq]; rfl) ?_
    refine r_icmpge (tgt := 17) C dX2_holds_9 (by decide) (fun c9 => ?_) (fun c9 => ?_)
    · have n9 := Int32.not_lt.mpr c9
      exact absurd (nI_lt hp (by omega)) n9
    · have n9 := Int32.not_le.mp c9
      refine r_iload_n C dX2_holds_12 rfl rfl ?_
      refine r_iconst (v := 4) C dX2_holds_13 rfl ?_
      refine r_icmplt (tgt := 19) C dX2_holds_14 (by decide) (fun c14 => ?_) (fun c14 => ?_)
      · have n14 := Int32.not_le.mpr c14
        refine r_aload_n C dX2_holds_19 rfl rfl ?_
        refine r_iload_n C dX2_holds_20 rfl rfl ?_
        refine r_aload C dX2_holds_21 rfl ?_
        refine r_callV C dX2_holds_23 (c_sReckon σ τ cell 14 0 o (gV σ (σ 14 0)) hcell hK (gV_eq hK _) ⟨by decide, by decide⟩ (by decide) (fun _ _ => rfl)) rfl ⟨by decide, by decide⟩ rfl rfl kB_X3_reckon rfl kI_X3_reckon kV_X3_reckon kl_X2_26 (by decide) (Nat.le_of_ble_eq_true rfl) (by decide) ?_
        rintro r9 σ' τ' ⟨s4, t8, rfl, rfl, rfl⟩
        refine r_lstore C dX2_holds_26 (by decide) rfl ?_
        refine r_lload C dX2_holds_28 rfl ?_
        refine r_ldc2 C dX2_holds_30 kc_X2_32 ?_
        refine r_lcmp C dX2_holds_33 ?_
        refine r_ifne (tgt := 39) C dX2_holds_34 (by decide) (fun c34 => ?_) (fun c34 => ?_)
        · obtain ⟨v, hv⟩ := oL_some (fun z => c34 (by rw [z]; exact lg_cmp_self _))
          rw [hv]
          have hv2 : ∀ x, x = v → gV σ (σ 14 0) cell = some x := fun x e => by rw [e]; exact hv
          have hcel : ∃ z, prC σ c p cell (σ 14 0) = z ∧ z = (if σ 11 c p = 0 then decide (σ 12 c p ≤ v) else if σ 11 c p = 1 then decide (v ≤ σ 12 c p) else if σ 11 c p = 2 then decide (gV σ (σ 14 0) (σ 12 c p).toNatClampNeg = some v) else riH (gV σ) (fun z => bt (σ 5 0 8) z) (σ 7 1) cell (σ 12 c p).toNatClampNeg v (σ 14 0)) := by
            refine ⟨_, rfl, ?_⟩
            unfold prC prH
            rw [hv]
            rfl
          obtain ⟨z, hz1, hz2⟩ := hcel
          obtain ⟨⟨hk0, hk3⟩, hnn⟩ := hpl p hp
          refine r_aload_n C dX2_holds_39 rfl rfl ?_
          refine r_get (f := 1) C dX2_holds_40 ⟨by decide, hc⟩ rfl rfl kU2 (by decide) kf_X2_15 rfl rfl ?_
          refine r_iload_n C dX2_holds_43 rfl rfl ?_
          refine r_ialdv (v := σ 12 c p) C dX2_holds_44 ⟨by decide, hc⟩ rfl (vp_in_nI (show p < 4 by omega) (by decide)) (by rw [nI_clamp (by omega)]; rfl) ?_
          refine r_istore C dX2_holds_45 (by decide) rfl ?_
          refine r_aload_n C dX2_holds_47 rfl rfl ?_
          refine r_get (f := 0) C dX2_holds_48 ⟨by decide, hc⟩ rfl rfl kU2 (by decide) kf_X2_9 rfl rfl ?_
          refine r_iload_n C dX2_holds_51 rfl rfl ?_
          refine r_ialdv (v := σ 11 c p) C dX2_holds_52 ⟨by decide, hc⟩ rfl (vp_in_nI (show p < 4 by omega) (by decide)) (by rw [nI_clamp (by omega)]; rfl) ?_
          by_cases h0 : σ 11 c p = 0
          · refine r_swIn (tgt := 80) C dX2_holds_53 (by rw [h0]; decide) (by rw [h0]; decide) (by rw [h0]; rfl) (by decide) ?_
            refine r_lload C dX2_holds_80 rfl ?_
            refine r_iload C dX2_holds_82 rfl ?_
            refine r_i2l C dX2_holds_84 ?_
            refine r_lcmp C dX2_holds_85 ?_
            refine r_iflt (tgt := 93) C dX2_holds_86 (by decide) (fun c86 => ?_) (fun c86 => ?_)
            · have hres : prC σ c p cell (σ 14 0) = false := by
                rw [hz1, hz2, if_pos h0]
                exact decide_eq_false (Int32.not_le.mpr ((fa_wide_lt _ _).mp (lgc_lt.mp c86)))
              refine r_iconst (v := 0) C dX2_holds_93 rfl ?_
              exact r_zret C dX2_holds_94 rfl (by decide) (by decide) ⟨s4, t8, by rw [hres]; rfl, rfl, rfl⟩
            · have hres : prC σ c p cell (σ 14 0) = true := by
                rw [hz1, hz2, if_pos h0]
                exact decide_eq_true (Int32.not_lt.mp (fun x => c86 (lgc_lt.mpr ((fa_wide_lt _ _).mpr x))))
              refine r_iconst (v := 1) C dX2_holds_89 rfl ?_
              refine r_goto (tgt := 94) C dX2_holds_90 (by decide) ?_
              exact r_zret C dX2_holds_94 rfl (by decide) (by decide) ⟨s4, t8, by rw [hres]; rfl, rfl, rfl⟩
          · skip
            by_cases h1 : σ 11 c p = 1
            · refine r_swIn (tgt := 95) C dX2_holds_53 (by rw [h1]; decide) (by rw [h1]; decide) (by rw [h1]; rfl) (by decide) ?_
              refine r_lload C dX2_holds_95 rfl ?_
              refine r_iload C dX2_holds_97 rfl ?_
              refine r_i2l C dX2_holds_99 ?_
              refine r_lcmp C dX2_holds_100 ?_
              refine r_ifgt (tgt := 108) C dX2_holds_101 (by decide) (fun c101 => ?_) (fun c101 => ?_)
              · have hres : prC σ c p cell (σ 14 0) = false := by
                  rw [hz1, hz2, if_neg h0, if_pos h1]
                  exact decide_eq_false (Int32.not_le.mpr ((fa_wide_lt _ _).mp (lgc_gt.mp c101)))
                refine r_iconst (v := 0) C dX2_holds_108 rfl ?_
                exact r_zret C dX2_holds_109 rfl (by decide) (by decide) ⟨s4, t8, by rw [hres]; rfl, rfl, rfl⟩
              · have hres : prC σ c p cell (σ 14 0) = true := by
                  rw [hz1, hz2, if_neg h0, if_pos h1]
                  exact decide_eq_true (Int32.not_lt.mp (fun x => c101 (lgc_gt.mpr ((fa_wide_lt _ _).mpr x))))
                refine r_iconst (v := 1) C dX2_holds_104 rfl ?_
                refine r_goto (tgt := 109) C dX2_holds_105 (by decide) ?_
                exact r_zret C dX2_holds_109 rfl (by decide) (by decide) ⟨s4, t8, by rw [hres]; rfl, rfl, rfl⟩
            · skip
              by_cases h2 : σ 11 c p = 2
              · refine r_swIn (tgt := 110) C dX2_holds_53 (by rw [h2]; decide) (by rw [h2]; decide) (by rw [h2]; rfl) (by decide) ?_
                refine r_lload C dX2_holds_110 rfl ?_
                refine r_aload_n C dX2_holds_112 rfl rfl ?_
                refine r_iload C dX2_holds_113 rfl ?_
                refine r_aload C dX2_holds_115 rfl ?_
                obtain ⟨m, hm16, hme⟩ := isC_nI (hnn (Or.inl h2))
                rw [hme]
                refine r_callV C dX2_holds_117 (c_sReckon (upF σ 4 s4) (upT τ 8 t8) m 14 0 o (gV σ (σ 14 0)) hm16 (show shK (upF σ 4 s4) o from hK) (gV_eq (show shK (upF σ 4 s4) o from hK) _) ⟨by decide, by decide⟩ (by decide) (fun _ _ => rfl)) rfl ⟨by decide, by decide⟩ rfl rfl kB_X3_reckon rfl kI_X3_reckon kV_X3_reckon kl_X2_26 (by decide) (Nat.le_of_ble_eq_true rfl) (by decide) ?_
                rintro r9 σ' τ' ⟨s4b, t8b, rfl, rfl, rfl⟩
                rw [upF_upF, upT_upT]
                refine r_lcmp C dX2_holds_120 ?_
                refine r_ifne (tgt := 128) C dX2_holds_121 (by decide) (fun c121 => ?_) (fun c121 => ?_)
                · have hres : prC σ c p cell (σ 14 0) = false := by
                    rw [hz1, hz2, if_neg h0, if_neg h1, if_pos h2, hme, nI_clamp (by omega)]
                    refine decide_eq_false (fun x => ?_)
                    rw [x] at c121
                    exact c121 (lg_cmp_self _)
                  refine r_iconst (v := 0) C dX2_holds_128 rfl ?_
                  exact r_zret C dX2_holds_129 rfl (by decide) (by decide) ⟨s4b, t8b, by rw [hres]; rfl, rfl, rfl⟩
                · have hres : prC σ c p cell (σ 14 0) = true := by
                    rw [hz1, hz2, if_neg h0, if_neg h1, if_pos h2, hme, nI_clamp (by omega)]
                    refine decide_eq_true ?_
                    have e := lg_cmp_0 c121
                    cases hw : gV σ (σ 14 0) m with
                    | none => rw [hw] at e; exact absurd e (oL_ne v)
                    | some x =>
                      rw [hw] at e
                      rw [(fa_wide_eq v x).mp e]
                  refine r_iconst (v := 1) C dX2_holds_124 rfl ?_
                  refine r_goto (tgt := 129) C dX2_holds_125 (by decide) ?_
                  exact r_zret C dX2_holds_129 rfl (by decide) (by decide) ⟨s4b, t8b, by rw [hres]; rfl, rfl, rfl⟩
              · skip
                have h3 : σ 11 c p = 3 := by
                  have a := (fa_le _ _).mp hk3
                  have b : ¬ (σ 11 c p).toInt < (0 : Int32).toInt := fun q => hk0 ((fa_lt _ _).mpr q)
                  have e0 := lv_neT h0 (a := 0) (by decide)
                  have e1 := lv_neT h1 (a := 1) (by decide)
                  have e2 := lv_neT h2 (a := 2) (by decide)
                  have z0 : (0 : Int32).toInt = 0 := by decide
                  have z3 : (3 : Int32).toInt = 3 := by decide
                  exact (fa_eq _ _).mpr (by omega)
                refine r_swOut (tgt := 130) C dX2_holds_53 (by rw [h3]; decide) (by decide) ?_
                obtain ⟨m, hm16, hme⟩ := isC_nI (hnn (Or.inr h3))
                rw [hme]
                have hpr : prC σ c p cell (σ 14 0) = riH (gV σ) (fun z => bt (σ 5 0 8) z) (σ 7 1) cell m v (σ 14 0) := by rw [hz1, hz2, if_neg h0, if_neg h1, if_neg h2, hme, nI_clamp (by omega)]
                refine r_aload_n C dX2_holds_130 rfl rfl ?_
                refine r_iload C dX2_holds_131 rfl ?_
                refine r_callV C dX2_holds_133 (c_isInput (upF σ 4 s4) (upT τ 8 t8) (nI m)) rfl ⟨by decide, by decide⟩ rfl rfl kB_X3_isInput rfl kI_X3_isInput kV_X3_isInput kl_X2_34 (by decide) (Nat.le_of_ble_eq_true rfl) (by decide) ?_
                rintro r9 σ' τ' ⟨rfl, rfl, rfl⟩
                rw [show hasB ((upF σ 4 s4) 5 0 8) (nI m) = bt (σ 5 0 8) m from hasB_bt hm16 _]
                refine r_ifeq (tgt := 154) C dX2_holds_136 (by decide) (fun c136 => ?_) (fun c136 => ?_)
                · have h136 := b2i_0.mp c136
                  have hres : prC σ c p cell (σ 14 0) = true := hpr.trans (if_pos (Or.inl h136))
                  refine r_iconst (v := 1) C dX2_holds_154 rfl ?_
                  exact r_zret C dX2_holds_155 rfl (by decide) (by decide) ⟨s4, t8, by rw [hres]; rfl, rfl, rfl⟩
                · have h136 := b2i_n.mp c136
                  refine r_aload C dX2_holds_139 rfl ?_
                  refine r_iload C dX2_holds_141 rfl ?_
                  refine r_ialdv (v := σ 14 0 m) C dX2_holds_143 ⟨by decide, by decide⟩ rfl (vp_in_nI hm16 (by decide)) (by rw [nI_clamp (by omega)]; rfl) ?_
                  refine r_aload_n C dX2_holds_144 rfl rfl ?_
                  refine r_get (f := 2) C dX2_holds_145 ⟨by decide, by decide⟩ rfl rfl kU3 (by decide) kf_X2_38 rfl rfl ?_
                  refine r_iload C dX2_holds_148 rfl ?_
                  refine r_ialdv (v := σ 7 1 m) C dX2_holds_150 ⟨by decide, by decide⟩ rfl (vp_in_nI hm16 (by decide)) (by rw [nI_clamp (by omega)]; rfl) ?_
                  refine r_icmplt (tgt := 156) C dX2_holds_151 (by decide) (fun c151 => ?_) (fun c151 => ?_)
                  · have n151 := Int32.not_le.mpr c151
                    have hri : prC σ c p cell (σ 14 0) = (match gV σ (upd (σ 14 0) m (σ 14 0 m + 1)) cell with | none => false | some w => decide (v ≤ w)) := by
                      rw [hpr]
                      refine if_neg (fun q => ?_)
                      rcases q with q | q
                      · cases h136.symm.trans q
                      · exact absurd q (Int32.not_le.mpr c151)
                    rw [nvS_in σ s4]
                    refine r_aload C dX2_holds_156 rfl ?_
                    refine r_iload C dX2_holds_158 rfl ?_
                    refine r_dup2 C dX2_holds_160 rfl rfl ?_
                    refine r_ialdv (v := σ 14 0 m) C dX2_holds_161 ⟨by decide, by decide⟩ rfl (vp_in_nI hm16 (by decide)) (by rw [nI_clamp (by omega)]; rfl) ?_
                    refine r_iconst (v := 1) C dX2_holds_162 rfl ?_
                    refine r_iadd C dX2_holds_163 ?_
                    refine r_iastv C dX2_holds_164 ⟨by decide, by decide⟩ (fun _ => rfl) (vp_in_nI hm16 (by decide)) (nI_clamp (by omega)) ?_
                    rw [nvS_row]
                    refine r_aload_n C dX2_holds_165 rfl rfl ?_
                    refine r_iload_n C dX2_holds_166 rfl rfl ?_
                    refine r_aload C dX2_holds_167 rfl ?_
                    refine r_callV C dX2_holds_169 (c_sReckon (nvS σ (upd (σ 14 0) m (σ 14 0 m + 1)) s4) (upT τ 8 t8) cell 14 0 o (gV σ (upd (σ 14 0) m (σ 14 0 m + 1))) hcell (show shK (nvS σ (upd (σ 14 0) m (σ 14 0 m + 1)) s4) o from hK) (gV_eq (show shK (nvS σ (upd (σ 14 0) m (σ 14 0 m + 1)) s4) o from hK) _) ⟨by decide, by decide⟩ (by decide) (fun _ _ => rfl)) rfl ⟨by decide, by decide⟩ rfl rfl kB_X3_reckon rfl kI_X3_reckon kV_X3_reckon kl_X2_26 (by decide) (Nat.le_of_ble_eq_true rfl) (by decide) ?_
                    rintro r9 σ' τ' ⟨s4b, t8b, rfl, rfl, rfl⟩
                    rw [nvS_upF, upT_upT]
                    refine r_lstore C dX2_holds_172 (by decide) rfl ?_
                    refine r_aload C dX2_holds_174 rfl ?_
                    refine r_iload C dX2_holds_176 rfl ?_
                    refine r_dup2 C dX2_holds_178 rfl rfl ?_
                    refine r_ialdv (v := σ 14 0 m + 1) C dX2_holds_179 ⟨by decide, by decide⟩ rfl (vp_in_nI hm16 (by decide)) (by rw [nI_clamp (by omega)]; show upd (σ 14 0) m (σ 14 0 m + 1) m = _; unfold upd; rw [if_pos rfl]) ?_
                    refine r_iconst (v := 1) C dX2_holds_180 rfl ?_
                    refine r_isub C dX2_holds_181 ?_
                    refine r_iastv C dX2_holds_182 ⟨by decide, by decide⟩ (fun _ => rfl) (vp_in_nI hm16 (by decide)) (nI_clamp (by omega)) ?_
                    rw [nvS_row, upd_back1, ← nvS_in]
                    refine r_lload C dX2_holds_183 rfl ?_
                    refine r_ldc2 C dX2_holds_185 kc_X2_32 ?_
                    refine r_lcmp C dX2_holds_188 ?_
                    refine r_ifeq (tgt := 204) C dX2_holds_189 (by decide) (fun c189 => ?_) (fun c189 => ?_)
                    · have e189 := lg_cmp_0 c189
                      have hres : prC σ c p cell (σ 14 0) = false := by
                        rw [hri]
                        cases hw : gV σ (upd (σ 14 0) m (σ 14 0 m + 1)) cell with
                        | none => rfl
                        | some x => rw [hw] at e189; exact absurd e189 (oL_ne x)
                      refine r_iconst (v := 0) C dX2_holds_204 rfl ?_
                      exact r_zret C dX2_holds_205 rfl (by decide) (by decide) ⟨s4b, t8b, by rw [hres]; rfl, rfl, rfl⟩
                    · obtain ⟨w, hw⟩ := oL_some (fun q => c189 (by rw [q]; exact lg_cmp_self _))
                      refine r_lload C dX2_holds_192 rfl ?_
                      refine r_lload C dX2_holds_194 rfl ?_
                      refine r_lcmp C dX2_holds_196 ?_
                      refine r_iflt (tgt := 204) C dX2_holds_197 (by decide) (fun c197 => ?_) (fun c197 => ?_)
                      · have hres : prC σ c p cell (σ 14 0) = false := by
                          rw [hri, hw]
                          rw [hw] at c197
                          exact decide_eq_false (Int32.not_le.mpr ((fa_wide_lt w v).mp (lgc_lt.mp c197)))
                        refine r_iconst (v := 0) C dX2_holds_204 rfl ?_
                        exact r_zret C dX2_holds_205 rfl (by decide) (by decide) ⟨s4b, t8b, by rw [hres]; rfl, rfl, rfl⟩
                      · have hres : prC σ c p cell (σ 14 0) = true := by
                          rw [hri, hw]
                          rw [hw] at c197
                          exact decide_eq_true (Int32.not_lt.mp (fun q => c197 (lgc_lt.mpr ((fa_wide_lt w v).mpr q))))
                        refine r_iconst (v := 1) C dX2_holds_200 rfl ?_
                        refine r_goto (tgt := 205) C dX2_holds_201 (by decide) ?_
                        exact r_zret C dX2_holds_205 rfl (by decide) (by decide) ⟨s4b, t8b, by rw [hres]; rfl, rfl, rfl⟩
                  · have n151 := Int32.not_lt.mp c151
                    have hres : prC σ c p cell (σ 14 0) = true := hpr.trans (if_pos (Or.inr n151))
                    refine r_iconst (v := 1) C dX2_holds_154 rfl ?_
                    exact r_zret C dX2_holds_155 rfl (by decide) (by decide) ⟨s4, t8, by rw [hres]; rfl, rfl, rfl⟩
        · have e29 := lg_cmp_0 c34
          have hres : prC σ c p cell (σ 14 0) = false := by
            unfold prC prH
            cases hw : gV σ (σ 14 0) cell with
            | none => rfl
            | some x => rw [hw] at e29; exact absurd e29 (oL_ne x)
          refine r_iconst (v := 0) C dX2_holds_37 rfl ?_
          exact r_zret C dX2_holds_38 rfl (by decide) (by decide) ⟨s4, t8, by rw [hres]; rfl, rfl, rfl⟩
      · have n14 := Int32.not_lt.mp c14
        exact absurd (nI_lt (show p < 4 by omega) (by decide)) c14
set_option maxRecDepth 100000 in
set_option maxHeartbeats 4000000 in
theorem c_firstBroken {l : Launch} {D : va_G} {ad : Nat → Nat → Nat} {aC : Nat → ClassId} (σ : gSig) (τ : gTau) (c q cell : Nat) (o : Nat → Nat) (hc : c < 16) (hcell : cell < 16) (hK : shK σ o) (hq : σ 10 c 2 = nI q) (hq4 : q ≤ 4) (hpl : ∀ p, p < q → (¬ σ 11 c p < 0 ∧ σ 11 c p ≤ 3) ∧ (σ 11 c p = 2 ∨ σ 11 c p = 3 → isC (σ 12 c p))) : CZ l D ad aC yX2_firstBroken cX2_firstBroken 5 (some .int) 7 [.ref (ad 10 c), .ref (ad 5 0), .int (nI cell), .ref (ad 14 0)] σ τ (fun r σ' τ' => ∃ s4 t8 res, some (.int res) = r ∧ upF σ 4 s4 = σ' ∧ upT τ 8 t8 = τ' ∧ fbE (fun z => prC σ c z cell (σ 14 0)) q res) := by
  refine CZ.of (own := RX2) (by decide +kernel) rfl (Nat.le_of_ble_eq_true rfl) (fun S C => ?_)
  refine r_iconst (v := 0) C dX2_firstBroken_0 rfl ?_
  refine r_istore C dX2_firstBroken_1 (by decide) rfl ?_
  have loop : ∀ m p, p ≤ q → q - p < m → ∀ (s4 : Nat → Nat → Int32) (t8 : Nat → Int64), (∀ z, z < p → prC σ c z cell (σ 14 0) = true) → S 0 (upF σ 4 s4) (upT τ 8 t8) 3 [some (.ref (ad 10 c)), some (.ref (ad 5 0)), some (.int (nI cell)), some (.ref (ad 14 0)), some (.int (nI p))] [] := by
    intro m
    induction m with
    | zero => intro p _ hm; omega
    | succ m ih =>
      intro p hpq hm s4 t8 hdone
      refine r_iload C dX2_firstBroken_3 rfl ?_
      refine r_aload_n C dX2_firstBroken_5 rfl rfl ?_
      refine r_get (f := 2) (v := .int (nI q)) C dX2_firstBroken_6 ⟨by decide, hc⟩ rfl rfl kU2 (by decide) kf_X2_18 rfl (by rw [← hq]; rfl) ?_
      refine r_icmpge (tgt := 33) C dX2_firstBroken_9 (by decide) (fun c9 => ?_) (fun c9 => ?_)
      · have n9 := Int32.not_lt.mpr c9
        have hpe : p = q := by
          have := (nI_leI (by omega) (by omega)).mp c9
          omega
        subst hpe
        refine r_iconst (v := (-1)) C dX2_firstBroken_33 rfl ?_
        exact r_iret C dX2_firstBroken_34 rfl (by decide) ⟨s4, t8, -1, rfl, rfl, rfl, Or.inl ⟨rfl, hdone⟩⟩
      · have n9 := Int32.not_le.mp c9
        have hp : p < q := (nI_ltI (by omega) (by omega)).mp n9
        refine r_aload_n C dX2_firstBroken_12 rfl rfl ?_
        refine r_iload C dX2_firstBroken_13 rfl ?_
        refine r_aload_n C dX2_firstBroken_15 rfl rfl ?_
        refine r_iload_n C dX2_firstBroken_16 rfl rfl ?_
        refine r_aload_n C dX2_firstBroken_17 rfl rfl ?_
        refine r_callV C dX2_firstBroken_18 (c_holds (upF σ 4 s4) (upT τ 8 t8) c p q cell o hc hcell (show shK (upF σ 4 s4) o from hK) hq hq4 hp hpl) rfl ⟨by decide, hc⟩ rfl rfl kB_X2_holds rfl kI_X2_holds kV_X2_holds kl_X2_22 (by decide) (Nat.le_of_ble_eq_true rfl) (by decide) ?_
        rintro r9 σ' τ' ⟨s4b, t8b, rfl, rfl, rfl⟩
        rw [upF_upF, upT_upT, show prC (upF σ 4 s4) c p cell ((upF σ 4 s4) 14 0) = prC σ c p cell (σ 14 0) from rfl]
        refine r_ifne (tgt := 27) C dX2_firstBroken_21 (by decide) (fun c21 => ?_) (fun c21 => ?_)
        · have h21 := b2i_n.mp c21
          have hnew : ∀ z, z < p + 1 → prC σ c z cell (σ 14 0) = true := fun z hz => by
            by_cases e : z = p
            · subst e; exact h21
            · exact hdone z (by omega)
          refine r_iinc C dX2_firstBroken_27 rfl rfl (by decide) rfl ?_
          refine r_goto (tgt := 3) C dX2_firstBroken_30 (by decide) ?_
          exact r_swk (ih (p + 1) (by omega) (by omega) _ _ hnew) rfl rfl (by rw [← nI_p1]; rfl) rfl
        · have h21 := b2i_0.mp c21
          refine r_iload C dX2_firstBroken_24 rfl ?_
          exact r_iret C dX2_firstBroken_26 rfl (by decide) ⟨s4b, t8b, nI p, rfl, rfl, rfl, Or.inr ⟨p, hp, rfl, h21, hdone⟩⟩
  exact r_swk (loop (q + 1) 0 (by omega) (by omega) (σ 4) (τ 8) (fun z hz => absurd hz (Nat.not_lt_zero z))) (upF_id σ 4) (upT_id τ 8) rfl rfl
def addS (σ : gSig) (c q : Nat) (kd n : Int32) : gSig := up3 (up3 (up3 σ 11 c q kd) 12 c q n) 10 c 2 (nI (q + 1))
set_option maxRecDepth 100000 in
set_option maxHeartbeats 4000000 in
theorem c_add {l : Launch} {D : va_G} {ad : Nat → Nat → Nat} {aC : Nat → ClassId} (σ : gSig) (τ : gTau) (c q : Nat) (kd n : Int32) (hc : c < 16) (hq : σ 10 c 2 = nI q) (hq4 : q ≤ 4) : CZ l D ad aC yX2_add cX2_add 3 (some .boolean) 0 [.ref (ad 10 c), .int kd, .int n] σ τ (gEq (some (.int (b2i (decide (q < 4))))) (if q < 4 then addS σ c q kd n else σ) τ) := by
  refine CZ.of (own := RX2) (by decide +kernel) rfl (Nat.le_of_ble_eq_true rfl) (fun S C => ?_)
  refine r_aload_n C dX2_add_0 rfl rfl ?_
  refine r_get (f := 2) (v := .int (nI q)) C dX2_add_1 ⟨by decide, hc⟩ rfl rfl kU2 (by decide) kf_X2_18 rfl (by rw [← hq]; rfl) ?_
  refine r_iconst (v := 4) C dX2_add_4 rfl ?_
  refine r_icmplt (tgt := 10) C dX2_add_5 (by decide) (fun c5 => ?_) (fun c5 => ?_)
  · have n5 := Int32.not_le.mpr c5
    have hq4l : q < 4 := (nI_ltI (by omega) (by decide)).mp c5
    refine r_aload_n C dX2_add_10 rfl rfl ?_
    refine r_get (f := 0) C dX2_add_11 ⟨by decide, hc⟩ rfl rfl kU2 (by decide) kf_X2_9 rfl rfl ?_
    refine r_aload_n C dX2_add_14 rfl rfl ?_
    refine r_get (f := 2) (v := .int (nI q)) C dX2_add_15 ⟨by decide, hc⟩ rfl rfl kU2 (by decide) kf_X2_18 rfl (by rw [← hq]; rfl) ?_
    refine r_iload_n C dX2_add_18 rfl rfl ?_
    refine r_iastv C dX2_add_19 ⟨by decide, hc⟩ (fun _ => rfl) (vp_in_nI hq4l (by decide)) (nI_clamp (by omega)) ?_
    refine r_aload_n C dX2_add_20 rfl rfl ?_
    refine r_get (f := 1) C dX2_add_21 ⟨by decide, hc⟩ rfl rfl kU2 (by decide) kf_X2_15 rfl rfl ?_
    refine r_aload_n C dX2_add_24 rfl rfl ?_
    refine r_get (f := 2) (v := .int (nI q)) C dX2_add_25 ⟨by decide, hc⟩ rfl rfl kU2 (by decide) kf_X2_18 rfl (by rw [← hq]; rfl) ?_
    refine r_iload_n C dX2_add_28 rfl rfl ?_
    refine r_iastv C dX2_add_29 ⟨by decide, hc⟩ (fun _ => rfl) (vp_in_nI hq4l (by decide)) (nI_clamp (by omega)) ?_
    refine r_aload_n C dX2_add_30 rfl rfl ?_
    refine r_dup C dX2_add_31 rfl ?_
    refine r_get (f := 2) (v := .int (nI q)) C dX2_add_32 ⟨by decide, hc⟩ rfl rfl kU2 (by decide) kf_X2_18 rfl (by rw [← hq]; rfl) ?_
    refine r_iconst (v := 1) C dX2_add_35 rfl ?_
    refine r_iadd C dX2_add_36 ?_
    refine r_put (f := 2) C dX2_add_37 ⟨by decide, hc⟩ rfl rfl kU2 tyX2 tyX2_ok nmX2 (by decide) kf_X2_18 rfl rfl (by decide +kernel) (Nat.le_of_ble_eq_true rfl) (by simp [cel, up3]) ?_
    refine r_iconst (v := 1) C dX2_add_40 rfl ?_
    exact r_zret C dX2_add_41 rfl (by decide) (by decide) ⟨by rw [decide_eq_true hq4l]; rfl, by rw [if_pos hq4l, addS, ← nI_1], rfl⟩
  · have n5 := Int32.not_lt.mp c5
    have hq4n : ¬ q < 4 := fun x => absurd (nI_lt x (by decide)) c5
    refine r_iconst (v := 0) C dX2_add_8 rfl ?_
    exact r_zret C dX2_add_9 rfl (by decide) (by decide) ⟨by rw [decide_eq_false hq4n]; rfl, by rw [if_neg hq4n], rfl⟩
