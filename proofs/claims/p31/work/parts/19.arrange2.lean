/-! ===== the sheet: arrange, makeInput, makeFormula: printed by g19.py ===== -/
def arQ (σ1 : gSig) (τ : gTau) : Option Value → gSig → gTau → Prop := fun r σ' τ' => ∃ (ord ro : Nat → Int32) (o : Nat → Nat), none = r ∧ upR (upR σ1 7 5 ord) 7 4 ro = σ' ∧ τ = τ' ∧ ordI ord o 16 ∧ ordT (σ1 7 3) o 16 ∧ ordJ o 16 ∧ ordS o ∧ ∀ c, c < 16 → rsE (σ1 7 3) ro c
set_option maxRecDepth 100000 in
set_option maxHeartbeats 4000000 in
theorem c_arrange {l : Launch} {D : va_G} {ad : Nat → Nat → Nat} {aC : Nat → ClassId} (σ : gSig) (τ : gTau) (rk : Nat → Nat) (hm : ∀ c, c < 16 → m16 (σ 7 3 c)) (hrk : ∀ c d, c < 16 → d < 16 → bt (σ 7 3 c) d = true → rk d < rk c) : CZ l D ad aC yX3_arrange cX3_arrange 5 none 2 [.ref (ad 5 0)] σ τ (arQ σ τ) := by
  refine CZ.of (own := RX3) (by decide +kernel) rfl (Nat.le_of_ble_eq_true rfl) (fun S C => ?_)
  refine r_iconst (v := 0) C dX3_arrange_0 rfl ?_
  refine r_istore_n C dX3_arrange_1 rfl (by decide) rfl ?_
  refine r_iconst (v := 0) C dX3_arrange_2 rfl ?_
  refine r_istore_n C dX3_arrange_3 rfl (by decide) rfl ?_
  refine r_iconst (v := 0) C dX3_arrange_4 rfl ?_
  refine r_istore_n C dX3_arrange_5 rfl (by decide) rfl ?_
  have lp1 : ∀ m r, r ≤ 16 → 16 - r < m → ∀ (k : Nat) (P : Int32) (ord ro : Nat → Int32) (o : Nat → Nat), arK (σ 7 3) k P ord ro o → r ≤ k → S 0 (upR (upR σ 7 5 ord) 7 4 ro) τ 6 [some (.ref (ad 5 0)), some (.int P), some (.int (nI k)), some (.int (nI r)), none] [] := by
    intro m
    induction m with
    | zero => intro r _ hm; omega
    | succ m ih1 =>
      intro r hr hmr k P ord ro o hA hrk1
      have hk16 := hA.1
      refine r_iload_n C dX3_arrange_6 rfl rfl ?_
      refine r_bipush (v := 16) C dX3_arrange_7 rfl ?_
      refine r_icmpge (tgt := 105) C dX3_arrange_9 (by decide) (fun c9 => ?_) (fun c9 => ?_)
      · have n9 := Int32.not_lt.mpr c9
        have hr16 : r = 16 := by
          have := (nI_leI (a := 16) (by omega) (by omega)).mp c9
          omega
        have hk : k = 16 := by omega
        subst hk
        exact r_ret C dX3_arrange_105 rfl (by decide) ⟨ord, ro, o, rfl, rfl, rfl, arK_end hA⟩
      · have n9 := Int32.not_le.mp c9
        have hrl : r < 16 := (nI_ltI (b := 16) (by omega) (by omega)).mp n9
        refine r_iload_n C dX3_arrange_12 rfl rfl ?_
        refine r_bipush (v := 16) C dX3_arrange_13 rfl ?_
        refine r_icmpge (tgt := 105) C dX3_arrange_15 (by decide) (fun c15 => ?_) (fun c15 => ?_)
        · have n15 := Int32.not_lt.mpr c15
          have hk : k = 16 := by
            have := (nI_leI (a := 16) (by omega) (by omega)).mp c15
            omega
          subst hk
          exact r_ret C dX3_arrange_105 rfl (by decide) ⟨ord, ro, o, rfl, rfl, rfl, arK_end hA⟩
        · have n15 := Int32.not_le.mp c15
          have hkl : k < 16 := (nI_ltI (b := 16) (by omega) (by omega)).mp n15
          obtain ⟨c9, hc9, hp9⟩ := arK_open hA hkl
          obtain ⟨cs, hcs, hcs1, hcs2⟩ := ar_next (P := P) hm hrk (rk c9 + 1) c9 hc9 (by omega) hp9
          refine r_iconst (v := 0) C dX3_arrange_18 rfl ?_
          refine r_istore C dX3_arrange_19 (by decide) rfl ?_
          have lp2 : ∀ m j, j ≤ 16 → 16 - j < m → ∀ (k2 : Nat) (P2 : Int32) (ord2 ro2 : Nat → Int32) (o2 : Nat → Nat), arK (σ 7 3) k2 P2 ord2 ro2 o2 → (k < k2 ∨ k2 = k ∧ P2 = P ∧ ¬ cs < j) → S 0 (upR (upR σ 7 5 ord2) 7 4 ro2) τ 21 [some (.ref (ad 5 0)), some (.int P2), some (.int (nI k2)), some (.int (nI r)), some (.int (nI j))] [] := by
            intro m
            induction m with
            | zero => intro j _ hm; omega
            | succ m ih2 =>
              intro j hj hmj k2 P2 ord2 ro2 o2 hA2 hp2
              have hk216 := hA2.1
              refine r_iload C dX3_arrange_21 rfl ?_
              refine r_bipush (v := 16) C dX3_arrange_23 rfl ?_
              refine r_icmpge (tgt := 99) C dX3_arrange_25 (by decide) (fun c25 => ?_) (fun c25 => ?_)
              · have n25 := Int32.not_lt.mpr c25
                have hj16 : j = 16 := by
                  have := (nI_leI (a := 16) (by omega) (by omega)).mp c25
                  omega
                subst hj16
                refine r_iinc C dX3_arrange_99 rfl rfl (by decide) rfl ?_
                refine r_goto (tgt := 6) C dX3_arrange_102 (by decide) ?_
                refine r_drop C [4] ?_
                exact r_swk (ih1 (r + 1) (by omega) (by omega) k2 P2 ord2 ro2 o2 hA2 (by rcases hp2 with q | ⟨-, -, q⟩ <;> omega)) rfl rfl (by rw [← nI_p1]; rfl) rfl
              · have n25 := Int32.not_le.mp c25
                have hjl : j < 16 := (nI_ltI (b := 16) (by omega) (by omega)).mp n25
                refine r_iload_n C dX3_arrange_28 rfl rfl ?_
                refine r_bipush (v := 16) C dX3_arrange_29 rfl ?_
                refine r_icmpge (tgt := 93) C dX3_arrange_31 (by decide) (fun c31 => ?_) (fun c31 => ?_)
                · have n31 := Int32.not_lt.mpr c31
                  have hk2 : k2 = 16 := by
                    have := (nI_leI (a := 16) (by omega) (by omega)).mp c31
                    omega
                  have hA3 := hA2
                  have hp3 : k < k2 ∨ k2 = k ∧ P2 = P ∧ ¬ cs < j + 1 := Or.inl (by omega)
                  refine r_iinc C dX3_arrange_93 rfl rfl (by decide) rfl ?_
                  refine r_goto (tgt := 21) C dX3_arrange_96 (by decide) ?_
                  exact r_swk (ih2 (j + 1) (by omega) (by omega) _ _ _ _ _ hA3 hp3) rfl rfl (by first | (rw [← nI_p1 j]; rfl) | (rw [← nI_p1 j, ← nI_p1 k2]; rfl)) rfl
                · have n31 := Int32.not_le.mp c31
                  have hk2l : k2 < 16 := (nI_ltI (b := 16) (by omega) (by omega)).mp n31
                  refine r_iload_n C dX3_arrange_34 rfl rfl ?_
                  refine r_iload C dX3_arrange_35 rfl ?_
                  refine r_callSN C dX3_arrange_37 (c_has (upR (upR σ 7 5 ord2) 7 4 ro2) τ P2 (nI j)) rfl kB_X5_has rfl kS_X5_has kl_X3_46 (by decide) (Nat.le_of_ble_eq_true rfl) (by decide) ?_
                  rintro r9 σ' τ' ⟨rfl, rfl, rfl⟩
                  rw [hasB_bt hjl]
                  refine r_ifne (tgt := 93) C dX3_arrange_40 (by decide) (fun c40 => ?_) (fun c40 => ?_)
                  · have h40 := b2i_n.mp c40
                    have hA3 := hA2
                    have hp3 : k < k2 ∨ k2 = k ∧ P2 = P ∧ ¬ cs < j + 1 := by
                      rcases hp2 with q | ⟨q1, q2, q3⟩
                      · exact Or.inl q
                      · refine Or.inr ⟨q1, q2, fun q => ?_⟩
                        have e : cs = j := by omega
                        subst e
                        rw [q2] at h40
                        rw [hcs1] at h40
                        cases h40
                    refine r_iinc C dX3_arrange_93 rfl rfl (by decide) rfl ?_
                    refine r_goto (tgt := 21) C dX3_arrange_96 (by decide) ?_
                    exact r_swk (ih2 (j + 1) (by omega) (by omega) _ _ _ _ _ hA3 hp3) rfl rfl (by first | (rw [← nI_p1 j]; rfl) | (rw [← nI_p1 j, ← nI_p1 k2]; rfl)) rfl
                  · have h40 := b2i_0.mp c40
                    refine r_aload_n C dX3_arrange_43 rfl rfl ?_
                    refine r_get (f := 4) C dX3_arrange_44 ⟨by decide, by decide⟩ rfl rfl kU3 (by decide) kf_X3_27 rfl rfl ?_
                    refine r_iload C dX3_arrange_47 rfl ?_
                    refine r_ialdv (v := σ 7 3 j) C dX3_arrange_49 ⟨by decide, by decide⟩ rfl (vp_in_nI hjl (by decide)) (by rw [nI_clamp (by omega)]; rfl) ?_
                    refine r_iload_n C dX3_arrange_50 rfl rfl ?_
                    refine r_iconst (v := (-1)) C dX3_arrange_51 rfl ?_
                    refine r_ixor C dX3_arrange_52 ?_
                    refine r_iand C dX3_arrange_53 ?_
                    refine r_ifne (tgt := 93) C dX3_arrange_54 (by decide) (fun c54 => ?_) (fun c54 => ?_)
                    · have hA3 := hA2
                      have hp3 : k < k2 ∨ k2 = k ∧ P2 = P ∧ ¬ cs < j + 1 := by
                        rcases hp2 with q | ⟨q1, q2, q3⟩
                        · exact Or.inl q
                        · refine Or.inr ⟨q1, q2, fun q => ?_⟩
                          have e : cs = j := by omega
                          subst e
                          rw [q2] at c54
                          exact c54 hcs2
                      refine r_iinc C dX3_arrange_93 rfl rfl (by decide) rfl ?_
                      refine r_goto (tgt := 21) C dX3_arrange_96 (by decide) ?_
                      exact r_swk (ih2 (j + 1) (by omega) (by omega) _ _ _ _ _ hA3 hp3) rfl rfl (by first | (rw [← nI_p1 j]; rfl) | (rw [← nI_p1 j, ← nI_p1 k2]; rfl)) rfl
                    · skip
                      refine r_aload_n C dX3_arrange_57 rfl rfl ?_
                      refine r_get (f := 6) C dX3_arrange_58 ⟨by decide, by decide⟩ rfl rfl kU3 (by decide) kf_X3_33 rfl rfl ?_
                      refine r_iload_n C dX3_arrange_61 rfl rfl ?_
                      refine r_iload C dX3_arrange_62 rfl ?_
                      refine r_iastv C dX3_arrange_64 ⟨by decide, by decide⟩ (fun _ => rfl) (vp_in_nI hk2l (by decide)) (nI_clamp (by omega)) ?_
                      rw [up3_swap _ _ _ _ _ _ _ _ (by decide)]
                      refine r_iinc C dX3_arrange_65 rfl rfl (by decide) rfl ?_
                      refine r_iload_n C dX3_arrange_68 rfl rfl ?_
                      refine r_iconst (v := 1) C dX3_arrange_69 rfl ?_
                      refine r_iload C dX3_arrange_70 rfl ?_
                      refine r_ishl C dX3_arrange_72 ?_
                      refine r_ior C dX3_arrange_73 ?_
                      refine r_istore_n C dX3_arrange_74 rfl (by decide) rfl ?_
                      refine r_aload_n C dX3_arrange_75 rfl rfl ?_
                      refine r_get (f := 5) C dX3_arrange_76 ⟨by decide, by decide⟩ rfl rfl kU3 (by decide) kf_X3_30 rfl rfl ?_
                      refine r_iload C dX3_arrange_79 rfl ?_
                      refine r_aload_n C dX3_arrange_81 rfl rfl ?_
                      refine r_aload_n C dX3_arrange_82 rfl rfl ?_
                      refine r_get (f := 4) C dX3_arrange_83 ⟨by decide, by decide⟩ rfl rfl kU3 (by decide) kf_X3_27 rfl rfl ?_
                      refine r_iload C dX3_arrange_86 rfl ?_
                      refine r_ialdv (v := σ 7 3 j) C dX3_arrange_88 ⟨by decide, by decide⟩ rfl (vp_in_nI hjl (by decide)) (by rw [nI_clamp (by omega)]; rfl) ?_
                      refine r_callV C dX3_arrange_89 (c_restedOnThrough (upR (upR σ 7 5 (upd ord2 k2 (nI j))) 7 4 ro2) τ (σ 7 3 j)) rfl ⟨by decide, by decide⟩ rfl rfl kB_X3_restedOnThrough rfl kI_X3_restedOnThrough kV_X3_restedOnThrough kl_X3_61 (by decide) (Nat.le_of_ble_eq_true rfl) (by decide) ?_
                      rintro r9 σ' τ' ⟨rfl, rfl, rfl⟩
                      refine r_iastv C dX3_arrange_92 ⟨by decide, by decide⟩ (fun _ => rfl) (vp_in_nI hjl (by decide)) (nI_clamp (by omega)) ?_
                      rw [up3_upR]
                      have hA3 := arK_push hA2 hk2l hjl h40 c54 (hm j hjl)
                      have hp3 : k < k2 + 1 ∨ k2 + 1 = k ∧ P2 ||| b1 j = P ∧ ¬ cs < j + 1 := Or.inl (by rcases hp2 with q | ⟨q, -⟩ <;> omega)
                      refine r_iinc C dX3_arrange_93 rfl rfl (by decide) rfl ?_
                      refine r_goto (tgt := 21) C dX3_arrange_96 (by decide) ?_
                      exact r_swk (ih2 (j + 1) (by omega) (by omega) _ _ _ _ _ hA3 hp3) rfl rfl (by first | (rw [← nI_p1 j]; rfl) | (rw [← nI_p1 j, ← nI_p1 k2]; rfl)) rfl
          exact lp2 17 0 (by omega) (by omega) k P ord ro o hA (Or.inr ⟨rfl, rfl, by omega⟩)
  refine r_swk (lp1 17 0 (by omega) (by omega) 0 0 (σ 7 5) (σ 7 4) (fun _ => 0) (arK_0 _ _ _ _) (by omega)) ?_ rfl rfl rfl
  rw [upR_id, upR_id]
def inS (σ : gSig) (cell : Nat) (lo hi : Int32) : gSig := up3 (up3 (up3 (up3 (up3 σ 5 0 8 (σ 5 0 8 ||| b1 cell)) 7 0 cell lo) 7 1 cell hi) 7 2 cell lo) 7 3 cell 0
set_option maxRecDepth 100000 in
set_option maxHeartbeats 4000000 in
theorem c_makeInput {l : Launch} {D : va_G} {ad : Nat → Nat → Nat} {aC : Nat → ClassId} (σ : gSig) (τ : gTau) (cell : Nat) (lo hi : Int32) (rk : Nat → Nat) (hc : cell < 16) (hm : ∀ c, c < 16 → m16 ((inS σ cell lo hi) 7 3 c)) (hrk : ∀ c d, c < 16 → d < 16 → bt ((inS σ cell lo hi) 7 3 c) d = true → rk d < rk c) : CZ l D ad aC yX3_makeInput cX3_makeInput 4 none 3 [.ref (ad 5 0), .int (nI cell), .int lo, .int hi] σ τ (arQ (inS σ cell lo hi) τ) := by
  refine CZ.of (own := RX3) (by decide +kernel) rfl (Nat.le_of_ble_eq_true rfl) (fun S C => ?_)
  refine r_aload_n C dX3_makeInput_0 rfl rfl ?_
  refine r_dup C dX3_makeInput_1 rfl ?_
  refine r_get (f := 8) C dX3_makeInput_2 ⟨by decide, by decide⟩ rfl rfl kU3 (by decide) kf_X3_41 rfl rfl ?_
  refine r_iconst (v := 1) C dX3_makeInput_5 rfl ?_
  refine r_iload_n C dX3_makeInput_6 rfl rfl ?_
  refine r_ishl C dX3_makeInput_7 ?_
  refine r_ior C dX3_makeInput_8 ?_
  refine r_put (f := 8) C dX3_makeInput_9 ⟨by decide, by decide⟩ rfl rfl kU3 tyX3 tyX3_ok nmX3 (by decide) kf_X3_41 rfl rfl (by decide +kernel) (Nat.le_of_ble_eq_true rfl) (by simp [cel, up3]) ?_
  refine r_aload_n C dX3_makeInput_12 rfl rfl ?_
  refine r_get (f := 1) C dX3_makeInput_13 ⟨by decide, by decide⟩ rfl rfl kU3 (by decide) kf_X3_17 rfl rfl ?_
  refine r_iload_n C dX3_makeInput_16 rfl rfl ?_
  refine r_iload_n C dX3_makeInput_17 rfl rfl ?_
  refine r_iastv C dX3_makeInput_18 ⟨by decide, by decide⟩ (fun _ => rfl) (vp_in_nI hc (by decide)) (nI_clamp (by omega)) ?_
  refine r_aload_n C dX3_makeInput_19 rfl rfl ?_
  refine r_get (f := 2) C dX3_makeInput_20 ⟨by decide, by decide⟩ rfl rfl kU3 (by decide) kf_X3_21 rfl rfl ?_
  refine r_iload_n C dX3_makeInput_23 rfl rfl ?_
  refine r_iload_n C dX3_makeInput_24 rfl rfl ?_
  refine r_iastv C dX3_makeInput_25 ⟨by decide, by decide⟩ (fun _ => rfl) (vp_in_nI hc (by decide)) (nI_clamp (by omega)) ?_
  refine r_aload_n C dX3_makeInput_26 rfl rfl ?_
  refine r_get (f := 3) C dX3_makeInput_27 ⟨by decide, by decide⟩ rfl rfl kU3 (by decide) kf_X3_24 rfl rfl ?_
  refine r_iload_n C dX3_makeInput_30 rfl rfl ?_
  refine r_iload_n C dX3_makeInput_31 rfl rfl ?_
  refine r_iastv C dX3_makeInput_32 ⟨by decide, by decide⟩ (fun _ => rfl) (vp_in_nI hc (by decide)) (nI_clamp (by omega)) ?_
  refine r_aload_n C dX3_makeInput_33 rfl rfl ?_
  refine r_get (f := 4) C dX3_makeInput_34 ⟨by decide, by decide⟩ rfl rfl kU3 (by decide) kf_X3_27 rfl rfl ?_
  refine r_iload_n C dX3_makeInput_37 rfl rfl ?_
  refine r_iconst (v := 0) C dX3_makeInput_38 rfl ?_
  refine r_iastv C dX3_makeInput_39 ⟨by decide, by decide⟩ (fun _ => rfl) (vp_in_nI hc (by decide)) (nI_clamp (by omega)) ?_
  refine r_aload_n C dX3_makeInput_40 rfl rfl ?_
  refine r_callV C dX3_makeInput_41 (c_arrange (inS σ cell lo hi) τ rk hm hrk) rfl ⟨by decide, by decide⟩ rfl rfl kB_X3_arrange rfl kI_X3_arrange kV_X3_arrange kl_X3_50 (by decide) (Nat.le_of_ble_eq_true rfl) (by decide) ?_
  intro r9 σ' τ' hq
  have hq2 := hq
  obtain ⟨ord, ro, o, rfl, rfl, rfl, -⟩ := hq
  exact r_ret C dX3_makeInput_44 rfl (by decide) hq2
def fmS (σ : gSig) (cell k : Nat) : gSig := up3 (cpyS (up3 σ 5 0 8 (σ 5 0 8 &&& (b1 cell ^^^ (-1)))) cell 16) 7 3 cell (rsM (σ 2 16) (σ 3 16) k)
theorem cpyS_fm (σ : gSig) (c c2 f : Nat) (h1 : f ≠ 1) (h2 : f ≠ 2) (h3 : f ≠ 3) : cpyS σ c c2 f = σ f := by
  funext c' i'
  simp [cpyS, up3, upR, h1, h2, h3]
theorem cpyS_at (σ : gSig) (c c2 f c' : Nat) (h : c' ≠ c) : cpyS σ c c2 f c' = σ f c' := by
  funext i'
  simp [cpyS, up3, upR, h]
set_option maxRecDepth 100000 in
set_option maxHeartbeats 4000000 in
theorem c_makeFormula {l : Launch} {D : va_G} {ad : Nat → Nat → Nat} {aC : Nat → ClassId} (σ : gSig) (τ : gTau) (cell k : Nat) (rk : Nat → Nat) (hc : cell < 16) (hk : σ 1 16 3 = nI k) (hk2 : k ≤ 12) (hm : ∀ c, c < 16 → m16 ((fmS σ cell k) 7 3 c)) (hrk : ∀ c d, c < 16 → d < 16 → bt ((fmS σ cell k) 7 3 c) d = true → rk d < rk c) : CZ l D ad aC yX3_makeFormula cX3_makeFormula 3 none 3 [.ref (ad 5 0), .int (nI cell), .ref (ad 1 16)] σ τ (arQ (fmS σ cell k) τ) := by
  refine CZ.of (own := RX3) (by decide +kernel) rfl (Nat.le_of_ble_eq_true rfl) (fun S C => ?_)
  refine r_aload_n C dX3_makeFormula_0 rfl rfl ?_
  refine r_dup C dX3_makeFormula_1 rfl ?_
  refine r_get (f := 8) C dX3_makeFormula_2 ⟨by decide, by decide⟩ rfl rfl kU3 (by decide) kf_X3_41 rfl rfl ?_
  refine r_iconst (v := 1) C dX3_makeFormula_5 rfl ?_
  refine r_iload_n C dX3_makeFormula_6 rfl rfl ?_
  refine r_ishl C dX3_makeFormula_7 ?_
  refine r_iconst (v := (-1)) C dX3_makeFormula_8 rfl ?_
  refine r_ixor C dX3_makeFormula_9 ?_
  refine r_iand C dX3_makeFormula_10 ?_
  refine r_put (f := 8) C dX3_makeFormula_11 ⟨by decide, by decide⟩ rfl rfl kU3 tyX3 tyX3_ok nmX3 (by decide) kf_X3_41 rfl rfl (by decide +kernel) (Nat.le_of_ble_eq_true rfl) (by simp [cel, up3]) ?_
  refine r_aload_n C dX3_makeFormula_14 rfl rfl ?_
  refine r_get (f := 0) C dX3_makeFormula_15 ⟨by decide, by decide⟩ rfl rfl kU3 (by decide) kf_X3_11 rfl rfl ?_
  refine r_iload_n C dX3_makeFormula_18 rfl rfl ?_
  refine r_aaldv (t0 := 3) C dX3_makeFormula_19 ⟨by decide, by decide⟩ rfl rfl (vp_in_nI hc (by decide)) (nI_clamp (by omega)) ?_
  refine r_aload_n C dX3_makeFormula_20 rfl rfl ?_
  refine r_callV C dX3_makeFormula_21 (c_copyFrom (up3 σ 5 0 8 (σ 5 0 8 &&& (b1 cell ^^^ (-1)))) τ cell 16 (by omega) (by decide) (by omega)) rfl ⟨by decide, Nat.lt_of_lt_of_le hc (by decide)⟩ rfl rfl kB_X0_copyFrom rfl kI_X0_copyFrom kV_X0_copyFrom kl_X3_53 (by decide) (Nat.le_of_ble_eq_true rfl) (by decide) ?_
  rintro r9 σ' τ' ⟨rfl, rfl, rfl⟩
  refine r_aload_n C dX3_makeFormula_24 rfl rfl ?_
  refine r_get (f := 4) C dX3_makeFormula_25 ⟨by decide, by decide⟩ rfl rfl kU3 (by decide) kf_X3_27 rfl rfl ?_
  refine r_iload_n C dX3_makeFormula_28 rfl rfl ?_
  refine r_aload_n C dX3_makeFormula_29 rfl rfl ?_
  have hne : (16 : Nat) ≠ cell := by omega
  have e2 : cpyS (up3 σ 5 0 8 (σ 5 0 8 &&& (b1 cell ^^^ (-1)))) cell 16 2 16 = σ 2 16 := (cpyS_at _ _ _ _ _ hne).trans (up3_ne _ _ _ _ _ (by simp))
  have e3 : cpyS (up3 σ 5 0 8 (σ 5 0 8 &&& (b1 cell ^^^ (-1)))) cell 16 3 16 = σ 3 16 := (cpyS_at _ _ _ _ _ hne).trans (up3_ne _ _ _ _ _ (by simp))
  have e1 : cpyS (up3 σ 5 0 8 (σ 5 0 8 &&& (b1 cell ^^^ (-1)))) cell 16 1 16 3 = nI k := by
    rw [cpyS_at _ _ _ _ _ hne, up3_ne _ _ _ _ _ (by simp)]
    exact hk
  refine r_callV C dX3_makeFormula_30 (c_readSet (cpyS (up3 σ 5 0 8 (σ 5 0 8 &&& (b1 cell ^^^ (-1)))) cell 16) τ 16 k (by decide) e1 hk2) rfl ⟨by decide, by decide⟩ rfl rfl kB_X0_readSet rfl kI_X0_readSet kV_X0_readSet kl_X3_57 (by decide) (Nat.le_of_ble_eq_true rfl) (by decide) ?_
  rintro r9 σ' τ' ⟨rfl, rfl, rfl⟩
  rw [e2, e3]
  refine r_iastv C dX3_makeFormula_33 ⟨by decide, by decide⟩ (fun _ => rfl) (vp_in_nI hc (by decide)) (nI_clamp (by omega)) ?_
  refine r_aload_n C dX3_makeFormula_34 rfl rfl ?_
  refine r_callV C dX3_makeFormula_35 (c_arrange (fmS σ cell k) τ rk hm hrk) rfl ⟨by decide, by decide⟩ rfl rfl kB_X3_arrange rfl kI_X3_arrange kV_X3_arrange kl_X3_50 (by decide) (Nat.le_of_ble_eq_true rfl) (by decide) ?_
  intro r9 σ' τ' hq
  have hq2 := hq
  obtain ⟨ord, ro, o, rfl, rfl, rfl, -⟩ := hq
  exact r_ret C dX3_makeFormula_38 rfl (by decide) hq2
