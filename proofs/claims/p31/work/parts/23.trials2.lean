/-! ===== trials, second half: printed by g23.py ===== -/
theorem nvS_nvS (σ : gSig) (row row' : Nat → Int32) (s4 s4' : Nat → Nat → Int32) : nvS (nvS σ row s4) row' s4' = nvS σ row' s4' := by
  funext f' c'
  unfold nvS upF upR
  by_cases h1 : f' = 4
  · simp [h1]
  · by_cases h2 : f' = 14 ∧ c' = 0 <;> simp [h1, h2]
theorem nvS_id (σ : gSig) : nvS σ (σ 14 0) (σ 4) = σ := by
  unfold nvS
  rw [upR_id]
  exact upF_id σ 4
theorem upd_back (row : Nat → Int32) (c : Nat) (x : Int32) : upd (upd row c (row c - x)) c (row c - x + x) = row := by
  funext i
  unfold upd
  by_cases h : i = c
  · rw [if_pos h, h]
    exact Int32.sub_add_cancel _ _
  · rw [if_neg h, if_neg h]
theorem dlF_0 (h : (Nat → Int32) → Bool) (row : Nat → Int32) (c : Nat) : ∀ f, dlF h row c f 0 = none
  | 0 => rfl
  | f + 1 => if_pos rfl
theorem dlF_hit {h : (Nat → Int32) → Bool} {row : Nat → Int32} {c f l : Nat} (hl : ¬ l = 0) (hh : h (upd row c (row c - nI l)) = false) : dlF h row c (f + 1) l = some (upd row c (row c - nI l)) := by
  unfold dlF
  rw [if_neg hl, if_pos hh]
theorem dlF_miss {h : (Nat → Int32) → Bool} {row : Nat → Int32} {c f l : Nat} (hl : ¬ l = 0) (hh : h (upd row c (row c - nI l)) = true) : dlF h row c (f + 1) l = dlF h row c f (l / 2) := by
  conv => lhs; unfold dlF
  rw [if_neg hl, if_neg (by rw [hh]; decide)]
theorem ssF_no {inp : Nat → Bool} {lo : Nat → Int32} {h : (Nat → Int32) → Bool} {row : Nat → Int32} {k n : Nat} (hi : inp n = false) : ssF inp lo h row (k + 1) n = ssF inp lo h row k (n + 1) := if_neg (by rw [hi]; decide)
theorem ssF_hit {inp : Nat → Bool} {lo : Nat → Int32} {h : (Nat → Int32) → Bool} {row r : Nat → Int32} {k n : Nat} (hi : inp n = true) (hd : dlF h row n 32 (row n - lo n).toNatClampNeg = some r) : ssF inp lo h row (k + 1) n = some r := by
  unfold ssF
  rw [if_pos hi, hd]
theorem ssF_miss {inp : Nat → Bool} {lo : Nat → Int32} {h : (Nat → Int32) → Bool} {row : Nat → Int32} {k n : Nat} (hi : inp n = true) (hd : dlF h row n 32 (row n - lo n).toNatClampNeg = none) : ssF inp lo h row (k + 1) n = ssF inp lo h row k (n + 1) := by
  conv => lhs; unfold ssF
  rw [if_pos hi, hd]
/-- how far an input is from its lowest value -/
theorem rw_less {inp : Nat → Bool} {lo hi row : Nat → Int32} (hg : rgK inp lo hi) (hw : rwK inp lo hi row) {c : Nat} (hc : c < 16) (hi1 : inp c = true) : ∃ l : Nat, l ≤ 2000000 ∧ row c - lo c = nI l ∧ (row c).toInt = (lo c).toInt + l := by
  obtain ⟨h1, h2, h3⟩ := rg_int (hg c hc hi1)
  obtain ⟨h4, h5⟩ := hw c hc hi1
  rw [fa_le] at h4 h5
  have e := i32_sub (x := row c) (y := lo c) (by omega) (by omega)
  refine ⟨((row c).toInt - (lo c).toInt).toNat, by omega, ?_, by omega⟩
  apply Int32.toInt_inj.mp
  rw [e, nI_toInt (by omega)]
  omega
theorem rw_down {inp : Nat → Bool} {lo hi row : Nat → Int32} (hg : rgK inp lo hi) (hw : rwK inp lo hi row) {c l : Nat} (hc : c < 16) (hi1 : inp c = true) (hl : (lo c).toInt + l ≤ (row c).toInt) : rwK inp lo hi (upd row c (row c - nI l)) := by
  intro d hd hd1
  unfold upd
  by_cases e : d = c
  · subst e
    rw [if_pos rfl]
    obtain ⟨h1, h2, h3⟩ := rg_int (hg d hd hi1)
    obtain ⟨h4, h5⟩ := hw d hd hi1
    rw [fa_le] at h4 h5
    have e2 : (row d - nI l).toInt = (row d).toInt - l := by
      rw [fb_subI, nI_toInt (by omega)]
      · rw [nI_toInt (by omega)]; omega
      · rw [nI_toInt (by omega)]; omega
    rw [fa_le, fa_le, e2]
    omega
  · rw [if_neg e]
    exact hw d hd hd1
theorem dlF_rw {inp : Nat → Bool} {lo hi : Nat → Int32} {h : (Nat → Int32) → Bool} {row : Nat → Int32} (hg : rgK inp lo hi) (hw : rwK inp lo hi row) {c : Nat} (hc : c < 16) (hi1 : inp c = true) : ∀ f l r, (lo c).toInt + (l : Nat) ≤ (row c).toInt → dlF h row c f l = some r → rwK inp lo hi r := by
  intro f
  induction f with
  | zero => intro l r _ hd; cases hd
  | succ f ih =>
    intro l r hl hd
    by_cases h0 : l = 0
    · subst h0; rw [dlF_0] at hd; cases hd
    · cases hh : h (upd row c (row c - nI l)) with
      | false =>
        rw [dlF_hit h0 hh] at hd
        cases hd
        exact rw_down hg hw hc hi1 hl
      | true =>
        rw [dlF_miss h0 hh] at hd
        exact ih (l / 2) r (by omega) hd
theorem ssF_rw {inp : Nat → Bool} {lo hi : Nat → Int32} {h : (Nat → Int32) → Bool} {row : Nat → Int32} (hg : rgK inp lo hi) (hw : rwK inp lo hi row) : ∀ k n r, n + k ≤ 16 → ssF inp lo h row k n = some r → rwK inp lo hi r := by
  intro k
  induction k with
  | zero => intro n r _ hs; cases hs
  | succ k ih =>
    intro n r hn hs
    cases hi1 : inp n with
    | false => rw [ssF_no hi1] at hs; exact ih (n + 1) r (by omega) hs
    | true =>
      obtain ⟨l, hl, e1, e2⟩ := rw_less hg hw (show n < 16 by omega) hi1
      cases hd : dlF h row n 32 (row n - lo n).toNatClampNeg with
      | none => rw [ssF_miss hi1 hd] at hs; exact ih (n + 1) r (by omega) hs
      | some r2 =>
        rw [ssF_hit hi1 hd] at hs
        cases hs
        rw [e1, nI_clamp (by omega)] at hd
        exact dlF_rw hg hw (by omega) hi1 32 l r (by omega) hd
/-- one step smaller of a trial's row -/
def ssC (σ : gSig) (c p cell : Nat) (row : Nat → Int32) : Option (Nat → Int32) := ssF (inpC σ) (σ 7 0) (prC σ c p cell) row 16 0
set_option maxRecDepth 100000 in
set_option maxHeartbeats 4000000 in
theorem c_stepSmaller {l : Launch} {D : va_G} {ad : Nat → Nat → Nat} {aC : Nat → ClassId} (σ : gSig) (τ : gTau) (c p q cell : Nat) (o : Nat → Nat) (hc : c < 16) (hcell : cell < 16) (hK : shK σ o) (hq : σ 10 c 2 = nI q) (hq4 : q ≤ 4) (hp : p < q) (hbk : σ 13 0 8 = nI p) (hpl : ∀ p, p < q → (¬ σ 11 c p < 0 ∧ σ 11 c p ≤ 3) ∧ (σ 11 c p = 2 ∨ σ 11 c p = 3 → isC (σ 12 c p))) (hrg : rgK (inpC σ) (σ 7 0) (σ 7 1)) (hrw : rwK (inpC σ) (σ 7 0) (σ 7 1) (σ 14 0)) : CZ l D ad aC yX4_stepSmaller cX4_stepSmaller 6 (some .boolean) 7 [.ref (ad 13 0), .ref (ad 5 0), .ref (ad 10 c), .int (nI cell)] σ τ (fun r σ' τ' => ∃ s4 t8, some (.int (b2i (ssC σ c p cell (σ 14 0)).isSome)) = r ∧ nvS σ ((ssC σ c p cell (σ 14 0)).getD (σ 14 0)) s4 = σ' ∧ upT τ 8 t8 = τ') := by
  refine CZ.of (own := RX4) (by decide +kernel) rfl (Nat.le_of_ble_eq_true rfl) (fun S C => ?_)
  refine r_iconst (v := 0) C dX4_stepSmaller_0 rfl ?_
  refine r_istore C dX4_stepSmaller_1 (by decide) rfl ?_
  have lp1 : ∀ m i, i ≤ 16 → 16 - i < m → ∀ (s4 : Nat → Nat → Int32) (t8 : Nat → Int64), ssC σ c p cell (σ 14 0) = ssF (inpC σ) (σ 7 0) (prC σ c p cell) (σ 14 0) (16 - i) i → S 0 (nvS σ (σ 14 0) s4) (upT τ 8 t8) 3 [some (.ref (ad 13 0)), some (.ref (ad 5 0)), some (.ref (ad 10 c)), some (.int (nI cell)), some (.int (nI i)), none] [] := by
    intro m
    induction m with
    | zero => intro i _ hm; omega
    | succ m ih1 =>
      intro i hi hm s4 t8 hss
      refine r_iload C dX4_stepSmaller_3 rfl ?_
      refine r_bipush (v := 16) C dX4_stepSmaller_5 rfl ?_
      refine r_icmpge (tgt := 102) C dX4_stepSmaller_7 (by decide) (fun c7 => ?_) (fun c7 => ?_)
      · have n7 := Int32.not_lt.mpr c7
        have hi16 : i = 16 := by
          have := (nI_leI (a := 16) (by omega) (by omega)).mp c7
          omega
        subst hi16
        have hnone : ssC σ c p cell (σ 14 0) = none := hss
        refine r_iconst (v := 0) C dX4_stepSmaller_102 rfl ?_
        exact r_zret C dX4_stepSmaller_103 rfl (by decide) (by decide) ⟨s4, t8, by rw [hnone]; rfl, by rw [hnone]; rfl, rfl⟩
      · have n7 := Int32.not_le.mp c7
        have hil : i < 16 := (nI_ltI (b := 16) (by omega) (by omega)).mp n7
        obtain ⟨kz, hkz⟩ : ∃ z, 16 - i = z + 1 := ⟨16 - i - 1, by omega⟩
        have hkz2 : kz = 16 - (i + 1) := by omega
        refine r_aload_n C dX4_stepSmaller_10 rfl rfl ?_
        refine r_iload C dX4_stepSmaller_11 rfl ?_
        refine r_callV C dX4_stepSmaller_13 (c_isInput (nvS σ (σ 14 0) s4) (upT τ 8 t8) (nI i)) rfl ⟨by decide, by decide⟩ rfl rfl kB_X3_isInput rfl kI_X3_isInput kV_X3_isInput kl_X4_64 (by decide) (Nat.le_of_ble_eq_true rfl) (by decide) ?_
        rintro r9 σ' τ' ⟨rfl, rfl, rfl⟩
        rw [show hasB ((nvS σ (σ 14 0) s4) 5 0 8) (nI i) = bt (σ 5 0 8) i from hasB_bt hil _]
        refine r_ifne (tgt := 22) C dX4_stepSmaller_16 (by decide) (fun c16 => ?_) (fun c16 => ?_)
        · have h16 : inpC σ i = true := b2i_n.mp c16
          obtain ⟨l0, hl0, hl1, hl2⟩ := rw_less hrg hrw hil h16
          refine r_aload_n C dX4_stepSmaller_22 rfl rfl ?_
          refine r_get (f := 0) C dX4_stepSmaller_23 ⟨by decide, by decide⟩ rfl rfl kU4 (by decide) kf_X4_9 rfl rfl ?_
          refine r_iload C dX4_stepSmaller_26 rfl ?_
          refine r_ialdv (v := σ 14 0 i) C dX4_stepSmaller_28 ⟨by decide, by decide⟩ rfl (vp_in_nI hil (by decide)) (by rw [nI_clamp (by omega)]; rfl) ?_
          refine r_aload_n C dX4_stepSmaller_29 rfl rfl ?_
          refine r_get (f := 1) C dX4_stepSmaller_30 ⟨by decide, by decide⟩ rfl rfl kU3 (by decide) kf_X4_70 rfl rfl ?_
          refine r_iload C dX4_stepSmaller_33 rfl ?_
          refine r_ialdv (v := σ 7 0 i) C dX4_stepSmaller_35 ⟨by decide, by decide⟩ rfl (vp_in_nI hil (by decide)) (by rw [nI_clamp (by omega)]; rfl) ?_
          refine r_isub C dX4_stepSmaller_36 ?_
          rw [hl1]
          refine r_istore C dX4_stepSmaller_37 (by decide) rfl ?_
          have lp2 : ∀ m l, l < m → ∀ (f : Nat) (s4 : Nat → Nat → Int32) (t8 : Nat → Int64), l < 2 ^ f → l ≤ l0 → dlF (prC σ c p cell) (σ 14 0) i 32 l0 = dlF (prC σ c p cell) (σ 14 0) i f l → S 0 (nvS σ (σ 14 0) s4) (upT τ 8 t8) 39 [some (.ref (ad 13 0)), some (.ref (ad 5 0)), some (.ref (ad 10 c)), some (.int (nI cell)), some (.int (nI i)), some (.int (nI l))] [] := by
            intro m
            induction m with
            | zero => intro l hl; omega
            | succ m ih2 =>
              intro l hlm f s4 t8 hf hll0 hdl
              refine r_iload C dX4_stepSmaller_39 rfl ?_
              refine r_ifle (tgt := 96) C dX4_stepSmaller_41 (by decide) (fun c41 => ?_) (fun c41 => ?_)
              · have hlz : l = 0 := by
                  have := (nI_leI (b := 0) (by omega) (by decide)).mp c41
                  omega
                have hss2 : ssC σ c p cell (σ 14 0) = ssF (inpC σ) (σ 7 0) (prC σ c p cell) (σ 14 0) (16 - (i + 1)) (i + 1) := by
                  rw [hss, hkz, ssF_miss h16, hkz2]
                  rw [show σ 14 0 i - σ 7 0 i = nI l0 from hl1, nI_clamp (by omega), hdl, hlz, dlF_0]
                refine r_iinc C dX4_stepSmaller_96 rfl rfl (by decide) rfl ?_
                refine r_goto (tgt := 3) C dX4_stepSmaller_99 (by decide) ?_
                refine r_drop C [5] ?_
                exact r_swk (ih1 (i + 1) (by omega) (by omega) _ _ hss2) rfl rfl (by rw [← nI_p1]; rfl) rfl
              · have hlz : ¬ l = 0 := fun q => c41 (by rw [q]; decide)
                obtain ⟨f, rfl⟩ : ∃ z, f = z + 1 := by
                  cases f with
                  | zero => simp at hf; omega
                  | succ f => exact ⟨f, rfl⟩
                refine r_aload_n C dX4_stepSmaller_44 rfl rfl ?_
                refine r_get (f := 0) C dX4_stepSmaller_45 ⟨by decide, by decide⟩ rfl rfl kU4 (by decide) kf_X4_9 rfl rfl ?_
                refine r_iload C dX4_stepSmaller_48 rfl ?_
                refine r_dup2 C dX4_stepSmaller_50 rfl rfl ?_
                refine r_ialdv (v := σ 14 0 i) C dX4_stepSmaller_51 ⟨by decide, by decide⟩ rfl (vp_in_nI hil (by decide)) (by rw [nI_clamp (by omega)]; rfl) ?_
                refine r_iload C dX4_stepSmaller_52 rfl ?_
                refine r_isub C dX4_stepSmaller_54 ?_
                refine r_iastv C dX4_stepSmaller_55 ⟨by decide, by decide⟩ (fun _ => rfl) (vp_in_nI hil (by decide)) (nI_clamp (by omega)) ?_
                rw [nvS_row]
                refine r_aload_n C dX4_stepSmaller_56 rfl rfl ?_
                refine r_aload_n C dX4_stepSmaller_57 rfl rfl ?_
                refine r_get (f := 8) (v := .int (nI p)) C dX4_stepSmaller_58 ⟨by decide, by decide⟩ rfl rfl kU4 (by decide) kf_X4_52 rfl (by rw [← hbk]; rfl) ?_
                refine r_aload_n C dX4_stepSmaller_61 rfl rfl ?_
                refine r_iload_n C dX4_stepSmaller_62 rfl rfl ?_
                refine r_aload_n C dX4_stepSmaller_63 rfl rfl ?_
                refine r_get (f := 0) C dX4_stepSmaller_64 ⟨by decide, by decide⟩ rfl rfl kU4 (by decide) kf_X4_9 rfl rfl ?_
                refine r_callV C dX4_stepSmaller_67 (c_holds (nvS σ (upd (σ 14 0) i (σ 14 0 i - nI l)) s4) (upT τ 8 t8) c p q cell o hc hcell (show shK (nvS σ (upd (σ 14 0) i (σ 14 0 i - nI l)) s4) o from hK) hq hq4 hp hpl) rfl ⟨by decide, hc⟩ rfl rfl kB_X2_holds rfl kI_X2_holds kV_X2_holds kl_X4_90 (by decide) (Nat.le_of_ble_eq_true rfl) (by decide) ?_
                rintro r9 σ' τ' ⟨s4b, t8b, rfl, rfl, rfl⟩
                rw [nvS_upF, upT_upT, show prC (nvS σ (upd (σ 14 0) i (σ 14 0 i - nI l)) s4) c p cell ((nvS σ (upd (σ 14 0) i (σ 14 0 i - nI l)) s4) 14 0) = prC σ c p cell (upd (σ 14 0) i (σ 14 0 i - nI l)) from rfl]
                refine r_ifne (tgt := 75) C dX4_stepSmaller_70 (by decide) (fun c70 => ?_) (fun c70 => ?_)
                · have h68 := b2i_n.mp c70
                  have hdl2 : dlF (prC σ c p cell) (σ 14 0) i 32 l0 = dlF (prC σ c p cell) (σ 14 0) i f (l / 2) := by rw [hdl]; exact dlF_miss hlz h68
                  refine r_aload_n C dX4_stepSmaller_75 rfl rfl ?_
                  refine r_get (f := 0) C dX4_stepSmaller_76 ⟨by decide, by decide⟩ rfl rfl kU4 (by decide) kf_X4_9 rfl rfl ?_
                  refine r_iload C dX4_stepSmaller_79 rfl ?_
                  refine r_dup2 C dX4_stepSmaller_81 rfl rfl ?_
                  refine r_ialdv (v := σ 14 0 i - nI l) C dX4_stepSmaller_82 ⟨by decide, by decide⟩ rfl (vp_in_nI hil (by decide)) (by rw [nI_clamp (by omega)]; show upd (σ 14 0) i _ i = _; unfold upd; rw [if_pos rfl]) ?_
                  refine r_iload C dX4_stepSmaller_83 rfl ?_
                  refine r_iadd C dX4_stepSmaller_85 ?_
                  refine r_iastv C dX4_stepSmaller_86 ⟨by decide, by decide⟩ (fun _ => rfl) (vp_in_nI hil (by decide)) (nI_clamp (by omega)) ?_
                  rw [nvS_row, upd_back]
                  refine r_iload C dX4_stepSmaller_87 rfl ?_
                  refine r_iconst (v := 2) C dX4_stepSmaller_89 rfl ?_
                  refine r_idiv C dX4_stepSmaller_90 (by decide) ?_
                  rw [show nI l / 2 = nI (l / 2) from nI_div (k := 2) (by omega) (by decide)]
                  refine r_istore C dX4_stepSmaller_91 (by decide) rfl ?_
                  refine r_goto (tgt := 39) C dX4_stepSmaller_93 (by decide) ?_
                  exact r_swk (ih2 (l / 2) (by omega) f s4b t8b (by rw [Nat.pow_succ] at hf; omega) (by omega) hdl2) rfl rfl rfl rfl
                · have h68 := b2i_0.mp c70
                  have hsome : ssC σ c p cell (σ 14 0) = some (upd (σ 14 0) i (σ 14 0 i - nI l)) := by
                    rw [hss, hkz]
                    refine ssF_hit h16 ?_
                    rw [show σ 14 0 i - σ 7 0 i = nI l0 from hl1, nI_clamp (by omega), hdl]
                    exact dlF_hit hlz h68
                  refine r_iconst (v := 1) C dX4_stepSmaller_73 rfl ?_
                  exact r_zret C dX4_stepSmaller_74 rfl (by decide) (by decide) ⟨s4b, t8b, by rw [hsome]; rfl, by rw [hsome]; rfl, rfl⟩
          exact lp2 (l0 + 1) l0 (by omega) 32 s4 t8 (by omega) (by omega) rfl
        · have h16 : inpC σ i = false := b2i_0.mp c16
          have hss2 : ssC σ c p cell (σ 14 0) = ssF (inpC σ) (σ 7 0) (prC σ c p cell) (σ 14 0) (16 - (i + 1)) (i + 1) := by rw [hss, hkz, ssF_no h16, hkz2]
          refine r_goto (tgt := 96) C dX4_stepSmaller_19 (by decide) ?_
          refine r_iinc C dX4_stepSmaller_96 rfl rfl (by decide) rfl ?_
          refine r_goto (tgt := 3) C dX4_stepSmaller_99 (by decide) ?_
          refine r_drop C [5] ?_
          exact r_swk (ih1 (i + 1) (by omega) (by omega) _ _ hss2) rfl rfl (by rw [← nI_p1]; rfl) rfl
  exact r_swk (lp1 17 0 (by omega) (by omega) (σ 4) (τ 8) rfl) (nvS_id σ) (upT_id τ 8) rfl rfl
theorem msF_none {step : (Nat → Int32) → Option (Nat → Int32)} {k : Nat} {row : Nat → Int32} (h : step row = none) : msF step (k + 1) row = (0, row) := by
  unfold msF
  rw [h]
theorem msF_some {step : (Nat → Int32) → Option (Nat → Int32)} {k : Nat} {row r : Nat → Int32} (h : step row = some r) : msF step (k + 1) row = ((msF step k r).1 + 1, (msF step k r).2) := by
  conv => lhs; unfold msF
  rw [h]
set_option maxRecDepth 100000 in
set_option maxHeartbeats 4000000 in
theorem c_makeSmaller {l : Launch} {D : va_G} {ad : Nat → Nat → Nat} {aC : Nat → ClassId} (σ : gSig) (τ : gTau) (c p q cell : Nat) (o : Nat → Nat) (hc : c < 16) (hcell : cell < 16) (hK : shK σ o) (hq : σ 10 c 2 = nI q) (hq4 : q ≤ 4) (hp : p < q) (hbk : σ 13 0 8 = nI p) (hpl : ∀ p, p < q → (¬ σ 11 c p < 0 ∧ σ 11 c p ≤ 3) ∧ (σ 11 c p = 2 ∨ σ 11 c p = 3 → isC (σ 12 c p))) (hrg : rgK (inpC σ) (σ 7 0) (σ 7 1)) (hrw : rwK (inpC σ) (σ 7 0) (σ 7 1) (σ 14 0)) : CZ l D ad aC yX4_makeSmaller cX4_makeSmaller 5 (some .int) 8 [.ref (ad 13 0), .ref (ad 5 0), .ref (ad 10 c), .int (nI cell)] σ τ (fun r σ' τ' => ∃ s4 t8, some (.int (nI (msF (ssC σ c p cell) 60 (σ 14 0)).1)) = r ∧ nvS σ (msF (ssC σ c p cell) 60 (σ 14 0)).2 s4 = σ' ∧ upT τ 8 t8 = τ') := by
  refine CZ.of (own := RX4) (by decide +kernel) rfl (Nat.le_of_ble_eq_true rfl) (fun S C => ?_)
  refine r_iconst (v := 0) C dX4_makeSmaller_0 rfl ?_
  refine r_istore C dX4_makeSmaller_1 (by decide) rfl ?_
  have lp : ∀ m i, i ≤ 60 → 60 - i < m → ∀ (row : Nat → Int32) (s4 : Nat → Nat → Int32) (t8 : Nat → Int64), rwK (inpC σ) (σ 7 0) (σ 7 1) row → (msF (ssC σ c p cell) 60 (σ 14 0)) = ((msF (ssC σ c p cell) (60 - i) row).1 + i, (msF (ssC σ c p cell) (60 - i) row).2) → S 0 (nvS σ row s4) (upT τ 8 t8) 3 [some (.ref (ad 13 0)), some (.ref (ad 5 0)), some (.ref (ad 10 c)), some (.int (nI cell)), some (.int (nI i))] [] := by
    intro m
    induction m with
    | zero => intro i _ hm; omega
    | succ m ih =>
      intro i hi hm row s4 t8 hrw hms
      refine r_iload C dX4_makeSmaller_3 rfl ?_
      refine r_bipush (v := 60) C dX4_makeSmaller_5 rfl ?_
      refine r_icmpge (tgt := 29) C dX4_makeSmaller_7 (by decide) (fun c7 => ?_) (fun c7 => ?_)
      · have n7 := Int32.not_lt.mpr c7
        have hi60 : i = 60 := by
          have := (nI_leI (a := 60) (by omega) (by omega)).mp c7
          omega
        subst hi60
        refine r_bipush (v := 60) C dX4_makeSmaller_29 rfl ?_
        exact r_iret C dX4_makeSmaller_31 rfl (by decide) ⟨s4, t8, by rw [hms]; rfl, by rw [hms]; rfl, rfl⟩
      · have n7 := Int32.not_le.mp c7
        have hil : i < 60 := (nI_ltI (b := 60) (by omega) (by omega)).mp n7
        obtain ⟨kz, hkz⟩ : ∃ z, 60 - i = z + 1 := ⟨60 - i - 1, by omega⟩
        have hkz2 : kz = 60 - (i + 1) := by omega
        refine r_aload_n C dX4_makeSmaller_10 rfl rfl ?_
        refine r_aload_n C dX4_makeSmaller_11 rfl rfl ?_
        refine r_aload_n C dX4_makeSmaller_12 rfl rfl ?_
        refine r_iload_n C dX4_makeSmaller_13 rfl rfl ?_
        refine r_callV C dX4_makeSmaller_14 (c_stepSmaller (nvS σ row s4) (upT τ 8 t8) c p q cell o hc hcell (show shK (nvS σ row s4) o from hK) hq hq4 hp hbk hpl hrg hrw) rfl ⟨by decide, by decide⟩ rfl rfl kB_X4_stepSmaller rfl kI_X4_stepSmaller kV_X4_stepSmaller kl_X4_86 (by decide) (Nat.le_of_ble_eq_true rfl) (by decide) ?_
        rintro r9 σ' τ' ⟨s4b, t8b, rfl, rfl, rfl⟩
        rw [nvS_nvS, upT_upT, show ssC (nvS σ row s4) c p cell ((nvS σ row s4) 14 0) = ssC σ c p cell row from rfl]
        refine r_ifne (tgt := 23) C dX4_makeSmaller_17 (by decide) (fun c17 => ?_) (fun c17 => ?_)
        · have h17 := b2i_n.mp c17
          obtain ⟨r, hr⟩ : ∃ r, ssC σ c p cell row = some r := Option.isSome_iff_exists.mp h17
          rw [hr]
          have hrw2 : rwK (inpC σ) (σ 7 0) (σ 7 1) ((some r).getD row) := ssF_rw hrg hrw 16 0 r (by omega) hr
          have hms2 : (msF (ssC σ c p cell) 60 (σ 14 0)) = ((msF (ssC σ c p cell) (60 - (i + 1)) ((some r).getD row)).1 + (i + 1), (msF (ssC σ c p cell) (60 - (i + 1)) ((some r).getD row)).2) := by
            rw [hms, hkz, msF_some hr, hkz2, Nat.add_right_comm, Nat.add_assoc]
            rfl
          refine r_iinc C dX4_makeSmaller_23 rfl rfl (by decide) rfl ?_
          refine r_goto (tgt := 3) C dX4_makeSmaller_26 (by decide) ?_
          exact r_swk (ih (i + 1) (by omega) (by omega) _ _ _ hrw2 hms2) rfl rfl (by rw [← nI_p1]; rfl) rfl
        · have h17 := b2i_0.mp c17
          have hnone : ssC σ c p cell row = none := by
            cases hz : ssC σ c p cell row with
            | none => rfl
            | some r => rw [hz] at h17; cases h17
          rw [hkz, msF_none hnone] at hms
          refine r_iload C dX4_makeSmaller_20 rfl ?_
          exact r_iret C dX4_makeSmaller_22 rfl (by decide) ⟨s4b, t8b, by rw [hms, Nat.zero_add], by rw [hms, hnone]; rfl, rfl⟩
  exact r_swk (lp 61 0 (by omega) (by omega) (σ 14 0) (σ 4) (τ 8) hrw rfl) (nvS_id σ) (upT_id τ 8) rfl rfl
