/-! ===== the law's model: a row made smaller, and the example: printed by g44.py ===== -/
/-- the model behind properties that were looked at with the row given -/
def moS (σ : gSig) (row vs fs st : Nat → Int32) : gSig := maS (upR σ 20 22 row) vs fs st
theorem moS_id (σ : gSig) : moS σ (σ 20 22) (σ 20 20) (σ 20 21) (σ 20 23) = σ := by
  unfold moS
  rw [upR_id]
  exact maS_id σ
theorem moS_ne (σ : gSig) (row vs fs st : Nat → Int32) (r : Nat) (h : r ≠ 20 ∧ r ≠ 21 ∧ r ≠ 22 ∧ r ≠ 23) : moS σ row vs fs st 20 r = σ 20 r := by
  unfold moS
  rw [maS_ne _ _ _ _ _ ⟨h.1, h.2.1, h.2.2.2⟩, upR_ne _ _ _ _ (fun q => h.2.2.1 (congrArg Prod.snd q))]
theorem moS_22 (σ : gSig) (row vs fs st : Nat → Int32) : moS σ row vs fs st 20 22 = row := by
  unfold moS
  rw [maS_ne _ _ _ _ _ (by decide), upR_self]
theorem moS_fam (σ : gSig) (row vs fs st : Nat → Int32) {f : Nat} (h : f ≠ 20) : moS σ row vs fs st f = σ f := by
  funext r i
  unfold moS maS upR
  simp [h]
theorem moS_row (σ : gSig) (row vs fs st : Nat → Int32) (j : Nat) (x : Int32) : up3 (moS σ row vs fs st) 20 22 j x = moS σ (upd row j x) vs fs st := by
  unfold moS
  rw [maS_row, up3_upR]
theorem moS_maS (σ : gSig) (row vs fs st a b c : Nat → Int32) : maS (moS σ row vs fs st) a b c = moS σ row a b c := maS_maS _ _ _ _ _ _ _
theorem maS_upR22 (σ : gSig) (vs fs st row : Nat → Int32) : upR (maS σ vs fs st) 20 22 row = maS (upR σ 20 22 row) vs fs st := by
  funext f r i
  unfold maS upR
  by_cases h1 : f = 20
  · subst h1
    by_cases h2 : r = 22
    · subst h2; simp
    · simp [h2]
  · simp [h1]
theorem moS_moS (σ : gSig) (row vs fs st row' a b c : Nat → Int32) : moS (moS σ row vs fs st) row' a b c = moS σ row' a b c := by
  unfold moS
  rw [maS_upR22, upR_upR, maS_maS]
theorem moS_mV (σ : gSig) (row vs fs st : Nat → Int32) : mV (moS σ row vs fs st) = mV σ := mV_of (moS_ne _ _ _ _ _ _ (by decide)) (moS_ne _ _ _ _ _ _ (by decide)) (moS_ne _ _ _ _ _ _ (by decide))
theorem moS_mIn (σ : gSig) (row vs fs st : Nat → Int32) : mIn (moS σ row vs fs st) = mIn σ := by
  funext c
  unfold mIn
  rw [moS_ne _ _ _ _ _ _ (by decide)]
theorem moS_moK {σ : gSig} {o : Nat → Nat} (row vs fs st : Nat → Int32) (h : moK σ o) : moK (moS σ row vs fs st) o := moK_of (moS_ne _ _ _ _ _ _ (by decide)) (moS_ne _ _ _ _ _ _ (by decide)) (moS_ne _ _ _ _ _ _ (by decide)) (moS_ne _ _ _ _ _ _ (by decide)) h
/-- one step smaller, in the model -/
def ssM (σ : gSig) (c : Nat) (kd n : Int32) (row : Nat → Int32) : Option (Nat → Int32) := ssF (mIn σ) (σ 20 5) (prH (mV σ) (mIn σ) (σ 20 6) c kd n) row 16 0
theorem ssM_moS (σ : gSig) (row vs fs st : Nat → Int32) (c : Nat) (kd n : Int32) : ssM (moS σ row vs fs st) c kd n = ssM σ c kd n := by
  funext r
  unfold ssM
  rw [moS_mV, moS_mIn, moS_ne _ _ _ _ _ 5 (by decide), moS_ne _ _ _ _ _ 6 (by decide)]
set_option maxRecDepth 100000 in
set_option maxHeartbeats 1000000 in
theorem m_shrinks {l : Launch} {D : va_G} {ad : Nat → Nat → Nat} {aC : Nat → ClassId} (σ : gSig) (τ : gTau) (c p : Nat) (kd n : Int32) (o : Nat → Nat) (hc : c < 16) (hp : p < 4) (hkd : σ 20 10 (4 * c + p) = kd) (hn : σ 20 11 (4 * c + p) = n) (hK : moK σ o) (hk0 : ¬ kd < 0) (hk3 : kd ≤ 3) (hnn : kd = 2 ∨ kd = 3 → isC n) (hrg : rgK (mIn σ) (σ 20 5) (σ 20 6)) (hrw : rwK (mIn σ) (σ 20 5) (σ 20 6) (σ 20 22)) : CZ l D ad aC yX6_shrinks cX6_shrinks 5 (some .boolean) 4 [.ref (ad 19 0), .int (nI c), .int (nI p)] σ τ (fun r σ' τ' => ∃ vs fs st, some (.int (b2i (ssM σ c kd n (σ 20 22)).isSome)) = r ∧ moS σ ((ssM σ c kd n (σ 20 22)).getD (σ 20 22)) vs fs st = σ' ∧ τ = τ') := by
  refine CZ.of (own := RX6) (by decide +kernel) rfl (Nat.le_of_ble_eq_true rfl) (fun S C => ?_)
  refine r_iconst (v := 0) C dX6_shrinks_0 rfl ?_
  refine r_istore_n C dX6_shrinks_1 rfl (by decide) rfl ?_
  have lp1 : ∀ m i, i ≤ 16 → 16 - i < m → ∀ (vs fs st : Nat → Int32), ssM σ c kd n (σ 20 22) = ssF (mIn σ) (σ 20 5) (prH (mV σ) (mIn σ) (σ 20 6) c kd n) (σ 20 22) (16 - i) i → S 0 (moS σ (σ 20 22) vs fs st) τ 2 [some (.ref (ad 19 0)), some (.int (nI c)), some (.int (nI p)), some (.int (nI i)), none] [] := by
    intro m
    induction m with
    | zero => intro i _ hm; omega
    | succ m ih1 =>
      intro i hi hm vs fs st hss
      refine r_iload_n C dX6_shrinks_2 rfl rfl ?_
      refine r_bipush (v := 16) C dX6_shrinks_3 rfl ?_
      refine r_icmpge (tgt := 85) C dX6_shrinks_5 (by decide) (fun c5 => ?_) (fun c5 => ?_)
      · have n5 := Int32.not_lt.mpr c5
        have hi16 : i = 16 := by
          have := (nI_leI (a := 16) (by omega) (by omega)).mp c5
          omega
        subst hi16
        have hnone : ssM σ c kd n (σ 20 22) = none := hss
        refine r_iconst (v := 0) C dX6_shrinks_85 rfl ?_
        exact r_zret C dX6_shrinks_86 rfl (by decide) (by decide) ⟨vs, fs, st, by rw [hnone]; rfl, by rw [hnone]; rfl, rfl⟩
      · have n5 := Int32.not_le.mp c5
        have hil : i < 16 := (nI_ltI (b := 16) (by omega) (by omega)).mp n5
        obtain ⟨kz, hkz⟩ : ∃ z, 16 - i = z + 1 := ⟨16 - i - 1, by omega⟩
        have hkz2 : kz = 16 - (i + 1) := by omega
        refine r_aload_n C dX6_shrinks_8 rfl rfl ?_
        refine r_get (f := 6) C dX6_shrinks_9 ⟨by decide, by decide⟩ rfl rfl kU6 (by decide) kf_X6_16 rfl rfl ?_
        refine r_iload_n C dX6_shrinks_12 rfl rfl ?_
        refine r_ialdv (v := σ 20 2 i) C dX6_shrinks_13 ⟨by decide, by decide⟩ rfl (vp_in_nI hil (by decide)) (by rw [nI_clamp (by omega), moS_ne _ _ _ _ _ _ (by decide)]) ?_
        refine r_ifne (tgt := 79) C dX6_shrinks_14 (by decide) (fun c14 => ?_) (fun c14 => ?_)
        · have h16 : mIn σ i = false := decide_eq_false c14
          have hss2 : ssM σ c kd n (σ 20 22) = ssF (mIn σ) (σ 20 5) (prH (mV σ) (mIn σ) (σ 20 6) c kd n) (σ 20 22) (16 - (i + 1)) (i + 1) := by rw [hss, hkz, ssF_no h16, hkz2]
          refine r_iinc C dX6_shrinks_79 rfl rfl (by decide) rfl ?_
          refine r_goto (tgt := 2) C dX6_shrinks_82 (by decide) ?_
          refine r_drop C [4] ?_
          exact r_swk (ih1 (i + 1) (by omega) (by omega) _ _ _ hss2) rfl rfl (by rw [← nI_p1]; rfl) rfl
        · have h16 : mIn σ i = true := decide_eq_true c14
          obtain ⟨l0, hl0, hl1, hl2⟩ := rw_less hrg hrw hil h16
          refine r_aload_n C dX6_shrinks_17 rfl rfl ?_
          refine r_get (f := 27) C dX6_shrinks_18 ⟨by decide, by decide⟩ rfl rfl kU6 (by decide) kf_X6_77 rfl rfl ?_
          refine r_iload_n C dX6_shrinks_21 rfl rfl ?_
          refine r_ialdv (v := σ 20 22 i) C dX6_shrinks_22 ⟨by decide, by decide⟩ rfl (vp_in_nI hil (by decide)) (by rw [nI_clamp (by omega), moS_22]) ?_
          refine r_aload_n C dX6_shrinks_23 rfl rfl ?_
          refine r_get (f := 9) C dX6_shrinks_24 ⟨by decide, by decide⟩ rfl rfl kU6 (by decide) kf_X6_25 rfl rfl ?_
          refine r_iload_n C dX6_shrinks_27 rfl rfl ?_
          refine r_ialdv (v := σ 20 5 i) C dX6_shrinks_28 ⟨by decide, by decide⟩ rfl (vp_in_nI hil (by decide)) (by rw [nI_clamp (by omega), moS_ne _ _ _ _ _ _ (by decide)]) ?_
          refine r_isub C dX6_shrinks_29 ?_
          rw [hl1]
          refine r_istore C dX6_shrinks_30 (by decide) rfl ?_
          have lp2 : ∀ m l, l < m → ∀ (f : Nat) (vs fs st : Nat → Int32), l < 2 ^ f → l ≤ l0 → dlF (prH (mV σ) (mIn σ) (σ 20 6) c kd n) (σ 20 22) i 32 l0 = dlF (prH (mV σ) (mIn σ) (σ 20 6) c kd n) (σ 20 22) i f l → S 0 (moS σ (σ 20 22) vs fs st) τ 32 [some (.ref (ad 19 0)), some (.int (nI c)), some (.int (nI p)), some (.int (nI i)), some (.int (nI l))] [] := by
            intro m
            induction m with
            | zero => intro l hl; omega
            | succ m ih2 =>
              intro l hlm f vs fs st hf hll0 hdl
              refine r_iload C dX6_shrinks_32 rfl ?_
              refine r_ifle (tgt := 79) C dX6_shrinks_34 (by decide) (fun c34 => ?_) (fun c34 => ?_)
              · have hlz : l = 0 := by
                  have := (nI_leI (b := 0) (by omega) (by decide)).mp c34
                  omega
                have hss2 : ssM σ c kd n (σ 20 22) = ssF (mIn σ) (σ 20 5) (prH (mV σ) (mIn σ) (σ 20 6) c kd n) (σ 20 22) (16 - (i + 1)) (i + 1) := by
                  rw [hss, hkz, ssF_miss h16, hkz2]
                  rw [show σ 20 22 i - σ 20 5 i = nI l0 from hl1, nI_clamp (by omega), hdl, hlz, dlF_0]
                refine r_iinc C dX6_shrinks_79 rfl rfl (by decide) rfl ?_
                refine r_goto (tgt := 2) C dX6_shrinks_82 (by decide) ?_
                refine r_drop C [4] ?_
                exact r_swk (ih1 (i + 1) (by omega) (by omega) _ _ _ hss2) rfl rfl (by rw [← nI_p1]; rfl) rfl
              · have hlz : ¬ l = 0 := fun q => c34 (by rw [q]; decide)
                obtain ⟨f, rfl⟩ : ∃ z, f = z + 1 := by
                  cases f with
                  | zero => simp at hf; omega
                  | succ f => exact ⟨f, rfl⟩
                refine r_aload_n C dX6_shrinks_37 rfl rfl ?_
                refine r_get (f := 27) C dX6_shrinks_38 ⟨by decide, by decide⟩ rfl rfl kU6 (by decide) kf_X6_77 rfl rfl ?_
                refine r_iload_n C dX6_shrinks_41 rfl rfl ?_
                refine r_dup2 C dX6_shrinks_42 rfl rfl ?_
                refine r_ialdv (v := σ 20 22 i) C dX6_shrinks_43 ⟨by decide, by decide⟩ rfl (vp_in_nI hil (by decide)) (by rw [nI_clamp (by omega), moS_22]) ?_
                refine r_iload C dX6_shrinks_44 rfl ?_
                refine r_isub C dX6_shrinks_46 ?_
                refine r_iastv C dX6_shrinks_47 ⟨by decide, by decide⟩ (fun _ => rfl) (vp_in_nI hil (by decide)) (nI_clamp (by omega)) ?_
                rw [moS_row]
                refine r_aload_n C dX6_shrinks_48 rfl rfl ?_
                refine r_iload_n C dX6_shrinks_49 rfl rfl ?_
                refine r_iload_n C dX6_shrinks_50 rfl rfl ?_
                refine r_callV C dX6_shrinks_51 (m_holds (moS σ (upd (σ 20 22) i (σ 20 22 i - nI l)) vs fs st) τ c p kd n o hc hp (by rw [moS_ne _ _ _ _ _ _ (by decide)]; exact hkd) (by rw [moS_ne _ _ _ _ _ _ (by decide)]; exact hn) (moS_moK _ _ _ _ hK) hk0 hk3 hnn) rfl ⟨by decide, by decide⟩ rfl rfl kB_X6_holds rfl kI_X6_holds kV_X6_holds kl_X6_143 (by decide) (Nat.le_of_ble_eq_true rfl) (by decide) ?_
                rintro r9 σ' τ' ⟨vs2, fs2, st2, rfl, rfl, rfl⟩
                rw [moS_maS, moS_mV, moS_mIn, moS_ne _ _ _ _ _ 6 (by decide), moS_22]
                refine r_ifne (tgt := 59) C dX6_shrinks_54 (by decide) (fun c54 => ?_) (fun c54 => ?_)
                · have h54 := b2i_n.mp c54
                  have hdl2 : dlF (prH (mV σ) (mIn σ) (σ 20 6) c kd n) (σ 20 22) i 32 l0 = dlF (prH (mV σ) (mIn σ) (σ 20 6) c kd n) (σ 20 22) i f (l / 2) := by rw [hdl]; exact dlF_miss hlz h54
                  refine r_aload_n C dX6_shrinks_59 rfl rfl ?_
                  refine r_get (f := 27) C dX6_shrinks_60 ⟨by decide, by decide⟩ rfl rfl kU6 (by decide) kf_X6_77 rfl rfl ?_
                  refine r_iload_n C dX6_shrinks_63 rfl rfl ?_
                  refine r_dup2 C dX6_shrinks_64 rfl rfl ?_
                  refine r_ialdv (v := σ 20 22 i - nI l) C dX6_shrinks_65 ⟨by decide, by decide⟩ rfl (vp_in_nI hil (by decide)) (by rw [nI_clamp (by omega), moS_22]; unfold upd; rw [if_pos rfl]) ?_
                  refine r_iload C dX6_shrinks_66 rfl ?_
                  refine r_iadd C dX6_shrinks_68 ?_
                  refine r_iastv C dX6_shrinks_69 ⟨by decide, by decide⟩ (fun _ => rfl) (vp_in_nI hil (by decide)) (nI_clamp (by omega)) ?_
                  rw [moS_row, upd_back]
                  refine r_iload C dX6_shrinks_70 rfl ?_
                  refine r_iconst (v := 2) C dX6_shrinks_72 rfl ?_
                  refine r_idiv C dX6_shrinks_73 (by decide) ?_
                  rw [show nI l / 2 = nI (l / 2) from nI_div (k := 2) (by omega) (by decide)]
                  refine r_istore C dX6_shrinks_74 (by decide) rfl ?_
                  refine r_goto (tgt := 32) C dX6_shrinks_76 (by decide) ?_
                  exact r_swk (ih2 (l / 2) (by omega) f vs2 fs2 st2 (by rw [Nat.pow_succ] at hf; omega) (by omega) hdl2) rfl rfl rfl rfl
                · have h54 := b2i_0.mp c54
                  have hsome : ssM σ c kd n (σ 20 22) = some (upd (σ 20 22) i (σ 20 22 i - nI l)) := by
                    rw [hss, hkz]
                    refine ssF_hit h16 ?_
                    rw [show σ 20 22 i - σ 20 5 i = nI l0 from hl1, nI_clamp (by omega), hdl]
                    exact dlF_hit hlz h54
                  refine r_iconst (v := 1) C dX6_shrinks_57 rfl ?_
                  exact r_zret C dX6_shrinks_58 rfl (by decide) (by decide) ⟨vs2, fs2, st2, by rw [hsome]; rfl, by rw [hsome]; rfl, rfl⟩
          exact lp2 (l0 + 1) l0 (by omega) 32 vs fs st (by omega) (by omega) rfl
  exact r_swk (lp1 17 0 (by omega) (by omega) (σ 20 20) (σ 20 21) (σ 20 23) rfl) (moS_id σ) rfl rfl rfl
/-- the inputs, as bits -/
def inM (inp : Nat → Bool) : Nat → Int32
  | 0 => 0
  | i + 1 => inM inp i ||| (if inp i = true then b1 i else 0)
theorem inM_t {inp : Nat → Bool} {i : Nat} (h : inp i = true) : inM inp (i + 1) = inM inp i ||| ((1 : Int32) <<< (nI i &&& 31)) := by
  show inM inp i ||| (if inp i = true then b1 i else 0) = _
  rw [if_pos h]
  rfl
theorem inM_f {inp : Nat → Bool} {i : Nat} (h : inp i = false) : inM inp (i + 1) = inM inp i ||| 0 := by
  show inM inp i ||| (if inp i = true then b1 i else 0) = _
  rw [if_neg (by rw [h]; decide)]
/-- the model behind a failed trial: so far n of the example -/
def mxS (σ : gSig) (row vs fs st : Nat → Int32) (c : Nat) (p k : Int32) (n : Nat) : gSig := up3 (upR (up3 (up3 (up3 (moS σ row vs fs st) 20 12 c 2) 20 13 c p) 20 16 c k) 20 14 (cpR (σ 20 14) row (16 * c) n)) 20 15 c (inM (mIn σ) n)
theorem mxS_ne (σ : gSig) (row vs fs st : Nat → Int32) (c : Nat) (p k : Int32) (n r : Nat) (h : r ≠ 20 ∧ r ≠ 21 ∧ r ≠ 23 ∧ r ≠ 12 ∧ r ≠ 13 ∧ r ≠ 14 ∧ r ≠ 15 ∧ r ≠ 16 ∧ r ≠ 22) : mxS σ row vs fs st c p k n 20 r = σ 20 r := by
  unfold mxS
  rw [up3_ne _ _ _ _ _ (fun q => h.2.2.2.2.2.2.1 (congrArg Prod.snd q)), upR_ne _ _ _ _ (fun q => h.2.2.2.2.2.1 (congrArg Prod.snd q)), up3_ne _ _ _ _ _ (fun q => h.2.2.2.2.2.2.2.1 (congrArg Prod.snd q)), up3_ne _ _ _ _ _ (fun q => h.2.2.2.2.1 (congrArg Prod.snd q)), up3_ne _ _ _ _ _ (fun q => h.2.2.2.1 (congrArg Prod.snd q)), moS_ne _ _ _ _ _ _ ⟨h.1, h.2.1, h.2.2.2.2.2.2.2.2, h.2.2.1⟩]
theorem mxS_22 (σ : gSig) (row vs fs st : Nat → Int32) (c : Nat) (p k : Int32) (n : Nat) : mxS σ row vs fs st c p k n 20 22 = row := by
  unfold mxS
  rw [up3_ne _ _ _ _ _ (by simp), upR_ne _ _ _ _ (by simp), up3_ne _ _ _ _ _ (by simp), up3_ne _ _ _ _ _ (by simp), up3_ne _ _ _ _ _ (by simp), moS_22]
theorem mxS_15 (σ : gSig) (row vs fs st : Nat → Int32) (c : Nat) (p k : Int32) (n : Nat) : mxS σ row vs fs st c p k n 20 15 c = inM (mIn σ) n := by
  unfold mxS
  simp [up3_at]
theorem mxS_0 (σ : gSig) (row vs fs st : Nat → Int32) (c : Nat) (p k : Int32) : mxS σ row vs fs st c p k 0 = up3 (up3 (up3 (up3 (moS σ row vs fs st) 20 12 c 2) 20 13 c p) 20 16 c k) 20 15 c 0 := by
  unfold mxS
  rw [cpR_0]
  congr 1
  have e : σ 20 14 = (up3 (up3 (up3 (moS σ row vs fs st) 20 12 c 2) 20 13 c p) 20 16 c k) 20 14 := by
    rw [up3_ne _ _ _ _ _ (by simp), up3_ne _ _ _ _ _ (by simp), up3_ne _ _ _ _ _ (by simp), moS_ne _ _ _ _ _ _ (by decide)]
  rw [e]
  exact upR_id _ _ _
theorem up3_cm (σ : gSig) (f a i g b j : Nat) (x y : Int32) (h : (f, a) ≠ (g, b)) : up3 (up3 σ f a i x) g b j y = up3 (up3 σ g b j y) f a i x := by
  funext f' c' i'
  unfold up3
  by_cases h1 : f' = g ∧ c' = b ∧ i' = j
  · rw [if_pos h1, if_neg (fun q => h (by rw [← q.1, ← q.2.1, h1.1, h1.2.1])), if_pos h1]
  · rw [if_neg h1]
    by_cases h2 : f' = f ∧ c' = a ∧ i' = i
    · rw [if_pos h2, if_pos h2]
    · rw [if_neg h2, if_neg h2, if_neg h1]
theorem mxS_s (σ : gSig) (row vs fs st : Nat → Int32) (c : Nat) (p k x : Int32) (n : Nat) (hx : inM (mIn σ) (n + 1) = inM (mIn σ) n ||| x) : up3 (up3 (mxS σ row vs fs st c p k n) 20 14 (16 * c + n) (row n)) 20 15 c (inM (mIn σ) n ||| x) = mxS σ row vs fs st c p k (n + 1) := by
  unfold mxS
  rw [up3_cm _ _ _ _ _ _ _ _ _ (by simp), up3_up3, up3_cm _ _ _ _ _ _ _ _ _ (by simp), up3_upR, cpR_s, hx]
set_option maxRecDepth 100000 in
set_option maxHeartbeats 1000000 in
theorem m_exemplifies {l : Launch} {D : va_G} {ad : Nat → Nat → Nat} {aC : Nat → ClassId} (σ : gSig) (τ : gTau) (c p : Nat) (kd n : Int32) (o : Nat → Nat) (hc : c < 16) (hp : p < 4) (hkd : σ 20 10 (4 * c + p) = kd) (hn : σ 20 11 (4 * c + p) = n) (hK : moK σ o) (hk0 : ¬ kd < 0) (hk3 : kd ≤ 3) (hnn : kd = 2 ∨ kd = 3 → isC n) (hrg : rgK (mIn σ) (σ 20 5) (σ 20 6)) (hrw : rwK (mIn σ) (σ 20 5) (σ 20 6) (σ 20 22)) : CZ l D ad aC yX6_exemplifies cX6_exemplifies 5 none 5 [.ref (ad 19 0), .int (nI c), .int (nI p)] σ τ (fun r σ' τ' => ∃ vs fs st, none = r ∧ (mxS σ (msF (ssM σ c kd n) 60 (σ 20 22)).2 vs fs st c (nI p) (nI (msF (ssM σ c kd n) 60 (σ 20 22)).1) 16) = σ' ∧ τ = τ') := by
  refine CZ.of (own := RX6) (by decide +kernel) rfl (Nat.le_of_ble_eq_true rfl) (fun S C => ?_)
  refine r_iconst (v := 0) C dX6_exemplifies_0 rfl ?_
  refine r_istore_n C dX6_exemplifies_1 rfl (by decide) rfl ?_
  have j23 : ∀ (k : Nat) (row vs fs st : Nat → Int32), (msF (ssM σ c kd n) 60 (σ 20 22)) = (k, row) → S 0 (moS σ row vs fs st) τ 23 [some (.ref (ad 19 0)), some (.int (nI c)), some (.int (nI p)), some (.int (nI k)), none] [] := by
    intro k row vs fs st hms
    refine r_aload_n C dX6_exemplifies_23 rfl rfl ?_
    refine r_get (f := 16) C dX6_exemplifies_24 ⟨by decide, by decide⟩ rfl rfl kU6 (by decide) kf_X6_46 rfl rfl ?_
    refine r_iload_n C dX6_exemplifies_27 rfl rfl ?_
    refine r_iconst (v := 2) C dX6_exemplifies_28 rfl ?_
    refine r_iastv C dX6_exemplifies_29 ⟨by decide, by decide⟩ (fun _ => rfl) (vp_in_nI hc (by decide)) (nI_clamp (by omega)) ?_
    refine r_aload_n C dX6_exemplifies_30 rfl rfl ?_
    refine r_get (f := 17) C dX6_exemplifies_31 ⟨by decide, by decide⟩ rfl rfl kU6 (by decide) kf_X6_49 rfl rfl ?_
    refine r_iload_n C dX6_exemplifies_34 rfl rfl ?_
    refine r_iload_n C dX6_exemplifies_35 rfl rfl ?_
    refine r_iastv C dX6_exemplifies_36 ⟨by decide, by decide⟩ (fun _ => rfl) (vp_in_nI hc (by decide)) (nI_clamp (by omega)) ?_
    refine r_aload_n C dX6_exemplifies_37 rfl rfl ?_
    refine r_get (f := 20) C dX6_exemplifies_38 ⟨by decide, by decide⟩ rfl rfl kU6 (by decide) kf_X6_58 rfl rfl ?_
    refine r_iload_n C dX6_exemplifies_41 rfl rfl ?_
    refine r_iload_n C dX6_exemplifies_42 rfl rfl ?_
    refine r_iastv C dX6_exemplifies_43 ⟨by decide, by decide⟩ (fun _ => rfl) (vp_in_nI hc (by decide)) (nI_clamp (by omega)) ?_
    refine r_aload_n C dX6_exemplifies_44 rfl rfl ?_
    refine r_get (f := 19) C dX6_exemplifies_45 ⟨by decide, by decide⟩ rfl rfl kU6 (by decide) kf_X6_55 rfl rfl ?_
    refine r_iload_n C dX6_exemplifies_48 rfl rfl ?_
    refine r_iconst (v := 0) C dX6_exemplifies_49 rfl ?_
    refine r_iastv C dX6_exemplifies_50 ⟨by decide, by decide⟩ (fun _ => rfl) (vp_in_nI hc (by decide)) (nI_clamp (by omega)) ?_
    rw [show k = (msF (ssM σ c kd n) 60 (σ 20 22)).1 from by rw [hms], show row = (msF (ssM σ c kd n) 60 (σ 20 22)).2 from by rw [hms], ← mxS_0]
    refine r_iconst (v := 0) C dX6_exemplifies_51 rfl ?_
    refine r_istore C dX6_exemplifies_52 (by decide) rfl ?_
    have lp3 : ∀ m i, i ≤ 16 → 16 - i < m → S 0 (mxS σ (msF (ssM σ c kd n) 60 (σ 20 22)).2 vs fs st c (nI p) (nI (msF (ssM σ c kd n) 60 (σ 20 22)).1) i) τ 54 [some (.ref (ad 19 0)), some (.int (nI c)), some (.int (nI p)), some (.int (nI (msF (ssM σ c kd n) 60 (σ 20 22)).1)), some (.int (nI i))] [] := by
      intro m
      induction m with
      | zero => intro i _ hm; omega
      | succ m ihlp3 =>
        intro i hilp3 hmlp3
        refine r_iload C dX6_exemplifies_54 rfl ?_
        refine r_bipush (v := 16) C dX6_exemplifies_56 rfl ?_
        refine r_icmpge (tgt := 113) C dX6_exemplifies_58 (by decide) (fun c58 => ?_) (fun c58 => ?_)
        · have n58 := Int32.not_lt.mpr c58
          have hlp3e : i = 16 := by
            have := (nI_leI (a := 16) (by omega) (by omega)).mp c58
            omega
          subst hlp3e
          exact r_ret C dX6_exemplifies_113 rfl (by decide) ⟨vs, fs, st, rfl, rfl, rfl⟩
        · have n58 := Int32.not_le.mp c58
          have hlp3l : i < 16 := (nI_ltI (b := 16) (by omega) (by omega)).mp n58
          have hil : i < 16 := hlp3l
          refine r_aload_n C dX6_exemplifies_61 rfl rfl ?_
          refine r_get (f := 18) C dX6_exemplifies_62 ⟨by decide, by decide⟩ rfl rfl kU6 (by decide) kf_X6_52 rfl rfl ?_
          refine r_bipush (v := 16) C dX6_exemplifies_65 rfl ?_
          refine r_iload_n C dX6_exemplifies_67 rfl rfl ?_
          refine r_imul C dX6_exemplifies_68 ?_
          refine r_iload C dX6_exemplifies_69 rfl ?_
          refine r_iadd C dX6_exemplifies_71 ?_
          rw [ix16]
          refine r_aload_n C dX6_exemplifies_72 rfl rfl ?_
          refine r_get (f := 27) C dX6_exemplifies_73 ⟨by decide, by decide⟩ rfl rfl kU6 (by decide) kf_X6_77 rfl rfl ?_
          refine r_iload C dX6_exemplifies_76 rfl ?_
          refine r_ialdv (v := (msF (ssM σ c kd n) 60 (σ 20 22)).2 i) C dX6_exemplifies_78 ⟨by decide, by decide⟩ rfl (vp_in_nI hil (by decide)) (by rw [nI_clamp (by omega), mxS_22]) ?_
          refine r_iastv C dX6_exemplifies_79 ⟨by decide, by decide⟩ (fun _ => rfl) (vp_in_nI (show 16 * c + i < 256 by omega) (by decide)) (nI_clamp (by omega)) ?_
          refine r_aload_n C dX6_exemplifies_80 rfl rfl ?_
          refine r_get (f := 19) C dX6_exemplifies_81 ⟨by decide, by decide⟩ rfl rfl kU6 (by decide) kf_X6_55 rfl rfl ?_
          refine r_iload_n C dX6_exemplifies_84 rfl rfl ?_
          refine r_dup2 C dX6_exemplifies_85 rfl rfl ?_
          refine r_ialdv (v := inM (mIn σ) i) C dX6_exemplifies_86 ⟨by decide, by decide⟩ rfl (vp_in_nI hc (by decide)) (by rw [nI_clamp (by omega), up3_ne _ _ _ _ _ (by simp), mxS_15]) ?_
          refine r_aload_n C dX6_exemplifies_87 rfl rfl ?_
          refine r_get (f := 6) C dX6_exemplifies_88 ⟨by decide, by decide⟩ rfl rfl kU6 (by decide) kf_X6_16 rfl rfl ?_
          refine r_iload C dX6_exemplifies_91 rfl ?_
          refine r_ialdv (v := σ 20 2 i) C dX6_exemplifies_93 ⟨by decide, by decide⟩ rfl (vp_in_nI hil (by decide)) (by rw [nI_clamp (by omega), up3_ne _ _ _ _ _ (by simp), mxS_ne _ _ _ _ _ _ _ _ _ _ (by decide)]) ?_
          refine r_ifne (tgt := 104) C dX6_exemplifies_94 (by decide) (fun c94 => ?_) (fun c94 => ?_)
          · have hin := inM_f (inp := mIn σ) (i := i) (decide_eq_false c94)
            refine r_iconst (v := 0) C dX6_exemplifies_104 rfl ?_
            refine r_ior C dX6_exemplifies_105 ?_
            refine r_iastv C dX6_exemplifies_106 ⟨by decide, by decide⟩ (fun _ => rfl) (vp_in_nI hc (by decide)) (nI_clamp (by omega)) ?_
            rw [mxS_s _ _ _ _ _ _ _ _ _ _ hin]
            refine r_iinc C dX6_exemplifies_107 rfl rfl (by decide) rfl ?_
            refine r_goto (tgt := 54) C dX6_exemplifies_110 (by decide) ?_
            exact r_swk (ihlp3 (i + 1) (by omega) (by omega)) rfl rfl (by rw [← nI_p1]; rfl) rfl
          · have hin := inM_t (inp := mIn σ) (i := i) (decide_eq_true c94)
            refine r_iconst (v := 1) C dX6_exemplifies_97 rfl ?_
            refine r_iload C dX6_exemplifies_98 rfl ?_
            refine r_ishl C dX6_exemplifies_100 ?_
            refine r_goto (tgt := 105) C dX6_exemplifies_101 (by decide) ?_
            refine r_ior C dX6_exemplifies_105 ?_
            refine r_iastv C dX6_exemplifies_106 ⟨by decide, by decide⟩ (fun _ => rfl) (vp_in_nI hc (by decide)) (nI_clamp (by omega)) ?_
            rw [mxS_s _ _ _ _ _ _ _ _ _ _ hin]
            refine r_iinc C dX6_exemplifies_107 rfl rfl (by decide) rfl ?_
            refine r_goto (tgt := 54) C dX6_exemplifies_110 (by decide) ?_
            exact r_swk (ihlp3 (i + 1) (by omega) (by omega)) rfl rfl (by rw [← nI_p1]; rfl) rfl
    exact lp3 (16 + 1) 0 (by omega) (by omega)
  have lp : ∀ m i, i ≤ 60 → 60 - i < m → ∀ (row vs fs st : Nat → Int32), rwK (mIn σ) (σ 20 5) (σ 20 6) row → (msF (ssM σ c kd n) 60 (σ 20 22)) = ((msF (ssM σ c kd n) (60 - i) row).1 + i, (msF (ssM σ c kd n) (60 - i) row).2) → S 0 (moS σ row vs fs st) τ 2 [some (.ref (ad 19 0)), some (.int (nI c)), some (.int (nI p)), some (.int (nI i)), none] [] := by
    intro m
    induction m with
    | zero => intro i _ hm; omega
    | succ m ih =>
      intro i hi hm row vs fs st hrw hms
      refine r_iload_n C dX6_exemplifies_2 rfl rfl ?_
      refine r_bipush (v := 60) C dX6_exemplifies_3 rfl ?_
      refine r_icmpge (tgt := 23) C dX6_exemplifies_5 (by decide) (fun c5 => ?_) (fun c5 => ?_)
      · have n5 := Int32.not_lt.mpr c5
        have hi60 : i = 60 := by
          have := (nI_leI (a := 60) (by omega) (by omega)).mp c5
          omega
        subst hi60
        have hend : (msF (ssM σ c kd n) 60 (σ 20 22)) = (60, row) := by rw [hms]; exact Prod.ext (Nat.zero_add 60) rfl
        exact j23 _ _ _ _ _ hend
      · have n5 := Int32.not_le.mp c5
        have hil : i < 60 := (nI_ltI (b := 60) (by omega) (by omega)).mp n5
        obtain ⟨kz, hkz⟩ : ∃ z, 60 - i = z + 1 := ⟨60 - i - 1, by omega⟩
        have hkz2 : kz = 60 - (i + 1) := by omega
        refine r_aload_n C dX6_exemplifies_8 rfl rfl ?_
        refine r_iload_n C dX6_exemplifies_9 rfl rfl ?_
        refine r_iload_n C dX6_exemplifies_10 rfl rfl ?_
        refine r_callV C dX6_exemplifies_11 (m_shrinks (moS σ row vs fs st) τ c p kd n o hc hp (by rw [moS_ne _ _ _ _ _ _ (by decide)]; exact hkd) (by rw [moS_ne _ _ _ _ _ _ (by decide)]; exact hn) (moS_moK _ _ _ _ hK) hk0 hk3 hnn (by rw [moS_mIn, moS_ne _ _ _ _ _ 5 (by decide), moS_ne _ _ _ _ _ 6 (by decide)]; exact hrg) (by rw [moS_mIn, moS_ne _ _ _ _ _ 5 (by decide), moS_ne _ _ _ _ _ 6 (by decide), moS_22]; exact hrw)) rfl ⟨by decide, by decide⟩ rfl rfl kB_X6_shrinks rfl kI_X6_shrinks kV_X6_shrinks kl_X6_147 (by decide) (Nat.le_of_ble_eq_true rfl) (by decide) ?_
        rintro r9 σ' τ' ⟨vs2, fs2, st2, rfl, rfl, rfl⟩
        rw [moS_moS, ssM_moS, moS_22]
        refine r_ifeq (tgt := 23) C dX6_exemplifies_14 (by decide) (fun c14 => ?_) (fun c14 => ?_)
        · have h14 := b2i_0.mp c14
          have hnone : ssM σ c kd n row = none := by
            cases hz : ssM σ c kd n row with
            | none => rfl
            | some r => rw [hz] at h14; cases h14
          rw [hnone]
          rw [hkz, msF_none hnone] at hms
          have hend : (msF (ssM σ c kd n) 60 (σ 20 22)) = (i, (none : Option (Nat → Int32)).getD row) := by rw [hms]; exact Prod.ext (Nat.zero_add i) rfl
          exact j23 _ _ _ _ _ hend
        · have h14 := b2i_n.mp c14
          obtain ⟨r, hr⟩ : ∃ r, ssM σ c kd n row = some r := Option.isSome_iff_exists.mp h14
          rw [hr]
          have hrw2 : rwK (mIn σ) (σ 20 5) (σ 20 6) ((some r).getD row) := ssF_rw hrg hrw 16 0 r (by omega) hr
          have hms2 : (msF (ssM σ c kd n) 60 (σ 20 22)) = ((msF (ssM σ c kd n) (60 - (i + 1)) ((some r).getD row)).1 + (i + 1), (msF (ssM σ c kd n) (60 - (i + 1)) ((some r).getD row)).2) := by
            rw [hms, hkz, msF_some hr, hkz2, Nat.add_right_comm, Nat.add_assoc]
            rfl
          refine r_iinc C dX6_exemplifies_17 rfl rfl (by decide) rfl ?_
          refine r_goto (tgt := 2) C dX6_exemplifies_20 (by decide) ?_
          exact r_swk (ih (i + 1) (by omega) (by omega) _ _ _ _ hrw2 hms2) rfl rfl (by rw [← nI_p1]; rfl) rfl
  exact r_swk (lp 61 0 (by omega) (by omega) (σ 20 22) (σ 20 20) (σ 20 21) (σ 20 23) hrw rfl) (moS_id σ) rfl rfl rfl
