/-! ===== a formula reckoned: printed by g13.py ===== -/
/-- what stands on the stack's row: the values, the first one at the bottom -/
def onS (g : Nat → Int32) (st : List Int32) : Prop := ∀ (j : Nat) (x : Int32), st.reverse[j]? = some x → g j = x
theorem onS_nil (g : Nat → Int32) : onS g [] := fun j x h => by simp at h
theorem onS_push {g : Nat → Int32} {r : List Int32} (h : onS g r) (x : Int32) : onS (upd g r.length x) (x :: r) := by
  intro j y hj
  rw [List.reverse_cons] at hj
  unfold upd
  by_cases hl : j < r.reverse.length
  · rw [List.getElem?_append_left hl] at hj
    rw [List.length_reverse] at hl
    rw [if_neg (by omega)]
    exact h j y hj
  · rw [List.getElem?_append_right (by omega), List.length_reverse] at hj
    have h1 := (List.getElem?_eq_some_iff.mp hj).1
    rw [List.length_reverse] at hl
    have h2 : j = r.length := by simp at h1; omega
    subst h2
    rw [if_pos rfl]
    rw [Nat.sub_self] at hj
    cases hj
    rfl
theorem onS_tail {g : Nat → Int32} {x : Int32} {r : List Int32} (h : onS g (x :: r)) : onS g r := by
  intro j y hj
  refine h j y ?_
  rw [List.reverse_cons, List.getElem?_append_left (List.getElem?_eq_some_iff.mp hj).1]
  exact hj
theorem onS_top {g : Nat → Int32} {x : Int32} {r : List Int32} (h : onS g (x :: r)) : g r.length = x := by
  refine h r.length x ?_
  rw [List.reverse_cons, List.getElem?_append_right (by rw [List.length_reverse]; omega), List.length_reverse, Nat.sub_self]
  rfl
theorem kd_cases {kd : Int32} (h1 : kd ≤ 13) (h2 : ¬ kd < 12) : kd = 12 ∨ kd = 13 := by
  have a := Int32.le_iff_toInt_le.mp h1
  have b : ¬ kd.toInt < (12 : Int32).toInt := fun q => h2 (Int32.lt_iff_toInt_lt.mpr q)
  have e1 : (13 : Int32).toInt = 13 := by decide
  have e2 : (12 : Int32).toInt = 12 := by decide
  rw [e1] at a
  rw [e2] at b
  rcases (show kd.toInt = 12 ∨ kd.toInt = 13 by omega) with h | h
  · exact Or.inl (Int32.toInt_inj.mp (h.trans e2.symm))
  · exact Or.inr (Int32.toInt_inj.mp (h.trans e1.symm))
set_option maxRecDepth 100000 in
set_option maxHeartbeats 4000000 in
theorem c_reckon {l : Launch} {D : va_G} {ad : Nat → Nat → Nat} {aC : Nat → ClassId} (σ : gSig) (τ : gTau) (c k : Nat) (V : Nat → Option Int32) (hc : c < 17) (hk : σ 1 c 3 = nI k) (hk2 : k ≤ 12) (hP : okP (σ 2 c) (σ 3 c) k) (hd1 : dep (σ 2 c) k = 1) (hV : ∀ i, i < k → σ 2 c i = 13 → τ 8 (σ 3 c i).toNatClampNeg = oL (V (σ 3 c i).toNatClampNeg)) : CZ l D ad aC yX0_reckon cX0_reckon 6 (some .long) 2 [.ref (ad 1 c), .ref (ad 8 0)] σ τ (fun r σ' τ' => ∃ g4, some (.long (oL (evF V (σ 2 c) (σ 3 c) k))) = r ∧ upR σ 4 c g4 = σ' ∧ τ = τ') := by
  refine CZ.of (own := RX0) (by decide +kernel) rfl (Nat.le_of_ble_eq_true rfl) (fun S C => ?_)

  refine r_iconst (v := 0) C dX0_reckon_0 rfl ?_
  refine r_istore_n C dX0_reckon_1 rfl (by decide) rfl ?_
  refine r_iconst (v := 0) C dX0_reckon_2 rfl ?_
  refine r_istore_n C dX0_reckon_3 rfl (by decide) rfl ?_
  have loop : ∀ m i, i ≤ k → k - i < m → ∀ (g : Nat → Int32) (st : List Int32), evN V (σ 2 c) (σ 3 c) i = some st → onS g st → S 0 (upR σ 4 c g) τ 4 [some (.ref (ad 1 c)), some (.ref (ad 8 0)), some (.int (nI st.length)), some (.int (nI i)), none, none] [] := by
    intro m
    induction m with
    | zero => intro i _ hm; omega
    | succ m ih =>
      intro i hi hm g st hev hon
      refine r_iload_n C dX0_reckon_4 rfl rfl ?_
      refine r_aload_n C dX0_reckon_5 rfl rfl ?_
      refine r_get (f := 3) (v := .int (nI k)) C dX0_reckon_6 ⟨by decide, hc⟩ rfl rfl kU0 (by decide) kf_X0_21 rfl (by rw [← hk]; rfl) ?_
      refine r_icmpge (tgt := 133) C dX0_reckon_9 (by decide) (fun c9 => ?_) (fun c9 => ?_)
      · have n9 := Int32.not_lt.mpr c9
        have hik : i = k := by
          have := (nI_leI (by omega) (by omega)).mp c9
          omega
        subst hik
        refine r_aload_n C dX0_reckon_133 rfl rfl ?_
        refine r_get (f := 2) C dX0_reckon_134 ⟨by decide, hc⟩ rfl rfl kU0 (by decide) kf_X0_18 rfl rfl ?_
        refine r_iconst (v := 0) C dX0_reckon_137 rfl ?_
        have hsl : st.length = dep (σ 2 c) i := evN_len (n := i) (fun j hj q => kd_cases (hP j hj).1.2 q) i (Nat.le_refl i) st hev
        obtain ⟨x, hst⟩ : ∃ x, st = [x] := by
          match st, hsl with
          | [x], _ => exact ⟨x, rfl⟩
          | [], q => simp at q; omega
          | _ :: _ :: _, q => simp at q; omega
        subst hst
        refine r_ialdv (v := x) C dX0_reckon_138 ⟨by decide, hc⟩ rfl (vp_in_nI (n := 0) (by decide) (by decide)) (by rw [upR_self]; exact onS_top hon) ?_
        refine r_i2l C dX0_reckon_139 ?_
        exact r_lret C dX0_reckon_140 rfl (by decide) ⟨g, by rw [evF, hev]; rfl, rfl, rfl⟩
      · have n9 := Int32.not_le.mp c9
        have hik : i < k := (nI_ltI (by omega) (by omega)).mp n9
        obtain ⟨⟨hk0, hk13⟩, hop, hce⟩ := hP i hik
        have hsl : st.length = dep (σ 2 c) i := evN_len (n := k) (fun j hj q => kd_cases (hP j hj).1.2 q) i (by omega) st hev
        have hdl := dep_le (σ 2 c) i
        refine r_iload_n C dX0_reckon_12 rfl rfl ?_
        refine r_bipush (v := 12) C dX0_reckon_13 rfl ?_
        refine r_icmpge (tgt := 133) C dX0_reckon_15 (by decide) (fun c15 => ?_) (fun c15 => ?_)
        · have n15 := Int32.not_lt.mpr c15
          exact absurd ((nI_leI (a := 12) (by omega) (by omega)).mp c15) (by omega)
        · have n15 := Int32.not_le.mp c15
          have j90 : ∀ (o : Option Int32) (r : List Int32), r.length ≤ 11 → onS g r → evN V (σ 2 c) (σ 3 c) (i + 1) = o.map (fun x => x :: r) → S 0 (upR σ 4 c g) τ 96 [some (.ref (ad 1 c)), some (.ref (ad 8 0)), some (.int (nI r.length)), some (.int (nI i)), some (.long (oL o)), none] [] := by
            intro o r hrl hor hevn
            refine r_lload C dX0_reckon_96 rfl ?_
            refine r_ldc2 C dX0_reckon_98 kc_X0_42 ?_
            refine r_lcmp C dX0_reckon_101 ?_
            refine r_ifeq (tgt := 111) C dX0_reckon_102 (by decide) (fun c102 => ?_) (fun c102 => ?_)
            · have ho := lg_cmp_0 c102
              have ho2 : o = none := by
                cases o with
                | none => rfl
                | some x => exact absurd ho (oL_ne x)
              subst ho2
              refine r_ldc2 C dX0_reckon_111 kc_X0_42 ?_
              exact r_lret C dX0_reckon_114 rfl (by decide) ⟨g, by
  have e := evN_none (V := V) (kd := σ 2 c) (nm := σ 3 c) (i := i + 1) hevn (k - (i + 1))
  rw [show i + 1 + (k - (i + 1)) = k by omega] at e
  rw [evF, e]
  rfl, rfl, rfl⟩
            · obtain ⟨x, rfl⟩ : ∃ x, o = some x := oL_some (fun q => c102 (by rw [q]; exact lg_cmp_self _))
              refine r_iload_n C dX0_reckon_105 rfl rfl ?_
              refine r_bipush (v := 12) C dX0_reckon_106 rfl ?_
              refine r_icmplt (tgt := 115) C dX0_reckon_108 (by decide) (fun c108 => ?_) (fun c108 => ?_)
              · have n108 := Int32.not_le.mpr c108
                refine r_aload_n C dX0_reckon_115 rfl rfl ?_
                refine r_get (f := 2) C dX0_reckon_116 ⟨by decide, hc⟩ rfl rfl kU0 (by decide) kf_X0_18 rfl rfl ?_
                refine r_iload_n C dX0_reckon_119 rfl rfl ?_
                refine r_lload C dX0_reckon_120 rfl ?_
                refine r_l2i C dX0_reckon_122 ?_
                rw [show (oL (some x)).toInt32 = x from Int32.toInt32_toInt64 x]
                refine r_iastv C dX0_reckon_123 ⟨by decide, hc⟩ (fun _ => rfl) (vp_in_nI (show r.length < 12 by omega) (by decide)) (nI_clamp (by omega)) ?_
                rw [up3_upR]
                refine r_iinc C dX0_reckon_124 rfl rfl (by decide) rfl ?_
                refine r_iinc C dX0_reckon_127 rfl rfl (by decide) rfl ?_
                refine r_goto (tgt := 4) C dX0_reckon_130 (by decide) ?_
                refine r_drop C [4] ?_
                exact r_swk (ih (i + 1) (by omega) (by omega) (upd g r.length x) (x :: r) hevn (onS_push hor x)) rfl rfl (by simp [dropL, nI_succ]) rfl
              · have n108 := Int32.not_lt.mp c108
                exact absurd (nI_lt (show r.length < 12 by omega) (by decide)) c108
          refine r_aload_n C dX0_reckon_18 rfl rfl ?_
          refine r_get (f := 0) C dX0_reckon_19 ⟨by decide, hc⟩ rfl rfl kU0 (by decide) kf_X0_9 rfl rfl ?_
          refine r_iload_n C dX0_reckon_22 rfl rfl ?_
          refine r_ialdv (v := σ 2 c i) C dX0_reckon_23 ⟨by decide, hc⟩ rfl (vp_in_nI (show i < 12 by omega) (by decide)) (by rw [nI_clamp (by omega)]; rfl) ?_
          refine r_bipush (v := 12) C dX0_reckon_24 rfl ?_
          refine r_icmplt (tgt := 50) C dX0_reckon_26 (by decide) (fun c26 => ?_) (fun c26 => ?_)
          · have n26 := Int32.not_le.mpr c26
            have h2 := hop c26
            obtain ⟨b, a, r, hst⟩ : ∃ b a r, st = b :: a :: r := by
              match st, hsl with
              | b :: a :: r, _ => exact ⟨b, a, r, rfl⟩
              | [b], q => simp at q; omega
              | [], q => simp at q; omega
            subst hst
            have hlen : (b :: a :: r).length = r.length + 2 := rfl
            refine r_iload_n C dX0_reckon_50 rfl rfl ?_
            refine r_iconst (v := 2) C dX0_reckon_51 rfl ?_
            refine r_icmplt (tgt := 92) C dX0_reckon_52 (by decide) (fun c52 => ?_) (fun c52 => ?_)
            · have n52 := Int32.not_le.mpr c52
              exact absurd ((nI_ltI (a := r.length + 2) (b := 2) (by simp at hsl; omega) (by decide)).mp c52) (by omega)
            · have n52 := Int32.not_lt.mp c52
              refine r_iload_n C dX0_reckon_55 rfl rfl ?_
              refine r_bipush (v := 12) C dX0_reckon_56 rfl ?_
              refine r_icmpgt (tgt := 92) C dX0_reckon_58 (by decide) (fun c58 => ?_) (fun c58 => ?_)
              · have n58 := Int32.not_le.mpr c58
                exact absurd ((nI_ltI (a := 12) (b := r.length + 2) (by decide) (by simp at hsl; omega)).mp c58) (by simp at hsl; omega)
              · have n58 := Int32.not_lt.mp c58
                refine r_iinc (v := nI r.length) C dX0_reckon_61 rfl (nI_m2 r.length) (by decide) rfl ?_
                refine r_aload_n C dX0_reckon_64 rfl rfl ?_
                refine r_get (f := 0) C dX0_reckon_65 ⟨by decide, hc⟩ rfl rfl kU0 (by decide) kf_X0_9 rfl rfl ?_
                refine r_iload_n C dX0_reckon_68 rfl rfl ?_
                refine r_ialdv (v := σ 2 c i) C dX0_reckon_69 ⟨by decide, hc⟩ rfl (vp_in_nI (show i < 12 by omega) (by decide)) (by rw [nI_clamp (by omega)]; rfl) ?_
                refine r_aload_n C dX0_reckon_70 rfl rfl ?_
                refine r_get (f := 2) C dX0_reckon_71 ⟨by decide, hc⟩ rfl rfl kU0 (by decide) kf_X0_18 rfl rfl ?_
                refine r_iload_n C dX0_reckon_74 rfl rfl ?_
                refine r_ialdv (v := a) C dX0_reckon_75 ⟨by decide, hc⟩ rfl (vp_in_nI (show r.length < 12 by simp at hsl; omega) (by decide)) (by rw [nI_clamp (by simp at hsl; omega), upR_self]; exact onS_top (onS_tail hon)) ?_
                refine r_aload_n C dX0_reckon_76 rfl rfl ?_
                refine r_get (f := 2) C dX0_reckon_77 ⟨by decide, hc⟩ rfl rfl kU0 (by decide) kf_X0_18 rfl rfl ?_
                refine r_iload_n C dX0_reckon_80 rfl rfl ?_
                refine r_iconst (v := 1) C dX0_reckon_81 rfl ?_
                refine r_iadd C dX0_reckon_82 ?_
                rw [nI_1]
                refine r_ialdv (v := b) C dX0_reckon_83 ⟨by decide, hc⟩ rfl (vp_in_nI (show r.length + 1 < 12 by simp at hsl; omega) (by decide)) (by rw [nI_clamp (by simp at hsl; omega), upR_self]; exact onS_top hon) ?_
                refine r_callS C dX0_reckon_84 (c_operate (upR σ 4 c g) τ (σ 2 c i) a b) rfl kB_X0_operate rfl kS_X0_operate kl_X0_38 (by decide) (Nat.le_of_ble_eq_true rfl) (by decide) ?_
                rintro r9 σ' τ' ⟨rfl, rfl, rfl⟩
                refine r_lstore C dX0_reckon_87 (by decide) rfl ?_
                refine r_goto (tgt := 96) C dX0_reckon_89 (by decide) ?_
                refine r_swk (j90 (opF (σ 2 c i) a b) r (by simp at hsl; omega) (onS_tail (onS_tail hon)) ?_) rfl rfl rfl rfl
                show (evN V (σ 2 c) (σ 3 c) i).bind (evS V (σ 2 c i) (σ 3 c i)) = _
                rw [hev]
                have n12 : ¬ σ 2 c i = 12 := fun q => by rw [q] at c26; exact absurd c26 (by decide)
                have n13 : ¬ σ 2 c i = 13 := fun q => by rw [q] at c26; exact absurd c26 (by decide)
                show evS V (σ 2 c i) (σ 3 c i) (b :: a :: r) = _
                unfold evS
                rw [if_neg n12, if_neg n13]
          · have n26 := Int32.not_lt.mp c26
            refine r_aload_n C dX0_reckon_29 rfl rfl ?_
            refine r_get (f := 0) C dX0_reckon_30 ⟨by decide, hc⟩ rfl rfl kU0 (by decide) kf_X0_9 rfl rfl ?_
            refine r_iload_n C dX0_reckon_33 rfl rfl ?_
            refine r_ialdv (v := σ 2 c i) C dX0_reckon_34 ⟨by decide, hc⟩ rfl (vp_in_nI (show i < 12 by omega) (by decide)) (by rw [nI_clamp (by omega)]; rfl) ?_
            refine r_aload_n C dX0_reckon_35 rfl rfl ?_
            refine r_get (f := 1) C dX0_reckon_36 ⟨by decide, hc⟩ rfl rfl kU0 (by decide) kf_X0_15 rfl rfl ?_
            refine r_iload_n C dX0_reckon_39 rfl rfl ?_
            refine r_ialdv (v := σ 3 c i) C dX0_reckon_40 ⟨by decide, hc⟩ rfl (vp_in_nI (show i < 12 by omega) (by decide)) (by rw [nI_clamp (by omega)]; rfl) ?_
            refine r_aload_n C dX0_reckon_41 rfl rfl ?_
            refine r_callS C dX0_reckon_42 (c_leaf (upR σ 4 c g) τ (σ 2 c i) (σ 3 c i)) rfl kB_X0_leaf rfl kS_X0_leaf kl_X0_34 (by decide) (Nat.le_of_ble_eq_true rfl) (by decide) ?_
            rintro r σ' τ' ⟨rfl, rfl, rfl⟩
            refine r_lstore C dX0_reckon_45 (by decide) rfl ?_
            refine r_goto (tgt := 96) C dX0_reckon_47 (by decide) ?_
            have hkk := kd_cases hk13 (Int32.not_lt.mpr n26)
            have hlf : ∃ o, lfV (τ 8) (σ 2 c i) (σ 3 c i) = oL o ∧ evS V (σ 2 c i) (σ 3 c i) st = o.map (fun x => x :: st) := by
              rcases hkk with e | e
              · exact ⟨some (σ 3 c i), by simp [lfV, e, oL], by simp [evS, e]⟩
              · obtain ⟨q1, q2⟩ := hce e
                refine ⟨V (σ 3 c i).toNatClampNeg, ?_, by simp [evS, e]⟩
                rw [← hV i hik e]
                simp [lfV, e, q1, Int32.not_le.mpr q2]
            obtain ⟨o, ho1, ho2⟩ := hlf
            refine r_swk (j90 o st (by omega) hon ?_) rfl rfl (by rw [ho1]; rfl) rfl
            show (evN V (σ 2 c) (σ 3 c) i).bind (evS V (σ 2 c i) (σ 3 c i)) = _
            rw [hev]
            exact ho2
  have h0 := loop (k + 1) 0 (by omega) (by omega) (σ 4 c) [] rfl (onS_nil _)
  rw [upR_id] at h0
  exact h0
