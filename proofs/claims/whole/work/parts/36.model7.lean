/-! ===== the law's model: a cell's value reckoned: printed by g36.py ===== -/
/-- what the model's rows say of a value -/
def oVE (σ : gSig) (d : Nat) (o : Option Int32) : Prop := match o with
  | none => σ 20 21 d = 1
  | some v => σ 20 21 d = 0 ∧ σ 20 20 d = v
/-- the stack and the sign of a fault, behind the first parts -/
def stI (V : Nat → Option Int32) (kd nm : Nat → Int32) (i : Nat) (fa : Int32) (g : Nat → Int32) : Prop := match evN V kd nm i with
  | none => fa = 1
  | some st => fa = 0 ∧ onS g st
theorem stI_1 {V : Nat → Option Int32} {kd nm : Nat → Int32} {i : Nat} {fa : Int32} {g : Nat → Int32} (h : stI V kd nm i fa g) : (fa = 1 ∧ evN V kd nm i = none) ∨ (fa = 0 ∧ ∃ st, evN V kd nm i = some st ∧ onS g st) := by
  unfold stI at h
  cases he : evN V kd nm i with
  | none => rw [he] at h; exact Or.inl ⟨h, rfl⟩
  | some st => rw [he] at h; exact Or.inr ⟨h.1, st, rfl, h.2⟩
theorem stI_no {V : Nat → Option Int32} {kd nm : Nat → Int32} {i : Nat} {g : Nat → Int32} (h : evN V kd nm i = none) : stI V kd nm i 1 g := by
  unfold stI; rw [h]
theorem stI_so {V : Nat → Option Int32} {kd nm : Nat → Int32} {i : Nat} {g : Nat → Int32} {st : List Int32} (h : evN V kd nm i = some st) (h2 : onS g st) : stI V kd nm i 0 g := by
  unfold stI; rw [h]; exact ⟨rfl, h2⟩
def mkS (σ : gSig) (c : Nat) (fa : Int32) (g : Nat → Int32) : gSig := upR (up3 σ 20 21 c fa) 20 23 g
theorem mkS_f (σ : gSig) (c : Nat) (fa fa' : Int32) (g : Nat → Int32) : up3 (mkS σ c fa g) 20 21 c fa' = mkS σ c fa' g := by
  funext f r i
  unfold mkS up3 upR
  by_cases h1 : f = 20
  · subst h1
    by_cases h2 : r = 23
    · subst h2; simp
    · by_cases h3 : r = 21
      · subst h3
        by_cases h4 : i = c <;> simp [h4]
      · simp [h2, h3]
  · simp [h1]
theorem mkS_g (σ : gSig) (c : Nat) (fa : Int32) (g : Nat → Int32) (j : Nat) (x : Int32) : up3 (mkS σ c fa g) 20 23 j x = mkS σ c fa (upd g j x) := up3_upR _ _ _ _ _ _
theorem mkS_fa (σ : gSig) (c : Nat) (fa : Int32) (g : Nat → Int32) : (mkS σ c fa g) 20 21 c = fa := by
  unfold mkS
  rw [upR_ne _ _ _ _ (by decide)]
  simp [up3_at]
theorem mkS_fd (σ : gSig) (c d : Nat) (fa : Int32) (g : Nat → Int32) (h : d ≠ c) : (mkS σ c fa g) 20 21 d = σ 20 21 d := by
  unfold mkS
  rw [upR_ne _ _ _ _ (by decide)]
  simp [up3_at, h]
theorem mkS_st (σ : gSig) (c : Nat) (fa : Int32) (g : Nat → Int32) : (mkS σ c fa g) 20 23 = g := upR_self _ _ _ _
theorem mkS_ne (σ : gSig) (c : Nat) (fa : Int32) (g : Nat → Int32) (r : Nat) (h1 : r ≠ 21) (h2 : r ≠ 23) : (mkS σ c fa g) 20 r = σ 20 r := by
  unfold mkS
  rw [upR_ne _ _ _ _ (fun q => h2 (congrArg Prod.snd q)), up3_ne _ _ _ _ _ (fun q => h1 (congrArg Prod.snd q))]
theorem kdM_lt {s p : Int32} (hs : s = 0 ∨ s = 1 ∨ s = 2) (h2 : s = 2 → ¬ p < 0 ∧ p < 12) : kdM s p < 12 ↔ s = 2 := by
  unfold kdM
  rcases hs with e | e | e
  · rw [e, if_neg (by decide), if_neg (by decide)]; decide
  · rw [e, if_neg (by decide), if_pos rfl]; decide
  · rw [e, if_pos rfl]; exact ⟨fun _ => rfl, fun _ => (h2 e).2⟩
theorem opF_ok {o a b : Int32} (h : ¬ o = 3 ∨ ¬ b = 0) : ∃ v, opF o a b = some v := by
  unfold opF
  by_cases h3 : o = 3
  · have hb : ¬ b = 0 := h.elim (fun q => absurd h3 q) id
    subst h3
    exact ⟨a / b, by simp [hb]⟩
  · repeat' split
    all_goals first | exact ⟨_, rfl⟩ | contradiction
theorem opF_no {o a b : Int32} (h : o = 3) (h2 : b = 0) : opF o a b = none := by
  subst h; subst h2; rfl
theorem nI_s1 (e : Nat) : nI (e + 1) - 1 = nI e := by
  rw [← nI_p1, show (Int32.ofInt 1) = 1 from rfl, Int32.add_sub_cancel]
set_option maxRecDepth 100000 in
set_option maxHeartbeats 1000000 in
theorem m_reckons {l : Launch} {D : va_G} {ad : Nat → Nat → Nat} {aC : Nat → ClassId} (σ : gSig) (τ : gTau) (c : Nat) (V : Nat → Option Int32) (hc : c < 16) (hm : msK σ c) (hP : okP (mK σ c) (mN σ c) (mL σ c)) (hd1 : dep (mK σ c) (mL σ c) = 1) (hV : ∀ i, i < mL σ c → (mK σ c) i = 13 → ∃ d, d < 16 ∧ d ≠ c ∧ (mN σ c) i = nI d ∧ oVE σ d (V d)) : CZ l D ad aC yX6_reckons cX6_reckons 6 none 1 [.ref (ad 19 0), .int (nI c)] σ τ (fun r σ' τ' => ∃ g fa x, none = r ∧ up3 (mkS σ c fa g) 20 20 c x = σ' ∧ τ = τ' ∧ (match evF V (mK σ c) (mN σ c) (mL σ c) with | none => fa = 1 | some v => fa = 0 ∧ x = v)) := by
  refine CZ.of (own := RX6) (by decide +kernel) rfl (Nat.le_of_ble_eq_true rfl) (fun S C => ?_)
  refine r_iconst (v := 0) C dX6_reckons_0 rfl ?_
  refine r_istore_n C dX6_reckons_1 rfl (by decide) rfl ?_
  refine r_aload_n C dX6_reckons_2 rfl rfl ?_
  refine r_get (f := 26) C dX6_reckons_3 ⟨by decide, by decide⟩ rfl rfl kU6 (by decide) kf_X6_73 rfl rfl ?_
  refine r_iload_n C dX6_reckons_6 rfl rfl ?_
  refine r_iconst (v := 0) C dX6_reckons_7 rfl ?_
  refine r_zastv C dX6_reckons_8 ⟨by decide, by decide⟩ (fun _ => rfl) (vp_in_nI hc (by decide)) (nI_clamp (by omega)) (Or.inl rfl) ?_
  refine r_iconst (v := 0) C dX6_reckons_9 rfl ?_
  refine r_istore_n C dX6_reckons_10 rfl (by decide) rfl ?_
  have hm2 := hm.2.1
  have loop : ∀ m i, i ≤ mL σ c → mL σ c - i < m → ∀ fa g, stI V (mK σ c) (mN σ c) i fa g → S 0 (mkS σ c fa g) τ 11 [some (.ref (ad 19 0)), some (.int (nI c)), some (.int (nI (dep (mK σ c) i))), some (.int (nI i)), none, none] [] := by
    intro m
    induction m with
    | zero => intro i _ hm; omega
    | succ m ih =>
      intro i hi hmi fa g hst
      have hdl := dep_le (mK σ c) i
      refine r_iload_n C dX6_reckons_11 rfl rfl ?_
      refine r_aload_n C dX6_reckons_12 rfl rfl ?_
      refine r_get (f := 6) C dX6_reckons_13 ⟨by decide, by decide⟩ rfl rfl kU6 (by decide) kf_X6_16 rfl rfl ?_
      refine r_iload_n C dX6_reckons_16 rfl rfl ?_
      refine r_ialdv (v := nI (mL σ c)) C dX6_reckons_17 ⟨by decide, by decide⟩ rfl (vp_in_nI hc (by decide)) (by rw [nI_clamp (by omega), mkS_ne _ _ _ _ _ (by decide) (by decide)]; exact hm.1) ?_
      refine r_icmpge (tgt := 219) C dX6_reckons_18 (by decide) (fun c18 => ?_) (fun c18 => ?_)
      · have n18 := Int32.not_lt.mpr c18
        have hie : i = mL σ c := by
          have := (nI_leI (by omega) (by omega)).mp c18
          omega
        refine r_aload_n C dX6_reckons_219 rfl rfl ?_
        refine r_get (f := 25) C dX6_reckons_220 ⟨by decide, by decide⟩ rfl rfl kU6 (by decide) kf_X6_70 rfl rfl ?_
        refine r_iload_n C dX6_reckons_223 rfl rfl ?_
        refine r_aload_n C dX6_reckons_224 rfl rfl ?_
        refine r_get (f := 28) C dX6_reckons_225 ⟨by decide, by decide⟩ rfl rfl kU6 (by decide) kf_X6_80 rfl rfl ?_
        refine r_iconst (v := 0) C dX6_reckons_228 rfl ?_
        refine r_ialdv (v := g 0) C dX6_reckons_229 ⟨by decide, by decide⟩ rfl (vp_in_nI (n := 0) (by decide) (by decide)) (by rw [mkS_st]; rfl) ?_
        refine r_iastv C dX6_reckons_230 ⟨by decide, by decide⟩ (fun _ => rfl) (vp_in_nI hc (by decide)) (nI_clamp (by omega)) ?_
        exact r_ret C dX6_reckons_231 rfl (by decide) ⟨g, fa, g 0, rfl, rfl, rfl, by
  rw [hie] at hst
  rcases stI_1 hst with ⟨q1, q2⟩ | ⟨q1, st, hes, hos⟩
  · unfold evF
    rw [q2]
    exact q1
  · have hl := evN_len (n := mL σ c) (fun j hj q => kd_cases (hP j hj).1.2 q) _ (Nat.le_refl _) st hes
    rw [hd1] at hl
    obtain ⟨x, rfl⟩ : ∃ x, st = [x] := by
      match st, hl with
      | [x], _ => exact ⟨x, rfl⟩
    unfold evF
    rw [hes]
    exact ⟨q1, onS_top hos⟩⟩
      · have n18 := Int32.not_le.mp c18
        have hil : i < mL σ c := (nI_ltI (by omega) (by omega)).mp n18
        obtain ⟨hs3, hs2, hs1⟩ := hm.2.2 i hil
        have hklt := kdM_lt hs3 hs2
        obtain ⟨-, hop, -⟩ := hP i hil
        have hlen : ∀ st, evN V (mK σ c) (mN σ c) i = some st → st.length = dep (mK σ c) i := fun st he => evN_len (n := mL σ c) (fun j hj q => kd_cases (hP j hj).1.2 q) i (by omega) st he
        have hi12 : i < 12 := by omega
        refine r_aload_n C dX6_reckons_21 rfl rfl ?_
        refine r_get (f := 8) C dX6_reckons_22 ⟨by decide, by decide⟩ rfl rfl kU6 (by decide) kf_X6_22 rfl rfl ?_
        refine r_bipush (v := 12) C dX6_reckons_25 rfl ?_
        refine r_iload_n C dX6_reckons_27 rfl rfl ?_
        refine r_imul C dX6_reckons_28 ?_
        refine r_iload_n C dX6_reckons_29 rfl rfl ?_
        refine r_iadd C dX6_reckons_30 ?_
        rw [ix12]
        refine r_ialdv (v := σ 20 4 (12 * c + i)) C dX6_reckons_31 ⟨by decide, by decide⟩ rfl (vp_in_nI (show 12 * c + i < 192 by omega) (by decide)) (by rw [nI_clamp (by omega), mkS_ne _ _ _ _ _ (by decide) (by decide)]) ?_
        refine r_istore C dX6_reckons_32 (by decide) rfl ?_
        refine r_aload_n C dX6_reckons_34 rfl rfl ?_
        refine r_get (f := 7) C dX6_reckons_35 ⟨by decide, by decide⟩ rfl rfl kU6 (by decide) kf_X6_19 rfl rfl ?_
        refine r_bipush (v := 12) C dX6_reckons_38 rfl ?_
        refine r_iload_n C dX6_reckons_40 rfl rfl ?_
        refine r_imul C dX6_reckons_41 ?_
        refine r_iload_n C dX6_reckons_42 rfl rfl ?_
        refine r_iadd C dX6_reckons_43 ?_
        rw [ix12]
        refine r_ialdv (v := σ 20 3 (12 * c + i)) C dX6_reckons_44 ⟨by decide, by decide⟩ rfl (vp_in_nI (show 12 * c + i < 192 by omega) (by decide)) (by rw [nI_clamp (by omega), mkS_ne _ _ _ _ _ (by decide) (by decide)]) ?_
        refine r_iconst (v := 2) C dX6_reckons_45 rfl ?_
        refine r_icmpne (tgt := 130) C dX6_reckons_46 (by decide) (fun c46 => ?_) (fun c46 => ?_)
        · have hkge : ¬ (mK σ c) i < 12 := fun q => c46 (hklt.mp q)
          have hdn : dep (mK σ c) (i + 1) = dep (mK σ c) i + 1 := if_neg hkge
          have hcell : σ 20 3 (12 * c + i) = 1 → ∃ d, d < 16 ∧ d ≠ c ∧ (σ 20 4 (12 * c + i)) = nI d ∧ oVE σ d (V d) := fun q => hV i hil ((mK_13 hm hil).mpr q)
          have hnum : ¬ σ 20 3 (12 * c + i) = 1 → (mK σ c) i = 12 := fun q => by
            show kdM _ _ = 12
            unfold kdM
            rw [if_neg c46, if_neg q]
          have hbv : ∀ w, (σ 20 3 (12 * c + i) = 1 → ∃ d, (σ 20 4 (12 * c + i)) = nI d ∧ d < 16 ∧ V d = some w) → (¬ σ 20 3 (12 * c + i) = 1 → w = (σ 20 4 (12 * c + i))) → ∀ st, evN V (mK σ c) (mN σ c) i = some st → evN V (mK σ c) (mN σ c) (i + 1) = some (w :: st) := fun w h1 h2 st he => by
            show (evN V (mK σ c) (mN σ c) i).bind (evS V ((mK σ c) i) ((mN σ c) i)) = _
            rw [he]
            show evS V ((mK σ c) i) ((mN σ c) i) st = _
            unfold evS
            by_cases q : σ 20 3 (12 * c + i) = 1
            · have k13 := (mK_13 hm hil).mpr q
              obtain ⟨d, hd1, hd2, hd3⟩ := h1 q
              rw [k13, if_neg (by decide), if_pos rfl, show (mN σ c) i = nI d from hd1, nI_clamp (by omega), hd3]
              rfl
            · rw [hnum q, if_pos rfl, h2 q]
              rfl
          have j150 : ∀ b : Bool, decide (σ 20 3 (12 * c + i) = 1) = b → S 0 (mkS σ c fa g) τ 150 [some (.ref (ad 19 0)), some (.int (nI c)), some (.int (nI (dep (mK σ c) i))), some (.int (nI i)), some (.int (σ 20 4 (12 * c + i))), none] [.int (b2i b)] := by
            intro b hb
            refine r_istore C dX6_reckons_150 (by decide) rfl ?_
            have j186 : ∀ fa', ((fa' = 1 ∧ evN V (mK σ c) (mN σ c) (i + 1) = none) ∨ (fa' = 0 ∧ fa = 0 ∧ (b = true → ∃ d v, (σ 20 4 (12 * c + i)) = nI d ∧ d < 16 ∧ d ≠ c ∧ V d = some v ∧ σ 20 20 d = v))) → S 0 (mkS σ c fa g) τ 186 [some (.ref (ad 19 0)), some (.int (nI c)), some (.int (nI (dep (mK σ c) i))), some (.int (nI i)), some (.int (σ 20 4 (12 * c + i))), some (.int (b2i b))] [.int fa', .int (nI c), .ref (ad 20 21)] := by
              intro fa' hfa
              have hb01 : fa' = 0 ∨ fa' = 1 := hfa.elim (fun q => Or.inr q.1) (fun q => Or.inl q.1)
              refine r_zastv C dX6_reckons_186 ⟨by decide, by decide⟩ (fun _ => rfl) (vp_in_nI hc (by decide)) (nI_clamp (by omega)) hb01 ?_
              rw [mkS_f]
              refine r_aload_n C dX6_reckons_187 rfl rfl ?_
              refine r_get (f := 28) C dX6_reckons_188 ⟨by decide, by decide⟩ rfl rfl kU6 (by decide) kf_X6_80 rfl rfl ?_
              refine r_iload_n C dX6_reckons_191 rfl rfl ?_
              have j209 : ∀ w, (∀ g2, g2 = upd g (dep (mK σ c) i) w → stI V (mK σ c) (mN σ c) (i + 1) fa' g2) → S 0 (mkS σ c fa' g) τ 209 [some (.ref (ad 19 0)), some (.int (nI c)), some (.int (nI (dep (mK σ c) i))), some (.int (nI i)), some (.int (σ 20 4 (12 * c + i))), some (.int (b2i b))] [.int w, .int (nI (dep (mK σ c) i)), .ref (ad 20 23)] := by
                intro w hw
                have hst2 := hw _ rfl
                refine r_iastv C dX6_reckons_209 ⟨by decide, by decide⟩ (fun _ => rfl) (vp_in_nI (show dep (mK σ c) i < 12 by omega) (by decide)) (nI_clamp (by omega)) ?_
                rw [mkS_g]
                refine r_iinc C dX6_reckons_210 rfl rfl (by decide) rfl ?_
                refine r_iinc C dX6_reckons_213 rfl rfl (by decide) rfl ?_
                refine r_goto (tgt := 11) C dX6_reckons_216 (by decide) ?_
                refine r_drop C [4, 5] ?_
                exact r_swk (ih (i + 1) (by omega) (by omega) _ _ hst2) rfl rfl (by rw [hdn]; simp only [nI_p1]; rfl) rfl
              refine r_iload C dX6_reckons_192 rfl ?_
              refine r_ifeq (tgt := 207) C dX6_reckons_194 (by decide) (fun c194 => ?_) (fun c194 => ?_)
              · have hw9 : ∀ g2, g2 = upd g (dep (mK σ c) i) (σ 20 4 (12 * c + i)) → stI V (mK σ c) (mN σ c) (i + 1) fa' g2 := fun g2 hg2 => by
                  rcases hfa with ⟨q1, q2⟩ | ⟨q1, q0, -⟩
                  · rw [q1]; exact stI_no q2
                  · rcases stI_1 hst with ⟨q, -⟩ | ⟨-, st, hes, hos⟩
                    · rw [q] at q0; cases q0
                    · have hnc : ¬ σ 20 3 (12 * c + i) = 1 := fun q => by
                        rw [decide_eq_true q] at hb
                        rw [← hb] at c194
                        exact absurd c194 (by decide)
                      rw [hg2, q1, ← hlen st hes]
                      exact stI_so (hbv _ (fun q => absurd q hnc) (fun _ => rfl) st hes) (onS_push hos _)
                refine r_iload C dX6_reckons_207 rfl ?_
                exact j209 _ hw9
              · have hbt := b2i_n.mp c194
                obtain ⟨d, hd, hdc, hpd, hov⟩ := hcell (of_decide_eq_true (hb.trans hbt))
                have hw9 : ∀ g2, g2 = upd g (dep (mK σ c) i) (σ 20 20 d) → stI V (mK σ c) (mN σ c) (i + 1) fa' g2 := fun g2 hg2 => by
                  rcases hfa with ⟨q1, q2⟩ | ⟨q1, q0, q3⟩
                  · rw [q1]; exact stI_no q2
                  · rcases stI_1 hst with ⟨q, -⟩ | ⟨-, st, hes, hos⟩
                    · rw [q] at q0; cases q0
                    · obtain ⟨d2, v, h1, h2, h3, h4, h5⟩ := q3 hbt
                      have hdd : d2 = d := (nI_eq (by omega) (by omega)).mp (h1.symm.trans hpd)
                      subst hdd
                      rw [hg2, q1, ← hlen st hes, h5]
                      exact stI_so (hbv v (fun _ => ⟨d2, h1, h2, h4⟩) (fun q => absurd (of_decide_eq_true (hb.trans hbt)) q) st hes) (onS_push hos _)
                refine r_aload_n C dX6_reckons_197 rfl rfl ?_
                refine r_get (f := 25) C dX6_reckons_198 ⟨by decide, by decide⟩ rfl rfl kU6 (by decide) kf_X6_70 rfl rfl ?_
                refine r_iload C dX6_reckons_201 rfl ?_
                rw [hpd]
                refine r_ialdv (v := σ 20 20 d) C dX6_reckons_203 ⟨by decide, by decide⟩ rfl (vp_in_nI hd (by decide)) (by rw [nI_clamp (by omega), mkS_ne _ _ _ _ _ (by decide) (by decide)]) ?_
                rw [← hpd]
                refine r_goto (tgt := 209) C dX6_reckons_204 (by decide) ?_
                exact j209 _ hw9
            refine r_aload_n C dX6_reckons_152 rfl rfl ?_
            refine r_get (f := 26) C dX6_reckons_153 ⟨by decide, by decide⟩ rfl rfl kU6 (by decide) kf_X6_73 rfl rfl ?_
            refine r_iload_n C dX6_reckons_156 rfl rfl ?_
            refine r_aload_n C dX6_reckons_157 rfl rfl ?_
            refine r_get (f := 26) C dX6_reckons_158 ⟨by decide, by decide⟩ rfl rfl kU6 (by decide) kf_X6_73 rfl rfl ?_
            refine r_iload_n C dX6_reckons_161 rfl rfl ?_
            refine r_zaldv (v := fa) C dX6_reckons_162 ⟨by decide, by decide⟩ rfl (vp_in_nI hc (by decide)) (by rw [nI_clamp (by omega), mkS_fa]) ?_
            refine r_ifne (tgt := 181) C dX6_reckons_163 (by decide) (fun c163 => ?_) (fun c163 => ?_)
            · have hres : (((1 : Int32) = 1 ∧ evN V (mK σ c) (mN σ c) (i + 1) = none) ∨ ((1 : Int32) = 0 ∧ fa = 0 ∧ (b = true → ∃ d v, (σ 20 4 (12 * c + i)) = nI d ∧ d < 16 ∧ d ≠ c ∧ V d = some v ∧ σ 20 20 d = v))) := by
                rcases stI_1 hst with ⟨-, q⟩ | ⟨q, -⟩
                · exact Or.inl ⟨rfl, evN_none q 1⟩
                · exact absurd q c163
              refine r_iconst (v := 1) C dX6_reckons_181 rfl ?_
              refine r_goto (tgt := 186) C dX6_reckons_182 (by decide) ?_
              exact j186 _ hres
            · refine r_iload C dX6_reckons_166 rfl ?_
              refine r_ifeq (tgt := 185) C dX6_reckons_168 (by decide) (fun c168 => ?_) (fun c168 => ?_)
              · have hres : (((0 : Int32) = 1 ∧ evN V (mK σ c) (mN σ c) (i + 1) = none) ∨ ((0 : Int32) = 0 ∧ fa = 0 ∧ (b = true → ∃ d v, (σ 20 4 (12 * c + i)) = nI d ∧ d < 16 ∧ d ≠ c ∧ V d = some v ∧ σ 20 20 d = v))) := Or.inr ⟨rfl, c163, fun q => by rw [b2i_0.mp c168] at q; cases q⟩
                refine r_iconst (v := 0) C dX6_reckons_185 rfl ?_
                exact j186 _ hres
              · have hbt := b2i_n.mp c168
                obtain ⟨d, hd, hdc, hpd, hov⟩ := hcell (of_decide_eq_true (hb.trans hbt))
                rw [hpd]
                refine r_aload_n C dX6_reckons_171 rfl rfl ?_
                refine r_get (f := 26) C dX6_reckons_172 ⟨by decide, by decide⟩ rfl rfl kU6 (by decide) kf_X6_73 rfl rfl ?_
                refine r_iload C dX6_reckons_175 rfl ?_
                refine r_zaldv (v := σ 20 21 d) C dX6_reckons_177 ⟨by decide, by decide⟩ rfl (vp_in_nI hd (by decide)) (by rw [nI_clamp (by omega), mkS_fd _ _ _ _ _ hdc]) ?_
                refine r_ifeq (tgt := 185) C dX6_reckons_178 (by decide) (fun c178 => ?_) (fun c178 => ?_)
                · have hres : (((0 : Int32) = 1 ∧ evN V (mK σ c) (mN σ c) (i + 1) = none) ∨ ((0 : Int32) = 0 ∧ fa = 0 ∧ (b = true → ∃ d v, (σ 20 4 (12 * c + i)) = nI d ∧ d < 16 ∧ d ≠ c ∧ V d = some v ∧ σ 20 20 d = v))) := Or.inr ⟨rfl, c163, fun _ => by
                    cases hvd : V d with
                    | none => rw [hvd] at hov; rw [show σ 20 21 d = 1 from hov] at c178; exact absurd c178 (by decide)
                    | some v => rw [hvd] at hov; exact ⟨d, v, hpd, hd, hdc, hvd, hov.2⟩⟩
                  rw [← hpd]
                  refine r_iconst (v := 0) C dX6_reckons_185 rfl ?_
                  exact j186 _ hres
                · have hres : (((1 : Int32) = 1 ∧ evN V (mK σ c) (mN σ c) (i + 1) = none) ∨ ((1 : Int32) = 0 ∧ fa = 0 ∧ (b = true → ∃ d v, (σ 20 4 (12 * c + i)) = nI d ∧ d < 16 ∧ d ≠ c ∧ V d = some v ∧ σ 20 20 d = v))) := Or.inl ⟨rfl, by
                    have hvd : V d = none := by
                      cases hvd : V d with
                      | none => rfl
                      | some v => rw [hvd] at hov; exact absurd hov.1 c178
                    show (evN V (mK σ c) (mN σ c) i).bind (evS V ((mK σ c) i) ((mN σ c) i)) = none
                    cases hes : evN V (mK σ c) (mN σ c) i with
                    | none => rfl
                    | some st =>
                      show evS V ((mK σ c) i) ((mN σ c) i) st = none
                      unfold evS
                      rw [(mK_13 hm hil).mpr (of_decide_eq_true (hb.trans hbt)), if_neg (by decide), if_pos rfl, show (mN σ c) i = nI d from hpd, nI_clamp (by omega), hvd]
                      rfl⟩
                  rw [← hpd]
                  refine r_iconst (v := 1) C dX6_reckons_181 rfl ?_
                  refine r_goto (tgt := 186) C dX6_reckons_182 (by decide) ?_
                  exact j186 _ hres
          refine r_aload_n C dX6_reckons_130 rfl rfl ?_
          refine r_get (f := 7) C dX6_reckons_131 ⟨by decide, by decide⟩ rfl rfl kU6 (by decide) kf_X6_19 rfl rfl ?_
          refine r_bipush (v := 12) C dX6_reckons_134 rfl ?_
          refine r_iload_n C dX6_reckons_136 rfl rfl ?_
          refine r_imul C dX6_reckons_137 ?_
          refine r_iload_n C dX6_reckons_138 rfl rfl ?_
          refine r_iadd C dX6_reckons_139 ?_
          rw [ix12]
          refine r_ialdv (v := σ 20 3 (12 * c + i)) C dX6_reckons_140 ⟨by decide, by decide⟩ rfl (vp_in_nI (show 12 * c + i < 192 by omega) (by decide)) (by rw [nI_clamp (by omega), mkS_ne _ _ _ _ _ (by decide) (by decide)]) ?_
          refine r_iconst (v := 1) C dX6_reckons_141 rfl ?_
          refine r_icmpne (tgt := 149) C dX6_reckons_142 (by decide) (fun c142 => ?_) (fun c142 => ?_)
          · have hb9 := decide_eq_false c142
            refine r_iconst (v := 0) C dX6_reckons_149 rfl ?_
            exact j150 _ hb9
          · have hb9 := decide_eq_true c142
            refine r_iconst (v := 1) C dX6_reckons_145 rfl ?_
            refine r_goto (tgt := 150) C dX6_reckons_146 (by decide) ?_
            exact j150 _ hb9
        · have hkp : (mK σ c) i = (σ 20 4 (12 * c + i)) := if_pos c46
          have h2le := hop (hklt.mpr c46)
          obtain ⟨e, he⟩ : ∃ e, dep (mK σ c) i = e + 2 := ⟨dep (mK σ c) i - 2, by omega⟩
          have hdn : dep (mK σ c) (i + 1) = e + 1 := by
            show (if (mK σ c) i < 12 then dep (mK σ c) i - 1 else dep (mK σ c) i + 1) = e + 1
            rw [if_pos (show (mK σ c) i < 12 from hklt.mpr c46), he]
            rfl
          have hstp : ∀ st, evN V (mK σ c) (mN σ c) i = some st → onS g st → ∃ b a r, st = b :: a :: r ∧ r.length = e ∧ g (e + 1) = b ∧ g e = a ∧ onS g r ∧ evN V (mK σ c) (mN σ c) (i + 1) = (opF (σ 20 4 (12 * c + i)) a b).map (fun x => x :: r) := by
            intro st hes hos
            have hl := hlen st hes
            rw [he] at hl
            match st, hl, hos, hes with
            | b :: a :: r, hl, hos, hes =>
              have hrl : r.length = e := by simp at hl; exact hl
              refine ⟨b, a, r, rfl, hrl, ?_, ?_, onS_tail (onS_tail hos), ?_⟩
              · have := onS_top hos
                rw [List.length_cons, hrl] at this
                exact this
              · have := onS_top (onS_tail hos)
                rw [hrl] at this
                exact this
              · show (evN V (mK σ c) (mN σ c) i).bind (evS V ((mK σ c) i) ((mN σ c) i)) = _
                rw [hes]
                show evS V ((mK σ c) i) ((mN σ c) i) (b :: a :: r) = _
                have q12 := hklt.mpr c46
                have n12 : ¬ (mK σ c) i = 12 := fun q => by
                  have q2 : (mK σ c) i < 12 := q12
                  rw [q] at q2; exact absurd q2 (by decide)
                have n13 : ¬ (mK σ c) i = 13 := fun q => by
                  have q2 : (mK σ c) i < 12 := q12
                  rw [q] at q2; exact absurd q2 (by decide)
                unfold evS
                rw [if_neg n12, if_neg n13, hkp]
            | [b], hl, _, _ => simp at hl
            | [], hl, _, _ => simp at hl
          rw [he]
          refine r_iinc (v := nI (e + 1)) C dX6_reckons_49 rfl (nI_m1 (e + 1)) (by decide) rfl ?_
          have j86 : ∀ fa', ((fa' = 1 ∧ evN V (mK σ c) (mN σ c) (i + 1) = none) ∨ (fa' = 0 ∧ (∃ b a r, evN V (mK σ c) (mN σ c) i = some (b :: a :: r) ∧ r.length = e ∧ g (e + 1) = b ∧ g e = a ∧ onS g r ∧ evN V (mK σ c) (mN σ c) (i + 1) = (opF (σ 20 4 (12 * c + i)) a b).map (fun x => x :: r) ∧ ∃ v, opF (σ 20 4 (12 * c + i)) a b = some v))) → S 0 (mkS σ c fa g) τ 86 [some (.ref (ad 19 0)), some (.int (nI c)), some (.int (nI (e + 1))), some (.int (nI i)), some (.int (σ 20 4 (12 * c + i))), none] [.int fa', .int (nI c), .ref (ad 20 21)] := by
            intro fa' hfa
            have hb01 : fa' = 0 ∨ fa' = 1 := hfa.elim (fun q => Or.inr q.1) (fun q => Or.inl q.1)
            refine r_zastv C dX6_reckons_86 ⟨by decide, by decide⟩ (fun _ => rfl) (vp_in_nI hc (by decide)) (nI_clamp (by omega)) hb01 ?_
            rw [mkS_f]
            refine r_aload_n C dX6_reckons_87 rfl rfl ?_
            refine r_get (f := 28) C dX6_reckons_88 ⟨by decide, by decide⟩ rfl rfl kU6 (by decide) kf_X6_80 rfl rfl ?_
            refine r_iload_n C dX6_reckons_91 rfl rfl ?_
            refine r_iconst (v := 1) C dX6_reckons_92 rfl ?_
            refine r_isub C dX6_reckons_93 ?_
            rw [show nI (e + 1) - 1 = nI e from nI_s1 e]
            refine r_aload_n C dX6_reckons_94 rfl rfl ?_
            refine r_get (f := 26) C dX6_reckons_95 ⟨by decide, by decide⟩ rfl rfl kU6 (by decide) kf_X6_73 rfl rfl ?_
            refine r_iload_n C dX6_reckons_98 rfl rfl ?_
            refine r_zaldv (v := fa') C dX6_reckons_99 ⟨by decide, by decide⟩ rfl (vp_in_nI hc (by decide)) (by rw [nI_clamp (by omega), mkS_fa]) ?_
            have j126 : ∀ w, (∀ g2, g2 = upd g e w → stI V (mK σ c) (mN σ c) (i + 1) fa' g2) → S 0 (mkS σ c fa' g) τ 126 [some (.ref (ad 19 0)), some (.int (nI c)), some (.int (nI (e + 1))), some (.int (nI i)), some (.int (σ 20 4 (12 * c + i))), none] [.int w, .int (nI e), .ref (ad 20 23)] := by
              intro w hw
              have hst2 := hw _ rfl
              refine r_iastv C dX6_reckons_126 ⟨by decide, by decide⟩ (fun _ => rfl) (vp_in_nI (show e < 12 by omega) (by decide)) (nI_clamp (by omega)) ?_
              rw [mkS_g]
              refine r_goto (tgt := 213) C dX6_reckons_127 (by decide) ?_
              refine r_iinc C dX6_reckons_213 rfl rfl (by decide) rfl ?_
              refine r_goto (tgt := 11) C dX6_reckons_216 (by decide) ?_
              refine r_drop C [4, 5] ?_
              exact r_swk (ih (i + 1) (by omega) (by omega) _ _ hst2) rfl rfl (by rw [hdn]; simp only [nI_p1]; rfl) rfl
            refine r_ifeq (tgt := 107) C dX6_reckons_100 (by decide) (fun c100 => ?_) (fun c100 => ?_)
            · obtain ⟨b, a, r, hes, hrl, hgb, hga, hgr, hev, v, hv⟩ := (hfa.resolve_left (fun q => by rw [q.1] at c100; exact absurd c100 (by decide))).2
              refine r_iload C dX6_reckons_107 rfl ?_
              refine r_aload_n C dX6_reckons_109 rfl rfl ?_
              refine r_get (f := 28) C dX6_reckons_110 ⟨by decide, by decide⟩ rfl rfl kU6 (by decide) kf_X6_80 rfl rfl ?_
              refine r_iload_n C dX6_reckons_113 rfl rfl ?_
              refine r_iconst (v := 1) C dX6_reckons_114 rfl ?_
              refine r_isub C dX6_reckons_115 ?_
              rw [show nI (e + 1) - 1 = nI e from nI_s1 e]
              refine r_ialdv (v := g e) C dX6_reckons_116 ⟨by decide, by decide⟩ rfl (vp_in_nI (show e < 12 by omega) (by decide)) (by rw [nI_clamp (by omega), mkS_st]) ?_
              refine r_aload_n C dX6_reckons_117 rfl rfl ?_
              refine r_get (f := 28) C dX6_reckons_118 ⟨by decide, by decide⟩ rfl rfl kU6 (by decide) kf_X6_80 rfl rfl ?_
              refine r_iload_n C dX6_reckons_121 rfl rfl ?_
              refine r_ialdv (v := g (e + 1)) C dX6_reckons_122 ⟨by decide, by decide⟩ rfl (vp_in_nI (show e + 1 < 12 by omega) (by decide)) (by rw [nI_clamp (by omega), mkS_st]) ?_
              refine r_callS C dX6_reckons_123 (m_of (mkS σ c fa' g) τ (σ 20 4 (12 * c + i)) (g e) (g (e + 1)) v (by rw [hga, hgb]; exact hv)) rfl kB_X6_of rfl kS_X6_of kl_X6_126 (by decide) (Nat.le_of_ble_eq_true rfl) (by decide) ?_
              rintro r9 σ' τ' ⟨rfl, rfl, rfl⟩
              have hw9 : ∀ g2, g2 = upd g e v → stI V (mK σ c) (mN σ c) (i + 1) fa' g2 := fun g2 hg2 => by
                rw [hg2, c100]
                rw [hv] at hev
                rw [← hrl]
                exact stI_so hev (onS_push hgr v)
              exact j126 _ hw9
            · have hw9 : ∀ g2, g2 = upd g e 0 → stI V (mK σ c) (mN σ c) (i + 1) fa' g2 := fun g2 _ => by
                rcases hfa with ⟨q1, q2⟩ | ⟨q1, -⟩
                · rw [q1]; exact stI_no q2
                · exact absurd q1 c100
              refine r_iconst (v := 0) C dX6_reckons_103 rfl ?_
              refine r_goto (tgt := 126) C dX6_reckons_104 (by decide) ?_
              exact j126 _ hw9
          refine r_aload_n C dX6_reckons_52 rfl rfl ?_
          refine r_get (f := 26) C dX6_reckons_53 ⟨by decide, by decide⟩ rfl rfl kU6 (by decide) kf_X6_73 rfl rfl ?_
          refine r_iload_n C dX6_reckons_56 rfl rfl ?_
          refine r_aload_n C dX6_reckons_57 rfl rfl ?_
          refine r_get (f := 26) C dX6_reckons_58 ⟨by decide, by decide⟩ rfl rfl kU6 (by decide) kf_X6_73 rfl rfl ?_
          refine r_iload_n C dX6_reckons_61 rfl rfl ?_
          refine r_zaldv (v := fa) C dX6_reckons_62 ⟨by decide, by decide⟩ rfl (vp_in_nI hc (by decide)) (by rw [nI_clamp (by omega), mkS_fa]) ?_
          refine r_ifne (tgt := 81) C dX6_reckons_63 (by decide) (fun c63 => ?_) (fun c63 => ?_)
          · have hres : ((1 : Int32) = 1 ∧ evN V (mK σ c) (mN σ c) (i + 1) = none) ∨ ((1 : Int32) = 0 ∧ (∃ b a r, evN V (mK σ c) (mN σ c) i = some (b :: a :: r) ∧ r.length = e ∧ g (e + 1) = b ∧ g e = a ∧ onS g r ∧ evN V (mK σ c) (mN σ c) (i + 1) = (opF (σ 20 4 (12 * c + i)) a b).map (fun x => x :: r) ∧ ∃ v, opF (σ 20 4 (12 * c + i)) a b = some v)) := by
              rcases stI_1 hst with ⟨-, q⟩ | ⟨q, -⟩
              · exact Or.inl ⟨rfl, evN_none q 1⟩
              · exact absurd q c63
            refine r_iconst (v := 1) C dX6_reckons_81 rfl ?_
            refine r_goto (tgt := 86) C dX6_reckons_82 (by decide) ?_
            exact j86 _ hres
          · obtain ⟨st, hes, hos⟩ : ∃ st, evN V (mK σ c) (mN σ c) i = some st ∧ onS g st := by
              rcases stI_1 hst with ⟨q, -⟩ | ⟨-, q⟩
              · rw [q] at c63; exact absurd c63 (by decide)
              · exact q
            obtain ⟨b, a, r, rfl, hrl, hgb, hga, hgr, hev⟩ := hstp st hes hos
            refine r_iload C dX6_reckons_66 rfl ?_
            refine r_iconst (v := 3) C dX6_reckons_68 rfl ?_
            refine r_icmpne (tgt := 85) C dX6_reckons_69 (by decide) (fun c69 => ?_) (fun c69 => ?_)
            · have hres : ((0 : Int32) = 1 ∧ evN V (mK σ c) (mN σ c) (i + 1) = none) ∨ ((0 : Int32) = 0 ∧ (∃ b a r, evN V (mK σ c) (mN σ c) i = some (b :: a :: r) ∧ r.length = e ∧ g (e + 1) = b ∧ g e = a ∧ onS g r ∧ evN V (mK σ c) (mN σ c) (i + 1) = (opF (σ 20 4 (12 * c + i)) a b).map (fun x => x :: r) ∧ ∃ v, opF (σ 20 4 (12 * c + i)) a b = some v)) := Or.inr ⟨rfl, b, a, r, hes, hrl, hgb, hga, hgr, hev, opF_ok (Or.inl c69)⟩
              refine r_iconst (v := 0) C dX6_reckons_85 rfl ?_
              exact j86 _ hres
            · refine r_aload_n C dX6_reckons_72 rfl rfl ?_
              refine r_get (f := 28) C dX6_reckons_73 ⟨by decide, by decide⟩ rfl rfl kU6 (by decide) kf_X6_80 rfl rfl ?_
              refine r_iload_n C dX6_reckons_76 rfl rfl ?_
              refine r_ialdv (v := g (e + 1)) C dX6_reckons_77 ⟨by decide, by decide⟩ rfl (vp_in_nI (show e + 1 < 12 by omega) (by decide)) (by rw [nI_clamp (by omega), mkS_st]) ?_
              refine r_ifne (tgt := 85) C dX6_reckons_78 (by decide) (fun c78 => ?_) (fun c78 => ?_)
              · have hres : ((0 : Int32) = 1 ∧ evN V (mK σ c) (mN σ c) (i + 1) = none) ∨ ((0 : Int32) = 0 ∧ (∃ b a r, evN V (mK σ c) (mN σ c) i = some (b :: a :: r) ∧ r.length = e ∧ g (e + 1) = b ∧ g e = a ∧ onS g r ∧ evN V (mK σ c) (mN σ c) (i + 1) = (opF (σ 20 4 (12 * c + i)) a b).map (fun x => x :: r) ∧ ∃ v, opF (σ 20 4 (12 * c + i)) a b = some v)) := Or.inr ⟨rfl, b, a, r, hes, hrl, hgb, hga, hgr, hev, opF_ok (Or.inr (by rw [← hgb]; exact c78))⟩
                refine r_iconst (v := 0) C dX6_reckons_85 rfl ?_
                exact j86 _ hres
              · have hres : ((1 : Int32) = 1 ∧ evN V (mK σ c) (mN σ c) (i + 1) = none) ∨ ((1 : Int32) = 0 ∧ (∃ b a r, evN V (mK σ c) (mN σ c) i = some (b :: a :: r) ∧ r.length = e ∧ g (e + 1) = b ∧ g e = a ∧ onS g r ∧ evN V (mK σ c) (mN σ c) (i + 1) = (opF (σ 20 4 (12 * c + i)) a b).map (fun x => x :: r) ∧ ∃ v, opF (σ 20 4 (12 * c + i)) a b = some v)) := Or.inl ⟨rfl, by rw [hev, opF_no c69 (by rw [← hgb]; exact c78)]; rfl⟩
                refine r_iconst (v := 1) C dX6_reckons_81 rfl ?_
                refine r_goto (tgt := 86) C dX6_reckons_82 (by decide) ?_
                exact j86 _ hres
  have h0 := loop (mL σ c + 1) 0 (by omega) (by omega) 0 (σ 20 23) (stI_so (st := []) rfl (onS_nil _))
  unfold mkS at h0
  rw [show σ 20 23 = (up3 σ 20 21 c 0) 20 23 from (up3_ne _ _ _ _ _ (by decide)).symm, upR_id] at h0
  exact h0
