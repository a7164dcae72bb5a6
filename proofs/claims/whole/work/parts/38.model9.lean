/-! ===== the law's model: a property held: printed by g38.py ===== -/
theorem maS_row (σ : gSig) (vs fs st : Nat → Int32) (j : Nat) (x : Int32) : up3 (maS σ vs fs st) 20 22 j x = maS (up3 σ 20 22 j x) vs fs st := by
  funext f r i
  unfold maS up3 upR
  by_cases h1 : f = 20
  · subst h1
    by_cases h2 : r = 23
    · subst h2; simp
    · by_cases h3 : r = 21
      · subst h3; simp
      · by_cases h4 : r = 20
        · subst h4; simp
        · simp [h2, h3, h4]
  · simp [h1]
theorem maS_maS (σ : gSig) (a b c d e f : Nat → Int32) : maS (maS σ a b c) d e f = maS σ d e f := by
  funext f' r i
  unfold maS upR
  by_cases h1 : f' = 20
  · subst h1
    by_cases h2 : r = 23
    · subst h2; simp
    · by_cases h3 : r = 21
      · subst h3; simp
      · by_cases h4 : r = 20
        · subst h4; simp
        · simp [h2, h3, h4]
  · simp [h1]
theorem mV_of {σ σ' : gSig} (h2 : σ' 20 2 = σ 20 2) (h3 : σ' 20 3 = σ 20 3) (h4 : σ' 20 4 = σ 20 4) : mV σ' = mV σ := by
  funext row
  have e1 : mIn σ' = mIn σ := by funext c; unfold mIn; rw [h2]
  have e2 : mK σ' = mK σ := by funext c k; unfold mK; rw [h3, h4]
  have e3 : mN σ' = mN σ := by funext c k; unfold mN; rw [h4]
  have e4 : mL σ' = mL σ := by funext c; unfold mL; rw [h2]
  unfold mV
  rw [e1, e2, e3, e4]
theorem moK_of {σ σ' : gSig} {o : Nat → Nat} (h2 : σ' 20 2 = σ 20 2) (h3 : σ' 20 3 = σ 20 3) (h4 : σ' 20 4 = σ 20 4) (h19 : σ' 20 19 = σ 20 19) (h : moK σ o) : moK σ' o := by
  obtain ⟨a, b, c, d, e, f⟩ := h
  have e2 : mK σ' = mK σ := by funext c k; unfold mK; rw [h3, h4]
  have e3 : mN σ' = mN σ := by funext c k; unfold mN; rw [h4]
  have e4 : mL σ' = mL σ := by funext c; unfold mL; rw [h2]
  refine ⟨by rw [h19]; exact a, by rw [mR_eq h2 h3 h4]; exact b, c, d, fun c hc => msK_eq h2 h3 h4 (e c hc), fun c hc hn => ?_⟩
  rw [h2] at hn
  unfold frM
  rw [e2, e3, e4]
  exact f c hc hn
theorem kd_3 {kd : Int32} (h0 : ¬ kd < 0) (h3 : kd ≤ 3) (a : ¬ kd = 0) (b : ¬ kd = 1) (c : ¬ kd = 2) : kd = 3 := by
  have e := (fa_le _ _).mp h3
  have e2 : ¬ kd.toInt < (0 : Int32).toInt := fun q => h0 ((fa_lt _ _).mpr q)
  have e3 := lv_neT a (a := 0) (by decide)
  have e4 := lv_neT b (a := 1) (by decide)
  have e5 := lv_neT c (a := 2) (by decide)
  have z0 : (0 : Int32).toInt = 0 := by decide
  have z3 : (3 : Int32).toInt = 3 := by decide
  exact (fa_eq _ _).mpr (by omega)
set_option maxRecDepth 100000 in
set_option maxHeartbeats 1000000 in
theorem m_holds {l : Launch} {D : va_G} {ad : Nat → Nat → Nat} {aC : Nat → ClassId} (σ : gSig) (τ : gTau) (c p : Nat) (kd n : Int32) (o : Nat → Nat) (hc : c < 16) (hp : p < 4) (hkd : σ 20 10 (4 * c + p) = kd) (hn : σ 20 11 (4 * c + p) = n) (hK : moK σ o) (hk0 : ¬ kd < 0) (hk3 : kd ≤ 3) (hnn : kd = 2 ∨ kd = 3 → isC n) : CZ l D ad aC yX6_holds cX6_holds 7 (some .boolean) 3 [.ref (ad 19 0), .int (nI c), .int (nI p)] σ τ (fun r σ' τ' => ∃ vs fs st, some (.int (b2i (prH (mV σ) (mIn σ) (σ 20 6) c kd n (σ 20 22)))) = r ∧ maS σ vs fs st = σ' ∧ τ = τ') := by
  refine CZ.of (own := RX6) (by decide +kernel) rfl (Nat.le_of_ble_eq_true rfl) (fun S C => ?_)
  refine r_aload_n C dX6_holds_0 rfl rfl ?_
  refine r_get (f := 14) C dX6_holds_1 ⟨by decide, by decide⟩ rfl rfl kU6 (by decide) kf_X6_40 rfl rfl ?_
  refine r_iconst (v := 4) C dX6_holds_4 rfl ?_
  refine r_iload_n C dX6_holds_5 rfl rfl ?_
  refine r_imul C dX6_holds_6 ?_
  refine r_iload_n C dX6_holds_7 rfl rfl ?_
  refine r_iadd C dX6_holds_8 ?_
  rw [ix4]
  refine r_ialdv (v := kd) C dX6_holds_9 ⟨by decide, by decide⟩ rfl (vp_in_nI (show 4 * c + p < 64 by omega) (by decide)) (by rw [nI_clamp (by omega)]; exact hkd) ?_
  refine r_istore_n C dX6_holds_10 rfl (by decide) rfl ?_
  refine r_aload_n C dX6_holds_11 rfl rfl ?_
  refine r_get (f := 15) C dX6_holds_12 ⟨by decide, by decide⟩ rfl rfl kU6 (by decide) kf_X6_43 rfl rfl ?_
  refine r_iconst (v := 4) C dX6_holds_15 rfl ?_
  refine r_iload_n C dX6_holds_16 rfl rfl ?_
  refine r_imul C dX6_holds_17 ?_
  refine r_iload_n C dX6_holds_18 rfl rfl ?_
  refine r_iadd C dX6_holds_19 ?_
  rw [ix4]
  refine r_ialdv (v := n) C dX6_holds_20 ⟨by decide, by decide⟩ rfl (vp_in_nI (show 4 * c + p < 64 by omega) (by decide)) (by rw [nI_clamp (by omega)]; exact hn) ?_
  refine r_istore C dX6_holds_21 (by decide) rfl ?_
  refine r_aload_n C dX6_holds_23 rfl rfl ?_
  refine r_aload_n C dX6_holds_24 rfl rfl ?_
  refine r_get (f := 27) C dX6_holds_25 ⟨by decide, by decide⟩ rfl rfl kU6 (by decide) kf_X6_77 rfl rfl ?_
  refine r_callV C dX6_holds_28 (m_reckonsAll σ τ 22 (Or.inl rfl) o hK) rfl ⟨by decide, by decide⟩ rfl rfl kB_X6_reckonsAll rfl kI_X6_reckonsAll kV_X6_reckonsAll kl_X6_133 (by decide) (Nat.le_of_ble_eq_true rfl) (by decide) ?_
  rintro r9 σ' τ' ⟨vs, fs, st, rfl, rfl, rfl, hvs⟩
  refine r_aload_n C dX6_holds_31 rfl rfl ?_
  refine r_get (f := 25) C dX6_holds_32 ⟨by decide, by decide⟩ rfl rfl kU6 (by decide) kf_X6_70 rfl rfl ?_
  refine r_iload_n C dX6_holds_35 rfl rfl ?_
  refine r_ialdv (v := vs c) C dX6_holds_36 ⟨by decide, by decide⟩ rfl (vp_in_nI hc (by decide)) (by rw [nI_clamp (by omega), maS_v]) ?_
  refine r_istore C dX6_holds_37 (by decide) rfl ?_
  refine r_aload_n C dX6_holds_39 rfl rfl ?_
  refine r_get (f := 26) C dX6_holds_40 ⟨by decide, by decide⟩ rfl rfl kU6 (by decide) kf_X6_73 rfl rfl ?_
  refine r_iload_n C dX6_holds_43 rfl rfl ?_
  refine r_zaldv (v := fs c) C dX6_holds_44 ⟨by decide, by decide⟩ rfl (vp_in_nI hc (by decide)) (by rw [nI_clamp (by omega), maS_f]) ?_
  refine r_ifne (tgt := 63) C dX6_holds_45 (by decide) (fun c45 => ?_) (fun c45 => ?_)
  · have hres : (prH (mV σ) (mIn σ) (σ 20 6) c kd n (σ 20 22)) = false := by
      unfold prH
      cases hw : mV σ (σ 20 22) c with
      | none => rfl
      | some v => have h9 := hvs c hc; rw [hw] at h9; exact absurd h9.1 c45
    refine r_iconst (v := 0) C dX6_holds_63 rfl ?_
    exact r_zret C dX6_holds_64 rfl (by decide) (by decide) ⟨vs, fs, st, by rw [hres]; rfl, rfl, rfl⟩
  · have hv : mV σ (σ 20 22) c = some (vs c) := by
      have h9 := hvs c hc
      cases hw : mV σ (σ 20 22) c with
      | none => rw [hw] at h9; rw [show fs c = 1 from h9] at c45; exact absurd c45 (by decide)
      | some v => rw [hw] at h9; rw [h9.2]
    have hz : ∀ n, prH (mV σ) (mIn σ) (σ 20 6) c kd n (σ 20 22) = (if kd = 0 then decide (n ≤ vs c) else if kd = 1 then decide (vs c ≤ n) else if kd = 2 then decide (mV σ (σ 20 22) n.toNatClampNeg = some (vs c)) else
        if mIn σ n.toNatClampNeg = false ∨ σ 20 6 n.toNatClampNeg ≤ σ 20 22 n.toNatClampNeg then true else
        match mV σ (upd (σ 20 22) n.toNatClampNeg (σ 20 22 n.toNatClampNeg + 1)) c with
        | none => false
        | some w => decide (vs c ≤ w)) := fun n => by
      unfold prH
      rw [hv]
      rfl
    have j126 : ∀ b : Bool, ((¬ kd = 3 → (prH (mV σ) (mIn σ) (σ 20 6) c kd n (σ 20 22)) = b) ∧ (kd = 3 → b = true)) → S 0 (maS σ vs fs st) τ 126 [some (.ref (ad 19 0)), some (.int (nI c)), some (.int (nI p)), some (.int kd), some (.int n), some (.int (vs c)), none] [.int (b2i b)] := by
      intro b hok
      refine r_istore C dX6_holds_126 (by decide) rfl ?_
      refine r_iload_n C dX6_holds_128 rfl rfl ?_
      refine r_iconst (v := 3) C dX6_holds_129 rfl ?_
      refine r_icmpne (tgt := 217) C dX6_holds_130 (by decide) (fun c130 => ?_) (fun c130 => ?_)
      · refine r_iload C dX6_holds_217 rfl ?_
        exact r_zret C dX6_holds_219 rfl (by decide) (by first | exact b2i_01 _ | decide) ⟨vs, fs, st, by rw [hok.1 c130], rfl, rfl⟩
      · obtain ⟨m, hm16, rfl⟩ := isC_nI (hnn (Or.inr c130))
        have hbt := hok.2 c130
        have hz3 := hz (nI m)
        rw [c130, if_neg (by decide), if_neg (by decide), if_neg (by decide), nI_clamp (by omega), ← c130] at hz3
        refine r_aload_n C dX6_holds_133 rfl rfl ?_
        refine r_get (f := 6) C dX6_holds_134 ⟨by decide, by decide⟩ rfl rfl kU6 (by decide) kf_X6_16 rfl rfl ?_
        refine r_iload C dX6_holds_137 rfl ?_
        refine r_ialdv (v := σ 20 2 m) C dX6_holds_139 ⟨by decide, by decide⟩ rfl (vp_in_nI hm16 (by decide)) (by rw [nI_clamp (by omega), maS_ne _ _ _ _ _ (by decide)]) ?_
        refine r_ifne (tgt := 217) C dX6_holds_140 (by decide) (fun c140 => ?_) (fun c140 => ?_)
        · have hres : (prH (mV σ) (mIn σ) (σ 20 6) c kd (nI m) (σ 20 22)) = true := hz3.trans (if_pos (Or.inl (decide_eq_false c140)))
          refine r_iload C dX6_holds_217 rfl ?_
          exact r_zret C dX6_holds_219 rfl (by decide) (by first | exact b2i_01 _ | decide) ⟨vs, fs, st, by rw [hbt, hres], rfl, rfl⟩
        · refine r_aload_n C dX6_holds_143 rfl rfl ?_
          refine r_get (f := 27) C dX6_holds_144 ⟨by decide, by decide⟩ rfl rfl kU6 (by decide) kf_X6_77 rfl rfl ?_
          refine r_iload C dX6_holds_147 rfl ?_
          refine r_ialdv (v := σ 20 22 m) C dX6_holds_149 ⟨by decide, by decide⟩ rfl (vp_in_nI hm16 (by decide)) (by rw [nI_clamp (by omega), maS_ne _ _ _ _ _ (by decide)]) ?_
          refine r_aload_n C dX6_holds_150 rfl rfl ?_
          refine r_get (f := 10) C dX6_holds_151 ⟨by decide, by decide⟩ rfl rfl kU6 (by decide) kf_X6_28 rfl rfl ?_
          refine r_iload C dX6_holds_154 rfl ?_
          refine r_ialdv (v := σ 20 6 m) C dX6_holds_156 ⟨by decide, by decide⟩ rfl (vp_in_nI hm16 (by decide)) (by rw [nI_clamp (by omega), maS_ne _ _ _ _ _ (by decide)]) ?_
          refine r_icmpge (tgt := 217) C dX6_holds_157 (by decide) (fun c157 => ?_) (fun c157 => ?_)
          · have n157 := Int32.not_lt.mpr c157
            have hres : (prH (mV σ) (mIn σ) (σ 20 6) c kd (nI m) (σ 20 22)) = true := hz3.trans (if_pos (Or.inr c157))
            refine r_iload C dX6_holds_217 rfl ?_
            exact r_zret C dX6_holds_219 rfl (by decide) (by first | exact b2i_01 _ | decide) ⟨vs, fs, st, by rw [hbt, hres], rfl, rfl⟩
          · have n157 := Int32.not_le.mp c157
            rw [if_neg (fun q => by
              rcases q with q | q
              · rw [show mIn σ m = true from decide_eq_true c140] at q; cases q
              · exact c157 q)] at hz3
            refine r_aload_n C dX6_holds_160 rfl rfl ?_
            refine r_get (f := 27) C dX6_holds_161 ⟨by decide, by decide⟩ rfl rfl kU6 (by decide) kf_X6_77 rfl rfl ?_
            refine r_iload C dX6_holds_164 rfl ?_
            refine r_dup2 C dX6_holds_166 rfl rfl ?_
            refine r_ialdv (v := σ 20 22 m) C dX6_holds_167 ⟨by decide, by decide⟩ rfl (vp_in_nI hm16 (by decide)) (by rw [nI_clamp (by omega), maS_ne _ _ _ _ _ (by decide)]) ?_
            refine r_iconst (v := 1) C dX6_holds_168 rfl ?_
            refine r_iadd C dX6_holds_169 ?_
            refine r_iastv C dX6_holds_170 ⟨by decide, by decide⟩ (fun _ => rfl) (vp_in_nI hm16 (by decide)) (nI_clamp (by omega)) ?_
            rw [maS_row]
            have hK1 : moK (maS (up3 σ 20 22 m (σ 20 22 m + 1)) vs fs st) o := moK_of (by rw [maS_ne _ _ _ _ _ (by decide), up3_ne _ _ _ _ _ (by simp)]) (by rw [maS_ne _ _ _ _ _ (by decide), up3_ne _ _ _ _ _ (by simp)]) (by rw [maS_ne _ _ _ _ _ (by decide), up3_ne _ _ _ _ _ (by simp)]) (by rw [maS_ne _ _ _ _ _ (by decide), up3_ne _ _ _ _ _ (by simp)]) hK
            have hV1 : mV (maS (up3 σ 20 22 m (σ 20 22 m + 1)) vs fs st) = mV σ := mV_of (by rw [maS_ne _ _ _ _ _ (by decide), up3_ne _ _ _ _ _ (by simp)]) (by rw [maS_ne _ _ _ _ _ (by decide), up3_ne _ _ _ _ _ (by simp)]) (by rw [maS_ne _ _ _ _ _ (by decide), up3_ne _ _ _ _ _ (by simp)])
            refine r_aload_n C dX6_holds_171 rfl rfl ?_
            refine r_aload_n C dX6_holds_172 rfl rfl ?_
            refine r_get (f := 27) C dX6_holds_173 ⟨by decide, by decide⟩ rfl rfl kU6 (by decide) kf_X6_77 rfl rfl ?_
            refine r_callV C dX6_holds_176 (m_reckonsAll (maS (up3 σ 20 22 m (σ 20 22 m + 1)) vs fs st) τ 22 (Or.inl rfl) o hK1) rfl ⟨by decide, by decide⟩ rfl rfl kB_X6_reckonsAll rfl kI_X6_reckonsAll kV_X6_reckonsAll kl_X6_133 (by decide) (Nat.le_of_ble_eq_true rfl) (by decide) ?_
            rintro r9 σ' τ' ⟨vs2, fs2, st2, rfl, rfl, rfl, hvs2⟩
            rw [hV1, maS_ne _ _ _ _ _ (by decide), up3_self] at hvs2
            rw [maS_maS]
            refine r_aload_n C dX6_holds_179 rfl rfl ?_
            refine r_get (f := 27) C dX6_holds_180 ⟨by decide, by decide⟩ rfl rfl kU6 (by decide) kf_X6_77 rfl rfl ?_
            refine r_iload C dX6_holds_183 rfl ?_
            refine r_dup2 C dX6_holds_185 rfl rfl ?_
            refine r_ialdv (v := σ 20 22 m + 1) C dX6_holds_186 ⟨by decide, by decide⟩ rfl (vp_in_nI hm16 (by decide)) (by rw [nI_clamp (by omega), maS_ne _ _ _ _ _ (by decide)]; simp [up3_at]) ?_
            refine r_iconst (v := 1) C dX6_holds_187 rfl ?_
            refine r_isub C dX6_holds_188 ?_
            rw [Int32.add_sub_cancel]
            refine r_iastv C dX6_holds_189 ⟨by decide, by decide⟩ (fun _ => rfl) (vp_in_nI hm16 (by decide)) (nI_clamp (by omega)) ?_
            rw [maS_row, up3_up3, show up3 σ 20 22 m (σ 20 22 m) = σ from up3_id rfl]
            refine r_aload_n C dX6_holds_190 rfl rfl ?_
            refine r_get (f := 26) C dX6_holds_191 ⟨by decide, by decide⟩ rfl rfl kU6 (by decide) kf_X6_73 rfl rfl ?_
            refine r_iload_n C dX6_holds_194 rfl rfl ?_
            refine r_zaldv (v := fs2 c) C dX6_holds_195 ⟨by decide, by decide⟩ rfl (vp_in_nI hc (by decide)) (by rw [nI_clamp (by omega), maS_f]) ?_
            refine r_ifne (tgt := 214) C dX6_holds_196 (by decide) (fun c196 => ?_) (fun c196 => ?_)
            · have hres : (prH (mV σ) (mIn σ) (σ 20 6) c kd (nI m) (σ 20 22)) = false := by
                rw [hz3]
                cases hw : mV σ (upd (σ 20 22) m (σ 20 22 m + 1)) c with
                | none => rfl
                | some v => have h9 := hvs2 c hc; rw [hw] at h9; exact absurd h9.1 c196
              refine r_iconst (v := 0) C dX6_holds_214 rfl ?_
              refine r_istore C dX6_holds_215 (by decide) rfl ?_
              refine r_iload C dX6_holds_217 rfl ?_
              exact r_zret C dX6_holds_219 rfl (by decide) (by first | exact b2i_01 _ | decide) ⟨vs2, fs2, st2, by rw [hres]; rfl, rfl, rfl⟩
            · have hv2 : mV σ (upd (σ 20 22) m (σ 20 22 m + 1)) c = some (vs2 c) := by
                have h9 := hvs2 c hc
                cases hw : mV σ (upd (σ 20 22) m (σ 20 22 m + 1)) c with
                | none => rw [hw] at h9; rw [show fs2 c = 1 from h9] at c196; exact absurd c196 (by decide)
                | some v => rw [hw] at h9; rw [h9.2]
              rw [hv2] at hz3
              refine r_aload_n C dX6_holds_199 rfl rfl ?_
              refine r_get (f := 25) C dX6_holds_200 ⟨by decide, by decide⟩ rfl rfl kU6 (by decide) kf_X6_70 rfl rfl ?_
              refine r_iload_n C dX6_holds_203 rfl rfl ?_
              refine r_ialdv (v := vs2 c) C dX6_holds_204 ⟨by decide, by decide⟩ rfl (vp_in_nI hc (by decide)) (by rw [nI_clamp (by omega), maS_v]) ?_
              refine r_iload C dX6_holds_205 rfl ?_
              refine r_icmplt (tgt := 214) C dX6_holds_207 (by decide) (fun c207 => ?_) (fun c207 => ?_)
              · have n207 := Int32.not_le.mpr c207
                have hres : (prH (mV σ) (mIn σ) (σ 20 6) c kd (nI m) (σ 20 22)) = false := hz3.trans (decide_eq_false n207)
                refine r_iconst (v := 0) C dX6_holds_214 rfl ?_
                refine r_istore C dX6_holds_215 (by decide) rfl ?_
                refine r_iload C dX6_holds_217 rfl ?_
                exact r_zret C dX6_holds_219 rfl (by decide) (by first | exact b2i_01 _ | decide) ⟨vs2, fs2, st2, by rw [hres]; rfl, rfl, rfl⟩
              · have n207 := Int32.not_lt.mp c207
                have hres : (prH (mV σ) (mIn σ) (σ 20 6) c kd (nI m) (σ 20 22)) = true := hz3.trans (decide_eq_true n207)
                refine r_iconst (v := 1) C dX6_holds_210 rfl ?_
                refine r_goto (tgt := 215) C dX6_holds_211 (by decide) ?_
                refine r_istore C dX6_holds_215 (by decide) rfl ?_
                refine r_iload C dX6_holds_217 rfl ?_
                exact r_zret C dX6_holds_219 rfl (by decide) (by first | exact b2i_01 _ | decide) ⟨vs2, fs2, st2, by rw [hres]; rfl, rfl, rfl⟩
    refine r_iload_n C dX6_holds_48 rfl rfl ?_
    refine r_iconst (v := 2) C dX6_holds_49 rfl ?_
    refine r_icmpne (tgt := 65) C dX6_holds_50 (by decide) (fun c50 => ?_) (fun c50 => ?_)
    · refine r_iload_n C dX6_holds_65 rfl rfl ?_
      refine r_ifne (tgt := 84) C dX6_holds_66 (by decide) (fun c66 => ?_) (fun c66 => ?_)
      · refine r_iload_n C dX6_holds_84 rfl rfl ?_
        refine r_iconst (v := 1) C dX6_holds_85 rfl ?_
        refine r_icmpne (tgt := 104) C dX6_holds_86 (by decide) (fun c86 => ?_) (fun c86 => ?_)
        · refine r_iload_n C dX6_holds_104 rfl rfl ?_
          refine r_iconst (v := 2) C dX6_holds_105 rfl ?_
          refine r_icmpne (tgt := 121) C dX6_holds_106 (by decide) (fun c106 => ?_) (fun c106 => ?_)
          · have hok : (¬ kd = 3 → (prH (mV σ) (mIn σ) (σ 20 6) c kd n (σ 20 22)) = true) ∧ (kd = 3 → true = true) := ⟨fun q => absurd (kd_3 hk0 hk3 c66 c86 c106) q, fun _ => rfl⟩
            refine r_iconst (v := 1) C dX6_holds_121 rfl ?_
            refine r_goto (tgt := 126) C dX6_holds_122 (by decide) ?_
            exact j126 _ hok
          · exact absurd c106 c50
        · skip
          refine r_iload C dX6_holds_89 rfl ?_
          refine r_iload C dX6_holds_91 rfl ?_
          refine r_icmpgt (tgt := 100) C dX6_holds_93 (by decide) (fun c93 => ?_) (fun c93 => ?_)
          · have n93 := Int32.not_le.mpr c93
            have hok : (¬ kd = 3 → (prH (mV σ) (mIn σ) (σ 20 6) c kd n (σ 20 22)) = false) ∧ (kd = 3 → false = true) := ⟨fun _ => by rw [hz, if_neg c66, if_pos c86]; exact decide_eq_false n93, fun q => absurd (c86.symm.trans q) (by decide)⟩
            refine r_iconst (v := 0) C dX6_holds_100 rfl ?_
            refine r_goto (tgt := 126) C dX6_holds_101 (by decide) ?_
            exact j126 _ hok
          · have n93 := Int32.not_lt.mp c93
            have hok : (¬ kd = 3 → (prH (mV σ) (mIn σ) (σ 20 6) c kd n (σ 20 22)) = true) ∧ (kd = 3 → true = true) := ⟨fun _ => by rw [hz, if_neg c66, if_pos c86]; exact decide_eq_true n93, fun _ => rfl⟩
            refine r_iconst (v := 1) C dX6_holds_96 rfl ?_
            refine r_goto (tgt := 126) C dX6_holds_97 (by decide) ?_
            exact j126 _ hok
      · skip
        refine r_iload C dX6_holds_69 rfl ?_
        refine r_iload C dX6_holds_71 rfl ?_
        refine r_icmplt (tgt := 80) C dX6_holds_73 (by decide) (fun c73 => ?_) (fun c73 => ?_)
        · have n73 := Int32.not_le.mpr c73
          have hok : (¬ kd = 3 → (prH (mV σ) (mIn σ) (σ 20 6) c kd n (σ 20 22)) = false) ∧ (kd = 3 → false = true) := ⟨fun _ => by rw [hz, if_pos c66]; exact decide_eq_false n73, fun q => absurd (c66.symm.trans q) (by decide)⟩
          refine r_iconst (v := 0) C dX6_holds_80 rfl ?_
          refine r_goto (tgt := 126) C dX6_holds_81 (by decide) ?_
          exact j126 _ hok
        · have n73 := Int32.not_lt.mp c73
          have hok : (¬ kd = 3 → (prH (mV σ) (mIn σ) (σ 20 6) c kd n (σ 20 22)) = true) ∧ (kd = 3 → true = true) := ⟨fun _ => by rw [hz, if_pos c66]; exact decide_eq_true n73, fun _ => rfl⟩
          refine r_iconst (v := 1) C dX6_holds_76 rfl ?_
          refine r_goto (tgt := 126) C dX6_holds_77 (by decide) ?_
          exact j126 _ hok
    · obtain ⟨m, hm16, rfl⟩ := isC_nI (hnn (Or.inl c50))
      refine r_aload_n C dX6_holds_53 rfl rfl ?_
      refine r_get (f := 26) C dX6_holds_54 ⟨by decide, by decide⟩ rfl rfl kU6 (by decide) kf_X6_73 rfl rfl ?_
      refine r_iload C dX6_holds_57 rfl ?_
      refine r_zaldv (v := fs m) C dX6_holds_59 ⟨by decide, by decide⟩ rfl (vp_in_nI hm16 (by decide)) (by rw [nI_clamp (by omega), maS_f]) ?_
      refine r_ifeq (tgt := 65) C dX6_holds_60 (by decide) (fun c60 => ?_) (fun c60 => ?_)
      · have hvm : mV σ (σ 20 22) m = some (vs m) := by
          have h9 := hvs m hm16
          cases hw : mV σ (σ 20 22) m with
          | none => rw [hw] at h9; rw [show fs m = 1 from h9] at c60; exact absurd c60 (by decide)
          | some v => rw [hw] at h9; rw [h9.2]
        refine r_iload_n C dX6_holds_65 rfl rfl ?_
        refine r_ifne (tgt := 84) C dX6_holds_66 (by decide) (fun c66 => ?_) (fun c66 => ?_)
        · refine r_iload_n C dX6_holds_84 rfl rfl ?_
          refine r_iconst (v := 1) C dX6_holds_85 rfl ?_
          refine r_icmpne (tgt := 104) C dX6_holds_86 (by decide) (fun c86 => ?_) (fun c86 => ?_)
          · refine r_iload_n C dX6_holds_104 rfl rfl ?_
            refine r_iconst (v := 2) C dX6_holds_105 rfl ?_
            refine r_icmpne (tgt := 121) C dX6_holds_106 (by decide) (fun c106 => ?_) (fun c106 => ?_)
            · exact absurd c50 c106
            · skip
              refine r_iload C dX6_holds_109 rfl ?_
              refine r_aload_n C dX6_holds_111 rfl rfl ?_
              refine r_get (f := 25) C dX6_holds_112 ⟨by decide, by decide⟩ rfl rfl kU6 (by decide) kf_X6_70 rfl rfl ?_
              refine r_iload C dX6_holds_115 rfl ?_
              refine r_ialdv (v := vs m) C dX6_holds_117 ⟨by decide, by decide⟩ rfl (vp_in_nI hm16 (by decide)) (by rw [nI_clamp (by omega), maS_v]) ?_
              refine r_icmpne (tgt := 125) C dX6_holds_118 (by decide) (fun c118 => ?_) (fun c118 => ?_)
              · have hok : (¬ kd = 3 → (prH (mV σ) (mIn σ) (σ 20 6) c kd (nI m) (σ 20 22)) = false) ∧ (kd = 3 → false = true) := ⟨fun _ => by
                  rw [hz, if_neg c66, if_neg c86, if_pos c106, nI_clamp (by omega), hvm]
                  exact decide_eq_false (fun q => c118 (Option.some.inj q).symm), fun q => absurd (c106.symm.trans q) (by decide)⟩
                refine r_iconst (v := 0) C dX6_holds_125 rfl ?_
                exact j126 _ hok
              · have hok : (¬ kd = 3 → (prH (mV σ) (mIn σ) (σ 20 6) c kd (nI m) (σ 20 22)) = true) ∧ (kd = 3 → true = true) := ⟨fun _ => by
                  rw [hz, if_neg c66, if_neg c86, if_pos c106, nI_clamp (by omega), hvm]
                  exact decide_eq_true (by rw [c118]), fun _ => rfl⟩
                refine r_iconst (v := 1) C dX6_holds_121 rfl ?_
                refine r_goto (tgt := 126) C dX6_holds_122 (by decide) ?_
                exact j126 _ hok
          · exact absurd (c86.symm.trans c50) (by decide)
        · exact absurd (c66.symm.trans c50) (by decide)
      · have hres : (prH (mV σ) (mIn σ) (σ 20 6) c kd (nI m) (σ 20 22)) = false := by
          rw [hz, if_neg (by rw [c50]; decide), if_neg (by rw [c50]; decide), if_pos c50, nI_clamp (by omega)]
          refine decide_eq_false (fun q => ?_)
          have h9 := hvs m hm16
          rw [q] at h9
          exact c60 h9.1
        refine r_iconst (v := 0) C dX6_holds_63 rfl ?_
        exact r_zret C dX6_holds_64 rfl (by decide) (by decide) ⟨vs, fs, st, by rw [hres]; rfl, rfl, rfl⟩
